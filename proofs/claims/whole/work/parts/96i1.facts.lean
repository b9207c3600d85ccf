abbrev m_Mod_take : am_M := (⟨"StowTongueModel", "take", "(Ljava/lang/String;)Z"⟩, prog_13_method_8_code, 2, (some FieldType.boolean))
theorem d_Mod_take_0 : decode prog_13_method_8_code 0 = .ok (.aload_n 0, 1) := by decide +kernel
theorem d_Mod_take_1 : decode prog_13_method_8_code 1 = .ok (.aload_n 1, 1) := by decide +kernel
theorem d_Mod_take_2 : decode prog_13_method_8_code 2 = .ok (.invokevirtual 80, 3) := by decide +kernel
theorem w_1831 : (Cond.methodLink "StowTongueModel" 80 ⟨"StowTongueModel", "is", "(Ljava/lang/String;)Z"⟩ : Cond) ∈ am_tbl := am_w 1831 (by decide +kernel) (by decide +kernel)
set_option maxRecDepth 100000 in
theorem w_1834 : (Cond.code ⟨"StowTongueModel", "is", "(Ljava/lang/String;)Z"⟩ prog_13_method_6_code 3 (some FieldType.boolean) : Cond) ∈ am_tbl := am_w 1834 rfl rfl
theorem l_Mod_80 : am_L "StowTongueModel" 80 1 m_Mod_is := ⟨Or.inl w_1831, w_160, w_1834, ⟨by decide, by decide⟩, by decide +kernel, by decide⟩
theorem w_1833 : (Cond.instanceMethod ⟨"StowTongueModel", "is", "(Ljava/lang/String;)Z"⟩ : Cond) ∈ am_tbl := am_w 1833 (by decide +kernel) (by decide +kernel)
theorem w_86 : (Cond.selects "StowTongueModel" ⟨"StowTongueModel", "is", "(Ljava/lang/String;)Z"⟩ ⟨"StowTongueModel", "is", "(Ljava/lang/String;)Z"⟩ : Cond) ∈ am_tbl := am_w 86 (by decide +kernel) (by decide +kernel)
theorem d_Mod_take_5 : decode prog_13_method_8_code 5 = .ok (.ifCond .ne 8, 3) := by decide +kernel
theorem d_Mod_take_8 : decode prog_13_method_8_code 8 = .ok (.aload_n 0, 1) := by decide +kernel
theorem d_Mod_take_9 : decode prog_13_method_8_code 9 = .ok (.invokevirtual 84, 3) := by decide +kernel
theorem w_1839 : (Cond.methodLink "StowTongueModel" 84 ⟨"StowTongueModel", "bad", "()Z"⟩ : Cond) ∈ am_tbl := am_w 1839 (by decide +kernel) (by decide +kernel)
set_option maxRecDepth 100000 in
theorem w_1842 : (Cond.code ⟨"StowTongueModel", "bad", "()Z"⟩ prog_13_method_7_code 1 (some FieldType.boolean) : Cond) ∈ am_tbl := am_w 1842 rfl rfl
theorem l_Mod_84 : am_L "StowTongueModel" 84 0 m_Mod_bad := ⟨Or.inl w_1839, w_160, w_1842, ⟨by decide, by decide⟩, by decide +kernel, by decide⟩
theorem w_1841 : (Cond.instanceMethod ⟨"StowTongueModel", "bad", "()Z"⟩ : Cond) ∈ am_tbl := am_w 1841 (by decide +kernel) (by decide +kernel)
theorem w_88 : (Cond.selects "StowTongueModel" ⟨"StowTongueModel", "bad", "()Z"⟩ ⟨"StowTongueModel", "bad", "()Z"⟩ : Cond) ∈ am_tbl := am_w 88 (by decide +kernel) (by decide +kernel)
theorem d_Mod_take_12 : decode prog_13_method_8_code 12 = .ok (.ireturn, 1) := by decide +kernel
theorem d_Mod_take_13 : decode prog_13_method_8_code 13 = .ok (.aload_n 0, 1) := by decide +kernel
theorem d_Mod_take_14 : decode prog_13_method_8_code 14 = .ok (.invokevirtual 87, 3) := by decide +kernel
theorem w_1806 : (Cond.methodLink "StowTongueModel" 87 ⟨"StowTongueModel", "step", "()V"⟩ : Cond) ∈ am_tbl := am_w 1806 (by decide +kernel) (by decide +kernel)
set_option maxRecDepth 100000 in
theorem w_1809 : (Cond.code ⟨"StowTongueModel", "step", "()V"⟩ prog_13_method_5_code 5 none : Cond) ∈ am_tbl := am_w 1809 rfl rfl
theorem l_Mod_87 : am_L "StowTongueModel" 87 0 m_Mod_step := ⟨Or.inl w_1806, w_160, w_1809, ⟨by decide, by decide⟩, by decide +kernel, by decide⟩
theorem w_1808 : (Cond.instanceMethod ⟨"StowTongueModel", "step", "()V"⟩ : Cond) ∈ am_tbl := am_w 1808 (by decide +kernel) (by decide +kernel)
theorem w_84 : (Cond.selects "StowTongueModel" ⟨"StowTongueModel", "step", "()V"⟩ ⟨"StowTongueModel", "step", "()V"⟩ : Cond) ∈ am_tbl := am_w 84 (by decide +kernel) (by decide +kernel)
theorem d_Mod_take_17 : decode prog_13_method_8_code 17 = .ok (.iconst 1, 1) := by decide +kernel
theorem d_Mod_take_18 : decode prog_13_method_8_code 18 = .ok (.ireturn, 1) := by decide +kernel
abbrev m_Mod_value_IIJJ : am_M := (⟨"StowTongueModel", "value", "(IIJJ)V"⟩, prog_13_method_12_code, 7, none)
theorem d_Mod_value_IIJJ_0 : decode prog_13_method_12_code 0 = .ok (.aload_n 0, 1) := by decide +kernel
theorem d_Mod_value_IIJJ_1 : decode prog_13_method_12_code 1 = .ok (.getfield 91, 3) := by decide +kernel
theorem d_Mod_value_IIJJ_4 : decode prog_13_method_12_code 4 = .ok (.getfield 107, 3) := by decide +kernel
theorem d_Mod_value_IIJJ_7 : decode prog_13_method_12_code 7 = .ok (.aload_n 0, 1) := by decide +kernel
theorem d_Mod_value_IIJJ_8 : decode prog_13_method_12_code 8 = .ok (.getfield 91, 3) := by decide +kernel
theorem d_Mod_value_IIJJ_11 : decode prog_13_method_12_code 11 = .ok (.getfield 111, 3) := by decide +kernel
theorem d_Mod_value_IIJJ_14 : decode prog_13_method_12_code 14 = .ok (.iload_n 1, 1) := by decide +kernel
theorem d_Mod_value_IIJJ_15 : decode prog_13_method_12_code 15 = .ok (.iload_n 2, 1) := by decide +kernel
theorem d_Mod_value_IIJJ_16 : decode prog_13_method_12_code 16 = .ok (.lload_n 3, 1) := by decide +kernel
theorem d_Mod_value_IIJJ_17 : decode prog_13_method_12_code 17 = .ok (.lload 5, 2) := by decide +kernel
theorem d_Mod_value_IIJJ_19 : decode prog_13_method_12_code 19 = .ok (.invokevirtual 114, 3) := by decide +kernel
theorem d_Mod_value_IIJJ_22 : decode prog_13_method_12_code 22 = .ok (.aload_n 0, 1) := by decide +kernel
theorem d_Mod_value_IIJJ_23 : decode prog_13_method_12_code 23 = .ok (.iconst 0, 1) := by decide +kernel
theorem d_Mod_value_IIJJ_24 : decode prog_13_method_12_code 24 = .ok (.aload_n 0, 1) := by decide +kernel
theorem d_Mod_value_IIJJ_25 : decode prog_13_method_12_code 25 = .ok (.getfield 91, 3) := by decide +kernel
theorem d_Mod_value_IIJJ_28 : decode prog_13_method_12_code 28 = .ok (.getfield 111, 3) := by decide +kernel
theorem d_Mod_value_IIJJ_31 : decode prog_13_method_12_code 31 = .ok (.invokevirtual 120, 3) := by decide +kernel
theorem w_1917 : (Cond.methodLink "StowTongueModel" 120 ⟨"StowTongueModel", "put", "(II)V"⟩ : Cond) ∈ am_tbl := am_w 1917 (by decide +kernel) (by decide +kernel)
set_option maxRecDepth 100000 in
theorem w_1920 : (Cond.code ⟨"StowTongueModel", "put", "(II)V"⟩ prog_13_method_11_code 3 none : Cond) ∈ am_tbl := am_w 1920 rfl rfl
theorem l_Mod_120 : am_L "StowTongueModel" 120 2 m_Mod_put_II := ⟨Or.inl w_1917, w_160, w_1920, ⟨by decide, by decide⟩, by decide +kernel, by decide⟩
theorem w_1919 : (Cond.instanceMethod ⟨"StowTongueModel", "put", "(II)V"⟩ : Cond) ∈ am_tbl := am_w 1919 (by decide +kernel) (by decide +kernel)
theorem w_104 : (Cond.selects "StowTongueModel" ⟨"StowTongueModel", "put", "(II)V"⟩ ⟨"StowTongueModel", "put", "(II)V"⟩ : Cond) ∈ am_tbl := am_w 104 (by decide +kernel) (by decide +kernel)
theorem d_Mod_value_IIJJ_34 : decode prog_13_method_12_code 34 = .ok (.aload_n 0, 1) := by decide +kernel
theorem d_Mod_value_IIJJ_35 : decode prog_13_method_12_code 35 = .ok (.getfield 91, 3) := by decide +kernel
theorem d_Mod_value_IIJJ_38 : decode prog_13_method_12_code 38 = .ok (.dup, 1) := by decide +kernel
theorem d_Mod_value_IIJJ_39 : decode prog_13_method_12_code 39 = .ok (.getfield 111, 3) := by decide +kernel
theorem d_Mod_value_IIJJ_42 : decode prog_13_method_12_code 42 = .ok (.iconst 1, 1) := by decide +kernel
theorem d_Mod_value_IIJJ_43 : decode prog_13_method_12_code 43 = .ok (.iadd, 1) := by decide +kernel
theorem d_Mod_value_IIJJ_44 : decode prog_13_method_12_code 44 = .ok (.putfield 111, 3) := by decide +kernel
theorem d_Mod_value_IIJJ_47 : decode prog_13_method_12_code 47 = .ok (.return_, 1) := by decide +kernel
theorem d_State_copy_159 : decode prog_15_method_2_code 159 = .ok (.aload_n 0, 1) := by decide +kernel
theorem d_State_copy_160 : decode prog_15_method_2_code 160 = .ok (.getfield 37, 3) := by decide +kernel
theorem d_State_copy_163 : decode prog_15_method_2_code 163 = .ok (.iload_n 2, 1) := by decide +kernel
theorem d_State_copy_164 : decode prog_15_method_2_code 164 = .ok (.aload_n 1, 1) := by decide +kernel
theorem d_State_copy_165 : decode prog_15_method_2_code 165 = .ok (.getfield 37, 3) := by decide +kernel
theorem d_State_copy_168 : decode prog_15_method_2_code 168 = .ok (.iload_n 2, 1) := by decide +kernel
theorem d_State_copy_169 : decode prog_15_method_2_code 169 = .ok (.invokevirtual 64, 3) := by decide +kernel
theorem w_1991 : (Cond.methodLink "StowTongueModel$State" 64 ⟨"StowTongueModel$Values", "copy", "(ILStowTongueModel$Values;I)V"⟩ : Cond) ∈ am_tbl := am_w 1991 (by decide +kernel) (by decide +kernel)
theorem l_State_64 : am_L "StowTongueModel$State" 64 3 m_Vals_copy := ⟨Or.inl w_1991, w_162, w_1994, ⟨by decide, by decide⟩, by decide +kernel, by decide⟩
theorem d_State_copy_172 : decode prog_15_method_2_code 172 = .ok (.iinc 2 1, 3) := by decide +kernel
theorem d_State_copy_175 : decode prog_15_method_2_code 175 = .ok (.goto (-24), 3) := by decide +kernel
abbrev m_Mod_fresh : am_M := (⟨"StowTongueModel", "fresh", "()LStowTongueModel$Code;"⟩, prog_13_method_39_code, 5, (some (FieldType.object "StowTongueModel$Code")))
theorem d_Mod_fresh_0 : decode prog_13_method_39_code 0 = .ok (.aload_n 0, 1) := by decide +kernel
theorem d_Mod_fresh_1 : decode prog_13_method_39_code 1 = .ok (.getfield 363, 3) := by decide +kernel
theorem d_Mod_fresh_4 : decode prog_13_method_39_code 4 = .ok (.astore_n 1, 1) := by decide +kernel
theorem d_Mod_fresh_5 : decode prog_13_method_39_code 5 = .ok (.aload_n 1, 1) := by decide +kernel
theorem d_Mod_fresh_6 : decode prog_13_method_39_code 6 = .ok (.arraylength, 1) := by decide +kernel
theorem d_Mod_fresh_7 : decode prog_13_method_39_code 7 = .ok (.istore_n 2, 1) := by decide +kernel
theorem d_Mod_fresh_8 : decode prog_13_method_39_code 8 = .ok (.iconst 0, 1) := by decide +kernel
theorem d_Mod_fresh_9 : decode prog_13_method_39_code 9 = .ok (.istore_n 3, 1) := by decide +kernel
theorem d_Mod_fresh_10 : decode prog_13_method_39_code 10 = .ok (.iload_n 3, 1) := by decide +kernel
theorem d_Mod_fresh_11 : decode prog_13_method_39_code 11 = .ok (.iload_n 2, 1) := by decide +kernel
theorem d_Mod_fresh_12 : decode prog_13_method_39_code 12 = .ok (.if_icmp .ge 20, 3) := by decide +kernel
theorem d_Mod_fresh_32 : decode prog_13_method_39_code 32 = .ok (.aload_n 0, 1) := by decide +kernel
theorem d_Mod_fresh_33 : decode prog_13_method_39_code 33 = .ok (.aload_n 0, 1) := by decide +kernel
theorem d_Mod_fresh_34 : decode prog_13_method_39_code 34 = .ok (.getfield 349, 3) := by decide +kernel
theorem d_Mod_fresh_37 : decode prog_13_method_39_code 37 = .ok (.invokevirtual 405, 3) := by decide +kernel
theorem w_2008 : (Cond.methodLink "StowTongueModel" 405 ⟨"StowTongueModel", "mark", "(LStowTongueModel$State;)V"⟩ : Cond) ∈ am_tbl := am_w 2008 (by decide +kernel) (by decide +kernel)
set_option maxRecDepth 100000 in
theorem w_2011 : (Cond.code ⟨"StowTongueModel", "mark", "(LStowTongueModel$State;)V"⟩ prog_13_method_38_code 3 none : Cond) ∈ am_tbl := am_w 2011 rfl rfl
theorem l_Mod_405 : am_L "StowTongueModel" 405 1 m_Mod_mark := ⟨Or.inl w_2008, w_160, w_2011, ⟨by decide, by decide⟩, by decide +kernel, by decide⟩
theorem w_2010 : (Cond.instanceMethod ⟨"StowTongueModel", "mark", "(LStowTongueModel$State;)V"⟩ : Cond) ∈ am_tbl := am_w 2010 (by decide +kernel) (by decide +kernel)
theorem w_116 : (Cond.selects "StowTongueModel" ⟨"StowTongueModel", "mark", "(LStowTongueModel$State;)V"⟩ ⟨"StowTongueModel", "mark", "(LStowTongueModel$State;)V"⟩ : Cond) ∈ am_tbl := am_w 116 (by decide +kernel) (by decide +kernel)
theorem d_Mod_fresh_40 : decode prog_13_method_39_code 40 = .ok (.aload_n 0, 1) := by decide +kernel
theorem d_Mod_fresh_41 : decode prog_13_method_39_code 41 = .ok (.aload_n 0, 1) := by decide +kernel
theorem d_Mod_fresh_42 : decode prog_13_method_39_code 42 = .ok (.getfield 353, 3) := by decide +kernel
theorem d_Mod_fresh_45 : decode prog_13_method_39_code 45 = .ok (.invokevirtual 405, 3) := by decide +kernel
theorem d_Mod_fresh_48 : decode prog_13_method_39_code 48 = .ok (.aload_n 0, 1) := by decide +kernel
theorem d_Mod_fresh_49 : decode prog_13_method_39_code 49 = .ok (.aload_n 0, 1) := by decide +kernel
theorem d_Mod_fresh_50 : decode prog_13_method_39_code 50 = .ok (.getfield 356, 3) := by decide +kernel
theorem d_Mod_fresh_53 : decode prog_13_method_39_code 53 = .ok (.invokevirtual 405, 3) := by decide +kernel
theorem d_Mod_fresh_56 : decode prog_13_method_39_code 56 = .ok (.iconst 0, 1) := by decide +kernel
theorem d_Mod_fresh_57 : decode prog_13_method_39_code 57 = .ok (.istore_n 1, 1) := by decide +kernel
theorem d_Mod_fresh_58 : decode prog_13_method_39_code 58 = .ok (.iload_n 1, 1) := by decide +kernel
theorem d_Mod_fresh_59 : decode prog_13_method_39_code 59 = .ok (.aload_n 0, 1) := by decide +kernel
theorem d_Mod_fresh_60 : decode prog_13_method_39_code 60 = .ok (.getfield 409, 3) := by decide +kernel
theorem d_Mod_fresh_63 : decode prog_13_method_39_code 63 = .ok (.if_icmp .ge 19, 3) := by decide +kernel
theorem d_Mod_fresh_82 : decode prog_13_method_39_code 82 = .ok (.iconst 0, 1) := by decide +kernel
theorem d_Mod_fresh_83 : decode prog_13_method_39_code 83 = .ok (.istore_n 1, 1) := by decide +kernel
theorem d_Mod_fresh_84 : decode prog_13_method_39_code 84 = .ok (.aload_n 0, 1) := by decide +kernel
theorem d_Mod_fresh_85 : decode prog_13_method_39_code 85 = .ok (.getfield 363, 3) := by decide +kernel
theorem d_Mod_fresh_88 : decode prog_13_method_39_code 88 = .ok (.iload_n 1, 1) := by decide +kernel
theorem d_Mod_fresh_89 : decode prog_13_method_39_code 89 = .ok (.aaload, 1) := by decide +kernel
theorem d_Mod_fresh_90 : decode prog_13_method_39_code 90 = .ok (.getfield 402, 3) := by decide +kernel
theorem d_Mod_fresh_93 : decode prog_13_method_39_code 93 = .ok (.ifCond .eq 9, 3) := by decide +kernel
theorem d_Mod_fresh_102 : decode prog_13_method_39_code 102 = .ok (.aload_n 0, 1) := by decide +kernel
theorem d_Mod_fresh_103 : decode prog_13_method_39_code 103 = .ok (.getfield 363, 3) := by decide +kernel
theorem d_Mod_fresh_106 : decode prog_13_method_39_code 106 = .ok (.iload_n 1, 1) := by decide +kernel
theorem d_Mod_fresh_107 : decode prog_13_method_39_code 107 = .ok (.aaload, 1) := by decide +kernel
theorem d_Mod_fresh_108 : decode prog_13_method_39_code 108 = .ok (.areturn, 1) := by decide +kernel
theorem d_Mod_fresh_96 : decode prog_13_method_39_code 96 = .ok (.iinc 1 1, 3) := by decide +kernel
theorem d_Mod_fresh_99 : decode prog_13_method_39_code 99 = .ok (.goto (-15), 3) := by decide +kernel
theorem d_Mod_fresh_66 : decode prog_13_method_39_code 66 = .ok (.aload_n 0, 1) := by decide +kernel
theorem d_Mod_fresh_67 : decode prog_13_method_39_code 67 = .ok (.aload_n 0, 1) := by decide +kernel
theorem d_Mod_fresh_68 : decode prog_13_method_39_code 68 = .ok (.getfield 359, 3) := by decide +kernel
theorem d_Mod_fresh_71 : decode prog_13_method_39_code 71 = .ok (.iload_n 1, 1) := by decide +kernel
theorem d_Mod_fresh_72 : decode prog_13_method_39_code 72 = .ok (.aaload, 1) := by decide +kernel
theorem d_Mod_fresh_73 : decode prog_13_method_39_code 73 = .ok (.invokevirtual 405, 3) := by decide +kernel
theorem d_Mod_fresh_76 : decode prog_13_method_39_code 76 = .ok (.iinc 1 1, 3) := by decide +kernel
theorem d_Mod_fresh_79 : decode prog_13_method_39_code 79 = .ok (.goto (-21), 3) := by decide +kernel
theorem d_Mod_fresh_15 : decode prog_13_method_39_code 15 = .ok (.aload_n 1, 1) := by decide +kernel
theorem d_Mod_fresh_16 : decode prog_13_method_39_code 16 = .ok (.iload_n 3, 1) := by decide +kernel
theorem d_Mod_fresh_17 : decode prog_13_method_39_code 17 = .ok (.aaload, 1) := by decide +kernel
theorem d_Mod_fresh_18 : decode prog_13_method_39_code 18 = .ok (.astore 4, 2) := by decide +kernel
theorem d_Mod_fresh_20 : decode prog_13_method_39_code 20 = .ok (.aload 4, 2) := by decide +kernel
theorem d_Mod_fresh_22 : decode prog_13_method_39_code 22 = .ok (.iconst 0, 1) := by decide +kernel
theorem d_Mod_fresh_23 : decode prog_13_method_39_code 23 = .ok (.putfield 402, 3) := by decide +kernel
theorem d_Mod_fresh_26 : decode prog_13_method_39_code 26 = .ok (.iinc 3 1, 3) := by decide +kernel
theorem d_Mod_fresh_29 : decode prog_13_method_39_code 29 = .ok (.goto (-19), 3) := by decide +kernel
abbrev m_Mod_print : am_M := (⟨"StowTongueModel", "print", "()I"⟩, prog_13_method_65_code, 8, (some FieldType.int))
theorem d_Mod_print_0 : decode prog_13_method_65_code 0 = .ok (.aload_n 0, 1) := by decide +kernel
theorem d_Mod_print_1 : decode prog_13_method_65_code 1 = .ok (.dup, 1) := by decide +kernel
theorem d_Mod_print_2 : decode prog_13_method_65_code 2 = .ok (.getfield 486, 3) := by decide +kernel
theorem d_Mod_print_5 : decode prog_13_method_65_code 5 = .ok (.iconst 1, 1) := by decide +kernel
theorem d_Mod_print_6 : decode prog_13_method_65_code 6 = .ok (.isub, 1) := by decide +kernel
theorem d_Mod_print_7 : decode prog_13_method_65_code 7 = .ok (.putfield 486, 3) := by decide +kernel
theorem d_Mod_print_10 : decode prog_13_method_65_code 10 = .ok (.aload_n 0, 1) := by decide +kernel
theorem d_Mod_print_11 : decode prog_13_method_65_code 11 = .ok (.getfield 368, 3) := by decide +kernel
theorem d_Mod_print_14 : decode prog_13_method_65_code 14 = .ok (.getfield 515, 3) := by decide +kernel
theorem d_Mod_print_17 : decode prog_13_method_65_code 17 = .ok (.aload_n 0, 1) := by decide +kernel
theorem d_Mod_print_18 : decode prog_13_method_65_code 18 = .ok (.getfield 486, 3) := by decide +kernel
theorem d_Mod_print_21 : decode prog_13_method_65_code 21 = .ok (.iaload, 1) := by decide +kernel
theorem d_Mod_print_22 : decode prog_13_method_65_code 22 = .ok (.istore_n 1, 1) := by decide +kernel
theorem d_Mod_print_23 : decode prog_13_method_65_code 23 = .ok (.iload_n 1, 1) := by decide +kernel
theorem d_Mod_print_24 : decode prog_13_method_65_code 24 = .ok (.iconst 1, 1) := by decide +kernel
theorem d_Mod_print_25 : decode prog_13_method_65_code 25 = .ok (.if_icmp .ne 111, 3) := by decide +kernel
theorem d_Mod_print_28 : decode prog_13_method_65_code 28 = .ok (.aload_n 0, 1) := by decide +kernel
theorem d_Mod_print_29 : decode prog_13_method_65_code 29 = .ok (.getfield 368, 3) := by decide +kernel
theorem d_Mod_print_32 : decode prog_13_method_65_code 32 = .ok (.getfield 508, 3) := by decide +kernel
theorem d_Mod_print_35 : decode prog_13_method_65_code 35 = .ok (.aload_n 0, 1) := by decide +kernel
theorem d_Mod_print_36 : decode prog_13_method_65_code 36 = .ok (.getfield 486, 3) := by decide +kernel
theorem d_Mod_print_39 : decode prog_13_method_65_code 39 = .ok (.laload, 1) := by decide +kernel
theorem d_Mod_print_40 : decode prog_13_method_65_code 40 = .ok (.invokestatic 595, 3) := by decide +kernel
theorem w_2066 : (Cond.methodLink "StowTongueModel" 595 ⟨"java/lang/Math", "abs", "(J)J"⟩ : Cond) ∈ am_tbl := am_w 2066 (by decide +kernel) (by decide +kernel)
theorem d_Mod_print_43 : decode prog_13_method_65_code 43 = .ok (.lstore_n 2, 1) := by decide +kernel
theorem d_Mod_print_44 : decode prog_13_method_65_code 44 = .ok (.lconst 1, 1) := by decide +kernel
theorem d_Mod_print_45 : decode prog_13_method_65_code 45 = .ok (.lstore 4, 2) := by decide +kernel
theorem d_Mod_print_47 : decode prog_13_method_65_code 47 = .ok (.aload_n 0, 1) := by decide +kernel
theorem d_Mod_print_48 : decode prog_13_method_65_code 48 = .ok (.getfield 368, 3) := by decide +kernel
theorem d_Mod_print_51 : decode prog_13_method_65_code 51 = .ok (.getfield 508, 3) := by decide +kernel
theorem d_Mod_print_54 : decode prog_13_method_65_code 54 = .ok (.aload_n 0, 1) := by decide +kernel
theorem d_Mod_print_55 : decode prog_13_method_65_code 55 = .ok (.getfield 486, 3) := by decide +kernel
theorem d_Mod_print_58 : decode prog_13_method_65_code 58 = .ok (.laload, 1) := by decide +kernel
theorem d_Mod_print_59 : decode prog_13_method_65_code 59 = .ok (.lconst 0, 1) := by decide +kernel
theorem d_Mod_print_60 : decode prog_13_method_65_code 60 = .ok (.lcmp, 1) := by decide +kernel
theorem d_Mod_print_61 : decode prog_13_method_65_code 61 = .ok (.ifCond .ge 10, 3) := by decide +kernel
theorem d_Mod_print_71 : decode prog_13_method_65_code 71 = .ok (.lload_n 2, 1) := by decide +kernel
theorem d_Mod_print_72 : decode prog_13_method_65_code 72 = .ok (.lload 4, 2) := by decide +kernel
theorem d_Mod_print_74 : decode prog_13_method_65_code 74 = .ok (.ldiv, 1) := by decide +kernel
theorem d_Mod_print_75 : decode prog_13_method_65_code 75 = .ok (.ldc2_w 602, 3) := by decide +kernel
theorem w_2071 : (Cond.constantLong "StowTongueModel" 602 9 : Cond) ∈ am_tbl := am_w 2071 (by decide +kernel) (by decide +kernel)
theorem d_Mod_print_78 : decode prog_13_method_65_code 78 = .ok (.lcmp, 1) := by decide +kernel
theorem d_Mod_print_79 : decode prog_13_method_65_code 79 = .ok (.ifCond .le 14, 3) := by decide +kernel
theorem d_Mod_print_93 : decode prog_13_method_65_code 93 = .ok (.lload 4, 2) := by decide +kernel
theorem d_Mod_print_95 : decode prog_13_method_65_code 95 = .ok (.lstore 6, 2) := by decide +kernel
theorem d_Mod_print_97 : decode prog_13_method_65_code 97 = .ok (.lload 6, 2) := by decide +kernel
theorem d_Mod_print_99 : decode prog_13_method_65_code 99 = .ok (.lconst 0, 1) := by decide +kernel
theorem d_Mod_print_100 : decode prog_13_method_65_code 100 = .ok (.lcmp, 1) := by decide +kernel
theorem d_Mod_print_101 : decode prog_13_method_65_code 101 = .ok (.ifCond .le 32, 3) := by decide +kernel
theorem d_Mod_print_133 : decode prog_13_method_65_code 133 = .ok (.goto 78, 3) := by decide +kernel
theorem d_Mod_print_211 : decode prog_13_method_65_code 211 = .ok (.aload_n 0, 1) := by decide +kernel
theorem d_Mod_print_212 : decode prog_13_method_65_code 212 = .ok (.bipush 10, 2) := by decide +kernel
theorem d_Mod_print_214 : decode prog_13_method_65_code 214 = .ok (.invokevirtual 599, 3) := by decide +kernel
theorem d_Mod_print_217 : decode prog_13_method_65_code 217 = .ok (.ifCond .eq 7, 3) := by decide +kernel
theorem d_Mod_print_224 : decode prog_13_method_65_code 224 = .ok (.bipush 9, 2) := by decide +kernel
theorem d_Mod_print_226 : decode prog_13_method_65_code 226 = .ok (.ireturn, 1) := by decide +kernel
theorem d_Mod_print_220 : decode prog_13_method_65_code 220 = .ok (.iconst (-1), 1) := by decide +kernel
theorem d_Mod_print_221 : decode prog_13_method_65_code 221 = .ok (.goto 5, 3) := by decide +kernel
theorem d_Mod_print_104 : decode prog_13_method_65_code 104 = .ok (.aload_n 0, 1) := by decide +kernel
theorem d_Mod_print_105 : decode prog_13_method_65_code 105 = .ok (.ldc2_w 54, 3) := by decide +kernel
theorem d_Mod_print_108 : decode prog_13_method_65_code 108 = .ok (.lload_n 2, 1) := by decide +kernel
theorem d_Mod_print_109 : decode prog_13_method_65_code 109 = .ok (.lload 6, 2) := by decide +kernel
theorem d_Mod_print_111 : decode prog_13_method_65_code 111 = .ok (.ldiv, 1) := by decide +kernel
theorem d_Mod_print_112 : decode prog_13_method_65_code 112 = .ok (.ldc2_w 52, 3) := by decide +kernel
theorem d_Mod_print_115 : decode prog_13_method_65_code 115 = .ok (.lrem, 1) := by decide +kernel
theorem d_Mod_print_116 : decode prog_13_method_65_code 116 = .ok (.ladd, 1) := by decide +kernel
theorem d_Mod_print_117 : decode prog_13_method_65_code 117 = .ok (.l2i, 1) := by decide +kernel
theorem d_Mod_print_118 : decode prog_13_method_65_code 118 = .ok (.invokevirtual 599, 3) := by decide +kernel
theorem d_Mod_print_121 : decode prog_13_method_65_code 121 = .ok (.pop, 1) := by decide +kernel
theorem d_Mod_print_122 : decode prog_13_method_65_code 122 = .ok (.lload 6, 2) := by decide +kernel
theorem d_Mod_print_124 : decode prog_13_method_65_code 124 = .ok (.ldc2_w 52, 3) := by decide +kernel
theorem d_Mod_print_127 : decode prog_13_method_65_code 127 = .ok (.ldiv, 1) := by decide +kernel
theorem d_Mod_print_128 : decode prog_13_method_65_code 128 = .ok (.lstore 6, 2) := by decide +kernel
theorem d_Mod_print_130 : decode prog_13_method_65_code 130 = .ok (.goto (-33), 3) := by decide +kernel
theorem d_Mod_print_82 : decode prog_13_method_65_code 82 = .ok (.lload 4, 2) := by decide +kernel
theorem d_Mod_print_84 : decode prog_13_method_65_code 84 = .ok (.ldc2_w 52, 3) := by decide +kernel
theorem d_Mod_print_87 : decode prog_13_method_65_code 87 = .ok (.lmul, 1) := by decide +kernel
theorem d_Mod_print_88 : decode prog_13_method_65_code 88 = .ok (.lstore 4, 2) := by decide +kernel
theorem d_Mod_print_90 : decode prog_13_method_65_code 90 = .ok (.goto (-19), 3) := by decide +kernel
theorem d_Mod_print_64 : decode prog_13_method_65_code 64 = .ok (.aload_n 0, 1) := by decide +kernel
theorem d_Mod_print_65 : decode prog_13_method_65_code 65 = .ok (.bipush 45, 2) := by decide +kernel
theorem d_Mod_print_67 : decode prog_13_method_65_code 67 = .ok (.invokevirtual 599, 3) := by decide +kernel
theorem d_Mod_print_70 : decode prog_13_method_65_code 70 = .ok (.pop, 1) := by decide +kernel
theorem d_Mod_print_136 : decode prog_13_method_65_code 136 = .ok (.iload_n 1, 1) := by decide +kernel
theorem d_Mod_print_137 : decode prog_13_method_65_code 137 = .ok (.iconst 2, 1) := by decide +kernel
theorem d_Mod_print_138 : decode prog_13_method_65_code 138 = .ok (.if_icmp .ne 47, 3) := by decide +kernel
theorem d_Mod_print_141 : decode prog_13_method_65_code 141 = .ok (.iconst 0, 1) := by decide +kernel
theorem d_Mod_print_142 : decode prog_13_method_65_code 142 = .ok (.istore_n 2, 1) := by decide +kernel
theorem d_Mod_print_143 : decode prog_13_method_65_code 143 = .ok (.iload_n 2, 1) := by decide +kernel
theorem d_Mod_print_144 : decode prog_13_method_65_code 144 = .ok (.aload_n 0, 1) := by decide +kernel
theorem d_Mod_print_145 : decode prog_13_method_65_code 145 = .ok (.getfield 368, 3) := by decide +kernel
theorem d_Mod_print_148 : decode prog_13_method_65_code 148 = .ok (.getfield 565, 3) := by decide +kernel
theorem d_Mod_print_151 : decode prog_13_method_65_code 151 = .ok (.aload_n 0, 1) := by decide +kernel
theorem d_Mod_print_152 : decode prog_13_method_65_code 152 = .ok (.getfield 486, 3) := by decide +kernel
theorem d_Mod_print_155 : decode prog_13_method_65_code 155 = .ok (.iaload, 1) := by decide +kernel
theorem d_Mod_print_156 : decode prog_13_method_65_code 156 = .ok (.if_icmp .ge 26, 3) := by decide +kernel
theorem d_Mod_print_182 : decode prog_13_method_65_code 182 = .ok (.goto 29, 3) := by decide +kernel
theorem d_Mod_print_159 : decode prog_13_method_65_code 159 = .ok (.aload_n 0, 1) := by decide +kernel
theorem d_Mod_print_160 : decode prog_13_method_65_code 160 = .ok (.aload_n 0, 1) := by decide +kernel
theorem d_Mod_print_161 : decode prog_13_method_65_code 161 = .ok (.getfield 368, 3) := by decide +kernel
theorem d_Mod_print_164 : decode prog_13_method_65_code 164 = .ok (.aload_n 0, 1) := by decide +kernel
theorem d_Mod_print_165 : decode prog_13_method_65_code 165 = .ok (.getfield 486, 3) := by decide +kernel
theorem d_Mod_print_168 : decode prog_13_method_65_code 168 = .ok (.iload_n 2, 1) := by decide +kernel
theorem d_Mod_print_169 : decode prog_13_method_65_code 169 = .ok (.invokevirtual 574, 3) := by decide +kernel
theorem d_Mod_print_172 : decode prog_13_method_65_code 172 = .ok (.invokevirtual 599, 3) := by decide +kernel
theorem d_Mod_print_175 : decode prog_13_method_65_code 175 = .ok (.pop, 1) := by decide +kernel
theorem d_Mod_print_176 : decode prog_13_method_65_code 176 = .ok (.iinc 2 1, 3) := by decide +kernel
theorem d_Mod_print_179 : decode prog_13_method_65_code 179 = .ok (.goto (-36), 3) := by decide +kernel
theorem d_Mod_print_185 : decode prog_13_method_65_code 185 = .ok (.aload_n 0, 1) := by decide +kernel
theorem d_Mod_print_186 : decode prog_13_method_65_code 186 = .ok (.iload_n 1, 1) := by decide +kernel
theorem d_Mod_print_187 : decode prog_13_method_65_code 187 = .ok (.ifCond .ne 8, 3) := by decide +kernel
theorem d_Mod_print_190 : decode prog_13_method_65_code 190 = .ok (.bipush 110, 2) := by decide +kernel
theorem d_Mod_print_192 : decode prog_13_method_65_code 192 = .ok (.goto 15, 3) := by decide +kernel
theorem d_Mod_print_207 : decode prog_13_method_65_code 207 = .ok (.invokevirtual 599, 3) := by decide +kernel
theorem d_Mod_print_210 : decode prog_13_method_65_code 210 = .ok (.pop, 1) := by decide +kernel
theorem d_Mod_print_195 : decode prog_13_method_65_code 195 = .ok (.iload_n 1, 1) := by decide +kernel
theorem d_Mod_print_196 : decode prog_13_method_65_code 196 = .ok (.iconst 3, 1) := by decide +kernel
theorem d_Mod_print_197 : decode prog_13_method_65_code 197 = .ok (.if_icmp .ne 8, 3) := by decide +kernel
theorem d_Mod_print_200 : decode prog_13_method_65_code 200 = .ok (.bipush 114, 2) := by decide +kernel
theorem d_Mod_print_202 : decode prog_13_method_65_code 202 = .ok (.goto 5, 3) := by decide +kernel
theorem d_Mod_print_205 : decode prog_13_method_65_code 205 = .ok (.bipush 119, 2) := by decide +kernel
abbrev m_Mod_parts : am_M := (⟨"StowTongueModel", "parts", "(I)I"⟩, prog_13_method_58_code, 6, (some FieldType.int))
theorem d_Mod_parts_0 : decode prog_13_method_58_code 0 = .ok (.iload_n 1, 1) := by decide +kernel
theorem d_Mod_parts_1 : decode prog_13_method_58_code 1 = .ok (.iconst 5, 1) := by decide +kernel
theorem d_Mod_parts_2 : decode prog_13_method_58_code 2 = .ok (.if_icmp .ne 116, 3) := by decide +kernel
theorem d_Mod_parts_5 : decode prog_13_method_58_code 5 = .ok (.aload_n 0, 1) := by decide +kernel
theorem d_Mod_parts_6 : decode prog_13_method_58_code 6 = .ok (.aload_n 0, 1) := by decide +kernel
theorem d_Mod_parts_7 : decode prog_13_method_58_code 7 = .ok (.invokevirtual 516, 3) := by decide +kernel
theorem w_2034 : (Cond.methodLink "StowTongueModel" 516 ⟨"StowTongueModel", "next", "()I"⟩ : Cond) ∈ am_tbl := am_w 2034 (by decide +kernel) (by decide +kernel)
set_option maxRecDepth 100000 in
theorem w_2037 : (Cond.code ⟨"StowTongueModel", "next", "()I"⟩ prog_13_method_46_code 1 (some FieldType.int) : Cond) ∈ am_tbl := am_w 2037 rfl rfl
theorem l_Mod_516 : am_L "StowTongueModel" 516 0 m_Mod_next := ⟨Or.inl w_2034, w_160, w_2037, ⟨by decide, by decide⟩, by decide +kernel, by decide⟩
theorem w_2036 : (Cond.instanceMethod ⟨"StowTongueModel", "next", "()I"⟩ : Cond) ∈ am_tbl := am_w 2036 (by decide +kernel) (by decide +kernel)
theorem w_120 : (Cond.selects "StowTongueModel" ⟨"StowTongueModel", "next", "()I"⟩ ⟨"StowTongueModel", "next", "()I"⟩ : Cond) ∈ am_tbl := am_w 120 (by decide +kernel) (by decide +kernel)
theorem d_Mod_parts_10 : decode prog_13_method_58_code 10 = .ok (.invokevirtual 518, 3) := by decide +kernel
theorem w_2038 : (Cond.methodLink "StowTongueModel" 518 ⟨"StowTongueModel", "text", "(I)J"⟩ : Cond) ∈ am_tbl := am_w 2038 (by decide +kernel) (by decide +kernel)
set_option maxRecDepth 100000 in
theorem w_2041 : (Cond.code ⟨"StowTongueModel", "text", "(I)J"⟩ prog_13_method_47_code 3 (some FieldType.long) : Cond) ∈ am_tbl := am_w 2041 rfl rfl
theorem l_Mod_518 : am_L "StowTongueModel" 518 1 m_Mod_text := ⟨Or.inl w_2038, w_160, w_2041, ⟨by decide, by decide⟩, by decide +kernel, by decide⟩
theorem w_2040 : (Cond.instanceMethod ⟨"StowTongueModel", "text", "(I)J"⟩ : Cond) ∈ am_tbl := am_w 2040 (by decide +kernel) (by decide +kernel)
theorem w_121 : (Cond.selects "StowTongueModel" ⟨"StowTongueModel", "text", "(I)J"⟩ ⟨"StowTongueModel", "text", "(I)J"⟩ : Cond) ∈ am_tbl := am_w 121 (by decide +kernel) (by decide +kernel)
theorem d_Mod_parts_13 : decode prog_13_method_58_code 13 = .ok (.lstore_n 2, 1) := by decide +kernel
theorem d_Mod_parts_14 : decode prog_13_method_58_code 14 = .ok (.aload_n 0, 1) := by decide +kernel
theorem d_Mod_parts_15 : decode prog_13_method_58_code 15 = .ok (.getfield 368, 3) := by decide +kernel
theorem d_Mod_parts_18 : decode prog_13_method_58_code 18 = .ok (.getfield 515, 3) := by decide +kernel
theorem d_Mod_parts_21 : decode prog_13_method_58_code 21 = .ok (.aload_n 0, 1) := by decide +kernel
theorem d_Mod_parts_22 : decode prog_13_method_58_code 22 = .ok (.getfield 486, 3) := by decide +kernel
theorem d_Mod_parts_25 : decode prog_13_method_58_code 25 = .ok (.iconst 1, 1) := by decide +kernel
theorem d_Mod_parts_26 : decode prog_13_method_58_code 26 = .ok (.isub, 1) := by decide +kernel
theorem d_Mod_parts_27 : decode prog_13_method_58_code 27 = .ok (.iaload, 1) := by decide +kernel
theorem d_Mod_parts_28 : decode prog_13_method_58_code 28 = .ok (.iconst 3, 1) := by decide +kernel
theorem d_Mod_parts_29 : decode prog_13_method_58_code 29 = .ok (.if_icmp .eq 5, 3) := by decide +kernel
theorem d_Mod_parts_34 : decode prog_13_method_58_code 34 = .ok (.aload_n 0, 1) := by decide +kernel
theorem d_Mod_parts_35 : decode prog_13_method_58_code 35 = .ok (.getfield 368, 3) := by decide +kernel
theorem d_Mod_parts_38 : decode prog_13_method_58_code 38 = .ok (.getfield 508, 3) := by decide +kernel
theorem d_Mod_parts_41 : decode prog_13_method_58_code 41 = .ok (.aload_n 0, 1) := by decide +kernel
theorem d_Mod_parts_42 : decode prog_13_method_58_code 42 = .ok (.getfield 486, 3) := by decide +kernel
theorem d_Mod_parts_45 : decode prog_13_method_58_code 45 = .ok (.iconst 1, 1) := by decide +kernel
theorem d_Mod_parts_46 : decode prog_13_method_58_code 46 = .ok (.isub, 1) := by decide +kernel
theorem d_Mod_parts_47 : decode prog_13_method_58_code 47 = .ok (.laload, 1) := by decide +kernel
theorem d_Mod_parts_48 : decode prog_13_method_58_code 48 = .ok (.l2i, 1) := by decide +kernel
theorem d_Mod_parts_49 : decode prog_13_method_58_code 49 = .ok (.istore 4, 2) := by decide +kernel
theorem d_Mod_parts_51 : decode prog_13_method_58_code 51 = .ok (.aload_n 0, 1) := by decide +kernel
theorem d_Mod_parts_52 : decode prog_13_method_58_code 52 = .ok (.getfield 353, 3) := by decide +kernel
theorem d_Mod_parts_55 : decode prog_13_method_58_code 55 = .ok (.iload 4, 2) := by decide +kernel
theorem d_Mod_parts_57 : decode prog_13_method_58_code 57 = .ok (.lload_n 2, 1) := by decide +kernel
theorem d_Mod_parts_58 : decode prog_13_method_58_code 58 = .ok (.invokevirtual 554, 3) := by decide +kernel
theorem d_Mod_parts_61 : decode prog_13_method_58_code 61 = .ok (.istore 5, 2) := by decide +kernel
theorem d_Mod_parts_63 : decode prog_13_method_58_code 63 = .ok (.iload 5, 2) := by decide +kernel
theorem d_Mod_parts_65 : decode prog_13_method_58_code 65 = .ok (.ifCond .ge 23, 3) := by decide +kernel
theorem d_Mod_parts_88 : decode prog_13_method_58_code 88 = .ok (.aload_n 0, 1) := by decide +kernel
theorem d_Mod_parts_89 : decode prog_13_method_58_code 89 = .ok (.getfield 368, 3) := by decide +kernel
theorem d_Mod_parts_92 : decode prog_13_method_58_code 92 = .ok (.aload_n 0, 1) := by decide +kernel
theorem d_Mod_parts_93 : decode prog_13_method_58_code 93 = .ok (.getfield 486, 3) := by decide +kernel
theorem d_Mod_parts_96 : decode prog_13_method_58_code 96 = .ok (.iconst 1, 1) := by decide +kernel
theorem d_Mod_parts_97 : decode prog_13_method_58_code 97 = .ok (.isub, 1) := by decide +kernel
theorem d_Mod_parts_98 : decode prog_13_method_58_code 98 = .ok (.aload_n 0, 1) := by decide +kernel
theorem d_Mod_parts_99 : decode prog_13_method_58_code 99 = .ok (.getfield 353, 3) := by decide +kernel
theorem d_Mod_parts_102 : decode prog_13_method_58_code 102 = .ok (.getfield 562, 3) := by decide +kernel
theorem d_Mod_parts_105 : decode prog_13_method_58_code 105 = .ok (.bipush 20, 2) := by decide +kernel
theorem d_Mod_parts_107 : decode prog_13_method_58_code 107 = .ok (.iload 4, 2) := by decide +kernel
theorem d_Mod_parts_109 : decode prog_13_method_58_code 109 = .ok (.imul, 1) := by decide +kernel
theorem d_Mod_parts_110 : decode prog_13_method_58_code 110 = .ok (.iload 5, 2) := by decide +kernel
theorem d_Mod_parts_112 : decode prog_13_method_58_code 112 = .ok (.iadd, 1) := by decide +kernel
theorem d_Mod_parts_113 : decode prog_13_method_58_code 113 = .ok (.invokevirtual 505, 3) := by decide +kernel
theorem d_Mod_parts_116 : decode prog_13_method_58_code 116 = .ok (.iconst (-1), 1) := by decide +kernel
theorem d_Mod_parts_117 : decode prog_13_method_58_code 117 = .ok (.ireturn, 1) := by decide +kernel
theorem d_Mod_parts_68 : decode prog_13_method_58_code 68 = .ok (.aload_n 0, 1) := by decide +kernel
theorem d_Mod_parts_69 : decode prog_13_method_58_code 69 = .ok (.getfield 368, 3) := by decide +kernel
theorem d_Mod_parts_72 : decode prog_13_method_58_code 72 = .ok (.aload_n 0, 1) := by decide +kernel
theorem d_Mod_parts_73 : decode prog_13_method_58_code 73 = .ok (.getfield 486, 3) := by decide +kernel
theorem d_Mod_parts_76 : decode prog_13_method_58_code 76 = .ok (.iconst 1, 1) := by decide +kernel
theorem d_Mod_parts_77 : decode prog_13_method_58_code 77 = .ok (.isub, 1) := by decide +kernel
theorem d_Mod_parts_78 : decode prog_13_method_58_code 78 = .ok (.iconst 0, 1) := by decide +kernel
theorem d_Mod_parts_79 : decode prog_13_method_58_code 79 = .ok (.iconst 0, 1) := by decide +kernel
theorem d_Mod_parts_80 : decode prog_13_method_58_code 80 = .ok (.lconst 0, 1) := by decide +kernel
theorem d_Mod_parts_81 : decode prog_13_method_58_code 81 = .ok (.lconst 0, 1) := by decide +kernel
theorem d_Mod_parts_82 : decode prog_13_method_58_code 82 = .ok (.invokevirtual 114, 3) := by decide +kernel
theorem d_Mod_parts_85 : decode prog_13_method_58_code 85 = .ok (.goto 31, 3) := by decide +kernel
theorem d_Mod_parts_32 : decode prog_13_method_58_code 32 = .ok (.iconst 2, 1) := by decide +kernel
theorem d_Mod_parts_33 : decode prog_13_method_58_code 33 = .ok (.ireturn, 1) := by decide +kernel
theorem d_Mod_parts_118 : decode prog_13_method_58_code 118 = .ok (.iload_n 1, 1) := by decide +kernel
theorem d_Mod_parts_119 : decode prog_13_method_58_code 119 = .ok (.bipush 6, 2) := by decide +kernel
theorem d_Mod_parts_121 : decode prog_13_method_58_code 121 = .ok (.if_icmp .ne 71, 3) := by decide +kernel
theorem d_Mod_parts_124 : decode prog_13_method_58_code 124 = .ok (.aload_n 0, 1) := by decide +kernel
theorem d_Mod_parts_125 : decode prog_13_method_58_code 125 = .ok (.aload_n 0, 1) := by decide +kernel
theorem d_Mod_parts_126 : decode prog_13_method_58_code 126 = .ok (.invokevirtual 516, 3) := by decide +kernel
theorem d_Mod_parts_129 : decode prog_13_method_58_code 129 = .ok (.invokevirtual 518, 3) := by decide +kernel
theorem d_Mod_parts_132 : decode prog_13_method_58_code 132 = .ok (.lstore_n 2, 1) := by decide +kernel
theorem d_Mod_parts_133 : decode prog_13_method_58_code 133 = .ok (.aload_n 0, 1) := by decide +kernel
theorem d_Mod_parts_134 : decode prog_13_method_58_code 134 = .ok (.dup, 1) := by decide +kernel
theorem d_Mod_parts_135 : decode prog_13_method_58_code 135 = .ok (.getfield 486, 3) := by decide +kernel
theorem d_Mod_parts_138 : decode prog_13_method_58_code 138 = .ok (.iconst 2, 1) := by decide +kernel
theorem d_Mod_parts_139 : decode prog_13_method_58_code 139 = .ok (.isub, 1) := by decide +kernel
theorem d_Mod_parts_140 : decode prog_13_method_58_code 140 = .ok (.putfield 486, 3) := by decide +kernel
theorem d_Mod_parts_143 : decode prog_13_method_58_code 143 = .ok (.aload_n 0, 1) := by decide +kernel
theorem d_Mod_parts_144 : decode prog_13_method_58_code 144 = .ok (.getfield 368, 3) := by decide +kernel
theorem d_Mod_parts_147 : decode prog_13_method_58_code 147 = .ok (.getfield 515, 3) := by decide +kernel
theorem d_Mod_parts_150 : decode prog_13_method_58_code 150 = .ok (.aload_n 0, 1) := by decide +kernel
theorem d_Mod_parts_151 : decode prog_13_method_58_code 151 = .ok (.getfield 486, 3) := by decide +kernel
theorem d_Mod_parts_154 : decode prog_13_method_58_code 154 = .ok (.iaload, 1) := by decide +kernel
theorem d_Mod_parts_155 : decode prog_13_method_58_code 155 = .ok (.iconst 3, 1) := by decide +kernel
theorem d_Mod_parts_156 : decode prog_13_method_58_code 156 = .ok (.if_icmp .ne 34, 3) := by decide +kernel
theorem d_Mod_parts_159 : decode prog_13_method_58_code 159 = .ok (.aload_n 0, 1) := by decide +kernel
theorem d_Mod_parts_160 : decode prog_13_method_58_code 160 = .ok (.aload_n 0, 1) := by decide +kernel
theorem d_Mod_parts_161 : decode prog_13_method_58_code 161 = .ok (.getfield 368, 3) := by decide +kernel
theorem d_Mod_parts_164 : decode prog_13_method_58_code 164 = .ok (.getfield 508, 3) := by decide +kernel
theorem d_Mod_parts_167 : decode prog_13_method_58_code 167 = .ok (.aload_n 0, 1) := by decide +kernel
theorem d_Mod_parts_168 : decode prog_13_method_58_code 168 = .ok (.getfield 486, 3) := by decide +kernel
theorem d_Mod_parts_171 : decode prog_13_method_58_code 171 = .ok (.laload, 1) := by decide +kernel
theorem d_Mod_parts_172 : decode prog_13_method_58_code 172 = .ok (.l2i, 1) := by decide +kernel
theorem d_Mod_parts_173 : decode prog_13_method_58_code 173 = .ok (.lload_n 2, 1) := by decide +kernel
theorem d_Mod_parts_174 : decode prog_13_method_58_code 174 = .ok (.aload_n 0, 1) := by decide +kernel
theorem d_Mod_parts_175 : decode prog_13_method_58_code 175 = .ok (.getfield 368, 3) := by decide +kernel
theorem d_Mod_parts_178 : decode prog_13_method_58_code 178 = .ok (.aload_n 0, 1) := by decide +kernel
theorem d_Mod_parts_179 : decode prog_13_method_58_code 179 = .ok (.getfield 486, 3) := by decide +kernel
theorem d_Mod_parts_182 : decode prog_13_method_58_code 182 = .ok (.iconst 1, 1) := by decide +kernel
theorem d_Mod_parts_183 : decode prog_13_method_58_code 183 = .ok (.iadd, 1) := by decide +kernel
theorem d_Mod_parts_184 : decode prog_13_method_58_code 184 = .ok (.invokevirtual 566, 3) := by decide +kernel
theorem w_2096 : (Cond.methodLink "StowTongueModel" 566 ⟨"StowTongueModel", "setField", "(IJLStowTongueModel$Values;I)I"⟩ : Cond) ∈ am_tbl := am_w 2096 (by decide +kernel) (by decide +kernel)
set_option maxRecDepth 100000 in
theorem w_2099 : (Cond.code ⟨"StowTongueModel", "setField", "(IJLStowTongueModel$Values;I)I"⟩ prog_13_method_56_code 9 (some FieldType.int) : Cond) ∈ am_tbl := am_w 2099 rfl rfl
theorem l_Mod_566 : am_L "StowTongueModel" 566 4 m_Mod_setField := ⟨Or.inl w_2096, w_160, w_2099, ⟨by decide, by decide⟩, by decide +kernel, by decide⟩
theorem w_2098 : (Cond.instanceMethod ⟨"StowTongueModel", "setField", "(IJLStowTongueModel$Values;I)I"⟩ : Cond) ∈ am_tbl := am_w 2098 (by decide +kernel) (by decide +kernel)
theorem w_132 : (Cond.selects "StowTongueModel" ⟨"StowTongueModel", "setField", "(IJLStowTongueModel$Values;I)I"⟩ ⟨"StowTongueModel", "setField", "(IJLStowTongueModel$Values;I)I"⟩ : Cond) ∈ am_tbl := am_w 132 (by decide +kernel) (by decide +kernel)
theorem d_Mod_parts_187 : decode prog_13_method_58_code 187 = .ok (.goto 4, 3) := by decide +kernel
theorem d_Mod_parts_191 : decode prog_13_method_58_code 191 = .ok (.ireturn, 1) := by decide +kernel
theorem d_Mod_parts_190 : decode prog_13_method_58_code 190 = .ok (.iconst 2, 1) := by decide +kernel
theorem d_Mod_parts_192 : decode prog_13_method_58_code 192 = .ok (.iload_n 1, 1) := by decide +kernel
theorem d_Mod_parts_193 : decode prog_13_method_58_code 193 = .ok (.bipush 7, 2) := by decide +kernel
theorem d_Mod_parts_195 : decode prog_13_method_58_code 195 = .ok (.if_icmp .ne 12, 3) := by decide +kernel
theorem d_Mod_parts_198 : decode prog_13_method_58_code 198 = .ok (.aload_n 0, 1) := by decide +kernel
theorem d_Mod_parts_199 : decode prog_13_method_58_code 199 = .ok (.getfield 486, 3) := by decide +kernel
theorem d_Mod_parts_202 : decode prog_13_method_58_code 202 = .ok (.iconst 2, 1) := by decide +kernel
theorem d_Mod_parts_203 : decode prog_13_method_58_code 203 = .ok (.isub, 1) := by decide +kernel
theorem d_Mod_parts_204 : decode prog_13_method_58_code 204 = .ok (.goto 9, 3) := by decide +kernel
theorem d_Mod_parts_213 : decode prog_13_method_58_code 213 = .ok (.istore_n 2, 1) := by decide +kernel
theorem d_Mod_parts_214 : decode prog_13_method_58_code 214 = .ok (.aload_n 0, 1) := by decide +kernel
theorem d_Mod_parts_215 : decode prog_13_method_58_code 215 = .ok (.iload_n 2, 1) := by decide +kernel
theorem d_Mod_parts_216 : decode prog_13_method_58_code 216 = .ok (.iload_n 2, 1) := by decide +kernel
theorem d_Mod_parts_217 : decode prog_13_method_58_code 217 = .ok (.iconst 1, 1) := by decide +kernel
theorem d_Mod_parts_218 : decode prog_13_method_58_code 218 = .ok (.iadd, 1) := by decide +kernel
theorem d_Mod_parts_219 : decode prog_13_method_58_code 219 = .ok (.iload_n 1, 1) := by decide +kernel
theorem d_Mod_parts_220 : decode prog_13_method_58_code 220 = .ok (.bipush 7, 2) := by decide +kernel
theorem d_Mod_parts_222 : decode prog_13_method_58_code 222 = .ok (.if_icmp .ne 7, 3) := by decide +kernel
theorem d_Mod_parts_225 : decode prog_13_method_58_code 225 = .ok (.iconst 1, 1) := by decide +kernel
theorem d_Mod_parts_226 : decode prog_13_method_58_code 226 = .ok (.goto 4, 3) := by decide +kernel
theorem d_Mod_parts_230 : decode prog_13_method_58_code 230 = .ok (.invokevirtual 570, 3) := by decide +kernel
theorem w_2100 : (Cond.methodLink "StowTongueModel" 570 ⟨"StowTongueModel", "placeOf", "(IIZ)I"⟩ : Cond) ∈ am_tbl := am_w 2100 (by decide +kernel) (by decide +kernel)
set_option maxRecDepth 100000 in
theorem w_2103 : (Cond.code ⟨"StowTongueModel", "placeOf", "(IIZ)I"⟩ prog_13_method_57_code 6 (some FieldType.int) : Cond) ∈ am_tbl := am_w 2103 rfl rfl
theorem l_Mod_570 : am_L "StowTongueModel" 570 3 m_Mod_placeOf := ⟨Or.inl w_2100, w_160, w_2103, ⟨by decide, by decide⟩, by decide +kernel, by decide⟩
theorem w_2102 : (Cond.instanceMethod ⟨"StowTongueModel", "placeOf", "(IIZ)I"⟩ : Cond) ∈ am_tbl := am_w 2102 (by decide +kernel) (by decide +kernel)
theorem w_133 : (Cond.selects "StowTongueModel" ⟨"StowTongueModel", "placeOf", "(IIZ)I"⟩ ⟨"StowTongueModel", "placeOf", "(IIZ)I"⟩ : Cond) ∈ am_tbl := am_w 133 (by decide +kernel) (by decide +kernel)
theorem d_Mod_parts_233 : decode prog_13_method_58_code 233 = .ok (.istore_n 3, 1) := by decide +kernel
theorem d_Mod_parts_234 : decode prog_13_method_58_code 234 = .ok (.iload_n 3, 1) := by decide +kernel
theorem d_Mod_parts_235 : decode prog_13_method_58_code 235 = .ok (.ifCond .ge 7, 3) := by decide +kernel
theorem d_Mod_parts_242 : decode prog_13_method_58_code 242 = .ok (.iload_n 1, 1) := by decide +kernel
theorem d_Mod_parts_243 : decode prog_13_method_58_code 243 = .ok (.bipush 8, 2) := by decide +kernel
theorem d_Mod_parts_245 : decode prog_13_method_58_code 245 = .ok (.if_icmp .ne 47, 3) := by decide +kernel
theorem d_Mod_parts_248 : decode prog_13_method_58_code 248 = .ok (.aload_n 0, 1) := by decide +kernel
theorem d_Mod_parts_249 : decode prog_13_method_58_code 249 = .ok (.dup, 1) := by decide +kernel
theorem d_Mod_parts_250 : decode prog_13_method_58_code 250 = .ok (.getfield 486, 3) := by decide +kernel
theorem d_Mod_parts_253 : decode prog_13_method_58_code 253 = .ok (.iconst 3, 1) := by decide +kernel
theorem d_Mod_parts_254 : decode prog_13_method_58_code 254 = .ok (.isub, 1) := by decide +kernel
theorem d_Mod_parts_255 : decode prog_13_method_58_code 255 = .ok (.putfield 486, 3) := by decide +kernel
theorem d_Mod_parts_258 : decode prog_13_method_58_code 258 = .ok (.aload_n 0, 1) := by decide +kernel
theorem d_Mod_parts_259 : decode prog_13_method_58_code 259 = .ok (.getfield 353, 3) := by decide +kernel
theorem d_Mod_parts_262 : decode prog_13_method_58_code 262 = .ok (.getfield 562, 3) := by decide +kernel
theorem d_Mod_parts_265 : decode prog_13_method_58_code 265 = .ok (.bipush 20, 2) := by decide +kernel
theorem d_Mod_parts_267 : decode prog_13_method_58_code 267 = .ok (.aload_n 0, 1) := by decide +kernel
theorem d_Mod_parts_268 : decode prog_13_method_58_code 268 = .ok (.getfield 368, 3) := by decide +kernel
theorem d_Mod_parts_271 : decode prog_13_method_58_code 271 = .ok (.getfield 508, 3) := by decide +kernel
theorem d_Mod_parts_274 : decode prog_13_method_58_code 274 = .ok (.iload_n 2, 1) := by decide +kernel
theorem d_Mod_parts_275 : decode prog_13_method_58_code 275 = .ok (.laload, 1) := by decide +kernel
theorem d_Mod_parts_276 : decode prog_13_method_58_code 276 = .ok (.l2i, 1) := by decide +kernel
theorem d_Mod_parts_277 : decode prog_13_method_58_code 277 = .ok (.imul, 1) := by decide +kernel
theorem d_Mod_parts_278 : decode prog_13_method_58_code 278 = .ok (.iload_n 3, 1) := by decide +kernel
theorem d_Mod_parts_279 : decode prog_13_method_58_code 279 = .ok (.iadd, 1) := by decide +kernel
theorem d_Mod_parts_280 : decode prog_13_method_58_code 280 = .ok (.aload_n 0, 1) := by decide +kernel
theorem d_Mod_parts_281 : decode prog_13_method_58_code 281 = .ok (.getfield 368, 3) := by decide +kernel
theorem d_Mod_parts_284 : decode prog_13_method_58_code 284 = .ok (.iload_n 2, 1) := by decide +kernel
theorem d_Mod_parts_285 : decode prog_13_method_58_code 285 = .ok (.iconst 2, 1) := by decide +kernel
theorem d_Mod_parts_286 : decode prog_13_method_58_code 286 = .ok (.iadd, 1) := by decide +kernel
theorem d_Mod_parts_287 : decode prog_13_method_58_code 287 = .ok (.invokevirtual 505, 3) := by decide +kernel
theorem d_Mod_parts_290 : decode prog_13_method_58_code 290 = .ok (.iconst (-1), 1) := by decide +kernel
theorem d_Mod_parts_291 : decode prog_13_method_58_code 291 = .ok (.ireturn, 1) := by decide +kernel
theorem d_Mod_parts_292 : decode prog_13_method_58_code 292 = .ok (.aload_n 0, 1) := by decide +kernel
theorem d_Mod_parts_293 : decode prog_13_method_58_code 293 = .ok (.dup, 1) := by decide +kernel
theorem d_Mod_parts_294 : decode prog_13_method_58_code 294 = .ok (.getfield 486, 3) := by decide +kernel
theorem d_Mod_parts_297 : decode prog_13_method_58_code 297 = .ok (.iconst 1, 1) := by decide +kernel
theorem d_Mod_parts_298 : decode prog_13_method_58_code 298 = .ok (.isub, 1) := by decide +kernel
theorem d_Mod_parts_299 : decode prog_13_method_58_code 299 = .ok (.putfield 486, 3) := by decide +kernel
theorem d_Mod_parts_302 : decode prog_13_method_58_code 302 = .ok (.aload_n 0, 1) := by decide +kernel
theorem d_Mod_parts_303 : decode prog_13_method_58_code 303 = .ok (.getfield 368, 3) := by decide +kernel
theorem d_Mod_parts_306 : decode prog_13_method_58_code 306 = .ok (.getfield 515, 3) := by decide +kernel
theorem d_Mod_parts_309 : decode prog_13_method_58_code 309 = .ok (.iload_n 2, 1) := by decide +kernel
theorem d_Mod_parts_310 : decode prog_13_method_58_code 310 = .ok (.iaload, 1) := by decide +kernel
theorem d_Mod_parts_311 : decode prog_13_method_58_code 311 = .ok (.iconst 4, 1) := by decide +kernel
theorem d_Mod_parts_312 : decode prog_13_method_58_code 312 = .ok (.if_icmp .ne 36, 3) := by decide +kernel
theorem d_Mod_parts_315 : decode prog_13_method_58_code 315 = .ok (.aload_n 0, 1) := by decide +kernel
theorem d_Mod_parts_316 : decode prog_13_method_58_code 316 = .ok (.getfield 368, 3) := by decide +kernel
theorem d_Mod_parts_319 : decode prog_13_method_58_code 319 = .ok (.iload_n 2, 1) := by decide +kernel
theorem d_Mod_parts_320 : decode prog_13_method_58_code 320 = .ok (.aload_n 0, 1) := by decide +kernel
theorem d_Mod_parts_321 : decode prog_13_method_58_code 321 = .ok (.getfield 353, 3) := by decide +kernel
theorem d_Mod_parts_324 : decode prog_13_method_58_code 324 = .ok (.getfield 562, 3) := by decide +kernel
theorem d_Mod_parts_327 : decode prog_13_method_58_code 327 = .ok (.bipush 20, 2) := by decide +kernel
theorem d_Mod_parts_329 : decode prog_13_method_58_code 329 = .ok (.aload_n 0, 1) := by decide +kernel
theorem d_Mod_parts_330 : decode prog_13_method_58_code 330 = .ok (.getfield 368, 3) := by decide +kernel
theorem d_Mod_parts_333 : decode prog_13_method_58_code 333 = .ok (.getfield 508, 3) := by decide +kernel
theorem d_Mod_parts_336 : decode prog_13_method_58_code 336 = .ok (.iload_n 2, 1) := by decide +kernel
theorem d_Mod_parts_337 : decode prog_13_method_58_code 337 = .ok (.laload, 1) := by decide +kernel
theorem d_Mod_parts_338 : decode prog_13_method_58_code 338 = .ok (.l2i, 1) := by decide +kernel
theorem d_Mod_parts_339 : decode prog_13_method_58_code 339 = .ok (.imul, 1) := by decide +kernel
theorem d_Mod_parts_340 : decode prog_13_method_58_code 340 = .ok (.iload_n 3, 1) := by decide +kernel
theorem d_Mod_parts_341 : decode prog_13_method_58_code 341 = .ok (.iadd, 1) := by decide +kernel
theorem d_Mod_parts_342 : decode prog_13_method_58_code 342 = .ok (.invokevirtual 505, 3) := by decide +kernel
theorem d_Mod_parts_345 : decode prog_13_method_58_code 345 = .ok (.goto 36, 3) := by decide +kernel
theorem d_Mod_parts_381 : decode prog_13_method_58_code 381 = .ok (.iconst (-1), 1) := by decide +kernel
theorem d_Mod_parts_382 : decode prog_13_method_58_code 382 = .ok (.ireturn, 1) := by decide +kernel
theorem d_Mod_parts_348 : decode prog_13_method_58_code 348 = .ok (.aload_n 0, 1) := by decide +kernel
theorem d_Mod_parts_349 : decode prog_13_method_58_code 349 = .ok (.getfield 368, 3) := by decide +kernel
theorem d_Mod_parts_352 : decode prog_13_method_58_code 352 = .ok (.iload_n 2, 1) := by decide +kernel
theorem d_Mod_parts_353 : decode prog_13_method_58_code 353 = .ok (.iload_n 3, 1) := by decide +kernel
theorem d_Mod_parts_354 : decode prog_13_method_58_code 354 = .ok (.invokevirtual 574, 3) := by decide +kernel
theorem d_Mod_parts_357 : decode prog_13_method_58_code 357 = .ok (.istore 4, 2) := by decide +kernel
theorem d_Mod_parts_359 : decode prog_13_method_58_code 359 = .ok (.aload_n 0, 1) := by decide +kernel
theorem d_Mod_parts_360 : decode prog_13_method_58_code 360 = .ok (.getfield 368, 3) := by decide +kernel
theorem d_Mod_parts_363 : decode prog_13_method_58_code 363 = .ok (.iload_n 2, 1) := by decide +kernel
theorem d_Mod_parts_364 : decode prog_13_method_58_code 364 = .ok (.iconst 2, 1) := by decide +kernel
theorem d_Mod_parts_365 : decode prog_13_method_58_code 365 = .ok (.iconst 0, 1) := by decide +kernel
theorem d_Mod_parts_366 : decode prog_13_method_58_code 366 = .ok (.lconst 0, 1) := by decide +kernel
theorem d_Mod_parts_367 : decode prog_13_method_58_code 367 = .ok (.lconst 0, 1) := by decide +kernel
theorem d_Mod_parts_368 : decode prog_13_method_58_code 368 = .ok (.invokevirtual 114, 3) := by decide +kernel
theorem d_Mod_parts_371 : decode prog_13_method_58_code 371 = .ok (.aload_n 0, 1) := by decide +kernel
theorem d_Mod_parts_372 : decode prog_13_method_58_code 372 = .ok (.getfield 368, 3) := by decide +kernel
theorem d_Mod_parts_375 : decode prog_13_method_58_code 375 = .ok (.iload_n 2, 1) := by decide +kernel
theorem d_Mod_parts_376 : decode prog_13_method_58_code 376 = .ok (.iload 4, 2) := by decide +kernel
theorem d_Mod_parts_378 : decode prog_13_method_58_code 378 = .ok (.invokevirtual 308, 3) := by decide +kernel
theorem d_Mod_parts_238 : decode prog_13_method_58_code 238 = .ok (.iconst (-1), 1) := by decide +kernel
theorem d_Mod_parts_239 : decode prog_13_method_58_code 239 = .ok (.iload_n 3, 1) := by decide +kernel
theorem d_Mod_parts_240 : decode prog_13_method_58_code 240 = .ok (.isub, 1) := by decide +kernel
theorem d_Mod_parts_241 : decode prog_13_method_58_code 241 = .ok (.ireturn, 1) := by decide +kernel
theorem d_Mod_parts_229 : decode prog_13_method_58_code 229 = .ok (.iconst 0, 1) := by decide +kernel
theorem d_Mod_parts_207 : decode prog_13_method_58_code 207 = .ok (.aload_n 0, 1) := by decide +kernel
theorem d_Mod_parts_208 : decode prog_13_method_58_code 208 = .ok (.getfield 486, 3) := by decide +kernel
theorem d_Mod_parts_211 : decode prog_13_method_58_code 211 = .ok (.iconst 3, 1) := by decide +kernel
theorem d_Mod_parts_212 : decode prog_13_method_58_code 212 = .ok (.isub, 1) := by decide +kernel
abbrev m_Mod_reckon : am_M := (⟨"StowTongueModel", "reckon", "(I)I"⟩, prog_13_method_62_code, 10, (some FieldType.int))
theorem d_Mod_reckon_0 : decode prog_13_method_62_code 0 = .ok (.aload_n 0, 1) := by decide +kernel
theorem d_Mod_reckon_1 : decode prog_13_method_62_code 1 = .ok (.getfield 486, 3) := by decide +kernel
theorem d_Mod_reckon_4 : decode prog_13_method_62_code 4 = .ok (.iconst 2, 1) := by decide +kernel
theorem d_Mod_reckon_5 : decode prog_13_method_62_code 5 = .ok (.isub, 1) := by decide +kernel
theorem d_Mod_reckon_6 : decode prog_13_method_62_code 6 = .ok (.istore_n 2, 1) := by decide +kernel
theorem d_Mod_reckon_7 : decode prog_13_method_62_code 7 = .ok (.aload_n 0, 1) := by decide +kernel
theorem d_Mod_reckon_8 : decode prog_13_method_62_code 8 = .ok (.getfield 486, 3) := by decide +kernel
theorem d_Mod_reckon_11 : decode prog_13_method_62_code 11 = .ok (.iconst 1, 1) := by decide +kernel
theorem d_Mod_reckon_12 : decode prog_13_method_62_code 12 = .ok (.isub, 1) := by decide +kernel
theorem d_Mod_reckon_13 : decode prog_13_method_62_code 13 = .ok (.istore_n 3, 1) := by decide +kernel
theorem d_Mod_reckon_14 : decode prog_13_method_62_code 14 = .ok (.iload_n 2, 1) := by decide +kernel
theorem d_Mod_reckon_15 : decode prog_13_method_62_code 15 = .ok (.ifCond .lt 33, 3) := by decide +kernel
theorem d_Mod_reckon_48 : decode prog_13_method_62_code 48 = .ok (.iconst 0, 1) := by decide +kernel
theorem d_Mod_reckon_49 : decode prog_13_method_62_code 49 = .ok (.istore 5, 2) := by decide +kernel
theorem d_Mod_reckon_51 : decode prog_13_method_62_code 51 = .ok (.iload_n 2, 1) := by decide +kernel
theorem d_Mod_reckon_52 : decode prog_13_method_62_code 52 = .ok (.ifCond .lt 33, 3) := by decide +kernel
theorem d_Mod_reckon_85 : decode prog_13_method_62_code 85 = .ok (.iconst 0, 1) := by decide +kernel
theorem d_Mod_reckon_86 : decode prog_13_method_62_code 86 = .ok (.istore 6, 2) := by decide +kernel
theorem d_Mod_reckon_88 : decode prog_13_method_62_code 88 = .ok (.iload_n 1, 1) := by decide +kernel
theorem d_Mod_reckon_89 : decode prog_13_method_62_code 89 = .ok (.tableswitch 217 10 13 #[31, 69, 95, 133], 31) := by decide +kernel
theorem d_Mod_reckon_120 : decode prog_13_method_62_code 120 = .ok (.aload_n 0, 1) := by decide +kernel
theorem d_Mod_reckon_121 : decode prog_13_method_62_code 121 = .ok (.getfield 368, 3) := by decide +kernel
theorem d_Mod_reckon_124 : decode prog_13_method_62_code 124 = .ok (.getfield 515, 3) := by decide +kernel
theorem d_Mod_reckon_127 : decode prog_13_method_62_code 127 = .ok (.iload_n 3, 1) := by decide +kernel
theorem d_Mod_reckon_128 : decode prog_13_method_62_code 128 = .ok (.iaload, 1) := by decide +kernel
theorem d_Mod_reckon_129 : decode prog_13_method_62_code 129 = .ok (.iconst 1, 1) := by decide +kernel
theorem d_Mod_reckon_130 : decode prog_13_method_62_code 130 = .ok (.if_icmp .eq 5, 3) := by decide +kernel
theorem d_Mod_reckon_135 : decode prog_13_method_62_code 135 = .ok (.aload_n 0, 1) := by decide +kernel
theorem d_Mod_reckon_136 : decode prog_13_method_62_code 136 = .ok (.getfield 368, 3) := by decide +kernel
theorem d_Mod_reckon_139 : decode prog_13_method_62_code 139 = .ok (.getfield 508, 3) := by decide +kernel
theorem d_Mod_reckon_142 : decode prog_13_method_62_code 142 = .ok (.iload_n 3, 1) := by decide +kernel
theorem d_Mod_reckon_143 : decode prog_13_method_62_code 143 = .ok (.aload_n 0, 1) := by decide +kernel
theorem d_Mod_reckon_144 : decode prog_13_method_62_code 144 = .ok (.getfield 368, 3) := by decide +kernel
theorem d_Mod_reckon_147 : decode prog_13_method_62_code 147 = .ok (.getfield 508, 3) := by decide +kernel
theorem d_Mod_reckon_150 : decode prog_13_method_62_code 150 = .ok (.iload_n 3, 1) := by decide +kernel
theorem d_Mod_reckon_151 : decode prog_13_method_62_code 151 = .ok (.laload, 1) := by decide +kernel
theorem d_Mod_reckon_152 : decode prog_13_method_62_code 152 = .ok (.lneg, 1) := by decide +kernel
theorem d_Mod_reckon_153 : decode prog_13_method_62_code 153 = .ok (.l2i, 1) := by decide +kernel
theorem d_Mod_reckon_154 : decode prog_13_method_62_code 154 = .ok (.i2l, 1) := by decide +kernel
theorem d_Mod_reckon_155 : decode prog_13_method_62_code 155 = .ok (.lastore, 1) := by decide +kernel
theorem d_Mod_reckon_156 : decode prog_13_method_62_code 156 = .ok (.iconst (-1), 1) := by decide +kernel
theorem d_Mod_reckon_157 : decode prog_13_method_62_code 157 = .ok (.ireturn, 1) := by decide +kernel
theorem d_Mod_reckon_133 : decode prog_13_method_62_code 133 = .ok (.iconst 2, 1) := by decide +kernel
theorem d_Mod_reckon_134 : decode prog_13_method_62_code 134 = .ok (.ireturn, 1) := by decide +kernel
theorem d_Mod_reckon_158 : decode prog_13_method_62_code 158 = .ok (.aload_n 0, 1) := by decide +kernel
theorem d_Mod_reckon_159 : decode prog_13_method_62_code 159 = .ok (.getfield 368, 3) := by decide +kernel
theorem d_Mod_reckon_162 : decode prog_13_method_62_code 162 = .ok (.iload_n 3, 1) := by decide +kernel
theorem d_Mod_reckon_163 : decode prog_13_method_62_code 163 = .ok (.iconst 1, 1) := by decide +kernel
theorem d_Mod_reckon_164 : decode prog_13_method_62_code 164 = .ok (.iconst 0, 1) := by decide +kernel
theorem d_Mod_reckon_165 : decode prog_13_method_62_code 165 = .ok (.aload_n 0, 1) := by decide +kernel
theorem d_Mod_reckon_166 : decode prog_13_method_62_code 166 = .ok (.iload_n 3, 1) := by decide +kernel
theorem d_Mod_reckon_167 : decode prog_13_method_62_code 167 = .ok (.invokevirtual 527, 3) := by decide +kernel
theorem w_2054 : (Cond.methodLink "StowTongueModel" 527 ⟨"StowTongueModel", "isTrue", "(I)Z"⟩ : Cond) ∈ am_tbl := am_w 2054 (by decide +kernel) (by decide +kernel)
set_option maxRecDepth 100000 in
theorem w_2057 : (Cond.code ⟨"StowTongueModel", "isTrue", "(I)Z"⟩ prog_13_method_50_code 2 (some FieldType.boolean) : Cond) ∈ am_tbl := am_w 2057 rfl rfl
theorem l_Mod_527 : am_L "StowTongueModel" 527 1 m_Mod_isTrue := ⟨Or.inl w_2054, w_160, w_2057, ⟨by decide, by decide⟩, by decide +kernel, by decide⟩
theorem w_2056 : (Cond.instanceMethod ⟨"StowTongueModel", "isTrue", "(I)Z"⟩ : Cond) ∈ am_tbl := am_w 2056 (by decide +kernel) (by decide +kernel)
theorem w_124 : (Cond.selects "StowTongueModel" ⟨"StowTongueModel", "isTrue", "(I)Z"⟩ ⟨"StowTongueModel", "isTrue", "(I)Z"⟩ : Cond) ∈ am_tbl := am_w 124 (by decide +kernel) (by decide +kernel)
theorem d_Mod_reckon_170 : decode prog_13_method_62_code 170 = .ok (.ifCond .eq 7, 3) := by decide +kernel
theorem d_Mod_reckon_177 : decode prog_13_method_62_code 177 = .ok (.lconst 1, 1) := by decide +kernel
theorem d_Mod_reckon_178 : decode prog_13_method_62_code 178 = .ok (.lconst 0, 1) := by decide +kernel
theorem d_Mod_reckon_179 : decode prog_13_method_62_code 179 = .ok (.invokevirtual 114, 3) := by decide +kernel
theorem d_Mod_reckon_182 : decode prog_13_method_62_code 182 = .ok (.iconst (-1), 1) := by decide +kernel
theorem d_Mod_reckon_183 : decode prog_13_method_62_code 183 = .ok (.ireturn, 1) := by decide +kernel
theorem d_Mod_reckon_173 : decode prog_13_method_62_code 173 = .ok (.lconst 0, 1) := by decide +kernel
theorem d_Mod_reckon_174 : decode prog_13_method_62_code 174 = .ok (.goto 4, 3) := by decide +kernel
theorem d_Mod_reckon_184 : decode prog_13_method_62_code 184 = .ok (.aload_n 0, 1) := by decide +kernel
theorem d_Mod_reckon_185 : decode prog_13_method_62_code 185 = .ok (.getfield 368, 3) := by decide +kernel
theorem d_Mod_reckon_188 : decode prog_13_method_62_code 188 = .ok (.iload_n 2, 1) := by decide +kernel
theorem d_Mod_reckon_189 : decode prog_13_method_62_code 189 = .ok (.aload_n 0, 1) := by decide +kernel
theorem d_Mod_reckon_190 : decode prog_13_method_62_code 190 = .ok (.getfield 368, 3) := by decide +kernel
theorem d_Mod_reckon_193 : decode prog_13_method_62_code 193 = .ok (.iload_n 3, 1) := by decide +kernel
theorem d_Mod_reckon_194 : decode prog_13_method_62_code 194 = .ok (.invokevirtual 473, 3) := by decide +kernel
theorem w_2108 : (Cond.methodLink "StowTongueModel" 473 ⟨"StowTongueModel$Values", "isLike", "(ILStowTongueModel$Values;I)Z"⟩ : Cond) ∈ am_tbl := am_w 2108 (by decide +kernel) (by decide +kernel)
theorem l_Mod_473 : am_L "StowTongueModel" 473 3 m_Vals_isLike := ⟨Or.inl w_2108, w_162, w_2111, ⟨by decide, by decide⟩, by decide +kernel, by decide⟩
theorem d_Mod_reckon_197 : decode prog_13_method_62_code 197 = .ok (.aload_n 0, 1) := by decide +kernel
theorem d_Mod_reckon_198 : decode prog_13_method_62_code 198 = .ok (.invokevirtual 516, 3) := by decide +kernel
theorem d_Mod_reckon_201 : decode prog_13_method_62_code 201 = .ok (.ifCond .ne 7, 3) := by decide +kernel
theorem d_Mod_reckon_204 : decode prog_13_method_62_code 204 = .ok (.iconst 1, 1) := by decide +kernel
theorem d_Mod_reckon_205 : decode prog_13_method_62_code 205 = .ok (.goto 4, 3) := by decide +kernel
theorem d_Mod_reckon_209 : decode prog_13_method_62_code 209 = .ok (.if_icmp .ne 7, 3) := by decide +kernel
theorem d_Mod_reckon_212 : decode prog_13_method_62_code 212 = .ok (.iconst 1, 1) := by decide +kernel
theorem d_Mod_reckon_213 : decode prog_13_method_62_code 213 = .ok (.goto 4, 3) := by decide +kernel
theorem d_Mod_reckon_217 : decode prog_13_method_62_code 217 = .ok (.istore 7, 2) := by decide +kernel
theorem d_Mod_reckon_219 : decode prog_13_method_62_code 219 = .ok (.goto 157, 3) := by decide +kernel
theorem d_Mod_reckon_376 : decode prog_13_method_62_code 376 = .ok (.aload_n 0, 1) := by decide +kernel
theorem d_Mod_reckon_377 : decode prog_13_method_62_code 377 = .ok (.dup, 1) := by decide +kernel
theorem d_Mod_reckon_378 : decode prog_13_method_62_code 378 = .ok (.getfield 486, 3) := by decide +kernel
theorem d_Mod_reckon_381 : decode prog_13_method_62_code 381 = .ok (.iconst 1, 1) := by decide +kernel
theorem d_Mod_reckon_382 : decode prog_13_method_62_code 382 = .ok (.isub, 1) := by decide +kernel
theorem d_Mod_reckon_383 : decode prog_13_method_62_code 383 = .ok (.putfield 486, 3) := by decide +kernel
theorem d_Mod_reckon_386 : decode prog_13_method_62_code 386 = .ok (.aload_n 0, 1) := by decide +kernel
theorem d_Mod_reckon_387 : decode prog_13_method_62_code 387 = .ok (.getfield 368, 3) := by decide +kernel
theorem d_Mod_reckon_390 : decode prog_13_method_62_code 390 = .ok (.iload_n 2, 1) := by decide +kernel
theorem d_Mod_reckon_391 : decode prog_13_method_62_code 391 = .ok (.iconst 1, 1) := by decide +kernel
theorem d_Mod_reckon_392 : decode prog_13_method_62_code 392 = .ok (.iconst 0, 1) := by decide +kernel
theorem d_Mod_reckon_393 : decode prog_13_method_62_code 393 = .ok (.iload 7, 2) := by decide +kernel
theorem d_Mod_reckon_395 : decode prog_13_method_62_code 395 = .ok (.ifCond .eq 7, 3) := by decide +kernel
theorem d_Mod_reckon_402 : decode prog_13_method_62_code 402 = .ok (.lconst 0, 1) := by decide +kernel
theorem d_Mod_reckon_403 : decode prog_13_method_62_code 403 = .ok (.lconst 0, 1) := by decide +kernel
theorem d_Mod_reckon_404 : decode prog_13_method_62_code 404 = .ok (.invokevirtual 114, 3) := by decide +kernel
theorem d_Mod_reckon_407 : decode prog_13_method_62_code 407 = .ok (.iconst (-1), 1) := by decide +kernel
theorem d_Mod_reckon_408 : decode prog_13_method_62_code 408 = .ok (.ireturn, 1) := by decide +kernel
theorem d_Mod_reckon_398 : decode prog_13_method_62_code 398 = .ok (.lconst 1, 1) := by decide +kernel
theorem d_Mod_reckon_399 : decode prog_13_method_62_code 399 = .ok (.goto 4, 3) := by decide +kernel
theorem d_Mod_reckon_216 : decode prog_13_method_62_code 216 = .ok (.iconst 0, 1) := by decide +kernel
theorem d_Mod_reckon_208 : decode prog_13_method_62_code 208 = .ok (.iconst 0, 1) := by decide +kernel
theorem d_Mod_reckon_222 : decode prog_13_method_62_code 222 = .ok (.aload_n 0, 1) := by decide +kernel
theorem d_Mod_reckon_223 : decode prog_13_method_62_code 223 = .ok (.invokevirtual 516, 3) := by decide +kernel
theorem d_Mod_reckon_226 : decode prog_13_method_62_code 226 = .ok (.istore 4, 2) := by decide +kernel
theorem d_Mod_reckon_228 : decode prog_13_method_62_code 228 = .ok (.iload 5, 2) := by decide +kernel
theorem d_Mod_reckon_230 : decode prog_13_method_62_code 230 = .ok (.ifCond .ne 10, 3) := by decide +kernel
theorem d_Mod_reckon_233 : decode prog_13_method_62_code 233 = .ok (.iload 6, 2) := by decide +kernel
theorem d_Mod_reckon_235 : decode prog_13_method_62_code 235 = .ok (.ifCond .ne 5, 3) := by decide +kernel
theorem d_Mod_reckon_238 : decode prog_13_method_62_code 238 = .ok (.iconst 2, 1) := by decide +kernel
theorem d_Mod_reckon_239 : decode prog_13_method_62_code 239 = .ok (.ireturn, 1) := by decide +kernel
theorem d_Mod_reckon_240 : decode prog_13_method_62_code 240 = .ok (.iload 5, 2) := by decide +kernel
theorem d_Mod_reckon_242 : decode prog_13_method_62_code 242 = .ok (.ifCond .eq 25, 3) := by decide +kernel
theorem d_Mod_reckon_267 : decode prog_13_method_62_code 267 = .ok (.aload_n 0, 1) := by decide +kernel
theorem d_Mod_reckon_268 : decode prog_13_method_62_code 268 = .ok (.iload_n 2, 1) := by decide +kernel
theorem d_Mod_reckon_269 : decode prog_13_method_62_code 269 = .ok (.iload_n 3, 1) := by decide +kernel
theorem d_Mod_reckon_270 : decode prog_13_method_62_code 270 = .ok (.invokevirtual 586, 3) := by decide +kernel
theorem w_2112 : (Cond.methodLink "StowTongueModel" 586 ⟨"StowTongueModel", "order", "(II)I"⟩ : Cond) ∈ am_tbl := am_w 2112 (by decide +kernel) (by decide +kernel)
set_option maxRecDepth 100000 in
theorem w_2115 : (Cond.code ⟨"StowTongueModel", "order", "(II)I"⟩ prog_13_method_61_code 5 (some FieldType.int) : Cond) ∈ am_tbl := am_w 2115 rfl rfl
theorem l_Mod_586 : am_L "StowTongueModel" 586 2 m_Mod_order := ⟨Or.inl w_2112, w_160, w_2115, ⟨by decide, by decide⟩, by decide +kernel, by decide⟩
theorem w_2114 : (Cond.instanceMethod ⟨"StowTongueModel", "order", "(II)I"⟩ : Cond) ∈ am_tbl := am_w 2114 (by decide +kernel) (by decide +kernel)
theorem w_135 : (Cond.selects "StowTongueModel" ⟨"StowTongueModel", "order", "(II)I"⟩ ⟨"StowTongueModel", "order", "(II)I"⟩ : Cond) ∈ am_tbl := am_w 135 (by decide +kernel) (by decide +kernel)
theorem d_Mod_reckon_273 : decode prog_13_method_62_code 273 = .ok (.i2l, 1) := by decide +kernel
theorem d_Mod_reckon_274 : decode prog_13_method_62_code 274 = .ok (.lstore 8, 2) := by decide +kernel
theorem d_Mod_reckon_276 : decode prog_13_method_62_code 276 = .ok (.lload 8, 2) := by decide +kernel
theorem d_Mod_reckon_278 : decode prog_13_method_62_code 278 = .ok (.lconst 0, 1) := by decide +kernel
theorem d_Mod_reckon_279 : decode prog_13_method_62_code 279 = .ok (.lcmp, 1) := by decide +kernel
theorem d_Mod_reckon_280 : decode prog_13_method_62_code 280 = .ok (.ifCond .lt 16, 3) := by decide +kernel
theorem d_Mod_reckon_296 : decode prog_13_method_62_code 296 = .ok (.iconst 1, 1) := by decide +kernel
theorem d_Mod_reckon_297 : decode prog_13_method_62_code 297 = .ok (.goto 4, 3) := by decide +kernel
theorem d_Mod_reckon_301 : decode prog_13_method_62_code 301 = .ok (.istore 7, 2) := by decide +kernel
theorem d_Mod_reckon_303 : decode prog_13_method_62_code 303 = .ok (.goto 73, 3) := by decide +kernel
theorem d_Mod_reckon_283 : decode prog_13_method_62_code 283 = .ok (.lload 8, 2) := by decide +kernel
theorem d_Mod_reckon_285 : decode prog_13_method_62_code 285 = .ok (.lconst 0, 1) := by decide +kernel
theorem d_Mod_reckon_286 : decode prog_13_method_62_code 286 = .ok (.lcmp, 1) := by decide +kernel
theorem d_Mod_reckon_287 : decode prog_13_method_62_code 287 = .ok (.ifCond .ne 13, 3) := by decide +kernel
theorem d_Mod_reckon_290 : decode prog_13_method_62_code 290 = .ok (.iload 4, 2) := by decide +kernel
theorem d_Mod_reckon_292 : decode prog_13_method_62_code 292 = .ok (.iconst 1, 1) := by decide +kernel
theorem d_Mod_reckon_293 : decode prog_13_method_62_code 293 = .ok (.if_icmp .ne 7, 3) := by decide +kernel
theorem d_Mod_reckon_300 : decode prog_13_method_62_code 300 = .ok (.iconst 0, 1) := by decide +kernel
theorem d_Mod_reckon_245 : decode prog_13_method_62_code 245 = .ok (.aload_n 0, 1) := by decide +kernel
theorem d_Mod_reckon_246 : decode prog_13_method_62_code 246 = .ok (.getfield 368, 3) := by decide +kernel
theorem d_Mod_reckon_249 : decode prog_13_method_62_code 249 = .ok (.getfield 508, 3) := by decide +kernel
theorem d_Mod_reckon_252 : decode prog_13_method_62_code 252 = .ok (.iload_n 2, 1) := by decide +kernel
theorem d_Mod_reckon_253 : decode prog_13_method_62_code 253 = .ok (.laload, 1) := by decide +kernel
theorem d_Mod_reckon_254 : decode prog_13_method_62_code 254 = .ok (.aload_n 0, 1) := by decide +kernel
theorem d_Mod_reckon_255 : decode prog_13_method_62_code 255 = .ok (.getfield 368, 3) := by decide +kernel
theorem d_Mod_reckon_258 : decode prog_13_method_62_code 258 = .ok (.getfield 508, 3) := by decide +kernel
theorem d_Mod_reckon_261 : decode prog_13_method_62_code 261 = .ok (.iload_n 3, 1) := by decide +kernel
theorem d_Mod_reckon_262 : decode prog_13_method_62_code 262 = .ok (.laload, 1) := by decide +kernel
theorem d_Mod_reckon_263 : decode prog_13_method_62_code 263 = .ok (.lsub, 1) := by decide +kernel
theorem d_Mod_reckon_264 : decode prog_13_method_62_code 264 = .ok (.goto 10, 3) := by decide +kernel
theorem d_Mod_reckon_306 : decode prog_13_method_62_code 306 = .ok (.aload_n 0, 1) := by decide +kernel
theorem d_Mod_reckon_307 : decode prog_13_method_62_code 307 = .ok (.invokevirtual 516, 3) := by decide +kernel
theorem d_Mod_reckon_310 : decode prog_13_method_62_code 310 = .ok (.istore 4, 2) := by decide +kernel
theorem d_Mod_reckon_312 : decode prog_13_method_62_code 312 = .ok (.aload_n 0, 1) := by decide +kernel
theorem d_Mod_reckon_313 : decode prog_13_method_62_code 313 = .ok (.dup, 1) := by decide +kernel
theorem d_Mod_reckon_314 : decode prog_13_method_62_code 314 = .ok (.getfield 486, 3) := by decide +kernel
theorem d_Mod_reckon_317 : decode prog_13_method_62_code 317 = .ok (.iconst 1, 1) := by decide +kernel
theorem d_Mod_reckon_318 : decode prog_13_method_62_code 318 = .ok (.isub, 1) := by decide +kernel
theorem d_Mod_reckon_319 : decode prog_13_method_62_code 319 = .ok (.putfield 486, 3) := by decide +kernel
theorem d_Mod_reckon_322 : decode prog_13_method_62_code 322 = .ok (.iload 4, 2) := by decide +kernel
theorem d_Mod_reckon_324 : decode prog_13_method_62_code 324 = .ok (.bipush 43, 2) := by decide +kernel
theorem d_Mod_reckon_326 : decode prog_13_method_62_code 326 = .ok (.if_icmp .ne 15, 3) := by decide +kernel
theorem d_Mod_reckon_329 : decode prog_13_method_62_code 329 = .ok (.iload 6, 2) := by decide +kernel
theorem d_Mod_reckon_331 : decode prog_13_method_62_code 331 = .ok (.ifCond .eq 10, 3) := by decide +kernel
theorem d_Mod_reckon_341 : decode prog_13_method_62_code 341 = .ok (.iload 5, 2) := by decide +kernel
theorem d_Mod_reckon_343 : decode prog_13_method_62_code 343 = .ok (.ifCond .eq 31, 3) := by decide +kernel
theorem d_Mod_reckon_374 : decode prog_13_method_62_code 374 = .ok (.iconst 2, 1) := by decide +kernel
theorem d_Mod_reckon_375 : decode prog_13_method_62_code 375 = .ok (.ireturn, 1) := by decide +kernel
theorem d_Mod_reckon_346 : decode prog_13_method_62_code 346 = .ok (.aload_n 0, 1) := by decide +kernel
theorem d_Mod_reckon_347 : decode prog_13_method_62_code 347 = .ok (.iload 4, 2) := by decide +kernel
theorem d_Mod_reckon_349 : decode prog_13_method_62_code 349 = .ok (.iload_n 2, 1) := by decide +kernel
theorem d_Mod_reckon_350 : decode prog_13_method_62_code 350 = .ok (.aload_n 0, 1) := by decide +kernel
theorem d_Mod_reckon_351 : decode prog_13_method_62_code 351 = .ok (.getfield 368, 3) := by decide +kernel
theorem d_Mod_reckon_354 : decode prog_13_method_62_code 354 = .ok (.getfield 508, 3) := by decide +kernel
theorem d_Mod_reckon_357 : decode prog_13_method_62_code 357 = .ok (.iload_n 2, 1) := by decide +kernel
theorem d_Mod_reckon_358 : decode prog_13_method_62_code 358 = .ok (.laload, 1) := by decide +kernel
theorem d_Mod_reckon_359 : decode prog_13_method_62_code 359 = .ok (.aload_n 0, 1) := by decide +kernel
theorem d_Mod_reckon_360 : decode prog_13_method_62_code 360 = .ok (.getfield 368, 3) := by decide +kernel
theorem d_Mod_reckon_363 : decode prog_13_method_62_code 363 = .ok (.getfield 508, 3) := by decide +kernel
theorem d_Mod_reckon_366 : decode prog_13_method_62_code 366 = .ok (.iload_n 3, 1) := by decide +kernel
theorem d_Mod_reckon_367 : decode prog_13_method_62_code 367 = .ok (.laload, 1) := by decide +kernel
theorem d_Mod_reckon_368 : decode prog_13_method_62_code 368 = .ok (.invokevirtual 592, 3) := by decide +kernel
theorem w_2121 : (Cond.methodLink "StowTongueModel" 592 ⟨"StowTongueModel", "sum", "(IIJJ)I"⟩ : Cond) ∈ am_tbl := am_w 2121 (by decide +kernel) (by decide +kernel)
set_option maxRecDepth 100000 in
theorem w_2124 : (Cond.code ⟨"StowTongueModel", "sum", "(IIJJ)I"⟩ prog_13_method_64_code 9 (some FieldType.int) : Cond) ∈ am_tbl := am_w 2124 rfl rfl
theorem l_Mod_592 : am_L "StowTongueModel" 592 4 m_Mod_sum_IIJJ := ⟨Or.inl w_2121, w_160, w_2124, ⟨by decide, by decide⟩, by decide +kernel, by decide⟩
theorem w_2123 : (Cond.instanceMethod ⟨"StowTongueModel", "sum", "(IIJJ)I"⟩ : Cond) ∈ am_tbl := am_w 2123 (by decide +kernel) (by decide +kernel)
theorem w_137 : (Cond.selects "StowTongueModel" ⟨"StowTongueModel", "sum", "(IIJJ)I"⟩ ⟨"StowTongueModel", "sum", "(IIJJ)I"⟩ : Cond) ∈ am_tbl := am_w 137 (by decide +kernel) (by decide +kernel)
theorem d_Mod_reckon_371 : decode prog_13_method_62_code 371 = .ok (.goto 4, 3) := by decide +kernel
theorem d_Mod_reckon_334 : decode prog_13_method_62_code 334 = .ok (.aload_n 0, 1) := by decide +kernel
theorem d_Mod_reckon_335 : decode prog_13_method_62_code 335 = .ok (.iload_n 2, 1) := by decide +kernel
theorem d_Mod_reckon_336 : decode prog_13_method_62_code 336 = .ok (.iload_n 3, 1) := by decide +kernel
theorem d_Mod_reckon_337 : decode prog_13_method_62_code 337 = .ok (.invokevirtual 589, 3) := by decide +kernel
theorem w_2117 : (Cond.methodLink "StowTongueModel" 589 ⟨"StowTongueModel", "join", "(II)I"⟩ : Cond) ∈ am_tbl := am_w 2117 (by decide +kernel) (by decide +kernel)
set_option maxRecDepth 100000 in
theorem w_2120 : (Cond.code ⟨"StowTongueModel", "join", "(II)I"⟩ prog_13_method_63_code 4 (some FieldType.int) : Cond) ∈ am_tbl := am_w 2120 rfl rfl
theorem l_Mod_589 : am_L "StowTongueModel" 589 2 m_Mod_join := ⟨Or.inl w_2117, w_160, w_2120, ⟨by decide, by decide⟩, by decide +kernel, by decide⟩
theorem w_2119 : (Cond.instanceMethod ⟨"StowTongueModel", "join", "(II)I"⟩ : Cond) ∈ am_tbl := am_w 2119 (by decide +kernel) (by decide +kernel)
theorem w_136 : (Cond.selects "StowTongueModel" ⟨"StowTongueModel", "join", "(II)I"⟩ ⟨"StowTongueModel", "join", "(II)I"⟩ : Cond) ∈ am_tbl := am_w 136 (by decide +kernel) (by decide +kernel)
theorem d_Mod_reckon_340 : decode prog_13_method_62_code 340 = .ok (.ireturn, 1) := by decide +kernel
theorem d_Mod_reckon_55 : decode prog_13_method_62_code 55 = .ok (.aload_n 0, 1) := by decide +kernel
theorem d_Mod_reckon_56 : decode prog_13_method_62_code 56 = .ok (.getfield 368, 3) := by decide +kernel
theorem d_Mod_reckon_59 : decode prog_13_method_62_code 59 = .ok (.getfield 515, 3) := by decide +kernel
theorem d_Mod_reckon_62 : decode prog_13_method_62_code 62 = .ok (.iload_n 2, 1) := by decide +kernel
theorem d_Mod_reckon_63 : decode prog_13_method_62_code 63 = .ok (.iaload, 1) := by decide +kernel
theorem d_Mod_reckon_64 : decode prog_13_method_62_code 64 = .ok (.iconst 2, 1) := by decide +kernel
theorem d_Mod_reckon_65 : decode prog_13_method_62_code 65 = .ok (.if_icmp .ne 20, 3) := by decide +kernel
theorem d_Mod_reckon_68 : decode prog_13_method_62_code 68 = .ok (.aload_n 0, 1) := by decide +kernel
theorem d_Mod_reckon_69 : decode prog_13_method_62_code 69 = .ok (.getfield 368, 3) := by decide +kernel
theorem d_Mod_reckon_72 : decode prog_13_method_62_code 72 = .ok (.getfield 515, 3) := by decide +kernel
theorem d_Mod_reckon_75 : decode prog_13_method_62_code 75 = .ok (.iload_n 3, 1) := by decide +kernel
theorem d_Mod_reckon_76 : decode prog_13_method_62_code 76 = .ok (.iaload, 1) := by decide +kernel
theorem d_Mod_reckon_77 : decode prog_13_method_62_code 77 = .ok (.iconst 2, 1) := by decide +kernel
theorem d_Mod_reckon_78 : decode prog_13_method_62_code 78 = .ok (.if_icmp .ne 7, 3) := by decide +kernel
theorem d_Mod_reckon_81 : decode prog_13_method_62_code 81 = .ok (.iconst 1, 1) := by decide +kernel
theorem d_Mod_reckon_82 : decode prog_13_method_62_code 82 = .ok (.goto 4, 3) := by decide +kernel
theorem d_Mod_reckon_18 : decode prog_13_method_62_code 18 = .ok (.aload_n 0, 1) := by decide +kernel
theorem d_Mod_reckon_19 : decode prog_13_method_62_code 19 = .ok (.getfield 368, 3) := by decide +kernel
theorem d_Mod_reckon_22 : decode prog_13_method_62_code 22 = .ok (.getfield 515, 3) := by decide +kernel
theorem d_Mod_reckon_25 : decode prog_13_method_62_code 25 = .ok (.iload_n 2, 1) := by decide +kernel
theorem d_Mod_reckon_26 : decode prog_13_method_62_code 26 = .ok (.iaload, 1) := by decide +kernel
theorem d_Mod_reckon_27 : decode prog_13_method_62_code 27 = .ok (.iconst 1, 1) := by decide +kernel
theorem d_Mod_reckon_28 : decode prog_13_method_62_code 28 = .ok (.if_icmp .ne 20, 3) := by decide +kernel
theorem d_Mod_reckon_31 : decode prog_13_method_62_code 31 = .ok (.aload_n 0, 1) := by decide +kernel
theorem d_Mod_reckon_32 : decode prog_13_method_62_code 32 = .ok (.getfield 368, 3) := by decide +kernel
theorem d_Mod_reckon_35 : decode prog_13_method_62_code 35 = .ok (.getfield 515, 3) := by decide +kernel
theorem d_Mod_reckon_38 : decode prog_13_method_62_code 38 = .ok (.iload_n 3, 1) := by decide +kernel
theorem d_Mod_reckon_39 : decode prog_13_method_62_code 39 = .ok (.iaload, 1) := by decide +kernel
theorem d_Mod_reckon_40 : decode prog_13_method_62_code 40 = .ok (.iconst 1, 1) := by decide +kernel
theorem d_Mod_reckon_41 : decode prog_13_method_62_code 41 = .ok (.if_icmp .ne 7, 3) := by decide +kernel
theorem d_Mod_reckon_44 : decode prog_13_method_62_code 44 = .ok (.iconst 1, 1) := by decide +kernel
theorem d_Mod_reckon_45 : decode prog_13_method_62_code 45 = .ok (.goto 4, 3) := by decide +kernel
