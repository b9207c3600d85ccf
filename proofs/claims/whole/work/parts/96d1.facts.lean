abbrev m_Mod_bad : am_M := (⟨"StowTongueModel", "bad", "()Z"⟩, prog_13_method_7_code, 1, (some FieldType.boolean))
theorem d_Mod_bad_0 : decode prog_13_method_7_code 0 = .ok (.aload_n 0, 1) := by decide +kernel
theorem d_Mod_bad_1 : decode prog_13_method_7_code 1 = .ok (.getfield 77, 3) := by decide +kernel
theorem w_1631 : (Cond.fieldLink "StowTongueModel" 77 "StowTongueModel" "fault" "I" : Cond) ∈ am_tbl := am_w 1631 (by decide +kernel) (by decide +kernel)
theorem f_Mod_77 : am_F "StowTongueModel" 77 14 9 := ⟨_, rfl, cl_14, by decide, Or.inl w_1631⟩
theorem d_Mod_bad_4 : decode prog_13_method_7_code 4 = .ok (.ifCond .ge 11, 3) := by decide +kernel
theorem d_Mod_bad_15 : decode prog_13_method_7_code 15 = .ok (.iconst 0, 1) := by decide +kernel
theorem d_Mod_bad_16 : decode prog_13_method_7_code 16 = .ok (.ireturn, 1) := by decide +kernel
theorem d_Mod_bad_7 : decode prog_13_method_7_code 7 = .ok (.aload_n 0, 1) := by decide +kernel
theorem d_Mod_bad_8 : decode prog_13_method_7_code 8 = .ok (.aload_n 0, 1) := by decide +kernel
theorem d_Mod_bad_9 : decode prog_13_method_7_code 9 = .ok (.getfield 9, 3) := by decide +kernel
theorem d_Mod_bad_12 : decode prog_13_method_7_code 12 = .ok (.putfield 77, 3) := by decide +kernel
abbrev m_Mod_name : am_M := (⟨"StowTongueModel", "name", "()J"⟩, prog_13_method_9_code, 4, (some FieldType.long))
theorem d_Mod_name_0 : decode prog_13_method_9_code 0 = .ok (.lconst 0, 1) := by decide +kernel
theorem d_Mod_name_1 : decode prog_13_method_9_code 1 = .ok (.lstore_n 1, 1) := by decide +kernel
theorem d_Mod_name_2 : decode prog_13_method_9_code 2 = .ok (.aload_n 0, 1) := by decide +kernel
theorem d_Mod_name_3 : decode prog_13_method_9_code 3 = .ok (.getfield 9, 3) := by decide +kernel
theorem d_Mod_name_6 : decode prog_13_method_9_code 6 = .ok (.istore_n 3, 1) := by decide +kernel
theorem d_Mod_name_7 : decode prog_13_method_9_code 7 = .ok (.iload_n 3, 1) := by decide +kernel
theorem d_Mod_name_8 : decode prog_13_method_9_code 8 = .ok (.aload_n 0, 1) := by decide +kernel
theorem d_Mod_name_9 : decode prog_13_method_9_code 9 = .ok (.getfield 74, 3) := by decide +kernel
theorem d_Mod_name_12 : decode prog_13_method_9_code 12 = .ok (.if_icmp .ge 22, 3) := by decide +kernel
theorem d_Mod_name_34 : decode prog_13_method_9_code 34 = .ok (.lload_n 1, 1) := by decide +kernel
theorem d_Mod_name_35 : decode prog_13_method_9_code 35 = .ok (.lreturn, 1) := by decide +kernel
theorem d_Mod_name_15 : decode prog_13_method_9_code 15 = .ok (.lload_n 1, 1) := by decide +kernel
theorem d_Mod_name_16 : decode prog_13_method_9_code 16 = .ok (.bipush 8, 2) := by decide +kernel
theorem d_Mod_name_18 : decode prog_13_method_9_code 18 = .ok (.lshl, 1) := by decide +kernel
theorem d_Mod_name_19 : decode prog_13_method_9_code 19 = .ok (.aload_n 0, 1) := by decide +kernel
theorem d_Mod_name_20 : decode prog_13_method_9_code 20 = .ok (.getfield 22, 3) := by decide +kernel
theorem d_Mod_name_23 : decode prog_13_method_9_code 23 = .ok (.iload_n 3, 1) := by decide +kernel
theorem d_Mod_name_24 : decode prog_13_method_9_code 24 = .ok (.baload, 1) := by decide +kernel
theorem d_Mod_name_25 : decode prog_13_method_9_code 25 = .ok (.i2l, 1) := by decide +kernel
theorem d_Mod_name_26 : decode prog_13_method_9_code 26 = .ok (.lor, 1) := by decide +kernel
theorem d_Mod_name_27 : decode prog_13_method_9_code 27 = .ok (.lstore_n 1, 1) := by decide +kernel
theorem d_Mod_name_28 : decode prog_13_method_9_code 28 = .ok (.iinc 3 1, 3) := by decide +kernel
theorem d_Mod_name_31 : decode prog_13_method_9_code 31 = .ok (.goto (-24), 3) := by decide +kernel
abbrev m_Mod_localOf : am_M := (⟨"StowTongueModel", "localOf", "(J)I"⟩, prog_13_method_14_code, 4, (some FieldType.int))
theorem d_Mod_localOf_0 : decode prog_13_method_14_code 0 = .ok (.aload_n 0, 1) := by decide +kernel
theorem d_Mod_localOf_1 : decode prog_13_method_14_code 1 = .ok (.getfield 123, 3) := by decide +kernel
theorem w_1646 : (Cond.fieldLink "StowTongueModel" 123 "StowTongueModel" "locals" "I" : Cond) ∈ am_tbl := am_w 1646 (by decide +kernel) (by decide +kernel)
theorem f_Mod_123 : am_F "StowTongueModel" 123 14 24 := ⟨_, rfl, cl_14, by decide, Or.inl w_1646⟩
theorem d_Mod_localOf_4 : decode prog_13_method_14_code 4 = .ok (.iconst 1, 1) := by decide +kernel
theorem d_Mod_localOf_5 : decode prog_13_method_14_code 5 = .ok (.isub, 1) := by decide +kernel
theorem d_Mod_localOf_6 : decode prog_13_method_14_code 6 = .ok (.istore_n 3, 1) := by decide +kernel
theorem d_Mod_localOf_7 : decode prog_13_method_14_code 7 = .ok (.iload_n 3, 1) := by decide +kernel
theorem d_Mod_localOf_8 : decode prog_13_method_14_code 8 = .ok (.ifCond .lt 22, 3) := by decide +kernel
theorem d_Mod_localOf_30 : decode prog_13_method_14_code 30 = .ok (.iconst (-1), 1) := by decide +kernel
theorem d_Mod_localOf_31 : decode prog_13_method_14_code 31 = .ok (.ireturn, 1) := by decide +kernel
theorem d_Mod_localOf_11 : decode prog_13_method_14_code 11 = .ok (.aload_n 0, 1) := by decide +kernel
theorem d_Mod_localOf_12 : decode prog_13_method_14_code 12 = .ok (.getfield 126, 3) := by decide +kernel
theorem d_Mod_localOf_15 : decode prog_13_method_14_code 15 = .ok (.iload_n 3, 1) := by decide +kernel
theorem d_Mod_localOf_16 : decode prog_13_method_14_code 16 = .ok (.laload, 1) := by decide +kernel
theorem d_Mod_localOf_17 : decode prog_13_method_14_code 17 = .ok (.lload_n 1, 1) := by decide +kernel
theorem d_Mod_localOf_18 : decode prog_13_method_14_code 18 = .ok (.lcmp, 1) := by decide +kernel
theorem d_Mod_localOf_19 : decode prog_13_method_14_code 19 = .ok (.ifCond .ne 5, 3) := by decide +kernel
theorem d_Mod_localOf_22 : decode prog_13_method_14_code 22 = .ok (.iload_n 3, 1) := by decide +kernel
theorem d_Mod_localOf_23 : decode prog_13_method_14_code 23 = .ok (.ireturn, 1) := by decide +kernel
theorem d_Mod_localOf_24 : decode prog_13_method_14_code 24 = .ok (.iinc 3 (-1), 3) := by decide +kernel
theorem d_Mod_localOf_27 : decode prog_13_method_14_code 27 = .ok (.goto (-20), 3) := by decide +kernel
abbrev m_Mod_let : am_M := (⟨"StowTongueModel", "let", "(J)I"⟩, prog_13_method_15_code, 4, (some FieldType.int))
theorem d_Mod_let_0 : decode prog_13_method_15_code 0 = .ok (.aload_n 0, 1) := by decide +kernel
theorem d_Mod_let_1 : decode prog_13_method_15_code 1 = .ok (.lload_n 1, 1) := by decide +kernel
theorem d_Mod_let_2 : decode prog_13_method_15_code 2 = .ok (.invokevirtual 130, 3) := by decide +kernel
theorem w_1855 : (Cond.methodLink "StowTongueModel" 130 ⟨"StowTongueModel", "localOf", "(J)I"⟩ : Cond) ∈ am_tbl := am_w 1855 (by decide +kernel) (by decide +kernel)
set_option maxRecDepth 100000 in
theorem w_1858 : (Cond.code ⟨"StowTongueModel", "localOf", "(J)I"⟩ prog_13_method_14_code 4 (some FieldType.int) : Cond) ∈ am_tbl := am_w 1858 rfl rfl
theorem l_Mod_130 : am_L "StowTongueModel" 130 1 m_Mod_localOf := ⟨Or.inl w_1855, w_160, w_1858, ⟨by decide, by decide⟩, by decide +kernel, by decide⟩
theorem w_1857 : (Cond.instanceMethod ⟨"StowTongueModel", "localOf", "(J)I"⟩ : Cond) ∈ am_tbl := am_w 1857 (by decide +kernel) (by decide +kernel)
theorem w_91 : (Cond.selects "StowTongueModel" ⟨"StowTongueModel", "localOf", "(J)I"⟩ ⟨"StowTongueModel", "localOf", "(J)I"⟩ : Cond) ∈ am_tbl := am_w 91 (by decide +kernel) (by decide +kernel)
theorem d_Mod_let_5 : decode prog_13_method_15_code 5 = .ok (.istore_n 3, 1) := by decide +kernel
theorem d_Mod_let_6 : decode prog_13_method_15_code 6 = .ok (.iload_n 3, 1) := by decide +kernel
theorem d_Mod_let_7 : decode prog_13_method_15_code 7 = .ok (.ifCond .lt 5, 3) := by decide +kernel
theorem d_Mod_let_12 : decode prog_13_method_15_code 12 = .ok (.aload_n 0, 1) := by decide +kernel
theorem d_Mod_let_13 : decode prog_13_method_15_code 13 = .ok (.getfield 126, 3) := by decide +kernel
theorem d_Mod_let_16 : decode prog_13_method_15_code 16 = .ok (.aload_n 0, 1) := by decide +kernel
theorem d_Mod_let_17 : decode prog_13_method_15_code 17 = .ok (.getfield 123, 3) := by decide +kernel
theorem d_Mod_let_20 : decode prog_13_method_15_code 20 = .ok (.lload_n 1, 1) := by decide +kernel
theorem d_Mod_let_21 : decode prog_13_method_15_code 21 = .ok (.lastore, 1) := by decide +kernel
theorem d_Mod_let_22 : decode prog_13_method_15_code 22 = .ok (.aload_n 0, 1) := by decide +kernel
theorem d_Mod_let_23 : decode prog_13_method_15_code 23 = .ok (.dup, 1) := by decide +kernel
theorem d_Mod_let_24 : decode prog_13_method_15_code 24 = .ok (.getfield 123, 3) := by decide +kernel
theorem d_Mod_let_27 : decode prog_13_method_15_code 27 = .ok (.iconst 1, 1) := by decide +kernel
theorem d_Mod_let_28 : decode prog_13_method_15_code 28 = .ok (.iadd, 1) := by decide +kernel
theorem d_Mod_let_29 : decode prog_13_method_15_code 29 = .ok (.putfield 123, 3) := by decide +kernel
theorem d_Mod_let_32 : decode prog_13_method_15_code 32 = .ok (.aload_n 0, 1) := by decide +kernel
theorem d_Mod_let_33 : decode prog_13_method_15_code 33 = .ok (.getfield 123, 3) := by decide +kernel
theorem d_Mod_let_36 : decode prog_13_method_15_code 36 = .ok (.iconst 1, 1) := by decide +kernel
theorem d_Mod_let_37 : decode prog_13_method_15_code 37 = .ok (.isub, 1) := by decide +kernel
theorem d_Mod_let_38 : decode prog_13_method_15_code 38 = .ok (.ireturn, 1) := by decide +kernel
theorem d_Mod_let_10 : decode prog_13_method_15_code 10 = .ok (.iload_n 3, 1) := by decide +kernel
theorem d_Mod_let_11 : decode prog_13_method_15_code 11 = .ok (.ireturn, 1) := by decide +kernel
abbrev m_Mod_put_I : am_M := (⟨"StowTongueModel", "put", "(I)I"⟩, prog_13_method_10_code, 2, (some FieldType.int))
theorem d_Mod_put_I_0 : decode prog_13_method_10_code 0 = .ok (.aload_n 0, 1) := by decide +kernel
theorem d_Mod_put_I_1 : decode prog_13_method_10_code 1 = .ok (.getfield 91, 3) := by decide +kernel
theorem w_1644 : (Cond.fieldLink "StowTongueModel" 91 "StowTongueModel" "c" "LStowTongueModel$Code;" : Cond) ∈ am_tbl := am_w 1644 (by decide +kernel) (by decide +kernel)
theorem f_Mod_91 : am_F "StowTongueModel" 91 14 22 := ⟨_, rfl, cl_14, by decide, Or.inl w_1644⟩
theorem d_Mod_put_I_4 : decode prog_13_method_10_code 4 = .ok (.getfield 95, 3) := by decide +kernel
theorem w_1522 : (Cond.fieldLink "StowTongueModel" 95 "StowTongueModel$Code" "step" "[I" : Cond) ∈ am_tbl := am_w 1522 (by decide +kernel) (by decide +kernel)
theorem f_Mod_95 : am_F "StowTongueModel" 95 12 0 := ⟨_, rfl, cl_12, by decide, Or.inl w_1522⟩
theorem d_Mod_put_I_7 : decode prog_13_method_10_code 7 = .ok (.aload_n 0, 1) := by decide +kernel
theorem d_Mod_put_I_8 : decode prog_13_method_10_code 8 = .ok (.getfield 91, 3) := by decide +kernel
theorem d_Mod_put_I_11 : decode prog_13_method_10_code 11 = .ok (.getfield 100, 3) := by decide +kernel
theorem w_1526 : (Cond.fieldLink "StowTongueModel" 100 "StowTongueModel$Code" "many" "I" : Cond) ∈ am_tbl := am_w 1526 (by decide +kernel) (by decide +kernel)
theorem f_Mod_100 : am_F "StowTongueModel" 100 12 2 := ⟨_, rfl, cl_12, by decide, Or.inl w_1526⟩
theorem d_Mod_put_I_14 : decode prog_13_method_10_code 14 = .ok (.iload_n 1, 1) := by decide +kernel
theorem d_Mod_put_I_15 : decode prog_13_method_10_code 15 = .ok (.iastore, 1) := by decide +kernel
theorem d_Mod_put_I_16 : decode prog_13_method_10_code 16 = .ok (.aload_n 0, 1) := by decide +kernel
theorem d_Mod_put_I_17 : decode prog_13_method_10_code 17 = .ok (.getfield 91, 3) := by decide +kernel
theorem d_Mod_put_I_20 : decode prog_13_method_10_code 20 = .ok (.dup, 1) := by decide +kernel
theorem d_Mod_put_I_21 : decode prog_13_method_10_code 21 = .ok (.getfield 100, 3) := by decide +kernel
theorem d_Mod_put_I_24 : decode prog_13_method_10_code 24 = .ok (.iconst 1, 1) := by decide +kernel
theorem d_Mod_put_I_25 : decode prog_13_method_10_code 25 = .ok (.iadd, 1) := by decide +kernel
theorem d_Mod_put_I_26 : decode prog_13_method_10_code 26 = .ok (.putfield 100, 3) := by decide +kernel
theorem d_Mod_put_I_29 : decode prog_13_method_10_code 29 = .ok (.aload_n 0, 1) := by decide +kernel
theorem d_Mod_put_I_30 : decode prog_13_method_10_code 30 = .ok (.getfield 91, 3) := by decide +kernel
theorem d_Mod_put_I_33 : decode prog_13_method_10_code 33 = .ok (.getfield 100, 3) := by decide +kernel
theorem d_Mod_put_I_36 : decode prog_13_method_10_code 36 = .ok (.iconst 1, 1) := by decide +kernel
theorem d_Mod_put_I_37 : decode prog_13_method_10_code 37 = .ok (.isub, 1) := by decide +kernel
theorem d_Mod_put_I_38 : decode prog_13_method_10_code 38 = .ok (.ireturn, 1) := by decide +kernel
abbrev m_Mod_put_II : am_M := (⟨"StowTongueModel", "put", "(II)V"⟩, prog_13_method_11_code, 3, none)
theorem d_Mod_put_II_0 : decode prog_13_method_11_code 0 = .ok (.aload_n 0, 1) := by decide +kernel
theorem d_Mod_put_II_1 : decode prog_13_method_11_code 1 = .ok (.iload_n 1, 1) := by decide +kernel
theorem d_Mod_put_II_2 : decode prog_13_method_11_code 2 = .ok (.invokevirtual 103, 3) := by decide +kernel
theorem w_1873 : (Cond.methodLink "StowTongueModel" 103 ⟨"StowTongueModel", "put", "(I)I"⟩ : Cond) ∈ am_tbl := am_w 1873 (by decide +kernel) (by decide +kernel)
set_option maxRecDepth 100000 in
theorem w_1876 : (Cond.code ⟨"StowTongueModel", "put", "(I)I"⟩ prog_13_method_10_code 2 (some FieldType.int) : Cond) ∈ am_tbl := am_w 1876 rfl rfl
theorem l_Mod_103 : am_L "StowTongueModel" 103 1 m_Mod_put_I := ⟨Or.inl w_1873, w_160, w_1876, ⟨by decide, by decide⟩, by decide +kernel, by decide⟩
theorem w_1875 : (Cond.instanceMethod ⟨"StowTongueModel", "put", "(I)I"⟩ : Cond) ∈ am_tbl := am_w 1875 (by decide +kernel) (by decide +kernel)
theorem w_95 : (Cond.selects "StowTongueModel" ⟨"StowTongueModel", "put", "(I)I"⟩ ⟨"StowTongueModel", "put", "(I)I"⟩ : Cond) ∈ am_tbl := am_w 95 (by decide +kernel) (by decide +kernel)
theorem d_Mod_put_II_5 : decode prog_13_method_11_code 5 = .ok (.pop, 1) := by decide +kernel
theorem d_Mod_put_II_6 : decode prog_13_method_11_code 6 = .ok (.aload_n 0, 1) := by decide +kernel
theorem d_Mod_put_II_7 : decode prog_13_method_11_code 7 = .ok (.iload_n 2, 1) := by decide +kernel
theorem d_Mod_put_II_8 : decode prog_13_method_11_code 8 = .ok (.invokevirtual 103, 3) := by decide +kernel
theorem d_Mod_put_II_11 : decode prog_13_method_11_code 11 = .ok (.pop, 1) := by decide +kernel
theorem d_Mod_put_II_12 : decode prog_13_method_11_code 12 = .ok (.return_, 1) := by decide +kernel
abbrev m_Mod_nameValue : am_M := (⟨"StowTongueModel", "nameValue", "(J)I"⟩, prog_13_method_13_code, 3, (some FieldType.int))
theorem d_Mod_nameValue_0 : decode prog_13_method_13_code 0 = .ok (.aload_n 0, 1) := by decide +kernel
theorem d_Mod_nameValue_1 : decode prog_13_method_13_code 1 = .ok (.getfield 91, 3) := by decide +kernel
theorem d_Mod_nameValue_4 : decode prog_13_method_13_code 4 = .ok (.getfield 107, 3) := by decide +kernel
theorem w_1524 : (Cond.fieldLink "StowTongueModel" 107 "StowTongueModel$Code" "value" "LStowTongueModel$Values;" : Cond) ∈ am_tbl := am_w 1524 (by decide +kernel) (by decide +kernel)
theorem f_Mod_107 : am_F "StowTongueModel" 107 12 1 := ⟨_, rfl, cl_12, by decide, Or.inl w_1524⟩
theorem d_Mod_nameValue_7 : decode prog_13_method_13_code 7 = .ok (.aload_n 0, 1) := by decide +kernel
theorem d_Mod_nameValue_8 : decode prog_13_method_13_code 8 = .ok (.getfield 91, 3) := by decide +kernel
theorem d_Mod_nameValue_11 : decode prog_13_method_13_code 11 = .ok (.getfield 111, 3) := by decide +kernel
theorem w_1528 : (Cond.fieldLink "StowTongueModel" 111 "StowTongueModel$Code" "values" "I" : Cond) ∈ am_tbl := am_w 1528 (by decide +kernel) (by decide +kernel)
theorem f_Mod_111 : am_F "StowTongueModel" 111 12 3 := ⟨_, rfl, cl_12, by decide, Or.inl w_1528⟩
theorem d_Mod_nameValue_14 : decode prog_13_method_13_code 14 = .ok (.iconst 1, 1) := by decide +kernel
theorem d_Mod_nameValue_15 : decode prog_13_method_13_code 15 = .ok (.iconst 0, 1) := by decide +kernel
theorem d_Mod_nameValue_16 : decode prog_13_method_13_code 16 = .ok (.lload_n 1, 1) := by decide +kernel
theorem d_Mod_nameValue_17 : decode prog_13_method_13_code 17 = .ok (.lconst 0, 1) := by decide +kernel
theorem d_Mod_nameValue_18 : decode prog_13_method_13_code 18 = .ok (.invokevirtual 114, 3) := by decide +kernel
theorem w_1913 : (Cond.methodLink "StowTongueModel" 114 ⟨"StowTongueModel$Values", "set", "(IIIJJ)V"⟩ : Cond) ∈ am_tbl := am_w 1913 (by decide +kernel) (by decide +kernel)
theorem l_Mod_114 : am_L "StowTongueModel" 114 5 m_Vals_set := ⟨Or.inl w_1913, w_162, w_1916, ⟨by decide, by decide⟩, by decide +kernel, by decide⟩
theorem d_Mod_nameValue_21 : decode prog_13_method_13_code 21 = .ok (.aload_n 0, 1) := by decide +kernel
theorem d_Mod_nameValue_22 : decode prog_13_method_13_code 22 = .ok (.getfield 91, 3) := by decide +kernel
theorem d_Mod_nameValue_25 : decode prog_13_method_13_code 25 = .ok (.dup, 1) := by decide +kernel
theorem d_Mod_nameValue_26 : decode prog_13_method_13_code 26 = .ok (.getfield 111, 3) := by decide +kernel
theorem d_Mod_nameValue_29 : decode prog_13_method_13_code 29 = .ok (.iconst 1, 1) := by decide +kernel
theorem d_Mod_nameValue_30 : decode prog_13_method_13_code 30 = .ok (.iadd, 1) := by decide +kernel
theorem d_Mod_nameValue_31 : decode prog_13_method_13_code 31 = .ok (.putfield 111, 3) := by decide +kernel
theorem d_Mod_nameValue_34 : decode prog_13_method_13_code 34 = .ok (.aload_n 0, 1) := by decide +kernel
theorem d_Mod_nameValue_35 : decode prog_13_method_13_code 35 = .ok (.getfield 91, 3) := by decide +kernel
theorem d_Mod_nameValue_38 : decode prog_13_method_13_code 38 = .ok (.getfield 111, 3) := by decide +kernel
theorem d_Mod_nameValue_41 : decode prog_13_method_13_code 41 = .ok (.iconst 1, 1) := by decide +kernel
theorem d_Mod_nameValue_42 : decode prog_13_method_13_code 42 = .ok (.isub, 1) := by decide +kernel
theorem d_Mod_nameValue_43 : decode prog_13_method_13_code 43 = .ok (.ireturn, 1) := by decide +kernel
abbrev m_Mod_mark : am_M := (⟨"StowTongueModel", "mark", "(LStowTongueModel$State;)V"⟩, prog_13_method_38_code, 3, none)
theorem d_Mod_mark_0 : decode prog_13_method_38_code 0 = .ok (.iconst 0, 1) := by decide +kernel
theorem d_Mod_mark_1 : decode prog_13_method_38_code 1 = .ok (.istore_n 2, 1) := by decide +kernel
theorem d_Mod_mark_2 : decode prog_13_method_38_code 2 = .ok (.iload_n 2, 1) := by decide +kernel
theorem d_Mod_mark_3 : decode prog_13_method_38_code 3 = .ok (.aload_n 1, 1) := by decide +kernel
theorem d_Mod_mark_4 : decode prog_13_method_38_code 4 = .ok (.getfield 396, 3) := by decide +kernel
theorem d_Mod_mark_7 : decode prog_13_method_38_code 7 = .ok (.if_icmp .ge 19, 3) := by decide +kernel
theorem d_Mod_mark_26 : decode prog_13_method_38_code 26 = .ok (.return_, 1) := by decide +kernel
theorem d_Mod_mark_10 : decode prog_13_method_38_code 10 = .ok (.aload_n 1, 1) := by decide +kernel
theorem d_Mod_mark_11 : decode prog_13_method_38_code 11 = .ok (.getfield 399, 3) := by decide +kernel
theorem w_1586 : (Cond.fieldLink "StowTongueModel" 399 "StowTongueModel$State" "code" "[LStowTongueModel$Code;" : Cond) ∈ am_tbl := am_w 1586 (by decide +kernel) (by decide +kernel)
theorem f_Mod_399 : am_F "StowTongueModel" 399 13 7 := ⟨_, rfl, cl_13, by decide, Or.inl w_1586⟩
theorem d_Mod_mark_14 : decode prog_13_method_38_code 14 = .ok (.iload_n 2, 1) := by decide +kernel
theorem d_Mod_mark_15 : decode prog_13_method_38_code 15 = .ok (.aaload, 1) := by decide +kernel
theorem d_Mod_mark_16 : decode prog_13_method_38_code 16 = .ok (.iconst 1, 1) := by decide +kernel
theorem d_Mod_mark_17 : decode prog_13_method_38_code 17 = .ok (.putfield 402, 3) := by decide +kernel
theorem w_1539 : (Cond.fieldLink "StowTongueModel" 402 "StowTongueModel$Code" "used" "Z" : Cond) ∈ am_tbl := am_w 1539 (by decide +kernel) (by decide +kernel)
theorem f_Mod_402 : am_F "StowTongueModel" 402 12 9 := ⟨_, rfl, cl_12, by decide, Or.inl w_1539⟩
theorem d_Mod_mark_20 : decode prog_13_method_38_code 20 = .ok (.iinc 2 1, 3) := by decide +kernel
theorem d_Mod_mark_23 : decode prog_13_method_38_code 23 = .ok (.goto (-21), 3) := by decide +kernel
abbrev m_Code_cut : am_M := (⟨"StowTongueModel$Code", "cut", "(LStowTongueModel$Code;IIII)V"⟩, prog_14_method_3_code, 7, none)
theorem d_Code_cut_0 : decode prog_14_method_3_code 0 = .ok (.aload_n 1, 1) := by decide +kernel
theorem d_Code_cut_1 : decode prog_14_method_3_code 1 = .ok (.getfield 7, 3) := by decide +kernel
theorem d_Code_cut_4 : decode prog_14_method_3_code 4 = .ok (.iload_n 2, 1) := by decide +kernel
theorem d_Code_cut_5 : decode prog_14_method_3_code 5 = .ok (.aload_n 0, 1) := by decide +kernel
theorem d_Code_cut_6 : decode prog_14_method_3_code 6 = .ok (.getfield 7, 3) := by decide +kernel
theorem d_Code_cut_9 : decode prog_14_method_3_code 9 = .ok (.iconst 0, 1) := by decide +kernel
theorem d_Code_cut_10 : decode prog_14_method_3_code 10 = .ok (.iload_n 3, 1) := by decide +kernel
theorem d_Code_cut_11 : decode prog_14_method_3_code 11 = .ok (.iload_n 2, 1) := by decide +kernel
theorem d_Code_cut_12 : decode prog_14_method_3_code 12 = .ok (.isub, 1) := by decide +kernel
theorem d_Code_cut_13 : decode prog_14_method_3_code 13 = .ok (.invokestatic 38, 3) := by decide +kernel
theorem w_2016 : (Cond.methodLink "StowTongueModel$Code" 38 ⟨"java/lang/System", "arraycopy", "(Ljava/lang/Object;ILjava/lang/Object;II)V"⟩ : Cond) ∈ am_tbl := am_w 2016 (by decide +kernel) (by decide +kernel)
theorem d_Code_cut_16 : decode prog_14_method_3_code 16 = .ok (.aload_n 0, 1) := by decide +kernel
theorem d_Code_cut_17 : decode prog_14_method_3_code 17 = .ok (.iload_n 3, 1) := by decide +kernel
theorem d_Code_cut_18 : decode prog_14_method_3_code 18 = .ok (.iload_n 2, 1) := by decide +kernel
theorem d_Code_cut_19 : decode prog_14_method_3_code 19 = .ok (.isub, 1) := by decide +kernel
theorem d_Code_cut_20 : decode prog_14_method_3_code 20 = .ok (.putfield 22, 3) := by decide +kernel
theorem d_Code_cut_23 : decode prog_14_method_3_code 23 = .ok (.iload 4, 2) := by decide +kernel
theorem d_Code_cut_25 : decode prog_14_method_3_code 25 = .ok (.istore 6, 2) := by decide +kernel
theorem d_Code_cut_27 : decode prog_14_method_3_code 27 = .ok (.iload 6, 2) := by decide +kernel
theorem d_Code_cut_29 : decode prog_14_method_3_code 29 = .ok (.iload 5, 2) := by decide +kernel
theorem d_Code_cut_31 : decode prog_14_method_3_code 31 = .ok (.if_icmp .ge 27, 3) := by decide +kernel
theorem d_Code_cut_58 : decode prog_14_method_3_code 58 = .ok (.aload_n 0, 1) := by decide +kernel
theorem d_Code_cut_59 : decode prog_14_method_3_code 59 = .ok (.iload 5, 2) := by decide +kernel
theorem d_Code_cut_61 : decode prog_14_method_3_code 61 = .ok (.iload 4, 2) := by decide +kernel
theorem d_Code_cut_63 : decode prog_14_method_3_code 63 = .ok (.isub, 1) := by decide +kernel
theorem d_Code_cut_64 : decode prog_14_method_3_code 64 = .ok (.putfield 26, 3) := by decide +kernel
theorem d_Code_cut_67 : decode prog_14_method_3_code 67 = .ok (.aload_n 0, 1) := by decide +kernel
theorem d_Code_cut_68 : decode prog_14_method_3_code 68 = .ok (.iload_n 2, 1) := by decide +kernel
theorem d_Code_cut_69 : decode prog_14_method_3_code 69 = .ok (.putfield 48, 3) := by decide +kernel
theorem w_1535 : (Cond.fieldLink "StowTongueModel$Code" 48 "StowTongueModel$Code" "base" "I" : Cond) ∈ am_tbl := am_w 1535 (by decide +kernel) (by decide +kernel)
theorem f_Code_48 : am_F "StowTongueModel$Code" 48 12 7 := ⟨_, rfl, cl_12, by decide, Or.inl w_1535⟩
theorem d_Code_cut_72 : decode prog_14_method_3_code 72 = .ok (.aload_n 0, 1) := by decide +kernel
theorem d_Code_cut_73 : decode prog_14_method_3_code 73 = .ok (.iload 4, 2) := by decide +kernel
theorem d_Code_cut_75 : decode prog_14_method_3_code 75 = .ok (.putfield 51, 3) := by decide +kernel
theorem w_1537 : (Cond.fieldLink "StowTongueModel$Code" 51 "StowTongueModel$Code" "valueBase" "I" : Cond) ∈ am_tbl := am_w 1537 (by decide +kernel) (by decide +kernel)
theorem f_Code_51 : am_F "StowTongueModel$Code" 51 12 8 := ⟨_, rfl, cl_12, by decide, Or.inl w_1537⟩
theorem d_Code_cut_78 : decode prog_14_method_3_code 78 = .ok (.return_, 1) := by decide +kernel
theorem d_Code_cut_34 : decode prog_14_method_3_code 34 = .ok (.aload_n 0, 1) := by decide +kernel
theorem d_Code_cut_35 : decode prog_14_method_3_code 35 = .ok (.getfield 18, 3) := by decide +kernel
theorem d_Code_cut_38 : decode prog_14_method_3_code 38 = .ok (.iload 6, 2) := by decide +kernel
theorem d_Code_cut_40 : decode prog_14_method_3_code 40 = .ok (.iload 4, 2) := by decide +kernel
theorem d_Code_cut_42 : decode prog_14_method_3_code 42 = .ok (.isub, 1) := by decide +kernel
theorem d_Code_cut_43 : decode prog_14_method_3_code 43 = .ok (.aload_n 1, 1) := by decide +kernel
theorem d_Code_cut_44 : decode prog_14_method_3_code 44 = .ok (.getfield 18, 3) := by decide +kernel
theorem d_Code_cut_47 : decode prog_14_method_3_code 47 = .ok (.iload 6, 2) := by decide +kernel
theorem d_Code_cut_49 : decode prog_14_method_3_code 49 = .ok (.invokevirtual 44, 3) := by decide +kernel
theorem w_2017 : (Cond.methodLink "StowTongueModel$Code" 44 ⟨"StowTongueModel$Values", "copy", "(ILStowTongueModel$Values;I)V"⟩ : Cond) ∈ am_tbl := am_w 2017 (by decide +kernel) (by decide +kernel)
set_option maxRecDepth 100000 in
theorem w_1994 : (Cond.code ⟨"StowTongueModel$Values", "copy", "(ILStowTongueModel$Values;I)V"⟩ prog_16_method_3_code 4 none : Cond) ∈ am_tbl := am_w 1994 rfl rfl
theorem l_Code_44 : am_L "StowTongueModel$Code" 44 3 m_Vals_copy := ⟨Or.inl w_2017, w_162, w_1994, ⟨by decide, by decide⟩, by decide +kernel, by decide⟩
theorem w_1992 : (Cond.instanceMethod ⟨"StowTongueModel$Values", "copy", "(ILStowTongueModel$Values;I)V"⟩ : Cond) ∈ am_tbl := am_w 1992 (by decide +kernel) (by decide +kernel)
theorem w_1993 : (Cond.selects "StowTongueModel$Values" ⟨"StowTongueModel$Values", "copy", "(ILStowTongueModel$Values;I)V"⟩ ⟨"StowTongueModel$Values", "copy", "(ILStowTongueModel$Values;I)V"⟩ : Cond) ∈ am_tbl := am_w 1993 (by decide +kernel) (by decide +kernel)
theorem d_Code_cut_52 : decode prog_14_method_3_code 52 = .ok (.iinc 6 1, 3) := by decide +kernel
theorem d_Code_cut_55 : decode prog_14_method_3_code 55 = .ok (.goto (-28), 3) := by decide +kernel
theorem d_Mod_tokensOf_12 : decode prog_13_method_41_code 12 = .ok (.iload_n 1, 1) := by decide +kernel
theorem d_Mod_tokensOf_13 : decode prog_13_method_41_code 13 = .ok (.aload_n 0, 1) := by decide +kernel
theorem d_Mod_tokensOf_14 : decode prog_13_method_41_code 14 = .ok (.getfield 399, 3) := by decide +kernel
theorem d_Mod_tokensOf_17 : decode prog_13_method_41_code 17 = .ok (.iload_n 2, 1) := by decide +kernel
theorem d_Mod_tokensOf_18 : decode prog_13_method_41_code 18 = .ok (.aaload, 1) := by decide +kernel
theorem d_Mod_tokensOf_19 : decode prog_13_method_41_code 19 = .ok (.getfield 423, 3) := by decide +kernel
theorem w_1530 : (Cond.fieldLink "StowTongueModel" 423 "StowTongueModel$Code" "tokens" "I" : Cond) ∈ am_tbl := am_w 1530 (by decide +kernel) (by decide +kernel)
theorem f_Mod_423 : am_F "StowTongueModel" 423 12 4 := ⟨_, rfl, cl_12, by decide, Or.inl w_1530⟩
theorem d_Mod_tokensOf_22 : decode prog_13_method_41_code 22 = .ok (.iadd, 1) := by decide +kernel
theorem d_Mod_tokensOf_23 : decode prog_13_method_41_code 23 = .ok (.istore_n 1, 1) := by decide +kernel
theorem d_Mod_tokensOf_24 : decode prog_13_method_41_code 24 = .ok (.iinc 2 1, 3) := by decide +kernel
theorem d_Mod_tokensOf_27 : decode prog_13_method_41_code 27 = .ok (.goto (-23), 3) := by decide +kernel
abbrev m_Mod_enter : am_M := (⟨"StowTongueModel", "enter", "(LStowTongueModel$Code;I)V"⟩, prog_13_method_45_code, 4, none)
theorem d_Mod_enter_0 : decode prog_13_method_45_code 0 = .ok (.aload_n 0, 1) := by decide +kernel
theorem d_Mod_enter_1 : decode prog_13_method_45_code 1 = .ok (.getfield 380, 3) := by decide +kernel
theorem d_Mod_enter_4 : decode prog_13_method_45_code 4 = .ok (.aload_n 0, 1) := by decide +kernel
theorem d_Mod_enter_5 : decode prog_13_method_45_code 5 = .ok (.getfield 492, 3) := by decide +kernel
theorem w_1667 : (Cond.fieldLink "StowTongueModel" 492 "StowTongueModel" "frames" "I" : Cond) ∈ am_tbl := am_w 1667 (by decide +kernel) (by decide +kernel)
theorem f_Mod_492 : am_F "StowTongueModel" 492 14 45 := ⟨_, rfl, cl_14, by decide, Or.inl w_1667⟩
theorem d_Mod_enter_8 : decode prog_13_method_45_code 8 = .ok (.aload_n 1, 1) := by decide +kernel
theorem d_Mod_enter_9 : decode prog_13_method_45_code 9 = .ok (.aastore, 1) := by decide +kernel
theorem d_Mod_enter_10 : decode prog_13_method_45_code 10 = .ok (.aload_n 0, 1) := by decide +kernel
theorem d_Mod_enter_11 : decode prog_13_method_45_code 11 = .ok (.getfield 383, 3) := by decide +kernel
theorem d_Mod_enter_14 : decode prog_13_method_45_code 14 = .ok (.aload_n 0, 1) := by decide +kernel
theorem d_Mod_enter_15 : decode prog_13_method_45_code 15 = .ok (.getfield 492, 3) := by decide +kernel
theorem d_Mod_enter_18 : decode prog_13_method_45_code 18 = .ok (.aload_n 0, 1) := by decide +kernel
theorem d_Mod_enter_19 : decode prog_13_method_45_code 19 = .ok (.getfield 502, 3) := by decide +kernel
theorem w_1668 : (Cond.fieldLink "StowTongueModel" 502 "StowTongueModel" "pc" "I" : Cond) ∈ am_tbl := am_w 1668 (by decide +kernel) (by decide +kernel)
theorem f_Mod_502 : am_F "StowTongueModel" 502 14 46 := ⟨_, rfl, cl_14, by decide, Or.inl w_1668⟩
theorem d_Mod_enter_22 : decode prog_13_method_45_code 22 = .ok (.iastore, 1) := by decide +kernel
theorem d_Mod_enter_23 : decode prog_13_method_45_code 23 = .ok (.aload_n 0, 1) := by decide +kernel
theorem d_Mod_enter_24 : decode prog_13_method_45_code 24 = .ok (.getfield 386, 3) := by decide +kernel
theorem d_Mod_enter_27 : decode prog_13_method_45_code 27 = .ok (.aload_n 0, 1) := by decide +kernel
theorem d_Mod_enter_28 : decode prog_13_method_45_code 28 = .ok (.getfield 492, 3) := by decide +kernel
theorem d_Mod_enter_31 : decode prog_13_method_45_code 31 = .ok (.aload_n 0, 1) := by decide +kernel
theorem d_Mod_enter_32 : decode prog_13_method_45_code 32 = .ok (.getfield 489, 3) := by decide +kernel
theorem w_1664 : (Cond.fieldLink "StowTongueModel" 489 "StowTongueModel" "placed" "I" : Cond) ∈ am_tbl := am_w 1664 (by decide +kernel) (by decide +kernel)
theorem f_Mod_489 : am_F "StowTongueModel" 489 14 42 := ⟨_, rfl, cl_14, by decide, Or.inl w_1664⟩
theorem d_Mod_enter_35 : decode prog_13_method_45_code 35 = .ok (.iastore, 1) := by decide +kernel
theorem d_Mod_enter_36 : decode prog_13_method_45_code 36 = .ok (.iconst 0, 1) := by decide +kernel
theorem d_Mod_enter_37 : decode prog_13_method_45_code 37 = .ok (.istore_n 3, 1) := by decide +kernel
theorem d_Mod_enter_38 : decode prog_13_method_45_code 38 = .ok (.iload_n 3, 1) := by decide +kernel
theorem d_Mod_enter_39 : decode prog_13_method_45_code 39 = .ok (.aload_n 1, 1) := by decide +kernel
theorem d_Mod_enter_40 : decode prog_13_method_45_code 40 = .ok (.getfield 160, 3) := by decide +kernel
theorem w_1534 : (Cond.fieldLink "StowTongueModel" 160 "StowTongueModel$Code" "locals" "I" : Cond) ∈ am_tbl := am_w 1534 (by decide +kernel) (by decide +kernel)
theorem f_Mod_160 : am_F "StowTongueModel" 160 12 6 := ⟨_, rfl, cl_12, by decide, Or.inl w_1534⟩
theorem d_Mod_enter_43 : decode prog_13_method_45_code 43 = .ok (.if_icmp .ge 26, 3) := by decide +kernel
theorem d_Mod_enter_69 : decode prog_13_method_45_code 69 = .ok (.iconst 0, 1) := by decide +kernel
theorem d_Mod_enter_70 : decode prog_13_method_45_code 70 = .ok (.istore_n 3, 1) := by decide +kernel
theorem d_Mod_enter_71 : decode prog_13_method_45_code 71 = .ok (.iload_n 3, 1) := by decide +kernel
theorem d_Mod_enter_72 : decode prog_13_method_45_code 72 = .ok (.iload_n 2, 1) := by decide +kernel
theorem d_Mod_enter_73 : decode prog_13_method_45_code 73 = .ok (.if_icmp .ge 34, 3) := by decide +kernel
theorem d_Mod_enter_107 : decode prog_13_method_45_code 107 = .ok (.aload_n 0, 1) := by decide +kernel
theorem d_Mod_enter_108 : decode prog_13_method_45_code 108 = .ok (.dup, 1) := by decide +kernel
theorem d_Mod_enter_109 : decode prog_13_method_45_code 109 = .ok (.getfield 486, 3) := by decide +kernel
theorem w_1663 : (Cond.fieldLink "StowTongueModel" 486 "StowTongueModel" "top" "I" : Cond) ∈ am_tbl := am_w 1663 (by decide +kernel) (by decide +kernel)
theorem f_Mod_486 : am_F "StowTongueModel" 486 14 41 := ⟨_, rfl, cl_14, by decide, Or.inl w_1663⟩
theorem d_Mod_enter_112 : decode prog_13_method_45_code 112 = .ok (.iload_n 2, 1) := by decide +kernel
theorem d_Mod_enter_113 : decode prog_13_method_45_code 113 = .ok (.isub, 1) := by decide +kernel
theorem d_Mod_enter_114 : decode prog_13_method_45_code 114 = .ok (.putfield 486, 3) := by decide +kernel
theorem d_Mod_enter_117 : decode prog_13_method_45_code 117 = .ok (.aload_n 0, 1) := by decide +kernel
theorem d_Mod_enter_118 : decode prog_13_method_45_code 118 = .ok (.dup, 1) := by decide +kernel
theorem d_Mod_enter_119 : decode prog_13_method_45_code 119 = .ok (.getfield 489, 3) := by decide +kernel
theorem d_Mod_enter_122 : decode prog_13_method_45_code 122 = .ok (.aload_n 1, 1) := by decide +kernel
theorem d_Mod_enter_123 : decode prog_13_method_45_code 123 = .ok (.getfield 160, 3) := by decide +kernel
theorem d_Mod_enter_126 : decode prog_13_method_45_code 126 = .ok (.iadd, 1) := by decide +kernel
theorem d_Mod_enter_127 : decode prog_13_method_45_code 127 = .ok (.putfield 489, 3) := by decide +kernel
theorem d_Mod_enter_130 : decode prog_13_method_45_code 130 = .ok (.aload_n 0, 1) := by decide +kernel
theorem d_Mod_enter_131 : decode prog_13_method_45_code 131 = .ok (.dup, 1) := by decide +kernel
theorem d_Mod_enter_132 : decode prog_13_method_45_code 132 = .ok (.getfield 492, 3) := by decide +kernel
theorem d_Mod_enter_135 : decode prog_13_method_45_code 135 = .ok (.iconst 1, 1) := by decide +kernel
theorem d_Mod_enter_136 : decode prog_13_method_45_code 136 = .ok (.iadd, 1) := by decide +kernel
theorem d_Mod_enter_137 : decode prog_13_method_45_code 137 = .ok (.putfield 492, 3) := by decide +kernel
theorem d_Mod_enter_140 : decode prog_13_method_45_code 140 = .ok (.aload_n 0, 1) := by decide +kernel
theorem d_Mod_enter_141 : decode prog_13_method_45_code 141 = .ok (.iconst 0, 1) := by decide +kernel
theorem d_Mod_enter_142 : decode prog_13_method_45_code 142 = .ok (.putfield 502, 3) := by decide +kernel
theorem d_Mod_enter_145 : decode prog_13_method_45_code 145 = .ok (.return_, 1) := by decide +kernel
theorem d_Mod_enter_76 : decode prog_13_method_45_code 76 = .ok (.aload_n 0, 1) := by decide +kernel
theorem d_Mod_enter_77 : decode prog_13_method_45_code 77 = .ok (.getfield 371, 3) := by decide +kernel
theorem d_Mod_enter_80 : decode prog_13_method_45_code 80 = .ok (.aload_n 0, 1) := by decide +kernel
theorem d_Mod_enter_81 : decode prog_13_method_45_code 81 = .ok (.getfield 489, 3) := by decide +kernel
theorem d_Mod_enter_84 : decode prog_13_method_45_code 84 = .ok (.iload_n 3, 1) := by decide +kernel
theorem d_Mod_enter_85 : decode prog_13_method_45_code 85 = .ok (.iadd, 1) := by decide +kernel
theorem d_Mod_enter_86 : decode prog_13_method_45_code 86 = .ok (.aload_n 0, 1) := by decide +kernel
theorem d_Mod_enter_87 : decode prog_13_method_45_code 87 = .ok (.getfield 368, 3) := by decide +kernel
theorem d_Mod_enter_90 : decode prog_13_method_45_code 90 = .ok (.aload_n 0, 1) := by decide +kernel
theorem d_Mod_enter_91 : decode prog_13_method_45_code 91 = .ok (.getfield 486, 3) := by decide +kernel
theorem d_Mod_enter_94 : decode prog_13_method_45_code 94 = .ok (.iload_n 2, 1) := by decide +kernel
theorem d_Mod_enter_95 : decode prog_13_method_45_code 95 = .ok (.isub, 1) := by decide +kernel
theorem d_Mod_enter_96 : decode prog_13_method_45_code 96 = .ok (.iload_n 3, 1) := by decide +kernel
theorem d_Mod_enter_97 : decode prog_13_method_45_code 97 = .ok (.iadd, 1) := by decide +kernel
theorem d_Mod_enter_98 : decode prog_13_method_45_code 98 = .ok (.invokevirtual 505, 3) := by decide +kernel
theorem w_2029 : (Cond.methodLink "StowTongueModel" 505 ⟨"StowTongueModel$Values", "copy", "(ILStowTongueModel$Values;I)V"⟩ : Cond) ∈ am_tbl := am_w 2029 (by decide +kernel) (by decide +kernel)
theorem l_Mod_505 : am_L "StowTongueModel" 505 3 m_Vals_copy := ⟨Or.inl w_2029, w_162, w_1994, ⟨by decide, by decide⟩, by decide +kernel, by decide⟩
theorem d_Mod_enter_101 : decode prog_13_method_45_code 101 = .ok (.iinc 3 1, 3) := by decide +kernel
theorem d_Mod_enter_104 : decode prog_13_method_45_code 104 = .ok (.goto (-33), 3) := by decide +kernel
theorem d_Mod_enter_46 : decode prog_13_method_45_code 46 = .ok (.aload_n 0, 1) := by decide +kernel
theorem d_Mod_enter_47 : decode prog_13_method_45_code 47 = .ok (.getfield 371, 3) := by decide +kernel
theorem d_Mod_enter_50 : decode prog_13_method_45_code 50 = .ok (.aload_n 0, 1) := by decide +kernel
theorem d_Mod_enter_51 : decode prog_13_method_45_code 51 = .ok (.getfield 489, 3) := by decide +kernel
theorem d_Mod_enter_54 : decode prog_13_method_45_code 54 = .ok (.iload_n 3, 1) := by decide +kernel
theorem d_Mod_enter_55 : decode prog_13_method_45_code 55 = .ok (.iadd, 1) := by decide +kernel
theorem d_Mod_enter_56 : decode prog_13_method_45_code 56 = .ok (.iconst 0, 1) := by decide +kernel
theorem d_Mod_enter_57 : decode prog_13_method_45_code 57 = .ok (.iconst 0, 1) := by decide +kernel
theorem d_Mod_enter_58 : decode prog_13_method_45_code 58 = .ok (.lconst 0, 1) := by decide +kernel
theorem d_Mod_enter_59 : decode prog_13_method_45_code 59 = .ok (.lconst 0, 1) := by decide +kernel
theorem d_Mod_enter_60 : decode prog_13_method_45_code 60 = .ok (.invokevirtual 114, 3) := by decide +kernel
theorem d_Mod_enter_63 : decode prog_13_method_45_code 63 = .ok (.iinc 3 1, 3) := by decide +kernel
theorem d_Mod_enter_66 : decode prog_13_method_45_code 66 = .ok (.goto (-28), 3) := by decide +kernel
abbrev m_Mod_next : am_M := (⟨"StowTongueModel", "next", "()I"⟩, prog_13_method_46_code, 1, (some FieldType.int))
theorem d_Mod_next_0 : decode prog_13_method_46_code 0 = .ok (.aload_n 0, 1) := by decide +kernel
theorem d_Mod_next_1 : decode prog_13_method_46_code 1 = .ok (.dup, 1) := by decide +kernel
theorem d_Mod_next_2 : decode prog_13_method_46_code 2 = .ok (.getfield 502, 3) := by decide +kernel
theorem d_Mod_next_5 : decode prog_13_method_46_code 5 = .ok (.iconst 1, 1) := by decide +kernel
theorem d_Mod_next_6 : decode prog_13_method_46_code 6 = .ok (.iadd, 1) := by decide +kernel
theorem d_Mod_next_7 : decode prog_13_method_46_code 7 = .ok (.putfield 502, 3) := by decide +kernel
theorem d_Mod_next_10 : decode prog_13_method_46_code 10 = .ok (.aload_n 0, 1) := by decide +kernel
theorem d_Mod_next_11 : decode prog_13_method_46_code 11 = .ok (.getfield 380, 3) := by decide +kernel
theorem d_Mod_next_14 : decode prog_13_method_46_code 14 = .ok (.aload_n 0, 1) := by decide +kernel
theorem d_Mod_next_15 : decode prog_13_method_46_code 15 = .ok (.getfield 492, 3) := by decide +kernel
theorem d_Mod_next_18 : decode prog_13_method_46_code 18 = .ok (.iconst 1, 1) := by decide +kernel
theorem d_Mod_next_19 : decode prog_13_method_46_code 19 = .ok (.isub, 1) := by decide +kernel
theorem d_Mod_next_20 : decode prog_13_method_46_code 20 = .ok (.aaload, 1) := by decide +kernel
theorem d_Mod_next_21 : decode prog_13_method_46_code 21 = .ok (.getfield 95, 3) := by decide +kernel
theorem d_Mod_next_24 : decode prog_13_method_46_code 24 = .ok (.aload_n 0, 1) := by decide +kernel
theorem d_Mod_next_25 : decode prog_13_method_46_code 25 = .ok (.getfield 502, 3) := by decide +kernel
theorem d_Mod_next_28 : decode prog_13_method_46_code 28 = .ok (.iconst 1, 1) := by decide +kernel
theorem d_Mod_next_29 : decode prog_13_method_46_code 29 = .ok (.isub, 1) := by decide +kernel
theorem d_Mod_next_30 : decode prog_13_method_46_code 30 = .ok (.iaload, 1) := by decide +kernel
theorem d_Mod_next_31 : decode prog_13_method_46_code 31 = .ok (.ireturn, 1) := by decide +kernel
abbrev m_Mod_text : am_M := (⟨"StowTongueModel", "text", "(I)J"⟩, prog_13_method_47_code, 3, (some FieldType.long))
theorem d_Mod_text_0 : decode prog_13_method_47_code 0 = .ok (.aload_n 0, 1) := by decide +kernel
theorem d_Mod_text_1 : decode prog_13_method_47_code 1 = .ok (.getfield 380, 3) := by decide +kernel
theorem d_Mod_text_4 : decode prog_13_method_47_code 4 = .ok (.aload_n 0, 1) := by decide +kernel
theorem d_Mod_text_5 : decode prog_13_method_47_code 5 = .ok (.getfield 492, 3) := by decide +kernel
theorem d_Mod_text_8 : decode prog_13_method_47_code 8 = .ok (.iconst 1, 1) := by decide +kernel
theorem d_Mod_text_9 : decode prog_13_method_47_code 9 = .ok (.isub, 1) := by decide +kernel
theorem d_Mod_text_10 : decode prog_13_method_47_code 10 = .ok (.aaload, 1) := by decide +kernel
theorem d_Mod_text_11 : decode prog_13_method_47_code 11 = .ok (.astore_n 2, 1) := by decide +kernel
theorem d_Mod_text_12 : decode prog_13_method_47_code 12 = .ok (.aload_n 2, 1) := by decide +kernel
theorem d_Mod_text_13 : decode prog_13_method_47_code 13 = .ok (.getfield 107, 3) := by decide +kernel
theorem d_Mod_text_16 : decode prog_13_method_47_code 16 = .ok (.getfield 508, 3) := by decide +kernel
theorem w_1509 : (Cond.fieldLink "StowTongueModel" 508 "StowTongueModel$Values" "one" "[J" : Cond) ∈ am_tbl := am_w 1509 (by decide +kernel) (by decide +kernel)
theorem f_Mod_508 : am_F "StowTongueModel" 508 11 2 := ⟨_, rfl, cl_11, by decide, Or.inl w_1509⟩
theorem d_Mod_text_19 : decode prog_13_method_47_code 19 = .ok (.iload_n 1, 1) := by decide +kernel
theorem d_Mod_text_20 : decode prog_13_method_47_code 20 = .ok (.aload_n 2, 1) := by decide +kernel
theorem d_Mod_text_21 : decode prog_13_method_47_code 21 = .ok (.getfield 510, 3) := by decide +kernel
theorem w_1538 : (Cond.fieldLink "StowTongueModel" 510 "StowTongueModel$Code" "valueBase" "I" : Cond) ∈ am_tbl := am_w 1538 (by decide +kernel) (by decide +kernel)
theorem f_Mod_510 : am_F "StowTongueModel" 510 12 8 := ⟨_, rfl, cl_12, by decide, Or.inl w_1538⟩
theorem d_Mod_text_24 : decode prog_13_method_47_code 24 = .ok (.isub, 1) := by decide +kernel
theorem d_Mod_text_25 : decode prog_13_method_47_code 25 = .ok (.laload, 1) := by decide +kernel
theorem d_Mod_text_26 : decode prog_13_method_47_code 26 = .ok (.lreturn, 1) := by decide +kernel
abbrev m_Mod_setRoot : am_M := (⟨"StowTongueModel", "setRoot", "(J)I"⟩, prog_13_method_55_code, 4, (some FieldType.int))
theorem d_Mod_setRoot_0 : decode prog_13_method_55_code 0 = .ok (.aload_n 0, 1) := by decide +kernel
theorem d_Mod_setRoot_1 : decode prog_13_method_55_code 1 = .ok (.dup, 1) := by decide +kernel
theorem d_Mod_setRoot_2 : decode prog_13_method_55_code 2 = .ok (.getfield 486, 3) := by decide +kernel
theorem d_Mod_setRoot_5 : decode prog_13_method_55_code 5 = .ok (.iconst 1, 1) := by decide +kernel
theorem d_Mod_setRoot_6 : decode prog_13_method_55_code 6 = .ok (.isub, 1) := by decide +kernel
theorem d_Mod_setRoot_7 : decode prog_13_method_55_code 7 = .ok (.putfield 486, 3) := by decide +kernel
theorem d_Mod_setRoot_10 : decode prog_13_method_55_code 10 = .ok (.aload_n 0, 1) := by decide +kernel
theorem d_Mod_setRoot_11 : decode prog_13_method_55_code 11 = .ok (.getfield 353, 3) := by decide +kernel
theorem d_Mod_setRoot_14 : decode prog_13_method_55_code 14 = .ok (.lload_n 1, 1) := by decide +kernel
theorem d_Mod_setRoot_15 : decode prog_13_method_55_code 15 = .ok (.invokevirtual 469, 3) := by decide +kernel
theorem d_Mod_setRoot_18 : decode prog_13_method_55_code 18 = .ok (.istore_n 3, 1) := by decide +kernel
theorem d_Mod_setRoot_19 : decode prog_13_method_55_code 19 = .ok (.aload_n 0, 1) := by decide +kernel
theorem d_Mod_setRoot_20 : decode prog_13_method_55_code 20 = .ok (.getfield 368, 3) := by decide +kernel
theorem d_Mod_setRoot_23 : decode prog_13_method_55_code 23 = .ok (.getfield 515, 3) := by decide +kernel
theorem d_Mod_setRoot_26 : decode prog_13_method_55_code 26 = .ok (.aload_n 0, 1) := by decide +kernel
theorem d_Mod_setRoot_27 : decode prog_13_method_55_code 27 = .ok (.getfield 486, 3) := by decide +kernel
theorem d_Mod_setRoot_30 : decode prog_13_method_55_code 30 = .ok (.iaload, 1) := by decide +kernel
theorem d_Mod_setRoot_31 : decode prog_13_method_55_code 31 = .ok (.ifCond .ne 73, 3) := by decide +kernel
theorem d_Mod_setRoot_34 : decode prog_13_method_55_code 34 = .ok (.iload_n 3, 1) := by decide +kernel
theorem d_Mod_setRoot_35 : decode prog_13_method_55_code 35 = .ok (.ifCond .ge 5, 3) := by decide +kernel
theorem d_Mod_setRoot_40 : decode prog_13_method_55_code 40 = .ok (.aload_n 0, 1) := by decide +kernel
theorem d_Mod_setRoot_41 : decode prog_13_method_55_code 41 = .ok (.getfield 353, 3) := by decide +kernel
theorem d_Mod_setRoot_44 : decode prog_13_method_55_code 44 = .ok (.dup, 1) := by decide +kernel
theorem d_Mod_setRoot_45 : decode prog_13_method_55_code 45 = .ok (.getfield 463, 3) := by decide +kernel
theorem d_Mod_setRoot_48 : decode prog_13_method_55_code 48 = .ok (.iconst 1, 1) := by decide +kernel
theorem d_Mod_setRoot_49 : decode prog_13_method_55_code 49 = .ok (.isub, 1) := by decide +kernel
theorem d_Mod_setRoot_50 : decode prog_13_method_55_code 50 = .ok (.putfield 463, 3) := by decide +kernel
theorem d_Mod_setRoot_53 : decode prog_13_method_55_code 53 = .ok (.aload_n 0, 1) := by decide +kernel
theorem d_Mod_setRoot_54 : decode prog_13_method_55_code 54 = .ok (.getfield 353, 3) := by decide +kernel
theorem d_Mod_setRoot_57 : decode prog_13_method_55_code 57 = .ok (.getfield 466, 3) := by decide +kernel
theorem w_1578 : (Cond.fieldLink "StowTongueModel" 466 "StowTongueModel$State" "root" "[J" : Cond) ∈ am_tbl := am_w 1578 (by decide +kernel) (by decide +kernel)
theorem f_Mod_466 : am_F "StowTongueModel" 466 13 3 := ⟨_, rfl, cl_13, by decide, Or.inl w_1578⟩
theorem d_Mod_setRoot_60 : decode prog_13_method_55_code 60 = .ok (.iload_n 3, 1) := by decide +kernel
theorem d_Mod_setRoot_61 : decode prog_13_method_55_code 61 = .ok (.aload_n 0, 1) := by decide +kernel
theorem d_Mod_setRoot_62 : decode prog_13_method_55_code 62 = .ok (.getfield 353, 3) := by decide +kernel
theorem d_Mod_setRoot_65 : decode prog_13_method_55_code 65 = .ok (.getfield 466, 3) := by decide +kernel
theorem d_Mod_setRoot_68 : decode prog_13_method_55_code 68 = .ok (.aload_n 0, 1) := by decide +kernel
theorem d_Mod_setRoot_69 : decode prog_13_method_55_code 69 = .ok (.getfield 353, 3) := by decide +kernel
theorem d_Mod_setRoot_72 : decode prog_13_method_55_code 72 = .ok (.getfield 463, 3) := by decide +kernel
theorem d_Mod_setRoot_75 : decode prog_13_method_55_code 75 = .ok (.laload, 1) := by decide +kernel
theorem d_Mod_setRoot_76 : decode prog_13_method_55_code 76 = .ok (.lastore, 1) := by decide +kernel
theorem d_Mod_setRoot_77 : decode prog_13_method_55_code 77 = .ok (.aload_n 0, 1) := by decide +kernel
theorem d_Mod_setRoot_78 : decode prog_13_method_55_code 78 = .ok (.getfield 353, 3) := by decide +kernel
theorem d_Mod_setRoot_81 : decode prog_13_method_55_code 81 = .ok (.getfield 472, 3) := by decide +kernel
theorem w_1584 : (Cond.fieldLink "StowTongueModel" 472 "StowTongueModel$State" "value" "LStowTongueModel$Values;" : Cond) ∈ am_tbl := am_w 1584 (by decide +kernel) (by decide +kernel)
theorem f_Mod_472 : am_F "StowTongueModel" 472 13 6 := ⟨_, rfl, cl_13, by decide, Or.inl w_1584⟩
theorem d_Mod_setRoot_84 : decode prog_13_method_55_code 84 = .ok (.iload_n 3, 1) := by decide +kernel
theorem d_Mod_setRoot_85 : decode prog_13_method_55_code 85 = .ok (.aload_n 0, 1) := by decide +kernel
theorem d_Mod_setRoot_86 : decode prog_13_method_55_code 86 = .ok (.getfield 353, 3) := by decide +kernel
theorem d_Mod_setRoot_89 : decode prog_13_method_55_code 89 = .ok (.getfield 472, 3) := by decide +kernel
theorem d_Mod_setRoot_92 : decode prog_13_method_55_code 92 = .ok (.aload_n 0, 1) := by decide +kernel
theorem d_Mod_setRoot_93 : decode prog_13_method_55_code 93 = .ok (.getfield 353, 3) := by decide +kernel
theorem d_Mod_setRoot_96 : decode prog_13_method_55_code 96 = .ok (.getfield 463, 3) := by decide +kernel
theorem d_Mod_setRoot_99 : decode prog_13_method_55_code 99 = .ok (.invokevirtual 505, 3) := by decide +kernel
theorem d_Mod_setRoot_102 : decode prog_13_method_55_code 102 = .ok (.iconst (-1), 1) := by decide +kernel
theorem d_Mod_setRoot_103 : decode prog_13_method_55_code 103 = .ok (.ireturn, 1) := by decide +kernel
theorem d_Mod_setRoot_38 : decode prog_13_method_55_code 38 = .ok (.iconst (-1), 1) := by decide +kernel
theorem d_Mod_setRoot_39 : decode prog_13_method_55_code 39 = .ok (.ireturn, 1) := by decide +kernel
theorem d_Mod_setRoot_104 : decode prog_13_method_55_code 104 = .ok (.iload_n 3, 1) := by decide +kernel
theorem d_Mod_setRoot_105 : decode prog_13_method_55_code 105 = .ok (.ifCond .ge 49, 3) := by decide +kernel
theorem d_Mod_setRoot_154 : decode prog_13_method_55_code 154 = .ok (.aload_n 0, 1) := by decide +kernel
theorem d_Mod_setRoot_155 : decode prog_13_method_55_code 155 = .ok (.getfield 353, 3) := by decide +kernel
theorem d_Mod_setRoot_158 : decode prog_13_method_55_code 158 = .ok (.getfield 472, 3) := by decide +kernel
theorem d_Mod_setRoot_161 : decode prog_13_method_55_code 161 = .ok (.iload_n 3, 1) := by decide +kernel
theorem d_Mod_setRoot_162 : decode prog_13_method_55_code 162 = .ok (.aload_n 0, 1) := by decide +kernel
theorem d_Mod_setRoot_163 : decode prog_13_method_55_code 163 = .ok (.getfield 368, 3) := by decide +kernel
theorem d_Mod_setRoot_166 : decode prog_13_method_55_code 166 = .ok (.aload_n 0, 1) := by decide +kernel
theorem d_Mod_setRoot_167 : decode prog_13_method_55_code 167 = .ok (.getfield 486, 3) := by decide +kernel
theorem d_Mod_setRoot_170 : decode prog_13_method_55_code 170 = .ok (.invokevirtual 505, 3) := by decide +kernel
theorem d_Mod_setRoot_173 : decode prog_13_method_55_code 173 = .ok (.iconst (-1), 1) := by decide +kernel
theorem d_Mod_setRoot_174 : decode prog_13_method_55_code 174 = .ok (.ireturn, 1) := by decide +kernel
theorem d_Mod_setRoot_108 : decode prog_13_method_55_code 108 = .ok (.aload_n 0, 1) := by decide +kernel
theorem d_Mod_setRoot_109 : decode prog_13_method_55_code 109 = .ok (.getfield 353, 3) := by decide +kernel
theorem d_Mod_setRoot_112 : decode prog_13_method_55_code 112 = .ok (.getfield 463, 3) := by decide +kernel
theorem d_Mod_setRoot_115 : decode prog_13_method_55_code 115 = .ok (.bipush 12, 2) := by decide +kernel
theorem d_Mod_setRoot_117 : decode prog_13_method_55_code 117 = .ok (.if_icmp .ne 6, 3) := by decide +kernel
theorem d_Mod_setRoot_120 : decode prog_13_method_55_code 120 = .ok (.bipush 8, 2) := by decide +kernel
theorem d_Mod_setRoot_122 : decode prog_13_method_55_code 122 = .ok (.ireturn, 1) := by decide +kernel
theorem d_Mod_setRoot_123 : decode prog_13_method_55_code 123 = .ok (.aload_n 0, 1) := by decide +kernel
theorem d_Mod_setRoot_124 : decode prog_13_method_55_code 124 = .ok (.getfield 353, 3) := by decide +kernel
theorem d_Mod_setRoot_127 : decode prog_13_method_55_code 127 = .ok (.getfield 463, 3) := by decide +kernel
theorem d_Mod_setRoot_130 : decode prog_13_method_55_code 130 = .ok (.istore_n 3, 1) := by decide +kernel
theorem d_Mod_setRoot_131 : decode prog_13_method_55_code 131 = .ok (.aload_n 0, 1) := by decide +kernel
theorem d_Mod_setRoot_132 : decode prog_13_method_55_code 132 = .ok (.getfield 353, 3) := by decide +kernel
theorem d_Mod_setRoot_135 : decode prog_13_method_55_code 135 = .ok (.dup, 1) := by decide +kernel
theorem d_Mod_setRoot_136 : decode prog_13_method_55_code 136 = .ok (.getfield 463, 3) := by decide +kernel
theorem d_Mod_setRoot_139 : decode prog_13_method_55_code 139 = .ok (.iconst 1, 1) := by decide +kernel
theorem d_Mod_setRoot_140 : decode prog_13_method_55_code 140 = .ok (.iadd, 1) := by decide +kernel
theorem d_Mod_setRoot_141 : decode prog_13_method_55_code 141 = .ok (.putfield 463, 3) := by decide +kernel
theorem d_Mod_setRoot_144 : decode prog_13_method_55_code 144 = .ok (.aload_n 0, 1) := by decide +kernel
theorem d_Mod_setRoot_145 : decode prog_13_method_55_code 145 = .ok (.getfield 353, 3) := by decide +kernel
theorem d_Mod_setRoot_148 : decode prog_13_method_55_code 148 = .ok (.getfield 466, 3) := by decide +kernel
theorem d_Mod_setRoot_151 : decode prog_13_method_55_code 151 = .ok (.iload_n 3, 1) := by decide +kernel
theorem d_Mod_setRoot_152 : decode prog_13_method_55_code 152 = .ok (.lload_n 1, 1) := by decide +kernel
theorem d_Mod_setRoot_153 : decode prog_13_method_55_code 153 = .ok (.lastore, 1) := by decide +kernel
abbrev m_Mod_go_I : am_M := (⟨"StowTongueModel", "go", "(I)V"⟩, prog_13_method_48_code, 2, none)
theorem d_Mod_go_I_0 : decode prog_13_method_48_code 0 = .ok (.aload_n 0, 1) := by decide +kernel
theorem d_Mod_go_I_1 : decode prog_13_method_48_code 1 = .ok (.iload_n 1, 1) := by decide +kernel
theorem d_Mod_go_I_2 : decode prog_13_method_48_code 2 = .ok (.aload_n 0, 1) := by decide +kernel
theorem d_Mod_go_I_3 : decode prog_13_method_48_code 3 = .ok (.getfield 380, 3) := by decide +kernel
theorem d_Mod_go_I_6 : decode prog_13_method_48_code 6 = .ok (.aload_n 0, 1) := by decide +kernel
theorem d_Mod_go_I_7 : decode prog_13_method_48_code 7 = .ok (.getfield 492, 3) := by decide +kernel
theorem d_Mod_go_I_10 : decode prog_13_method_48_code 10 = .ok (.iconst 1, 1) := by decide +kernel
theorem d_Mod_go_I_11 : decode prog_13_method_48_code 11 = .ok (.isub, 1) := by decide +kernel
theorem d_Mod_go_I_12 : decode prog_13_method_48_code 12 = .ok (.aaload, 1) := by decide +kernel
theorem d_Mod_go_I_13 : decode prog_13_method_48_code 13 = .ok (.getfield 513, 3) := by decide +kernel
theorem w_1536 : (Cond.fieldLink "StowTongueModel" 513 "StowTongueModel$Code" "base" "I" : Cond) ∈ am_tbl := am_w 1536 (by decide +kernel) (by decide +kernel)
theorem f_Mod_513 : am_F "StowTongueModel" 513 12 7 := ⟨_, rfl, cl_12, by decide, Or.inl w_1536⟩
theorem d_Mod_go_I_16 : decode prog_13_method_48_code 16 = .ok (.isub, 1) := by decide +kernel
theorem d_Mod_go_I_17 : decode prog_13_method_48_code 17 = .ok (.putfield 502, 3) := by decide +kernel
theorem d_Mod_go_I_20 : decode prog_13_method_48_code 20 = .ok (.return_, 1) := by decide +kernel
abbrev m_Mod_isTrue : am_M := (⟨"StowTongueModel", "isTrue", "(I)Z"⟩, prog_13_method_50_code, 2, (some FieldType.boolean))
theorem d_Mod_isTrue_0 : decode prog_13_method_50_code 0 = .ok (.aload_n 0, 1) := by decide +kernel
theorem d_Mod_isTrue_1 : decode prog_13_method_50_code 1 = .ok (.getfield 368, 3) := by decide +kernel
theorem d_Mod_isTrue_4 : decode prog_13_method_50_code 4 = .ok (.getfield 515, 3) := by decide +kernel
theorem d_Mod_isTrue_7 : decode prog_13_method_50_code 7 = .ok (.iload_n 1, 1) := by decide +kernel
theorem d_Mod_isTrue_8 : decode prog_13_method_50_code 8 = .ok (.iaload, 1) := by decide +kernel
theorem d_Mod_isTrue_9 : decode prog_13_method_50_code 9 = .ok (.ifCond .eq 34, 3) := by decide +kernel
theorem d_Mod_isTrue_43 : decode prog_13_method_50_code 43 = .ok (.iconst 0, 1) := by decide +kernel
theorem d_Mod_isTrue_44 : decode prog_13_method_50_code 44 = .ok (.ireturn, 1) := by decide +kernel
theorem d_Mod_isTrue_12 : decode prog_13_method_50_code 12 = .ok (.aload_n 0, 1) := by decide +kernel
theorem d_Mod_isTrue_13 : decode prog_13_method_50_code 13 = .ok (.getfield 368, 3) := by decide +kernel
theorem d_Mod_isTrue_16 : decode prog_13_method_50_code 16 = .ok (.getfield 515, 3) := by decide +kernel
theorem d_Mod_isTrue_19 : decode prog_13_method_50_code 19 = .ok (.iload_n 1, 1) := by decide +kernel
theorem d_Mod_isTrue_20 : decode prog_13_method_50_code 20 = .ok (.iaload, 1) := by decide +kernel
theorem d_Mod_isTrue_21 : decode prog_13_method_50_code 21 = .ok (.iconst 1, 1) := by decide +kernel
theorem d_Mod_isTrue_22 : decode prog_13_method_50_code 22 = .ok (.if_icmp .ne 17, 3) := by decide +kernel
theorem d_Mod_isTrue_25 : decode prog_13_method_50_code 25 = .ok (.aload_n 0, 1) := by decide +kernel
theorem d_Mod_isTrue_26 : decode prog_13_method_50_code 26 = .ok (.getfield 368, 3) := by decide +kernel
theorem d_Mod_isTrue_29 : decode prog_13_method_50_code 29 = .ok (.getfield 508, 3) := by decide +kernel
theorem d_Mod_isTrue_32 : decode prog_13_method_50_code 32 = .ok (.iload_n 1, 1) := by decide +kernel
theorem d_Mod_isTrue_33 : decode prog_13_method_50_code 33 = .ok (.laload, 1) := by decide +kernel
theorem d_Mod_isTrue_34 : decode prog_13_method_50_code 34 = .ok (.lconst 0, 1) := by decide +kernel
theorem d_Mod_isTrue_35 : decode prog_13_method_50_code 35 = .ok (.lcmp, 1) := by decide +kernel
theorem d_Mod_isTrue_36 : decode prog_13_method_50_code 36 = .ok (.ifCond .eq 7, 3) := by decide +kernel
theorem d_Mod_isTrue_39 : decode prog_13_method_50_code 39 = .ok (.iconst 1, 1) := by decide +kernel
theorem d_Mod_isTrue_40 : decode prog_13_method_50_code 40 = .ok (.goto 4, 3) := by decide +kernel
abbrev m_Mod_spend : am_M := (⟨"StowTongueModel", "spend", "()Z"⟩, prog_13_method_51_code, 1, (some FieldType.boolean))
theorem d_Mod_spend_0 : decode prog_13_method_51_code 0 = .ok (.aload_n 0, 1) := by decide +kernel
theorem d_Mod_spend_1 : decode prog_13_method_51_code 1 = .ok (.getfield 446, 3) := by decide +kernel
theorem d_Mod_spend_4 : decode prog_13_method_51_code 4 = .ok (.aload_n 0, 1) := by decide +kernel
theorem d_Mod_spend_5 : decode prog_13_method_51_code 5 = .ok (.getfield 443, 3) := by decide +kernel
theorem w_1665 : (Cond.fieldLink "StowTongueModel" 443 "StowTongueModel" "fuel" "I" : Cond) ∈ am_tbl := am_w 1665 (by decide +kernel) (by decide +kernel)
theorem f_Mod_443 : am_F "StowTongueModel" 443 14 43 := ⟨_, rfl, cl_14, by decide, Or.inl w_1665⟩
theorem d_Mod_spend_8 : decode prog_13_method_51_code 8 = .ok (.if_icmp .ne 5, 3) := by decide +kernel
theorem d_Mod_spend_11 : decode prog_13_method_51_code 11 = .ok (.iconst 0, 1) := by decide +kernel
theorem d_Mod_spend_12 : decode prog_13_method_51_code 12 = .ok (.ireturn, 1) := by decide +kernel
theorem d_Mod_spend_13 : decode prog_13_method_51_code 13 = .ok (.aload_n 0, 1) := by decide +kernel
theorem d_Mod_spend_14 : decode prog_13_method_51_code 14 = .ok (.dup, 1) := by decide +kernel
theorem d_Mod_spend_15 : decode prog_13_method_51_code 15 = .ok (.getfield 446, 3) := by decide +kernel
theorem d_Mod_spend_18 : decode prog_13_method_51_code 18 = .ok (.iconst 1, 1) := by decide +kernel
theorem d_Mod_spend_19 : decode prog_13_method_51_code 19 = .ok (.iadd, 1) := by decide +kernel
theorem d_Mod_spend_20 : decode prog_13_method_51_code 20 = .ok (.putfield 446, 3) := by decide +kernel
theorem d_Mod_spend_23 : decode prog_13_method_51_code 23 = .ok (.iconst 1, 1) := by decide +kernel
theorem d_Mod_spend_24 : decode prog_13_method_51_code 24 = .ok (.ireturn, 1) := by decide +kernel
abbrev m_Mod_say : am_M := (⟨"StowTongueModel", "say", "(I)Z"⟩, prog_13_method_66_code, 2, (some FieldType.boolean))
theorem d_Mod_say_0 : decode prog_13_method_66_code 0 = .ok (.aload_n 0, 1) := by decide +kernel
theorem d_Mod_say_1 : decode prog_13_method_66_code 1 = .ok (.getfield 440, 3) := by decide +kernel
theorem w_1625 : (Cond.fieldLink "StowTongueModel" 440 "StowTongueModel" "outMany" "I" : Cond) ∈ am_tbl := am_w 1625 (by decide +kernel) (by decide +kernel)
theorem f_Mod_440 : am_F "StowTongueModel" 440 14 3 := ⟨_, rfl, cl_14, by decide, Or.inl w_1625⟩
theorem d_Mod_say_4 : decode prog_13_method_66_code 4 = .ok (.sipush 600, 3) := by decide +kernel
theorem d_Mod_say_7 : decode prog_13_method_66_code 7 = .ok (.if_icmp .ne 5, 3) := by decide +kernel
theorem d_Mod_say_10 : decode prog_13_method_66_code 10 = .ok (.iconst 0, 1) := by decide +kernel
theorem d_Mod_say_11 : decode prog_13_method_66_code 11 = .ok (.ireturn, 1) := by decide +kernel
theorem d_Mod_say_12 : decode prog_13_method_66_code 12 = .ok (.aload_n 0, 1) := by decide +kernel
theorem d_Mod_say_13 : decode prog_13_method_66_code 13 = .ok (.getfield 340, 3) := by decide +kernel
theorem d_Mod_say_16 : decode prog_13_method_66_code 16 = .ok (.aload_n 0, 1) := by decide +kernel
theorem d_Mod_say_17 : decode prog_13_method_66_code 17 = .ok (.getfield 440, 3) := by decide +kernel
theorem d_Mod_say_20 : decode prog_13_method_66_code 20 = .ok (.iload_n 1, 1) := by decide +kernel
theorem d_Mod_say_21 : decode prog_13_method_66_code 21 = .ok (.i2b, 1) := by decide +kernel
theorem d_Mod_say_22 : decode prog_13_method_66_code 22 = .ok (.bastore, 1) := by decide +kernel
theorem d_Mod_say_23 : decode prog_13_method_66_code 23 = .ok (.aload_n 0, 1) := by decide +kernel
theorem d_Mod_say_24 : decode prog_13_method_66_code 24 = .ok (.dup, 1) := by decide +kernel
theorem d_Mod_say_25 : decode prog_13_method_66_code 25 = .ok (.getfield 440, 3) := by decide +kernel
theorem d_Mod_say_28 : decode prog_13_method_66_code 28 = .ok (.iconst 1, 1) := by decide +kernel
theorem d_Mod_say_29 : decode prog_13_method_66_code 29 = .ok (.iadd, 1) := by decide +kernel
theorem d_Mod_say_30 : decode prog_13_method_66_code 30 = .ok (.putfield 440, 3) := by decide +kernel
theorem d_Mod_say_33 : decode prog_13_method_66_code 33 = .ok (.iconst 1, 1) := by decide +kernel
theorem d_Mod_say_34 : decode prog_13_method_66_code 34 = .ok (.ireturn, 1) := by decide +kernel
abbrev m_Mod_call : am_M := (⟨"StowTongueModel", "call", "(JI)I"⟩, prog_13_method_54_code, 5, (some FieldType.int))
theorem d_Mod_call_0 : decode prog_13_method_54_code 0 = .ok (.aload_n 0, 1) := by decide +kernel
theorem d_Mod_call_1 : decode prog_13_method_54_code 1 = .ok (.invokevirtual 530, 3) := by decide +kernel
theorem w_2058 : (Cond.methodLink "StowTongueModel" 530 ⟨"StowTongueModel", "spend", "()Z"⟩ : Cond) ∈ am_tbl := am_w 2058 (by decide +kernel) (by decide +kernel)
set_option maxRecDepth 100000 in
theorem w_2061 : (Cond.code ⟨"StowTongueModel", "spend", "()Z"⟩ prog_13_method_51_code 1 (some FieldType.boolean) : Cond) ∈ am_tbl := am_w 2061 rfl rfl
theorem l_Mod_530 : am_L "StowTongueModel" 530 0 m_Mod_spend := ⟨Or.inl w_2058, w_160, w_2061, ⟨by decide, by decide⟩, by decide +kernel, by decide⟩
theorem w_2060 : (Cond.instanceMethod ⟨"StowTongueModel", "spend", "()Z"⟩ : Cond) ∈ am_tbl := am_w 2060 (by decide +kernel) (by decide +kernel)
theorem w_125 : (Cond.selects "StowTongueModel" ⟨"StowTongueModel", "spend", "()Z"⟩ ⟨"StowTongueModel", "spend", "()Z"⟩ : Cond) ∈ am_tbl := am_w 125 (by decide +kernel) (by decide +kernel)
theorem d_Mod_call_4 : decode prog_13_method_54_code 4 = .ok (.ifCond .ne 5, 3) := by decide +kernel
theorem d_Mod_call_7 : decode prog_13_method_54_code 7 = .ok (.iconst 1, 1) := by decide +kernel
theorem d_Mod_call_8 : decode prog_13_method_54_code 8 = .ok (.ireturn, 1) := by decide +kernel
theorem d_Mod_call_9 : decode prog_13_method_54_code 9 = .ok (.aload_n 0, 1) := by decide +kernel
theorem d_Mod_call_10 : decode prog_13_method_54_code 10 = .ok (.getfield 353, 3) := by decide +kernel
theorem d_Mod_call_13 : decode prog_13_method_54_code 13 = .ok (.lload_n 1, 1) := by decide +kernel
theorem d_Mod_call_14 : decode prog_13_method_54_code 14 = .ok (.invokevirtual 412, 3) := by decide +kernel
theorem w_2000 : (Cond.methodLink "StowTongueModel" 412 ⟨"StowTongueModel$State", "findFunction", "(J)I"⟩ : Cond) ∈ am_tbl := am_w 2000 (by decide +kernel) (by decide +kernel)
set_option maxRecDepth 100000 in
theorem w_2003 : (Cond.code ⟨"StowTongueModel$State", "findFunction", "(J)I"⟩ prog_15_method_4_code 4 (some FieldType.int) : Cond) ∈ am_tbl := am_w 2003 rfl rfl
theorem l_Mod_412 : am_L "StowTongueModel" 412 1 m_State_findFunction := ⟨Or.inl w_2000, w_163, w_2003, ⟨by decide, by decide⟩, by decide +kernel, by decide⟩
theorem w_2001 : (Cond.instanceMethod ⟨"StowTongueModel$State", "findFunction", "(J)I"⟩ : Cond) ∈ am_tbl := am_w 2001 (by decide +kernel) (by decide +kernel)
theorem w_2002 : (Cond.selects "StowTongueModel$State" ⟨"StowTongueModel$State", "findFunction", "(J)I"⟩ ⟨"StowTongueModel$State", "findFunction", "(J)I"⟩ : Cond) ∈ am_tbl := am_w 2002 (by decide +kernel) (by decide +kernel)
theorem d_Mod_call_17 : decode prog_13_method_54_code 17 = .ok (.istore 4, 2) := by decide +kernel
theorem d_Mod_call_19 : decode prog_13_method_54_code 19 = .ok (.iload 4, 2) := by decide +kernel
theorem d_Mod_call_21 : decode prog_13_method_54_code 21 = .ok (.ifCond .lt 20, 3) := by decide +kernel
theorem d_Mod_call_41 : decode prog_13_method_54_code 41 = .ok (.bipush 6, 2) := by decide +kernel
theorem d_Mod_call_43 : decode prog_13_method_54_code 43 = .ok (.ireturn, 1) := by decide +kernel
theorem d_Mod_call_24 : decode prog_13_method_54_code 24 = .ok (.aload_n 0, 1) := by decide +kernel
theorem d_Mod_call_25 : decode prog_13_method_54_code 25 = .ok (.getfield 353, 3) := by decide +kernel
theorem d_Mod_call_28 : decode prog_13_method_54_code 28 = .ok (.getfield 399, 3) := by decide +kernel
theorem d_Mod_call_31 : decode prog_13_method_54_code 31 = .ok (.iload 4, 2) := by decide +kernel
theorem d_Mod_call_33 : decode prog_13_method_54_code 33 = .ok (.aaload, 1) := by decide +kernel
theorem d_Mod_call_34 : decode prog_13_method_54_code 34 = .ok (.getfield 426, 3) := by decide +kernel
theorem w_1532 : (Cond.fieldLink "StowTongueModel" 426 "StowTongueModel$Code" "parameters" "I" : Cond) ∈ am_tbl := am_w 1532 (by decide +kernel) (by decide +kernel)
theorem f_Mod_426 : am_F "StowTongueModel" 426 12 5 := ⟨_, rfl, cl_12, by decide, Or.inl w_1532⟩
theorem d_Mod_call_37 : decode prog_13_method_54_code 37 = .ok (.iload_n 3, 1) := by decide +kernel
theorem d_Mod_call_38 : decode prog_13_method_54_code 38 = .ok (.if_icmp .eq 6, 3) := by decide +kernel
theorem d_Mod_call_44 : decode prog_13_method_54_code 44 = .ok (.aload_n 0, 1) := by decide +kernel
theorem d_Mod_call_45 : decode prog_13_method_54_code 45 = .ok (.getfield 492, 3) := by decide +kernel
theorem d_Mod_call_48 : decode prog_13_method_54_code 48 = .ok (.bipush 8, 2) := by decide +kernel
theorem d_Mod_call_50 : decode prog_13_method_54_code 50 = .ok (.if_icmp .le 6, 3) := by decide +kernel
theorem d_Mod_call_56 : decode prog_13_method_54_code 56 = .ok (.aload_n 0, 1) := by decide +kernel
theorem d_Mod_call_57 : decode prog_13_method_54_code 57 = .ok (.aload_n 0, 1) := by decide +kernel
theorem d_Mod_call_58 : decode prog_13_method_54_code 58 = .ok (.getfield 353, 3) := by decide +kernel
theorem d_Mod_call_61 : decode prog_13_method_54_code 61 = .ok (.getfield 399, 3) := by decide +kernel
theorem d_Mod_call_64 : decode prog_13_method_54_code 64 = .ok (.iload 4, 2) := by decide +kernel
theorem d_Mod_call_66 : decode prog_13_method_54_code 66 = .ok (.aaload, 1) := by decide +kernel
theorem d_Mod_call_67 : decode prog_13_method_54_code 67 = .ok (.iload_n 3, 1) := by decide +kernel
theorem d_Mod_call_68 : decode prog_13_method_54_code 68 = .ok (.invokevirtual 495, 3) := by decide +kernel
theorem w_2025 : (Cond.methodLink "StowTongueModel" 495 ⟨"StowTongueModel", "enter", "(LStowTongueModel$Code;I)V"⟩ : Cond) ∈ am_tbl := am_w 2025 (by decide +kernel) (by decide +kernel)
set_option maxRecDepth 100000 in
theorem w_2028 : (Cond.code ⟨"StowTongueModel", "enter", "(LStowTongueModel$Code;I)V"⟩ prog_13_method_45_code 4 none : Cond) ∈ am_tbl := am_w 2028 rfl rfl
theorem l_Mod_495 : am_L "StowTongueModel" 495 2 m_Mod_enter := ⟨Or.inl w_2025, w_160, w_2028, ⟨by decide, by decide⟩, by decide +kernel, by decide⟩
theorem w_2027 : (Cond.instanceMethod ⟨"StowTongueModel", "enter", "(LStowTongueModel$Code;I)V"⟩ : Cond) ∈ am_tbl := am_w 2027 (by decide +kernel) (by decide +kernel)
theorem w_118 : (Cond.selects "StowTongueModel" ⟨"StowTongueModel", "enter", "(LStowTongueModel$Code;I)V"⟩ ⟨"StowTongueModel", "enter", "(LStowTongueModel$Code;I)V"⟩ : Cond) ∈ am_tbl := am_w 118 (by decide +kernel) (by decide +kernel)
theorem d_Mod_call_71 : decode prog_13_method_54_code 71 = .ok (.iconst (-1), 1) := by decide +kernel
theorem d_Mod_call_72 : decode prog_13_method_54_code 72 = .ok (.ireturn, 1) := by decide +kernel
theorem d_Mod_call_53 : decode prog_13_method_54_code 53 = .ok (.bipush 7, 2) := by decide +kernel
theorem d_Mod_call_55 : decode prog_13_method_54_code 55 = .ok (.ireturn, 1) := by decide +kernel
