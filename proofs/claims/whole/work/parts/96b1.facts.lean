abbrev m_Store_functionAt : am_M := (⟨"StowTongue$Store", "functionAt", "(J)I"⟩, prog_9_method_20_code, 4, (some FieldType.int))
theorem d_Store_functionAt_0 : decode prog_9_method_20_code 0 = .ok (.iconst 0, 1) := by decide +kernel
theorem d_Store_functionAt_1 : decode prog_9_method_20_code 1 = .ok (.istore_n 3, 1) := by decide +kernel
theorem d_Store_functionAt_2 : decode prog_9_method_20_code 2 = .ok (.iload_n 3, 1) := by decide +kernel
theorem d_Store_functionAt_3 : decode prog_9_method_20_code 3 = .ok (.aload_n 0, 1) := by decide +kernel
theorem d_Store_functionAt_4 : decode prog_9_method_20_code 4 = .ok (.getfield 51, 3) := by decide +kernel
theorem d_Store_functionAt_7 : decode prog_9_method_20_code 7 = .ok (.if_icmp .ge 34, 3) := by decide +kernel
theorem d_Store_functionAt_41 : decode prog_9_method_20_code 41 = .ok (.iconst (-1), 1) := by decide +kernel
theorem d_Store_functionAt_42 : decode prog_9_method_20_code 42 = .ok (.ireturn, 1) := by decide +kernel
theorem d_Store_functionAt_10 : decode prog_9_method_20_code 10 = .ok (.aload_n 0, 1) := by decide +kernel
theorem d_Store_functionAt_11 : decode prog_9_method_20_code 11 = .ok (.getfield 31, 3) := by decide +kernel
theorem d_Store_functionAt_14 : decode prog_9_method_20_code 14 = .ok (.iload_n 3, 1) := by decide +kernel
theorem d_Store_functionAt_15 : decode prog_9_method_20_code 15 = .ok (.aaload, 1) := by decide +kernel
theorem d_Store_functionAt_16 : decode prog_9_method_20_code 16 = .ok (.ifnull 19, 3) := by decide +kernel
theorem d_Store_functionAt_19 : decode prog_9_method_20_code 19 = .ok (.aload_n 0, 1) := by decide +kernel
theorem d_Store_functionAt_20 : decode prog_9_method_20_code 20 = .ok (.getfield 31, 3) := by decide +kernel
theorem d_Store_functionAt_23 : decode prog_9_method_20_code 23 = .ok (.iload_n 3, 1) := by decide +kernel
theorem d_Store_functionAt_24 : decode prog_9_method_20_code 24 = .ok (.aaload, 1) := by decide +kernel
theorem d_Store_functionAt_25 : decode prog_9_method_20_code 25 = .ok (.invokevirtual 93, 3) := by decide +kernel
theorem w_1041 : (Cond.methodLink "StowTongue$Store" 93 ⟨"StowTongue$Unit", "name", "()J"⟩ : Cond) ∈ am_tbl := am_w 1041 (by decide +kernel) (by decide +kernel)
set_option maxRecDepth 100000 in
theorem w_1044 : (Cond.code ⟨"StowTongue$Unit", "name", "()J"⟩ prog_11_method_2_code 1 (some FieldType.long) : Cond) ∈ am_tbl := am_w 1044 rfl rfl
theorem l_Store_93 : am_L "StowTongue$Store" 93 0 m_Unit_name := ⟨Or.inl w_1041, w_156, w_1044, ⟨by decide, by decide⟩, by decide +kernel, by decide⟩
theorem w_1042 : (Cond.instanceMethod ⟨"StowTongue$Unit", "name", "()J"⟩ : Cond) ∈ am_tbl := am_w 1042 (by decide +kernel) (by decide +kernel)
theorem w_1043 : (Cond.selects "StowTongue$Unit" ⟨"StowTongue$Unit", "name", "()J"⟩ ⟨"StowTongue$Unit", "name", "()J"⟩ : Cond) ∈ am_tbl := am_w 1043 (by decide +kernel) (by decide +kernel)
theorem d_Store_functionAt_28 : decode prog_9_method_20_code 28 = .ok (.lload_n 1, 1) := by decide +kernel
theorem d_Store_functionAt_29 : decode prog_9_method_20_code 29 = .ok (.lcmp, 1) := by decide +kernel
theorem d_Store_functionAt_30 : decode prog_9_method_20_code 30 = .ok (.ifCond .ne 5, 3) := by decide +kernel
theorem d_Store_functionAt_33 : decode prog_9_method_20_code 33 = .ok (.iload_n 3, 1) := by decide +kernel
theorem d_Store_functionAt_34 : decode prog_9_method_20_code 34 = .ok (.ireturn, 1) := by decide +kernel
theorem d_Store_functionAt_35 : decode prog_9_method_20_code 35 = .ok (.iinc 3 1, 3) := by decide +kernel
theorem d_Store_functionAt_38 : decode prog_9_method_20_code 38 = .ok (.goto (-36), 3) := by decide +kernel
abbrev m_Pars_program : am_M := (⟨"StowTongue$Parser", "program", "()LStowTongue$Unit;"⟩, prog_8_method_3_code, 1, (some (FieldType.object "StowTongue$Unit")))
theorem d_Pars_program_0 : decode prog_8_method_3_code 0 = .ok (.aload_n 0, 1) := by decide +kernel
theorem d_Pars_program_1 : decode prog_8_method_3_code 1 = .ok (.getfield 43, 3) := by decide +kernel
theorem d_Pars_program_4 : decode prog_8_method_3_code 4 = .ok (.areturn, 1) := by decide +kernel
abbrev m_Mach_below : am_M := (⟨"StowTongue$Machine", "below", "(I)I"⟩, prog_6_method_8_code, 2, (some FieldType.int))
theorem d_Mach_below_0 : decode prog_6_method_8_code 0 = .ok (.iconst 0, 1) := by decide +kernel
theorem d_Mach_below_1 : decode prog_6_method_8_code 1 = .ok (.aload_n 0, 1) := by decide +kernel
theorem d_Mach_below_2 : decode prog_6_method_8_code 2 = .ok (.getfield 54, 3) := by decide +kernel
theorem w_404 : (Cond.fieldLink "StowTongue$Machine" 54 "StowTongue$Machine" "top" "I" : Cond) ∈ am_tbl := am_w 404 (by decide +kernel) (by decide +kernel)
theorem f_Mach_54 : am_F "StowTongue$Machine" 54 6 2 := ⟨_, rfl, cl_6, by decide, Or.inl w_404⟩
theorem d_Mach_below_5 : decode prog_6_method_8_code 5 = .ok (.iload_n 1, 1) := by decide +kernel
theorem d_Mach_below_6 : decode prog_6_method_8_code 6 = .ok (.isub, 1) := by decide +kernel
theorem d_Mach_below_7 : decode prog_6_method_8_code 7 = .ok (.invokestatic 100, 3) := by decide +kernel
theorem w_1073 : (Cond.methodLink "StowTongue$Machine" 100 ⟨"java/lang/Math", "max", "(II)I"⟩ : Cond) ∈ am_tbl := am_w 1073 (by decide +kernel) (by decide +kernel)
theorem d_Mach_below_10 : decode prog_6_method_8_code 10 = .ok (.ireturn, 1) := by decide +kernel
abbrev m_Mach_fail : am_M := (⟨"StowTongue$Machine", "fail", "(I)V"⟩, prog_6_method_7_code, 2, none)
theorem d_Mach_fail_0 : decode prog_6_method_7_code 0 = .ok (.aload_n 0, 1) := by decide +kernel
theorem d_Mach_fail_1 : decode prog_6_method_7_code 1 = .ok (.iload_n 1, 1) := by decide +kernel
theorem d_Mach_fail_2 : decode prog_6_method_7_code 2 = .ok (.putfield 44, 3) := by decide +kernel
theorem w_416 : (Cond.fieldLink "StowTongue$Machine" 44 "StowTongue$Machine" "error" "I" : Cond) ∈ am_tbl := am_w 416 (by decide +kernel) (by decide +kernel)
theorem f_Mach_44 : am_F "StowTongue$Machine" 44 6 14 := ⟨_, rfl, cl_6, by decide, Or.inl w_416⟩
theorem d_Mach_fail_5 : decode prog_6_method_7_code 5 = .ok (.aload_n 0, 1) := by decide +kernel
theorem d_Mach_fail_6 : decode prog_6_method_7_code 6 = .ok (.iconst 1, 1) := by decide +kernel
theorem d_Mach_fail_7 : decode prog_6_method_7_code 7 = .ok (.putfield 47, 3) := by decide +kernel
theorem w_417 : (Cond.fieldLink "StowTongue$Machine" 47 "StowTongue$Machine" "done" "Z" : Cond) ∈ am_tbl := am_w 417 (by decide +kernel) (by decide +kernel)
theorem f_Mach_47 : am_F "StowTongue$Machine" 47 6 15 := ⟨_, rfl, cl_6, by decide, Or.inl w_417⟩
theorem d_Mach_fail_10 : decode prog_6_method_7_code 10 = .ok (.return_, 1) := by decide +kernel
abbrev m_Mach_burn : am_M := (⟨"StowTongue$Machine", "burn", "()Z"⟩, prog_6_method_14_code, 1, (some FieldType.boolean))
theorem d_Mach_burn_0 : decode prog_6_method_14_code 0 = .ok (.aload_n 0, 1) := by decide +kernel
theorem d_Mach_burn_1 : decode prog_6_method_14_code 1 = .ok (.getfield 41, 3) := by decide +kernel
theorem d_Mach_burn_4 : decode prog_6_method_14_code 4 = .ok (.aload_n 0, 1) := by decide +kernel
theorem d_Mach_burn_5 : decode prog_6_method_14_code 5 = .ok (.getfield 37, 3) := by decide +kernel
theorem w_414 : (Cond.fieldLink "StowTongue$Machine" 37 "StowTongue$Machine" "fuel" "I" : Cond) ∈ am_tbl := am_w 414 (by decide +kernel) (by decide +kernel)
theorem f_Mach_37 : am_F "StowTongue$Machine" 37 6 12 := ⟨_, rfl, cl_6, by decide, Or.inl w_414⟩
theorem d_Mach_burn_8 : decode prog_6_method_14_code 8 = .ok (.if_icmp .lt 10, 3) := by decide +kernel
theorem d_Mach_burn_18 : decode prog_6_method_14_code 18 = .ok (.aload_n 0, 1) := by decide +kernel
theorem d_Mach_burn_19 : decode prog_6_method_14_code 19 = .ok (.dup, 1) := by decide +kernel
theorem d_Mach_burn_20 : decode prog_6_method_14_code 20 = .ok (.getfield 41, 3) := by decide +kernel
theorem d_Mach_burn_23 : decode prog_6_method_14_code 23 = .ok (.iconst 1, 1) := by decide +kernel
theorem d_Mach_burn_24 : decode prog_6_method_14_code 24 = .ok (.iadd, 1) := by decide +kernel
theorem d_Mach_burn_25 : decode prog_6_method_14_code 25 = .ok (.putfield 41, 3) := by decide +kernel
theorem d_Mach_burn_28 : decode prog_6_method_14_code 28 = .ok (.iconst 1, 1) := by decide +kernel
theorem d_Mach_burn_29 : decode prog_6_method_14_code 29 = .ok (.ireturn, 1) := by decide +kernel
theorem d_Mach_burn_11 : decode prog_6_method_14_code 11 = .ok (.aload_n 0, 1) := by decide +kernel
theorem d_Mach_burn_12 : decode prog_6_method_14_code 12 = .ok (.iconst 1, 1) := by decide +kernel
theorem d_Mach_burn_13 : decode prog_6_method_14_code 13 = .ok (.invokevirtual 106, 3) := by decide +kernel
theorem w_1082 : (Cond.methodLink "StowTongue$Machine" 106 ⟨"StowTongue$Machine", "fail", "(I)V"⟩ : Cond) ∈ am_tbl := am_w 1082 (by decide +kernel) (by decide +kernel)
set_option maxRecDepth 100000 in
theorem w_1085 : (Cond.code ⟨"StowTongue$Machine", "fail", "(I)V"⟩ prog_6_method_7_code 2 none : Cond) ∈ am_tbl := am_w 1085 rfl rfl
theorem l_Mach_106 : am_L "StowTongue$Machine" 106 1 m_Mach_fail := ⟨Or.inl w_1082, w_157, w_1085, ⟨by decide, by decide⟩, by decide +kernel, by decide⟩
theorem w_1084 : (Cond.instanceMethod ⟨"StowTongue$Machine", "fail", "(I)V"⟩ : Cond) ∈ am_tbl := am_w 1084 (by decide +kernel) (by decide +kernel)
theorem w_45 : (Cond.selects "StowTongue$Machine" ⟨"StowTongue$Machine", "fail", "(I)V"⟩ ⟨"StowTongue$Machine", "fail", "(I)V"⟩ : Cond) ∈ am_tbl := am_w 45 (by decide +kernel) (by decide +kernel)
theorem d_Mach_burn_16 : decode prog_6_method_14_code 16 = .ok (.iconst 0, 1) := by decide +kernel
theorem d_Mach_burn_17 : decode prog_6_method_14_code 17 = .ok (.ireturn, 1) := by decide +kernel
abbrev m_Mach_keepLeft : am_M := (⟨"StowTongue$Machine", "keepLeft", "(ZI)V"⟩, prog_6_method_16_code, 3, none)
theorem d_Mach_keepLeft_0 : decode prog_6_method_16_code 0 = .ok (.iload_n 1, 1) := by decide +kernel
theorem d_Mach_keepLeft_1 : decode prog_6_method_16_code 1 = .ok (.ifCond .eq 11, 3) := by decide +kernel
theorem d_Mach_keepLeft_12 : decode prog_6_method_16_code 12 = .ok (.aload_n 0, 1) := by decide +kernel
theorem d_Mach_keepLeft_13 : decode prog_6_method_16_code 13 = .ok (.aload_n 0, 1) := by decide +kernel
theorem d_Mach_keepLeft_14 : decode prog_6_method_16_code 14 = .ok (.iconst 1, 1) := by decide +kernel
theorem d_Mach_keepLeft_15 : decode prog_6_method_16_code 15 = .ok (.invokevirtual 133, 3) := by decide +kernel
theorem w_1069 : (Cond.methodLink "StowTongue$Machine" 133 ⟨"StowTongue$Machine", "below", "(I)I"⟩ : Cond) ∈ am_tbl := am_w 1069 (by decide +kernel) (by decide +kernel)
set_option maxRecDepth 100000 in
theorem w_1072 : (Cond.code ⟨"StowTongue$Machine", "below", "(I)I"⟩ prog_6_method_8_code 2 (some FieldType.int) : Cond) ∈ am_tbl := am_w 1072 rfl rfl
theorem l_Mach_133 : am_L "StowTongue$Machine" 133 1 m_Mach_below := ⟨Or.inl w_1069, w_157, w_1072, ⟨by decide, by decide⟩, by decide +kernel, by decide⟩
theorem w_1071 : (Cond.instanceMethod ⟨"StowTongue$Machine", "below", "(I)I"⟩ : Cond) ∈ am_tbl := am_w 1071 (by decide +kernel) (by decide +kernel)
theorem w_43 : (Cond.selects "StowTongue$Machine" ⟨"StowTongue$Machine", "below", "(I)I"⟩ ⟨"StowTongue$Machine", "below", "(I)I"⟩ : Cond) ∈ am_tbl := am_w 43 (by decide +kernel) (by decide +kernel)
theorem d_Mach_keepLeft_18 : decode prog_6_method_16_code 18 = .ok (.putfield 54, 3) := by decide +kernel
theorem d_Mach_keepLeft_21 : decode prog_6_method_16_code 21 = .ok (.return_, 1) := by decide +kernel
theorem d_Mach_keepLeft_4 : decode prog_6_method_16_code 4 = .ok (.aload_n 0, 1) := by decide +kernel
theorem d_Mach_keepLeft_5 : decode prog_6_method_16_code 5 = .ok (.iload_n 2, 1) := by decide +kernel
theorem d_Mach_keepLeft_6 : decode prog_6_method_16_code 6 = .ok (.putfield 66, 3) := by decide +kernel
theorem w_407 : (Cond.fieldLink "StowTongue$Machine" 66 "StowTongue$Machine" "next" "I" : Cond) ∈ am_tbl := am_w 407 (by decide +kernel) (by decide +kernel)
theorem f_Mach_66 : am_F "StowTongue$Machine" 66 6 5 := ⟨_, rfl, cl_6, by decide, Or.inl w_407⟩
theorem d_Mach_keepLeft_9 : decode prog_6_method_16_code 9 = .ok (.goto 12, 3) := by decide +kernel
abbrev m_Store_functionOf : am_M := (⟨"StowTongue$Store", "functionOf", "(J)LStowTongue$Unit;"⟩, prog_9_method_19_code, 4, (some (FieldType.object "StowTongue$Unit")))
theorem d_Store_functionOf_0 : decode prog_9_method_19_code 0 = .ok (.aload_n 0, 1) := by decide +kernel
theorem d_Store_functionOf_1 : decode prog_9_method_19_code 1 = .ok (.lload_n 1, 1) := by decide +kernel
theorem d_Store_functionOf_2 : decode prog_9_method_19_code 2 = .ok (.invokevirtual 90, 3) := by decide +kernel
theorem w_1045 : (Cond.methodLink "StowTongue$Store" 90 ⟨"StowTongue$Store", "functionAt", "(J)I"⟩ : Cond) ∈ am_tbl := am_w 1045 (by decide +kernel) (by decide +kernel)
set_option maxRecDepth 100000 in
theorem w_1048 : (Cond.code ⟨"StowTongue$Store", "functionAt", "(J)I"⟩ prog_9_method_20_code 4 (some FieldType.int) : Cond) ∈ am_tbl := am_w 1048 rfl rfl
theorem l_Store_90 : am_L "StowTongue$Store" 90 1 m_Store_functionAt := ⟨Or.inl w_1045, w_169, w_1048, ⟨by decide, by decide⟩, by decide +kernel, by decide⟩
theorem w_1047 : (Cond.instanceMethod ⟨"StowTongue$Store", "functionAt", "(J)I"⟩ : Cond) ∈ am_tbl := am_w 1047 (by decide +kernel) (by decide +kernel)
theorem w_41 : (Cond.selects "StowTongue$Store" ⟨"StowTongue$Store", "functionAt", "(J)I"⟩ ⟨"StowTongue$Store", "functionAt", "(J)I"⟩ : Cond) ∈ am_tbl := am_w 41 (by decide +kernel) (by decide +kernel)
theorem d_Store_functionOf_5 : decode prog_9_method_19_code 5 = .ok (.istore_n 3, 1) := by decide +kernel
theorem d_Store_functionOf_6 : decode prog_9_method_19_code 6 = .ok (.iload_n 3, 1) := by decide +kernel
theorem d_Store_functionOf_7 : decode prog_9_method_19_code 7 = .ok (.ifCond .ge 7, 3) := by decide +kernel
theorem d_Store_functionOf_14 : decode prog_9_method_19_code 14 = .ok (.aload_n 0, 1) := by decide +kernel
theorem d_Store_functionOf_15 : decode prog_9_method_19_code 15 = .ok (.getfield 31, 3) := by decide +kernel
theorem d_Store_functionOf_18 : decode prog_9_method_19_code 18 = .ok (.iload_n 3, 1) := by decide +kernel
theorem d_Store_functionOf_19 : decode prog_9_method_19_code 19 = .ok (.aaload, 1) := by decide +kernel
theorem d_Store_functionOf_20 : decode prog_9_method_19_code 20 = .ok (.areturn, 1) := by decide +kernel
theorem d_Store_functionOf_10 : decode prog_9_method_19_code 10 = .ok (.aconst_null, 1) := by decide +kernel
theorem d_Store_functionOf_11 : decode prog_9_method_19_code 11 = .ok (.goto 9, 3) := by decide +kernel
abbrev m_Mach_sortAt : am_M := (⟨"StowTongue$Machine", "sortAt", "(I)I"⟩, prog_6_method_12_code, 2, (some FieldType.int))
theorem d_Mach_sortAt_0 : decode prog_6_method_12_code 0 = .ok (.aload_n 0, 1) := by decide +kernel
theorem d_Mach_sortAt_1 : decode prog_6_method_12_code 1 = .ok (.getfield 7, 3) := by decide +kernel
theorem d_Mach_sortAt_4 : decode prog_6_method_12_code 4 = .ok (.iload_n 1, 1) := by decide +kernel
theorem d_Mach_sortAt_5 : decode prog_6_method_12_code 5 = .ok (.laload, 1) := by decide +kernel
theorem d_Mach_sortAt_6 : decode prog_6_method_12_code 6 = .ok (.invokestatic 129, 3) := by decide +kernel
theorem w_1142 : (Cond.methodLink "StowTongue$Machine" 129 ⟨"StowTongue$Cell", "sortOf", "(J)I"⟩ : Cond) ∈ am_tbl := am_w 1142 (by decide +kernel) (by decide +kernel)
theorem l_Mach_129 : am_L "StowTongue$Machine" 129 1 m_Cell_sortOf := ⟨Or.inl w_1142, w_151, w_1105, ⟨by decide, by decide⟩, by decide +kernel, by decide⟩
theorem d_Mach_sortAt_9 : decode prog_6_method_12_code 9 = .ok (.ireturn, 1) := by decide +kernel
abbrev m_Out_spilled : am_M := (⟨"StowTongue$Out", "spilled", "()Z"⟩, prog_7_method_4_code, 1, (some FieldType.boolean))
theorem d_Out_spilled_0 : decode prog_7_method_4_code 0 = .ok (.aload_n 0, 1) := by decide +kernel
theorem d_Out_spilled_1 : decode prog_7_method_4_code 1 = .ok (.getfield 19, 3) := by decide +kernel
theorem d_Out_spilled_4 : decode prog_7_method_4_code 4 = .ok (.ireturn, 1) := by decide +kernel
abbrev m_Mach_localAt : am_M := (⟨"StowTongue$Machine", "localAt", "(I)I"⟩, prog_6_method_23_code, 3, (some FieldType.int))
theorem d_Mach_localAt_0 : decode prog_6_method_23_code 0 = .ok (.aload_n 0, 1) := by decide +kernel
theorem d_Mach_localAt_1 : decode prog_6_method_23_code 1 = .ok (.getfield 171, 3) := by decide +kernel
theorem w_405 : (Cond.fieldLink "StowTongue$Machine" 171 "StowTongue$Machine" "base" "I" : Cond) ∈ am_tbl := am_w 405 (by decide +kernel) (by decide +kernel)
theorem f_Mach_171 : am_F "StowTongue$Machine" 171 6 3 := ⟨_, rfl, cl_6, by decide, Or.inl w_405⟩
theorem d_Mach_localAt_4 : decode prog_6_method_23_code 4 = .ok (.iload_n 1, 1) := by decide +kernel
theorem d_Mach_localAt_5 : decode prog_6_method_23_code 5 = .ok (.iadd, 1) := by decide +kernel
theorem d_Mach_localAt_6 : decode prog_6_method_23_code 6 = .ok (.istore_n 2, 1) := by decide +kernel
theorem d_Mach_localAt_7 : decode prog_6_method_23_code 7 = .ok (.iload_n 2, 1) := by decide +kernel
theorem d_Mach_localAt_8 : decode prog_6_method_23_code 8 = .ok (.ifCond .lt 16, 3) := by decide +kernel
theorem d_Mach_localAt_24 : decode prog_6_method_23_code 24 = .ok (.iconst 0, 1) := by decide +kernel
theorem d_Mach_localAt_25 : decode prog_6_method_23_code 25 = .ok (.ireturn, 1) := by decide +kernel
theorem d_Mach_localAt_11 : decode prog_6_method_23_code 11 = .ok (.iload_n 2, 1) := by decide +kernel
theorem d_Mach_localAt_12 : decode prog_6_method_23_code 12 = .ok (.aload_n 0, 1) := by decide +kernel
theorem d_Mach_localAt_13 : decode prog_6_method_23_code 13 = .ok (.getfield 7, 3) := by decide +kernel
theorem d_Mach_localAt_16 : decode prog_6_method_23_code 16 = .ok (.arraylength, 1) := by decide +kernel
theorem d_Mach_localAt_17 : decode prog_6_method_23_code 17 = .ok (.if_icmp .ge 7, 3) := by decide +kernel
theorem d_Mach_localAt_20 : decode prog_6_method_23_code 20 = .ok (.iload_n 2, 1) := by decide +kernel
theorem d_Mach_localAt_21 : decode prog_6_method_23_code 21 = .ok (.goto 4, 3) := by decide +kernel
abbrev m_Store_dropRoot : am_M := (⟨"StowTongue$Store", "dropRoot", "(I)V"⟩, prog_9_method_17_code, 2, none)
theorem d_Store_dropRoot_0 : decode prog_9_method_17_code 0 = .ok (.iload_n 1, 1) := by decide +kernel
theorem d_Store_dropRoot_1 : decode prog_9_method_17_code 1 = .ok (.ifCond .ge 4, 3) := by decide +kernel
theorem d_Store_dropRoot_5 : decode prog_9_method_17_code 5 = .ok (.aload_n 0, 1) := by decide +kernel
theorem d_Store_dropRoot_6 : decode prog_9_method_17_code 6 = .ok (.dup, 1) := by decide +kernel
theorem d_Store_dropRoot_7 : decode prog_9_method_17_code 7 = .ok (.getfield 47, 3) := by decide +kernel
theorem d_Store_dropRoot_10 : decode prog_9_method_17_code 10 = .ok (.iconst 1, 1) := by decide +kernel
theorem d_Store_dropRoot_11 : decode prog_9_method_17_code 11 = .ok (.isub, 1) := by decide +kernel
theorem d_Store_dropRoot_12 : decode prog_9_method_17_code 12 = .ok (.putfield 47, 3) := by decide +kernel
theorem d_Store_dropRoot_15 : decode prog_9_method_17_code 15 = .ok (.aload_n 0, 1) := by decide +kernel
theorem d_Store_dropRoot_16 : decode prog_9_method_17_code 16 = .ok (.getfield 20, 3) := by decide +kernel
theorem d_Store_dropRoot_19 : decode prog_9_method_17_code 19 = .ok (.iload_n 1, 1) := by decide +kernel
theorem d_Store_dropRoot_20 : decode prog_9_method_17_code 20 = .ok (.aload_n 0, 1) := by decide +kernel
theorem d_Store_dropRoot_21 : decode prog_9_method_17_code 21 = .ok (.getfield 20, 3) := by decide +kernel
theorem d_Store_dropRoot_24 : decode prog_9_method_17_code 24 = .ok (.aload_n 0, 1) := by decide +kernel
theorem d_Store_dropRoot_25 : decode prog_9_method_17_code 25 = .ok (.getfield 47, 3) := by decide +kernel
theorem d_Store_dropRoot_28 : decode prog_9_method_17_code 28 = .ok (.laload, 1) := by decide +kernel
theorem d_Store_dropRoot_29 : decode prog_9_method_17_code 29 = .ok (.lastore, 1) := by decide +kernel
theorem d_Store_dropRoot_30 : decode prog_9_method_17_code 30 = .ok (.aload_n 0, 1) := by decide +kernel
theorem d_Store_dropRoot_31 : decode prog_9_method_17_code 31 = .ok (.getfield 23, 3) := by decide +kernel
theorem d_Store_dropRoot_34 : decode prog_9_method_17_code 34 = .ok (.iload_n 1, 1) := by decide +kernel
theorem d_Store_dropRoot_35 : decode prog_9_method_17_code 35 = .ok (.aload_n 0, 1) := by decide +kernel
theorem d_Store_dropRoot_36 : decode prog_9_method_17_code 36 = .ok (.getfield 23, 3) := by decide +kernel
theorem d_Store_dropRoot_39 : decode prog_9_method_17_code 39 = .ok (.aload_n 0, 1) := by decide +kernel
theorem d_Store_dropRoot_40 : decode prog_9_method_17_code 40 = .ok (.getfield 47, 3) := by decide +kernel
theorem d_Store_dropRoot_43 : decode prog_9_method_17_code 43 = .ok (.laload, 1) := by decide +kernel
theorem d_Store_dropRoot_44 : decode prog_9_method_17_code 44 = .ok (.lastore, 1) := by decide +kernel
theorem d_Store_dropRoot_45 : decode prog_9_method_17_code 45 = .ok (.aload_n 0, 1) := by decide +kernel
theorem d_Store_dropRoot_46 : decode prog_9_method_17_code 46 = .ok (.getfield 26, 3) := by decide +kernel
theorem d_Store_dropRoot_49 : decode prog_9_method_17_code 49 = .ok (.iload_n 1, 1) := by decide +kernel
theorem d_Store_dropRoot_50 : decode prog_9_method_17_code 50 = .ok (.aload_n 0, 1) := by decide +kernel
theorem d_Store_dropRoot_51 : decode prog_9_method_17_code 51 = .ok (.getfield 26, 3) := by decide +kernel
theorem d_Store_dropRoot_54 : decode prog_9_method_17_code 54 = .ok (.aload_n 0, 1) := by decide +kernel
theorem d_Store_dropRoot_55 : decode prog_9_method_17_code 55 = .ok (.getfield 47, 3) := by decide +kernel
theorem d_Store_dropRoot_58 : decode prog_9_method_17_code 58 = .ok (.laload, 1) := by decide +kernel
theorem d_Store_dropRoot_59 : decode prog_9_method_17_code 59 = .ok (.lastore, 1) := by decide +kernel
theorem d_Store_dropRoot_60 : decode prog_9_method_17_code 60 = .ok (.return_, 1) := by decide +kernel
theorem d_Store_dropRoot_4 : decode prog_9_method_17_code 4 = .ok (.return_, 1) := by decide +kernel
abbrev m_Mach_objectAt : am_M := (⟨"StowTongue$Machine", "objectAt", "(I)I"⟩, prog_6_method_13_code, 2, (some FieldType.int))
theorem d_Mach_objectAt_0 : decode prog_6_method_13_code 0 = .ok (.aload_n 0, 1) := by decide +kernel
theorem d_Mach_objectAt_1 : decode prog_6_method_13_code 1 = .ok (.getfield 13, 3) := by decide +kernel
theorem d_Mach_objectAt_4 : decode prog_6_method_13_code 4 = .ok (.iload_n 1, 1) := by decide +kernel
theorem d_Mach_objectAt_5 : decode prog_6_method_13_code 5 = .ok (.laload, 1) := by decide +kernel
theorem d_Mach_objectAt_6 : decode prog_6_method_13_code 6 = .ok (.l2i, 1) := by decide +kernel
theorem d_Mach_objectAt_7 : decode prog_6_method_13_code 7 = .ok (.ireturn, 1) := by decide +kernel
abbrev m_Store_firstCell : am_M := (⟨"StowTongue$Store", "firstCell", "(I)I"⟩, prog_9_method_8_code, 2, (some FieldType.int))
theorem d_Store_firstCell_0 : decode prog_9_method_8_code 0 = .ok (.iload_n 1, 1) := by decide +kernel
theorem d_Store_firstCell_1 : decode prog_9_method_8_code 1 = .ok (.ifCond .lt 16, 3) := by decide +kernel
theorem d_Store_firstCell_17 : decode prog_9_method_8_code 17 = .ok (.iconst 0, 1) := by decide +kernel
theorem d_Store_firstCell_18 : decode prog_9_method_8_code 18 = .ok (.ireturn, 1) := by decide +kernel
theorem d_Store_firstCell_4 : decode prog_9_method_8_code 4 = .ok (.iload_n 1, 1) := by decide +kernel
theorem d_Store_firstCell_5 : decode prog_9_method_8_code 5 = .ok (.bipush 100, 2) := by decide +kernel
theorem d_Store_firstCell_7 : decode prog_9_method_8_code 7 = .ok (.if_icmp .ge 10, 3) := by decide +kernel
theorem d_Store_firstCell_10 : decode prog_9_method_8_code 10 = .ok (.iload_n 1, 1) := by decide +kernel
theorem d_Store_firstCell_11 : decode prog_9_method_8_code 11 = .ok (.bipush 20, 2) := by decide +kernel
theorem d_Store_firstCell_13 : decode prog_9_method_8_code 13 = .ok (.imul, 1) := by decide +kernel
theorem d_Store_firstCell_14 : decode prog_9_method_8_code 14 = .ok (.goto 4, 3) := by decide +kernel
abbrev m_Store_cellsOf : am_M := (⟨"StowTongue$Store", "cellsOf", "(I)I"⟩, prog_9_method_7_code, 3, (some FieldType.int))
theorem d_Store_cellsOf_0 : decode prog_9_method_7_code 0 = .ok (.iload_n 1, 1) := by decide +kernel
theorem d_Store_cellsOf_1 : decode prog_9_method_7_code 1 = .ok (.ifCond .lt 23, 3) := by decide +kernel
theorem d_Store_cellsOf_24 : decode prog_9_method_7_code 24 = .ok (.iconst 0, 1) := by decide +kernel
theorem d_Store_cellsOf_25 : decode prog_9_method_7_code 25 = .ok (.istore_n 2, 1) := by decide +kernel
theorem d_Store_cellsOf_26 : decode prog_9_method_7_code 26 = .ok (.iload_n 2, 1) := by decide +kernel
theorem d_Store_cellsOf_27 : decode prog_9_method_7_code 27 = .ok (.ifCond .eq 12, 3) := by decide +kernel
theorem d_Store_cellsOf_39 : decode prog_9_method_7_code 39 = .ok (.iconst 0, 1) := by decide +kernel
theorem d_Store_cellsOf_40 : decode prog_9_method_7_code 40 = .ok (.ireturn, 1) := by decide +kernel
theorem d_Store_cellsOf_30 : decode prog_9_method_7_code 30 = .ok (.aload_n 0, 1) := by decide +kernel
theorem d_Store_cellsOf_31 : decode prog_9_method_7_code 31 = .ok (.getfield 16, 3) := by decide +kernel
theorem d_Store_cellsOf_34 : decode prog_9_method_7_code 34 = .ok (.iload_n 1, 1) := by decide +kernel
theorem d_Store_cellsOf_35 : decode prog_9_method_7_code 35 = .ok (.iaload, 1) := by decide +kernel
theorem d_Store_cellsOf_36 : decode prog_9_method_7_code 36 = .ok (.goto 4, 3) := by decide +kernel
theorem d_Store_cellsOf_4 : decode prog_9_method_7_code 4 = .ok (.iload_n 1, 1) := by decide +kernel
theorem d_Store_cellsOf_5 : decode prog_9_method_7_code 5 = .ok (.bipush 100, 2) := by decide +kernel
theorem d_Store_cellsOf_7 : decode prog_9_method_7_code 7 = .ok (.if_icmp .ge 17, 3) := by decide +kernel
theorem d_Store_cellsOf_10 : decode prog_9_method_7_code 10 = .ok (.aload_n 0, 1) := by decide +kernel
theorem d_Store_cellsOf_11 : decode prog_9_method_7_code 11 = .ok (.getfield 16, 3) := by decide +kernel
theorem d_Store_cellsOf_14 : decode prog_9_method_7_code 14 = .ok (.iload_n 1, 1) := by decide +kernel
theorem d_Store_cellsOf_15 : decode prog_9_method_7_code 15 = .ok (.iaload, 1) := by decide +kernel
theorem d_Store_cellsOf_16 : decode prog_9_method_7_code 16 = .ok (.iconst (-1), 1) := by decide +kernel
theorem d_Store_cellsOf_17 : decode prog_9_method_7_code 17 = .ok (.if_icmp .eq 7, 3) := by decide +kernel
theorem d_Store_cellsOf_20 : decode prog_9_method_7_code 20 = .ok (.iconst 1, 1) := by decide +kernel
theorem d_Store_cellsOf_21 : decode prog_9_method_7_code 21 = .ok (.goto 4, 3) := by decide +kernel
abbrev m_Store_dropField : am_M := (⟨"StowTongue$Store", "dropField", "(II)V"⟩, prog_9_method_13_code, 5, none)
theorem d_Store_dropField_0 : decode prog_9_method_13_code 0 = .ok (.iload_n 2, 1) := by decide +kernel
theorem d_Store_dropField_1 : decode prog_9_method_13_code 1 = .ok (.ifCond .ge 4, 3) := by decide +kernel
theorem d_Store_dropField_5 : decode prog_9_method_13_code 5 = .ok (.iload_n 2, 1) := by decide +kernel
theorem d_Store_dropField_6 : decode prog_9_method_13_code 6 = .ok (.iconst 1, 1) := by decide +kernel
theorem d_Store_dropField_7 : decode prog_9_method_13_code 7 = .ok (.iadd, 1) := by decide +kernel
theorem d_Store_dropField_8 : decode prog_9_method_13_code 8 = .ok (.istore_n 3, 1) := by decide +kernel
theorem d_Store_dropField_9 : decode prog_9_method_13_code 9 = .ok (.aload_n 0, 1) := by decide +kernel
theorem d_Store_dropField_10 : decode prog_9_method_13_code 10 = .ok (.iload_n 1, 1) := by decide +kernel
theorem d_Store_dropField_11 : decode prog_9_method_13_code 11 = .ok (.invokevirtual 62, 3) := by decide +kernel
theorem w_1219 : (Cond.methodLink "StowTongue$Store" 62 ⟨"StowTongue$Store", "firstCell", "(I)I"⟩ : Cond) ∈ am_tbl := am_w 1219 (by decide +kernel) (by decide +kernel)
set_option maxRecDepth 100000 in
theorem w_1222 : (Cond.code ⟨"StowTongue$Store", "firstCell", "(I)I"⟩ prog_9_method_8_code 2 (some FieldType.int) : Cond) ∈ am_tbl := am_w 1222 rfl rfl
theorem l_Store_62 : am_L "StowTongue$Store" 62 1 m_Store_firstCell := ⟨Or.inl w_1219, w_169, w_1222, ⟨by decide, by decide⟩, by decide +kernel, by decide⟩
theorem w_1220 : (Cond.instanceMethod ⟨"StowTongue$Store", "firstCell", "(I)I"⟩ : Cond) ∈ am_tbl := am_w 1220 (by decide +kernel) (by decide +kernel)
theorem w_1221 : (Cond.selects "StowTongue$Store" ⟨"StowTongue$Store", "firstCell", "(I)I"⟩ ⟨"StowTongue$Store", "firstCell", "(I)I"⟩ : Cond) ∈ am_tbl := am_w 1221 (by decide +kernel) (by decide +kernel)
theorem d_Store_dropField_14 : decode prog_9_method_13_code 14 = .ok (.aload_n 0, 1) := by decide +kernel
theorem d_Store_dropField_15 : decode prog_9_method_13_code 15 = .ok (.iload_n 1, 1) := by decide +kernel
theorem d_Store_dropField_16 : decode prog_9_method_13_code 16 = .ok (.invokevirtual 58, 3) := by decide +kernel
theorem w_1223 : (Cond.methodLink "StowTongue$Store" 58 ⟨"StowTongue$Store", "cellsOf", "(I)I"⟩ : Cond) ∈ am_tbl := am_w 1223 (by decide +kernel) (by decide +kernel)
set_option maxRecDepth 100000 in
theorem w_1226 : (Cond.code ⟨"StowTongue$Store", "cellsOf", "(I)I"⟩ prog_9_method_7_code 3 (some FieldType.int) : Cond) ∈ am_tbl := am_w 1226 rfl rfl
theorem l_Store_58 : am_L "StowTongue$Store" 58 1 m_Store_cellsOf := ⟨Or.inl w_1223, w_169, w_1226, ⟨by decide, by decide⟩, by decide +kernel, by decide⟩
theorem w_1224 : (Cond.instanceMethod ⟨"StowTongue$Store", "cellsOf", "(I)I"⟩ : Cond) ∈ am_tbl := am_w 1224 (by decide +kernel) (by decide +kernel)
theorem w_1225 : (Cond.selects "StowTongue$Store" ⟨"StowTongue$Store", "cellsOf", "(I)I"⟩ ⟨"StowTongue$Store", "cellsOf", "(I)I"⟩ : Cond) ∈ am_tbl := am_w 1225 (by decide +kernel) (by decide +kernel)
theorem d_Store_dropField_19 : decode prog_9_method_13_code 19 = .ok (.iadd, 1) := by decide +kernel
theorem d_Store_dropField_20 : decode prog_9_method_13_code 20 = .ok (.iload_n 3, 1) := by decide +kernel
theorem d_Store_dropField_21 : decode prog_9_method_13_code 21 = .ok (.isub, 1) := by decide +kernel
theorem d_Store_dropField_22 : decode prog_9_method_13_code 22 = .ok (.istore 4, 2) := by decide +kernel
theorem d_Store_dropField_24 : decode prog_9_method_13_code 24 = .ok (.aload_n 0, 1) := by decide +kernel
theorem d_Store_dropField_25 : decode prog_9_method_13_code 25 = .ok (.getfield 9, 3) := by decide +kernel
theorem d_Store_dropField_28 : decode prog_9_method_13_code 28 = .ok (.iload_n 3, 1) := by decide +kernel
theorem d_Store_dropField_29 : decode prog_9_method_13_code 29 = .ok (.aload_n 0, 1) := by decide +kernel
theorem d_Store_dropField_30 : decode prog_9_method_13_code 30 = .ok (.getfield 9, 3) := by decide +kernel
theorem d_Store_dropField_33 : decode prog_9_method_13_code 33 = .ok (.iload_n 2, 1) := by decide +kernel
theorem d_Store_dropField_34 : decode prog_9_method_13_code 34 = .ok (.iconst 1, 1) := by decide +kernel
theorem d_Store_dropField_35 : decode prog_9_method_13_code 35 = .ok (.isub, 1) := by decide +kernel
theorem d_Store_dropField_36 : decode prog_9_method_13_code 36 = .ok (.iload 4, 2) := by decide +kernel
theorem d_Store_dropField_38 : decode prog_9_method_13_code 38 = .ok (.invokestatic 41, 3) := by decide +kernel
theorem d_Store_dropField_41 : decode prog_9_method_13_code 41 = .ok (.aload_n 0, 1) := by decide +kernel
theorem d_Store_dropField_42 : decode prog_9_method_13_code 42 = .ok (.getfield 13, 3) := by decide +kernel
theorem d_Store_dropField_45 : decode prog_9_method_13_code 45 = .ok (.iload_n 3, 1) := by decide +kernel
theorem d_Store_dropField_46 : decode prog_9_method_13_code 46 = .ok (.aload_n 0, 1) := by decide +kernel
theorem d_Store_dropField_47 : decode prog_9_method_13_code 47 = .ok (.getfield 13, 3) := by decide +kernel
theorem d_Store_dropField_50 : decode prog_9_method_13_code 50 = .ok (.iload_n 2, 1) := by decide +kernel
theorem d_Store_dropField_51 : decode prog_9_method_13_code 51 = .ok (.iconst 1, 1) := by decide +kernel
theorem d_Store_dropField_52 : decode prog_9_method_13_code 52 = .ok (.isub, 1) := by decide +kernel
theorem d_Store_dropField_53 : decode prog_9_method_13_code 53 = .ok (.iload 4, 2) := by decide +kernel
theorem d_Store_dropField_55 : decode prog_9_method_13_code 55 = .ok (.invokestatic 41, 3) := by decide +kernel
theorem d_Store_dropField_58 : decode prog_9_method_13_code 58 = .ok (.aload_n 0, 1) := by decide +kernel
theorem d_Store_dropField_59 : decode prog_9_method_13_code 59 = .ok (.getfield 16, 3) := by decide +kernel
theorem d_Store_dropField_62 : decode prog_9_method_13_code 62 = .ok (.iload_n 1, 1) := by decide +kernel
theorem d_Store_dropField_63 : decode prog_9_method_13_code 63 = .ok (.dup2, 1) := by decide +kernel
theorem d_Store_dropField_64 : decode prog_9_method_13_code 64 = .ok (.iaload, 1) := by decide +kernel
theorem d_Store_dropField_65 : decode prog_9_method_13_code 65 = .ok (.iconst 2, 1) := by decide +kernel
theorem d_Store_dropField_66 : decode prog_9_method_13_code 66 = .ok (.isub, 1) := by decide +kernel
theorem d_Store_dropField_67 : decode prog_9_method_13_code 67 = .ok (.iastore, 1) := by decide +kernel
theorem d_Store_dropField_68 : decode prog_9_method_13_code 68 = .ok (.return_, 1) := by decide +kernel
theorem d_Store_dropField_4 : decode prog_9_method_13_code 4 = .ok (.return_, 1) := by decide +kernel
theorem d_Store_isThere_20 : decode prog_9_method_4_code 20 = .ok (.iconst 1, 1) := by decide +kernel
theorem d_Store_isThere_21 : decode prog_9_method_4_code 21 = .ok (.goto 4, 3) := by decide +kernel
abbrev m_Mach_isWithin : am_M := (⟨"StowTongue$Machine", "isWithin", "(II)Z"⟩, prog_6_method_27_code, 3, (some FieldType.boolean))
theorem d_Mach_isWithin_0 : decode prog_6_method_27_code 0 = .ok (.aload_n 0, 1) := by decide +kernel
theorem d_Mach_isWithin_1 : decode prog_6_method_27_code 1 = .ok (.iload_n 1, 1) := by decide +kernel
theorem d_Mach_isWithin_2 : decode prog_6_method_27_code 2 = .ok (.invokevirtual 177, 3) := by decide +kernel
theorem w_1138 : (Cond.methodLink "StowTongue$Machine" 177 ⟨"StowTongue$Machine", "sortAt", "(I)I"⟩ : Cond) ∈ am_tbl := am_w 1138 (by decide +kernel) (by decide +kernel)
set_option maxRecDepth 100000 in
theorem w_1141 : (Cond.code ⟨"StowTongue$Machine", "sortAt", "(I)I"⟩ prog_6_method_12_code 2 (some FieldType.int) : Cond) ∈ am_tbl := am_w 1141 rfl rfl
theorem l_Mach_177 : am_L "StowTongue$Machine" 177 1 m_Mach_sortAt := ⟨Or.inl w_1138, w_157, w_1141, ⟨by decide, by decide⟩, by decide +kernel, by decide⟩
theorem w_1140 : (Cond.instanceMethod ⟨"StowTongue$Machine", "sortAt", "(I)I"⟩ : Cond) ∈ am_tbl := am_w 1140 (by decide +kernel) (by decide +kernel)
theorem w_52 : (Cond.selects "StowTongue$Machine" ⟨"StowTongue$Machine", "sortAt", "(I)I"⟩ ⟨"StowTongue$Machine", "sortAt", "(I)I"⟩ : Cond) ∈ am_tbl := am_w 52 (by decide +kernel) (by decide +kernel)
theorem d_Mach_isWithin_5 : decode prog_6_method_27_code 5 = .ok (.iconst 1, 1) := by decide +kernel
theorem d_Mach_isWithin_6 : decode prog_6_method_27_code 6 = .ok (.if_icmp .eq 11, 3) := by decide +kernel
theorem d_Mach_isWithin_17 : decode prog_6_method_27_code 17 = .ok (.aload_n 0, 1) := by decide +kernel
theorem d_Mach_isWithin_18 : decode prog_6_method_27_code 18 = .ok (.getfield 13, 3) := by decide +kernel
theorem d_Mach_isWithin_21 : decode prog_6_method_27_code 21 = .ok (.iload_n 1, 1) := by decide +kernel
theorem d_Mach_isWithin_22 : decode prog_6_method_27_code 22 = .ok (.laload, 1) := by decide +kernel
theorem d_Mach_isWithin_23 : decode prog_6_method_27_code 23 = .ok (.lconst 0, 1) := by decide +kernel
theorem d_Mach_isWithin_24 : decode prog_6_method_27_code 24 = .ok (.lcmp, 1) := by decide +kernel
theorem d_Mach_isWithin_25 : decode prog_6_method_27_code 25 = .ok (.ifCond .lt 15, 3) := by decide +kernel
theorem d_Mach_isWithin_40 : decode prog_6_method_27_code 40 = .ok (.aload_n 0, 1) := by decide +kernel
theorem d_Mach_isWithin_41 : decode prog_6_method_27_code 41 = .ok (.iconst 3, 1) := by decide +kernel
theorem d_Mach_isWithin_42 : decode prog_6_method_27_code 42 = .ok (.invokevirtual 106, 3) := by decide +kernel
theorem d_Mach_isWithin_45 : decode prog_6_method_27_code 45 = .ok (.goto 5, 3) := by decide +kernel
theorem d_Mach_isWithin_50 : decode prog_6_method_27_code 50 = .ok (.iconst 0, 1) := by decide +kernel
theorem d_Mach_isWithin_51 : decode prog_6_method_27_code 51 = .ok (.ireturn, 1) := by decide +kernel
theorem d_Mach_isWithin_28 : decode prog_6_method_27_code 28 = .ok (.aload_n 0, 1) := by decide +kernel
theorem d_Mach_isWithin_29 : decode prog_6_method_27_code 29 = .ok (.getfield 13, 3) := by decide +kernel
theorem d_Mach_isWithin_32 : decode prog_6_method_27_code 32 = .ok (.iload_n 1, 1) := by decide +kernel
theorem d_Mach_isWithin_33 : decode prog_6_method_27_code 33 = .ok (.laload, 1) := by decide +kernel
theorem d_Mach_isWithin_34 : decode prog_6_method_27_code 34 = .ok (.iload_n 2, 1) := by decide +kernel
theorem d_Mach_isWithin_35 : decode prog_6_method_27_code 35 = .ok (.i2l, 1) := by decide +kernel
theorem d_Mach_isWithin_36 : decode prog_6_method_27_code 36 = .ok (.lcmp, 1) := by decide +kernel
theorem d_Mach_isWithin_37 : decode prog_6_method_27_code 37 = .ok (.ifCond .lt 11, 3) := by decide +kernel
theorem d_Mach_isWithin_48 : decode prog_6_method_27_code 48 = .ok (.iconst 1, 1) := by decide +kernel
theorem d_Mach_isWithin_49 : decode prog_6_method_27_code 49 = .ok (.ireturn, 1) := by decide +kernel
theorem d_Mach_isWithin_9 : decode prog_6_method_27_code 9 = .ok (.aload_n 0, 1) := by decide +kernel
theorem d_Mach_isWithin_10 : decode prog_6_method_27_code 10 = .ok (.iconst 2, 1) := by decide +kernel
theorem d_Mach_isWithin_11 : decode prog_6_method_27_code 11 = .ok (.invokevirtual 106, 3) := by decide +kernel
theorem d_Mach_isWithin_14 : decode prog_6_method_27_code 14 = .ok (.goto 36, 3) := by decide +kernel
abbrev m_Mach_storeItem : am_M := (⟨"StowTongue$Machine", "storeItem", "()V"⟩, prog_6_method_29_code, 5, none)
theorem d_Mach_storeItem_0 : decode prog_6_method_29_code 0 = .ok (.aload_n 0, 1) := by decide +kernel
theorem d_Mach_storeItem_1 : decode prog_6_method_29_code 1 = .ok (.iconst 3, 1) := by decide +kernel
theorem d_Mach_storeItem_2 : decode prog_6_method_29_code 2 = .ok (.invokevirtual 133, 3) := by decide +kernel
theorem d_Mach_storeItem_5 : decode prog_6_method_29_code 5 = .ok (.istore_n 1, 1) := by decide +kernel
theorem d_Mach_storeItem_6 : decode prog_6_method_29_code 6 = .ok (.aload_n 0, 1) := by decide +kernel
theorem d_Mach_storeItem_7 : decode prog_6_method_29_code 7 = .ok (.iconst 2, 1) := by decide +kernel
theorem d_Mach_storeItem_8 : decode prog_6_method_29_code 8 = .ok (.invokevirtual 133, 3) := by decide +kernel
theorem d_Mach_storeItem_11 : decode prog_6_method_29_code 11 = .ok (.istore_n 2, 1) := by decide +kernel
theorem d_Mach_storeItem_12 : decode prog_6_method_29_code 12 = .ok (.aload_n 0, 1) := by decide +kernel
theorem d_Mach_storeItem_13 : decode prog_6_method_29_code 13 = .ok (.iconst 1, 1) := by decide +kernel
theorem d_Mach_storeItem_14 : decode prog_6_method_29_code 14 = .ok (.invokevirtual 133, 3) := by decide +kernel
theorem d_Mach_storeItem_17 : decode prog_6_method_29_code 17 = .ok (.istore_n 3, 1) := by decide +kernel
theorem d_Mach_storeItem_18 : decode prog_6_method_29_code 18 = .ok (.aload_n 0, 1) := by decide +kernel
theorem d_Mach_storeItem_19 : decode prog_6_method_29_code 19 = .ok (.iload_n 1, 1) := by decide +kernel
theorem d_Mach_storeItem_20 : decode prog_6_method_29_code 20 = .ok (.putfield 54, 3) := by decide +kernel
theorem d_Mach_storeItem_23 : decode prog_6_method_29_code 23 = .ok (.aload_n 0, 1) := by decide +kernel
theorem d_Mach_storeItem_24 : decode prog_6_method_29_code 24 = .ok (.iload_n 1, 1) := by decide +kernel
theorem d_Mach_storeItem_25 : decode prog_6_method_29_code 25 = .ok (.invokevirtual 177, 3) := by decide +kernel
theorem d_Mach_storeItem_28 : decode prog_6_method_29_code 28 = .ok (.iconst 4, 1) := by decide +kernel
theorem d_Mach_storeItem_29 : decode prog_6_method_29_code 29 = .ok (.if_icmp .eq 11, 3) := by decide +kernel
theorem d_Mach_storeItem_40 : decode prog_6_method_29_code 40 = .ok (.aload_n 0, 1) := by decide +kernel
theorem d_Mach_storeItem_41 : decode prog_6_method_29_code 41 = .ok (.iload_n 2, 1) := by decide +kernel
theorem d_Mach_storeItem_42 : decode prog_6_method_29_code 42 = .ok (.aload_n 0, 1) := by decide +kernel
theorem d_Mach_storeItem_43 : decode prog_6_method_29_code 43 = .ok (.getfield 29, 3) := by decide +kernel
theorem w_412 : (Cond.fieldLink "StowTongue$Machine" 29 "StowTongue$Machine" "store" "LStowTongue$Store;" : Cond) ∈ am_tbl := am_w 412 (by decide +kernel) (by decide +kernel)
theorem f_Mach_29 : am_F "StowTongue$Machine" 29 6 10 := ⟨_, rfl, cl_6, by decide, Or.inl w_412⟩
theorem d_Mach_storeItem_46 : decode prog_6_method_29_code 46 = .ok (.aload_n 0, 1) := by decide +kernel
theorem d_Mach_storeItem_47 : decode prog_6_method_29_code 47 = .ok (.iload_n 1, 1) := by decide +kernel
theorem d_Mach_storeItem_48 : decode prog_6_method_29_code 48 = .ok (.invokevirtual 225, 3) := by decide +kernel
theorem w_1211 : (Cond.methodLink "StowTongue$Machine" 225 ⟨"StowTongue$Machine", "objectAt", "(I)I"⟩ : Cond) ∈ am_tbl := am_w 1211 (by decide +kernel) (by decide +kernel)
set_option maxRecDepth 100000 in
theorem w_1214 : (Cond.code ⟨"StowTongue$Machine", "objectAt", "(I)I"⟩ prog_6_method_13_code 2 (some FieldType.int) : Cond) ∈ am_tbl := am_w 1214 rfl rfl
theorem l_Mach_225 : am_L "StowTongue$Machine" 225 1 m_Mach_objectAt := ⟨Or.inl w_1211, w_157, w_1214, ⟨by decide, by decide⟩, by decide +kernel, by decide⟩
theorem w_1213 : (Cond.instanceMethod ⟨"StowTongue$Machine", "objectAt", "(I)I"⟩ : Cond) ∈ am_tbl := am_w 1213 (by decide +kernel) (by decide +kernel)
theorem w_60 : (Cond.selects "StowTongue$Machine" ⟨"StowTongue$Machine", "objectAt", "(I)I"⟩ ⟨"StowTongue$Machine", "objectAt", "(I)I"⟩ : Cond) ∈ am_tbl := am_w 60 (by decide +kernel) (by decide +kernel)
theorem d_Mach_storeItem_51 : decode prog_6_method_29_code 51 = .ok (.invokevirtual 238, 3) := by decide +kernel
theorem w_1252 : (Cond.methodLink "StowTongue$Machine" 238 ⟨"StowTongue$Store", "cellsOf", "(I)I"⟩ : Cond) ∈ am_tbl := am_w 1252 (by decide +kernel) (by decide +kernel)
theorem l_Mach_238 : am_L "StowTongue$Machine" 238 1 m_Store_cellsOf := ⟨Or.inl w_1252, w_169, w_1226, ⟨by decide, by decide⟩, by decide +kernel, by decide⟩
theorem d_Mach_storeItem_54 : decode prog_6_method_29_code 54 = .ok (.invokevirtual 241, 3) := by decide +kernel
theorem w_1253 : (Cond.methodLink "StowTongue$Machine" 241 ⟨"StowTongue$Machine", "isWithin", "(II)Z"⟩ : Cond) ∈ am_tbl := am_w 1253 (by decide +kernel) (by decide +kernel)
set_option maxRecDepth 100000 in
theorem w_1256 : (Cond.code ⟨"StowTongue$Machine", "isWithin", "(II)Z"⟩ prog_6_method_27_code 3 (some FieldType.boolean) : Cond) ∈ am_tbl := am_w 1256 rfl rfl
theorem l_Mach_241 : am_L "StowTongue$Machine" 241 2 m_Mach_isWithin := ⟨Or.inl w_1253, w_157, w_1256, ⟨by decide, by decide⟩, by decide +kernel, by decide⟩
theorem w_1255 : (Cond.instanceMethod ⟨"StowTongue$Machine", "isWithin", "(II)Z"⟩ : Cond) ∈ am_tbl := am_w 1255 (by decide +kernel) (by decide +kernel)
theorem w_64 : (Cond.selects "StowTongue$Machine" ⟨"StowTongue$Machine", "isWithin", "(II)Z"⟩ ⟨"StowTongue$Machine", "isWithin", "(II)Z"⟩ : Cond) ∈ am_tbl := am_w 64 (by decide +kernel) (by decide +kernel)
theorem d_Mach_storeItem_57 : decode prog_6_method_29_code 57 = .ok (.ifCond .eq 57, 3) := by decide +kernel
theorem d_Mach_storeItem_114 : decode prog_6_method_29_code 114 = .ok (.return_, 1) := by decide +kernel
theorem d_Mach_storeItem_60 : decode prog_6_method_29_code 60 = .ok (.aload_n 0, 1) := by decide +kernel
theorem d_Mach_storeItem_61 : decode prog_6_method_29_code 61 = .ok (.getfield 29, 3) := by decide +kernel
theorem d_Mach_storeItem_64 : decode prog_6_method_29_code 64 = .ok (.aload_n 0, 1) := by decide +kernel
theorem d_Mach_storeItem_65 : decode prog_6_method_29_code 65 = .ok (.iload_n 1, 1) := by decide +kernel
theorem d_Mach_storeItem_66 : decode prog_6_method_29_code 66 = .ok (.invokevirtual 225, 3) := by decide +kernel
theorem d_Mach_storeItem_69 : decode prog_6_method_29_code 69 = .ok (.invokevirtual 245, 3) := by decide +kernel
theorem w_1257 : (Cond.methodLink "StowTongue$Machine" 245 ⟨"StowTongue$Store", "firstCell", "(I)I"⟩ : Cond) ∈ am_tbl := am_w 1257 (by decide +kernel) (by decide +kernel)
theorem l_Mach_245 : am_L "StowTongue$Machine" 245 1 m_Store_firstCell := ⟨Or.inl w_1257, w_169, w_1222, ⟨by decide, by decide⟩, by decide +kernel, by decide⟩
theorem d_Mach_storeItem_72 : decode prog_6_method_29_code 72 = .ok (.aload_n 0, 1) := by decide +kernel
theorem d_Mach_storeItem_73 : decode prog_6_method_29_code 73 = .ok (.getfield 13, 3) := by decide +kernel
theorem d_Mach_storeItem_76 : decode prog_6_method_29_code 76 = .ok (.iload_n 2, 1) := by decide +kernel
theorem d_Mach_storeItem_77 : decode prog_6_method_29_code 77 = .ok (.laload, 1) := by decide +kernel
theorem d_Mach_storeItem_78 : decode prog_6_method_29_code 78 = .ok (.l2i, 1) := by decide +kernel
theorem d_Mach_storeItem_79 : decode prog_6_method_29_code 79 = .ok (.iadd, 1) := by decide +kernel
theorem d_Mach_storeItem_80 : decode prog_6_method_29_code 80 = .ok (.istore 4, 2) := by decide +kernel
theorem d_Mach_storeItem_82 : decode prog_6_method_29_code 82 = .ok (.aload_n 0, 1) := by decide +kernel
theorem d_Mach_storeItem_83 : decode prog_6_method_29_code 83 = .ok (.getfield 29, 3) := by decide +kernel
theorem d_Mach_storeItem_86 : decode prog_6_method_29_code 86 = .ok (.getfield 232, 3) := by decide +kernel
theorem w_972 : (Cond.fieldLink "StowTongue$Machine" 232 "StowTongue$Store" "head" "[J" : Cond) ∈ am_tbl := am_w 972 (by decide +kernel) (by decide +kernel)
theorem f_Mach_232 : am_F "StowTongue$Machine" 232 10 0 := ⟨_, rfl, cl_10, by decide, Or.inl w_972⟩
theorem d_Mach_storeItem_89 : decode prog_6_method_29_code 89 = .ok (.iload 4, 2) := by decide +kernel
theorem d_Mach_storeItem_91 : decode prog_6_method_29_code 91 = .ok (.aload_n 0, 1) := by decide +kernel
theorem d_Mach_storeItem_92 : decode prog_6_method_29_code 92 = .ok (.getfield 7, 3) := by decide +kernel
theorem d_Mach_storeItem_95 : decode prog_6_method_29_code 95 = .ok (.iload_n 3, 1) := by decide +kernel
theorem d_Mach_storeItem_96 : decode prog_6_method_29_code 96 = .ok (.laload, 1) := by decide +kernel
theorem d_Mach_storeItem_97 : decode prog_6_method_29_code 97 = .ok (.lastore, 1) := by decide +kernel
theorem d_Mach_storeItem_98 : decode prog_6_method_29_code 98 = .ok (.aload_n 0, 1) := by decide +kernel
theorem d_Mach_storeItem_99 : decode prog_6_method_29_code 99 = .ok (.getfield 29, 3) := by decide +kernel
theorem d_Mach_storeItem_102 : decode prog_6_method_29_code 102 = .ok (.getfield 233, 3) := by decide +kernel
theorem w_975 : (Cond.fieldLink "StowTongue$Machine" 233 "StowTongue$Store" "tail" "[J" : Cond) ∈ am_tbl := am_w 975 (by decide +kernel) (by decide +kernel)
theorem f_Mach_233 : am_F "StowTongue$Machine" 233 10 1 := ⟨_, rfl, cl_10, by decide, Or.inl w_975⟩
theorem d_Mach_storeItem_105 : decode prog_6_method_29_code 105 = .ok (.iload 4, 2) := by decide +kernel
theorem d_Mach_storeItem_107 : decode prog_6_method_29_code 107 = .ok (.aload_n 0, 1) := by decide +kernel
theorem d_Mach_storeItem_108 : decode prog_6_method_29_code 108 = .ok (.getfield 13, 3) := by decide +kernel
theorem d_Mach_storeItem_111 : decode prog_6_method_29_code 111 = .ok (.iload_n 3, 1) := by decide +kernel
theorem d_Mach_storeItem_112 : decode prog_6_method_29_code 112 = .ok (.laload, 1) := by decide +kernel
theorem d_Mach_storeItem_113 : decode prog_6_method_29_code 113 = .ok (.lastore, 1) := by decide +kernel
theorem d_Mach_storeItem_32 : decode prog_6_method_29_code 32 = .ok (.aload_n 0, 1) := by decide +kernel
theorem d_Mach_storeItem_33 : decode prog_6_method_29_code 33 = .ok (.iconst 2, 1) := by decide +kernel
theorem d_Mach_storeItem_34 : decode prog_6_method_29_code 34 = .ok (.invokevirtual 106, 3) := by decide +kernel
theorem d_Mach_storeItem_37 : decode prog_6_method_29_code 37 = .ok (.goto 77, 3) := by decide +kernel
abbrev m_Store_make : am_M := (⟨"StowTongue$Store", "make", "()I"⟩, prog_9_method_5_code, 2, (some FieldType.int))
theorem d_Store_make_0 : decode prog_9_method_5_code 0 = .ok (.iconst 0, 1) := by decide +kernel
theorem d_Store_make_1 : decode prog_9_method_5_code 1 = .ok (.istore_n 1, 1) := by decide +kernel
theorem d_Store_make_2 : decode prog_9_method_5_code 2 = .ok (.iload_n 1, 1) := by decide +kernel
theorem d_Store_make_3 : decode prog_9_method_5_code 3 = .ok (.bipush 100, 2) := by decide +kernel
theorem d_Store_make_5 : decode prog_9_method_5_code 5 = .ok (.if_icmp .ge 28, 3) := by decide +kernel
theorem d_Store_make_33 : decode prog_9_method_5_code 33 = .ok (.iconst (-1), 1) := by decide +kernel
theorem d_Store_make_34 : decode prog_9_method_5_code 34 = .ok (.ireturn, 1) := by decide +kernel
theorem d_Store_make_8 : decode prog_9_method_5_code 8 = .ok (.aload_n 0, 1) := by decide +kernel
theorem d_Store_make_9 : decode prog_9_method_5_code 9 = .ok (.getfield 16, 3) := by decide +kernel
theorem d_Store_make_12 : decode prog_9_method_5_code 12 = .ok (.iload_n 1, 1) := by decide +kernel
theorem d_Store_make_13 : decode prog_9_method_5_code 13 = .ok (.iaload, 1) := by decide +kernel
theorem d_Store_make_14 : decode prog_9_method_5_code 14 = .ok (.iconst (-1), 1) := by decide +kernel
theorem d_Store_make_15 : decode prog_9_method_5_code 15 = .ok (.if_icmp .ne 12, 3) := by decide +kernel
theorem d_Store_make_18 : decode prog_9_method_5_code 18 = .ok (.aload_n 0, 1) := by decide +kernel
theorem d_Store_make_19 : decode prog_9_method_5_code 19 = .ok (.getfield 16, 3) := by decide +kernel
theorem d_Store_make_22 : decode prog_9_method_5_code 22 = .ok (.iload_n 1, 1) := by decide +kernel
theorem d_Store_make_23 : decode prog_9_method_5_code 23 = .ok (.iconst 0, 1) := by decide +kernel
theorem d_Store_make_24 : decode prog_9_method_5_code 24 = .ok (.iastore, 1) := by decide +kernel
theorem d_Store_make_25 : decode prog_9_method_5_code 25 = .ok (.iload_n 1, 1) := by decide +kernel
theorem d_Store_make_26 : decode prog_9_method_5_code 26 = .ok (.ireturn, 1) := by decide +kernel
theorem d_Store_make_27 : decode prog_9_method_5_code 27 = .ok (.iinc 1 1, 3) := by decide +kernel
theorem d_Store_make_30 : decode prog_9_method_5_code 30 = .ok (.goto (-28), 3) := by decide +kernel
abbrev m_Store_dropLast : am_M := (⟨"StowTongue$Store", "dropLast", "(I)V"⟩, prog_9_method_10_code, 2, none)
theorem d_Store_dropLast_0 : decode prog_9_method_10_code 0 = .ok (.aload_n 0, 1) := by decide +kernel
theorem d_Store_dropLast_1 : decode prog_9_method_10_code 1 = .ok (.iload_n 1, 1) := by decide +kernel
theorem d_Store_dropLast_2 : decode prog_9_method_10_code 2 = .ok (.invokevirtual 58, 3) := by decide +kernel
theorem d_Store_dropLast_5 : decode prog_9_method_10_code 5 = .ok (.ifCond .le 13, 3) := by decide +kernel
theorem d_Store_dropLast_18 : decode prog_9_method_10_code 18 = .ok (.return_, 1) := by decide +kernel
theorem d_Store_dropLast_8 : decode prog_9_method_10_code 8 = .ok (.aload_n 0, 1) := by decide +kernel
theorem d_Store_dropLast_9 : decode prog_9_method_10_code 9 = .ok (.getfield 16, 3) := by decide +kernel
theorem d_Store_dropLast_12 : decode prog_9_method_10_code 12 = .ok (.iload_n 1, 1) := by decide +kernel
theorem d_Store_dropLast_13 : decode prog_9_method_10_code 13 = .ok (.dup2, 1) := by decide +kernel
theorem d_Store_dropLast_14 : decode prog_9_method_10_code 14 = .ok (.iaload, 1) := by decide +kernel
theorem d_Store_dropLast_15 : decode prog_9_method_10_code 15 = .ok (.iconst 1, 1) := by decide +kernel
theorem d_Store_dropLast_16 : decode prog_9_method_10_code 16 = .ok (.isub, 1) := by decide +kernel
theorem d_Store_dropLast_17 : decode prog_9_method_10_code 17 = .ok (.iastore, 1) := by decide +kernel
abbrev m_Mach_found : am_M := (⟨"StowTongue$Machine", "found", "(III)I"⟩, prog_6_method_40_code, 3, (some FieldType.int))
theorem d_Mach_found_0 : decode prog_6_method_40_code 0 = .ok (.iload_n 0, 1) := by decide +kernel
theorem d_Mach_found_1 : decode prog_6_method_40_code 1 = .ok (.tableswitch 55 32 35 #[31, 35, 39, 43], 31) := by decide +kernel
theorem d_Mach_found_32 : decode prog_6_method_40_code 32 = .ok (.iload_n 1, 1) := by decide +kernel
theorem d_Mach_found_33 : decode prog_6_method_40_code 33 = .ok (.iload_n 2, 1) := by decide +kernel
theorem d_Mach_found_34 : decode prog_6_method_40_code 34 = .ok (.iadd, 1) := by decide +kernel
theorem d_Mach_found_35 : decode prog_6_method_40_code 35 = .ok (.ireturn, 1) := by decide +kernel
theorem d_Mach_found_36 : decode prog_6_method_40_code 36 = .ok (.iload_n 1, 1) := by decide +kernel
theorem d_Mach_found_37 : decode prog_6_method_40_code 37 = .ok (.iload_n 2, 1) := by decide +kernel
theorem d_Mach_found_38 : decode prog_6_method_40_code 38 = .ok (.isub, 1) := by decide +kernel
theorem d_Mach_found_39 : decode prog_6_method_40_code 39 = .ok (.ireturn, 1) := by decide +kernel
theorem d_Mach_found_40 : decode prog_6_method_40_code 40 = .ok (.iload_n 1, 1) := by decide +kernel
theorem d_Mach_found_41 : decode prog_6_method_40_code 41 = .ok (.iload_n 2, 1) := by decide +kernel
theorem d_Mach_found_42 : decode prog_6_method_40_code 42 = .ok (.imul, 1) := by decide +kernel
theorem d_Mach_found_43 : decode prog_6_method_40_code 43 = .ok (.ireturn, 1) := by decide +kernel
theorem d_Mach_found_44 : decode prog_6_method_40_code 44 = .ok (.iload_n 2, 1) := by decide +kernel
theorem d_Mach_found_45 : decode prog_6_method_40_code 45 = .ok (.ifCond .ne 7, 3) := by decide +kernel
theorem d_Mach_found_48 : decode prog_6_method_40_code 48 = .ok (.iconst 0, 1) := by decide +kernel
theorem d_Mach_found_49 : decode prog_6_method_40_code 49 = .ok (.goto 6, 3) := by decide +kernel
theorem d_Mach_found_55 : decode prog_6_method_40_code 55 = .ok (.ireturn, 1) := by decide +kernel
theorem d_Mach_found_52 : decode prog_6_method_40_code 52 = .ok (.iload_n 1, 1) := by decide +kernel
theorem d_Mach_found_53 : decode prog_6_method_40_code 53 = .ok (.iload_n 2, 1) := by decide +kernel
theorem d_Mach_found_54 : decode prog_6_method_40_code 54 = .ok (.idiv, 1) := by decide +kernel
theorem d_Mach_found_56 : decode prog_6_method_40_code 56 = .ok (.iload_n 2, 1) := by decide +kernel
theorem d_Mach_found_57 : decode prog_6_method_40_code 57 = .ok (.ifCond .ne 7, 3) := by decide +kernel
theorem d_Mach_found_60 : decode prog_6_method_40_code 60 = .ok (.iconst 0, 1) := by decide +kernel
theorem d_Mach_found_61 : decode prog_6_method_40_code 61 = .ok (.goto 6, 3) := by decide +kernel
theorem d_Mach_found_67 : decode prog_6_method_40_code 67 = .ok (.ireturn, 1) := by decide +kernel
theorem d_Mach_found_64 : decode prog_6_method_40_code 64 = .ok (.iload_n 1, 1) := by decide +kernel
theorem d_Mach_found_65 : decode prog_6_method_40_code 65 = .ok (.iload_n 2, 1) := by decide +kernel
theorem d_Mach_found_66 : decode prog_6_method_40_code 66 = .ok (.irem, 1) := by decide +kernel
abbrev m_Store_sameObject : am_M := (⟨"StowTongue$Store", "sameObject", "(LStowTongue$Store;I)Z"⟩, prog_9_method_24_code, 5, (some FieldType.boolean))
theorem d_Store_sameObject_0 : decode prog_9_method_24_code 0 = .ok (.aload_n 0, 1) := by decide +kernel
theorem d_Store_sameObject_1 : decode prog_9_method_24_code 1 = .ok (.getfield 16, 3) := by decide +kernel
theorem d_Store_sameObject_4 : decode prog_9_method_24_code 4 = .ok (.iload_n 2, 1) := by decide +kernel
theorem d_Store_sameObject_5 : decode prog_9_method_24_code 5 = .ok (.iaload, 1) := by decide +kernel
theorem d_Store_sameObject_6 : decode prog_9_method_24_code 6 = .ok (.aload_n 1, 1) := by decide +kernel
theorem d_Store_sameObject_7 : decode prog_9_method_24_code 7 = .ok (.getfield 16, 3) := by decide +kernel
theorem d_Store_sameObject_10 : decode prog_9_method_24_code 10 = .ok (.iload_n 2, 1) := by decide +kernel
theorem d_Store_sameObject_11 : decode prog_9_method_24_code 11 = .ok (.iaload, 1) := by decide +kernel
theorem d_Store_sameObject_12 : decode prog_9_method_24_code 12 = .ok (.if_icmp .eq 5, 3) := by decide +kernel
theorem d_Store_sameObject_17 : decode prog_9_method_24_code 17 = .ok (.aload_n 0, 1) := by decide +kernel
theorem d_Store_sameObject_18 : decode prog_9_method_24_code 18 = .ok (.iload_n 2, 1) := by decide +kernel
theorem d_Store_sameObject_19 : decode prog_9_method_24_code 19 = .ok (.invokevirtual 62, 3) := by decide +kernel
theorem d_Store_sameObject_22 : decode prog_9_method_24_code 22 = .ok (.istore_n 3, 1) := by decide +kernel
theorem d_Store_sameObject_23 : decode prog_9_method_24_code 23 = .ok (.iload_n 3, 1) := by decide +kernel
theorem d_Store_sameObject_24 : decode prog_9_method_24_code 24 = .ok (.istore 4, 2) := by decide +kernel
theorem d_Store_sameObject_26 : decode prog_9_method_24_code 26 = .ok (.iload 4, 2) := by decide +kernel
theorem d_Store_sameObject_28 : decode prog_9_method_24_code 28 = .ok (.iload_n 3, 1) := by decide +kernel
theorem d_Store_sameObject_29 : decode prog_9_method_24_code 29 = .ok (.aload_n 0, 1) := by decide +kernel
theorem d_Store_sameObject_30 : decode prog_9_method_24_code 30 = .ok (.getfield 16, 3) := by decide +kernel
theorem d_Store_sameObject_33 : decode prog_9_method_24_code 33 = .ok (.iload_n 2, 1) := by decide +kernel
theorem d_Store_sameObject_34 : decode prog_9_method_24_code 34 = .ok (.iaload, 1) := by decide +kernel
theorem d_Store_sameObject_35 : decode prog_9_method_24_code 35 = .ok (.iadd, 1) := by decide +kernel
theorem d_Store_sameObject_36 : decode prog_9_method_24_code 36 = .ok (.if_icmp .ge 47, 3) := by decide +kernel
theorem d_Store_sameObject_83 : decode prog_9_method_24_code 83 = .ok (.iconst 1, 1) := by decide +kernel
theorem d_Store_sameObject_84 : decode prog_9_method_24_code 84 = .ok (.ireturn, 1) := by decide +kernel
theorem d_Store_sameObject_39 : decode prog_9_method_24_code 39 = .ok (.aload_n 0, 1) := by decide +kernel
theorem d_Store_sameObject_40 : decode prog_9_method_24_code 40 = .ok (.getfield 9, 3) := by decide +kernel
theorem d_Store_sameObject_43 : decode prog_9_method_24_code 43 = .ok (.iload 4, 2) := by decide +kernel
theorem d_Store_sameObject_45 : decode prog_9_method_24_code 45 = .ok (.laload, 1) := by decide +kernel
theorem d_Store_sameObject_46 : decode prog_9_method_24_code 46 = .ok (.aload_n 1, 1) := by decide +kernel
theorem d_Store_sameObject_47 : decode prog_9_method_24_code 47 = .ok (.getfield 9, 3) := by decide +kernel
theorem d_Store_sameObject_50 : decode prog_9_method_24_code 50 = .ok (.iload 4, 2) := by decide +kernel
theorem d_Store_sameObject_52 : decode prog_9_method_24_code 52 = .ok (.laload, 1) := by decide +kernel
theorem d_Store_sameObject_53 : decode prog_9_method_24_code 53 = .ok (.lcmp, 1) := by decide +kernel
theorem d_Store_sameObject_54 : decode prog_9_method_24_code 54 = .ok (.ifCond .ne 21, 3) := by decide +kernel
theorem d_Store_sameObject_57 : decode prog_9_method_24_code 57 = .ok (.aload_n 0, 1) := by decide +kernel
theorem d_Store_sameObject_58 : decode prog_9_method_24_code 58 = .ok (.getfield 13, 3) := by decide +kernel
theorem d_Store_sameObject_61 : decode prog_9_method_24_code 61 = .ok (.iload 4, 2) := by decide +kernel
theorem d_Store_sameObject_63 : decode prog_9_method_24_code 63 = .ok (.laload, 1) := by decide +kernel
theorem d_Store_sameObject_64 : decode prog_9_method_24_code 64 = .ok (.aload_n 1, 1) := by decide +kernel
theorem d_Store_sameObject_65 : decode prog_9_method_24_code 65 = .ok (.getfield 13, 3) := by decide +kernel
theorem d_Store_sameObject_68 : decode prog_9_method_24_code 68 = .ok (.iload 4, 2) := by decide +kernel
theorem d_Store_sameObject_70 : decode prog_9_method_24_code 70 = .ok (.laload, 1) := by decide +kernel
theorem d_Store_sameObject_71 : decode prog_9_method_24_code 71 = .ok (.lcmp, 1) := by decide +kernel
theorem d_Store_sameObject_72 : decode prog_9_method_24_code 72 = .ok (.ifCond .eq 5, 3) := by decide +kernel
theorem d_Store_sameObject_77 : decode prog_9_method_24_code 77 = .ok (.iinc 4 1, 3) := by decide +kernel
theorem d_Store_sameObject_80 : decode prog_9_method_24_code 80 = .ok (.goto (-54), 3) := by decide +kernel
theorem d_Store_sameObject_75 : decode prog_9_method_24_code 75 = .ok (.iconst 0, 1) := by decide +kernel
theorem d_Store_sameObject_76 : decode prog_9_method_24_code 76 = .ok (.ireturn, 1) := by decide +kernel
theorem d_Store_sameObject_15 : decode prog_9_method_24_code 15 = .ok (.iconst 0, 1) := by decide +kernel
theorem d_Store_sameObject_16 : decode prog_9_method_24_code 16 = .ok (.ireturn, 1) := by decide +kernel
