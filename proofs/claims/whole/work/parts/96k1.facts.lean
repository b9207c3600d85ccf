abbrev m_Pars_open : am_M := (⟨"StowTongue$Parser", "open", "(II)Z"⟩, prog_8_method_8_code, 3, (some FieldType.boolean))
theorem d_Pars_open_0 : decode prog_8_method_8_code 0 = .ok (.aload_n 0, 1) := by decide +kernel
theorem d_Pars_open_1 : decode prog_8_method_8_code 1 = .ok (.getfield 12, 3) := by decide +kernel
theorem d_Pars_open_4 : decode prog_8_method_8_code 4 = .ok (.invokevirtual 59, 3) := by decide +kernel
theorem d_Pars_open_7 : decode prog_8_method_8_code 7 = .ok (.iload_n 1, 1) := by decide +kernel
theorem d_Pars_open_8 : decode prog_8_method_8_code 8 = .ok (.if_icmp .ne 9, 3) := by decide +kernel
theorem d_Pars_open_11 : decode prog_8_method_8_code 11 = .ok (.iload_n 2, 1) := by decide +kernel
theorem d_Pars_open_12 : decode prog_8_method_8_code 12 = .ok (.bipush 16, 2) := by decide +kernel
theorem d_Pars_open_14 : decode prog_8_method_8_code 14 = .ok (.if_icmp .lt 9, 3) := by decide +kernel
theorem d_Pars_open_23 : decode prog_8_method_8_code 23 = .ok (.aload_n 0, 1) := by decide +kernel
theorem d_Pars_open_24 : decode prog_8_method_8_code 24 = .ok (.getfield 12, 3) := by decide +kernel
theorem d_Pars_open_27 : decode prog_8_method_8_code 27 = .ok (.invokevirtual 96, 3) := by decide +kernel
theorem d_Pars_open_30 : decode prog_8_method_8_code 30 = .ok (.iconst 1, 1) := by decide +kernel
theorem d_Pars_open_31 : decode prog_8_method_8_code 31 = .ok (.ireturn, 1) := by decide +kernel
theorem d_Pars_open_17 : decode prog_8_method_8_code 17 = .ok (.aload_n 0, 1) := by decide +kernel
theorem d_Pars_open_18 : decode prog_8_method_8_code 18 = .ok (.invokevirtual 99, 3) := by decide +kernel
theorem d_Pars_open_21 : decode prog_8_method_8_code 21 = .ok (.iconst 0, 1) := by decide +kernel
theorem d_Pars_open_22 : decode prog_8_method_8_code 22 = .ok (.ireturn, 1) := by decide +kernel
abbrev m_Store_tell : am_M := (⟨"StowTongue$Store", "tell", "(LStowTongue$Unit;)Z"⟩, prog_9_method_22_code, 3, (some FieldType.boolean))
theorem d_Store_tell_0 : decode prog_9_method_22_code 0 = .ok (.aload_n 0, 1) := by decide +kernel
theorem d_Store_tell_1 : decode prog_9_method_22_code 1 = .ok (.aload_n 1, 1) := by decide +kernel
theorem d_Store_tell_2 : decode prog_9_method_22_code 2 = .ok (.invokevirtual 93, 3) := by decide +kernel
theorem d_Store_tell_5 : decode prog_9_method_22_code 5 = .ok (.invokevirtual 90, 3) := by decide +kernel
theorem d_Store_tell_8 : decode prog_9_method_22_code 8 = .ok (.istore_n 2, 1) := by decide +kernel
theorem d_Store_tell_9 : decode prog_9_method_22_code 9 = .ok (.iload_n 2, 1) := by decide +kernel
theorem d_Store_tell_10 : decode prog_9_method_22_code 10 = .ok (.ifCond .ge 29, 3) := by decide +kernel
theorem d_Store_tell_39 : decode prog_9_method_22_code 39 = .ok (.aload_n 0, 1) := by decide +kernel
theorem d_Store_tell_40 : decode prog_9_method_22_code 40 = .ok (.getfield 31, 3) := by decide +kernel
theorem d_Store_tell_43 : decode prog_9_method_22_code 43 = .ok (.iload_n 2, 1) := by decide +kernel
theorem d_Store_tell_44 : decode prog_9_method_22_code 44 = .ok (.aload_n 1, 1) := by decide +kernel
theorem d_Store_tell_45 : decode prog_9_method_22_code 45 = .ok (.aastore, 1) := by decide +kernel
theorem d_Store_tell_46 : decode prog_9_method_22_code 46 = .ok (.aload_n 0, 1) := by decide +kernel
theorem d_Store_tell_47 : decode prog_9_method_22_code 47 = .ok (.invokevirtual 101, 3) := by decide +kernel
theorem w_1049 : (Cond.methodLink "StowTongue$Store" 101 ⟨"StowTongue$Store", "functionTokens", "()I"⟩ : Cond) ∈ am_tbl := am_w 1049 (by decide +kernel) (by decide +kernel)
theorem l_Store_101 : am_L "StowTongue$Store" 101 0 m_Store_functionTokens := ⟨Or.inl w_1049, w_169, w_1052, ⟨by decide, by decide⟩, by decide +kernel, by decide⟩
theorem d_Store_tell_50 : decode prog_9_method_22_code 50 = .ok (.sipush 400, 3) := by decide +kernel
theorem d_Store_tell_53 : decode prog_9_method_22_code 53 = .ok (.if_icmp .gt 7, 3) := by decide +kernel
theorem d_Store_tell_60 : decode prog_9_method_22_code 60 = .ok (.iconst 0, 1) := by decide +kernel
theorem d_Store_tell_61 : decode prog_9_method_22_code 61 = .ok (.ireturn, 1) := by decide +kernel
theorem d_Store_tell_56 : decode prog_9_method_22_code 56 = .ok (.iconst 1, 1) := by decide +kernel
theorem d_Store_tell_57 : decode prog_9_method_22_code 57 = .ok (.goto 4, 3) := by decide +kernel
theorem d_Store_tell_13 : decode prog_9_method_22_code 13 = .ok (.aload_n 0, 1) := by decide +kernel
theorem d_Store_tell_14 : decode prog_9_method_22_code 14 = .ok (.getfield 51, 3) := by decide +kernel
theorem d_Store_tell_17 : decode prog_9_method_22_code 17 = .ok (.bipush 10, 2) := by decide +kernel
theorem d_Store_tell_19 : decode prog_9_method_22_code 19 = .ok (.if_icmp .lt 5, 3) := by decide +kernel
theorem d_Store_tell_24 : decode prog_9_method_22_code 24 = .ok (.aload_n 0, 1) := by decide +kernel
theorem d_Store_tell_25 : decode prog_9_method_22_code 25 = .ok (.getfield 51, 3) := by decide +kernel
theorem d_Store_tell_28 : decode prog_9_method_22_code 28 = .ok (.istore_n 2, 1) := by decide +kernel
theorem d_Store_tell_29 : decode prog_9_method_22_code 29 = .ok (.aload_n 0, 1) := by decide +kernel
theorem d_Store_tell_30 : decode prog_9_method_22_code 30 = .ok (.dup, 1) := by decide +kernel
theorem d_Store_tell_31 : decode prog_9_method_22_code 31 = .ok (.getfield 51, 3) := by decide +kernel
theorem d_Store_tell_34 : decode prog_9_method_22_code 34 = .ok (.iconst 1, 1) := by decide +kernel
theorem d_Store_tell_35 : decode prog_9_method_22_code 35 = .ok (.iadd, 1) := by decide +kernel
theorem d_Store_tell_36 : decode prog_9_method_22_code 36 = .ok (.putfield 51, 3) := by decide +kernel
theorem d_Store_tell_22 : decode prog_9_method_22_code 22 = .ok (.iconst 0, 1) := by decide +kernel
theorem d_Store_tell_23 : decode prog_9_method_22_code 23 = .ok (.ireturn, 1) := by decide +kernel
abbrev m_Mach_enter : am_M := (⟨"StowTongue$Machine", "enter", "(LStowTongue$Unit;I)V"⟩, prog_6_method_18_code, 4, none)
theorem d_Mach_enter_0 : decode prog_6_method_18_code 0 = .ok (.aload_n 0, 1) := by decide +kernel
theorem d_Mach_enter_1 : decode prog_6_method_18_code 1 = .ok (.aload_n 0, 1) := by decide +kernel
theorem d_Mach_enter_2 : decode prog_6_method_18_code 2 = .ok (.iload_n 2, 1) := by decide +kernel
theorem d_Mach_enter_3 : decode prog_6_method_18_code 3 = .ok (.invokevirtual 133, 3) := by decide +kernel
theorem d_Mach_enter_6 : decode prog_6_method_18_code 6 = .ok (.putfield 171, 3) := by decide +kernel
theorem d_Mach_enter_9 : decode prog_6_method_18_code 9 = .ok (.aload_n 0, 1) := by decide +kernel
theorem d_Mach_enter_10 : decode prog_6_method_18_code 10 = .ok (.aload_n 1, 1) := by decide +kernel
theorem d_Mach_enter_11 : decode prog_6_method_18_code 11 = .ok (.putfield 62, 3) := by decide +kernel
theorem d_Mach_enter_14 : decode prog_6_method_18_code 14 = .ok (.aload_n 0, 1) := by decide +kernel
theorem d_Mach_enter_15 : decode prog_6_method_18_code 15 = .ok (.iconst 0, 1) := by decide +kernel
theorem d_Mach_enter_16 : decode prog_6_method_18_code 16 = .ok (.putfield 66, 3) := by decide +kernel
theorem d_Mach_enter_19 : decode prog_6_method_18_code 19 = .ok (.iload_n 2, 1) := by decide +kernel
theorem d_Mach_enter_20 : decode prog_6_method_18_code 20 = .ok (.istore_n 3, 1) := by decide +kernel
theorem d_Mach_enter_21 : decode prog_6_method_18_code 21 = .ok (.iload_n 3, 1) := by decide +kernel
theorem d_Mach_enter_22 : decode prog_6_method_18_code 22 = .ok (.aload_n 1, 1) := by decide +kernel
theorem d_Mach_enter_23 : decode prog_6_method_18_code 23 = .ok (.invokevirtual 174, 3) := by decide +kernel
theorem w_1074 : (Cond.methodLink "StowTongue$Machine" 174 ⟨"StowTongue$Unit", "locals", "()I"⟩ : Cond) ∈ am_tbl := am_w 1074 (by decide +kernel) (by decide +kernel)
set_option maxRecDepth 100000 in
theorem w_1077 : (Cond.code ⟨"StowTongue$Unit", "locals", "()I"⟩ prog_11_method_4_code 1 (some FieldType.int) : Cond) ∈ am_tbl := am_w 1077 rfl rfl
theorem l_Mach_174 : am_L "StowTongue$Machine" 174 0 m_Unit_locals := ⟨Or.inl w_1074, w_156, w_1077, ⟨by decide, by decide⟩, by decide +kernel, by decide⟩
theorem w_1075 : (Cond.instanceMethod ⟨"StowTongue$Unit", "locals", "()I"⟩ : Cond) ∈ am_tbl := am_w 1075 (by decide +kernel) (by decide +kernel)
theorem w_1076 : (Cond.selects "StowTongue$Unit" ⟨"StowTongue$Unit", "locals", "()I"⟩ ⟨"StowTongue$Unit", "locals", "()I"⟩ : Cond) ∈ am_tbl := am_w 1076 (by decide +kernel) (by decide +kernel)
theorem d_Mach_enter_26 : decode prog_6_method_18_code 26 = .ok (.if_icmp .ge 15, 3) := by decide +kernel
theorem d_Mach_enter_41 : decode prog_6_method_18_code 41 = .ok (.return_, 1) := by decide +kernel
theorem d_Mach_enter_29 : decode prog_6_method_18_code 29 = .ok (.aload_n 0, 1) := by decide +kernel
theorem d_Mach_enter_30 : decode prog_6_method_18_code 30 = .ok (.lconst 0, 1) := by decide +kernel
theorem d_Mach_enter_31 : decode prog_6_method_18_code 31 = .ok (.lconst 0, 1) := by decide +kernel
theorem d_Mach_enter_32 : decode prog_6_method_18_code 32 = .ok (.invokevirtual 121, 3) := by decide +kernel
theorem d_Mach_enter_35 : decode prog_6_method_18_code 35 = .ok (.iinc 3 1, 3) := by decide +kernel
theorem d_Mach_enter_38 : decode prog_6_method_18_code 38 = .ok (.goto (-17), 3) := by decide +kernel
abbrev m_Mach_call : am_M := (⟨"StowTongue$Machine", "call", "(JI)V"⟩, prog_6_method_17_code, 5, none)
theorem d_Mach_call_0 : decode prog_6_method_17_code 0 = .ok (.aload_n 0, 1) := by decide +kernel
theorem d_Mach_call_1 : decode prog_6_method_17_code 1 = .ok (.invokevirtual 140, 3) := by decide +kernel
theorem w_1106 : (Cond.methodLink "StowTongue$Machine" 140 ⟨"StowTongue$Machine", "burn", "()Z"⟩ : Cond) ∈ am_tbl := am_w 1106 (by decide +kernel) (by decide +kernel)
set_option maxRecDepth 100000 in
theorem w_1109 : (Cond.code ⟨"StowTongue$Machine", "burn", "()Z"⟩ prog_6_method_14_code 1 (some FieldType.boolean) : Cond) ∈ am_tbl := am_w 1109 rfl rfl
theorem l_Mach_140 : am_L "StowTongue$Machine" 140 0 m_Mach_burn := ⟨Or.inl w_1106, w_157, w_1109, ⟨by decide, by decide⟩, by decide +kernel, by decide⟩
theorem w_1108 : (Cond.instanceMethod ⟨"StowTongue$Machine", "burn", "()Z"⟩ : Cond) ∈ am_tbl := am_w 1108 (by decide +kernel) (by decide +kernel)
theorem w_47 : (Cond.selects "StowTongue$Machine" ⟨"StowTongue$Machine", "burn", "()Z"⟩ ⟨"StowTongue$Machine", "burn", "()Z"⟩ : Cond) ∈ am_tbl := am_w 47 (by decide +kernel) (by decide +kernel)
theorem d_Mach_call_4 : decode prog_6_method_17_code 4 = .ok (.ifCond .ne 4, 3) := by decide +kernel
theorem d_Mach_call_7 : decode prog_6_method_17_code 7 = .ok (.return_, 1) := by decide +kernel
theorem d_Mach_call_8 : decode prog_6_method_17_code 8 = .ok (.aload_n 0, 1) := by decide +kernel
theorem d_Mach_call_9 : decode prog_6_method_17_code 9 = .ok (.getfield 29, 3) := by decide +kernel
theorem d_Mach_call_12 : decode prog_6_method_17_code 12 = .ok (.lload_n 1, 1) := by decide +kernel
theorem d_Mach_call_13 : decode prog_6_method_17_code 13 = .ok (.invokevirtual 161, 3) := by decide +kernel
theorem w_1122 : (Cond.methodLink "StowTongue$Machine" 161 ⟨"StowTongue$Store", "functionOf", "(J)LStowTongue$Unit;"⟩ : Cond) ∈ am_tbl := am_w 1122 (by decide +kernel) (by decide +kernel)
set_option maxRecDepth 100000 in
theorem w_1125 : (Cond.code ⟨"StowTongue$Store", "functionOf", "(J)LStowTongue$Unit;"⟩ prog_9_method_19_code 4 (some (FieldType.object "StowTongue$Unit")) : Cond) ∈ am_tbl := am_w 1125 rfl rfl
theorem l_Mach_161 : am_L "StowTongue$Machine" 161 1 m_Store_functionOf := ⟨Or.inl w_1122, w_169, w_1125, ⟨by decide, by decide⟩, by decide +kernel, by decide⟩
theorem w_1123 : (Cond.instanceMethod ⟨"StowTongue$Store", "functionOf", "(J)LStowTongue$Unit;"⟩ : Cond) ∈ am_tbl := am_w 1123 (by decide +kernel) (by decide +kernel)
theorem w_1124 : (Cond.selects "StowTongue$Store" ⟨"StowTongue$Store", "functionOf", "(J)LStowTongue$Unit;"⟩ ⟨"StowTongue$Store", "functionOf", "(J)LStowTongue$Unit;"⟩ : Cond) ∈ am_tbl := am_w 1124 (by decide +kernel) (by decide +kernel)
theorem d_Mach_call_16 : decode prog_6_method_17_code 16 = .ok (.astore 4, 2) := by decide +kernel
theorem d_Mach_call_18 : decode prog_6_method_17_code 18 = .ok (.aload 4, 2) := by decide +kernel
theorem d_Mach_call_20 : decode prog_6_method_17_code 20 = .ok (.ifnull 12, 3) := by decide +kernel
theorem d_Mach_call_32 : decode prog_6_method_17_code 32 = .ok (.aload_n 0, 1) := by decide +kernel
theorem d_Mach_call_33 : decode prog_6_method_17_code 33 = .ok (.bipush 6, 2) := by decide +kernel
theorem d_Mach_call_35 : decode prog_6_method_17_code 35 = .ok (.invokevirtual 106, 3) := by decide +kernel
theorem d_Mach_call_38 : decode prog_6_method_17_code 38 = .ok (.goto 77, 3) := by decide +kernel
theorem d_Mach_call_115 : decode prog_6_method_17_code 115 = .ok (.return_, 1) := by decide +kernel
theorem d_Mach_call_23 : decode prog_6_method_17_code 23 = .ok (.aload 4, 2) := by decide +kernel
theorem d_Mach_call_25 : decode prog_6_method_17_code 25 = .ok (.invokevirtual 167, 3) := by decide +kernel
theorem w_1126 : (Cond.methodLink "StowTongue$Machine" 167 ⟨"StowTongue$Unit", "names", "()I"⟩ : Cond) ∈ am_tbl := am_w 1126 (by decide +kernel) (by decide +kernel)
set_option maxRecDepth 100000 in
theorem w_1129 : (Cond.code ⟨"StowTongue$Unit", "names", "()I"⟩ prog_11_method_3_code 1 (some FieldType.int) : Cond) ∈ am_tbl := am_w 1129 rfl rfl
theorem l_Mach_167 : am_L "StowTongue$Machine" 167 0 m_Unit_names := ⟨Or.inl w_1126, w_156, w_1129, ⟨by decide, by decide⟩, by decide +kernel, by decide⟩
theorem w_1127 : (Cond.instanceMethod ⟨"StowTongue$Unit", "names", "()I"⟩ : Cond) ∈ am_tbl := am_w 1127 (by decide +kernel) (by decide +kernel)
theorem w_1128 : (Cond.selects "StowTongue$Unit" ⟨"StowTongue$Unit", "names", "()I"⟩ ⟨"StowTongue$Unit", "names", "()I"⟩ : Cond) ∈ am_tbl := am_w 1128 (by decide +kernel) (by decide +kernel)
theorem d_Mach_call_28 : decode prog_6_method_17_code 28 = .ok (.iload_n 3, 1) := by decide +kernel
theorem d_Mach_call_29 : decode prog_6_method_17_code 29 = .ok (.if_icmp .eq 12, 3) := by decide +kernel
theorem d_Mach_call_41 : decode prog_6_method_17_code 41 = .ok (.aload_n 0, 1) := by decide +kernel
theorem d_Mach_call_42 : decode prog_6_method_17_code 42 = .ok (.getfield 51, 3) := by decide +kernel
theorem d_Mach_call_45 : decode prog_6_method_17_code 45 = .ok (.bipush 8, 2) := by decide +kernel
theorem d_Mach_call_47 : decode prog_6_method_17_code 47 = .ok (.if_icmp .lt 12, 3) := by decide +kernel
theorem d_Mach_call_59 : decode prog_6_method_17_code 59 = .ok (.aload_n 0, 1) := by decide +kernel
theorem d_Mach_call_60 : decode prog_6_method_17_code 60 = .ok (.getfield 18, 3) := by decide +kernel
theorem d_Mach_call_63 : decode prog_6_method_17_code 63 = .ok (.aload_n 0, 1) := by decide +kernel
theorem d_Mach_call_64 : decode prog_6_method_17_code 64 = .ok (.getfield 51, 3) := by decide +kernel
theorem d_Mach_call_67 : decode prog_6_method_17_code 67 = .ok (.aload_n 0, 1) := by decide +kernel
theorem d_Mach_call_68 : decode prog_6_method_17_code 68 = .ok (.getfield 62, 3) := by decide +kernel
theorem d_Mach_call_71 : decode prog_6_method_17_code 71 = .ok (.aastore, 1) := by decide +kernel
theorem d_Mach_call_72 : decode prog_6_method_17_code 72 = .ok (.aload_n 0, 1) := by decide +kernel
theorem d_Mach_call_73 : decode prog_6_method_17_code 73 = .ok (.getfield 22, 3) := by decide +kernel
theorem d_Mach_call_76 : decode prog_6_method_17_code 76 = .ok (.aload_n 0, 1) := by decide +kernel
theorem d_Mach_call_77 : decode prog_6_method_17_code 77 = .ok (.getfield 51, 3) := by decide +kernel
theorem d_Mach_call_80 : decode prog_6_method_17_code 80 = .ok (.aload_n 0, 1) := by decide +kernel
theorem d_Mach_call_81 : decode prog_6_method_17_code 81 = .ok (.getfield 66, 3) := by decide +kernel
theorem d_Mach_call_84 : decode prog_6_method_17_code 84 = .ok (.iastore, 1) := by decide +kernel
theorem d_Mach_call_85 : decode prog_6_method_17_code 85 = .ok (.aload_n 0, 1) := by decide +kernel
theorem d_Mach_call_86 : decode prog_6_method_17_code 86 = .ok (.getfield 26, 3) := by decide +kernel
theorem d_Mach_call_89 : decode prog_6_method_17_code 89 = .ok (.aload_n 0, 1) := by decide +kernel
theorem d_Mach_call_90 : decode prog_6_method_17_code 90 = .ok (.getfield 51, 3) := by decide +kernel
theorem d_Mach_call_93 : decode prog_6_method_17_code 93 = .ok (.aload_n 0, 1) := by decide +kernel
theorem d_Mach_call_94 : decode prog_6_method_17_code 94 = .ok (.getfield 171, 3) := by decide +kernel
theorem d_Mach_call_97 : decode prog_6_method_17_code 97 = .ok (.iastore, 1) := by decide +kernel
theorem d_Mach_call_98 : decode prog_6_method_17_code 98 = .ok (.aload_n 0, 1) := by decide +kernel
theorem d_Mach_call_99 : decode prog_6_method_17_code 99 = .ok (.dup, 1) := by decide +kernel
theorem d_Mach_call_100 : decode prog_6_method_17_code 100 = .ok (.getfield 51, 3) := by decide +kernel
theorem d_Mach_call_103 : decode prog_6_method_17_code 103 = .ok (.iconst 1, 1) := by decide +kernel
theorem d_Mach_call_104 : decode prog_6_method_17_code 104 = .ok (.iadd, 1) := by decide +kernel
theorem d_Mach_call_105 : decode prog_6_method_17_code 105 = .ok (.putfield 51, 3) := by decide +kernel
theorem d_Mach_call_108 : decode prog_6_method_17_code 108 = .ok (.aload_n 0, 1) := by decide +kernel
theorem d_Mach_call_109 : decode prog_6_method_17_code 109 = .ok (.aload 4, 2) := by decide +kernel
theorem d_Mach_call_111 : decode prog_6_method_17_code 111 = .ok (.iload_n 3, 1) := by decide +kernel
theorem d_Mach_call_112 : decode prog_6_method_17_code 112 = .ok (.invokevirtual 57, 3) := by decide +kernel
theorem w_1065 : (Cond.methodLink "StowTongue$Machine" 57 ⟨"StowTongue$Machine", "enter", "(LStowTongue$Unit;I)V"⟩ : Cond) ∈ am_tbl := am_w 1065 (by decide +kernel) (by decide +kernel)
set_option maxRecDepth 100000 in
theorem w_1068 : (Cond.code ⟨"StowTongue$Machine", "enter", "(LStowTongue$Unit;I)V"⟩ prog_6_method_18_code 4 none : Cond) ∈ am_tbl := am_w 1068 rfl rfl
theorem l_Mach_57 : am_L "StowTongue$Machine" 57 2 m_Mach_enter := ⟨Or.inl w_1065, w_157, w_1068, ⟨by decide, by decide⟩, by decide +kernel, by decide⟩
theorem w_1067 : (Cond.instanceMethod ⟨"StowTongue$Machine", "enter", "(LStowTongue$Unit;I)V"⟩ : Cond) ∈ am_tbl := am_w 1067 (by decide +kernel) (by decide +kernel)
theorem w_42 : (Cond.selects "StowTongue$Machine" ⟨"StowTongue$Machine", "enter", "(LStowTongue$Unit;I)V"⟩ ⟨"StowTongue$Machine", "enter", "(LStowTongue$Unit;I)V"⟩ : Cond) ∈ am_tbl := am_w 42 (by decide +kernel) (by decide +kernel)
theorem d_Mach_call_50 : decode prog_6_method_17_code 50 = .ok (.aload_n 0, 1) := by decide +kernel
theorem d_Mach_call_51 : decode prog_6_method_17_code 51 = .ok (.bipush 7, 2) := by decide +kernel
theorem d_Mach_call_53 : decode prog_6_method_17_code 53 = .ok (.invokevirtual 106, 3) := by decide +kernel
theorem d_Mach_call_56 : decode prog_6_method_17_code 56 = .ok (.goto 59, 3) := by decide +kernel
abbrev m_Mach_doConstant : am_M := (⟨"StowTongue$Machine", "doConstant", "(II)V"⟩, prog_6_method_21_code, 3, none)
theorem d_Mach_doConstant_0 : decode prog_6_method_21_code 0 = .ok (.iload_n 1, 1) := by decide +kernel
theorem d_Mach_doConstant_1 : decode prog_6_method_21_code 1 = .ok (.bipush 11, 2) := by decide +kernel
theorem d_Mach_doConstant_3 : decode prog_6_method_21_code 3 = .ok (.if_icmp .ne 12, 3) := by decide +kernel
theorem d_Mach_doConstant_6 : decode prog_6_method_21_code 6 = .ok (.aload_n 0, 1) := by decide +kernel
theorem d_Mach_doConstant_7 : decode prog_6_method_21_code 7 = .ok (.iload_n 2, 1) := by decide +kernel
theorem d_Mach_doConstant_8 : decode prog_6_method_21_code 8 = .ok (.i2l, 1) := by decide +kernel
theorem d_Mach_doConstant_9 : decode prog_6_method_21_code 9 = .ok (.invokevirtual 125, 3) := by decide +kernel
theorem d_Mach_doConstant_12 : decode prog_6_method_21_code 12 = .ok (.goto 40, 3) := by decide +kernel
theorem d_Mach_doConstant_52 : decode prog_6_method_21_code 52 = .ok (.return_, 1) := by decide +kernel
theorem d_Mach_doConstant_15 : decode prog_6_method_21_code 15 = .ok (.iload_n 1, 1) := by decide +kernel
theorem d_Mach_doConstant_16 : decode prog_6_method_21_code 16 = .ok (.bipush 12, 2) := by decide +kernel
theorem d_Mach_doConstant_18 : decode prog_6_method_21_code 18 = .ok (.if_icmp .ne 28, 3) := by decide +kernel
theorem d_Mach_doConstant_21 : decode prog_6_method_21_code 21 = .ok (.aload_n 0, 1) := by decide +kernel
theorem d_Mach_doConstant_22 : decode prog_6_method_21_code 22 = .ok (.aload_n 0, 1) := by decide +kernel
theorem d_Mach_doConstant_23 : decode prog_6_method_21_code 23 = .ok (.getfield 62, 3) := by decide +kernel
theorem d_Mach_doConstant_26 : decode prog_6_method_21_code 26 = .ok (.iload_n 2, 1) := by decide +kernel
theorem d_Mach_doConstant_27 : decode prog_6_method_21_code 27 = .ok (.invokevirtual 148, 3) := by decide +kernel
theorem w_1114 : (Cond.methodLink "StowTongue$Machine" 148 ⟨"StowTongue$Unit", "constant", "(I)J"⟩ : Cond) ∈ am_tbl := am_w 1114 (by decide +kernel) (by decide +kernel)
set_option maxRecDepth 100000 in
theorem w_1117 : (Cond.code ⟨"StowTongue$Unit", "constant", "(I)J"⟩ prog_11_method_8_code 2 (some FieldType.long) : Cond) ∈ am_tbl := am_w 1117 rfl rfl
theorem l_Mach_148 : am_L "StowTongue$Machine" 148 1 m_Unit_constant := ⟨Or.inl w_1114, w_156, w_1117, ⟨by decide, by decide⟩, by decide +kernel, by decide⟩
theorem w_1115 : (Cond.instanceMethod ⟨"StowTongue$Unit", "constant", "(I)J"⟩ : Cond) ∈ am_tbl := am_w 1115 (by decide +kernel) (by decide +kernel)
theorem w_1116 : (Cond.selects "StowTongue$Unit" ⟨"StowTongue$Unit", "constant", "(I)J"⟩ ⟨"StowTongue$Unit", "constant", "(I)J"⟩ : Cond) ∈ am_tbl := am_w 1116 (by decide +kernel) (by decide +kernel)
theorem d_Mach_doConstant_30 : decode prog_6_method_21_code 30 = .ok (.aload_n 0, 1) := by decide +kernel
theorem d_Mach_doConstant_31 : decode prog_6_method_21_code 31 = .ok (.getfield 62, 3) := by decide +kernel
theorem d_Mach_doConstant_34 : decode prog_6_method_21_code 34 = .ok (.iload_n 2, 1) := by decide +kernel
theorem d_Mach_doConstant_35 : decode prog_6_method_21_code 35 = .ok (.iconst 1, 1) := by decide +kernel
theorem d_Mach_doConstant_36 : decode prog_6_method_21_code 36 = .ok (.iadd, 1) := by decide +kernel
theorem d_Mach_doConstant_37 : decode prog_6_method_21_code 37 = .ok (.invokevirtual 148, 3) := by decide +kernel
theorem d_Mach_doConstant_40 : decode prog_6_method_21_code 40 = .ok (.invokevirtual 121, 3) := by decide +kernel
theorem d_Mach_doConstant_43 : decode prog_6_method_21_code 43 = .ok (.goto 9, 3) := by decide +kernel
theorem d_Mach_doConstant_46 : decode prog_6_method_21_code 46 = .ok (.aload_n 0, 1) := by decide +kernel
theorem d_Mach_doConstant_47 : decode prog_6_method_21_code 47 = .ok (.lconst 0, 1) := by decide +kernel
theorem d_Mach_doConstant_48 : decode prog_6_method_21_code 48 = .ok (.lconst 0, 1) := by decide +kernel
theorem d_Mach_doConstant_49 : decode prog_6_method_21_code 49 = .ok (.invokevirtual 121, 3) := by decide +kernel
abbrev m_Mach_loadField : am_M := (⟨"StowTongue$Machine", "loadField", "(J)V"⟩, prog_6_method_25_code, 5, none)
theorem d_Mach_loadField_0 : decode prog_6_method_25_code 0 = .ok (.aload_n 0, 1) := by decide +kernel
theorem d_Mach_loadField_1 : decode prog_6_method_25_code 1 = .ok (.iconst 1, 1) := by decide +kernel
theorem d_Mach_loadField_2 : decode prog_6_method_25_code 2 = .ok (.invokevirtual 133, 3) := by decide +kernel
theorem d_Mach_loadField_5 : decode prog_6_method_25_code 5 = .ok (.istore_n 3, 1) := by decide +kernel
theorem d_Mach_loadField_6 : decode prog_6_method_25_code 6 = .ok (.aload_n 0, 1) := by decide +kernel
theorem d_Mach_loadField_7 : decode prog_6_method_25_code 7 = .ok (.iload_n 3, 1) := by decide +kernel
theorem d_Mach_loadField_8 : decode prog_6_method_25_code 8 = .ok (.invokevirtual 177, 3) := by decide +kernel
theorem d_Mach_loadField_11 : decode prog_6_method_25_code 11 = .ok (.iconst 3, 1) := by decide +kernel
theorem d_Mach_loadField_12 : decode prog_6_method_25_code 12 = .ok (.if_icmp .eq 9, 3) := by decide +kernel
theorem d_Mach_loadField_21 : decode prog_6_method_25_code 21 = .ok (.aload_n 0, 1) := by decide +kernel
theorem d_Mach_loadField_22 : decode prog_6_method_25_code 22 = .ok (.getfield 29, 3) := by decide +kernel
theorem d_Mach_loadField_25 : decode prog_6_method_25_code 25 = .ok (.aload_n 0, 1) := by decide +kernel
theorem d_Mach_loadField_26 : decode prog_6_method_25_code 26 = .ok (.iload_n 3, 1) := by decide +kernel
theorem d_Mach_loadField_27 : decode prog_6_method_25_code 27 = .ok (.invokevirtual 225, 3) := by decide +kernel
theorem d_Mach_loadField_30 : decode prog_6_method_25_code 30 = .ok (.lload_n 1, 1) := by decide +kernel
theorem d_Mach_loadField_31 : decode prog_6_method_25_code 31 = .ok (.invokevirtual 228, 3) := by decide +kernel
theorem w_1215 : (Cond.methodLink "StowTongue$Machine" 228 ⟨"StowTongue$Store", "fieldCell", "(IJ)I"⟩ : Cond) ∈ am_tbl := am_w 1215 (by decide +kernel) (by decide +kernel)
set_option maxRecDepth 100000 in
theorem w_1218 : (Cond.code ⟨"StowTongue$Store", "fieldCell", "(IJ)I"⟩ prog_9_method_11_code 7 (some FieldType.int) : Cond) ∈ am_tbl := am_w 1218 rfl rfl
theorem l_Mach_228 : am_L "StowTongue$Machine" 228 2 m_Store_fieldCell := ⟨Or.inl w_1215, w_169, w_1218, ⟨by decide, by decide⟩, by decide +kernel, by decide⟩
theorem w_1216 : (Cond.instanceMethod ⟨"StowTongue$Store", "fieldCell", "(IJ)I"⟩ : Cond) ∈ am_tbl := am_w 1216 (by decide +kernel) (by decide +kernel)
theorem w_1217 : (Cond.selects "StowTongue$Store" ⟨"StowTongue$Store", "fieldCell", "(IJ)I"⟩ ⟨"StowTongue$Store", "fieldCell", "(IJ)I"⟩ : Cond) ∈ am_tbl := am_w 1217 (by decide +kernel) (by decide +kernel)
theorem d_Mach_loadField_34 : decode prog_6_method_25_code 34 = .ok (.istore 4, 2) := by decide +kernel
theorem d_Mach_loadField_36 : decode prog_6_method_25_code 36 = .ok (.aload_n 0, 1) := by decide +kernel
theorem d_Mach_loadField_37 : decode prog_6_method_25_code 37 = .ok (.iload_n 3, 1) := by decide +kernel
theorem d_Mach_loadField_38 : decode prog_6_method_25_code 38 = .ok (.putfield 54, 3) := by decide +kernel
theorem d_Mach_loadField_41 : decode prog_6_method_25_code 41 = .ok (.iload 4, 2) := by decide +kernel
theorem d_Mach_loadField_43 : decode prog_6_method_25_code 43 = .ok (.ifCond .ge 12, 3) := by decide +kernel
theorem d_Mach_loadField_55 : decode prog_6_method_25_code 55 = .ok (.aload_n 0, 1) := by decide +kernel
theorem d_Mach_loadField_56 : decode prog_6_method_25_code 56 = .ok (.aload_n 0, 1) := by decide +kernel
theorem d_Mach_loadField_57 : decode prog_6_method_25_code 57 = .ok (.getfield 29, 3) := by decide +kernel
theorem d_Mach_loadField_60 : decode prog_6_method_25_code 60 = .ok (.getfield 232, 3) := by decide +kernel
theorem d_Mach_loadField_63 : decode prog_6_method_25_code 63 = .ok (.iload 4, 2) := by decide +kernel
theorem d_Mach_loadField_65 : decode prog_6_method_25_code 65 = .ok (.laload, 1) := by decide +kernel
theorem d_Mach_loadField_66 : decode prog_6_method_25_code 66 = .ok (.aload_n 0, 1) := by decide +kernel
theorem d_Mach_loadField_67 : decode prog_6_method_25_code 67 = .ok (.getfield 29, 3) := by decide +kernel
theorem d_Mach_loadField_70 : decode prog_6_method_25_code 70 = .ok (.getfield 233, 3) := by decide +kernel
theorem d_Mach_loadField_73 : decode prog_6_method_25_code 73 = .ok (.iload 4, 2) := by decide +kernel
theorem d_Mach_loadField_75 : decode prog_6_method_25_code 75 = .ok (.laload, 1) := by decide +kernel
theorem d_Mach_loadField_76 : decode prog_6_method_25_code 76 = .ok (.invokevirtual 121, 3) := by decide +kernel
theorem d_Mach_loadField_79 : decode prog_6_method_25_code 79 = .ok (.return_, 1) := by decide +kernel
theorem d_Mach_loadField_46 : decode prog_6_method_25_code 46 = .ok (.aload_n 0, 1) := by decide +kernel
theorem d_Mach_loadField_47 : decode prog_6_method_25_code 47 = .ok (.lconst 0, 1) := by decide +kernel
theorem d_Mach_loadField_48 : decode prog_6_method_25_code 48 = .ok (.lconst 0, 1) := by decide +kernel
theorem d_Mach_loadField_49 : decode prog_6_method_25_code 49 = .ok (.invokevirtual 121, 3) := by decide +kernel
theorem d_Mach_loadField_52 : decode prog_6_method_25_code 52 = .ok (.goto 27, 3) := by decide +kernel
theorem d_Mach_loadField_15 : decode prog_6_method_25_code 15 = .ok (.aload_n 0, 1) := by decide +kernel
theorem d_Mach_loadField_16 : decode prog_6_method_25_code 16 = .ok (.iconst 2, 1) := by decide +kernel
theorem d_Mach_loadField_17 : decode prog_6_method_25_code 17 = .ok (.invokevirtual 106, 3) := by decide +kernel
theorem d_Mach_loadField_20 : decode prog_6_method_25_code 20 = .ok (.return_, 1) := by decide +kernel
abbrev m_Store_setField : am_M := (⟨"StowTongue$Store", "setField", "(IJJJ)Z"⟩, prog_9_method_12_code, 9, (some FieldType.boolean))
theorem d_Store_setField_0 : decode prog_9_method_12_code 0 = .ok (.aload_n 0, 1) := by decide +kernel
theorem d_Store_setField_1 : decode prog_9_method_12_code 1 = .ok (.iload_n 1, 1) := by decide +kernel
theorem d_Store_setField_2 : decode prog_9_method_12_code 2 = .ok (.lload_n 2, 1) := by decide +kernel
theorem d_Store_setField_3 : decode prog_9_method_12_code 3 = .ok (.invokevirtual 65, 3) := by decide +kernel
theorem w_1235 : (Cond.methodLink "StowTongue$Store" 65 ⟨"StowTongue$Store", "fieldCell", "(IJ)I"⟩ : Cond) ∈ am_tbl := am_w 1235 (by decide +kernel) (by decide +kernel)
theorem l_Store_65 : am_L "StowTongue$Store" 65 2 m_Store_fieldCell := ⟨Or.inl w_1235, w_169, w_1218, ⟨by decide, by decide⟩, by decide +kernel, by decide⟩
theorem d_Store_setField_6 : decode prog_9_method_12_code 6 = .ok (.istore 8, 2) := by decide +kernel
theorem d_Store_setField_8 : decode prog_9_method_12_code 8 = .ok (.lload 4, 2) := by decide +kernel
theorem d_Store_setField_10 : decode prog_9_method_12_code 10 = .ok (.invokestatic 69, 3) := by decide +kernel
theorem d_Store_setField_13 : decode prog_9_method_12_code 13 = .ok (.ifCond .ne 12, 3) := by decide +kernel
theorem d_Store_setField_16 : decode prog_9_method_12_code 16 = .ok (.aload_n 0, 1) := by decide +kernel
theorem d_Store_setField_17 : decode prog_9_method_12_code 17 = .ok (.iload_n 1, 1) := by decide +kernel
theorem d_Store_setField_18 : decode prog_9_method_12_code 18 = .ok (.iload 8, 2) := by decide +kernel
theorem d_Store_setField_20 : decode prog_9_method_12_code 20 = .ok (.invokevirtual 75, 3) := by decide +kernel
theorem w_1236 : (Cond.methodLink "StowTongue$Store" 75 ⟨"StowTongue$Store", "dropField", "(II)V"⟩ : Cond) ∈ am_tbl := am_w 1236 (by decide +kernel) (by decide +kernel)
set_option maxRecDepth 100000 in
theorem w_1239 : (Cond.code ⟨"StowTongue$Store", "dropField", "(II)V"⟩ prog_9_method_13_code 5 none : Cond) ∈ am_tbl := am_w 1239 rfl rfl
theorem l_Store_75 : am_L "StowTongue$Store" 75 2 m_Store_dropField := ⟨Or.inl w_1236, w_169, w_1239, ⟨by decide, by decide⟩, by decide +kernel, by decide⟩
theorem w_1238 : (Cond.instanceMethod ⟨"StowTongue$Store", "dropField", "(II)V"⟩ : Cond) ∈ am_tbl := am_w 1238 (by decide +kernel) (by decide +kernel)
theorem w_62 : (Cond.selects "StowTongue$Store" ⟨"StowTongue$Store", "dropField", "(II)V"⟩ ⟨"StowTongue$Store", "dropField", "(II)V"⟩ : Cond) ∈ am_tbl := am_w 62 (by decide +kernel) (by decide +kernel)
theorem d_Store_setField_23 : decode prog_9_method_12_code 23 = .ok (.iconst 1, 1) := by decide +kernel
theorem d_Store_setField_24 : decode prog_9_method_12_code 24 = .ok (.ireturn, 1) := by decide +kernel
theorem d_Store_setField_25 : decode prog_9_method_12_code 25 = .ok (.iload 8, 2) := by decide +kernel
theorem d_Store_setField_27 : decode prog_9_method_12_code 27 = .ok (.ifCond .lt 23, 3) := by decide +kernel
theorem d_Store_setField_50 : decode prog_9_method_12_code 50 = .ok (.aload_n 0, 1) := by decide +kernel
theorem d_Store_setField_51 : decode prog_9_method_12_code 51 = .ok (.iload_n 1, 1) := by decide +kernel
theorem d_Store_setField_52 : decode prog_9_method_12_code 52 = .ok (.invokevirtual 58, 3) := by decide +kernel
theorem d_Store_setField_55 : decode prog_9_method_12_code 55 = .ok (.bipush 16, 2) := by decide +kernel
theorem d_Store_setField_57 : decode prog_9_method_12_code 57 = .ok (.if_icmp .lt 5, 3) := by decide +kernel
theorem d_Store_setField_62 : decode prog_9_method_12_code 62 = .ok (.aload_n 0, 1) := by decide +kernel
theorem d_Store_setField_63 : decode prog_9_method_12_code 63 = .ok (.iload_n 1, 1) := by decide +kernel
theorem d_Store_setField_64 : decode prog_9_method_12_code 64 = .ok (.lload_n 2, 1) := by decide +kernel
theorem d_Store_setField_65 : decode prog_9_method_12_code 65 = .ok (.lconst 0, 1) := by decide +kernel
theorem d_Store_setField_66 : decode prog_9_method_12_code 66 = .ok (.invokevirtual 79, 3) := by decide +kernel
theorem w_1240 : (Cond.methodLink "StowTongue$Store" 79 ⟨"StowTongue$Store", "append", "(IJJ)Z"⟩ : Cond) ∈ am_tbl := am_w 1240 (by decide +kernel) (by decide +kernel)
theorem l_Store_79 : am_L "StowTongue$Store" 79 3 m_Store_append := ⟨Or.inl w_1240, w_169, w_1243, ⟨by decide, by decide⟩, by decide +kernel, by decide⟩
theorem d_Store_setField_69 : decode prog_9_method_12_code 69 = .ok (.pop, 1) := by decide +kernel
theorem d_Store_setField_70 : decode prog_9_method_12_code 70 = .ok (.aload_n 0, 1) := by decide +kernel
theorem d_Store_setField_71 : decode prog_9_method_12_code 71 = .ok (.iload_n 1, 1) := by decide +kernel
theorem d_Store_setField_72 : decode prog_9_method_12_code 72 = .ok (.lload 4, 2) := by decide +kernel
theorem d_Store_setField_74 : decode prog_9_method_12_code 74 = .ok (.lload 6, 2) := by decide +kernel
theorem d_Store_setField_76 : decode prog_9_method_12_code 76 = .ok (.invokevirtual 79, 3) := by decide +kernel
theorem d_Store_setField_79 : decode prog_9_method_12_code 79 = .ok (.ireturn, 1) := by decide +kernel
theorem d_Store_setField_60 : decode prog_9_method_12_code 60 = .ok (.iconst 0, 1) := by decide +kernel
theorem d_Store_setField_61 : decode prog_9_method_12_code 61 = .ok (.ireturn, 1) := by decide +kernel
theorem d_Store_setField_30 : decode prog_9_method_12_code 30 = .ok (.aload_n 0, 1) := by decide +kernel
theorem d_Store_setField_31 : decode prog_9_method_12_code 31 = .ok (.getfield 9, 3) := by decide +kernel
theorem d_Store_setField_34 : decode prog_9_method_12_code 34 = .ok (.iload 8, 2) := by decide +kernel
theorem d_Store_setField_36 : decode prog_9_method_12_code 36 = .ok (.lload 4, 2) := by decide +kernel
theorem d_Store_setField_38 : decode prog_9_method_12_code 38 = .ok (.lastore, 1) := by decide +kernel
theorem d_Store_setField_39 : decode prog_9_method_12_code 39 = .ok (.aload_n 0, 1) := by decide +kernel
theorem d_Store_setField_40 : decode prog_9_method_12_code 40 = .ok (.getfield 13, 3) := by decide +kernel
theorem d_Store_setField_43 : decode prog_9_method_12_code 43 = .ok (.iload 8, 2) := by decide +kernel
theorem d_Store_setField_45 : decode prog_9_method_12_code 45 = .ok (.lload 6, 2) := by decide +kernel
theorem d_Store_setField_47 : decode prog_9_method_12_code 47 = .ok (.lastore, 1) := by decide +kernel
theorem d_Store_setField_48 : decode prog_9_method_12_code 48 = .ok (.iconst 1, 1) := by decide +kernel
theorem d_Store_setField_49 : decode prog_9_method_12_code 49 = .ok (.ireturn, 1) := by decide +kernel
abbrev m_Mach_makeRecord : am_M := (⟨"StowTongue$Machine", "makeRecord", "(I)V"⟩, prog_6_method_31_code, 5, none)
theorem d_Mach_makeRecord_0 : decode prog_6_method_31_code 0 = .ok (.aload_n 0, 1) := by decide +kernel
theorem d_Mach_makeRecord_1 : decode prog_6_method_31_code 1 = .ok (.iconst 2, 1) := by decide +kernel
theorem d_Mach_makeRecord_2 : decode prog_6_method_31_code 2 = .ok (.iload_n 1, 1) := by decide +kernel
theorem d_Mach_makeRecord_3 : decode prog_6_method_31_code 3 = .ok (.imul, 1) := by decide +kernel
theorem d_Mach_makeRecord_4 : decode prog_6_method_31_code 4 = .ok (.invokevirtual 133, 3) := by decide +kernel
theorem d_Mach_makeRecord_7 : decode prog_6_method_31_code 7 = .ok (.istore_n 2, 1) := by decide +kernel
theorem d_Mach_makeRecord_8 : decode prog_6_method_31_code 8 = .ok (.aload_n 0, 1) := by decide +kernel
theorem d_Mach_makeRecord_9 : decode prog_6_method_31_code 9 = .ok (.getfield 29, 3) := by decide +kernel
theorem d_Mach_makeRecord_12 : decode prog_6_method_31_code 12 = .ok (.invokevirtual 275, 3) := by decide +kernel
theorem d_Mach_makeRecord_15 : decode prog_6_method_31_code 15 = .ok (.istore_n 3, 1) := by decide +kernel
theorem d_Mach_makeRecord_16 : decode prog_6_method_31_code 16 = .ok (.iload_n 3, 1) := by decide +kernel
theorem d_Mach_makeRecord_17 : decode prog_6_method_31_code 17 = .ok (.ifCond .ge 10, 3) := by decide +kernel
theorem d_Mach_makeRecord_27 : decode prog_6_method_31_code 27 = .ok (.iload_n 2, 1) := by decide +kernel
theorem d_Mach_makeRecord_28 : decode prog_6_method_31_code 28 = .ok (.istore 4, 2) := by decide +kernel
theorem d_Mach_makeRecord_30 : decode prog_6_method_31_code 30 = .ok (.iload 4, 2) := by decide +kernel
theorem d_Mach_makeRecord_32 : decode prog_6_method_31_code 32 = .ok (.iconst 1, 1) := by decide +kernel
theorem d_Mach_makeRecord_33 : decode prog_6_method_31_code 33 = .ok (.iadd, 1) := by decide +kernel
theorem d_Mach_makeRecord_34 : decode prog_6_method_31_code 34 = .ok (.aload_n 0, 1) := by decide +kernel
theorem d_Mach_makeRecord_35 : decode prog_6_method_31_code 35 = .ok (.getfield 54, 3) := by decide +kernel
theorem d_Mach_makeRecord_38 : decode prog_6_method_31_code 38 = .ok (.if_icmp .ge 51, 3) := by decide +kernel
theorem d_Mach_makeRecord_89 : decode prog_6_method_31_code 89 = .ok (.aload_n 0, 1) := by decide +kernel
theorem d_Mach_makeRecord_90 : decode prog_6_method_31_code 90 = .ok (.iload_n 2, 1) := by decide +kernel
theorem d_Mach_makeRecord_91 : decode prog_6_method_31_code 91 = .ok (.putfield 54, 3) := by decide +kernel
theorem d_Mach_makeRecord_94 : decode prog_6_method_31_code 94 = .ok (.aload_n 0, 1) := by decide +kernel
theorem d_Mach_makeRecord_95 : decode prog_6_method_31_code 95 = .ok (.iconst 3, 1) := by decide +kernel
theorem d_Mach_makeRecord_96 : decode prog_6_method_31_code 96 = .ok (.invokestatic 117, 3) := by decide +kernel
theorem d_Mach_makeRecord_99 : decode prog_6_method_31_code 99 = .ok (.iload_n 3, 1) := by decide +kernel
theorem d_Mach_makeRecord_100 : decode prog_6_method_31_code 100 = .ok (.i2l, 1) := by decide +kernel
theorem d_Mach_makeRecord_101 : decode prog_6_method_31_code 101 = .ok (.invokevirtual 121, 3) := by decide +kernel
theorem d_Mach_makeRecord_104 : decode prog_6_method_31_code 104 = .ok (.return_, 1) := by decide +kernel
theorem d_Mach_makeRecord_41 : decode prog_6_method_31_code 41 = .ok (.aload_n 0, 1) := by decide +kernel
theorem d_Mach_makeRecord_42 : decode prog_6_method_31_code 42 = .ok (.getfield 29, 3) := by decide +kernel
theorem d_Mach_makeRecord_45 : decode prog_6_method_31_code 45 = .ok (.iload_n 3, 1) := by decide +kernel
theorem d_Mach_makeRecord_46 : decode prog_6_method_31_code 46 = .ok (.aload_n 0, 1) := by decide +kernel
theorem d_Mach_makeRecord_47 : decode prog_6_method_31_code 47 = .ok (.getfield 7, 3) := by decide +kernel
theorem d_Mach_makeRecord_50 : decode prog_6_method_31_code 50 = .ok (.iload 4, 2) := by decide +kernel
theorem d_Mach_makeRecord_52 : decode prog_6_method_31_code 52 = .ok (.laload, 1) := by decide +kernel
theorem d_Mach_makeRecord_53 : decode prog_6_method_31_code 53 = .ok (.aload_n 0, 1) := by decide +kernel
theorem d_Mach_makeRecord_54 : decode prog_6_method_31_code 54 = .ok (.getfield 7, 3) := by decide +kernel
theorem d_Mach_makeRecord_57 : decode prog_6_method_31_code 57 = .ok (.iload 4, 2) := by decide +kernel
theorem d_Mach_makeRecord_59 : decode prog_6_method_31_code 59 = .ok (.iconst 1, 1) := by decide +kernel
theorem d_Mach_makeRecord_60 : decode prog_6_method_31_code 60 = .ok (.iadd, 1) := by decide +kernel
theorem d_Mach_makeRecord_61 : decode prog_6_method_31_code 61 = .ok (.laload, 1) := by decide +kernel
theorem d_Mach_makeRecord_62 : decode prog_6_method_31_code 62 = .ok (.aload_n 0, 1) := by decide +kernel
theorem d_Mach_makeRecord_63 : decode prog_6_method_31_code 63 = .ok (.getfield 13, 3) := by decide +kernel
theorem d_Mach_makeRecord_66 : decode prog_6_method_31_code 66 = .ok (.iload 4, 2) := by decide +kernel
theorem d_Mach_makeRecord_68 : decode prog_6_method_31_code 68 = .ok (.iconst 1, 1) := by decide +kernel
theorem d_Mach_makeRecord_69 : decode prog_6_method_31_code 69 = .ok (.iadd, 1) := by decide +kernel
theorem d_Mach_makeRecord_70 : decode prog_6_method_31_code 70 = .ok (.laload, 1) := by decide +kernel
theorem d_Mach_makeRecord_71 : decode prog_6_method_31_code 71 = .ok (.invokevirtual 234, 3) := by decide +kernel
theorem w_1231 : (Cond.methodLink "StowTongue$Machine" 234 ⟨"StowTongue$Store", "setField", "(IJJJ)Z"⟩ : Cond) ∈ am_tbl := am_w 1231 (by decide +kernel) (by decide +kernel)
set_option maxRecDepth 100000 in
theorem w_1234 : (Cond.code ⟨"StowTongue$Store", "setField", "(IJJJ)Z"⟩ prog_9_method_12_code 9 (some FieldType.boolean) : Cond) ∈ am_tbl := am_w 1234 rfl rfl
theorem l_Mach_234 : am_L "StowTongue$Machine" 234 4 m_Store_setField := ⟨Or.inl w_1231, w_169, w_1234, ⟨by decide, by decide⟩, by decide +kernel, by decide⟩
theorem w_1232 : (Cond.instanceMethod ⟨"StowTongue$Store", "setField", "(IJJJ)Z"⟩ : Cond) ∈ am_tbl := am_w 1232 (by decide +kernel) (by decide +kernel)
theorem w_1233 : (Cond.selects "StowTongue$Store" ⟨"StowTongue$Store", "setField", "(IJJJ)Z"⟩ ⟨"StowTongue$Store", "setField", "(IJJJ)Z"⟩ : Cond) ∈ am_tbl := am_w 1233 (by decide +kernel) (by decide +kernel)
theorem d_Mach_makeRecord_74 : decode prog_6_method_31_code 74 = .ok (.ifCond .ne 9, 3) := by decide +kernel
theorem d_Mach_makeRecord_77 : decode prog_6_method_31_code 77 = .ok (.aload_n 0, 1) := by decide +kernel
theorem d_Mach_makeRecord_78 : decode prog_6_method_31_code 78 = .ok (.iconst 4, 1) := by decide +kernel
theorem d_Mach_makeRecord_79 : decode prog_6_method_31_code 79 = .ok (.invokevirtual 106, 3) := by decide +kernel
theorem d_Mach_makeRecord_82 : decode prog_6_method_31_code 82 = .ok (.return_, 1) := by decide +kernel
theorem d_Mach_makeRecord_83 : decode prog_6_method_31_code 83 = .ok (.iinc 4 2, 3) := by decide +kernel
theorem d_Mach_makeRecord_86 : decode prog_6_method_31_code 86 = .ok (.goto (-56), 3) := by decide +kernel
theorem d_Mach_makeRecord_20 : decode prog_6_method_31_code 20 = .ok (.aload_n 0, 1) := by decide +kernel
theorem d_Mach_makeRecord_21 : decode prog_6_method_31_code 21 = .ok (.bipush 8, 2) := by decide +kernel
theorem d_Mach_makeRecord_23 : decode prog_6_method_31_code 23 = .ok (.invokevirtual 106, 3) := by decide +kernel
theorem d_Mach_makeRecord_26 : decode prog_6_method_31_code 26 = .ok (.return_, 1) := by decide +kernel
abbrev m_Mach_reckon : am_M := (⟨"StowTongue$Machine", "reckon", "(III)V"⟩, prog_6_method_39_code, 5, none)
theorem d_Mach_reckon_0 : decode prog_6_method_39_code 0 = .ok (.aload_n 0, 1) := by decide +kernel
theorem d_Mach_reckon_1 : decode prog_6_method_39_code 1 = .ok (.iload_n 2, 1) := by decide +kernel
theorem d_Mach_reckon_2 : decode prog_6_method_39_code 2 = .ok (.invokevirtual 177, 3) := by decide +kernel
theorem d_Mach_reckon_5 : decode prog_6_method_39_code 5 = .ok (.istore 4, 2) := by decide +kernel
theorem d_Mach_reckon_7 : decode prog_6_method_39_code 7 = .ok (.aload_n 0, 1) := by decide +kernel
theorem d_Mach_reckon_8 : decode prog_6_method_39_code 8 = .ok (.iload_n 3, 1) := by decide +kernel
theorem d_Mach_reckon_9 : decode prog_6_method_39_code 9 = .ok (.putfield 54, 3) := by decide +kernel
theorem d_Mach_reckon_12 : decode prog_6_method_39_code 12 = .ok (.iload_n 1, 1) := by decide +kernel
theorem d_Mach_reckon_13 : decode prog_6_method_39_code 13 = .ok (.bipush 32, 2) := by decide +kernel
theorem d_Mach_reckon_15 : decode prog_6_method_39_code 15 = .ok (.if_icmp .ne 27, 3) := by decide +kernel
theorem d_Mach_reckon_18 : decode prog_6_method_39_code 18 = .ok (.iload 4, 2) := by decide +kernel
theorem d_Mach_reckon_20 : decode prog_6_method_39_code 20 = .ok (.iconst 2, 1) := by decide +kernel
theorem d_Mach_reckon_21 : decode prog_6_method_39_code 21 = .ok (.if_icmp .ne 21, 3) := by decide +kernel
theorem d_Mach_reckon_24 : decode prog_6_method_39_code 24 = .ok (.aload_n 0, 1) := by decide +kernel
theorem d_Mach_reckon_25 : decode prog_6_method_39_code 25 = .ok (.iload_n 3, 1) := by decide +kernel
theorem d_Mach_reckon_26 : decode prog_6_method_39_code 26 = .ok (.invokevirtual 177, 3) := by decide +kernel
theorem d_Mach_reckon_29 : decode prog_6_method_39_code 29 = .ok (.iconst 2, 1) := by decide +kernel
theorem d_Mach_reckon_30 : decode prog_6_method_39_code 30 = .ok (.if_icmp .ne 12, 3) := by decide +kernel
theorem d_Mach_reckon_33 : decode prog_6_method_39_code 33 = .ok (.aload_n 0, 1) := by decide +kernel
theorem d_Mach_reckon_34 : decode prog_6_method_39_code 34 = .ok (.iload_n 2, 1) := by decide +kernel
theorem d_Mach_reckon_35 : decode prog_6_method_39_code 35 = .ok (.iload_n 3, 1) := by decide +kernel
theorem d_Mach_reckon_36 : decode prog_6_method_39_code 36 = .ok (.invokevirtual 300, 3) := by decide +kernel
theorem w_1318 : (Cond.methodLink "StowTongue$Machine" 300 ⟨"StowTongue$Machine", "join", "(II)V"⟩ : Cond) ∈ am_tbl := am_w 1318 (by decide +kernel) (by decide +kernel)
set_option maxRecDepth 100000 in
theorem w_1321 : (Cond.code ⟨"StowTongue$Machine", "join", "(II)V"⟩ prog_6_method_41_code 7 none : Cond) ∈ am_tbl := am_w 1321 rfl rfl
theorem l_Mach_300 : am_L "StowTongue$Machine" 300 2 m_Mach_join := ⟨Or.inl w_1318, w_157, w_1321, ⟨by decide, by decide⟩, by decide +kernel, by decide⟩
theorem w_1320 : (Cond.instanceMethod ⟨"StowTongue$Machine", "join", "(II)V"⟩ : Cond) ∈ am_tbl := am_w 1320 (by decide +kernel) (by decide +kernel)
theorem w_77 : (Cond.selects "StowTongue$Machine" ⟨"StowTongue$Machine", "join", "(II)V"⟩ ⟨"StowTongue$Machine", "join", "(II)V"⟩ : Cond) ∈ am_tbl := am_w 77 (by decide +kernel) (by decide +kernel)
theorem d_Mach_reckon_39 : decode prog_6_method_39_code 39 = .ok (.goto 82, 3) := by decide +kernel
theorem d_Mach_reckon_121 : decode prog_6_method_39_code 121 = .ok (.return_, 1) := by decide +kernel
theorem d_Mach_reckon_42 : decode prog_6_method_39_code 42 = .ok (.iload 4, 2) := by decide +kernel
theorem d_Mach_reckon_44 : decode prog_6_method_39_code 44 = .ok (.iconst 1, 1) := by decide +kernel
theorem d_Mach_reckon_45 : decode prog_6_method_39_code 45 = .ok (.if_icmp .ne 12, 3) := by decide +kernel
theorem d_Mach_reckon_48 : decode prog_6_method_39_code 48 = .ok (.aload_n 0, 1) := by decide +kernel
theorem d_Mach_reckon_49 : decode prog_6_method_39_code 49 = .ok (.iload_n 3, 1) := by decide +kernel
theorem d_Mach_reckon_50 : decode prog_6_method_39_code 50 = .ok (.invokevirtual 177, 3) := by decide +kernel
theorem d_Mach_reckon_53 : decode prog_6_method_39_code 53 = .ok (.iconst 1, 1) := by decide +kernel
theorem d_Mach_reckon_54 : decode prog_6_method_39_code 54 = .ok (.if_icmp .eq 11, 3) := by decide +kernel
theorem d_Mach_reckon_65 : decode prog_6_method_39_code 65 = .ok (.iload_n 1, 1) := by decide +kernel
theorem d_Mach_reckon_66 : decode prog_6_method_39_code 66 = .ok (.bipush 35, 2) := by decide +kernel
theorem d_Mach_reckon_68 : decode prog_6_method_39_code 68 = .ok (.if_icmp .eq 9, 3) := by decide +kernel
theorem d_Mach_reckon_77 : decode prog_6_method_39_code 77 = .ok (.aload_n 0, 1) := by decide +kernel
theorem d_Mach_reckon_78 : decode prog_6_method_39_code 78 = .ok (.getfield 13, 3) := by decide +kernel
theorem d_Mach_reckon_81 : decode prog_6_method_39_code 81 = .ok (.iload_n 3, 1) := by decide +kernel
theorem d_Mach_reckon_82 : decode prog_6_method_39_code 82 = .ok (.laload, 1) := by decide +kernel
theorem d_Mach_reckon_83 : decode prog_6_method_39_code 83 = .ok (.lconst 0, 1) := by decide +kernel
theorem d_Mach_reckon_84 : decode prog_6_method_39_code 84 = .ok (.lcmp, 1) := by decide +kernel
theorem d_Mach_reckon_85 : decode prog_6_method_39_code 85 = .ok (.ifCond .ne 11, 3) := by decide +kernel
theorem d_Mach_reckon_88 : decode prog_6_method_39_code 88 = .ok (.aload_n 0, 1) := by decide +kernel
theorem d_Mach_reckon_89 : decode prog_6_method_39_code 89 = .ok (.iconst 5, 1) := by decide +kernel
theorem d_Mach_reckon_90 : decode prog_6_method_39_code 90 = .ok (.invokevirtual 106, 3) := by decide +kernel
theorem d_Mach_reckon_93 : decode prog_6_method_39_code 93 = .ok (.goto 28, 3) := by decide +kernel
theorem d_Mach_reckon_96 : decode prog_6_method_39_code 96 = .ok (.aload_n 0, 1) := by decide +kernel
theorem d_Mach_reckon_97 : decode prog_6_method_39_code 97 = .ok (.getfield 13, 3) := by decide +kernel
theorem d_Mach_reckon_100 : decode prog_6_method_39_code 100 = .ok (.iload_n 2, 1) := by decide +kernel
theorem d_Mach_reckon_101 : decode prog_6_method_39_code 101 = .ok (.iload_n 1, 1) := by decide +kernel
theorem d_Mach_reckon_102 : decode prog_6_method_39_code 102 = .ok (.aload_n 0, 1) := by decide +kernel
theorem d_Mach_reckon_103 : decode prog_6_method_39_code 103 = .ok (.getfield 13, 3) := by decide +kernel
theorem d_Mach_reckon_106 : decode prog_6_method_39_code 106 = .ok (.iload_n 2, 1) := by decide +kernel
theorem d_Mach_reckon_107 : decode prog_6_method_39_code 107 = .ok (.laload, 1) := by decide +kernel
theorem d_Mach_reckon_108 : decode prog_6_method_39_code 108 = .ok (.l2i, 1) := by decide +kernel
theorem d_Mach_reckon_109 : decode prog_6_method_39_code 109 = .ok (.aload_n 0, 1) := by decide +kernel
theorem d_Mach_reckon_110 : decode prog_6_method_39_code 110 = .ok (.getfield 13, 3) := by decide +kernel
theorem d_Mach_reckon_113 : decode prog_6_method_39_code 113 = .ok (.iload_n 3, 1) := by decide +kernel
theorem d_Mach_reckon_114 : decode prog_6_method_39_code 114 = .ok (.laload, 1) := by decide +kernel
theorem d_Mach_reckon_115 : decode prog_6_method_39_code 115 = .ok (.l2i, 1) := by decide +kernel
theorem d_Mach_reckon_116 : decode prog_6_method_39_code 116 = .ok (.invokestatic 303, 3) := by decide +kernel
theorem w_1322 : (Cond.methodLink "StowTongue$Machine" 303 ⟨"StowTongue$Machine", "found", "(III)I"⟩ : Cond) ∈ am_tbl := am_w 1322 (by decide +kernel) (by decide +kernel)
set_option maxRecDepth 100000 in
theorem w_1324 : (Cond.code ⟨"StowTongue$Machine", "found", "(III)I"⟩ prog_6_method_40_code 3 (some FieldType.int) : Cond) ∈ am_tbl := am_w 1324 rfl rfl
theorem l_Mach_303 : am_L "StowTongue$Machine" 303 3 m_Mach_found := ⟨Or.inl w_1322, w_157, w_1324, ⟨by decide, by decide⟩, by decide +kernel, by decide⟩
theorem w_1323 : (Cond.static ⟨"StowTongue$Machine", "found", "(III)I"⟩ : Cond) ∈ am_tbl := am_w 1323 (by decide +kernel) (by decide +kernel)
theorem d_Mach_reckon_119 : decode prog_6_method_39_code 119 = .ok (.i2l, 1) := by decide +kernel
theorem d_Mach_reckon_120 : decode prog_6_method_39_code 120 = .ok (.lastore, 1) := by decide +kernel
theorem d_Mach_reckon_71 : decode prog_6_method_39_code 71 = .ok (.iload_n 1, 1) := by decide +kernel
theorem d_Mach_reckon_72 : decode prog_6_method_39_code 72 = .ok (.bipush 36, 2) := by decide +kernel
theorem d_Mach_reckon_74 : decode prog_6_method_39_code 74 = .ok (.if_icmp .ne 22, 3) := by decide +kernel
theorem d_Mach_reckon_57 : decode prog_6_method_39_code 57 = .ok (.aload_n 0, 1) := by decide +kernel
theorem d_Mach_reckon_58 : decode prog_6_method_39_code 58 = .ok (.iconst 2, 1) := by decide +kernel
theorem d_Mach_reckon_59 : decode prog_6_method_39_code 59 = .ok (.invokevirtual 106, 3) := by decide +kernel
theorem d_Mach_reckon_62 : decode prog_6_method_39_code 62 = .ok (.goto 59, 3) := by decide +kernel
abbrev m_Log_commitBytes : am_M := (⟨"StowTongue$Log", "commitBytes", "(LStowTongue$Store;LStowTongue$Store;I)I"⟩, prog_5_method_2_code, 3, (some FieldType.int))
theorem d_Log_commitBytes_0 : decode prog_5_method_2_code 0 = .ok (.bipush 8, 2) := by decide +kernel
theorem d_Log_commitBytes_2 : decode prog_5_method_2_code 2 = .ok (.bipush 16, 2) := by decide +kernel
theorem d_Log_commitBytes_4 : decode prog_5_method_2_code 4 = .ok (.aload_n 1, 1) := by decide +kernel
theorem d_Log_commitBytes_5 : decode prog_5_method_2_code 5 = .ok (.aload_n 0, 1) := by decide +kernel
theorem d_Log_commitBytes_6 : decode prog_5_method_2_code 6 = .ok (.invokevirtual 19, 3) := by decide +kernel
theorem w_1346 : (Cond.methodLink "StowTongue$Log" 19 ⟨"StowTongue$Store", "objectsChangedSince", "(LStowTongue$Store;)I"⟩ : Cond) ∈ am_tbl := am_w 1346 (by decide +kernel) (by decide +kernel)
set_option maxRecDepth 100000 in
theorem w_1349 : (Cond.code ⟨"StowTongue$Store", "objectsChangedSince", "(LStowTongue$Store;)I"⟩ prog_9_method_23_code 4 (some FieldType.int) : Cond) ∈ am_tbl := am_w 1349 rfl rfl
theorem l_Log_19 : am_L "StowTongue$Log" 19 1 m_Store_objectsChangedSince := ⟨Or.inl w_1346, w_169, w_1349, ⟨by decide, by decide⟩, by decide +kernel, by decide⟩
theorem w_1347 : (Cond.instanceMethod ⟨"StowTongue$Store", "objectsChangedSince", "(LStowTongue$Store;)I"⟩ : Cond) ∈ am_tbl := am_w 1347 (by decide +kernel) (by decide +kernel)
theorem w_1348 : (Cond.selects "StowTongue$Store" ⟨"StowTongue$Store", "objectsChangedSince", "(LStowTongue$Store;)I"⟩ ⟨"StowTongue$Store", "objectsChangedSince", "(LStowTongue$Store;)I"⟩ : Cond) ∈ am_tbl := am_w 1348 (by decide +kernel) (by decide +kernel)
theorem d_Log_commitBytes_9 : decode prog_5_method_2_code 9 = .ok (.imul, 1) := by decide +kernel
theorem d_Log_commitBytes_10 : decode prog_5_method_2_code 10 = .ok (.iadd, 1) := by decide +kernel
theorem d_Log_commitBytes_11 : decode prog_5_method_2_code 11 = .ok (.bipush 6, 2) := by decide +kernel
theorem d_Log_commitBytes_13 : decode prog_5_method_2_code 13 = .ok (.aload_n 1, 1) := by decide +kernel
theorem d_Log_commitBytes_14 : decode prog_5_method_2_code 14 = .ok (.aload_n 0, 1) := by decide +kernel
theorem d_Log_commitBytes_15 : decode prog_5_method_2_code 15 = .ok (.invokevirtual 23, 3) := by decide +kernel
theorem w_1354 : (Cond.methodLink "StowTongue$Log" 23 ⟨"StowTongue$Store", "rootsChangedSince", "(LStowTongue$Store;)I"⟩ : Cond) ∈ am_tbl := am_w 1354 (by decide +kernel) (by decide +kernel)
set_option maxRecDepth 100000 in
theorem w_1357 : (Cond.code ⟨"StowTongue$Store", "rootsChangedSince", "(LStowTongue$Store;)I"⟩ prog_9_method_25_code 5 (some FieldType.int) : Cond) ∈ am_tbl := am_w 1357 rfl rfl
theorem l_Log_23 : am_L "StowTongue$Log" 23 1 m_Store_rootsChangedSince := ⟨Or.inl w_1354, w_169, w_1357, ⟨by decide, by decide⟩, by decide +kernel, by decide⟩
theorem w_1355 : (Cond.instanceMethod ⟨"StowTongue$Store", "rootsChangedSince", "(LStowTongue$Store;)I"⟩ : Cond) ∈ am_tbl := am_w 1355 (by decide +kernel) (by decide +kernel)
theorem w_1356 : (Cond.selects "StowTongue$Store" ⟨"StowTongue$Store", "rootsChangedSince", "(LStowTongue$Store;)I"⟩ ⟨"StowTongue$Store", "rootsChangedSince", "(LStowTongue$Store;)I"⟩ : Cond) ∈ am_tbl := am_w 1356 (by decide +kernel) (by decide +kernel)
theorem d_Log_commitBytes_18 : decode prog_5_method_2_code 18 = .ok (.imul, 1) := by decide +kernel
theorem d_Log_commitBytes_19 : decode prog_5_method_2_code 19 = .ok (.iadd, 1) := by decide +kernel
theorem d_Log_commitBytes_20 : decode prog_5_method_2_code 20 = .ok (.iconst 3, 1) := by decide +kernel
theorem d_Log_commitBytes_21 : decode prog_5_method_2_code 21 = .ok (.iload_n 2, 1) := by decide +kernel
theorem d_Log_commitBytes_22 : decode prog_5_method_2_code 22 = .ok (.imul, 1) := by decide +kernel
theorem d_Log_commitBytes_23 : decode prog_5_method_2_code 23 = .ok (.iadd, 1) := by decide +kernel
theorem d_Log_commitBytes_24 : decode prog_5_method_2_code 24 = .ok (.ireturn, 1) := by decide +kernel
abbrev m_Log_append : am_M := (⟨"StowTongue$Log", "append", "(I)V"⟩, prog_5_method_6_code, 2, none)
theorem d_Log_append_0 : decode prog_5_method_6_code 0 = .ok (.aload_n 0, 1) := by decide +kernel
theorem d_Log_append_1 : decode prog_5_method_6_code 1 = .ok (.dup, 1) := by decide +kernel
theorem d_Log_append_2 : decode prog_5_method_6_code 2 = .ok (.getfield 27, 3) := by decide +kernel
theorem d_Log_append_5 : decode prog_5_method_6_code 5 = .ok (.iconst 1, 1) := by decide +kernel
theorem d_Log_append_6 : decode prog_5_method_6_code 6 = .ok (.iadd, 1) := by decide +kernel
theorem d_Log_append_7 : decode prog_5_method_6_code 7 = .ok (.putfield 27, 3) := by decide +kernel
theorem d_Log_append_10 : decode prog_5_method_6_code 10 = .ok (.aload_n 0, 1) := by decide +kernel
theorem d_Log_append_11 : decode prog_5_method_6_code 11 = .ok (.getfield 15, 3) := by decide +kernel
theorem d_Log_append_14 : decode prog_5_method_6_code 14 = .ok (.aload_n 0, 1) := by decide +kernel
theorem d_Log_append_15 : decode prog_5_method_6_code 15 = .ok (.getfield 27, 3) := by decide +kernel
theorem d_Log_append_18 : decode prog_5_method_6_code 18 = .ok (.iload_n 1, 1) := by decide +kernel
theorem d_Log_append_19 : decode prog_5_method_6_code 19 = .ok (.iastore, 1) := by decide +kernel
theorem d_Log_append_20 : decode prog_5_method_6_code 20 = .ok (.aload_n 0, 1) := by decide +kernel
theorem d_Log_append_21 : decode prog_5_method_6_code 21 = .ok (.getfield 27, 3) := by decide +kernel
theorem d_Log_append_24 : decode prog_5_method_6_code 24 = .ok (.bipush 8, 2) := by decide +kernel
theorem d_Log_append_26 : decode prog_5_method_6_code 26 = .ok (.if_icmp .le 8, 3) := by decide +kernel
theorem d_Log_append_34 : decode prog_5_method_6_code 34 = .ok (.return_, 1) := by decide +kernel
theorem d_Log_append_29 : decode prog_5_method_6_code 29 = .ok (.aload_n 0, 1) := by decide +kernel
theorem d_Log_append_30 : decode prog_5_method_6_code 30 = .ok (.iconst 1, 1) := by decide +kernel
theorem d_Log_append_31 : decode prog_5_method_6_code 31 = .ok (.invokevirtual 43, 3) := by decide +kernel
theorem w_1362 : (Cond.methodLink "StowTongue$Log" 43 ⟨"StowTongue$Log", "settle", "(I)V"⟩ : Cond) ∈ am_tbl := am_w 1362 (by decide +kernel) (by decide +kernel)
theorem l_Log_43 : am_L "StowTongue$Log" 43 1 m_Log_settle := ⟨Or.inl w_1362, w_158, w_1365, ⟨by decide, by decide⟩, by decide +kernel, by decide⟩
theorem d_Stow_value_11 : decode prog_1_method_7_code 11 = .ok (.aload_n 0, 1) := by decide +kernel
theorem d_Stow_value_12 : decode prog_1_method_7_code 12 = .ok (.getfield 16, 3) := by decide +kernel
theorem d_Stow_value_15 : decode prog_1_method_7_code 15 = .ok (.invokevirtual 60, 3) := by decide +kernel
theorem w_945 : (Cond.methodLink "StowTongue" 60 ⟨"StowTongue$Out", "clear", "()V"⟩ : Cond) ∈ am_tbl := am_w 945 (by decide +kernel) (by decide +kernel)
set_option maxRecDepth 100000 in
theorem w_948 : (Cond.code ⟨"StowTongue$Out", "clear", "()V"⟩ prog_7_method_2_code 1 none : Cond) ∈ am_tbl := am_w 948 rfl rfl
theorem l_Stow_60 : am_L "StowTongue" 60 0 m_Out_clear := ⟨Or.inl w_945, w_144, w_948, ⟨by decide, by decide⟩, by decide +kernel, by decide⟩
theorem w_946 : (Cond.instanceMethod ⟨"StowTongue$Out", "clear", "()V"⟩ : Cond) ∈ am_tbl := am_w 946 (by decide +kernel) (by decide +kernel)
theorem w_947 : (Cond.selects "StowTongue$Out" ⟨"StowTongue$Out", "clear", "()V"⟩ ⟨"StowTongue$Out", "clear", "()V"⟩ : Cond) ∈ am_tbl := am_w 947 (by decide +kernel) (by decide +kernel)
theorem d_Stow_value_18 : decode prog_1_method_7_code 18 = .ok (.aload_n 0, 1) := by decide +kernel
theorem d_Stow_value_19 : decode prog_1_method_7_code 19 = .ok (.getfield 16, 3) := by decide +kernel
theorem d_Stow_value_22 : decode prog_1_method_7_code 22 = .ok (.aload_n 0, 1) := by decide +kernel
theorem d_Stow_value_23 : decode prog_1_method_7_code 23 = .ok (.getfield 93, 3) := by decide +kernel
theorem d_Stow_value_26 : decode prog_1_method_7_code 26 = .ok (.aload_n 0, 1) := by decide +kernel
theorem d_Stow_value_27 : decode prog_1_method_7_code 27 = .ok (.getfield 100, 3) := by decide +kernel
theorem d_Stow_value_30 : decode prog_1_method_7_code 30 = .ok (.invokevirtual 122, 3) := by decide +kernel
theorem w_1375 : (Cond.methodLink "StowTongue" 122 ⟨"StowTongue$Out", "addText", "(JJ)V"⟩ : Cond) ∈ am_tbl := am_w 1375 (by decide +kernel) (by decide +kernel)
set_option maxRecDepth 100000 in
theorem w_1159 : (Cond.code ⟨"StowTongue$Out", "addText", "(JJ)V"⟩ prog_7_method_7_code 7 none : Cond) ∈ am_tbl := am_w 1159 rfl rfl
theorem l_Stow_122 : am_L "StowTongue" 122 2 m_Out_addText := ⟨Or.inl w_1375, w_144, w_1159, ⟨by decide, by decide⟩, by decide +kernel, by decide⟩
theorem w_1157 : (Cond.instanceMethod ⟨"StowTongue$Out", "addText", "(JJ)V"⟩ : Cond) ∈ am_tbl := am_w 1157 (by decide +kernel) (by decide +kernel)
theorem w_1158 : (Cond.selects "StowTongue$Out" ⟨"StowTongue$Out", "addText", "(JJ)V"⟩ ⟨"StowTongue$Out", "addText", "(JJ)V"⟩ : Cond) ∈ am_tbl := am_w 1158 (by decide +kernel) (by decide +kernel)
theorem d_Sweep_clean_68 : decode prog_10_method_2_code 68 = .ok (.iload_n 2, 1) := by decide +kernel
theorem d_Sweep_clean_69 : decode prog_10_method_2_code 69 = .ok (.bipush 100, 2) := by decide +kernel
theorem d_Sweep_clean_71 : decode prog_10_method_2_code 71 = .ok (.if_icmp .ge 20, 3) := by decide +kernel
theorem d_Sweep_clean_74 : decode prog_10_method_2_code 74 = .ok (.aload_n 0, 1) := by decide +kernel
theorem d_Sweep_clean_75 : decode prog_10_method_2_code 75 = .ok (.aload_n 1, 1) := by decide +kernel
theorem d_Sweep_clean_76 : decode prog_10_method_2_code 76 = .ok (.aload_n 0, 1) := by decide +kernel
theorem d_Sweep_clean_77 : decode prog_10_method_2_code 77 = .ok (.getfield 15, 3) := by decide +kernel
theorem d_Sweep_clean_80 : decode prog_10_method_2_code 80 = .ok (.iload_n 2, 1) := by decide +kernel
theorem d_Sweep_clean_81 : decode prog_10_method_2_code 81 = .ok (.iaload, 1) := by decide +kernel
theorem d_Sweep_clean_82 : decode prog_10_method_2_code 82 = .ok (.invokevirtual 38, 3) := by decide +kernel
theorem w_1446 : (Cond.methodLink "StowTongue$Sweeper" 38 ⟨"StowTongue$Sweeper", "reachFrom", "(LStowTongue$Store;I)V"⟩ : Cond) ∈ am_tbl := am_w 1446 (by decide +kernel) (by decide +kernel)
set_option maxRecDepth 100000 in
theorem w_1449 : (Cond.code ⟨"StowTongue$Sweeper", "reachFrom", "(LStowTongue$Store;I)V"⟩ prog_10_method_4_code 6 none : Cond) ∈ am_tbl := am_w 1449 rfl rfl
theorem l_Sweep_38 : am_L "StowTongue$Sweeper" 38 2 m_Sweep_reachFrom := ⟨Or.inl w_1446, w_159, w_1449, ⟨by decide, by decide⟩, by decide +kernel, by decide⟩
theorem w_1448 : (Cond.instanceMethod ⟨"StowTongue$Sweeper", "reachFrom", "(LStowTongue$Store;I)V"⟩ : Cond) ∈ am_tbl := am_w 1448 (by decide +kernel) (by decide +kernel)
theorem w_81 : (Cond.selects "StowTongue$Sweeper" ⟨"StowTongue$Sweeper", "reachFrom", "(LStowTongue$Store;I)V"⟩ ⟨"StowTongue$Sweeper", "reachFrom", "(LStowTongue$Store;I)V"⟩ : Cond) ∈ am_tbl := am_w 81 (by decide +kernel) (by decide +kernel)
theorem d_Sweep_clean_85 : decode prog_10_method_2_code 85 = .ok (.iinc 2 1, 3) := by decide +kernel
theorem d_Sweep_clean_88 : decode prog_10_method_2_code 88 = .ok (.goto (-28), 3) := by decide +kernel
theorem d_Sweep_clean_36 : decode prog_10_method_2_code 36 = .ok (.aload_n 0, 1) := by decide +kernel
theorem d_Sweep_clean_37 : decode prog_10_method_2_code 37 = .ok (.aload_n 1, 1) := by decide +kernel
theorem d_Sweep_clean_38 : decode prog_10_method_2_code 38 = .ok (.getfield 27, 3) := by decide +kernel
theorem w_979 : (Cond.fieldLink "StowTongue$Sweeper" 27 "StowTongue$Store" "rootHead" "[J" : Cond) ∈ am_tbl := am_w 979 (by decide +kernel) (by decide +kernel)
theorem f_Sweep_27 : am_F "StowTongue$Sweeper" 27 10 4 := ⟨_, rfl, cl_10, by decide, Or.inl w_979⟩
theorem d_Sweep_clean_41 : decode prog_10_method_2_code 41 = .ok (.iload_n 2, 1) := by decide +kernel
theorem d_Sweep_clean_42 : decode prog_10_method_2_code 42 = .ok (.laload, 1) := by decide +kernel
theorem d_Sweep_clean_43 : decode prog_10_method_2_code 43 = .ok (.aload_n 1, 1) := by decide +kernel
theorem d_Sweep_clean_44 : decode prog_10_method_2_code 44 = .ok (.getfield 31, 3) := by decide +kernel
theorem w_983 : (Cond.fieldLink "StowTongue$Sweeper" 31 "StowTongue$Store" "rootTail" "[J" : Cond) ∈ am_tbl := am_w 983 (by decide +kernel) (by decide +kernel)
theorem f_Sweep_31 : am_F "StowTongue$Sweeper" 31 10 5 := ⟨_, rfl, cl_10, by decide, Or.inl w_983⟩
theorem d_Sweep_clean_47 : decode prog_10_method_2_code 47 = .ok (.iload_n 2, 1) := by decide +kernel
theorem d_Sweep_clean_48 : decode prog_10_method_2_code 48 = .ok (.laload, 1) := by decide +kernel
theorem d_Sweep_clean_49 : decode prog_10_method_2_code 49 = .ok (.invokevirtual 34, 3) := by decide +kernel
theorem d_Sweep_clean_52 : decode prog_10_method_2_code 52 = .ok (.iinc 2 1, 3) := by decide +kernel
theorem d_Sweep_clean_55 : decode prog_10_method_2_code 55 = .ok (.goto (-27), 3) := by decide +kernel
abbrev m_Mod_tellFunctions : am_M := (⟨"StowTongueModel", "tellFunctions", "()I"⟩, prog_13_method_40_code, 4, (some FieldType.int))
theorem d_Mod_tellFunctions_0 : decode prog_13_method_40_code 0 = .ok (.iconst 0, 1) := by decide +kernel
theorem d_Mod_tellFunctions_1 : decode prog_13_method_40_code 1 = .ok (.istore_n 1, 1) := by decide +kernel
theorem d_Mod_tellFunctions_2 : decode prog_13_method_40_code 2 = .ok (.iload_n 1, 1) := by decide +kernel
theorem d_Mod_tellFunctions_3 : decode prog_13_method_40_code 3 = .ok (.aload_n 0, 1) := by decide +kernel
theorem d_Mod_tellFunctions_4 : decode prog_13_method_40_code 4 = .ok (.getfield 137, 3) := by decide +kernel
theorem w_1642 : (Cond.fieldLink "StowTongueModel" 137 "StowTongueModel" "told" "I" : Cond) ∈ am_tbl := am_w 1642 (by decide +kernel) (by decide +kernel)
theorem f_Mod_137 : am_F "StowTongueModel" 137 14 20 := ⟨_, rfl, cl_14, by decide, Or.inl w_1642⟩
theorem d_Mod_tellFunctions_7 : decode prog_13_method_40_code 7 = .ok (.if_icmp .ge 209, 3) := by decide +kernel
theorem d_Mod_tellFunctions_216 : decode prog_13_method_40_code 216 = .ok (.iconst 0, 1) := by decide +kernel
theorem d_Mod_tellFunctions_217 : decode prog_13_method_40_code 217 = .ok (.ireturn, 1) := by decide +kernel
theorem d_Mod_tellFunctions_10 : decode prog_13_method_40_code 10 = .ok (.aload_n 0, 1) := by decide +kernel
theorem d_Mod_tellFunctions_11 : decode prog_13_method_40_code 11 = .ok (.getfield 353, 3) := by decide +kernel
theorem d_Mod_tellFunctions_14 : decode prog_13_method_40_code 14 = .ok (.aload_n 0, 1) := by decide +kernel
theorem d_Mod_tellFunctions_15 : decode prog_13_method_40_code 15 = .ok (.getfield 161, 3) := by decide +kernel
theorem d_Mod_tellFunctions_18 : decode prog_13_method_40_code 18 = .ok (.iload_n 1, 1) := by decide +kernel
theorem d_Mod_tellFunctions_19 : decode prog_13_method_40_code 19 = .ok (.laload, 1) := by decide +kernel
theorem d_Mod_tellFunctions_20 : decode prog_13_method_40_code 20 = .ok (.invokevirtual 412, 3) := by decide +kernel
theorem d_Mod_tellFunctions_23 : decode prog_13_method_40_code 23 = .ok (.istore_n 2, 1) := by decide +kernel
theorem d_Mod_tellFunctions_24 : decode prog_13_method_40_code 24 = .ok (.iload_n 2, 1) := by decide +kernel
theorem d_Mod_tellFunctions_25 : decode prog_13_method_40_code 25 = .ok (.ifCond .ge 15, 3) := by decide +kernel
theorem d_Mod_tellFunctions_40 : decode prog_13_method_40_code 40 = .ok (.aload_n 0, 1) := by decide +kernel
theorem d_Mod_tellFunctions_41 : decode prog_13_method_40_code 41 = .ok (.getfield 204, 3) := by decide +kernel
theorem d_Mod_tellFunctions_44 : decode prog_13_method_40_code 44 = .ok (.iload_n 1, 1) := by decide +kernel
theorem d_Mod_tellFunctions_45 : decode prog_13_method_40_code 45 = .ok (.iaload, 1) := by decide +kernel
theorem d_Mod_tellFunctions_46 : decode prog_13_method_40_code 46 = .ok (.sipush 400, 3) := by decide +kernel
theorem d_Mod_tellFunctions_49 : decode prog_13_method_40_code 49 = .ok (.if_icmp .le 6, 3) := by decide +kernel
theorem d_Mod_tellFunctions_55 : decode prog_13_method_40_code 55 = .ok (.aload_n 0, 1) := by decide +kernel
theorem d_Mod_tellFunctions_56 : decode prog_13_method_40_code 56 = .ok (.invokevirtual 415, 3) := by decide +kernel
theorem w_2004 : (Cond.methodLink "StowTongueModel" 415 ⟨"StowTongueModel", "fresh", "()LStowTongueModel$Code;"⟩ : Cond) ∈ am_tbl := am_w 2004 (by decide +kernel) (by decide +kernel)
set_option maxRecDepth 100000 in
theorem w_2007 : (Cond.code ⟨"StowTongueModel", "fresh", "()LStowTongueModel$Code;"⟩ prog_13_method_39_code 5 (some (FieldType.object "StowTongueModel$Code")) : Cond) ∈ am_tbl := am_w 2007 rfl rfl
theorem l_Mod_415 : am_L "StowTongueModel" 415 0 m_Mod_fresh := ⟨Or.inl w_2004, w_160, w_2007, ⟨by decide, by decide⟩, by decide +kernel, by decide⟩
theorem w_2006 : (Cond.instanceMethod ⟨"StowTongueModel", "fresh", "()LStowTongueModel$Code;"⟩ : Cond) ∈ am_tbl := am_w 2006 (by decide +kernel) (by decide +kernel)
theorem w_115 : (Cond.selects "StowTongueModel" ⟨"StowTongueModel", "fresh", "()LStowTongueModel$Code;"⟩ ⟨"StowTongueModel", "fresh", "()LStowTongueModel$Code;"⟩ : Cond) ∈ am_tbl := am_w 115 (by decide +kernel) (by decide +kernel)
theorem d_Mod_tellFunctions_59 : decode prog_13_method_40_code 59 = .ok (.astore_n 3, 1) := by decide +kernel
theorem d_Mod_tellFunctions_60 : decode prog_13_method_40_code 60 = .ok (.aload_n 3, 1) := by decide +kernel
theorem d_Mod_tellFunctions_61 : decode prog_13_method_40_code 61 = .ok (.aload_n 0, 1) := by decide +kernel
theorem d_Mod_tellFunctions_62 : decode prog_13_method_40_code 62 = .ok (.getfield 149, 3) := by decide +kernel
theorem d_Mod_tellFunctions_65 : decode prog_13_method_40_code 65 = .ok (.aload_n 0, 1) := by decide +kernel
theorem d_Mod_tellFunctions_66 : decode prog_13_method_40_code 66 = .ok (.getfield 192, 3) := by decide +kernel
theorem d_Mod_tellFunctions_69 : decode prog_13_method_40_code 69 = .ok (.iload_n 1, 1) := by decide +kernel
theorem d_Mod_tellFunctions_70 : decode prog_13_method_40_code 70 = .ok (.iaload, 1) := by decide +kernel
theorem d_Mod_tellFunctions_71 : decode prog_13_method_40_code 71 = .ok (.aload_n 0, 1) := by decide +kernel
theorem d_Mod_tellFunctions_72 : decode prog_13_method_40_code 72 = .ok (.getfield 201, 3) := by decide +kernel
theorem d_Mod_tellFunctions_75 : decode prog_13_method_40_code 75 = .ok (.iload_n 1, 1) := by decide +kernel
theorem d_Mod_tellFunctions_76 : decode prog_13_method_40_code 76 = .ok (.iaload, 1) := by decide +kernel
theorem d_Mod_tellFunctions_77 : decode prog_13_method_40_code 77 = .ok (.aload_n 0, 1) := by decide +kernel
theorem d_Mod_tellFunctions_78 : decode prog_13_method_40_code 78 = .ok (.getfield 195, 3) := by decide +kernel
theorem d_Mod_tellFunctions_81 : decode prog_13_method_40_code 81 = .ok (.iload_n 1, 1) := by decide +kernel
theorem d_Mod_tellFunctions_82 : decode prog_13_method_40_code 82 = .ok (.iaload, 1) := by decide +kernel
theorem d_Mod_tellFunctions_83 : decode prog_13_method_40_code 83 = .ok (.iload_n 1, 1) := by decide +kernel
theorem d_Mod_tellFunctions_84 : decode prog_13_method_40_code 84 = .ok (.iconst 1, 1) := by decide +kernel
theorem d_Mod_tellFunctions_85 : decode prog_13_method_40_code 85 = .ok (.iadd, 1) := by decide +kernel
theorem d_Mod_tellFunctions_86 : decode prog_13_method_40_code 86 = .ok (.aload_n 0, 1) := by decide +kernel
theorem d_Mod_tellFunctions_87 : decode prog_13_method_40_code 87 = .ok (.getfield 137, 3) := by decide +kernel
theorem d_Mod_tellFunctions_90 : decode prog_13_method_40_code 90 = .ok (.if_icmp .ge 14, 3) := by decide +kernel
theorem d_Mod_tellFunctions_104 : decode prog_13_method_40_code 104 = .ok (.aload_n 0, 1) := by decide +kernel
theorem d_Mod_tellFunctions_105 : decode prog_13_method_40_code 105 = .ok (.getfield 149, 3) := by decide +kernel
theorem d_Mod_tellFunctions_108 : decode prog_13_method_40_code 108 = .ok (.getfield 111, 3) := by decide +kernel
theorem d_Mod_tellFunctions_111 : decode prog_13_method_40_code 111 = .ok (.invokevirtual 419, 3) := by decide +kernel
theorem w_2012 : (Cond.methodLink "StowTongueModel" 419 ⟨"StowTongueModel$Code", "cut", "(LStowTongueModel$Code;IIII)V"⟩ : Cond) ∈ am_tbl := am_w 2012 (by decide +kernel) (by decide +kernel)
set_option maxRecDepth 100000 in
theorem w_2015 : (Cond.code ⟨"StowTongueModel$Code", "cut", "(LStowTongueModel$Code;IIII)V"⟩ prog_14_method_3_code 7 none : Cond) ∈ am_tbl := am_w 2015 rfl rfl
theorem l_Mod_419 : am_L "StowTongueModel" 419 5 m_Code_cut := ⟨Or.inl w_2012, w_161, w_2015, ⟨by decide, by decide⟩, by decide +kernel, by decide⟩
theorem w_2013 : (Cond.instanceMethod ⟨"StowTongueModel$Code", "cut", "(LStowTongueModel$Code;IIII)V"⟩ : Cond) ∈ am_tbl := am_w 2013 (by decide +kernel) (by decide +kernel)
theorem w_2014 : (Cond.selects "StowTongueModel$Code" ⟨"StowTongueModel$Code", "cut", "(LStowTongueModel$Code;IIII)V"⟩ ⟨"StowTongueModel$Code", "cut", "(LStowTongueModel$Code;IIII)V"⟩ : Cond) ∈ am_tbl := am_w 2014 (by decide +kernel) (by decide +kernel)
theorem d_Mod_tellFunctions_114 : decode prog_13_method_40_code 114 = .ok (.aload_n 3, 1) := by decide +kernel
theorem d_Mod_tellFunctions_115 : decode prog_13_method_40_code 115 = .ok (.aload_n 0, 1) := by decide +kernel
theorem d_Mod_tellFunctions_116 : decode prog_13_method_40_code 116 = .ok (.getfield 204, 3) := by decide +kernel
theorem d_Mod_tellFunctions_119 : decode prog_13_method_40_code 119 = .ok (.iload_n 1, 1) := by decide +kernel
theorem d_Mod_tellFunctions_120 : decode prog_13_method_40_code 120 = .ok (.iaload, 1) := by decide +kernel
theorem d_Mod_tellFunctions_121 : decode prog_13_method_40_code 121 = .ok (.putfield 423, 3) := by decide +kernel
theorem d_Mod_tellFunctions_124 : decode prog_13_method_40_code 124 = .ok (.aload_n 3, 1) := by decide +kernel
theorem d_Mod_tellFunctions_125 : decode prog_13_method_40_code 125 = .ok (.aload_n 0, 1) := by decide +kernel
theorem d_Mod_tellFunctions_126 : decode prog_13_method_40_code 126 = .ok (.getfield 189, 3) := by decide +kernel
theorem d_Mod_tellFunctions_129 : decode prog_13_method_40_code 129 = .ok (.iload_n 1, 1) := by decide +kernel
theorem d_Mod_tellFunctions_130 : decode prog_13_method_40_code 130 = .ok (.iaload, 1) := by decide +kernel
theorem d_Mod_tellFunctions_131 : decode prog_13_method_40_code 131 = .ok (.putfield 426, 3) := by decide +kernel
theorem d_Mod_tellFunctions_134 : decode prog_13_method_40_code 134 = .ok (.aload_n 3, 1) := by decide +kernel
theorem d_Mod_tellFunctions_135 : decode prog_13_method_40_code 135 = .ok (.aload_n 0, 1) := by decide +kernel
theorem d_Mod_tellFunctions_136 : decode prog_13_method_40_code 136 = .ok (.getfield 207, 3) := by decide +kernel
theorem d_Mod_tellFunctions_139 : decode prog_13_method_40_code 139 = .ok (.iload_n 1, 1) := by decide +kernel
theorem d_Mod_tellFunctions_140 : decode prog_13_method_40_code 140 = .ok (.iaload, 1) := by decide +kernel
theorem d_Mod_tellFunctions_141 : decode prog_13_method_40_code 141 = .ok (.putfield 160, 3) := by decide +kernel
theorem d_Mod_tellFunctions_144 : decode prog_13_method_40_code 144 = .ok (.iload_n 2, 1) := by decide +kernel
theorem d_Mod_tellFunctions_145 : decode prog_13_method_40_code 145 = .ok (.ifCond .ge 24, 3) := by decide +kernel
theorem d_Mod_tellFunctions_169 : decode prog_13_method_40_code 169 = .ok (.aload_n 0, 1) := by decide +kernel
theorem d_Mod_tellFunctions_170 : decode prog_13_method_40_code 170 = .ok (.getfield 353, 3) := by decide +kernel
theorem d_Mod_tellFunctions_173 : decode prog_13_method_40_code 173 = .ok (.getfield 429, 3) := by decide +kernel
theorem w_1580 : (Cond.fieldLink "StowTongueModel" 429 "StowTongueModel$State" "function" "[J" : Cond) ∈ am_tbl := am_w 1580 (by decide +kernel) (by decide +kernel)
theorem f_Mod_429 : am_F "StowTongueModel" 429 13 4 := ⟨_, rfl, cl_13, by decide, Or.inl w_1580⟩
theorem d_Mod_tellFunctions_176 : decode prog_13_method_40_code 176 = .ok (.iload_n 2, 1) := by decide +kernel
theorem d_Mod_tellFunctions_177 : decode prog_13_method_40_code 177 = .ok (.aload_n 0, 1) := by decide +kernel
theorem d_Mod_tellFunctions_178 : decode prog_13_method_40_code 178 = .ok (.getfield 161, 3) := by decide +kernel
theorem d_Mod_tellFunctions_181 : decode prog_13_method_40_code 181 = .ok (.iload_n 1, 1) := by decide +kernel
theorem d_Mod_tellFunctions_182 : decode prog_13_method_40_code 182 = .ok (.laload, 1) := by decide +kernel
theorem d_Mod_tellFunctions_183 : decode prog_13_method_40_code 183 = .ok (.lastore, 1) := by decide +kernel
theorem d_Mod_tellFunctions_184 : decode prog_13_method_40_code 184 = .ok (.aload_n 0, 1) := by decide +kernel
theorem d_Mod_tellFunctions_185 : decode prog_13_method_40_code 185 = .ok (.getfield 353, 3) := by decide +kernel
theorem d_Mod_tellFunctions_188 : decode prog_13_method_40_code 188 = .ok (.getfield 399, 3) := by decide +kernel
theorem d_Mod_tellFunctions_191 : decode prog_13_method_40_code 191 = .ok (.iload_n 2, 1) := by decide +kernel
theorem d_Mod_tellFunctions_192 : decode prog_13_method_40_code 192 = .ok (.aload_n 3, 1) := by decide +kernel
theorem d_Mod_tellFunctions_193 : decode prog_13_method_40_code 193 = .ok (.aastore, 1) := by decide +kernel
theorem d_Mod_tellFunctions_194 : decode prog_13_method_40_code 194 = .ok (.aload_n 0, 1) := by decide +kernel
theorem d_Mod_tellFunctions_195 : decode prog_13_method_40_code 195 = .ok (.getfield 353, 3) := by decide +kernel
theorem d_Mod_tellFunctions_198 : decode prog_13_method_40_code 198 = .ok (.invokestatic 431, 3) := by decide +kernel
theorem d_Mod_tellFunctions_201 : decode prog_13_method_40_code 201 = .ok (.sipush 400, 3) := by decide +kernel
theorem d_Mod_tellFunctions_204 : decode prog_13_method_40_code 204 = .ok (.if_icmp .le 6, 3) := by decide +kernel
theorem d_Mod_tellFunctions_210 : decode prog_13_method_40_code 210 = .ok (.iinc 1 1, 3) := by decide +kernel
theorem d_Mod_tellFunctions_213 : decode prog_13_method_40_code 213 = .ok (.goto (-211), 3) := by decide +kernel
theorem d_Mod_tellFunctions_207 : decode prog_13_method_40_code 207 = .ok (.bipush 8, 2) := by decide +kernel
theorem d_Mod_tellFunctions_209 : decode prog_13_method_40_code 209 = .ok (.ireturn, 1) := by decide +kernel
theorem d_Mod_tellFunctions_148 : decode prog_13_method_40_code 148 = .ok (.aload_n 0, 1) := by decide +kernel
theorem d_Mod_tellFunctions_149 : decode prog_13_method_40_code 149 = .ok (.getfield 353, 3) := by decide +kernel
theorem d_Mod_tellFunctions_152 : decode prog_13_method_40_code 152 = .ok (.getfield 396, 3) := by decide +kernel
theorem d_Mod_tellFunctions_155 : decode prog_13_method_40_code 155 = .ok (.istore_n 2, 1) := by decide +kernel
theorem d_Mod_tellFunctions_156 : decode prog_13_method_40_code 156 = .ok (.aload_n 0, 1) := by decide +kernel
theorem d_Mod_tellFunctions_157 : decode prog_13_method_40_code 157 = .ok (.getfield 353, 3) := by decide +kernel
theorem d_Mod_tellFunctions_160 : decode prog_13_method_40_code 160 = .ok (.dup, 1) := by decide +kernel
theorem d_Mod_tellFunctions_161 : decode prog_13_method_40_code 161 = .ok (.getfield 396, 3) := by decide +kernel
theorem d_Mod_tellFunctions_164 : decode prog_13_method_40_code 164 = .ok (.iconst 1, 1) := by decide +kernel
theorem d_Mod_tellFunctions_165 : decode prog_13_method_40_code 165 = .ok (.iadd, 1) := by decide +kernel
theorem d_Mod_tellFunctions_166 : decode prog_13_method_40_code 166 = .ok (.putfield 396, 3) := by decide +kernel
theorem d_Mod_tellFunctions_93 : decode prog_13_method_40_code 93 = .ok (.aload_n 0, 1) := by decide +kernel
theorem d_Mod_tellFunctions_94 : decode prog_13_method_40_code 94 = .ok (.getfield 195, 3) := by decide +kernel
theorem d_Mod_tellFunctions_97 : decode prog_13_method_40_code 97 = .ok (.iload_n 1, 1) := by decide +kernel
theorem d_Mod_tellFunctions_98 : decode prog_13_method_40_code 98 = .ok (.iconst 1, 1) := by decide +kernel
theorem d_Mod_tellFunctions_99 : decode prog_13_method_40_code 99 = .ok (.iadd, 1) := by decide +kernel
theorem d_Mod_tellFunctions_100 : decode prog_13_method_40_code 100 = .ok (.iaload, 1) := by decide +kernel
theorem d_Mod_tellFunctions_101 : decode prog_13_method_40_code 101 = .ok (.goto 10, 3) := by decide +kernel
theorem d_Mod_tellFunctions_52 : decode prog_13_method_40_code 52 = .ok (.bipush 8, 2) := by decide +kernel
theorem d_Mod_tellFunctions_54 : decode prog_13_method_40_code 54 = .ok (.ireturn, 1) := by decide +kernel
theorem d_Mod_tellFunctions_28 : decode prog_13_method_40_code 28 = .ok (.aload_n 0, 1) := by decide +kernel
theorem d_Mod_tellFunctions_29 : decode prog_13_method_40_code 29 = .ok (.getfield 353, 3) := by decide +kernel
theorem d_Mod_tellFunctions_32 : decode prog_13_method_40_code 32 = .ok (.getfield 396, 3) := by decide +kernel
theorem d_Mod_tellFunctions_35 : decode prog_13_method_40_code 35 = .ok (.bipush 10, 2) := by decide +kernel
theorem d_Mod_tellFunctions_37 : decode prog_13_method_40_code 37 = .ok (.if_icmp .eq 15, 3) := by decide +kernel
