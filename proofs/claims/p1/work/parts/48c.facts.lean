set_option maxRecDepth 100000 in
theorem w_1094 : (Cond.selects "StowTongue$Unit" ⟨"StowTongue$Unit", "argument", "(I)I"⟩ ⟨"StowTongue$Unit", "argument", "(I)I"⟩ : Cond) ∈ am_tbl := am_w 1094 (by decide +kernel) (by decide +kernel)
set_option maxRecDepth 100000 in
theorem d_Mach_perform_92 : decode prog_6_method_3_code 92 = .ok (.invokevirtual 73, 3) := by decide +kernel
set_option maxRecDepth 100000 in
theorem d_Mach_perform_95 : decode prog_6_method_3_code 95 = .ok (.istore 7, 2) := by decide +kernel
set_option maxRecDepth 100000 in
theorem d_Mach_perform_97 : decode prog_6_method_3_code 97 = .ok (.aload_n 0, 1) := by decide +kernel
set_option maxRecDepth 100000 in
theorem d_Mach_perform_98 : decode prog_6_method_3_code 98 = .ok (.dup, 1) := by decide +kernel
set_option maxRecDepth 100000 in
theorem d_Mach_perform_99 : decode prog_6_method_3_code 99 = .ok (.getfield 66, 3) := by decide +kernel
set_option maxRecDepth 100000 in
theorem d_Mach_perform_102 : decode prog_6_method_3_code 102 = .ok (.iconst 1, 1) := by decide +kernel
set_option maxRecDepth 100000 in
theorem d_Mach_perform_103 : decode prog_6_method_3_code 103 = .ok (.iadd, 1) := by decide +kernel
set_option maxRecDepth 100000 in
theorem d_Mach_perform_104 : decode prog_6_method_3_code 104 = .ok (.putfield 66, 3) := by decide +kernel
set_option maxRecDepth 100000 in
theorem d_Mach_perform_107 : decode prog_6_method_3_code 107 = .ok (.iload 6, 2) := by decide +kernel
set_option maxRecDepth 100000 in
theorem d_Mach_perform_109 : decode prog_6_method_3_code 109 = .ok (.bipush 9, 2) := by decide +kernel
set_option maxRecDepth 100000 in
theorem d_Mach_perform_111 : decode prog_6_method_3_code 111 = .ok (.if_icmp .gt 14, 3) := by decide +kernel
set_option maxRecDepth 100000 in
theorem d_Mach_perform_125 : decode prog_6_method_3_code 125 = .ok (.iload 6, 2) := by decide +kernel
set_option maxRecDepth 100000 in
theorem d_Mach_perform_127 : decode prog_6_method_3_code 127 = .ok (.bipush 12, 2) := by decide +kernel
set_option maxRecDepth 100000 in
theorem d_Mach_perform_129 : decode prog_6_method_3_code 129 = .ok (.if_icmp .gt 14, 3) := by decide +kernel
set_option maxRecDepth 100000 in
theorem d_Mach_perform_132 : decode prog_6_method_3_code 132 = .ok (.aload_n 0, 1) := by decide +kernel
set_option maxRecDepth 100000 in
theorem d_Mach_perform_133 : decode prog_6_method_3_code 133 = .ok (.iload 6, 2) := by decide +kernel
set_option maxRecDepth 100000 in
theorem d_Mach_perform_135 : decode prog_6_method_3_code 135 = .ok (.iload 7, 2) := by decide +kernel
set_option maxRecDepth 100000 in
abbrev m_Mach_doConstant : am_M := (⟨"StowTongue$Machine", "doConstant", "(II)V"⟩, prog_6_method_21_code, 3, none)
set_option maxRecDepth 100000 in
theorem d_Mach_doConstant_0 : decode prog_6_method_21_code 0 = .ok (.iload_n 1, 1) := by decide +kernel
set_option maxRecDepth 100000 in
theorem d_Mach_doConstant_1 : decode prog_6_method_21_code 1 = .ok (.bipush 11, 2) := by decide +kernel
set_option maxRecDepth 100000 in
theorem d_Mach_doConstant_3 : decode prog_6_method_21_code 3 = .ok (.if_icmp .ne 12, 3) := by decide +kernel
set_option maxRecDepth 100000 in
theorem d_Mach_doConstant_15 : decode prog_6_method_21_code 15 = .ok (.iload_n 1, 1) := by decide +kernel
set_option maxRecDepth 100000 in
theorem d_Mach_doConstant_16 : decode prog_6_method_21_code 16 = .ok (.bipush 12, 2) := by decide +kernel
set_option maxRecDepth 100000 in
theorem d_Mach_doConstant_18 : decode prog_6_method_21_code 18 = .ok (.if_icmp .ne 28, 3) := by decide +kernel
set_option maxRecDepth 100000 in
theorem d_Mach_doConstant_46 : decode prog_6_method_21_code 46 = .ok (.aload_n 0, 1) := by decide +kernel
set_option maxRecDepth 100000 in
theorem d_Mach_doConstant_47 : decode prog_6_method_21_code 47 = .ok (.lconst 0, 1) := by decide +kernel
set_option maxRecDepth 100000 in
theorem d_Mach_doConstant_48 : decode prog_6_method_21_code 48 = .ok (.lconst 0, 1) := by decide +kernel
set_option maxRecDepth 100000 in
abbrev m_Mach_lay : am_M := (⟨"StowTongue$Machine", "lay", "(JJ)V"⟩, prog_6_method_9_code, 5, none)
set_option maxRecDepth 100000 in
theorem d_Mach_lay_0 : decode prog_6_method_9_code 0 = .ok (.aload_n 0, 1) := by decide +kernel
set_option maxRecDepth 100000 in
theorem d_Mach_lay_1 : decode prog_6_method_9_code 1 = .ok (.getfield 54, 3) := by decide +kernel
set_option maxRecDepth 100000 in
theorem d_Mach_lay_4 : decode prog_6_method_9_code 4 = .ok (.aload_n 0, 1) := by decide +kernel
set_option maxRecDepth 100000 in
theorem d_Mach_lay_5 : decode prog_6_method_9_code 5 = .ok (.getfield 7, 3) := by decide +kernel
set_option maxRecDepth 100000 in
theorem d_Mach_lay_8 : decode prog_6_method_9_code 8 = .ok (.arraylength, 1) := by decide +kernel
set_option maxRecDepth 100000 in
theorem d_Mach_lay_9 : decode prog_6_method_9_code 9 = .ok (.if_icmp .ne 54, 3) := by decide +kernel
set_option maxRecDepth 100000 in
theorem d_Mach_lay_63 : decode prog_6_method_9_code 63 = .ok (.aload_n 0, 1) := by decide +kernel
set_option maxRecDepth 100000 in
theorem d_Mach_lay_64 : decode prog_6_method_9_code 64 = .ok (.getfield 7, 3) := by decide +kernel
set_option maxRecDepth 100000 in
theorem d_Mach_lay_67 : decode prog_6_method_9_code 67 = .ok (.aload_n 0, 1) := by decide +kernel
set_option maxRecDepth 100000 in
theorem d_Mach_lay_68 : decode prog_6_method_9_code 68 = .ok (.getfield 54, 3) := by decide +kernel
set_option maxRecDepth 100000 in
theorem d_Mach_lay_71 : decode prog_6_method_9_code 71 = .ok (.lload_n 1, 1) := by decide +kernel
set_option maxRecDepth 100000 in
theorem d_Mach_lay_72 : decode prog_6_method_9_code 72 = .ok (.lastore, 1) := by decide +kernel
set_option maxRecDepth 100000 in
theorem d_Mach_lay_73 : decode prog_6_method_9_code 73 = .ok (.aload_n 0, 1) := by decide +kernel
set_option maxRecDepth 100000 in
theorem d_Mach_lay_74 : decode prog_6_method_9_code 74 = .ok (.getfield 13, 3) := by decide +kernel
set_option maxRecDepth 100000 in
theorem d_Mach_lay_77 : decode prog_6_method_9_code 77 = .ok (.aload_n 0, 1) := by decide +kernel
set_option maxRecDepth 100000 in
theorem d_Mach_lay_78 : decode prog_6_method_9_code 78 = .ok (.getfield 54, 3) := by decide +kernel
set_option maxRecDepth 100000 in
theorem d_Mach_lay_81 : decode prog_6_method_9_code 81 = .ok (.lload_n 3, 1) := by decide +kernel
set_option maxRecDepth 100000 in
theorem d_Mach_lay_82 : decode prog_6_method_9_code 82 = .ok (.lastore, 1) := by decide +kernel
set_option maxRecDepth 100000 in
theorem d_Mach_lay_83 : decode prog_6_method_9_code 83 = .ok (.aload_n 0, 1) := by decide +kernel
set_option maxRecDepth 100000 in
theorem d_Mach_lay_84 : decode prog_6_method_9_code 84 = .ok (.dup, 1) := by decide +kernel
set_option maxRecDepth 100000 in
theorem d_Mach_lay_85 : decode prog_6_method_9_code 85 = .ok (.getfield 54, 3) := by decide +kernel
set_option maxRecDepth 100000 in
theorem d_Mach_lay_88 : decode prog_6_method_9_code 88 = .ok (.iconst 1, 1) := by decide +kernel
set_option maxRecDepth 100000 in
theorem d_Mach_lay_89 : decode prog_6_method_9_code 89 = .ok (.iadd, 1) := by decide +kernel
set_option maxRecDepth 100000 in
theorem d_Mach_lay_90 : decode prog_6_method_9_code 90 = .ok (.putfield 54, 3) := by decide +kernel
set_option maxRecDepth 100000 in
theorem d_Mach_lay_93 : decode prog_6_method_9_code 93 = .ok (.return_, 1) := by decide +kernel
set_option maxRecDepth 100000 in
theorem w_1078 : (Cond.methodLink "StowTongue$Machine" 121 ⟨"StowTongue$Machine", "lay", "(JJ)V"⟩ : Cond) ∈ am_tbl := am_w 1078 (by decide +kernel) (by decide +kernel)
set_option maxRecDepth 100000 in
theorem w_1081 : (Cond.code ⟨"StowTongue$Machine", "lay", "(JJ)V"⟩ prog_6_method_9_code 5 none : Cond) ∈ am_tbl := am_w 1081 rfl rfl
set_option maxRecDepth 100000 in
theorem l_Mach_121 : am_L "StowTongue$Machine" 121 2 m_Mach_lay := ⟨Or.inl w_1078, w_157, w_1081, ⟨by decide, by decide⟩, by decide +kernel, by decide⟩
set_option maxRecDepth 100000 in
theorem w_1080 : (Cond.instanceMethod ⟨"StowTongue$Machine", "lay", "(JJ)V"⟩ : Cond) ∈ am_tbl := am_w 1080 (by decide +kernel) (by decide +kernel)
set_option maxRecDepth 100000 in
theorem w_44 : (Cond.selects "StowTongue$Machine" ⟨"StowTongue$Machine", "lay", "(JJ)V"⟩ ⟨"StowTongue$Machine", "lay", "(JJ)V"⟩ : Cond) ∈ am_tbl := am_w 44 (by decide +kernel) (by decide +kernel)
set_option maxRecDepth 100000 in
theorem d_Mach_doConstant_49 : decode prog_6_method_21_code 49 = .ok (.invokevirtual 121, 3) := by decide +kernel
set_option maxRecDepth 100000 in
theorem d_Mach_doConstant_52 : decode prog_6_method_21_code 52 = .ok (.return_, 1) := by decide +kernel
set_option maxRecDepth 100000 in
theorem w_1172 : (Cond.methodLink "StowTongue$Machine" 80 ⟨"StowTongue$Machine", "doConstant", "(II)V"⟩ : Cond) ∈ am_tbl := am_w 1172 (by decide +kernel) (by decide +kernel)
set_option maxRecDepth 100000 in
theorem w_1175 : (Cond.code ⟨"StowTongue$Machine", "doConstant", "(II)V"⟩ prog_6_method_21_code 3 none : Cond) ∈ am_tbl := am_w 1175 rfl rfl
set_option maxRecDepth 100000 in
theorem l_Mach_80 : am_L "StowTongue$Machine" 80 2 m_Mach_doConstant := ⟨Or.inl w_1172, w_157, w_1175, ⟨by decide, by decide⟩, by decide +kernel, by decide⟩
set_option maxRecDepth 100000 in
theorem w_1174 : (Cond.instanceMethod ⟨"StowTongue$Machine", "doConstant", "(II)V"⟩ : Cond) ∈ am_tbl := am_w 1174 (by decide +kernel) (by decide +kernel)
set_option maxRecDepth 100000 in
theorem w_53 : (Cond.selects "StowTongue$Machine" ⟨"StowTongue$Machine", "doConstant", "(II)V"⟩ ⟨"StowTongue$Machine", "doConstant", "(II)V"⟩ : Cond) ∈ am_tbl := am_w 53 (by decide +kernel) (by decide +kernel)
set_option maxRecDepth 100000 in
theorem d_Mach_perform_137 : decode prog_6_method_3_code 137 = .ok (.invokevirtual 80, 3) := by decide +kernel
set_option maxRecDepth 100000 in
theorem d_Mach_perform_140 : decode prog_6_method_3_code 140 = .ok (.goto 45, 3) := by decide +kernel
set_option maxRecDepth 100000 in
theorem d_Mach_perform_185 : decode prog_6_method_3_code 185 = .ok (.iinc 5 1, 3) := by decide +kernel
set_option maxRecDepth 100000 in
theorem d_Mach_perform_188 : decode prog_6_method_3_code 188 = .ok (.goto (-138), 3) := by decide +kernel
set_option maxRecDepth 100000 in
theorem d_Mach_perform_114 : decode prog_6_method_3_code 114 = .ok (.aload_n 0, 1) := by decide +kernel
set_option maxRecDepth 100000 in
theorem d_Mach_perform_115 : decode prog_6_method_3_code 115 = .ok (.iload 6, 2) := by decide +kernel
set_option maxRecDepth 100000 in
theorem d_Mach_perform_117 : decode prog_6_method_3_code 117 = .ok (.iload 7, 2) := by decide +kernel
set_option maxRecDepth 100000 in
abbrev m_Mach_doFlow : am_M := (⟨"StowTongue$Machine", "doFlow", "(II)V"⟩, prog_6_method_15_code, 5, none)
set_option maxRecDepth 100000 in
theorem d_Mach_doFlow_0 : decode prog_6_method_15_code 0 = .ok (.aload_n 0, 1) := by decide +kernel
set_option maxRecDepth 100000 in
theorem d_Mach_doFlow_1 : decode prog_6_method_15_code 1 = .ok (.iconst 1, 1) := by decide +kernel
set_option maxRecDepth 100000 in
theorem d_Mach_doFlow_2 : decode prog_6_method_15_code 2 = .ok (.invokevirtual 133, 3) := by decide +kernel
set_option maxRecDepth 100000 in
theorem d_Mach_doFlow_5 : decode prog_6_method_15_code 5 = .ok (.istore_n 3, 1) := by decide +kernel
set_option maxRecDepth 100000 in
theorem d_Mach_doFlow_6 : decode prog_6_method_15_code 6 = .ok (.aload_n 0, 1) := by decide +kernel
set_option maxRecDepth 100000 in
theorem d_Mach_doFlow_7 : decode prog_6_method_15_code 7 = .ok (.getfield 7, 3) := by decide +kernel
set_option maxRecDepth 100000 in
theorem d_Mach_doFlow_10 : decode prog_6_method_15_code 10 = .ok (.iload_n 3, 1) := by decide +kernel
set_option maxRecDepth 100000 in
theorem d_Mach_doFlow_11 : decode prog_6_method_15_code 11 = .ok (.laload, 1) := by decide +kernel
set_option maxRecDepth 100000 in
theorem d_Mach_doFlow_12 : decode prog_6_method_15_code 12 = .ok (.aload_n 0, 1) := by decide +kernel
set_option maxRecDepth 100000 in
theorem d_Mach_doFlow_13 : decode prog_6_method_15_code 13 = .ok (.getfield 13, 3) := by decide +kernel
set_option maxRecDepth 100000 in
theorem d_Mach_doFlow_16 : decode prog_6_method_15_code 16 = .ok (.iload_n 3, 1) := by decide +kernel
set_option maxRecDepth 100000 in
theorem d_Mach_doFlow_17 : decode prog_6_method_15_code 17 = .ok (.laload, 1) := by decide +kernel
set_option maxRecDepth 100000 in
abbrev m_Cell_isTrue : am_M := (⟨"StowTongue$Cell", "isTrue", "(JJ)Z"⟩, prog_2_method_5_code, 5, (some FieldType.boolean))
set_option maxRecDepth 100000 in
theorem d_Cell_isTrue_0 : decode prog_2_method_5_code 0 = .ok (.lload_n 0, 1) := by decide +kernel
set_option maxRecDepth 100000 in
theorem w_1103 : (Cond.methodLink "StowTongue$Cell" 9 ⟨"StowTongue$Cell", "sortOf", "(J)I"⟩ : Cond) ∈ am_tbl := am_w 1103 (by decide +kernel) (by decide +kernel)
set_option maxRecDepth 100000 in
theorem l_Cell_9 : am_L "StowTongue$Cell" 9 1 m_Cell_sortOf := ⟨Or.inl w_1103, w_151, w_1105, ⟨by decide, by decide⟩, by decide +kernel, by decide⟩
set_option maxRecDepth 100000 in
theorem d_Cell_isTrue_1 : decode prog_2_method_5_code 1 = .ok (.invokestatic 9, 3) := by decide +kernel
set_option maxRecDepth 100000 in
theorem d_Cell_isTrue_4 : decode prog_2_method_5_code 4 = .ok (.istore 4, 2) := by decide +kernel
set_option maxRecDepth 100000 in
theorem d_Cell_isTrue_6 : decode prog_2_method_5_code 6 = .ok (.iload 4, 2) := by decide +kernel
set_option maxRecDepth 100000 in
theorem d_Cell_isTrue_8 : decode prog_2_method_5_code 8 = .ok (.ifCond .eq 19, 3) := by decide +kernel
set_option maxRecDepth 100000 in
theorem d_Cell_isTrue_27 : decode prog_2_method_5_code 27 = .ok (.iconst 0, 1) := by decide +kernel
set_option maxRecDepth 100000 in
theorem d_Cell_isTrue_28 : decode prog_2_method_5_code 28 = .ok (.ireturn, 1) := by decide +kernel
set_option maxRecDepth 100000 in
theorem w_1100 : (Cond.methodLink "StowTongue$Machine" 136 ⟨"StowTongue$Cell", "isTrue", "(JJ)Z"⟩ : Cond) ∈ am_tbl := am_w 1100 (by decide +kernel) (by decide +kernel)
set_option maxRecDepth 100000 in
theorem w_1102 : (Cond.code ⟨"StowTongue$Cell", "isTrue", "(JJ)Z"⟩ prog_2_method_5_code 5 (some FieldType.boolean) : Cond) ∈ am_tbl := am_w 1102 rfl rfl
set_option maxRecDepth 100000 in
theorem l_Mach_136 : am_L "StowTongue$Machine" 136 2 m_Cell_isTrue := ⟨Or.inl w_1100, w_151, w_1102, ⟨by decide, by decide⟩, by decide +kernel, by decide⟩
set_option maxRecDepth 100000 in
theorem w_1101 : (Cond.static ⟨"StowTongue$Cell", "isTrue", "(JJ)Z"⟩ : Cond) ∈ am_tbl := am_w 1101 (by decide +kernel) (by decide +kernel)
set_option maxRecDepth 100000 in
theorem d_Mach_doFlow_18 : decode prog_6_method_15_code 18 = .ok (.invokestatic 136, 3) := by decide +kernel
set_option maxRecDepth 100000 in
theorem d_Mach_doFlow_21 : decode prog_6_method_15_code 21 = .ok (.istore 4, 2) := by decide +kernel
set_option maxRecDepth 100000 in
theorem d_Mach_doFlow_23 : decode prog_6_method_15_code 23 = .ok (.iload_n 1, 1) := by decide +kernel
set_option maxRecDepth 100000 in
theorem d_Mach_doFlow_24 : decode prog_6_method_15_code 24 = .ok (.tableswitch 171 0 8 #[52, 60, 68, 93, 103, 121, 147, 154, 163], 52) := by decide +kernel
set_option maxRecDepth 100000 in
theorem d_Mach_doFlow_171 : decode prog_6_method_15_code 171 = .ok (.aload_n 0, 1) := by decide +kernel
set_option maxRecDepth 100000 in
abbrev m_Mach_leave : am_M := (⟨"StowTongue$Machine", "leave", "()V"⟩, prog_6_method_19_code, 2, none)
set_option maxRecDepth 100000 in
theorem d_Mach_leave_0 : decode prog_6_method_19_code 0 = .ok (.aload_n 0, 1) := by decide +kernel
set_option maxRecDepth 100000 in
theorem d_Mach_leave_1 : decode prog_6_method_19_code 1 = .ok (.iconst 1, 1) := by decide +kernel
set_option maxRecDepth 100000 in
theorem d_Mach_leave_2 : decode prog_6_method_19_code 2 = .ok (.invokevirtual 133, 3) := by decide +kernel
set_option maxRecDepth 100000 in
theorem d_Mach_leave_5 : decode prog_6_method_19_code 5 = .ok (.istore_n 1, 1) := by decide +kernel
set_option maxRecDepth 100000 in
theorem d_Mach_leave_6 : decode prog_6_method_19_code 6 = .ok (.aload_n 0, 1) := by decide +kernel
set_option maxRecDepth 100000 in
theorem d_Mach_leave_7 : decode prog_6_method_19_code 7 = .ok (.aload_n 0, 1) := by decide +kernel
set_option maxRecDepth 100000 in
theorem d_Mach_leave_8 : decode prog_6_method_19_code 8 = .ok (.getfield 7, 3) := by decide +kernel
set_option maxRecDepth 100000 in
theorem d_Mach_leave_11 : decode prog_6_method_19_code 11 = .ok (.iload_n 1, 1) := by decide +kernel
set_option maxRecDepth 100000 in
theorem d_Mach_leave_12 : decode prog_6_method_19_code 12 = .ok (.laload, 1) := by decide +kernel
set_option maxRecDepth 100000 in
theorem w_418 : (Cond.fieldLink "StowTongue$Machine" 93 "StowTongue$Machine" "resultHead" "J" : Cond) ∈ am_tbl := am_w 418 (by decide +kernel) (by decide +kernel)
set_option maxRecDepth 100000 in
theorem f_Mach_93 : am_F "StowTongue$Machine" 93 6 16 := ⟨_, rfl, cl_6, by decide, Or.inl w_418⟩
set_option maxRecDepth 100000 in
theorem d_Mach_leave_13 : decode prog_6_method_19_code 13 = .ok (.putfield 93, 3) := by decide +kernel
set_option maxRecDepth 100000 in
theorem d_Mach_leave_16 : decode prog_6_method_19_code 16 = .ok (.aload_n 0, 1) := by decide +kernel
set_option maxRecDepth 100000 in
theorem d_Mach_leave_17 : decode prog_6_method_19_code 17 = .ok (.aload_n 0, 1) := by decide +kernel
set_option maxRecDepth 100000 in
theorem d_Mach_leave_18 : decode prog_6_method_19_code 18 = .ok (.getfield 13, 3) := by decide +kernel
set_option maxRecDepth 100000 in
theorem d_Mach_leave_21 : decode prog_6_method_19_code 21 = .ok (.iload_n 1, 1) := by decide +kernel
set_option maxRecDepth 100000 in
theorem d_Mach_leave_22 : decode prog_6_method_19_code 22 = .ok (.laload, 1) := by decide +kernel
set_option maxRecDepth 100000 in
theorem w_419 : (Cond.fieldLink "StowTongue$Machine" 97 "StowTongue$Machine" "resultTail" "J" : Cond) ∈ am_tbl := am_w 419 (by decide +kernel) (by decide +kernel)
set_option maxRecDepth 100000 in
theorem f_Mach_97 : am_F "StowTongue$Machine" 97 6 17 := ⟨_, rfl, cl_6, by decide, Or.inl w_419⟩
set_option maxRecDepth 100000 in
theorem d_Mach_leave_23 : decode prog_6_method_19_code 23 = .ok (.putfield 97, 3) := by decide +kernel
set_option maxRecDepth 100000 in
theorem d_Mach_leave_26 : decode prog_6_method_19_code 26 = .ok (.aload_n 0, 1) := by decide +kernel
set_option maxRecDepth 100000 in
theorem d_Mach_leave_27 : decode prog_6_method_19_code 27 = .ok (.getfield 51, 3) := by decide +kernel
set_option maxRecDepth 100000 in
theorem d_Mach_leave_30 : decode prog_6_method_19_code 30 = .ok (.ifCond .ne 9, 3) := by decide +kernel
set_option maxRecDepth 100000 in
theorem d_Mach_leave_33 : decode prog_6_method_19_code 33 = .ok (.aload_n 0, 1) := by decide +kernel
set_option maxRecDepth 100000 in
theorem d_Mach_leave_34 : decode prog_6_method_19_code 34 = .ok (.iconst 1, 1) := by decide +kernel
set_option maxRecDepth 100000 in
theorem d_Mach_leave_35 : decode prog_6_method_19_code 35 = .ok (.putfield 47, 3) := by decide +kernel
set_option maxRecDepth 100000 in
theorem d_Mach_leave_38 : decode prog_6_method_19_code 38 = .ok (.return_, 1) := by decide +kernel
set_option maxRecDepth 100000 in
theorem w_1130 : (Cond.methodLink "StowTongue$Machine" 155 ⟨"StowTongue$Machine", "leave", "()V"⟩ : Cond) ∈ am_tbl := am_w 1130 (by decide +kernel) (by decide +kernel)
set_option maxRecDepth 100000 in
theorem w_1133 : (Cond.code ⟨"StowTongue$Machine", "leave", "()V"⟩ prog_6_method_19_code 2 none : Cond) ∈ am_tbl := am_w 1133 rfl rfl
set_option maxRecDepth 100000 in
theorem l_Mach_155 : am_L "StowTongue$Machine" 155 0 m_Mach_leave := ⟨Or.inl w_1130, w_157, w_1133, ⟨by decide, by decide⟩, by decide +kernel, by decide⟩
set_option maxRecDepth 100000 in
theorem w_1132 : (Cond.instanceMethod ⟨"StowTongue$Machine", "leave", "()V"⟩ : Cond) ∈ am_tbl := am_w 1132 (by decide +kernel) (by decide +kernel)
set_option maxRecDepth 100000 in
theorem w_50 : (Cond.selects "StowTongue$Machine" ⟨"StowTongue$Machine", "leave", "()V"⟩ ⟨"StowTongue$Machine", "leave", "()V"⟩ : Cond) ∈ am_tbl := am_w 50 (by decide +kernel) (by decide +kernel)
set_option maxRecDepth 100000 in
theorem d_Mach_doFlow_172 : decode prog_6_method_15_code 172 = .ok (.invokevirtual 155, 3) := by decide +kernel
set_option maxRecDepth 100000 in
theorem d_Mach_doFlow_175 : decode prog_6_method_15_code 175 = .ok (.goto 30, 3) := by decide +kernel
set_option maxRecDepth 100000 in
theorem d_Mach_doFlow_205 : decode prog_6_method_15_code 205 = .ok (.return_, 1) := by decide +kernel
set_option maxRecDepth 100000 in
theorem w_1096 : (Cond.methodLink "StowTongue$Machine" 76 ⟨"StowTongue$Machine", "doFlow", "(II)V"⟩ : Cond) ∈ am_tbl := am_w 1096 (by decide +kernel) (by decide +kernel)
set_option maxRecDepth 100000 in
theorem w_1099 : (Cond.code ⟨"StowTongue$Machine", "doFlow", "(II)V"⟩ prog_6_method_15_code 5 none : Cond) ∈ am_tbl := am_w 1099 rfl rfl
set_option maxRecDepth 100000 in
theorem l_Mach_76 : am_L "StowTongue$Machine" 76 2 m_Mach_doFlow := ⟨Or.inl w_1096, w_157, w_1099, ⟨by decide, by decide⟩, by decide +kernel, by decide⟩
set_option maxRecDepth 100000 in
theorem w_1098 : (Cond.instanceMethod ⟨"StowTongue$Machine", "doFlow", "(II)V"⟩ : Cond) ∈ am_tbl := am_w 1098 (by decide +kernel) (by decide +kernel)
set_option maxRecDepth 100000 in
theorem w_46 : (Cond.selects "StowTongue$Machine" ⟨"StowTongue$Machine", "doFlow", "(II)V"⟩ ⟨"StowTongue$Machine", "doFlow", "(II)V"⟩ : Cond) ∈ am_tbl := am_w 46 (by decide +kernel) (by decide +kernel)
set_option maxRecDepth 100000 in
theorem d_Mach_perform_119 : decode prog_6_method_3_code 119 = .ok (.invokevirtual 76, 3) := by decide +kernel
set_option maxRecDepth 100000 in
theorem d_Mach_perform_122 : decode prog_6_method_3_code 122 = .ok (.goto 63, 3) := by decide +kernel
set_option maxRecDepth 100000 in
theorem d_Mach_perform_191 : decode prog_6_method_3_code 191 = .ok (.aload_n 0, 1) := by decide +kernel
set_option maxRecDepth 100000 in
theorem d_Mach_perform_192 : decode prog_6_method_3_code 192 = .ok (.getfield 44, 3) := by decide +kernel
set_option maxRecDepth 100000 in
theorem d_Mach_perform_195 : decode prog_6_method_3_code 195 = .ok (.ireturn, 1) := by decide +kernel
set_option maxRecDepth 100000 in
theorem w_1061 : (Cond.methodLink "StowTongue" 78 ⟨"StowTongue$Machine", "perform", "(LStowTongue$Unit;LStowTongue$Store;LStowTongue$Out;I)I"⟩ : Cond) ∈ am_tbl := am_w 1061 (by decide +kernel) (by decide +kernel)
set_option maxRecDepth 100000 in
theorem w_1064 : (Cond.code ⟨"StowTongue$Machine", "perform", "(LStowTongue$Unit;LStowTongue$Store;LStowTongue$Out;I)I"⟩ prog_6_method_3_code 8 (some FieldType.int) : Cond) ∈ am_tbl := am_w 1064 rfl rfl
set_option maxRecDepth 100000 in
theorem l_Stow_78 : am_L "StowTongue" 78 4 m_Mach_perform := ⟨Or.inl w_1061, w_157, w_1064, ⟨by decide, by decide⟩, by decide +kernel, by decide⟩
set_option maxRecDepth 100000 in
theorem w_1062 : (Cond.instanceMethod ⟨"StowTongue$Machine", "perform", "(LStowTongue$Unit;LStowTongue$Store;LStowTongue$Out;I)I"⟩ : Cond) ∈ am_tbl := am_w 1062 (by decide +kernel) (by decide +kernel)
set_option maxRecDepth 100000 in
theorem w_1063 : (Cond.selects "StowTongue$Machine" ⟨"StowTongue$Machine", "perform", "(LStowTongue$Unit;LStowTongue$Store;LStowTongue$Out;I)I"⟩ ⟨"StowTongue$Machine", "perform", "(LStowTongue$Unit;LStowTongue$Store;LStowTongue$Out;I)I"⟩ : Cond) ∈ am_tbl := am_w 1063 (by decide +kernel) (by decide +kernel)
set_option maxRecDepth 100000 in
theorem d_Stow_run_93 : decode prog_1_method_5_code 93 = .ok (.invokevirtual 78, 3) := by decide +kernel
set_option maxRecDepth 100000 in
theorem d_Stow_run_96 : decode prog_1_method_5_code 96 = .ok (.istore 4, 2) := by decide +kernel
set_option maxRecDepth 100000 in
theorem d_Stow_run_98 : decode prog_1_method_5_code 98 = .ok (.aload_n 0, 1) := by decide +kernel
set_option maxRecDepth 100000 in
theorem d_Stow_run_99 : decode prog_1_method_5_code 99 = .ok (.aload_n 0, 1) := by decide +kernel
set_option maxRecDepth 100000 in
theorem d_Stow_run_100 : decode prog_1_method_5_code 100 = .ok (.getfield 30, 3) := by decide +kernel
set_option maxRecDepth 100000 in
abbrev m_Mach_taken : am_M := (⟨"StowTongue$Machine", "taken", "()I"⟩, prog_6_method_4_code, 1, (some FieldType.int))
set_option maxRecDepth 100000 in
theorem d_Mach_taken_0 : decode prog_6_method_4_code 0 = .ok (.aload_n 0, 1) := by decide +kernel
set_option maxRecDepth 100000 in
theorem d_Mach_taken_1 : decode prog_6_method_4_code 1 = .ok (.getfield 41, 3) := by decide +kernel
set_option maxRecDepth 100000 in
theorem d_Mach_taken_4 : decode prog_6_method_4_code 4 = .ok (.ireturn, 1) := by decide +kernel
set_option maxRecDepth 100000 in
theorem w_1325 : (Cond.methodLink "StowTongue" 82 ⟨"StowTongue$Machine", "taken", "()I"⟩ : Cond) ∈ am_tbl := am_w 1325 (by decide +kernel) (by decide +kernel)
set_option maxRecDepth 100000 in
theorem w_1328 : (Cond.code ⟨"StowTongue$Machine", "taken", "()I"⟩ prog_6_method_4_code 1 (some FieldType.int) : Cond) ∈ am_tbl := am_w 1328 rfl rfl
set_option maxRecDepth 100000 in
theorem l_Stow_82 : am_L "StowTongue" 82 0 m_Mach_taken := ⟨Or.inl w_1325, w_157, w_1328, ⟨by decide, by decide⟩, by decide +kernel, by decide⟩
set_option maxRecDepth 100000 in
theorem w_1326 : (Cond.instanceMethod ⟨"StowTongue$Machine", "taken", "()I"⟩ : Cond) ∈ am_tbl := am_w 1326 (by decide +kernel) (by decide +kernel)
set_option maxRecDepth 100000 in
theorem w_1327 : (Cond.selects "StowTongue$Machine" ⟨"StowTongue$Machine", "taken", "()I"⟩ ⟨"StowTongue$Machine", "taken", "()I"⟩ : Cond) ∈ am_tbl := am_w 1327 (by decide +kernel) (by decide +kernel)
set_option maxRecDepth 100000 in
theorem d_Stow_run_103 : decode prog_1_method_5_code 103 = .ok (.invokevirtual 82, 3) := by decide +kernel
set_option maxRecDepth 100000 in
theorem d_Stow_run_106 : decode prog_1_method_5_code 106 = .ok (.putfield 86, 3) := by decide +kernel
set_option maxRecDepth 100000 in
theorem d_Stow_run_109 : decode prog_1_method_5_code 109 = .ok (.iload 4, 2) := by decide +kernel
set_option maxRecDepth 100000 in
theorem d_Stow_run_111 : decode prog_1_method_5_code 111 = .ok (.ifCond .ne 50, 3) := by decide +kernel
set_option maxRecDepth 100000 in
theorem d_Stow_run_114 : decode prog_1_method_5_code 114 = .ok (.aload_n 0, 1) := by decide +kernel
set_option maxRecDepth 100000 in
theorem d_Stow_run_115 : decode prog_1_method_5_code 115 = .ok (.aload_n 0, 1) := by decide +kernel
set_option maxRecDepth 100000 in
theorem d_Stow_run_116 : decode prog_1_method_5_code 116 = .ok (.getfield 30, 3) := by decide +kernel
set_option maxRecDepth 100000 in
abbrev m_Mach_resultHead : am_M := (⟨"StowTongue$Machine", "resultHead", "()J"⟩, prog_6_method_5_code, 1, (some FieldType.long))
set_option maxRecDepth 100000 in
theorem d_Mach_resultHead_0 : decode prog_6_method_5_code 0 = .ok (.aload_n 0, 1) := by decide +kernel
set_option maxRecDepth 100000 in
theorem d_Mach_resultHead_1 : decode prog_6_method_5_code 1 = .ok (.getfield 93, 3) := by decide +kernel
set_option maxRecDepth 100000 in
theorem d_Mach_resultHead_4 : decode prog_6_method_5_code 4 = .ok (.lreturn, 1) := by decide +kernel
set_option maxRecDepth 100000 in
theorem w_1329 : (Cond.methodLink "StowTongue" 89 ⟨"StowTongue$Machine", "resultHead", "()J"⟩ : Cond) ∈ am_tbl := am_w 1329 (by decide +kernel) (by decide +kernel)
set_option maxRecDepth 100000 in
theorem w_1332 : (Cond.code ⟨"StowTongue$Machine", "resultHead", "()J"⟩ prog_6_method_5_code 1 (some FieldType.long) : Cond) ∈ am_tbl := am_w 1332 rfl rfl
set_option maxRecDepth 100000 in
theorem l_Stow_89 : am_L "StowTongue" 89 0 m_Mach_resultHead := ⟨Or.inl w_1329, w_157, w_1332, ⟨by decide, by decide⟩, by decide +kernel, by decide⟩
set_option maxRecDepth 100000 in
theorem w_1330 : (Cond.instanceMethod ⟨"StowTongue$Machine", "resultHead", "()J"⟩ : Cond) ∈ am_tbl := am_w 1330 (by decide +kernel) (by decide +kernel)
set_option maxRecDepth 100000 in
theorem w_1331 : (Cond.selects "StowTongue$Machine" ⟨"StowTongue$Machine", "resultHead", "()J"⟩ ⟨"StowTongue$Machine", "resultHead", "()J"⟩ : Cond) ∈ am_tbl := am_w 1331 (by decide +kernel) (by decide +kernel)
set_option maxRecDepth 100000 in
theorem d_Stow_run_119 : decode prog_1_method_5_code 119 = .ok (.invokevirtual 89, 3) := by decide +kernel
set_option maxRecDepth 100000 in
theorem d_Stow_run_122 : decode prog_1_method_5_code 122 = .ok (.putfield 93, 3) := by decide +kernel
set_option maxRecDepth 100000 in
theorem d_Stow_run_125 : decode prog_1_method_5_code 125 = .ok (.aload_n 0, 1) := by decide +kernel
set_option maxRecDepth 100000 in
theorem d_Stow_run_126 : decode prog_1_method_5_code 126 = .ok (.aload_n 0, 1) := by decide +kernel
set_option maxRecDepth 100000 in
theorem d_Stow_run_127 : decode prog_1_method_5_code 127 = .ok (.getfield 30, 3) := by decide +kernel
set_option maxRecDepth 100000 in
abbrev m_Mach_resultTail : am_M := (⟨"StowTongue$Machine", "resultTail", "()J"⟩, prog_6_method_6_code, 1, (some FieldType.long))
set_option maxRecDepth 100000 in
theorem d_Mach_resultTail_0 : decode prog_6_method_6_code 0 = .ok (.aload_n 0, 1) := by decide +kernel
set_option maxRecDepth 100000 in
theorem d_Mach_resultTail_1 : decode prog_6_method_6_code 1 = .ok (.getfield 97, 3) := by decide +kernel
set_option maxRecDepth 100000 in
theorem d_Mach_resultTail_4 : decode prog_6_method_6_code 4 = .ok (.lreturn, 1) := by decide +kernel
set_option maxRecDepth 100000 in
theorem w_1333 : (Cond.methodLink "StowTongue" 97 ⟨"StowTongue$Machine", "resultTail", "()J"⟩ : Cond) ∈ am_tbl := am_w 1333 (by decide +kernel) (by decide +kernel)
set_option maxRecDepth 100000 in
theorem w_1336 : (Cond.code ⟨"StowTongue$Machine", "resultTail", "()J"⟩ prog_6_method_6_code 1 (some FieldType.long) : Cond) ∈ am_tbl := am_w 1336 rfl rfl
set_option maxRecDepth 100000 in
theorem l_Stow_97 : am_L "StowTongue" 97 0 m_Mach_resultTail := ⟨Or.inl w_1333, w_157, w_1336, ⟨by decide, by decide⟩, by decide +kernel, by decide⟩
set_option maxRecDepth 100000 in
theorem w_1334 : (Cond.instanceMethod ⟨"StowTongue$Machine", "resultTail", "()J"⟩ : Cond) ∈ am_tbl := am_w 1334 (by decide +kernel) (by decide +kernel)
set_option maxRecDepth 100000 in
theorem w_1335 : (Cond.selects "StowTongue$Machine" ⟨"StowTongue$Machine", "resultTail", "()J"⟩ ⟨"StowTongue$Machine", "resultTail", "()J"⟩ : Cond) ∈ am_tbl := am_w 1335 (by decide +kernel) (by decide +kernel)
set_option maxRecDepth 100000 in
theorem d_Stow_run_130 : decode prog_1_method_5_code 130 = .ok (.invokevirtual 97, 3) := by decide +kernel
set_option maxRecDepth 100000 in
theorem d_Stow_run_133 : decode prog_1_method_5_code 133 = .ok (.putfield 100, 3) := by decide +kernel
set_option maxRecDepth 100000 in
theorem d_Stow_run_136 : decode prog_1_method_5_code 136 = .ok (.aload_n 0, 1) := by decide +kernel
set_option maxRecDepth 100000 in
theorem d_Stow_run_137 : decode prog_1_method_5_code 137 = .ok (.getfield 37, 3) := by decide +kernel
set_option maxRecDepth 100000 in
theorem d_Stow_run_140 : decode prog_1_method_5_code 140 = .ok (.aload_n 0, 1) := by decide +kernel
set_option maxRecDepth 100000 in
theorem d_Stow_run_141 : decode prog_1_method_5_code 141 = .ok (.getfield 37, 3) := by decide +kernel
set_option maxRecDepth 100000 in
theorem d_Stow_run_144 : decode prog_1_method_5_code 144 = .ok (.invokevirtual 103, 3) := by decide +kernel
set_option maxRecDepth 100000 in
theorem d_Stow_run_147 : decode prog_1_method_5_code 147 = .ok (.aload_n 3, 1) := by decide +kernel
set_option maxRecDepth 100000 in
theorem d_Stow_run_148 : decode prog_1_method_5_code 148 = .ok (.aload_n 0, 1) := by decide +kernel
set_option maxRecDepth 100000 in
theorem d_Stow_run_149 : decode prog_1_method_5_code 149 = .ok (.getfield 23, 3) := by decide +kernel
set_option maxRecDepth 100000 in
abbrev m_Pars_toldTokens : am_M := (⟨"StowTongue$Parser", "toldTokens", "()I"⟩, prog_8_method_5_code, 3, (some FieldType.int))
set_option maxRecDepth 100000 in
theorem d_Pars_toldTokens_0 : decode prog_8_method_5_code 0 = .ok (.iconst 0, 1) := by decide +kernel
set_option maxRecDepth 100000 in
theorem d_Pars_toldTokens_1 : decode prog_8_method_5_code 1 = .ok (.istore_n 1, 1) := by decide +kernel
set_option maxRecDepth 100000 in
theorem d_Pars_toldTokens_2 : decode prog_8_method_5_code 2 = .ok (.iconst 0, 1) := by decide +kernel
set_option maxRecDepth 100000 in
theorem d_Pars_toldTokens_3 : decode prog_8_method_5_code 3 = .ok (.istore_n 2, 1) := by decide +kernel
set_option maxRecDepth 100000 in
theorem d_Pars_toldTokens_4 : decode prog_8_method_5_code 4 = .ok (.iload_n 2, 1) := by decide +kernel
set_option maxRecDepth 100000 in
theorem d_Pars_toldTokens_5 : decode prog_8_method_5_code 5 = .ok (.aload_n 0, 1) := by decide +kernel
set_option maxRecDepth 100000 in
theorem d_Pars_toldTokens_6 : decode prog_8_method_5_code 6 = .ok (.getfield 34, 3) := by decide +kernel
set_option maxRecDepth 100000 in
theorem d_Pars_toldTokens_9 : decode prog_8_method_5_code 9 = .ok (.invokevirtual 74, 3) := by decide +kernel
set_option maxRecDepth 100000 in
theorem d_Pars_toldTokens_12 : decode prog_8_method_5_code 12 = .ok (.if_icmp .ge 26, 3) := by decide +kernel
set_option maxRecDepth 100000 in
theorem d_Pars_toldTokens_38 : decode prog_8_method_5_code 38 = .ok (.iload_n 1, 1) := by decide +kernel
set_option maxRecDepth 100000 in
theorem d_Pars_toldTokens_39 : decode prog_8_method_5_code 39 = .ok (.ireturn, 1) := by decide +kernel
set_option maxRecDepth 100000 in
theorem w_1338 : (Cond.methodLink "StowTongue" 106 ⟨"StowTongue$Parser", "toldTokens", "()I"⟩ : Cond) ∈ am_tbl := am_w 1338 (by decide +kernel) (by decide +kernel)
set_option maxRecDepth 100000 in
theorem w_1341 : (Cond.code ⟨"StowTongue$Parser", "toldTokens", "()I"⟩ prog_8_method_5_code 3 (some FieldType.int) : Cond) ∈ am_tbl := am_w 1341 rfl rfl
set_option maxRecDepth 100000 in
theorem l_Stow_106 : am_L "StowTongue" 106 0 m_Pars_toldTokens := ⟨Or.inl w_1338, w_145, w_1341, ⟨by decide, by decide⟩, by decide +kernel, by decide⟩
set_option maxRecDepth 100000 in
theorem w_1339 : (Cond.instanceMethod ⟨"StowTongue$Parser", "toldTokens", "()I"⟩ : Cond) ∈ am_tbl := am_w 1339 (by decide +kernel) (by decide +kernel)
set_option maxRecDepth 100000 in
theorem w_1340 : (Cond.selects "StowTongue$Parser" ⟨"StowTongue$Parser", "toldTokens", "()I"⟩ ⟨"StowTongue$Parser", "toldTokens", "()I"⟩ : Cond) ∈ am_tbl := am_w 1340 (by decide +kernel) (by decide +kernel)
set_option maxRecDepth 100000 in
theorem d_Stow_run_152 : decode prog_1_method_5_code 152 = .ok (.invokevirtual 106, 3) := by decide +kernel
set_option maxRecDepth 100000 in
abbrev m_Log_commitBytes : am_M := (⟨"StowTongue$Log", "commitBytes", "(LStowTongue$Store;LStowTongue$Store;I)I"⟩, prog_5_method_2_code, 3, (some FieldType.int))
set_option maxRecDepth 100000 in
theorem d_Log_commitBytes_0 : decode prog_5_method_2_code 0 = .ok (.bipush 8, 2) := by decide +kernel
set_option maxRecDepth 100000 in
theorem d_Log_commitBytes_2 : decode prog_5_method_2_code 2 = .ok (.bipush 16, 2) := by decide +kernel
set_option maxRecDepth 100000 in
theorem d_Log_commitBytes_4 : decode prog_5_method_2_code 4 = .ok (.aload_n 1, 1) := by decide +kernel
set_option maxRecDepth 100000 in
theorem d_Log_commitBytes_5 : decode prog_5_method_2_code 5 = .ok (.aload_n 0, 1) := by decide +kernel
set_option maxRecDepth 100000 in
theorem w_1346 : (Cond.methodLink "StowTongue$Log" 19 ⟨"StowTongue$Store", "objectsChangedSince", "(LStowTongue$Store;)I"⟩ : Cond) ∈ am_tbl := am_w 1346 (by decide +kernel) (by decide +kernel)
set_option maxRecDepth 100000 in
theorem w_1349 : (Cond.code ⟨"StowTongue$Store", "objectsChangedSince", "(LStowTongue$Store;)I"⟩ prog_9_method_23_code 4 (some FieldType.int) : Cond) ∈ am_tbl := am_w 1349 rfl rfl
set_option maxRecDepth 100000 in
theorem l_Log_19 : am_L "StowTongue$Log" 19 1 m_Store_objectsChangedSince := ⟨Or.inl w_1346, w_169, w_1349, ⟨by decide, by decide⟩, by decide +kernel, by decide⟩
set_option maxRecDepth 100000 in
theorem w_1347 : (Cond.instanceMethod ⟨"StowTongue$Store", "objectsChangedSince", "(LStowTongue$Store;)I"⟩ : Cond) ∈ am_tbl := am_w 1347 (by decide +kernel) (by decide +kernel)
set_option maxRecDepth 100000 in
theorem w_1348 : (Cond.selects "StowTongue$Store" ⟨"StowTongue$Store", "objectsChangedSince", "(LStowTongue$Store;)I"⟩ ⟨"StowTongue$Store", "objectsChangedSince", "(LStowTongue$Store;)I"⟩ : Cond) ∈ am_tbl := am_w 1348 (by decide +kernel) (by decide +kernel)
set_option maxRecDepth 100000 in
theorem d_Log_commitBytes_6 : decode prog_5_method_2_code 6 = .ok (.invokevirtual 19, 3) := by decide +kernel
set_option maxRecDepth 100000 in
theorem d_Log_commitBytes_9 : decode prog_5_method_2_code 9 = .ok (.imul, 1) := by decide +kernel
set_option maxRecDepth 100000 in
theorem d_Log_commitBytes_10 : decode prog_5_method_2_code 10 = .ok (.iadd, 1) := by decide +kernel
set_option maxRecDepth 100000 in
theorem d_Log_commitBytes_11 : decode prog_5_method_2_code 11 = .ok (.bipush 6, 2) := by decide +kernel
set_option maxRecDepth 100000 in
theorem d_Log_commitBytes_13 : decode prog_5_method_2_code 13 = .ok (.aload_n 1, 1) := by decide +kernel
set_option maxRecDepth 100000 in
theorem d_Log_commitBytes_14 : decode prog_5_method_2_code 14 = .ok (.aload_n 0, 1) := by decide +kernel
set_option maxRecDepth 100000 in
abbrev m_Store_rootsChangedSince : am_M := (⟨"StowTongue$Store", "rootsChangedSince", "(LStowTongue$Store;)I"⟩, prog_9_method_25_code, 5, (some FieldType.int))
set_option maxRecDepth 100000 in
theorem d_Store_rootsChangedSince_0 : decode prog_9_method_25_code 0 = .ok (.iconst 0, 1) := by decide +kernel
set_option maxRecDepth 100000 in
theorem d_Store_rootsChangedSince_1 : decode prog_9_method_25_code 1 = .ok (.istore_n 2, 1) := by decide +kernel
set_option maxRecDepth 100000 in
theorem d_Store_rootsChangedSince_2 : decode prog_9_method_25_code 2 = .ok (.iconst 0, 1) := by decide +kernel
set_option maxRecDepth 100000 in
theorem d_Store_rootsChangedSince_3 : decode prog_9_method_25_code 3 = .ok (.istore_n 3, 1) := by decide +kernel
set_option maxRecDepth 100000 in
theorem d_Store_rootsChangedSince_4 : decode prog_9_method_25_code 4 = .ok (.iload_n 3, 1) := by decide +kernel
set_option maxRecDepth 100000 in
theorem d_Store_rootsChangedSince_5 : decode prog_9_method_25_code 5 = .ok (.aload_n 0, 1) := by decide +kernel
set_option maxRecDepth 100000 in
theorem d_Store_rootsChangedSince_6 : decode prog_9_method_25_code 6 = .ok (.getfield 47, 3) := by decide +kernel
set_option maxRecDepth 100000 in
theorem d_Store_rootsChangedSince_9 : decode prog_9_method_25_code 9 = .ok (.if_icmp .ge 63, 3) := by decide +kernel
set_option maxRecDepth 100000 in
theorem d_Store_rootsChangedSince_72 : decode prog_9_method_25_code 72 = .ok (.iconst 0, 1) := by decide +kernel
set_option maxRecDepth 100000 in
theorem d_Store_rootsChangedSince_73 : decode prog_9_method_25_code 73 = .ok (.istore_n 3, 1) := by decide +kernel
set_option maxRecDepth 100000 in
theorem d_Store_rootsChangedSince_74 : decode prog_9_method_25_code 74 = .ok (.iload_n 3, 1) := by decide +kernel
set_option maxRecDepth 100000 in
theorem d_Store_rootsChangedSince_75 : decode prog_9_method_25_code 75 = .ok (.aload_n 1, 1) := by decide +kernel
set_option maxRecDepth 100000 in
theorem d_Store_rootsChangedSince_76 : decode prog_9_method_25_code 76 = .ok (.getfield 47, 3) := by decide +kernel
set_option maxRecDepth 100000 in
theorem d_Store_rootsChangedSince_79 : decode prog_9_method_25_code 79 = .ok (.if_icmp .ge 25, 3) := by decide +kernel
set_option maxRecDepth 100000 in
theorem d_Store_rootsChangedSince_104 : decode prog_9_method_25_code 104 = .ok (.iload_n 2, 1) := by decide +kernel
set_option maxRecDepth 100000 in
theorem d_Store_rootsChangedSince_105 : decode prog_9_method_25_code 105 = .ok (.ireturn, 1) := by decide +kernel
set_option maxRecDepth 100000 in
theorem w_1354 : (Cond.methodLink "StowTongue$Log" 23 ⟨"StowTongue$Store", "rootsChangedSince", "(LStowTongue$Store;)I"⟩ : Cond) ∈ am_tbl := am_w 1354 (by decide +kernel) (by decide +kernel)
set_option maxRecDepth 100000 in
theorem w_1357 : (Cond.code ⟨"StowTongue$Store", "rootsChangedSince", "(LStowTongue$Store;)I"⟩ prog_9_method_25_code 5 (some FieldType.int) : Cond) ∈ am_tbl := am_w 1357 rfl rfl
set_option maxRecDepth 100000 in
theorem l_Log_23 : am_L "StowTongue$Log" 23 1 m_Store_rootsChangedSince := ⟨Or.inl w_1354, w_169, w_1357, ⟨by decide, by decide⟩, by decide +kernel, by decide⟩
set_option maxRecDepth 100000 in
theorem w_1355 : (Cond.instanceMethod ⟨"StowTongue$Store", "rootsChangedSince", "(LStowTongue$Store;)I"⟩ : Cond) ∈ am_tbl := am_w 1355 (by decide +kernel) (by decide +kernel)
set_option maxRecDepth 100000 in
theorem w_1356 : (Cond.selects "StowTongue$Store" ⟨"StowTongue$Store", "rootsChangedSince", "(LStowTongue$Store;)I"⟩ ⟨"StowTongue$Store", "rootsChangedSince", "(LStowTongue$Store;)I"⟩ : Cond) ∈ am_tbl := am_w 1356 (by decide +kernel) (by decide +kernel)
set_option maxRecDepth 100000 in
theorem d_Log_commitBytes_15 : decode prog_5_method_2_code 15 = .ok (.invokevirtual 23, 3) := by decide +kernel
set_option maxRecDepth 100000 in
theorem d_Log_commitBytes_18 : decode prog_5_method_2_code 18 = .ok (.imul, 1) := by decide +kernel
set_option maxRecDepth 100000 in
theorem d_Log_commitBytes_19 : decode prog_5_method_2_code 19 = .ok (.iadd, 1) := by decide +kernel
set_option maxRecDepth 100000 in
theorem d_Log_commitBytes_20 : decode prog_5_method_2_code 20 = .ok (.iconst 3, 1) := by decide +kernel
set_option maxRecDepth 100000 in
theorem d_Log_commitBytes_21 : decode prog_5_method_2_code 21 = .ok (.iload_n 2, 1) := by decide +kernel
set_option maxRecDepth 100000 in
theorem d_Log_commitBytes_22 : decode prog_5_method_2_code 22 = .ok (.imul, 1) := by decide +kernel
set_option maxRecDepth 100000 in
theorem d_Log_commitBytes_23 : decode prog_5_method_2_code 23 = .ok (.iadd, 1) := by decide +kernel
set_option maxRecDepth 100000 in
theorem d_Log_commitBytes_24 : decode prog_5_method_2_code 24 = .ok (.ireturn, 1) := by decide +kernel
set_option maxRecDepth 100000 in
theorem w_1343 : (Cond.methodLink "StowTongue" 109 ⟨"StowTongue$Log", "commitBytes", "(LStowTongue$Store;LStowTongue$Store;I)I"⟩ : Cond) ∈ am_tbl := am_w 1343 (by decide +kernel) (by decide +kernel)
set_option maxRecDepth 100000 in
theorem w_1345 : (Cond.code ⟨"StowTongue$Log", "commitBytes", "(LStowTongue$Store;LStowTongue$Store;I)I"⟩ prog_5_method_2_code 3 (some FieldType.int) : Cond) ∈ am_tbl := am_w 1345 rfl rfl
set_option maxRecDepth 100000 in
theorem l_Stow_109 : am_L "StowTongue" 109 3 m_Log_commitBytes := ⟨Or.inl w_1343, w_158, w_1345, ⟨by decide, by decide⟩, by decide +kernel, by decide⟩
set_option maxRecDepth 100000 in
theorem w_1344 : (Cond.static ⟨"StowTongue$Log", "commitBytes", "(LStowTongue$Store;LStowTongue$Store;I)I"⟩ : Cond) ∈ am_tbl := am_w 1344 (by decide +kernel) (by decide +kernel)
set_option maxRecDepth 100000 in
theorem d_Stow_run_155 : decode prog_1_method_5_code 155 = .ok (.invokestatic 109, 3) := by decide +kernel
set_option maxRecDepth 100000 in
abbrev m_Log_append : am_M := (⟨"StowTongue$Log", "append", "(I)V"⟩, prog_5_method_6_code, 2, none)
set_option maxRecDepth 100000 in
theorem d_Log_append_0 : decode prog_5_method_6_code 0 = .ok (.aload_n 0, 1) := by decide +kernel
set_option maxRecDepth 100000 in
theorem d_Log_append_1 : decode prog_5_method_6_code 1 = .ok (.dup, 1) := by decide +kernel
set_option maxRecDepth 100000 in
theorem d_Log_append_2 : decode prog_5_method_6_code 2 = .ok (.getfield 27, 3) := by decide +kernel
set_option maxRecDepth 100000 in
theorem d_Log_append_5 : decode prog_5_method_6_code 5 = .ok (.iconst 1, 1) := by decide +kernel
set_option maxRecDepth 100000 in
theorem d_Log_append_6 : decode prog_5_method_6_code 6 = .ok (.iadd, 1) := by decide +kernel
set_option maxRecDepth 100000 in
theorem d_Log_append_7 : decode prog_5_method_6_code 7 = .ok (.putfield 27, 3) := by decide +kernel
set_option maxRecDepth 100000 in
theorem d_Log_append_10 : decode prog_5_method_6_code 10 = .ok (.aload_n 0, 1) := by decide +kernel
set_option maxRecDepth 100000 in
theorem d_Log_append_11 : decode prog_5_method_6_code 11 = .ok (.getfield 15, 3) := by decide +kernel
set_option maxRecDepth 100000 in
theorem d_Log_append_14 : decode prog_5_method_6_code 14 = .ok (.aload_n 0, 1) := by decide +kernel
set_option maxRecDepth 100000 in
theorem d_Log_append_15 : decode prog_5_method_6_code 15 = .ok (.getfield 27, 3) := by decide +kernel
set_option maxRecDepth 100000 in
theorem d_Log_append_18 : decode prog_5_method_6_code 18 = .ok (.iload_n 1, 1) := by decide +kernel
set_option maxRecDepth 100000 in
theorem d_Log_append_19 : decode prog_5_method_6_code 19 = .ok (.iastore, 1) := by decide +kernel
set_option maxRecDepth 100000 in
theorem d_Log_append_20 : decode prog_5_method_6_code 20 = .ok (.aload_n 0, 1) := by decide +kernel
set_option maxRecDepth 100000 in
theorem d_Log_append_21 : decode prog_5_method_6_code 21 = .ok (.getfield 27, 3) := by decide +kernel
set_option maxRecDepth 100000 in
theorem d_Log_append_24 : decode prog_5_method_6_code 24 = .ok (.bipush 8, 2) := by decide +kernel
set_option maxRecDepth 100000 in
theorem d_Log_append_26 : decode prog_5_method_6_code 26 = .ok (.if_icmp .le 8, 3) := by decide +kernel
set_option maxRecDepth 100000 in
theorem d_Log_append_34 : decode prog_5_method_6_code 34 = .ok (.return_, 1) := by decide +kernel
set_option maxRecDepth 100000 in
theorem w_1358 : (Cond.methodLink "StowTongue" 113 ⟨"StowTongue$Log", "append", "(I)V"⟩ : Cond) ∈ am_tbl := am_w 1358 (by decide +kernel) (by decide +kernel)
set_option maxRecDepth 100000 in
theorem w_1361 : (Cond.code ⟨"StowTongue$Log", "append", "(I)V"⟩ prog_5_method_6_code 2 none : Cond) ∈ am_tbl := am_w 1361 rfl rfl
set_option maxRecDepth 100000 in
theorem l_Stow_113 : am_L "StowTongue" 113 1 m_Log_append := ⟨Or.inl w_1358, w_158, w_1361, ⟨by decide, by decide⟩, by decide +kernel, by decide⟩
set_option maxRecDepth 100000 in
theorem w_1359 : (Cond.instanceMethod ⟨"StowTongue$Log", "append", "(I)V"⟩ : Cond) ∈ am_tbl := am_w 1359 (by decide +kernel) (by decide +kernel)
set_option maxRecDepth 100000 in
theorem w_1360 : (Cond.selects "StowTongue$Log" ⟨"StowTongue$Log", "append", "(I)V"⟩ ⟨"StowTongue$Log", "append", "(I)V"⟩ : Cond) ∈ am_tbl := am_w 1360 (by decide +kernel) (by decide +kernel)
set_option maxRecDepth 100000 in
theorem d_Stow_run_158 : decode prog_1_method_5_code 158 = .ok (.invokevirtual 113, 3) := by decide +kernel
set_option maxRecDepth 100000 in
theorem d_Stow_run_161 : decode prog_1_method_5_code 161 = .ok (.iload 4, 2) := by decide +kernel
set_option maxRecDepth 100000 in
theorem d_Stow_run_163 : decode prog_1_method_5_code 163 = .ok (.ireturn, 1) := by decide +kernel
set_option maxRecDepth 100000 in
theorem d_Mod_run_14 : decode prog_13_method_42_code 14 = .ok (.aload_n 0, 1) := by decide +kernel
set_option maxRecDepth 100000 in
abbrev m_Mod_read : am_M := (⟨"StowTongueModel", "read", "()Z"⟩, prog_13_method_16_code, 1, (some FieldType.boolean))
set_option maxRecDepth 100000 in
theorem d_Mod_read_0 : decode prog_13_method_16_code 0 = .ok (.aload_n 0, 1) := by decide +kernel
set_option maxRecDepth 100000 in
theorem d_Mod_read_1 : decode prog_13_method_16_code 1 = .ok (.aload_n 0, 1) := by decide +kernel
set_option maxRecDepth 100000 in
theorem d_Mod_read_2 : decode prog_13_method_16_code 2 = .ok (.getfield 134, 3) := by decide +kernel
set_option maxRecDepth 100000 in
theorem w_1626 : (Cond.fieldLink "StowTongueModel" 29 "StowTongueModel" "size" "I" : Cond) ∈ am_tbl := am_w 1626 (by decide +kernel) (by decide +kernel)
set_option maxRecDepth 100000 in
theorem f_Mod_29 : am_F "StowTongueModel" 29 14 4 := ⟨_, rfl, cl_14, by decide, Or.inl w_1626⟩
set_option maxRecDepth 100000 in
theorem d_Mod_read_5 : decode prog_13_method_16_code 5 = .ok (.putfield 29, 3) := by decide +kernel
set_option maxRecDepth 100000 in
theorem d_Mod_read_8 : decode prog_13_method_16_code 8 = .ok (.aload_n 0, 1) := by decide +kernel
set_option maxRecDepth 100000 in
theorem d_Mod_read_9 : decode prog_13_method_16_code 9 = .ok (.iconst 0, 1) := by decide +kernel
set_option maxRecDepth 100000 in
theorem d_Mod_read_10 : decode prog_13_method_16_code 10 = .ok (.putfield 134, 3) := by decide +kernel
set_option maxRecDepth 100000 in
theorem d_Mod_read_13 : decode prog_13_method_16_code 13 = .ok (.aload_n 0, 1) := by decide +kernel
set_option maxRecDepth 100000 in
theorem d_Mod_read_14 : decode prog_13_method_16_code 14 = .ok (.iconst 0, 1) := by decide +kernel
set_option maxRecDepth 100000 in
theorem w_1627 : (Cond.fieldLink "StowTongueModel" 3 "StowTongueModel" "next" "I" : Cond) ∈ am_tbl := am_w 1627 (by decide +kernel) (by decide +kernel)
set_option maxRecDepth 100000 in
theorem f_Mod_3 : am_F "StowTongueModel" 3 14 5 := ⟨_, rfl, cl_14, by decide, Or.inl w_1627⟩
set_option maxRecDepth 100000 in
theorem d_Mod_read_15 : decode prog_13_method_16_code 15 = .ok (.putfield 3, 3) := by decide +kernel
set_option maxRecDepth 100000 in
theorem d_Mod_read_18 : decode prog_13_method_16_code 18 = .ok (.aload_n 0, 1) := by decide +kernel
set_option maxRecDepth 100000 in
theorem d_Mod_read_19 : decode prog_13_method_16_code 19 = .ok (.iconst (-1), 1) := by decide +kernel
set_option maxRecDepth 100000 in
theorem w_1631 : (Cond.fieldLink "StowTongueModel" 77 "StowTongueModel" "fault" "I" : Cond) ∈ am_tbl := am_w 1631 (by decide +kernel) (by decide +kernel)
set_option maxRecDepth 100000 in
theorem f_Mod_77 : am_F "StowTongueModel" 77 14 9 := ⟨_, rfl, cl_14, by decide, Or.inl w_1631⟩
set_option maxRecDepth 100000 in
theorem d_Mod_read_20 : decode prog_13_method_16_code 20 = .ok (.putfield 77, 3) := by decide +kernel
set_option maxRecDepth 100000 in
theorem d_Mod_read_23 : decode prog_13_method_16_code 23 = .ok (.aload_n 0, 1) := by decide +kernel
set_option maxRecDepth 100000 in
theorem d_Mod_read_24 : decode prog_13_method_16_code 24 = .ok (.iconst 0, 1) := by decide +kernel
set_option maxRecDepth 100000 in
theorem w_1642 : (Cond.fieldLink "StowTongueModel" 137 "StowTongueModel" "told" "I" : Cond) ∈ am_tbl := am_w 1642 (by decide +kernel) (by decide +kernel)
set_option maxRecDepth 100000 in
theorem f_Mod_137 : am_F "StowTongueModel" 137 14 20 := ⟨_, rfl, cl_14, by decide, Or.inl w_1642⟩
set_option maxRecDepth 100000 in
theorem d_Mod_read_25 : decode prog_13_method_16_code 25 = .ok (.putfield 137, 3) := by decide +kernel
set_option maxRecDepth 100000 in
theorem d_Mod_read_28 : decode prog_13_method_16_code 28 = .ok (.aload_n 0, 1) := by decide +kernel
set_option maxRecDepth 100000 in
theorem d_Mod_read_29 : decode prog_13_method_16_code 29 = .ok (.iconst 0, 1) := by decide +kernel
set_option maxRecDepth 100000 in
theorem w_1651 : (Cond.fieldLink "StowTongueModel" 140 "StowTongueModel" "piled" "I" : Cond) ∈ am_tbl := am_w 1651 (by decide +kernel) (by decide +kernel)
set_option maxRecDepth 100000 in
theorem f_Mod_140 : am_F "StowTongueModel" 140 14 29 := ⟨_, rfl, cl_14, by decide, Or.inl w_1651⟩
set_option maxRecDepth 100000 in
theorem d_Mod_read_30 : decode prog_13_method_16_code 30 = .ok (.putfield 140, 3) := by decide +kernel
set_option maxRecDepth 100000 in
theorem d_Mod_read_33 : decode prog_13_method_16_code 33 = .ok (.aload_n 0, 1) := by decide +kernel
set_option maxRecDepth 100000 in
theorem d_Mod_read_34 : decode prog_13_method_16_code 34 = .ok (.getfield 143, 3) := by decide +kernel
set_option maxRecDepth 100000 in
abbrev m_Code_clear : am_M := (⟨"StowTongueModel$Code", "clear", "()V"⟩, prog_14_method_2_code, 1, none)
set_option maxRecDepth 100000 in
theorem d_Code_clear_0 : decode prog_14_method_2_code 0 = .ok (.aload_n 0, 1) := by decide +kernel
set_option maxRecDepth 100000 in
theorem d_Code_clear_1 : decode prog_14_method_2_code 1 = .ok (.iconst 0, 1) := by decide +kernel
set_option maxRecDepth 100000 in
theorem w_1525 : (Cond.fieldLink "StowTongueModel$Code" 22 "StowTongueModel$Code" "many" "I" : Cond) ∈ am_tbl := am_w 1525 (by decide +kernel) (by decide +kernel)
set_option maxRecDepth 100000 in
theorem f_Code_22 : am_F "StowTongueModel$Code" 22 12 2 := ⟨_, rfl, cl_12, by decide, Or.inl w_1525⟩
set_option maxRecDepth 100000 in
theorem d_Code_clear_2 : decode prog_14_method_2_code 2 = .ok (.putfield 22, 3) := by decide +kernel
set_option maxRecDepth 100000 in
theorem d_Code_clear_5 : decode prog_14_method_2_code 5 = .ok (.aload_n 0, 1) := by decide +kernel
set_option maxRecDepth 100000 in
theorem d_Code_clear_6 : decode prog_14_method_2_code 6 = .ok (.iconst 0, 1) := by decide +kernel
set_option maxRecDepth 100000 in
theorem w_1527 : (Cond.fieldLink "StowTongueModel$Code" 26 "StowTongueModel$Code" "values" "I" : Cond) ∈ am_tbl := am_w 1527 (by decide +kernel) (by decide +kernel)
set_option maxRecDepth 100000 in
theorem f_Code_26 : am_F "StowTongueModel$Code" 26 12 3 := ⟨_, rfl, cl_12, by decide, Or.inl w_1527⟩
set_option maxRecDepth 100000 in
theorem d_Code_clear_7 : decode prog_14_method_2_code 7 = .ok (.putfield 26, 3) := by decide +kernel
set_option maxRecDepth 100000 in
theorem d_Code_clear_10 : decode prog_14_method_2_code 10 = .ok (.aload_n 0, 1) := by decide +kernel
set_option maxRecDepth 100000 in
theorem d_Code_clear_11 : decode prog_14_method_2_code 11 = .ok (.iconst 0, 1) := by decide +kernel
set_option maxRecDepth 100000 in
theorem w_1529 : (Cond.fieldLink "StowTongueModel$Code" 29 "StowTongueModel$Code" "tokens" "I" : Cond) ∈ am_tbl := am_w 1529 (by decide +kernel) (by decide +kernel)
set_option maxRecDepth 100000 in
theorem f_Code_29 : am_F "StowTongueModel$Code" 29 12 4 := ⟨_, rfl, cl_12, by decide, Or.inl w_1529⟩
set_option maxRecDepth 100000 in
theorem d_Code_clear_12 : decode prog_14_method_2_code 12 = .ok (.putfield 29, 3) := by decide +kernel
set_option maxRecDepth 100000 in
theorem d_Code_clear_15 : decode prog_14_method_2_code 15 = .ok (.aload_n 0, 1) := by decide +kernel
set_option maxRecDepth 100000 in
theorem d_Code_clear_16 : decode prog_14_method_2_code 16 = .ok (.iconst 0, 1) := by decide +kernel
set_option maxRecDepth 100000 in
theorem w_1531 : (Cond.fieldLink "StowTongueModel$Code" 32 "StowTongueModel$Code" "parameters" "I" : Cond) ∈ am_tbl := am_w 1531 (by decide +kernel) (by decide +kernel)
set_option maxRecDepth 100000 in
theorem f_Code_32 : am_F "StowTongueModel$Code" 32 12 5 := ⟨_, rfl, cl_12, by decide, Or.inl w_1531⟩
set_option maxRecDepth 100000 in
theorem d_Code_clear_17 : decode prog_14_method_2_code 17 = .ok (.putfield 32, 3) := by decide +kernel
set_option maxRecDepth 100000 in
theorem d_Code_clear_20 : decode prog_14_method_2_code 20 = .ok (.aload_n 0, 1) := by decide +kernel
set_option maxRecDepth 100000 in
theorem d_Code_clear_21 : decode prog_14_method_2_code 21 = .ok (.iconst 0, 1) := by decide +kernel
set_option maxRecDepth 100000 in
theorem w_1533 : (Cond.fieldLink "StowTongueModel$Code" 35 "StowTongueModel$Code" "locals" "I" : Cond) ∈ am_tbl := am_w 1533 (by decide +kernel) (by decide +kernel)
set_option maxRecDepth 100000 in
theorem f_Code_35 : am_F "StowTongueModel$Code" 35 12 6 := ⟨_, rfl, cl_12, by decide, Or.inl w_1533⟩
set_option maxRecDepth 100000 in
theorem d_Code_clear_22 : decode prog_14_method_2_code 22 = .ok (.putfield 35, 3) := by decide +kernel
set_option maxRecDepth 100000 in
theorem d_Code_clear_25 : decode prog_14_method_2_code 25 = .ok (.return_, 1) := by decide +kernel
set_option maxRecDepth 100000 in
theorem w_1802 : (Cond.methodLink "StowTongueModel" 146 ⟨"StowTongueModel$Code", "clear", "()V"⟩ : Cond) ∈ am_tbl := am_w 1802 (by decide +kernel) (by decide +kernel)
set_option maxRecDepth 100000 in
theorem w_1805 : (Cond.code ⟨"StowTongueModel$Code", "clear", "()V"⟩ prog_14_method_2_code 1 none : Cond) ∈ am_tbl := am_w 1805 rfl rfl
set_option maxRecDepth 100000 in
theorem l_Mod_146 : am_L "StowTongueModel" 146 0 m_Code_clear := ⟨Or.inl w_1802, w_161, w_1805, ⟨by decide, by decide⟩, by decide +kernel, by decide⟩
set_option maxRecDepth 100000 in
theorem w_1803 : (Cond.instanceMethod ⟨"StowTongueModel$Code", "clear", "()V"⟩ : Cond) ∈ am_tbl := am_w 1803 (by decide +kernel) (by decide +kernel)
set_option maxRecDepth 100000 in
theorem w_1804 : (Cond.selects "StowTongueModel$Code" ⟨"StowTongueModel$Code", "clear", "()V"⟩ ⟨"StowTongueModel$Code", "clear", "()V"⟩ : Cond) ∈ am_tbl := am_w 1804 (by decide +kernel) (by decide +kernel)
set_option maxRecDepth 100000 in
theorem d_Mod_read_37 : decode prog_13_method_16_code 37 = .ok (.invokevirtual 146, 3) := by decide +kernel
set_option maxRecDepth 100000 in
theorem d_Mod_read_40 : decode prog_13_method_16_code 40 = .ok (.aload_n 0, 1) := by decide +kernel
set_option maxRecDepth 100000 in
theorem d_Mod_read_41 : decode prog_13_method_16_code 41 = .ok (.getfield 149, 3) := by decide +kernel
set_option maxRecDepth 100000 in
theorem d_Mod_read_44 : decode prog_13_method_16_code 44 = .ok (.invokevirtual 146, 3) := by decide +kernel
set_option maxRecDepth 100000 in
theorem d_Mod_read_47 : decode prog_13_method_16_code 47 = .ok (.aload_n 0, 1) := by decide +kernel
set_option maxRecDepth 100000 in
theorem d_Mod_read_48 : decode prog_13_method_16_code 48 = .ok (.aload_n 0, 1) := by decide +kernel
set_option maxRecDepth 100000 in
theorem d_Mod_read_49 : decode prog_13_method_16_code 49 = .ok (.getfield 143, 3) := by decide +kernel
set_option maxRecDepth 100000 in
theorem w_1644 : (Cond.fieldLink "StowTongueModel" 91 "StowTongueModel" "c" "LStowTongueModel$Code;" : Cond) ∈ am_tbl := am_w 1644 (by decide +kernel) (by decide +kernel)
set_option maxRecDepth 100000 in
theorem f_Mod_91 : am_F "StowTongueModel" 91 14 22 := ⟨_, rfl, cl_14, by decide, Or.inl w_1644⟩
set_option maxRecDepth 100000 in
theorem d_Mod_read_52 : decode prog_13_method_16_code 52 = .ok (.putfield 91, 3) := by decide +kernel
set_option maxRecDepth 100000 in
theorem d_Mod_read_55 : decode prog_13_method_16_code 55 = .ok (.aload_n 0, 1) := by decide +kernel
set_option maxRecDepth 100000 in
theorem d_Mod_read_56 : decode prog_13_method_16_code 56 = .ok (.iconst 0, 1) := by decide +kernel
set_option maxRecDepth 100000 in
theorem w_1646 : (Cond.fieldLink "StowTongueModel" 123 "StowTongueModel" "locals" "I" : Cond) ∈ am_tbl := am_w 1646 (by decide +kernel) (by decide +kernel)
set_option maxRecDepth 100000 in
theorem f_Mod_123 : am_F "StowTongueModel" 123 14 24 := ⟨_, rfl, cl_14, by decide, Or.inl w_1646⟩
set_option maxRecDepth 100000 in
theorem d_Mod_read_57 : decode prog_13_method_16_code 57 = .ok (.putfield 123, 3) := by decide +kernel
set_option maxRecDepth 100000 in
theorem d_Mod_read_60 : decode prog_13_method_16_code 60 = .ok (.aload_n 0, 1) := by decide +kernel
set_option maxRecDepth 100000 in
abbrev m_Mod_step : am_M := (⟨"StowTongueModel", "step", "()V"⟩, prog_13_method_5_code, 5, none)
set_option maxRecDepth 100000 in
theorem d_Mod_step_0 : decode prog_13_method_5_code 0 = .ok (.aload_n 0, 1) := by decide +kernel
set_option maxRecDepth 100000 in
theorem d_Mod_step_1 : decode prog_13_method_5_code 1 = .ok (.dup, 1) := by decide +kernel
set_option maxRecDepth 100000 in
theorem w_1632 : (Cond.fieldLink "StowTongueModel" 26 "StowTongueModel" "passed" "I" : Cond) ∈ am_tbl := am_w 1632 (by decide +kernel) (by decide +kernel)
set_option maxRecDepth 100000 in
theorem f_Mod_26 : am_F "StowTongueModel" 26 14 10 := ⟨_, rfl, cl_14, by decide, Or.inl w_1632⟩
set_option maxRecDepth 100000 in
theorem d_Mod_step_2 : decode prog_13_method_5_code 2 = .ok (.getfield 26, 3) := by decide +kernel
set_option maxRecDepth 100000 in
theorem d_Mod_step_5 : decode prog_13_method_5_code 5 = .ok (.iconst 1, 1) := by decide +kernel
set_option maxRecDepth 100000 in
theorem d_Mod_step_6 : decode prog_13_method_5_code 6 = .ok (.iadd, 1) := by decide +kernel
set_option maxRecDepth 100000 in
theorem d_Mod_step_7 : decode prog_13_method_5_code 7 = .ok (.putfield 26, 3) := by decide +kernel
set_option maxRecDepth 100000 in
theorem d_Mod_step_10 : decode prog_13_method_5_code 10 = .ok (.aload_n 0, 1) := by decide +kernel
set_option maxRecDepth 100000 in
theorem d_Mod_step_11 : decode prog_13_method_5_code 11 = .ok (.getfield 3, 3) := by decide +kernel
set_option maxRecDepth 100000 in
theorem d_Mod_step_14 : decode prog_13_method_5_code 14 = .ok (.aload_n 0, 1) := by decide +kernel
set_option maxRecDepth 100000 in
theorem d_Mod_step_15 : decode prog_13_method_5_code 15 = .ok (.getfield 29, 3) := by decide +kernel
set_option maxRecDepth 100000 in
theorem d_Mod_step_18 : decode prog_13_method_5_code 18 = .ok (.if_icmp .ge 44, 3) := by decide +kernel
