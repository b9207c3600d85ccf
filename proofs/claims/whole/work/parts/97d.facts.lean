abbrev m_Pars_function : am_M := (⟨"StowTongue$Parser", "function", "()V"⟩, prog_8_method_10_code, 5, none)
theorem d_Pars_function_0 : decode prog_8_method_10_code 0 = .ok (.aload_n 0, 1) := by decide +kernel
theorem d_Pars_function_1 : decode prog_8_method_10_code 1 = .ok (.iconst 5, 1) := by decide +kernel
theorem d_Pars_function_2 : decode prog_8_method_10_code 2 = .ok (.invokevirtual 106, 3) := by decide +kernel
theorem d_Pars_function_5 : decode prog_8_method_10_code 5 = .ok (.aload_n 0, 1) := by decide +kernel
theorem d_Pars_function_6 : decode prog_8_method_10_code 6 = .ok (.getfield 25, 3) := by decide +kernel
theorem d_Pars_function_9 : decode prog_8_method_10_code 9 = .ok (.invokevirtual 58, 3) := by decide +kernel
theorem w_668 : (Cond.methodLink "StowTongue$Parser" 58 ⟨"StowTongue$Draft", "clear", "()V"⟩ : Cond) ∈ am_tbl := am_w 668 (by decide +kernel) (by decide +kernel)
set_option maxRecDepth 100000 in
theorem w_671 : (Cond.code ⟨"StowTongue$Draft", "clear", "()V"⟩ prog_3_method_2_code 1 none : Cond) ∈ am_tbl := am_w 671 rfl rfl
theorem l_Pars_58 : am_L "StowTongue$Parser" 58 0 m_Draft_clear := ⟨Or.inl w_668, w_152, w_671, ⟨by decide, by decide⟩, by decide +kernel, by decide⟩
theorem w_669 : (Cond.instanceMethod ⟨"StowTongue$Draft", "clear", "()V"⟩ : Cond) ∈ am_tbl := am_w 669 (by decide +kernel) (by decide +kernel)
theorem w_670 : (Cond.selects "StowTongue$Draft" ⟨"StowTongue$Draft", "clear", "()V"⟩ ⟨"StowTongue$Draft", "clear", "()V"⟩ : Cond) ∈ am_tbl := am_w 670 (by decide +kernel) (by decide +kernel)
theorem d_Pars_function_12 : decode prog_8_method_10_code 12 = .ok (.aload_n 0, 1) := by decide +kernel
theorem d_Pars_function_13 : decode prog_8_method_10_code 13 = .ok (.aload_n 0, 1) := by decide +kernel
theorem d_Pars_function_14 : decode prog_8_method_10_code 14 = .ok (.getfield 25, 3) := by decide +kernel
theorem d_Pars_function_17 : decode prog_8_method_10_code 17 = .ok (.putfield 28, 3) := by decide +kernel
theorem d_Pars_function_20 : decode prog_8_method_10_code 20 = .ok (.aload_n 0, 1) := by decide +kernel
theorem d_Pars_function_21 : decode prog_8_method_10_code 21 = .ok (.invokevirtual 109, 3) := by decide +kernel
theorem d_Pars_function_24 : decode prog_8_method_10_code 24 = .ok (.lstore_n 1, 1) := by decide +kernel
theorem d_Pars_function_25 : decode prog_8_method_10_code 25 = .ok (.aload_n 0, 1) := by decide +kernel
theorem d_Pars_function_26 : decode prog_8_method_10_code 26 = .ok (.invokevirtual 112, 3) := by decide +kernel
theorem w_705 : (Cond.methodLink "StowTongue$Parser" 112 ⟨"StowTongue$Parser", "names", "()I"⟩ : Cond) ∈ am_tbl := am_w 705 (by decide +kernel) (by decide +kernel)
set_option maxRecDepth 100000 in
theorem w_708 : (Cond.code ⟨"StowTongue$Parser", "names", "()I"⟩ prog_8_method_11_code 2 (some FieldType.int) : Cond) ∈ am_tbl := am_w 708 rfl rfl
theorem l_Pars_112 : am_L "StowTongue$Parser" 112 0 m_Pars_names := ⟨Or.inl w_705, w_145, w_708, ⟨by decide, by decide⟩, by decide +kernel, by decide⟩
theorem w_707 : (Cond.instanceMethod ⟨"StowTongue$Parser", "names", "()I"⟩ : Cond) ∈ am_tbl := am_w 707 (by decide +kernel) (by decide +kernel)
theorem w_12 : (Cond.selects "StowTongue$Parser" ⟨"StowTongue$Parser", "names", "()I"⟩ ⟨"StowTongue$Parser", "names", "()I"⟩ : Cond) ∈ am_tbl := am_w 12 (by decide +kernel) (by decide +kernel)
theorem d_Pars_function_29 : decode prog_8_method_10_code 29 = .ok (.istore_n 3, 1) := by decide +kernel
theorem d_Pars_function_30 : decode prog_8_method_10_code 30 = .ok (.aload_n 0, 1) := by decide +kernel
theorem d_Pars_function_31 : decode prog_8_method_10_code 31 = .ok (.getfield 12, 3) := by decide +kernel
theorem d_Pars_function_34 : decode prog_8_method_10_code 34 = .ok (.invokevirtual 115, 3) := by decide +kernel
theorem w_736 : (Cond.methodLink "StowTongue$Parser" 115 ⟨"StowTongue$Lexer", "taken", "()I"⟩ : Cond) ∈ am_tbl := am_w 736 (by decide +kernel) (by decide +kernel)
set_option maxRecDepth 100000 in
theorem w_739 : (Cond.code ⟨"StowTongue$Lexer", "taken", "()I"⟩ prog_4_method_7_code 1 (some FieldType.int) : Cond) ∈ am_tbl := am_w 739 rfl rfl
theorem l_Pars_115 : am_L "StowTongue$Parser" 115 0 m_Lexer_taken := ⟨Or.inl w_736, w_146, w_739, ⟨by decide, by decide⟩, by decide +kernel, by decide⟩
theorem w_737 : (Cond.instanceMethod ⟨"StowTongue$Lexer", "taken", "()I"⟩ : Cond) ∈ am_tbl := am_w 737 (by decide +kernel) (by decide +kernel)
theorem w_738 : (Cond.selects "StowTongue$Lexer" ⟨"StowTongue$Lexer", "taken", "()I"⟩ ⟨"StowTongue$Lexer", "taken", "()I"⟩ : Cond) ∈ am_tbl := am_w 738 (by decide +kernel) (by decide +kernel)
theorem d_Pars_function_37 : decode prog_8_method_10_code 37 = .ok (.istore 4, 2) := by decide +kernel
theorem d_Pars_function_39 : decode prog_8_method_10_code 39 = .ok (.aload_n 0, 1) := by decide +kernel
theorem d_Pars_function_40 : decode prog_8_method_10_code 40 = .ok (.iconst 0, 1) := by decide +kernel
theorem d_Pars_function_41 : decode prog_8_method_10_code 41 = .ok (.invokevirtual 118, 3) := by decide +kernel
theorem d_Pars_function_44 : decode prog_8_method_10_code 44 = .ok (.aload_n 0, 1) := by decide +kernel
theorem d_Pars_function_45 : decode prog_8_method_10_code 45 = .ok (.getfield 51, 3) := by decide +kernel
theorem d_Pars_function_48 : decode prog_8_method_10_code 48 = .ok (.ifCond .ge 30, 3) := by decide +kernel
theorem d_Pars_function_78 : decode prog_8_method_10_code 78 = .ok (.aload_n 0, 1) := by decide +kernel
theorem d_Pars_function_79 : decode prog_8_method_10_code 79 = .ok (.aload_n 0, 1) := by decide +kernel
theorem d_Pars_function_80 : decode prog_8_method_10_code 80 = .ok (.getfield 21, 3) := by decide +kernel
theorem d_Pars_function_83 : decode prog_8_method_10_code 83 = .ok (.putfield 28, 3) := by decide +kernel
theorem d_Pars_function_86 : decode prog_8_method_10_code 86 = .ok (.return_, 1) := by decide +kernel
theorem d_Pars_function_51 : decode prog_8_method_10_code 51 = .ok (.aload_n 0, 1) := by decide +kernel
theorem d_Pars_function_52 : decode prog_8_method_10_code 52 = .ok (.getfield 34, 3) := by decide +kernel
theorem d_Pars_function_55 : decode prog_8_method_10_code 55 = .ok (.aload_n 0, 1) := by decide +kernel
theorem d_Pars_function_56 : decode prog_8_method_10_code 56 = .ok (.getfield 25, 3) := by decide +kernel
theorem d_Pars_function_59 : decode prog_8_method_10_code 59 = .ok (.lload_n 1, 1) := by decide +kernel
theorem d_Pars_function_60 : decode prog_8_method_10_code 60 = .ok (.iload_n 3, 1) := by decide +kernel
theorem d_Pars_function_61 : decode prog_8_method_10_code 61 = .ok (.aload_n 0, 1) := by decide +kernel
theorem d_Pars_function_62 : decode prog_8_method_10_code 62 = .ok (.getfield 12, 3) := by decide +kernel
theorem d_Pars_function_65 : decode prog_8_method_10_code 65 = .ok (.invokevirtual 115, 3) := by decide +kernel
theorem d_Pars_function_68 : decode prog_8_method_10_code 68 = .ok (.iload 4, 2) := by decide +kernel
theorem d_Pars_function_70 : decode prog_8_method_10_code 70 = .ok (.isub, 1) := by decide +kernel
theorem d_Pars_function_71 : decode prog_8_method_10_code 71 = .ok (.invokevirtual 70, 3) := by decide +kernel
theorem w_884 : (Cond.methodLink "StowTongue$Parser" 70 ⟨"StowTongue$Draft", "finish", "(JII)LStowTongue$Unit;"⟩ : Cond) ∈ am_tbl := am_w 884 (by decide +kernel) (by decide +kernel)
set_option maxRecDepth 100000 in
theorem w_887 : (Cond.code ⟨"StowTongue$Draft", "finish", "(JII)LStowTongue$Unit;"⟩ prog_3_method_12_code 5 (some (FieldType.object "StowTongue$Unit")) : Cond) ∈ am_tbl := am_w 887 rfl rfl
theorem l_Pars_70 : am_L "StowTongue$Parser" 70 3 m_Draft_finish := ⟨Or.inl w_884, w_152, w_887, ⟨by decide, by decide⟩, by decide +kernel, by decide⟩
theorem w_885 : (Cond.instanceMethod ⟨"StowTongue$Draft", "finish", "(JII)LStowTongue$Unit;"⟩ : Cond) ∈ am_tbl := am_w 885 (by decide +kernel) (by decide +kernel)
theorem w_886 : (Cond.selects "StowTongue$Draft" ⟨"StowTongue$Draft", "finish", "(JII)LStowTongue$Unit;"⟩ ⟨"StowTongue$Draft", "finish", "(JII)LStowTongue$Unit;"⟩ : Cond) ∈ am_tbl := am_w 886 (by decide +kernel) (by decide +kernel)
theorem d_Pars_function_74 : decode prog_8_method_10_code 74 = .ok (.invokevirtual 121, 3) := by decide +kernel
theorem w_891 : (Cond.methodLink "StowTongue$Parser" 121 ⟨"java/util/ArrayList", "add", "(Ljava/lang/Object;)Z"⟩ : Cond) ∈ am_tbl := am_w 891 (by decide +kernel) (by decide +kernel)
set_option maxRecDepth 100000 in
theorem w_894 : (Cond.code ⟨"java/util/ArrayList", "add", "(Ljava/lang/Object;)Z"⟩ prog_28_method_25_code 2 (some FieldType.boolean) : Cond) ∈ am_tbl := am_w 894 rfl rfl
theorem l_Pars_121 : am_L "StowTongue$Parser" 121 1 m_AL_add_LObject := ⟨Or.inl w_891, w_155, w_894, ⟨by decide, by decide⟩, by decide +kernel, by decide⟩
theorem w_892 : (Cond.instanceMethod ⟨"java/util/ArrayList", "add", "(Ljava/lang/Object;)Z"⟩ : Cond) ∈ am_tbl := am_w 892 (by decide +kernel) (by decide +kernel)
theorem w_893 : (Cond.selects "java/util/ArrayList" ⟨"java/util/ArrayList", "add", "(Ljava/lang/Object;)Z"⟩ ⟨"java/util/ArrayList", "add", "(Ljava/lang/Object;)Z"⟩ : Cond) ∈ am_tbl := am_w 893 (by decide +kernel) (by decide +kernel)
theorem d_Pars_function_77 : decode prog_8_method_10_code 77 = .ok (.pop, 1) := by decide +kernel
abbrev m_Pars_read : am_M := (⟨"StowTongue$Parser", "read", "([BI)I"⟩, prog_8_method_2_code, 4, (some FieldType.int))
theorem d_Pars_read_0 : decode prog_8_method_2_code 0 = .ok (.aload_n 0, 1) := by decide +kernel
theorem d_Pars_read_1 : decode prog_8_method_2_code 1 = .ok (.getfield 12, 3) := by decide +kernel
theorem d_Pars_read_4 : decode prog_8_method_2_code 4 = .ok (.aload_n 1, 1) := by decide +kernel
theorem d_Pars_read_5 : decode prog_8_method_2_code 5 = .ok (.iload_n 2, 1) := by decide +kernel
theorem d_Pars_read_6 : decode prog_8_method_2_code 6 = .ok (.invokevirtual 47, 3) := by decide +kernel
theorem w_546 : (Cond.methodLink "StowTongue$Parser" 47 ⟨"StowTongue$Lexer", "begin", "([BI)V"⟩ : Cond) ∈ am_tbl := am_w 546 (by decide +kernel) (by decide +kernel)
set_option maxRecDepth 100000 in
theorem w_549 : (Cond.code ⟨"StowTongue$Lexer", "begin", "([BI)V"⟩ prog_4_method_2_code 3 none : Cond) ∈ am_tbl := am_w 549 rfl rfl
theorem l_Pars_47 : am_L "StowTongue$Parser" 47 2 m_Lexer_begin := ⟨Or.inl w_546, w_146, w_549, ⟨by decide, by decide⟩, by decide +kernel, by decide⟩
theorem w_547 : (Cond.instanceMethod ⟨"StowTongue$Lexer", "begin", "([BI)V"⟩ : Cond) ∈ am_tbl := am_w 547 (by decide +kernel) (by decide +kernel)
theorem w_548 : (Cond.selects "StowTongue$Lexer" ⟨"StowTongue$Lexer", "begin", "([BI)V"⟩ ⟨"StowTongue$Lexer", "begin", "([BI)V"⟩ : Cond) ∈ am_tbl := am_w 548 (by decide +kernel) (by decide +kernel)
theorem d_Pars_read_9 : decode prog_8_method_2_code 9 = .ok (.aload_n 0, 1) := by decide +kernel
theorem d_Pars_read_10 : decode prog_8_method_2_code 10 = .ok (.iconst (-1), 1) := by decide +kernel
theorem d_Pars_read_11 : decode prog_8_method_2_code 11 = .ok (.putfield 51, 3) := by decide +kernel
theorem d_Pars_read_14 : decode prog_8_method_2_code 14 = .ok (.aload_n 0, 1) := by decide +kernel
theorem d_Pars_read_15 : decode prog_8_method_2_code 15 = .ok (.getfield 34, 3) := by decide +kernel
theorem d_Pars_read_18 : decode prog_8_method_2_code 18 = .ok (.invokevirtual 55, 3) := by decide +kernel
theorem w_664 : (Cond.methodLink "StowTongue$Parser" 55 ⟨"java/util/ArrayList", "clear", "()V"⟩ : Cond) ∈ am_tbl := am_w 664 (by decide +kernel) (by decide +kernel)
set_option maxRecDepth 100000 in
theorem w_667 : (Cond.code ⟨"java/util/ArrayList", "clear", "()V"⟩ prog_28_method_40_code 4 none : Cond) ∈ am_tbl := am_w 667 rfl rfl
theorem l_Pars_55 : am_L "StowTongue$Parser" 55 0 m_AL_clear := ⟨Or.inl w_664, w_155, w_667, ⟨by decide, by decide⟩, by decide +kernel, by decide⟩
theorem w_665 : (Cond.instanceMethod ⟨"java/util/ArrayList", "clear", "()V"⟩ : Cond) ∈ am_tbl := am_w 665 (by decide +kernel) (by decide +kernel)
theorem w_666 : (Cond.selects "java/util/ArrayList" ⟨"java/util/ArrayList", "clear", "()V"⟩ ⟨"java/util/ArrayList", "clear", "()V"⟩ : Cond) ∈ am_tbl := am_w 666 (by decide +kernel) (by decide +kernel)
theorem d_Pars_read_21 : decode prog_8_method_2_code 21 = .ok (.aload_n 0, 1) := by decide +kernel
theorem d_Pars_read_22 : decode prog_8_method_2_code 22 = .ok (.getfield 21, 3) := by decide +kernel
theorem d_Pars_read_25 : decode prog_8_method_2_code 25 = .ok (.invokevirtual 58, 3) := by decide +kernel
theorem d_Pars_read_28 : decode prog_8_method_2_code 28 = .ok (.aload_n 0, 1) := by decide +kernel
theorem d_Pars_read_29 : decode prog_8_method_2_code 29 = .ok (.aload_n 0, 1) := by decide +kernel
theorem d_Pars_read_30 : decode prog_8_method_2_code 30 = .ok (.getfield 21, 3) := by decide +kernel
theorem d_Pars_read_33 : decode prog_8_method_2_code 33 = .ok (.putfield 28, 3) := by decide +kernel
theorem d_Pars_read_36 : decode prog_8_method_2_code 36 = .ok (.iconst 0, 1) := by decide +kernel
theorem d_Pars_read_37 : decode prog_8_method_2_code 37 = .ok (.istore_n 3, 1) := by decide +kernel
theorem d_Pars_read_38 : decode prog_8_method_2_code 38 = .ok (.iload_n 3, 1) := by decide +kernel
theorem d_Pars_read_39 : decode prog_8_method_2_code 39 = .ok (.sipush 1500, 3) := by decide +kernel
theorem d_Pars_read_42 : decode prog_8_method_2_code 42 = .ok (.if_icmp .gt 49, 3) := by decide +kernel
theorem d_Pars_read_91 : decode prog_8_method_2_code 91 = .ok (.aload_n 0, 1) := by decide +kernel
theorem d_Pars_read_92 : decode prog_8_method_2_code 92 = .ok (.getfield 51, 3) := by decide +kernel
theorem d_Pars_read_95 : decode prog_8_method_2_code 95 = .ok (.ifCond .ge 17, 3) := by decide +kernel
theorem d_Pars_read_112 : decode prog_8_method_2_code 112 = .ok (.aload_n 0, 1) := by decide +kernel
theorem d_Pars_read_113 : decode prog_8_method_2_code 113 = .ok (.getfield 51, 3) := by decide +kernel
theorem d_Pars_read_116 : decode prog_8_method_2_code 116 = .ok (.ireturn, 1) := by decide +kernel
theorem d_Pars_read_98 : decode prog_8_method_2_code 98 = .ok (.aload_n 0, 1) := by decide +kernel
theorem d_Pars_read_99 : decode prog_8_method_2_code 99 = .ok (.aload_n 0, 1) := by decide +kernel
theorem d_Pars_read_100 : decode prog_8_method_2_code 100 = .ok (.getfield 21, 3) := by decide +kernel
theorem d_Pars_read_103 : decode prog_8_method_2_code 103 = .ok (.lconst 0, 1) := by decide +kernel
theorem d_Pars_read_104 : decode prog_8_method_2_code 104 = .ok (.iconst 0, 1) := by decide +kernel
theorem d_Pars_read_105 : decode prog_8_method_2_code 105 = .ok (.iconst 0, 1) := by decide +kernel
theorem d_Pars_read_106 : decode prog_8_method_2_code 106 = .ok (.invokevirtual 70, 3) := by decide +kernel
theorem d_Pars_read_109 : decode prog_8_method_2_code 109 = .ok (.putfield 43, 3) := by decide +kernel
theorem d_Pars_read_45 : decode prog_8_method_2_code 45 = .ok (.aload_n 0, 1) := by decide +kernel
theorem d_Pars_read_46 : decode prog_8_method_2_code 46 = .ok (.getfield 51, 3) := by decide +kernel
theorem d_Pars_read_49 : decode prog_8_method_2_code 49 = .ok (.ifCond .ge 42, 3) := by decide +kernel
theorem d_Pars_read_52 : decode prog_8_method_2_code 52 = .ok (.aload_n 0, 1) := by decide +kernel
theorem d_Pars_read_53 : decode prog_8_method_2_code 53 = .ok (.getfield 12, 3) := by decide +kernel
theorem d_Pars_read_56 : decode prog_8_method_2_code 56 = .ok (.invokevirtual 59, 3) := by decide +kernel
theorem d_Pars_read_59 : decode prog_8_method_2_code 59 = .ok (.ifCond .eq 32, 3) := by decide +kernel
theorem d_Pars_read_62 : decode prog_8_method_2_code 62 = .ok (.aload_n 0, 1) := by decide +kernel
theorem d_Pars_read_63 : decode prog_8_method_2_code 63 = .ok (.getfield 12, 3) := by decide +kernel
theorem d_Pars_read_66 : decode prog_8_method_2_code 66 = .ok (.invokevirtual 59, 3) := by decide +kernel
theorem d_Pars_read_69 : decode prog_8_method_2_code 69 = .ok (.iconst 5, 1) := by decide +kernel
theorem d_Pars_read_70 : decode prog_8_method_2_code 70 = .ok (.if_icmp .ne 10, 3) := by decide +kernel
theorem d_Pars_read_73 : decode prog_8_method_2_code 73 = .ok (.aload_n 0, 1) := by decide +kernel
theorem d_Pars_read_74 : decode prog_8_method_2_code 74 = .ok (.invokevirtual 63, 3) := by decide +kernel
theorem w_676 : (Cond.methodLink "StowTongue$Parser" 63 ⟨"StowTongue$Parser", "function", "()V"⟩ : Cond) ∈ am_tbl := am_w 676 (by decide +kernel) (by decide +kernel)
set_option maxRecDepth 100000 in
theorem w_679 : (Cond.code ⟨"StowTongue$Parser", "function", "()V"⟩ prog_8_method_10_code 5 none : Cond) ∈ am_tbl := am_w 679 rfl rfl
theorem l_Pars_63 : am_L "StowTongue$Parser" 63 0 m_Pars_function := ⟨Or.inl w_676, w_145, w_679, ⟨by decide, by decide⟩, by decide +kernel, by decide⟩
theorem w_678 : (Cond.instanceMethod ⟨"StowTongue$Parser", "function", "()V"⟩ : Cond) ∈ am_tbl := am_w 678 (by decide +kernel) (by decide +kernel)
theorem w_8 : (Cond.selects "StowTongue$Parser" ⟨"StowTongue$Parser", "function", "()V"⟩ ⟨"StowTongue$Parser", "function", "()V"⟩ : Cond) ∈ am_tbl := am_w 8 (by decide +kernel) (by decide +kernel)
theorem d_Pars_read_77 : decode prog_8_method_2_code 77 = .ok (.goto 8, 3) := by decide +kernel
theorem d_Pars_read_85 : decode prog_8_method_2_code 85 = .ok (.iinc 3 1, 3) := by decide +kernel
theorem d_Pars_read_88 : decode prog_8_method_2_code 88 = .ok (.goto (-50), 3) := by decide +kernel
theorem d_Pars_read_80 : decode prog_8_method_2_code 80 = .ok (.aload_n 0, 1) := by decide +kernel
theorem d_Pars_read_81 : decode prog_8_method_2_code 81 = .ok (.iconst 0, 1) := by decide +kernel
theorem d_Pars_read_82 : decode prog_8_method_2_code 82 = .ok (.invokevirtual 66, 3) := by decide +kernel
abbrev m_Pars_tellInto : am_M := (⟨"StowTongue$Parser", "tellInto", "(LStowTongue$Store;)Z"⟩, prog_8_method_4_code, 3, (some FieldType.boolean))
theorem d_Pars_tellInto_0 : decode prog_8_method_4_code 0 = .ok (.iconst 0, 1) := by decide +kernel
theorem d_Pars_tellInto_1 : decode prog_8_method_4_code 1 = .ok (.istore_n 2, 1) := by decide +kernel
theorem d_Pars_tellInto_2 : decode prog_8_method_4_code 2 = .ok (.iload_n 2, 1) := by decide +kernel
theorem d_Pars_tellInto_3 : decode prog_8_method_4_code 3 = .ok (.aload_n 0, 1) := by decide +kernel
theorem d_Pars_tellInto_4 : decode prog_8_method_4_code 4 = .ok (.getfield 34, 3) := by decide +kernel
theorem d_Pars_tellInto_7 : decode prog_8_method_4_code 7 = .ok (.invokevirtual 74, 3) := by decide +kernel
theorem w_1021 : (Cond.methodLink "StowTongue$Parser" 74 ⟨"java/util/ArrayList", "size", "()I"⟩ : Cond) ∈ am_tbl := am_w 1021 (by decide +kernel) (by decide +kernel)
set_option maxRecDepth 100000 in
theorem w_1024 : (Cond.code ⟨"java/util/ArrayList", "size", "()I"⟩ prog_28_method_8_code 1 (some FieldType.int) : Cond) ∈ am_tbl := am_w 1024 rfl rfl
theorem l_Pars_74 : am_L "StowTongue$Parser" 74 0 m_AL_size := ⟨Or.inl w_1021, w_155, w_1024, ⟨by decide, by decide⟩, by decide +kernel, by decide⟩
theorem w_1022 : (Cond.instanceMethod ⟨"java/util/ArrayList", "size", "()I"⟩ : Cond) ∈ am_tbl := am_w 1022 (by decide +kernel) (by decide +kernel)
theorem w_1023 : (Cond.selects "java/util/ArrayList" ⟨"java/util/ArrayList", "size", "()I"⟩ ⟨"java/util/ArrayList", "size", "()I"⟩ : Cond) ∈ am_tbl := am_w 1023 (by decide +kernel) (by decide +kernel)
theorem d_Pars_tellInto_10 : decode prog_8_method_4_code 10 = .ok (.if_icmp .ge 29, 3) := by decide +kernel
theorem d_Pars_tellInto_39 : decode prog_8_method_4_code 39 = .ok (.iconst 1, 1) := by decide +kernel
theorem d_Pars_tellInto_40 : decode prog_8_method_4_code 40 = .ok (.ireturn, 1) := by decide +kernel
theorem d_Pars_tellInto_13 : decode prog_8_method_4_code 13 = .ok (.aload_n 1, 1) := by decide +kernel
theorem d_Pars_tellInto_14 : decode prog_8_method_4_code 14 = .ok (.aload_n 0, 1) := by decide +kernel
theorem d_Pars_tellInto_15 : decode prog_8_method_4_code 15 = .ok (.getfield 34, 3) := by decide +kernel
theorem d_Pars_tellInto_18 : decode prog_8_method_4_code 18 = .ok (.iload_n 2, 1) := by decide +kernel
theorem d_Pars_tellInto_19 : decode prog_8_method_4_code 19 = .ok (.invokevirtual 77, 3) := by decide +kernel
theorem w_1025 : (Cond.methodLink "StowTongue$Parser" 77 ⟨"java/util/ArrayList", "get", "(I)Ljava/lang/Object;"⟩ : Cond) ∈ am_tbl := am_w 1025 (by decide +kernel) (by decide +kernel)
set_option maxRecDepth 100000 in
theorem w_1028 : (Cond.code ⟨"java/util/ArrayList", "get", "(I)Ljava/lang/Object;"⟩ prog_28_method_20_code 2 (some (FieldType.object "java/lang/Object")) : Cond) ∈ am_tbl := am_w 1028 rfl rfl
theorem l_Pars_77 : am_L "StowTongue$Parser" 77 1 m_AL_get := ⟨Or.inl w_1025, w_155, w_1028, ⟨by decide, by decide⟩, by decide +kernel, by decide⟩
theorem w_1026 : (Cond.instanceMethod ⟨"java/util/ArrayList", "get", "(I)Ljava/lang/Object;"⟩ : Cond) ∈ am_tbl := am_w 1026 (by decide +kernel) (by decide +kernel)
theorem w_1027 : (Cond.selects "java/util/ArrayList" ⟨"java/util/ArrayList", "get", "(I)Ljava/lang/Object;"⟩ ⟨"java/util/ArrayList", "get", "(I)Ljava/lang/Object;"⟩ : Cond) ∈ am_tbl := am_w 1027 (by decide +kernel) (by decide +kernel)
theorem d_Pars_tellInto_22 : decode prog_8_method_4_code 22 = .ok (.checkcast 38, 3) := by decide +kernel
theorem x_2181 : (Cond.castable "StowTongue$Unit" "StowTongue$Unit" : Cond) ∈ lw_tbl := List.mem_of_getElem? (i := 2181) (by decide +kernel)
theorem d_Pars_tellInto_25 : decode prog_8_method_4_code 25 = .ok (.invokevirtual 81, 3) := by decide +kernel
theorem w_1037 : (Cond.methodLink "StowTongue$Parser" 81 ⟨"StowTongue$Store", "tell", "(LStowTongue$Unit;)Z"⟩ : Cond) ∈ am_tbl := am_w 1037 (by decide +kernel) (by decide +kernel)
set_option maxRecDepth 100000 in
theorem w_1040 : (Cond.code ⟨"StowTongue$Store", "tell", "(LStowTongue$Unit;)Z"⟩ prog_9_method_22_code 3 (some FieldType.boolean) : Cond) ∈ am_tbl := am_w 1040 rfl rfl
theorem l_Pars_81 : am_L "StowTongue$Parser" 81 1 m_Store_tell := ⟨Or.inl w_1037, w_169, w_1040, ⟨by decide, by decide⟩, by decide +kernel, by decide⟩
theorem w_1038 : (Cond.instanceMethod ⟨"StowTongue$Store", "tell", "(LStowTongue$Unit;)Z"⟩ : Cond) ∈ am_tbl := am_w 1038 (by decide +kernel) (by decide +kernel)
theorem w_1039 : (Cond.selects "StowTongue$Store" ⟨"StowTongue$Store", "tell", "(LStowTongue$Unit;)Z"⟩ ⟨"StowTongue$Store", "tell", "(LStowTongue$Unit;)Z"⟩ : Cond) ∈ am_tbl := am_w 1039 (by decide +kernel) (by decide +kernel)
theorem d_Pars_tellInto_28 : decode prog_8_method_4_code 28 = .ok (.ifCond .ne 5, 3) := by decide +kernel
theorem d_Pars_tellInto_31 : decode prog_8_method_4_code 31 = .ok (.iconst 0, 1) := by decide +kernel
theorem d_Pars_tellInto_32 : decode prog_8_method_4_code 32 = .ok (.ireturn, 1) := by decide +kernel
theorem d_Pars_tellInto_33 : decode prog_8_method_4_code 33 = .ok (.iinc 2 1, 3) := by decide +kernel
theorem d_Pars_tellInto_36 : decode prog_8_method_4_code 36 = .ok (.goto (-34), 3) := by decide +kernel
abbrev m_Pars_toldTokens : am_M := (⟨"StowTongue$Parser", "toldTokens", "()I"⟩, prog_8_method_5_code, 3, (some FieldType.int))
theorem d_Pars_toldTokens_0 : decode prog_8_method_5_code 0 = .ok (.iconst 0, 1) := by decide +kernel
theorem d_Pars_toldTokens_1 : decode prog_8_method_5_code 1 = .ok (.istore_n 1, 1) := by decide +kernel
theorem d_Pars_toldTokens_2 : decode prog_8_method_5_code 2 = .ok (.iconst 0, 1) := by decide +kernel
theorem d_Pars_toldTokens_3 : decode prog_8_method_5_code 3 = .ok (.istore_n 2, 1) := by decide +kernel
theorem d_Pars_toldTokens_4 : decode prog_8_method_5_code 4 = .ok (.iload_n 2, 1) := by decide +kernel
theorem d_Pars_toldTokens_5 : decode prog_8_method_5_code 5 = .ok (.aload_n 0, 1) := by decide +kernel
theorem d_Pars_toldTokens_6 : decode prog_8_method_5_code 6 = .ok (.getfield 34, 3) := by decide +kernel
theorem d_Pars_toldTokens_9 : decode prog_8_method_5_code 9 = .ok (.invokevirtual 74, 3) := by decide +kernel
theorem d_Pars_toldTokens_12 : decode prog_8_method_5_code 12 = .ok (.if_icmp .ge 26, 3) := by decide +kernel
theorem d_Pars_toldTokens_38 : decode prog_8_method_5_code 38 = .ok (.iload_n 1, 1) := by decide +kernel
theorem d_Pars_toldTokens_39 : decode prog_8_method_5_code 39 = .ok (.ireturn, 1) := by decide +kernel
theorem d_Pars_toldTokens_15 : decode prog_8_method_5_code 15 = .ok (.iload_n 1, 1) := by decide +kernel
theorem d_Pars_toldTokens_16 : decode prog_8_method_5_code 16 = .ok (.aload_n 0, 1) := by decide +kernel
theorem d_Pars_toldTokens_17 : decode prog_8_method_5_code 17 = .ok (.getfield 34, 3) := by decide +kernel
theorem d_Pars_toldTokens_20 : decode prog_8_method_5_code 20 = .ok (.iload_n 2, 1) := by decide +kernel
theorem d_Pars_toldTokens_21 : decode prog_8_method_5_code 21 = .ok (.invokevirtual 77, 3) := by decide +kernel
theorem d_Pars_toldTokens_24 : decode prog_8_method_5_code 24 = .ok (.checkcast 38, 3) := by decide +kernel
theorem d_Pars_toldTokens_27 : decode prog_8_method_5_code 27 = .ok (.invokevirtual 87, 3) := by decide +kernel
theorem w_1342 : (Cond.methodLink "StowTongue$Parser" 87 ⟨"StowTongue$Unit", "tokens", "()I"⟩ : Cond) ∈ am_tbl := am_w 1342 (by decide +kernel) (by decide +kernel)
theorem l_Pars_87 : am_L "StowTongue$Parser" 87 0 m_Unit_tokens := ⟨Or.inl w_1342, w_156, w_1056, ⟨by decide, by decide⟩, by decide +kernel, by decide⟩
theorem d_Pars_toldTokens_30 : decode prog_8_method_5_code 30 = .ok (.iadd, 1) := by decide +kernel
theorem d_Pars_toldTokens_31 : decode prog_8_method_5_code 31 = .ok (.istore_n 1, 1) := by decide +kernel
theorem d_Pars_toldTokens_32 : decode prog_8_method_5_code 32 = .ok (.iinc 2 1, 3) := by decide +kernel
theorem d_Pars_toldTokens_35 : decode prog_8_method_5_code 35 = .ok (.goto (-31), 3) := by decide +kernel
abbrev m_Stow_run : am_M := (⟨"StowTongue", "run", "(I)I"⟩, prog_1_method_5_code, 5, (some FieldType.int))
theorem d_Stow_run_0 : decode prog_1_method_5_code 0 = .ok (.iload_n 1, 1) := by decide +kernel
theorem d_Stow_run_1 : decode prog_1_method_5_code 1 = .ok (.ifCond .lt 10, 3) := by decide +kernel
theorem d_Stow_run_11 : decode prog_1_method_5_code 11 = .ok (.iconst (-1), 1) := by decide +kernel
theorem d_Stow_run_12 : decode prog_1_method_5_code 12 = .ok (.ireturn, 1) := by decide +kernel
theorem d_Stow_run_4 : decode prog_1_method_5_code 4 = .ok (.iload_n 1, 1) := by decide +kernel
theorem d_Stow_run_5 : decode prog_1_method_5_code 5 = .ok (.sipush 2000, 3) := by decide +kernel
theorem d_Stow_run_8 : decode prog_1_method_5_code 8 = .ok (.if_icmp .le 5, 3) := by decide +kernel
theorem d_Stow_run_13 : decode prog_1_method_5_code 13 = .ok (.aload_n 0, 1) := by decide +kernel
theorem d_Stow_run_14 : decode prog_1_method_5_code 14 = .ok (.getfield 23, 3) := by decide +kernel
theorem d_Stow_run_17 : decode prog_1_method_5_code 17 = .ok (.aload_n 0, 1) := by decide +kernel
theorem d_Stow_run_18 : decode prog_1_method_5_code 18 = .ok (.getfield 9, 3) := by decide +kernel
theorem d_Stow_run_21 : decode prog_1_method_5_code 21 = .ok (.aload_n 0, 1) := by decide +kernel
theorem d_Stow_run_22 : decode prog_1_method_5_code 22 = .ok (.getfield 48, 3) := by decide +kernel
theorem d_Stow_run_25 : decode prog_1_method_5_code 25 = .ok (.invokevirtual 56, 3) := by decide +kernel
theorem w_542 : (Cond.methodLink "StowTongue" 56 ⟨"StowTongue$Parser", "read", "([BI)I"⟩ : Cond) ∈ am_tbl := am_w 542 (by decide +kernel) (by decide +kernel)
set_option maxRecDepth 100000 in
theorem w_545 : (Cond.code ⟨"StowTongue$Parser", "read", "([BI)I"⟩ prog_8_method_2_code 4 (some FieldType.int) : Cond) ∈ am_tbl := am_w 545 rfl rfl
theorem l_Stow_56 : am_L "StowTongue" 56 2 m_Pars_read := ⟨Or.inl w_542, w_145, w_545, ⟨by decide, by decide⟩, by decide +kernel, by decide⟩
theorem w_543 : (Cond.instanceMethod ⟨"StowTongue$Parser", "read", "([BI)I"⟩ : Cond) ∈ am_tbl := am_w 543 (by decide +kernel) (by decide +kernel)
theorem w_544 : (Cond.selects "StowTongue$Parser" ⟨"StowTongue$Parser", "read", "([BI)I"⟩ ⟨"StowTongue$Parser", "read", "([BI)I"⟩ : Cond) ∈ am_tbl := am_w 544 (by decide +kernel) (by decide +kernel)
theorem d_Stow_run_28 : decode prog_1_method_5_code 28 = .ok (.istore_n 2, 1) := by decide +kernel
theorem d_Stow_run_29 : decode prog_1_method_5_code 29 = .ok (.aload_n 0, 1) := by decide +kernel
theorem d_Stow_run_30 : decode prog_1_method_5_code 30 = .ok (.iconst 0, 1) := by decide +kernel
theorem d_Stow_run_31 : decode prog_1_method_5_code 31 = .ok (.putfield 48, 3) := by decide +kernel
theorem d_Stow_run_34 : decode prog_1_method_5_code 34 = .ok (.iload_n 2, 1) := by decide +kernel
theorem d_Stow_run_35 : decode prog_1_method_5_code 35 = .ok (.ifCond .lt 8, 3) := by decide +kernel
theorem d_Stow_run_43 : decode prog_1_method_5_code 43 = .ok (.aload_n 0, 1) := by decide +kernel
theorem d_Stow_run_44 : decode prog_1_method_5_code 44 = .ok (.getfield 16, 3) := by decide +kernel
theorem d_Stow_run_47 : decode prog_1_method_5_code 47 = .ok (.invokevirtual 60, 3) := by decide +kernel
theorem d_Stow_run_50 : decode prog_1_method_5_code 50 = .ok (.aload_n 0, 1) := by decide +kernel
theorem d_Stow_run_51 : decode prog_1_method_5_code 51 = .ok (.invokevirtual 63, 3) := by decide +kernel
theorem w_949 : (Cond.methodLink "StowTongue" 63 ⟨"StowTongue", "forgetLatestRun", "()V"⟩ : Cond) ∈ am_tbl := am_w 949 (by decide +kernel) (by decide +kernel)
set_option maxRecDepth 100000 in
theorem w_952 : (Cond.code ⟨"StowTongue", "forgetLatestRun", "()V"⟩ prog_1_method_6_code 1 none : Cond) ∈ am_tbl := am_w 952 rfl rfl
theorem l_Stow_63 : am_L "StowTongue" 63 0 m_Stow_forgetLatestRun := ⟨Or.inl w_949, w_143, w_952, ⟨by decide, by decide⟩, by decide +kernel, by decide⟩
theorem w_951 : (Cond.instanceMethod ⟨"StowTongue", "forgetLatestRun", "()V"⟩ : Cond) ∈ am_tbl := am_w 951 (by decide +kernel) (by decide +kernel)
theorem w_39 : (Cond.selects "StowTongue" ⟨"StowTongue", "forgetLatestRun", "()V"⟩ ⟨"StowTongue", "forgetLatestRun", "()V"⟩ : Cond) ∈ am_tbl := am_w 39 (by decide +kernel) (by decide +kernel)
theorem d_Stow_run_54 : decode prog_1_method_5_code 54 = .ok (.aload_n 0, 1) := by decide +kernel
theorem d_Stow_run_55 : decode prog_1_method_5_code 55 = .ok (.getfield 37, 3) := by decide +kernel
theorem d_Stow_run_58 : decode prog_1_method_5_code 58 = .ok (.invokevirtual 66, 3) := by decide +kernel
theorem d_Stow_run_61 : decode prog_1_method_5_code 61 = .ok (.astore_n 3, 1) := by decide +kernel
theorem d_Stow_run_62 : decode prog_1_method_5_code 62 = .ok (.aload_n 0, 1) := by decide +kernel
theorem d_Stow_run_63 : decode prog_1_method_5_code 63 = .ok (.getfield 23, 3) := by decide +kernel
theorem d_Stow_run_66 : decode prog_1_method_5_code 66 = .ok (.aload_n 3, 1) := by decide +kernel
theorem d_Stow_run_67 : decode prog_1_method_5_code 67 = .ok (.invokevirtual 70, 3) := by decide +kernel
theorem w_1017 : (Cond.methodLink "StowTongue" 70 ⟨"StowTongue$Parser", "tellInto", "(LStowTongue$Store;)Z"⟩ : Cond) ∈ am_tbl := am_w 1017 (by decide +kernel) (by decide +kernel)
set_option maxRecDepth 100000 in
theorem w_1020 : (Cond.code ⟨"StowTongue$Parser", "tellInto", "(LStowTongue$Store;)Z"⟩ prog_8_method_4_code 3 (some FieldType.boolean) : Cond) ∈ am_tbl := am_w 1020 rfl rfl
theorem l_Stow_70 : am_L "StowTongue" 70 1 m_Pars_tellInto := ⟨Or.inl w_1017, w_145, w_1020, ⟨by decide, by decide⟩, by decide +kernel, by decide⟩
theorem w_1018 : (Cond.instanceMethod ⟨"StowTongue$Parser", "tellInto", "(LStowTongue$Store;)Z"⟩ : Cond) ∈ am_tbl := am_w 1018 (by decide +kernel) (by decide +kernel)
theorem w_1019 : (Cond.selects "StowTongue$Parser" ⟨"StowTongue$Parser", "tellInto", "(LStowTongue$Store;)Z"⟩ ⟨"StowTongue$Parser", "tellInto", "(LStowTongue$Store;)Z"⟩ : Cond) ∈ am_tbl := am_w 1019 (by decide +kernel) (by decide +kernel)
theorem d_Stow_run_70 : decode prog_1_method_5_code 70 = .ok (.ifCond .ne 6, 3) := by decide +kernel
theorem d_Stow_run_73 : decode prog_1_method_5_code 73 = .ok (.bipush 8, 2) := by decide +kernel
theorem d_Stow_run_75 : decode prog_1_method_5_code 75 = .ok (.ireturn, 1) := by decide +kernel
theorem d_Stow_run_76 : decode prog_1_method_5_code 76 = .ok (.aload_n 0, 1) := by decide +kernel
theorem d_Stow_run_77 : decode prog_1_method_5_code 77 = .ok (.getfield 30, 3) := by decide +kernel
theorem d_Stow_run_80 : decode prog_1_method_5_code 80 = .ok (.aload_n 0, 1) := by decide +kernel
theorem d_Stow_run_81 : decode prog_1_method_5_code 81 = .ok (.getfield 23, 3) := by decide +kernel
theorem d_Stow_run_84 : decode prog_1_method_5_code 84 = .ok (.invokevirtual 74, 3) := by decide +kernel
theorem w_1057 : (Cond.methodLink "StowTongue" 74 ⟨"StowTongue$Parser", "program", "()LStowTongue$Unit;"⟩ : Cond) ∈ am_tbl := am_w 1057 (by decide +kernel) (by decide +kernel)
set_option maxRecDepth 100000 in
theorem w_1060 : (Cond.code ⟨"StowTongue$Parser", "program", "()LStowTongue$Unit;"⟩ prog_8_method_3_code 1 (some (FieldType.object "StowTongue$Unit")) : Cond) ∈ am_tbl := am_w 1060 rfl rfl
theorem l_Stow_74 : am_L "StowTongue" 74 0 m_Pars_program := ⟨Or.inl w_1057, w_145, w_1060, ⟨by decide, by decide⟩, by decide +kernel, by decide⟩
theorem w_1058 : (Cond.instanceMethod ⟨"StowTongue$Parser", "program", "()LStowTongue$Unit;"⟩ : Cond) ∈ am_tbl := am_w 1058 (by decide +kernel) (by decide +kernel)
theorem w_1059 : (Cond.selects "StowTongue$Parser" ⟨"StowTongue$Parser", "program", "()LStowTongue$Unit;"⟩ ⟨"StowTongue$Parser", "program", "()LStowTongue$Unit;"⟩ : Cond) ∈ am_tbl := am_w 1059 (by decide +kernel) (by decide +kernel)
theorem d_Stow_run_87 : decode prog_1_method_5_code 87 = .ok (.aload_n 3, 1) := by decide +kernel
theorem d_Stow_run_88 : decode prog_1_method_5_code 88 = .ok (.aload_n 0, 1) := by decide +kernel
theorem d_Stow_run_89 : decode prog_1_method_5_code 89 = .ok (.getfield 16, 3) := by decide +kernel
theorem d_Stow_run_92 : decode prog_1_method_5_code 92 = .ok (.iload_n 1, 1) := by decide +kernel
theorem d_Stow_run_93 : decode prog_1_method_5_code 93 = .ok (.invokevirtual 78, 3) := by decide +kernel
theorem w_1061 : (Cond.methodLink "StowTongue" 78 ⟨"StowTongue$Machine", "perform", "(LStowTongue$Unit;LStowTongue$Store;LStowTongue$Out;I)I"⟩ : Cond) ∈ am_tbl := am_w 1061 (by decide +kernel) (by decide +kernel)
set_option maxRecDepth 100000 in
theorem w_1064 : (Cond.code ⟨"StowTongue$Machine", "perform", "(LStowTongue$Unit;LStowTongue$Store;LStowTongue$Out;I)I"⟩ prog_6_method_3_code 8 (some FieldType.int) : Cond) ∈ am_tbl := am_w 1064 rfl rfl
theorem l_Stow_78 : am_L "StowTongue" 78 4 m_Mach_perform := ⟨Or.inl w_1061, w_157, w_1064, ⟨by decide, by decide⟩, by decide +kernel, by decide⟩
theorem w_1062 : (Cond.instanceMethod ⟨"StowTongue$Machine", "perform", "(LStowTongue$Unit;LStowTongue$Store;LStowTongue$Out;I)I"⟩ : Cond) ∈ am_tbl := am_w 1062 (by decide +kernel) (by decide +kernel)
theorem w_1063 : (Cond.selects "StowTongue$Machine" ⟨"StowTongue$Machine", "perform", "(LStowTongue$Unit;LStowTongue$Store;LStowTongue$Out;I)I"⟩ ⟨"StowTongue$Machine", "perform", "(LStowTongue$Unit;LStowTongue$Store;LStowTongue$Out;I)I"⟩ : Cond) ∈ am_tbl := am_w 1063 (by decide +kernel) (by decide +kernel)
theorem d_Stow_run_96 : decode prog_1_method_5_code 96 = .ok (.istore 4, 2) := by decide +kernel
theorem d_Stow_run_98 : decode prog_1_method_5_code 98 = .ok (.aload_n 0, 1) := by decide +kernel
theorem d_Stow_run_99 : decode prog_1_method_5_code 99 = .ok (.aload_n 0, 1) := by decide +kernel
theorem d_Stow_run_100 : decode prog_1_method_5_code 100 = .ok (.getfield 30, 3) := by decide +kernel
theorem d_Stow_run_103 : decode prog_1_method_5_code 103 = .ok (.invokevirtual 82, 3) := by decide +kernel
theorem w_1325 : (Cond.methodLink "StowTongue" 82 ⟨"StowTongue$Machine", "taken", "()I"⟩ : Cond) ∈ am_tbl := am_w 1325 (by decide +kernel) (by decide +kernel)
set_option maxRecDepth 100000 in
theorem w_1328 : (Cond.code ⟨"StowTongue$Machine", "taken", "()I"⟩ prog_6_method_4_code 1 (some FieldType.int) : Cond) ∈ am_tbl := am_w 1328 rfl rfl
theorem l_Stow_82 : am_L "StowTongue" 82 0 m_Mach_taken := ⟨Or.inl w_1325, w_157, w_1328, ⟨by decide, by decide⟩, by decide +kernel, by decide⟩
theorem w_1326 : (Cond.instanceMethod ⟨"StowTongue$Machine", "taken", "()I"⟩ : Cond) ∈ am_tbl := am_w 1326 (by decide +kernel) (by decide +kernel)
theorem w_1327 : (Cond.selects "StowTongue$Machine" ⟨"StowTongue$Machine", "taken", "()I"⟩ ⟨"StowTongue$Machine", "taken", "()I"⟩ : Cond) ∈ am_tbl := am_w 1327 (by decide +kernel) (by decide +kernel)
theorem d_Stow_run_106 : decode prog_1_method_5_code 106 = .ok (.putfield 86, 3) := by decide +kernel
theorem d_Stow_run_109 : decode prog_1_method_5_code 109 = .ok (.iload 4, 2) := by decide +kernel
theorem d_Stow_run_111 : decode prog_1_method_5_code 111 = .ok (.ifCond .ne 50, 3) := by decide +kernel
theorem d_Stow_run_114 : decode prog_1_method_5_code 114 = .ok (.aload_n 0, 1) := by decide +kernel
theorem d_Stow_run_115 : decode prog_1_method_5_code 115 = .ok (.aload_n 0, 1) := by decide +kernel
theorem d_Stow_run_116 : decode prog_1_method_5_code 116 = .ok (.getfield 30, 3) := by decide +kernel
theorem d_Stow_run_119 : decode prog_1_method_5_code 119 = .ok (.invokevirtual 89, 3) := by decide +kernel
theorem w_1329 : (Cond.methodLink "StowTongue" 89 ⟨"StowTongue$Machine", "resultHead", "()J"⟩ : Cond) ∈ am_tbl := am_w 1329 (by decide +kernel) (by decide +kernel)
set_option maxRecDepth 100000 in
theorem w_1332 : (Cond.code ⟨"StowTongue$Machine", "resultHead", "()J"⟩ prog_6_method_5_code 1 (some FieldType.long) : Cond) ∈ am_tbl := am_w 1332 rfl rfl
theorem l_Stow_89 : am_L "StowTongue" 89 0 m_Mach_resultHead := ⟨Or.inl w_1329, w_157, w_1332, ⟨by decide, by decide⟩, by decide +kernel, by decide⟩
theorem w_1330 : (Cond.instanceMethod ⟨"StowTongue$Machine", "resultHead", "()J"⟩ : Cond) ∈ am_tbl := am_w 1330 (by decide +kernel) (by decide +kernel)
theorem w_1331 : (Cond.selects "StowTongue$Machine" ⟨"StowTongue$Machine", "resultHead", "()J"⟩ ⟨"StowTongue$Machine", "resultHead", "()J"⟩ : Cond) ∈ am_tbl := am_w 1331 (by decide +kernel) (by decide +kernel)
theorem d_Stow_run_122 : decode prog_1_method_5_code 122 = .ok (.putfield 93, 3) := by decide +kernel
theorem d_Stow_run_125 : decode prog_1_method_5_code 125 = .ok (.aload_n 0, 1) := by decide +kernel
theorem d_Stow_run_126 : decode prog_1_method_5_code 126 = .ok (.aload_n 0, 1) := by decide +kernel
theorem d_Stow_run_127 : decode prog_1_method_5_code 127 = .ok (.getfield 30, 3) := by decide +kernel
theorem d_Stow_run_130 : decode prog_1_method_5_code 130 = .ok (.invokevirtual 97, 3) := by decide +kernel
theorem w_1333 : (Cond.methodLink "StowTongue" 97 ⟨"StowTongue$Machine", "resultTail", "()J"⟩ : Cond) ∈ am_tbl := am_w 1333 (by decide +kernel) (by decide +kernel)
set_option maxRecDepth 100000 in
theorem w_1336 : (Cond.code ⟨"StowTongue$Machine", "resultTail", "()J"⟩ prog_6_method_6_code 1 (some FieldType.long) : Cond) ∈ am_tbl := am_w 1336 rfl rfl
theorem l_Stow_97 : am_L "StowTongue" 97 0 m_Mach_resultTail := ⟨Or.inl w_1333, w_157, w_1336, ⟨by decide, by decide⟩, by decide +kernel, by decide⟩
theorem w_1334 : (Cond.instanceMethod ⟨"StowTongue$Machine", "resultTail", "()J"⟩ : Cond) ∈ am_tbl := am_w 1334 (by decide +kernel) (by decide +kernel)
theorem w_1335 : (Cond.selects "StowTongue$Machine" ⟨"StowTongue$Machine", "resultTail", "()J"⟩ ⟨"StowTongue$Machine", "resultTail", "()J"⟩ : Cond) ∈ am_tbl := am_w 1335 (by decide +kernel) (by decide +kernel)
theorem d_Stow_run_133 : decode prog_1_method_5_code 133 = .ok (.putfield 100, 3) := by decide +kernel
theorem d_Stow_run_136 : decode prog_1_method_5_code 136 = .ok (.aload_n 0, 1) := by decide +kernel
theorem d_Stow_run_137 : decode prog_1_method_5_code 137 = .ok (.getfield 37, 3) := by decide +kernel
theorem d_Stow_run_140 : decode prog_1_method_5_code 140 = .ok (.aload_n 0, 1) := by decide +kernel
theorem d_Stow_run_141 : decode prog_1_method_5_code 141 = .ok (.getfield 37, 3) := by decide +kernel
theorem d_Stow_run_144 : decode prog_1_method_5_code 144 = .ok (.invokevirtual 103, 3) := by decide +kernel
theorem d_Stow_run_147 : decode prog_1_method_5_code 147 = .ok (.aload_n 3, 1) := by decide +kernel
theorem d_Stow_run_148 : decode prog_1_method_5_code 148 = .ok (.aload_n 0, 1) := by decide +kernel
theorem d_Stow_run_149 : decode prog_1_method_5_code 149 = .ok (.getfield 23, 3) := by decide +kernel
theorem d_Stow_run_152 : decode prog_1_method_5_code 152 = .ok (.invokevirtual 106, 3) := by decide +kernel
theorem w_1338 : (Cond.methodLink "StowTongue" 106 ⟨"StowTongue$Parser", "toldTokens", "()I"⟩ : Cond) ∈ am_tbl := am_w 1338 (by decide +kernel) (by decide +kernel)
set_option maxRecDepth 100000 in
theorem w_1341 : (Cond.code ⟨"StowTongue$Parser", "toldTokens", "()I"⟩ prog_8_method_5_code 3 (some FieldType.int) : Cond) ∈ am_tbl := am_w 1341 rfl rfl
theorem l_Stow_106 : am_L "StowTongue" 106 0 m_Pars_toldTokens := ⟨Or.inl w_1338, w_145, w_1341, ⟨by decide, by decide⟩, by decide +kernel, by decide⟩
theorem w_1339 : (Cond.instanceMethod ⟨"StowTongue$Parser", "toldTokens", "()I"⟩ : Cond) ∈ am_tbl := am_w 1339 (by decide +kernel) (by decide +kernel)
theorem w_1340 : (Cond.selects "StowTongue$Parser" ⟨"StowTongue$Parser", "toldTokens", "()I"⟩ ⟨"StowTongue$Parser", "toldTokens", "()I"⟩ : Cond) ∈ am_tbl := am_w 1340 (by decide +kernel) (by decide +kernel)
theorem d_Stow_run_155 : decode prog_1_method_5_code 155 = .ok (.invokestatic 109, 3) := by decide +kernel
theorem w_1343 : (Cond.methodLink "StowTongue" 109 ⟨"StowTongue$Log", "commitBytes", "(LStowTongue$Store;LStowTongue$Store;I)I"⟩ : Cond) ∈ am_tbl := am_w 1343 (by decide +kernel) (by decide +kernel)
set_option maxRecDepth 100000 in
theorem w_1345 : (Cond.code ⟨"StowTongue$Log", "commitBytes", "(LStowTongue$Store;LStowTongue$Store;I)I"⟩ prog_5_method_2_code 3 (some FieldType.int) : Cond) ∈ am_tbl := am_w 1345 rfl rfl
theorem l_Stow_109 : am_L "StowTongue" 109 3 m_Log_commitBytes := ⟨Or.inl w_1343, w_158, w_1345, ⟨by decide, by decide⟩, by decide +kernel, by decide⟩
theorem w_1344 : (Cond.static ⟨"StowTongue$Log", "commitBytes", "(LStowTongue$Store;LStowTongue$Store;I)I"⟩ : Cond) ∈ am_tbl := am_w 1344 (by decide +kernel) (by decide +kernel)
theorem d_Stow_run_158 : decode prog_1_method_5_code 158 = .ok (.invokevirtual 113, 3) := by decide +kernel
theorem d_Stow_run_161 : decode prog_1_method_5_code 161 = .ok (.iload 4, 2) := by decide +kernel
theorem d_Stow_run_163 : decode prog_1_method_5_code 163 = .ok (.ireturn, 1) := by decide +kernel
theorem d_Stow_run_38 : decode prog_1_method_5_code 38 = .ok (.bipush 100, 2) := by decide +kernel
theorem d_Stow_run_40 : decode prog_1_method_5_code 40 = .ok (.iload_n 2, 1) := by decide +kernel
theorem d_Stow_run_41 : decode prog_1_method_5_code 41 = .ok (.iadd, 1) := by decide +kernel
theorem d_Stow_run_42 : decode prog_1_method_5_code 42 = .ok (.ireturn, 1) := by decide +kernel
