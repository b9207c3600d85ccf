abbrev m_Pars_block : am_M := (⟨"StowTongue$Parser", "block", "(I)V"⟩, prog_8_method_13_code, 3, none)
abbrev m_Pars_statement : am_M := (⟨"StowTongue$Parser", "statement", "(I)V"⟩, prog_8_method_14_code, 2, none)
abbrev m_Pars_letStatement : am_M := (⟨"StowTongue$Parser", "letStatement", "(I)V"⟩, prog_8_method_15_code, 3, none)
abbrev m_Pars_ifStatement : am_M := (⟨"StowTongue$Parser", "ifStatement", "(I)V"⟩, prog_8_method_16_code, 4, none)
abbrev m_Pars_whileStatement : am_M := (⟨"StowTongue$Parser", "whileStatement", "(I)V"⟩, prog_8_method_17_code, 4, none)
abbrev m_Pars_condition : am_M := (⟨"StowTongue$Parser", "condition", "(I)I"⟩, prog_8_method_18_code, 2, (some FieldType.int))
abbrev m_Pars_returnStatement : am_M := (⟨"StowTongue$Parser", "returnStatement", "(I)V"⟩, prog_8_method_19_code, 2, none)
abbrev m_Pars_plainStatement : am_M := (⟨"StowTongue$Parser", "plainStatement", "(I)V"⟩, prog_8_method_20_code, 4, none)
abbrev m_Pars_expression : am_M := (⟨"StowTongue$Parser", "expression", "(I)V"⟩, prog_8_method_21_code, 2, none)
abbrev m_Pars_level : am_M := (⟨"StowTongue$Parser", "level", "(II)V"⟩, prog_8_method_24_code, 7, none)
abbrev m_Pars_signed : am_M := (⟨"StowTongue$Parser", "signed", "(I)V"⟩, prog_8_method_25_code, 3, none)
abbrev m_Pars_parts : am_M := (⟨"StowTongue$Parser", "parts", "(I)V"⟩, prog_8_method_26_code, 3, none)
abbrev m_Pars_atom : am_M := (⟨"StowTongue$Parser", "atom", "(I)V"⟩, prog_8_method_28_code, 3, none)
abbrev m_Pars_variableOrCall : am_M := (⟨"StowTongue$Parser", "variableOrCall", "(I)Z"⟩, prog_8_method_29_code, 5, (some FieldType.boolean))
abbrev m_Pars_withOne : am_M := (⟨"StowTongue$Parser", "withOne", "(II)V"⟩, prog_8_method_30_code, 3, none)
abbrev m_Pars_inBrackets : am_M := (⟨"StowTongue$Parser", "inBrackets", "(I)V"⟩, prog_8_method_31_code, 2, none)
abbrev m_Pars_pushAtom : am_M := (⟨"StowTongue$Parser", "pushAtom", "(I)V"⟩, prog_8_method_32_code, 2, none)
abbrev m_Pars_list : am_M := (⟨"StowTongue$Parser", "list", "(III)I"⟩, prog_8_method_33_code, 5, (some FieldType.int))
abbrev m_Pars_fields : am_M := (⟨"StowTongue$Parser", "fields", "(I)I"⟩, prog_8_method_34_code, 3, (some FieldType.int))
abbrev m_Pars_field : am_M := (⟨"StowTongue$Parser", "field", "(I)V"⟩, prog_8_method_35_code, 2, none)
theorem d_Pars_block_0 : decode prog_8_method_13_code 0 = .ok (.aload_n 0, 1) := by decide +kernel
theorem d_Pars_block_1 : decode prog_8_method_13_code 1 = .ok (.bipush 123, 2) := by decide +kernel
theorem d_Pars_block_3 : decode prog_8_method_13_code 3 = .ok (.iload_n 1, 1) := by decide +kernel
theorem d_Pars_block_4 : decode prog_8_method_13_code 4 = .ok (.invokevirtual 135, 3) := by decide +kernel
theorem w_744 : (Cond.methodLink "StowTongue$Parser" 135 ⟨"StowTongue$Parser", "open", "(II)Z"⟩ : Cond) ∈ am_tbl := am_w 744 (by decide +kernel) (by decide +kernel)
set_option maxRecDepth 100000 in
theorem w_747 : (Cond.code ⟨"StowTongue$Parser", "open", "(II)Z"⟩ prog_8_method_8_code 3 (some FieldType.boolean) : Cond) ∈ am_tbl := am_w 747 rfl rfl
theorem l_Pars_135 : am_L "StowTongue$Parser" 135 2 m_Pars_open := ⟨Or.inl w_744, w_145, w_747, ⟨by decide, by decide⟩, by decide +kernel, by decide⟩
theorem w_746 : (Cond.instanceMethod ⟨"StowTongue$Parser", "open", "(II)Z"⟩ : Cond) ∈ am_tbl := am_w 746 (by decide +kernel) (by decide +kernel)
theorem w_15 : (Cond.selects "StowTongue$Parser" ⟨"StowTongue$Parser", "open", "(II)Z"⟩ ⟨"StowTongue$Parser", "open", "(II)Z"⟩ : Cond) ∈ am_tbl := am_w 15 (by decide +kernel) (by decide +kernel)
theorem d_Pars_block_7 : decode prog_8_method_13_code 7 = .ok (.ifCond .ne 4, 3) := by decide +kernel
theorem d_Pars_block_10 : decode prog_8_method_13_code 10 = .ok (.return_, 1) := by decide +kernel
theorem d_Pars_block_11 : decode prog_8_method_13_code 11 = .ok (.iconst 0, 1) := by decide +kernel
theorem d_Pars_block_12 : decode prog_8_method_13_code 12 = .ok (.istore_n 2, 1) := by decide +kernel
theorem d_Pars_block_13 : decode prog_8_method_13_code 13 = .ok (.iload_n 2, 1) := by decide +kernel
theorem d_Pars_block_14 : decode prog_8_method_13_code 14 = .ok (.sipush 1500, 3) := by decide +kernel
theorem d_Pars_block_17 : decode prog_8_method_13_code 17 = .ok (.if_icmp .gt 35, 3) := by decide +kernel
theorem d_Pars_block_52 : decode prog_8_method_13_code 52 = .ok (.aload_n 0, 1) := by decide +kernel
theorem d_Pars_block_53 : decode prog_8_method_13_code 53 = .ok (.bipush 125, 2) := by decide +kernel
theorem d_Pars_block_55 : decode prog_8_method_13_code 55 = .ok (.invokevirtual 106, 3) := by decide +kernel
theorem d_Pars_block_58 : decode prog_8_method_13_code 58 = .ok (.return_, 1) := by decide +kernel
theorem d_Pars_block_20 : decode prog_8_method_13_code 20 = .ok (.aload_n 0, 1) := by decide +kernel
theorem d_Pars_block_21 : decode prog_8_method_13_code 21 = .ok (.getfield 51, 3) := by decide +kernel
theorem d_Pars_block_24 : decode prog_8_method_13_code 24 = .ok (.ifCond .ge 28, 3) := by decide +kernel
theorem d_Pars_block_27 : decode prog_8_method_13_code 27 = .ok (.aload_n 0, 1) := by decide +kernel
theorem d_Pars_block_28 : decode prog_8_method_13_code 28 = .ok (.getfield 12, 3) := by decide +kernel
theorem d_Pars_block_31 : decode prog_8_method_13_code 31 = .ok (.invokevirtual 59, 3) := by decide +kernel
theorem d_Pars_block_34 : decode prog_8_method_13_code 34 = .ok (.bipush 125, 2) := by decide +kernel
theorem d_Pars_block_36 : decode prog_8_method_13_code 36 = .ok (.if_icmp .eq 16, 3) := by decide +kernel
theorem d_Pars_block_39 : decode prog_8_method_13_code 39 = .ok (.aload_n 0, 1) := by decide +kernel
theorem d_Pars_block_40 : decode prog_8_method_13_code 40 = .ok (.iload_n 1, 1) := by decide +kernel
theorem d_Pars_block_41 : decode prog_8_method_13_code 41 = .ok (.iconst 1, 1) := by decide +kernel
theorem d_Pars_block_42 : decode prog_8_method_13_code 42 = .ok (.iadd, 1) := by decide +kernel
theorem d_Pars_block_43 : decode prog_8_method_13_code 43 = .ok (.invokevirtual 66, 3) := by decide +kernel
theorem w_748 : (Cond.methodLink "StowTongue$Parser" 66 ⟨"StowTongue$Parser", "statement", "(I)V"⟩ : Cond) ∈ am_tbl := am_w 748 (by decide +kernel) (by decide +kernel)
set_option maxRecDepth 100000 in
theorem w_751 : (Cond.code ⟨"StowTongue$Parser", "statement", "(I)V"⟩ prog_8_method_14_code 2 none : Cond) ∈ am_tbl := am_w 751 rfl rfl
theorem l_Pars_66 : am_L "StowTongue$Parser" 66 1 m_Pars_statement := ⟨Or.inl w_748, w_145, w_751, ⟨by decide, by decide⟩, by decide +kernel, by decide⟩
theorem w_750 : (Cond.instanceMethod ⟨"StowTongue$Parser", "statement", "(I)V"⟩ : Cond) ∈ am_tbl := am_w 750 (by decide +kernel) (by decide +kernel)
theorem w_16 : (Cond.selects "StowTongue$Parser" ⟨"StowTongue$Parser", "statement", "(I)V"⟩ ⟨"StowTongue$Parser", "statement", "(I)V"⟩ : Cond) ∈ am_tbl := am_w 16 (by decide +kernel) (by decide +kernel)
theorem d_Pars_block_46 : decode prog_8_method_13_code 46 = .ok (.iinc 2 1, 3) := by decide +kernel
theorem d_Pars_block_49 : decode prog_8_method_13_code 49 = .ok (.goto (-36), 3) := by decide +kernel
theorem d_Pars_statement_0 : decode prog_8_method_14_code 0 = .ok (.aload_n 0, 1) := by decide +kernel
theorem d_Pars_statement_1 : decode prog_8_method_14_code 1 = .ok (.getfield 12, 3) := by decide +kernel
theorem d_Pars_statement_4 : decode prog_8_method_14_code 4 = .ok (.invokevirtual 59, 3) := by decide +kernel
theorem d_Pars_statement_7 : decode prog_8_method_14_code 7 = .ok (.bipush 123, 2) := by decide +kernel
theorem d_Pars_statement_9 : decode prog_8_method_14_code 9 = .ok (.if_icmp .ne 9, 3) := by decide +kernel
theorem d_Pars_statement_12 : decode prog_8_method_14_code 12 = .ok (.aload_n 0, 1) := by decide +kernel
theorem d_Pars_statement_13 : decode prog_8_method_14_code 13 = .ok (.iload_n 1, 1) := by decide +kernel
theorem d_Pars_statement_14 : decode prog_8_method_14_code 14 = .ok (.invokevirtual 118, 3) := by decide +kernel
theorem w_740 : (Cond.methodLink "StowTongue$Parser" 118 ⟨"StowTongue$Parser", "block", "(I)V"⟩ : Cond) ∈ am_tbl := am_w 740 (by decide +kernel) (by decide +kernel)
set_option maxRecDepth 100000 in
theorem w_743 : (Cond.code ⟨"StowTongue$Parser", "block", "(I)V"⟩ prog_8_method_13_code 3 none : Cond) ∈ am_tbl := am_w 743 rfl rfl
theorem l_Pars_118 : am_L "StowTongue$Parser" 118 1 m_Pars_block := ⟨Or.inl w_740, w_145, w_743, ⟨by decide, by decide⟩, by decide +kernel, by decide⟩
theorem w_742 : (Cond.instanceMethod ⟨"StowTongue$Parser", "block", "(I)V"⟩ : Cond) ∈ am_tbl := am_w 742 (by decide +kernel) (by decide +kernel)
theorem w_14 : (Cond.selects "StowTongue$Parser" ⟨"StowTongue$Parser", "block", "(I)V"⟩ ⟨"StowTongue$Parser", "block", "(I)V"⟩ : Cond) ∈ am_tbl := am_w 14 (by decide +kernel) (by decide +kernel)
theorem d_Pars_statement_17 : decode prog_8_method_14_code 17 = .ok (.return_, 1) := by decide +kernel
theorem d_Pars_statement_18 : decode prog_8_method_14_code 18 = .ok (.aload_n 0, 1) := by decide +kernel
theorem d_Pars_statement_19 : decode prog_8_method_14_code 19 = .ok (.getfield 28, 3) := by decide +kernel
theorem d_Pars_statement_22 : decode prog_8_method_14_code 22 = .ok (.iconst 0, 1) := by decide +kernel
theorem d_Pars_statement_23 : decode prog_8_method_14_code 23 = .ok (.iconst 0, 1) := by decide +kernel
theorem d_Pars_statement_24 : decode prog_8_method_14_code 24 = .ok (.invokevirtual 141, 3) := by decide +kernel
theorem w_752 : (Cond.methodLink "StowTongue$Parser" 141 ⟨"StowTongue$Draft", "add", "(II)V"⟩ : Cond) ∈ am_tbl := am_w 752 (by decide +kernel) (by decide +kernel)
theorem l_Pars_141 : am_L "StowTongue$Parser" 141 2 m_Draft_add := ⟨Or.inl w_752, w_152, w_755, ⟨by decide, by decide⟩, by decide +kernel, by decide⟩
theorem d_Pars_statement_27 : decode prog_8_method_14_code 27 = .ok (.aload_n 0, 1) := by decide +kernel
theorem d_Pars_statement_28 : decode prog_8_method_14_code 28 = .ok (.getfield 12, 3) := by decide +kernel
theorem d_Pars_statement_31 : decode prog_8_method_14_code 31 = .ok (.invokevirtual 59, 3) := by decide +kernel
theorem d_Pars_statement_34 : decode prog_8_method_14_code 34 = .ok (.tableswitch 129 6 12 #[42, 50, 129, 58, 66, 74, 99], 42) := by decide +kernel
theorem d_Pars_statement_76 : decode prog_8_method_14_code 76 = .ok (.aload_n 0, 1) := by decide +kernel
theorem d_Pars_statement_77 : decode prog_8_method_14_code 77 = .ok (.iload_n 1, 1) := by decide +kernel
theorem d_Pars_statement_78 : decode prog_8_method_14_code 78 = .ok (.invokevirtual 144, 3) := by decide +kernel
theorem w_764 : (Cond.methodLink "StowTongue$Parser" 144 ⟨"StowTongue$Parser", "letStatement", "(I)V"⟩ : Cond) ∈ am_tbl := am_w 764 (by decide +kernel) (by decide +kernel)
set_option maxRecDepth 100000 in
theorem w_767 : (Cond.code ⟨"StowTongue$Parser", "letStatement", "(I)V"⟩ prog_8_method_15_code 3 none : Cond) ∈ am_tbl := am_w 767 rfl rfl
theorem l_Pars_144 : am_L "StowTongue$Parser" 144 1 m_Pars_letStatement := ⟨Or.inl w_764, w_145, w_767, ⟨by decide, by decide⟩, by decide +kernel, by decide⟩
theorem w_766 : (Cond.instanceMethod ⟨"StowTongue$Parser", "letStatement", "(I)V"⟩ : Cond) ∈ am_tbl := am_w 766 (by decide +kernel) (by decide +kernel)
theorem w_17 : (Cond.selects "StowTongue$Parser" ⟨"StowTongue$Parser", "letStatement", "(I)V"⟩ ⟨"StowTongue$Parser", "letStatement", "(I)V"⟩ : Cond) ∈ am_tbl := am_w 17 (by decide +kernel) (by decide +kernel)
theorem d_Pars_statement_81 : decode prog_8_method_14_code 81 = .ok (.goto 87, 3) := by decide +kernel
theorem d_Pars_statement_168 : decode prog_8_method_14_code 168 = .ok (.return_, 1) := by decide +kernel
theorem d_Pars_statement_84 : decode prog_8_method_14_code 84 = .ok (.aload_n 0, 1) := by decide +kernel
theorem d_Pars_statement_85 : decode prog_8_method_14_code 85 = .ok (.iload_n 1, 1) := by decide +kernel
theorem d_Pars_statement_86 : decode prog_8_method_14_code 86 = .ok (.invokevirtual 147, 3) := by decide +kernel
theorem w_848 : (Cond.methodLink "StowTongue$Parser" 147 ⟨"StowTongue$Parser", "ifStatement", "(I)V"⟩ : Cond) ∈ am_tbl := am_w 848 (by decide +kernel) (by decide +kernel)
set_option maxRecDepth 100000 in
theorem w_851 : (Cond.code ⟨"StowTongue$Parser", "ifStatement", "(I)V"⟩ prog_8_method_16_code 4 none : Cond) ∈ am_tbl := am_w 851 rfl rfl
theorem l_Pars_147 : am_L "StowTongue$Parser" 147 1 m_Pars_ifStatement := ⟨Or.inl w_848, w_145, w_851, ⟨by decide, by decide⟩, by decide +kernel, by decide⟩
theorem w_850 : (Cond.instanceMethod ⟨"StowTongue$Parser", "ifStatement", "(I)V"⟩ : Cond) ∈ am_tbl := am_w 850 (by decide +kernel) (by decide +kernel)
theorem w_31 : (Cond.selects "StowTongue$Parser" ⟨"StowTongue$Parser", "ifStatement", "(I)V"⟩ ⟨"StowTongue$Parser", "ifStatement", "(I)V"⟩ : Cond) ∈ am_tbl := am_w 31 (by decide +kernel) (by decide +kernel)
theorem d_Pars_statement_89 : decode prog_8_method_14_code 89 = .ok (.goto 79, 3) := by decide +kernel
theorem d_Pars_statement_163 : decode prog_8_method_14_code 163 = .ok (.aload_n 0, 1) := by decide +kernel
theorem d_Pars_statement_164 : decode prog_8_method_14_code 164 = .ok (.iload_n 1, 1) := by decide +kernel
theorem d_Pars_statement_165 : decode prog_8_method_14_code 165 = .ok (.invokevirtual 159, 3) := by decide +kernel
theorem w_864 : (Cond.methodLink "StowTongue$Parser" 159 ⟨"StowTongue$Parser", "plainStatement", "(I)V"⟩ : Cond) ∈ am_tbl := am_w 864 (by decide +kernel) (by decide +kernel)
set_option maxRecDepth 100000 in
theorem w_867 : (Cond.code ⟨"StowTongue$Parser", "plainStatement", "(I)V"⟩ prog_8_method_20_code 4 none : Cond) ∈ am_tbl := am_w 867 rfl rfl
theorem l_Pars_159 : am_L "StowTongue$Parser" 159 1 m_Pars_plainStatement := ⟨Or.inl w_864, w_145, w_867, ⟨by decide, by decide⟩, by decide +kernel, by decide⟩
theorem w_866 : (Cond.instanceMethod ⟨"StowTongue$Parser", "plainStatement", "(I)V"⟩ : Cond) ∈ am_tbl := am_w 866 (by decide +kernel) (by decide +kernel)
theorem w_35 : (Cond.selects "StowTongue$Parser" ⟨"StowTongue$Parser", "plainStatement", "(I)V"⟩ ⟨"StowTongue$Parser", "plainStatement", "(I)V"⟩ : Cond) ∈ am_tbl := am_w 35 (by decide +kernel) (by decide +kernel)
theorem d_Pars_statement_92 : decode prog_8_method_14_code 92 = .ok (.aload_n 0, 1) := by decide +kernel
theorem d_Pars_statement_93 : decode prog_8_method_14_code 93 = .ok (.iload_n 1, 1) := by decide +kernel
theorem d_Pars_statement_94 : decode prog_8_method_14_code 94 = .ok (.invokevirtual 150, 3) := by decide +kernel
theorem w_856 : (Cond.methodLink "StowTongue$Parser" 150 ⟨"StowTongue$Parser", "whileStatement", "(I)V"⟩ : Cond) ∈ am_tbl := am_w 856 (by decide +kernel) (by decide +kernel)
set_option maxRecDepth 100000 in
theorem w_859 : (Cond.code ⟨"StowTongue$Parser", "whileStatement", "(I)V"⟩ prog_8_method_17_code 4 none : Cond) ∈ am_tbl := am_w 859 rfl rfl
theorem l_Pars_150 : am_L "StowTongue$Parser" 150 1 m_Pars_whileStatement := ⟨Or.inl w_856, w_145, w_859, ⟨by decide, by decide⟩, by decide +kernel, by decide⟩
theorem w_858 : (Cond.instanceMethod ⟨"StowTongue$Parser", "whileStatement", "(I)V"⟩ : Cond) ∈ am_tbl := am_w 858 (by decide +kernel) (by decide +kernel)
theorem w_33 : (Cond.selects "StowTongue$Parser" ⟨"StowTongue$Parser", "whileStatement", "(I)V"⟩ ⟨"StowTongue$Parser", "whileStatement", "(I)V"⟩ : Cond) ∈ am_tbl := am_w 33 (by decide +kernel) (by decide +kernel)
theorem d_Pars_statement_97 : decode prog_8_method_14_code 97 = .ok (.goto 71, 3) := by decide +kernel
theorem d_Pars_statement_100 : decode prog_8_method_14_code 100 = .ok (.aload_n 0, 1) := by decide +kernel
theorem d_Pars_statement_101 : decode prog_8_method_14_code 101 = .ok (.iload_n 1, 1) := by decide +kernel
theorem d_Pars_statement_102 : decode prog_8_method_14_code 102 = .ok (.invokevirtual 153, 3) := by decide +kernel
theorem w_860 : (Cond.methodLink "StowTongue$Parser" 153 ⟨"StowTongue$Parser", "returnStatement", "(I)V"⟩ : Cond) ∈ am_tbl := am_w 860 (by decide +kernel) (by decide +kernel)
set_option maxRecDepth 100000 in
theorem w_863 : (Cond.code ⟨"StowTongue$Parser", "returnStatement", "(I)V"⟩ prog_8_method_19_code 2 none : Cond) ∈ am_tbl := am_w 863 rfl rfl
theorem l_Pars_153 : am_L "StowTongue$Parser" 153 1 m_Pars_returnStatement := ⟨Or.inl w_860, w_145, w_863, ⟨by decide, by decide⟩, by decide +kernel, by decide⟩
theorem w_862 : (Cond.instanceMethod ⟨"StowTongue$Parser", "returnStatement", "(I)V"⟩ : Cond) ∈ am_tbl := am_w 862 (by decide +kernel) (by decide +kernel)
theorem w_34 : (Cond.selects "StowTongue$Parser" ⟨"StowTongue$Parser", "returnStatement", "(I)V"⟩ ⟨"StowTongue$Parser", "returnStatement", "(I)V"⟩ : Cond) ∈ am_tbl := am_w 34 (by decide +kernel) (by decide +kernel)
theorem d_Pars_statement_105 : decode prog_8_method_14_code 105 = .ok (.goto 63, 3) := by decide +kernel
theorem d_Pars_statement_108 : decode prog_8_method_14_code 108 = .ok (.aload_n 0, 1) := by decide +kernel
theorem d_Pars_statement_109 : decode prog_8_method_14_code 109 = .ok (.bipush 11, 2) := by decide +kernel
theorem d_Pars_statement_111 : decode prog_8_method_14_code 111 = .ok (.invokevirtual 106, 3) := by decide +kernel
theorem d_Pars_statement_114 : decode prog_8_method_14_code 114 = .ok (.aload_n 0, 1) := by decide +kernel
theorem d_Pars_statement_115 : decode prog_8_method_14_code 115 = .ok (.getfield 28, 3) := by decide +kernel
theorem d_Pars_statement_118 : decode prog_8_method_14_code 118 = .ok (.bipush 7, 2) := by decide +kernel
theorem d_Pars_statement_120 : decode prog_8_method_14_code 120 = .ok (.iconst 0, 1) := by decide +kernel
theorem d_Pars_statement_121 : decode prog_8_method_14_code 121 = .ok (.invokevirtual 141, 3) := by decide +kernel
theorem d_Pars_statement_124 : decode prog_8_method_14_code 124 = .ok (.aload_n 0, 1) := by decide +kernel
theorem d_Pars_statement_125 : decode prog_8_method_14_code 125 = .ok (.bipush 59, 2) := by decide +kernel
theorem d_Pars_statement_127 : decode prog_8_method_14_code 127 = .ok (.invokevirtual 106, 3) := by decide +kernel
theorem d_Pars_statement_130 : decode prog_8_method_14_code 130 = .ok (.goto 38, 3) := by decide +kernel
theorem d_Pars_statement_133 : decode prog_8_method_14_code 133 = .ok (.aload_n 0, 1) := by decide +kernel
theorem d_Pars_statement_134 : decode prog_8_method_14_code 134 = .ok (.bipush 12, 2) := by decide +kernel
theorem d_Pars_statement_136 : decode prog_8_method_14_code 136 = .ok (.invokevirtual 106, 3) := by decide +kernel
theorem d_Pars_statement_139 : decode prog_8_method_14_code 139 = .ok (.aload_n 0, 1) := by decide +kernel
theorem d_Pars_statement_140 : decode prog_8_method_14_code 140 = .ok (.iload_n 1, 1) := by decide +kernel
theorem d_Pars_statement_141 : decode prog_8_method_14_code 141 = .ok (.invokevirtual 156, 3) := by decide +kernel
theorem w_768 : (Cond.methodLink "StowTongue$Parser" 156 ⟨"StowTongue$Parser", "expression", "(I)V"⟩ : Cond) ∈ am_tbl := am_w 768 (by decide +kernel) (by decide +kernel)
set_option maxRecDepth 100000 in
theorem w_771 : (Cond.code ⟨"StowTongue$Parser", "expression", "(I)V"⟩ prog_8_method_21_code 2 none : Cond) ∈ am_tbl := am_w 771 rfl rfl
theorem l_Pars_156 : am_L "StowTongue$Parser" 156 1 m_Pars_expression := ⟨Or.inl w_768, w_145, w_771, ⟨by decide, by decide⟩, by decide +kernel, by decide⟩
theorem w_770 : (Cond.instanceMethod ⟨"StowTongue$Parser", "expression", "(I)V"⟩ : Cond) ∈ am_tbl := am_w 770 (by decide +kernel) (by decide +kernel)
theorem w_18 : (Cond.selects "StowTongue$Parser" ⟨"StowTongue$Parser", "expression", "(I)V"⟩ ⟨"StowTongue$Parser", "expression", "(I)V"⟩ : Cond) ∈ am_tbl := am_w 18 (by decide +kernel) (by decide +kernel)
theorem d_Pars_statement_144 : decode prog_8_method_14_code 144 = .ok (.aload_n 0, 1) := by decide +kernel
theorem d_Pars_statement_145 : decode prog_8_method_14_code 145 = .ok (.getfield 28, 3) := by decide +kernel
theorem d_Pars_statement_148 : decode prog_8_method_14_code 148 = .ok (.bipush 9, 2) := by decide +kernel
theorem d_Pars_statement_150 : decode prog_8_method_14_code 150 = .ok (.iconst 0, 1) := by decide +kernel
theorem d_Pars_statement_151 : decode prog_8_method_14_code 151 = .ok (.invokevirtual 141, 3) := by decide +kernel
theorem d_Pars_statement_154 : decode prog_8_method_14_code 154 = .ok (.aload_n 0, 1) := by decide +kernel
theorem d_Pars_statement_155 : decode prog_8_method_14_code 155 = .ok (.bipush 59, 2) := by decide +kernel
theorem d_Pars_statement_157 : decode prog_8_method_14_code 157 = .ok (.invokevirtual 106, 3) := by decide +kernel
theorem d_Pars_statement_160 : decode prog_8_method_14_code 160 = .ok (.goto 8, 3) := by decide +kernel
theorem d_Pars_letStatement_0 : decode prog_8_method_15_code 0 = .ok (.aload_n 0, 1) := by decide +kernel
theorem d_Pars_letStatement_1 : decode prog_8_method_15_code 1 = .ok (.bipush 6, 2) := by decide +kernel
theorem d_Pars_letStatement_3 : decode prog_8_method_15_code 3 = .ok (.invokevirtual 106, 3) := by decide +kernel
theorem d_Pars_letStatement_6 : decode prog_8_method_15_code 6 = .ok (.aload_n 0, 1) := by decide +kernel
theorem d_Pars_letStatement_7 : decode prog_8_method_15_code 7 = .ok (.getfield 28, 3) := by decide +kernel
theorem d_Pars_letStatement_10 : decode prog_8_method_15_code 10 = .ok (.aload_n 0, 1) := by decide +kernel
theorem d_Pars_letStatement_11 : decode prog_8_method_15_code 11 = .ok (.invokevirtual 109, 3) := by decide +kernel
theorem d_Pars_letStatement_14 : decode prog_8_method_15_code 14 = .ok (.invokevirtual 132, 3) := by decide +kernel
theorem d_Pars_letStatement_17 : decode prog_8_method_15_code 17 = .ok (.istore_n 2, 1) := by decide +kernel
theorem d_Pars_letStatement_18 : decode prog_8_method_15_code 18 = .ok (.aload_n 0, 1) := by decide +kernel
theorem d_Pars_letStatement_19 : decode prog_8_method_15_code 19 = .ok (.bipush 61, 2) := by decide +kernel
theorem d_Pars_letStatement_21 : decode prog_8_method_15_code 21 = .ok (.invokevirtual 106, 3) := by decide +kernel
theorem d_Pars_letStatement_24 : decode prog_8_method_15_code 24 = .ok (.aload_n 0, 1) := by decide +kernel
theorem d_Pars_letStatement_25 : decode prog_8_method_15_code 25 = .ok (.iload_n 1, 1) := by decide +kernel
theorem d_Pars_letStatement_26 : decode prog_8_method_15_code 26 = .ok (.invokevirtual 156, 3) := by decide +kernel
theorem d_Pars_letStatement_29 : decode prog_8_method_15_code 29 = .ok (.aload_n 0, 1) := by decide +kernel
theorem d_Pars_letStatement_30 : decode prog_8_method_15_code 30 = .ok (.getfield 28, 3) := by decide +kernel
theorem d_Pars_letStatement_33 : decode prog_8_method_15_code 33 = .ok (.bipush 14, 2) := by decide +kernel
theorem d_Pars_letStatement_35 : decode prog_8_method_15_code 35 = .ok (.iload_n 2, 1) := by decide +kernel
theorem d_Pars_letStatement_36 : decode prog_8_method_15_code 36 = .ok (.invokevirtual 141, 3) := by decide +kernel
theorem d_Pars_letStatement_39 : decode prog_8_method_15_code 39 = .ok (.aload_n 0, 1) := by decide +kernel
theorem d_Pars_letStatement_40 : decode prog_8_method_15_code 40 = .ok (.bipush 59, 2) := by decide +kernel
theorem d_Pars_letStatement_42 : decode prog_8_method_15_code 42 = .ok (.invokevirtual 106, 3) := by decide +kernel
theorem d_Pars_letStatement_45 : decode prog_8_method_15_code 45 = .ok (.return_, 1) := by decide +kernel
theorem d_Pars_ifStatement_0 : decode prog_8_method_16_code 0 = .ok (.aload_n 0, 1) := by decide +kernel
theorem d_Pars_ifStatement_1 : decode prog_8_method_16_code 1 = .ok (.bipush 7, 2) := by decide +kernel
theorem d_Pars_ifStatement_3 : decode prog_8_method_16_code 3 = .ok (.invokevirtual 106, 3) := by decide +kernel
theorem d_Pars_ifStatement_6 : decode prog_8_method_16_code 6 = .ok (.aload_n 0, 1) := by decide +kernel
theorem d_Pars_ifStatement_7 : decode prog_8_method_16_code 7 = .ok (.iload_n 1, 1) := by decide +kernel
theorem d_Pars_ifStatement_8 : decode prog_8_method_16_code 8 = .ok (.invokevirtual 162, 3) := by decide +kernel
theorem w_852 : (Cond.methodLink "StowTongue$Parser" 162 ⟨"StowTongue$Parser", "condition", "(I)I"⟩ : Cond) ∈ am_tbl := am_w 852 (by decide +kernel) (by decide +kernel)
set_option maxRecDepth 100000 in
theorem w_855 : (Cond.code ⟨"StowTongue$Parser", "condition", "(I)I"⟩ prog_8_method_18_code 2 (some FieldType.int) : Cond) ∈ am_tbl := am_w 855 rfl rfl
theorem l_Pars_162 : am_L "StowTongue$Parser" 162 1 m_Pars_condition := ⟨Or.inl w_852, w_145, w_855, ⟨by decide, by decide⟩, by decide +kernel, by decide⟩
theorem w_854 : (Cond.instanceMethod ⟨"StowTongue$Parser", "condition", "(I)I"⟩ : Cond) ∈ am_tbl := am_w 854 (by decide +kernel) (by decide +kernel)
theorem w_32 : (Cond.selects "StowTongue$Parser" ⟨"StowTongue$Parser", "condition", "(I)I"⟩ ⟨"StowTongue$Parser", "condition", "(I)I"⟩ : Cond) ∈ am_tbl := am_w 32 (by decide +kernel) (by decide +kernel)
theorem d_Pars_ifStatement_11 : decode prog_8_method_16_code 11 = .ok (.istore_n 2, 1) := by decide +kernel
theorem d_Pars_ifStatement_12 : decode prog_8_method_16_code 12 = .ok (.aload_n 0, 1) := by decide +kernel
theorem d_Pars_ifStatement_13 : decode prog_8_method_16_code 13 = .ok (.iload_n 1, 1) := by decide +kernel
theorem d_Pars_ifStatement_14 : decode prog_8_method_16_code 14 = .ok (.invokevirtual 118, 3) := by decide +kernel
theorem d_Pars_ifStatement_17 : decode prog_8_method_16_code 17 = .ok (.aload_n 0, 1) := by decide +kernel
theorem d_Pars_ifStatement_18 : decode prog_8_method_16_code 18 = .ok (.getfield 12, 3) := by decide +kernel
theorem d_Pars_ifStatement_21 : decode prog_8_method_16_code 21 = .ok (.invokevirtual 59, 3) := by decide +kernel
theorem d_Pars_ifStatement_24 : decode prog_8_method_16_code 24 = .ok (.bipush 8, 2) := by decide +kernel
theorem d_Pars_ifStatement_26 : decode prog_8_method_16_code 26 = .ok (.if_icmp .ne 50, 3) := by decide +kernel
theorem d_Pars_ifStatement_29 : decode prog_8_method_16_code 29 = .ok (.aload_n 0, 1) := by decide +kernel
theorem d_Pars_ifStatement_30 : decode prog_8_method_16_code 30 = .ok (.getfield 28, 3) := by decide +kernel
theorem d_Pars_ifStatement_33 : decode prog_8_method_16_code 33 = .ok (.invokevirtual 166, 3) := by decide +kernel
theorem w_836 : (Cond.methodLink "StowTongue$Parser" 166 ⟨"StowTongue$Draft", "here", "()I"⟩ : Cond) ∈ am_tbl := am_w 836 (by decide +kernel) (by decide +kernel)
theorem l_Pars_166 : am_L "StowTongue$Parser" 166 0 m_Draft_here := ⟨Or.inl w_836, w_152, w_839, ⟨by decide, by decide⟩, by decide +kernel, by decide⟩
theorem d_Pars_ifStatement_36 : decode prog_8_method_16_code 36 = .ok (.istore_n 3, 1) := by decide +kernel
theorem d_Pars_ifStatement_37 : decode prog_8_method_16_code 37 = .ok (.aload_n 0, 1) := by decide +kernel
theorem d_Pars_ifStatement_38 : decode prog_8_method_16_code 38 = .ok (.getfield 28, 3) := by decide +kernel
theorem d_Pars_ifStatement_41 : decode prog_8_method_16_code 41 = .ok (.iconst 1, 1) := by decide +kernel
theorem d_Pars_ifStatement_42 : decode prog_8_method_16_code 42 = .ok (.iconst 0, 1) := by decide +kernel
theorem d_Pars_ifStatement_43 : decode prog_8_method_16_code 43 = .ok (.invokevirtual 141, 3) := by decide +kernel
theorem d_Pars_ifStatement_46 : decode prog_8_method_16_code 46 = .ok (.aload_n 0, 1) := by decide +kernel
theorem d_Pars_ifStatement_47 : decode prog_8_method_16_code 47 = .ok (.getfield 28, 3) := by decide +kernel
theorem d_Pars_ifStatement_50 : decode prog_8_method_16_code 50 = .ok (.iload_n 2, 1) := by decide +kernel
theorem d_Pars_ifStatement_51 : decode prog_8_method_16_code 51 = .ok (.invokevirtual 169, 3) := by decide +kernel
theorem w_840 : (Cond.methodLink "StowTongue$Parser" 169 ⟨"StowTongue$Draft", "aimHere", "(I)V"⟩ : Cond) ∈ am_tbl := am_w 840 (by decide +kernel) (by decide +kernel)
set_option maxRecDepth 100000 in
theorem w_843 : (Cond.code ⟨"StowTongue$Draft", "aimHere", "(I)V"⟩ prog_3_method_5_code 3 none : Cond) ∈ am_tbl := am_w 843 rfl rfl
theorem l_Pars_169 : am_L "StowTongue$Parser" 169 1 m_Draft_aimHere := ⟨Or.inl w_840, w_152, w_843, ⟨by decide, by decide⟩, by decide +kernel, by decide⟩
theorem w_841 : (Cond.instanceMethod ⟨"StowTongue$Draft", "aimHere", "(I)V"⟩ : Cond) ∈ am_tbl := am_w 841 (by decide +kernel) (by decide +kernel)
theorem w_842 : (Cond.selects "StowTongue$Draft" ⟨"StowTongue$Draft", "aimHere", "(I)V"⟩ ⟨"StowTongue$Draft", "aimHere", "(I)V"⟩ : Cond) ∈ am_tbl := am_w 842 (by decide +kernel) (by decide +kernel)
theorem d_Pars_ifStatement_54 : decode prog_8_method_16_code 54 = .ok (.aload_n 0, 1) := by decide +kernel
theorem d_Pars_ifStatement_55 : decode prog_8_method_16_code 55 = .ok (.bipush 8, 2) := by decide +kernel
theorem d_Pars_ifStatement_57 : decode prog_8_method_16_code 57 = .ok (.invokevirtual 106, 3) := by decide +kernel
theorem d_Pars_ifStatement_60 : decode prog_8_method_16_code 60 = .ok (.aload_n 0, 1) := by decide +kernel
theorem d_Pars_ifStatement_61 : decode prog_8_method_16_code 61 = .ok (.iload_n 1, 1) := by decide +kernel
theorem d_Pars_ifStatement_62 : decode prog_8_method_16_code 62 = .ok (.invokevirtual 118, 3) := by decide +kernel
theorem d_Pars_ifStatement_65 : decode prog_8_method_16_code 65 = .ok (.aload_n 0, 1) := by decide +kernel
theorem d_Pars_ifStatement_66 : decode prog_8_method_16_code 66 = .ok (.getfield 28, 3) := by decide +kernel
theorem d_Pars_ifStatement_69 : decode prog_8_method_16_code 69 = .ok (.iload_n 3, 1) := by decide +kernel
theorem d_Pars_ifStatement_70 : decode prog_8_method_16_code 70 = .ok (.invokevirtual 169, 3) := by decide +kernel
theorem d_Pars_ifStatement_73 : decode prog_8_method_16_code 73 = .ok (.goto 11, 3) := by decide +kernel
theorem d_Pars_ifStatement_84 : decode prog_8_method_16_code 84 = .ok (.return_, 1) := by decide +kernel
theorem d_Pars_ifStatement_76 : decode prog_8_method_16_code 76 = .ok (.aload_n 0, 1) := by decide +kernel
theorem d_Pars_ifStatement_77 : decode prog_8_method_16_code 77 = .ok (.getfield 28, 3) := by decide +kernel
theorem d_Pars_ifStatement_80 : decode prog_8_method_16_code 80 = .ok (.iload_n 2, 1) := by decide +kernel
theorem d_Pars_ifStatement_81 : decode prog_8_method_16_code 81 = .ok (.invokevirtual 169, 3) := by decide +kernel
theorem d_Pars_whileStatement_0 : decode prog_8_method_17_code 0 = .ok (.aload_n 0, 1) := by decide +kernel
theorem d_Pars_whileStatement_1 : decode prog_8_method_17_code 1 = .ok (.bipush 9, 2) := by decide +kernel
theorem d_Pars_whileStatement_3 : decode prog_8_method_17_code 3 = .ok (.invokevirtual 106, 3) := by decide +kernel
theorem d_Pars_whileStatement_6 : decode prog_8_method_17_code 6 = .ok (.aload_n 0, 1) := by decide +kernel
theorem d_Pars_whileStatement_7 : decode prog_8_method_17_code 7 = .ok (.getfield 28, 3) := by decide +kernel
theorem d_Pars_whileStatement_10 : decode prog_8_method_17_code 10 = .ok (.invokevirtual 166, 3) := by decide +kernel
theorem d_Pars_whileStatement_13 : decode prog_8_method_17_code 13 = .ok (.istore_n 2, 1) := by decide +kernel
theorem d_Pars_whileStatement_14 : decode prog_8_method_17_code 14 = .ok (.aload_n 0, 1) := by decide +kernel
theorem d_Pars_whileStatement_15 : decode prog_8_method_17_code 15 = .ok (.iload_n 1, 1) := by decide +kernel
theorem d_Pars_whileStatement_16 : decode prog_8_method_17_code 16 = .ok (.invokevirtual 162, 3) := by decide +kernel
theorem d_Pars_whileStatement_19 : decode prog_8_method_17_code 19 = .ok (.istore_n 3, 1) := by decide +kernel
theorem d_Pars_whileStatement_20 : decode prog_8_method_17_code 20 = .ok (.aload_n 0, 1) := by decide +kernel
theorem d_Pars_whileStatement_21 : decode prog_8_method_17_code 21 = .ok (.getfield 28, 3) := by decide +kernel
theorem d_Pars_whileStatement_24 : decode prog_8_method_17_code 24 = .ok (.iconst 0, 1) := by decide +kernel
theorem d_Pars_whileStatement_25 : decode prog_8_method_17_code 25 = .ok (.iconst 0, 1) := by decide +kernel
theorem d_Pars_whileStatement_26 : decode prog_8_method_17_code 26 = .ok (.invokevirtual 141, 3) := by decide +kernel
theorem d_Pars_whileStatement_29 : decode prog_8_method_17_code 29 = .ok (.aload_n 0, 1) := by decide +kernel
theorem d_Pars_whileStatement_30 : decode prog_8_method_17_code 30 = .ok (.iload_n 1, 1) := by decide +kernel
theorem d_Pars_whileStatement_31 : decode prog_8_method_17_code 31 = .ok (.invokevirtual 118, 3) := by decide +kernel
theorem d_Pars_whileStatement_34 : decode prog_8_method_17_code 34 = .ok (.aload_n 0, 1) := by decide +kernel
theorem d_Pars_whileStatement_35 : decode prog_8_method_17_code 35 = .ok (.getfield 28, 3) := by decide +kernel
theorem d_Pars_whileStatement_38 : decode prog_8_method_17_code 38 = .ok (.iconst 1, 1) := by decide +kernel
theorem d_Pars_whileStatement_39 : decode prog_8_method_17_code 39 = .ok (.iload_n 2, 1) := by decide +kernel
theorem d_Pars_whileStatement_40 : decode prog_8_method_17_code 40 = .ok (.invokevirtual 141, 3) := by decide +kernel
theorem d_Pars_whileStatement_43 : decode prog_8_method_17_code 43 = .ok (.aload_n 0, 1) := by decide +kernel
theorem d_Pars_whileStatement_44 : decode prog_8_method_17_code 44 = .ok (.getfield 28, 3) := by decide +kernel
theorem d_Pars_whileStatement_47 : decode prog_8_method_17_code 47 = .ok (.iload_n 3, 1) := by decide +kernel
theorem d_Pars_whileStatement_48 : decode prog_8_method_17_code 48 = .ok (.invokevirtual 169, 3) := by decide +kernel
theorem d_Pars_whileStatement_51 : decode prog_8_method_17_code 51 = .ok (.return_, 1) := by decide +kernel
theorem d_Pars_condition_0 : decode prog_8_method_18_code 0 = .ok (.aload_n 0, 1) := by decide +kernel
theorem d_Pars_condition_1 : decode prog_8_method_18_code 1 = .ok (.bipush 40, 2) := by decide +kernel
theorem d_Pars_condition_3 : decode prog_8_method_18_code 3 = .ok (.iload_n 1, 1) := by decide +kernel
theorem d_Pars_condition_4 : decode prog_8_method_18_code 4 = .ok (.invokevirtual 135, 3) := by decide +kernel
theorem d_Pars_condition_7 : decode prog_8_method_18_code 7 = .ok (.ifCond .eq 16, 3) := by decide +kernel
theorem d_Pars_condition_23 : decode prog_8_method_18_code 23 = .ok (.aload_n 0, 1) := by decide +kernel
theorem d_Pars_condition_24 : decode prog_8_method_18_code 24 = .ok (.getfield 28, 3) := by decide +kernel
theorem d_Pars_condition_27 : decode prog_8_method_18_code 27 = .ok (.iconst 2, 1) := by decide +kernel
theorem d_Pars_condition_28 : decode prog_8_method_18_code 28 = .ok (.iconst 0, 1) := by decide +kernel
theorem d_Pars_condition_29 : decode prog_8_method_18_code 29 = .ok (.invokevirtual 141, 3) := by decide +kernel
theorem d_Pars_condition_32 : decode prog_8_method_18_code 32 = .ok (.aload_n 0, 1) := by decide +kernel
theorem d_Pars_condition_33 : decode prog_8_method_18_code 33 = .ok (.getfield 28, 3) := by decide +kernel
theorem d_Pars_condition_36 : decode prog_8_method_18_code 36 = .ok (.invokevirtual 166, 3) := by decide +kernel
theorem d_Pars_condition_39 : decode prog_8_method_18_code 39 = .ok (.iconst 1, 1) := by decide +kernel
theorem d_Pars_condition_40 : decode prog_8_method_18_code 40 = .ok (.isub, 1) := by decide +kernel
theorem d_Pars_condition_41 : decode prog_8_method_18_code 41 = .ok (.ireturn, 1) := by decide +kernel
theorem d_Pars_condition_10 : decode prog_8_method_18_code 10 = .ok (.aload_n 0, 1) := by decide +kernel
theorem d_Pars_condition_11 : decode prog_8_method_18_code 11 = .ok (.iload_n 1, 1) := by decide +kernel
theorem d_Pars_condition_12 : decode prog_8_method_18_code 12 = .ok (.iconst 1, 1) := by decide +kernel
theorem d_Pars_condition_13 : decode prog_8_method_18_code 13 = .ok (.iadd, 1) := by decide +kernel
theorem d_Pars_condition_14 : decode prog_8_method_18_code 14 = .ok (.invokevirtual 156, 3) := by decide +kernel
theorem d_Pars_condition_17 : decode prog_8_method_18_code 17 = .ok (.aload_n 0, 1) := by decide +kernel
theorem d_Pars_condition_18 : decode prog_8_method_18_code 18 = .ok (.bipush 41, 2) := by decide +kernel
theorem d_Pars_condition_20 : decode prog_8_method_18_code 20 = .ok (.invokevirtual 106, 3) := by decide +kernel
theorem d_Pars_returnStatement_0 : decode prog_8_method_19_code 0 = .ok (.aload_n 0, 1) := by decide +kernel
theorem d_Pars_returnStatement_1 : decode prog_8_method_19_code 1 = .ok (.bipush 10, 2) := by decide +kernel
theorem d_Pars_returnStatement_3 : decode prog_8_method_19_code 3 = .ok (.invokevirtual 106, 3) := by decide +kernel
theorem d_Pars_returnStatement_6 : decode prog_8_method_19_code 6 = .ok (.aload_n 0, 1) := by decide +kernel
theorem d_Pars_returnStatement_7 : decode prog_8_method_19_code 7 = .ok (.getfield 12, 3) := by decide +kernel
theorem d_Pars_returnStatement_10 : decode prog_8_method_19_code 10 = .ok (.invokevirtual 59, 3) := by decide +kernel
theorem d_Pars_returnStatement_13 : decode prog_8_method_19_code 13 = .ok (.bipush 59, 2) := by decide +kernel
theorem d_Pars_returnStatement_15 : decode prog_8_method_19_code 15 = .ok (.if_icmp .ne 16, 3) := by decide +kernel
theorem d_Pars_returnStatement_18 : decode prog_8_method_19_code 18 = .ok (.aload_n 0, 1) := by decide +kernel
theorem d_Pars_returnStatement_19 : decode prog_8_method_19_code 19 = .ok (.getfield 28, 3) := by decide +kernel
theorem d_Pars_returnStatement_22 : decode prog_8_method_19_code 22 = .ok (.bipush 10, 2) := by decide +kernel
theorem d_Pars_returnStatement_24 : decode prog_8_method_19_code 24 = .ok (.iconst 0, 1) := by decide +kernel
theorem d_Pars_returnStatement_25 : decode prog_8_method_19_code 25 = .ok (.invokevirtual 141, 3) := by decide +kernel
theorem d_Pars_returnStatement_28 : decode prog_8_method_19_code 28 = .ok (.goto 8, 3) := by decide +kernel
theorem d_Pars_returnStatement_36 : decode prog_8_method_19_code 36 = .ok (.aload_n 0, 1) := by decide +kernel
theorem d_Pars_returnStatement_37 : decode prog_8_method_19_code 37 = .ok (.getfield 28, 3) := by decide +kernel
theorem d_Pars_returnStatement_40 : decode prog_8_method_19_code 40 = .ok (.bipush 6, 2) := by decide +kernel
theorem d_Pars_returnStatement_42 : decode prog_8_method_19_code 42 = .ok (.iconst 0, 1) := by decide +kernel
theorem d_Pars_returnStatement_43 : decode prog_8_method_19_code 43 = .ok (.invokevirtual 141, 3) := by decide +kernel
theorem d_Pars_returnStatement_46 : decode prog_8_method_19_code 46 = .ok (.aload_n 0, 1) := by decide +kernel
theorem d_Pars_returnStatement_47 : decode prog_8_method_19_code 47 = .ok (.bipush 59, 2) := by decide +kernel
theorem d_Pars_returnStatement_49 : decode prog_8_method_19_code 49 = .ok (.invokevirtual 106, 3) := by decide +kernel
theorem d_Pars_returnStatement_52 : decode prog_8_method_19_code 52 = .ok (.return_, 1) := by decide +kernel
theorem d_Pars_returnStatement_31 : decode prog_8_method_19_code 31 = .ok (.aload_n 0, 1) := by decide +kernel
theorem d_Pars_returnStatement_32 : decode prog_8_method_19_code 32 = .ok (.iload_n 1, 1) := by decide +kernel
theorem d_Pars_returnStatement_33 : decode prog_8_method_19_code 33 = .ok (.invokevirtual 156, 3) := by decide +kernel
theorem d_Pars_plainStatement_0 : decode prog_8_method_20_code 0 = .ok (.aload_n 0, 1) := by decide +kernel
theorem d_Pars_plainStatement_1 : decode prog_8_method_20_code 1 = .ok (.iload_n 1, 1) := by decide +kernel
theorem d_Pars_plainStatement_2 : decode prog_8_method_20_code 2 = .ok (.invokevirtual 156, 3) := by decide +kernel
theorem d_Pars_plainStatement_5 : decode prog_8_method_20_code 5 = .ok (.aload_n 0, 1) := by decide +kernel
theorem d_Pars_plainStatement_6 : decode prog_8_method_20_code 6 = .ok (.getfield 12, 3) := by decide +kernel
theorem d_Pars_plainStatement_9 : decode prog_8_method_20_code 9 = .ok (.invokevirtual 59, 3) := by decide +kernel
theorem d_Pars_plainStatement_12 : decode prog_8_method_20_code 12 = .ok (.bipush 61, 2) := by decide +kernel
theorem d_Pars_plainStatement_14 : decode prog_8_method_20_code 14 = .ok (.if_icmp .ne 59, 3) := by decide +kernel
theorem d_Pars_plainStatement_17 : decode prog_8_method_20_code 17 = .ok (.aload_n 0, 1) := by decide +kernel
theorem d_Pars_plainStatement_18 : decode prog_8_method_20_code 18 = .ok (.getfield 172, 3) := by decide +kernel
theorem w_376 : (Cond.fieldLink "StowTongue$Parser" 172 "StowTongue$Parser" "assignable" "Z" : Cond) ∈ am_tbl := am_w 376 (by decide +kernel) (by decide +kernel)
theorem f_Pars_172 : am_F "StowTongue$Parser" 172 5 7 := ⟨_, rfl, cl_5, by decide, Or.inl w_376⟩
theorem d_Pars_plainStatement_21 : decode prog_8_method_20_code 21 = .ok (.ifCond .eq 52, 3) := by decide +kernel
theorem d_Pars_plainStatement_73 : decode prog_8_method_20_code 73 = .ok (.aload_n 0, 1) := by decide +kernel
theorem d_Pars_plainStatement_74 : decode prog_8_method_20_code 74 = .ok (.getfield 28, 3) := by decide +kernel
theorem d_Pars_plainStatement_77 : decode prog_8_method_20_code 77 = .ok (.bipush 8, 2) := by decide +kernel
theorem d_Pars_plainStatement_79 : decode prog_8_method_20_code 79 = .ok (.iconst 0, 1) := by decide +kernel
theorem d_Pars_plainStatement_80 : decode prog_8_method_20_code 80 = .ok (.invokevirtual 141, 3) := by decide +kernel
theorem d_Pars_plainStatement_83 : decode prog_8_method_20_code 83 = .ok (.aload_n 0, 1) := by decide +kernel
theorem d_Pars_plainStatement_84 : decode prog_8_method_20_code 84 = .ok (.bipush 59, 2) := by decide +kernel
theorem d_Pars_plainStatement_86 : decode prog_8_method_20_code 86 = .ok (.invokevirtual 106, 3) := by decide +kernel
theorem d_Pars_plainStatement_89 : decode prog_8_method_20_code 89 = .ok (.return_, 1) := by decide +kernel
theorem d_Pars_plainStatement_24 : decode prog_8_method_20_code 24 = .ok (.aload_n 0, 1) := by decide +kernel
theorem d_Pars_plainStatement_25 : decode prog_8_method_20_code 25 = .ok (.getfield 28, 3) := by decide +kernel
theorem d_Pars_plainStatement_28 : decode prog_8_method_20_code 28 = .ok (.invokevirtual 176, 3) := by decide +kernel
theorem w_868 : (Cond.methodLink "StowTongue$Parser" 176 ⟨"StowTongue$Draft", "lastOp", "()I"⟩ : Cond) ∈ am_tbl := am_w 868 (by decide +kernel) (by decide +kernel)
set_option maxRecDepth 100000 in
theorem w_871 : (Cond.code ⟨"StowTongue$Draft", "lastOp", "()I"⟩ prog_3_method_6_code 1 (some FieldType.int) : Cond) ∈ am_tbl := am_w 871 rfl rfl
theorem l_Pars_176 : am_L "StowTongue$Parser" 176 0 m_Draft_lastOp := ⟨Or.inl w_868, w_152, w_871, ⟨by decide, by decide⟩, by decide +kernel, by decide⟩
theorem w_869 : (Cond.instanceMethod ⟨"StowTongue$Draft", "lastOp", "()I"⟩ : Cond) ∈ am_tbl := am_w 869 (by decide +kernel) (by decide +kernel)
theorem w_870 : (Cond.selects "StowTongue$Draft" ⟨"StowTongue$Draft", "lastOp", "()I"⟩ ⟨"StowTongue$Draft", "lastOp", "()I"⟩ : Cond) ∈ am_tbl := am_w 870 (by decide +kernel) (by decide +kernel)
theorem d_Pars_plainStatement_31 : decode prog_8_method_20_code 31 = .ok (.istore_n 2, 1) := by decide +kernel
theorem d_Pars_plainStatement_32 : decode prog_8_method_20_code 32 = .ok (.aload_n 0, 1) := by decide +kernel
theorem d_Pars_plainStatement_33 : decode prog_8_method_20_code 33 = .ok (.getfield 28, 3) := by decide +kernel
theorem d_Pars_plainStatement_36 : decode prog_8_method_20_code 36 = .ok (.invokevirtual 179, 3) := by decide +kernel
theorem w_872 : (Cond.methodLink "StowTongue$Parser" 179 ⟨"StowTongue$Draft", "lastArgument", "()I"⟩ : Cond) ∈ am_tbl := am_w 872 (by decide +kernel) (by decide +kernel)
set_option maxRecDepth 100000 in
theorem w_875 : (Cond.code ⟨"StowTongue$Draft", "lastArgument", "()I"⟩ prog_3_method_7_code 1 (some FieldType.int) : Cond) ∈ am_tbl := am_w 875 rfl rfl
theorem l_Pars_179 : am_L "StowTongue$Parser" 179 0 m_Draft_lastArgument := ⟨Or.inl w_872, w_152, w_875, ⟨by decide, by decide⟩, by decide +kernel, by decide⟩
theorem w_873 : (Cond.instanceMethod ⟨"StowTongue$Draft", "lastArgument", "()I"⟩ : Cond) ∈ am_tbl := am_w 873 (by decide +kernel) (by decide +kernel)
theorem w_874 : (Cond.selects "StowTongue$Draft" ⟨"StowTongue$Draft", "lastArgument", "()I"⟩ ⟨"StowTongue$Draft", "lastArgument", "()I"⟩ : Cond) ∈ am_tbl := am_w 874 (by decide +kernel) (by decide +kernel)
theorem d_Pars_plainStatement_39 : decode prog_8_method_20_code 39 = .ok (.istore_n 3, 1) := by decide +kernel
theorem d_Pars_plainStatement_40 : decode prog_8_method_20_code 40 = .ok (.aload_n 0, 1) := by decide +kernel
theorem d_Pars_plainStatement_41 : decode prog_8_method_20_code 41 = .ok (.getfield 28, 3) := by decide +kernel
theorem d_Pars_plainStatement_44 : decode prog_8_method_20_code 44 = .ok (.invokevirtual 182, 3) := by decide +kernel
theorem w_876 : (Cond.methodLink "StowTongue$Parser" 182 ⟨"StowTongue$Draft", "dropLast", "()V"⟩ : Cond) ∈ am_tbl := am_w 876 (by decide +kernel) (by decide +kernel)
set_option maxRecDepth 100000 in
theorem w_879 : (Cond.code ⟨"StowTongue$Draft", "dropLast", "()V"⟩ prog_3_method_8_code 1 none : Cond) ∈ am_tbl := am_w 879 rfl rfl
theorem l_Pars_182 : am_L "StowTongue$Parser" 182 0 m_Draft_dropLast := ⟨Or.inl w_876, w_152, w_879, ⟨by decide, by decide⟩, by decide +kernel, by decide⟩
theorem w_877 : (Cond.instanceMethod ⟨"StowTongue$Draft", "dropLast", "()V"⟩ : Cond) ∈ am_tbl := am_w 877 (by decide +kernel) (by decide +kernel)
theorem w_878 : (Cond.selects "StowTongue$Draft" ⟨"StowTongue$Draft", "dropLast", "()V"⟩ ⟨"StowTongue$Draft", "dropLast", "()V"⟩ : Cond) ∈ am_tbl := am_w 878 (by decide +kernel) (by decide +kernel)
theorem d_Pars_plainStatement_47 : decode prog_8_method_20_code 47 = .ok (.aload_n 0, 1) := by decide +kernel
theorem d_Pars_plainStatement_48 : decode prog_8_method_20_code 48 = .ok (.bipush 61, 2) := by decide +kernel
theorem d_Pars_plainStatement_50 : decode prog_8_method_20_code 50 = .ok (.invokevirtual 106, 3) := by decide +kernel
theorem d_Pars_plainStatement_53 : decode prog_8_method_20_code 53 = .ok (.aload_n 0, 1) := by decide +kernel
theorem d_Pars_plainStatement_54 : decode prog_8_method_20_code 54 = .ok (.iload_n 1, 1) := by decide +kernel
theorem d_Pars_plainStatement_55 : decode prog_8_method_20_code 55 = .ok (.invokevirtual 156, 3) := by decide +kernel
theorem d_Pars_plainStatement_58 : decode prog_8_method_20_code 58 = .ok (.aload_n 0, 1) := by decide +kernel
theorem d_Pars_plainStatement_59 : decode prog_8_method_20_code 59 = .ok (.getfield 28, 3) := by decide +kernel
theorem d_Pars_plainStatement_62 : decode prog_8_method_20_code 62 = .ok (.iload_n 2, 1) := by decide +kernel
theorem d_Pars_plainStatement_63 : decode prog_8_method_20_code 63 = .ok (.invokestatic 185, 3) := by decide +kernel
theorem w_881 : (Cond.methodLink "StowTongue$Parser" 185 ⟨"StowTongue$Machine", "storeFor", "(I)I"⟩ : Cond) ∈ am_tbl := am_w 881 (by decide +kernel) (by decide +kernel)
set_option maxRecDepth 100000 in
theorem w_883 : (Cond.code ⟨"StowTongue$Machine", "storeFor", "(I)I"⟩ prog_6_method_2_code 1 (some FieldType.int) : Cond) ∈ am_tbl := am_w 883 rfl rfl
theorem l_Pars_185 : am_L "StowTongue$Parser" 185 1 m_Mach_storeFor := ⟨Or.inl w_881, w_157, w_883, ⟨by decide, by decide⟩, by decide +kernel, by decide⟩
theorem w_882 : (Cond.static ⟨"StowTongue$Machine", "storeFor", "(I)I"⟩ : Cond) ∈ am_tbl := am_w 882 (by decide +kernel) (by decide +kernel)
theorem d_Pars_plainStatement_66 : decode prog_8_method_20_code 66 = .ok (.iload_n 3, 1) := by decide +kernel
theorem d_Pars_plainStatement_67 : decode prog_8_method_20_code 67 = .ok (.invokevirtual 141, 3) := by decide +kernel
theorem d_Pars_plainStatement_70 : decode prog_8_method_20_code 70 = .ok (.goto 13, 3) := by decide +kernel
theorem d_Pars_expression_0 : decode prog_8_method_21_code 0 = .ok (.aload_n 0, 1) := by decide +kernel
theorem d_Pars_expression_1 : decode prog_8_method_21_code 1 = .ok (.iconst 0, 1) := by decide +kernel
theorem d_Pars_expression_2 : decode prog_8_method_21_code 2 = .ok (.iload_n 1, 1) := by decide +kernel
theorem d_Pars_expression_3 : decode prog_8_method_21_code 3 = .ok (.invokevirtual 188, 3) := by decide +kernel
theorem w_772 : (Cond.methodLink "StowTongue$Parser" 188 ⟨"StowTongue$Parser", "level", "(II)V"⟩ : Cond) ∈ am_tbl := am_w 772 (by decide +kernel) (by decide +kernel)
set_option maxRecDepth 100000 in
theorem w_775 : (Cond.code ⟨"StowTongue$Parser", "level", "(II)V"⟩ prog_8_method_24_code 7 none : Cond) ∈ am_tbl := am_w 775 rfl rfl
theorem l_Pars_188 : am_L "StowTongue$Parser" 188 2 m_Pars_level := ⟨Or.inl w_772, w_145, w_775, ⟨by decide, by decide⟩, by decide +kernel, by decide⟩
theorem w_774 : (Cond.instanceMethod ⟨"StowTongue$Parser", "level", "(II)V"⟩ : Cond) ∈ am_tbl := am_w 774 (by decide +kernel) (by decide +kernel)
theorem w_19 : (Cond.selects "StowTongue$Parser" ⟨"StowTongue$Parser", "level", "(II)V"⟩ ⟨"StowTongue$Parser", "level", "(II)V"⟩ : Cond) ∈ am_tbl := am_w 19 (by decide +kernel) (by decide +kernel)
theorem d_Pars_expression_6 : decode prog_8_method_21_code 6 = .ok (.return_, 1) := by decide +kernel
theorem d_Pars_level_0 : decode prog_8_method_24_code 0 = .ok (.iload_n 1, 1) := by decide +kernel
theorem d_Pars_level_1 : decode prog_8_method_24_code 1 = .ok (.iconst 4, 1) := by decide +kernel
theorem d_Pars_level_2 : decode prog_8_method_24_code 2 = .ok (.if_icmp .le 9, 3) := by decide +kernel
theorem d_Pars_level_11 : decode prog_8_method_24_code 11 = .ok (.aload_n 0, 1) := by decide +kernel
theorem d_Pars_level_12 : decode prog_8_method_24_code 12 = .ok (.iload_n 1, 1) := by decide +kernel
theorem d_Pars_level_13 : decode prog_8_method_24_code 13 = .ok (.iconst 1, 1) := by decide +kernel
theorem d_Pars_level_14 : decode prog_8_method_24_code 14 = .ok (.iadd, 1) := by decide +kernel
theorem d_Pars_level_15 : decode prog_8_method_24_code 15 = .ok (.iload_n 2, 1) := by decide +kernel
theorem d_Pars_level_16 : decode prog_8_method_24_code 16 = .ok (.invokevirtual 188, 3) := by decide +kernel
theorem d_Pars_level_19 : decode prog_8_method_24_code 19 = .ok (.iload_n 1, 1) := by decide +kernel
theorem d_Pars_level_20 : decode prog_8_method_24_code 20 = .ok (.iconst 2, 1) := by decide +kernel
theorem d_Pars_level_21 : decode prog_8_method_24_code 21 = .ok (.if_icmp .ne 7, 3) := by decide +kernel
theorem d_Pars_level_24 : decode prog_8_method_24_code 24 = .ok (.iconst 1, 1) := by decide +kernel
theorem d_Pars_level_25 : decode prog_8_method_24_code 25 = .ok (.goto 6, 3) := by decide +kernel
theorem d_Pars_level_31 : decode prog_8_method_24_code 31 = .ok (.istore_n 3, 1) := by decide +kernel
theorem d_Pars_level_32 : decode prog_8_method_24_code 32 = .ok (.iconst 0, 1) := by decide +kernel
theorem d_Pars_level_33 : decode prog_8_method_24_code 33 = .ok (.istore 4, 2) := by decide +kernel
theorem d_Pars_level_35 : decode prog_8_method_24_code 35 = .ok (.iload 4, 2) := by decide +kernel
theorem d_Pars_level_37 : decode prog_8_method_24_code 37 = .ok (.iload_n 3, 1) := by decide +kernel
theorem d_Pars_level_38 : decode prog_8_method_24_code 38 = .ok (.if_icmp .ge 115, 3) := by decide +kernel
theorem d_Pars_level_153 : decode prog_8_method_24_code 153 = .ok (.return_, 1) := by decide +kernel
theorem d_Pars_level_41 : decode prog_8_method_24_code 41 = .ok (.aload_n 0, 1) := by decide +kernel
theorem d_Pars_level_42 : decode prog_8_method_24_code 42 = .ok (.getfield 12, 3) := by decide +kernel
theorem d_Pars_level_45 : decode prog_8_method_24_code 45 = .ok (.invokevirtual 59, 3) := by decide +kernel
theorem d_Pars_level_48 : decode prog_8_method_24_code 48 = .ok (.invokestatic 194, 3) := by decide +kernel
theorem w_833 : (Cond.methodLink "StowTongue$Parser" 194 ⟨"StowTongue$Parser", "levelOf", "(I)I"⟩ : Cond) ∈ am_tbl := am_w 833 (by decide +kernel) (by decide +kernel)
set_option maxRecDepth 100000 in
theorem w_835 : (Cond.code ⟨"StowTongue$Parser", "levelOf", "(I)I"⟩ prog_8_method_22_code 1 (some FieldType.int) : Cond) ∈ am_tbl := am_w 835 rfl rfl
theorem l_Pars_194 : am_L "StowTongue$Parser" 194 1 m_Pars_levelOf := ⟨Or.inl w_833, w_145, w_835, ⟨by decide, by decide⟩, by decide +kernel, by decide⟩
theorem w_834 : (Cond.static ⟨"StowTongue$Parser", "levelOf", "(I)I"⟩ : Cond) ∈ am_tbl := am_w 834 (by decide +kernel) (by decide +kernel)
theorem d_Pars_level_51 : decode prog_8_method_24_code 51 = .ok (.iload_n 1, 1) := by decide +kernel
theorem d_Pars_level_52 : decode prog_8_method_24_code 52 = .ok (.if_icmp .ne 101, 3) := by decide +kernel
theorem d_Pars_level_55 : decode prog_8_method_24_code 55 = .ok (.aload_n 0, 1) := by decide +kernel
theorem d_Pars_level_56 : decode prog_8_method_24_code 56 = .ok (.getfield 12, 3) := by decide +kernel
theorem d_Pars_level_59 : decode prog_8_method_24_code 59 = .ok (.invokevirtual 59, 3) := by decide +kernel
theorem d_Pars_level_62 : decode prog_8_method_24_code 62 = .ok (.istore 5, 2) := by decide +kernel
theorem d_Pars_level_64 : decode prog_8_method_24_code 64 = .ok (.aload_n 0, 1) := by decide +kernel
theorem d_Pars_level_65 : decode prog_8_method_24_code 65 = .ok (.iload 5, 2) := by decide +kernel
theorem d_Pars_level_67 : decode prog_8_method_24_code 67 = .ok (.invokevirtual 106, 3) := by decide +kernel
theorem d_Pars_level_70 : decode prog_8_method_24_code 70 = .ok (.iload_n 1, 1) := by decide +kernel
theorem d_Pars_level_71 : decode prog_8_method_24_code 71 = .ok (.iconst 1, 1) := by decide +kernel
theorem d_Pars_level_72 : decode prog_8_method_24_code 72 = .ok (.if_icmp .gt 49, 3) := by decide +kernel
theorem d_Pars_level_121 : decode prog_8_method_24_code 121 = .ok (.aload_n 0, 1) := by decide +kernel
theorem d_Pars_level_122 : decode prog_8_method_24_code 122 = .ok (.iload_n 1, 1) := by decide +kernel
theorem d_Pars_level_123 : decode prog_8_method_24_code 123 = .ok (.iconst 1, 1) := by decide +kernel
theorem d_Pars_level_124 : decode prog_8_method_24_code 124 = .ok (.iadd, 1) := by decide +kernel
theorem d_Pars_level_125 : decode prog_8_method_24_code 125 = .ok (.iload_n 2, 1) := by decide +kernel
theorem d_Pars_level_126 : decode prog_8_method_24_code 126 = .ok (.invokevirtual 188, 3) := by decide +kernel
theorem d_Pars_level_129 : decode prog_8_method_24_code 129 = .ok (.aload_n 0, 1) := by decide +kernel
theorem d_Pars_level_130 : decode prog_8_method_24_code 130 = .ok (.getfield 28, 3) := by decide +kernel
theorem d_Pars_level_133 : decode prog_8_method_24_code 133 = .ok (.iload 5, 2) := by decide +kernel
theorem d_Pars_level_135 : decode prog_8_method_24_code 135 = .ok (.invokestatic 197, 3) := by decide +kernel
theorem w_845 : (Cond.methodLink "StowTongue$Parser" 197 ⟨"StowTongue$Parser", "commandOf", "(I)I"⟩ : Cond) ∈ am_tbl := am_w 845 (by decide +kernel) (by decide +kernel)
set_option maxRecDepth 100000 in
theorem w_847 : (Cond.code ⟨"StowTongue$Parser", "commandOf", "(I)I"⟩ prog_8_method_23_code 1 (some FieldType.int) : Cond) ∈ am_tbl := am_w 847 rfl rfl
theorem l_Pars_197 : am_L "StowTongue$Parser" 197 1 m_Pars_commandOf := ⟨Or.inl w_845, w_145, w_847, ⟨by decide, by decide⟩, by decide +kernel, by decide⟩
theorem w_846 : (Cond.static ⟨"StowTongue$Parser", "commandOf", "(I)I"⟩ : Cond) ∈ am_tbl := am_w 846 (by decide +kernel) (by decide +kernel)
theorem d_Pars_level_138 : decode prog_8_method_24_code 138 = .ok (.iconst 0, 1) := by decide +kernel
theorem d_Pars_level_139 : decode prog_8_method_24_code 139 = .ok (.invokevirtual 141, 3) := by decide +kernel
theorem d_Pars_level_142 : decode prog_8_method_24_code 142 = .ok (.aload_n 0, 1) := by decide +kernel
theorem d_Pars_level_143 : decode prog_8_method_24_code 143 = .ok (.iconst 0, 1) := by decide +kernel
theorem d_Pars_level_144 : decode prog_8_method_24_code 144 = .ok (.putfield 172, 3) := by decide +kernel
theorem d_Pars_level_147 : decode prog_8_method_24_code 147 = .ok (.iinc 4 1, 3) := by decide +kernel
theorem d_Pars_level_150 : decode prog_8_method_24_code 150 = .ok (.goto (-115), 3) := by decide +kernel
theorem d_Pars_level_75 : decode prog_8_method_24_code 75 = .ok (.aload_n 0, 1) := by decide +kernel
theorem d_Pars_level_76 : decode prog_8_method_24_code 76 = .ok (.getfield 28, 3) := by decide +kernel
theorem d_Pars_level_79 : decode prog_8_method_24_code 79 = .ok (.invokevirtual 166, 3) := by decide +kernel
theorem d_Pars_level_82 : decode prog_8_method_24_code 82 = .ok (.istore 6, 2) := by decide +kernel
theorem d_Pars_level_84 : decode prog_8_method_24_code 84 = .ok (.aload_n 0, 1) := by decide +kernel
theorem d_Pars_level_85 : decode prog_8_method_24_code 85 = .ok (.getfield 28, 3) := by decide +kernel
theorem d_Pars_level_88 : decode prog_8_method_24_code 88 = .ok (.iload_n 1, 1) := by decide +kernel
theorem d_Pars_level_89 : decode prog_8_method_24_code 89 = .ok (.ifCond .ne 7, 3) := by decide +kernel
theorem d_Pars_level_92 : decode prog_8_method_24_code 92 = .ok (.iconst 3, 1) := by decide +kernel
theorem d_Pars_level_93 : decode prog_8_method_24_code 93 = .ok (.goto 4, 3) := by decide +kernel
theorem d_Pars_level_97 : decode prog_8_method_24_code 97 = .ok (.iconst 0, 1) := by decide +kernel
theorem d_Pars_level_98 : decode prog_8_method_24_code 98 = .ok (.invokevirtual 141, 3) := by decide +kernel
theorem d_Pars_level_101 : decode prog_8_method_24_code 101 = .ok (.aload_n 0, 1) := by decide +kernel
theorem d_Pars_level_102 : decode prog_8_method_24_code 102 = .ok (.iload_n 1, 1) := by decide +kernel
theorem d_Pars_level_103 : decode prog_8_method_24_code 103 = .ok (.iconst 1, 1) := by decide +kernel
theorem d_Pars_level_104 : decode prog_8_method_24_code 104 = .ok (.iadd, 1) := by decide +kernel
theorem d_Pars_level_105 : decode prog_8_method_24_code 105 = .ok (.iload_n 2, 1) := by decide +kernel
theorem d_Pars_level_106 : decode prog_8_method_24_code 106 = .ok (.invokevirtual 188, 3) := by decide +kernel
theorem d_Pars_level_109 : decode prog_8_method_24_code 109 = .ok (.aload_n 0, 1) := by decide +kernel
theorem d_Pars_level_110 : decode prog_8_method_24_code 110 = .ok (.getfield 28, 3) := by decide +kernel
theorem d_Pars_level_113 : decode prog_8_method_24_code 113 = .ok (.iload 6, 2) := by decide +kernel
theorem d_Pars_level_115 : decode prog_8_method_24_code 115 = .ok (.invokevirtual 169, 3) := by decide +kernel
theorem d_Pars_level_118 : decode prog_8_method_24_code 118 = .ok (.goto 24, 3) := by decide +kernel
theorem d_Pars_level_96 : decode prog_8_method_24_code 96 = .ok (.iconst 4, 1) := by decide +kernel
theorem d_Pars_level_28 : decode prog_8_method_24_code 28 = .ok (.sipush 1500, 3) := by decide +kernel
theorem d_Pars_level_5 : decode prog_8_method_24_code 5 = .ok (.aload_n 0, 1) := by decide +kernel
theorem d_Pars_level_6 : decode prog_8_method_24_code 6 = .ok (.iload_n 2, 1) := by decide +kernel
theorem d_Pars_level_7 : decode prog_8_method_24_code 7 = .ok (.invokevirtual 191, 3) := by decide +kernel
theorem w_776 : (Cond.methodLink "StowTongue$Parser" 191 ⟨"StowTongue$Parser", "signed", "(I)V"⟩ : Cond) ∈ am_tbl := am_w 776 (by decide +kernel) (by decide +kernel)
set_option maxRecDepth 100000 in
theorem w_779 : (Cond.code ⟨"StowTongue$Parser", "signed", "(I)V"⟩ prog_8_method_25_code 3 none : Cond) ∈ am_tbl := am_w 779 rfl rfl
theorem l_Pars_191 : am_L "StowTongue$Parser" 191 1 m_Pars_signed := ⟨Or.inl w_776, w_145, w_779, ⟨by decide, by decide⟩, by decide +kernel, by decide⟩
theorem w_778 : (Cond.instanceMethod ⟨"StowTongue$Parser", "signed", "(I)V"⟩ : Cond) ∈ am_tbl := am_w 778 (by decide +kernel) (by decide +kernel)
theorem w_20 : (Cond.selects "StowTongue$Parser" ⟨"StowTongue$Parser", "signed", "(I)V"⟩ ⟨"StowTongue$Parser", "signed", "(I)V"⟩ : Cond) ∈ am_tbl := am_w 20 (by decide +kernel) (by decide +kernel)
theorem d_Pars_level_10 : decode prog_8_method_24_code 10 = .ok (.return_, 1) := by decide +kernel
theorem d_Pars_signed_0 : decode prog_8_method_25_code 0 = .ok (.aload_n 0, 1) := by decide +kernel
theorem d_Pars_signed_1 : decode prog_8_method_25_code 1 = .ok (.getfield 12, 3) := by decide +kernel
theorem d_Pars_signed_4 : decode prog_8_method_25_code 4 = .ok (.invokevirtual 59, 3) := by decide +kernel
theorem d_Pars_signed_7 : decode prog_8_method_25_code 7 = .ok (.istore_n 2, 1) := by decide +kernel
theorem d_Pars_signed_8 : decode prog_8_method_25_code 8 = .ok (.iload_n 2, 1) := by decide +kernel
theorem d_Pars_signed_9 : decode prog_8_method_25_code 9 = .ok (.bipush 45, 2) := by decide +kernel
theorem d_Pars_signed_11 : decode prog_8_method_25_code 11 = .ok (.if_icmp .eq 17, 3) := by decide +kernel
theorem d_Pars_signed_28 : decode prog_8_method_25_code 28 = .ok (.aload_n 0, 1) := by decide +kernel
theorem d_Pars_signed_29 : decode prog_8_method_25_code 29 = .ok (.iload_n 2, 1) := by decide +kernel
theorem d_Pars_signed_30 : decode prog_8_method_25_code 30 = .ok (.iload_n 1, 1) := by decide +kernel
theorem d_Pars_signed_31 : decode prog_8_method_25_code 31 = .ok (.invokevirtual 135, 3) := by decide +kernel
theorem d_Pars_signed_34 : decode prog_8_method_25_code 34 = .ok (.ifCond .eq 36, 3) := by decide +kernel
theorem d_Pars_signed_70 : decode prog_8_method_25_code 70 = .ok (.return_, 1) := by decide +kernel
theorem d_Pars_signed_37 : decode prog_8_method_25_code 37 = .ok (.aload_n 0, 1) := by decide +kernel
theorem d_Pars_signed_38 : decode prog_8_method_25_code 38 = .ok (.iload_n 1, 1) := by decide +kernel
theorem d_Pars_signed_39 : decode prog_8_method_25_code 39 = .ok (.iconst 1, 1) := by decide +kernel
theorem d_Pars_signed_40 : decode prog_8_method_25_code 40 = .ok (.iadd, 1) := by decide +kernel
theorem d_Pars_signed_41 : decode prog_8_method_25_code 41 = .ok (.invokevirtual 191, 3) := by decide +kernel
theorem d_Pars_signed_44 : decode prog_8_method_25_code 44 = .ok (.aload_n 0, 1) := by decide +kernel
theorem d_Pars_signed_45 : decode prog_8_method_25_code 45 = .ok (.getfield 28, 3) := by decide +kernel
theorem d_Pars_signed_48 : decode prog_8_method_25_code 48 = .ok (.iload_n 2, 1) := by decide +kernel
theorem d_Pars_signed_49 : decode prog_8_method_25_code 49 = .ok (.bipush 45, 2) := by decide +kernel
theorem d_Pars_signed_51 : decode prog_8_method_25_code 51 = .ok (.if_icmp .ne 8, 3) := by decide +kernel
theorem d_Pars_signed_54 : decode prog_8_method_25_code 54 = .ok (.bipush 26, 2) := by decide +kernel
theorem d_Pars_signed_56 : decode prog_8_method_25_code 56 = .ok (.goto 5, 3) := by decide +kernel
theorem d_Pars_signed_61 : decode prog_8_method_25_code 61 = .ok (.iconst 0, 1) := by decide +kernel
theorem d_Pars_signed_62 : decode prog_8_method_25_code 62 = .ok (.invokevirtual 141, 3) := by decide +kernel
theorem d_Pars_signed_65 : decode prog_8_method_25_code 65 = .ok (.aload_n 0, 1) := by decide +kernel
theorem d_Pars_signed_66 : decode prog_8_method_25_code 66 = .ok (.iconst 0, 1) := by decide +kernel
theorem d_Pars_signed_67 : decode prog_8_method_25_code 67 = .ok (.putfield 172, 3) := by decide +kernel
theorem d_Pars_signed_59 : decode prog_8_method_25_code 59 = .ok (.bipush 27, 2) := by decide +kernel
theorem d_Pars_signed_14 : decode prog_8_method_25_code 14 = .ok (.iload_n 2, 1) := by decide +kernel
theorem d_Pars_signed_15 : decode prog_8_method_25_code 15 = .ok (.bipush 33, 2) := by decide +kernel
theorem d_Pars_signed_17 : decode prog_8_method_25_code 17 = .ok (.if_icmp .eq 11, 3) := by decide +kernel
theorem d_Pars_signed_20 : decode prog_8_method_25_code 20 = .ok (.aload_n 0, 1) := by decide +kernel
theorem d_Pars_signed_21 : decode prog_8_method_25_code 21 = .ok (.iload_n 1, 1) := by decide +kernel
theorem d_Pars_signed_22 : decode prog_8_method_25_code 22 = .ok (.invokevirtual 200, 3) := by decide +kernel
theorem w_780 : (Cond.methodLink "StowTongue$Parser" 200 ⟨"StowTongue$Parser", "parts", "(I)V"⟩ : Cond) ∈ am_tbl := am_w 780 (by decide +kernel) (by decide +kernel)
set_option maxRecDepth 100000 in
theorem w_783 : (Cond.code ⟨"StowTongue$Parser", "parts", "(I)V"⟩ prog_8_method_26_code 3 none : Cond) ∈ am_tbl := am_w 783 rfl rfl
theorem l_Pars_200 : am_L "StowTongue$Parser" 200 1 m_Pars_parts := ⟨Or.inl w_780, w_145, w_783, ⟨by decide, by decide⟩, by decide +kernel, by decide⟩
theorem w_782 : (Cond.instanceMethod ⟨"StowTongue$Parser", "parts", "(I)V"⟩ : Cond) ∈ am_tbl := am_w 782 (by decide +kernel) (by decide +kernel)
theorem w_21 : (Cond.selects "StowTongue$Parser" ⟨"StowTongue$Parser", "parts", "(I)V"⟩ ⟨"StowTongue$Parser", "parts", "(I)V"⟩ : Cond) ∈ am_tbl := am_w 21 (by decide +kernel) (by decide +kernel)
theorem d_Pars_signed_25 : decode prog_8_method_25_code 25 = .ok (.goto 45, 3) := by decide +kernel
theorem d_Pars_parts_0 : decode prog_8_method_26_code 0 = .ok (.aload_n 0, 1) := by decide +kernel
theorem d_Pars_parts_1 : decode prog_8_method_26_code 1 = .ok (.iload_n 1, 1) := by decide +kernel
theorem d_Pars_parts_2 : decode prog_8_method_26_code 2 = .ok (.invokevirtual 203, 3) := by decide +kernel
theorem w_784 : (Cond.methodLink "StowTongue$Parser" 203 ⟨"StowTongue$Parser", "atom", "(I)V"⟩ : Cond) ∈ am_tbl := am_w 784 (by decide +kernel) (by decide +kernel)
set_option maxRecDepth 100000 in
theorem w_787 : (Cond.code ⟨"StowTongue$Parser", "atom", "(I)V"⟩ prog_8_method_28_code 3 none : Cond) ∈ am_tbl := am_w 787 rfl rfl
theorem l_Pars_203 : am_L "StowTongue$Parser" 203 1 m_Pars_atom := ⟨Or.inl w_784, w_145, w_787, ⟨by decide, by decide⟩, by decide +kernel, by decide⟩
theorem w_786 : (Cond.instanceMethod ⟨"StowTongue$Parser", "atom", "(I)V"⟩ : Cond) ∈ am_tbl := am_w 786 (by decide +kernel) (by decide +kernel)
theorem w_22 : (Cond.selects "StowTongue$Parser" ⟨"StowTongue$Parser", "atom", "(I)V"⟩ ⟨"StowTongue$Parser", "atom", "(I)V"⟩ : Cond) ∈ am_tbl := am_w 22 (by decide +kernel) (by decide +kernel)
theorem d_Pars_parts_5 : decode prog_8_method_26_code 5 = .ok (.iconst 0, 1) := by decide +kernel
theorem d_Pars_parts_6 : decode prog_8_method_26_code 6 = .ok (.istore_n 2, 1) := by decide +kernel
theorem d_Pars_parts_7 : decode prog_8_method_26_code 7 = .ok (.iload_n 2, 1) := by decide +kernel
theorem d_Pars_parts_8 : decode prog_8_method_26_code 8 = .ok (.sipush 1500, 3) := by decide +kernel
theorem d_Pars_parts_11 : decode prog_8_method_26_code 11 = .ok (.if_icmp .ge 101, 3) := by decide +kernel
theorem d_Pars_parts_112 : decode prog_8_method_26_code 112 = .ok (.return_, 1) := by decide +kernel
theorem d_Pars_parts_14 : decode prog_8_method_26_code 14 = .ok (.aload_n 0, 1) := by decide +kernel
theorem d_Pars_parts_15 : decode prog_8_method_26_code 15 = .ok (.getfield 12, 3) := by decide +kernel
theorem d_Pars_parts_18 : decode prog_8_method_26_code 18 = .ok (.invokevirtual 59, 3) := by decide +kernel
theorem d_Pars_parts_21 : decode prog_8_method_26_code 21 = .ok (.bipush 46, 2) := by decide +kernel
theorem d_Pars_parts_23 : decode prog_8_method_26_code 23 = .ok (.if_icmp .ne 29, 3) := by decide +kernel
theorem d_Pars_parts_26 : decode prog_8_method_26_code 26 = .ok (.aload_n 0, 1) := by decide +kernel
theorem d_Pars_parts_27 : decode prog_8_method_26_code 27 = .ok (.bipush 46, 2) := by decide +kernel
theorem d_Pars_parts_29 : decode prog_8_method_26_code 29 = .ok (.invokevirtual 106, 3) := by decide +kernel
theorem d_Pars_parts_32 : decode prog_8_method_26_code 32 = .ok (.aload_n 0, 1) := by decide +kernel
theorem d_Pars_parts_33 : decode prog_8_method_26_code 33 = .ok (.getfield 28, 3) := by decide +kernel
theorem d_Pars_parts_36 : decode prog_8_method_26_code 36 = .ok (.bipush 17, 2) := by decide +kernel
theorem d_Pars_parts_38 : decode prog_8_method_26_code 38 = .ok (.aload_n 0, 1) := by decide +kernel
theorem d_Pars_parts_39 : decode prog_8_method_26_code 39 = .ok (.aload_n 0, 1) := by decide +kernel
theorem d_Pars_parts_40 : decode prog_8_method_26_code 40 = .ok (.invokevirtual 109, 3) := by decide +kernel
theorem d_Pars_parts_43 : decode prog_8_method_26_code 43 = .ok (.invokevirtual 206, 3) := by decide +kernel
theorem w_828 : (Cond.methodLink "StowTongue$Parser" 206 ⟨"StowTongue$Parser", "keepName", "(J)I"⟩ : Cond) ∈ am_tbl := am_w 828 (by decide +kernel) (by decide +kernel)
set_option maxRecDepth 100000 in
theorem w_831 : (Cond.code ⟨"StowTongue$Parser", "keepName", "(J)I"⟩ prog_8_method_27_code 3 (some FieldType.int) : Cond) ∈ am_tbl := am_w 831 rfl rfl
theorem l_Pars_206 : am_L "StowTongue$Parser" 206 1 m_Pars_keepName := ⟨Or.inl w_828, w_145, w_831, ⟨by decide, by decide⟩, by decide +kernel, by decide⟩
theorem w_830 : (Cond.instanceMethod ⟨"StowTongue$Parser", "keepName", "(J)I"⟩ : Cond) ∈ am_tbl := am_w 830 (by decide +kernel) (by decide +kernel)
theorem w_30 : (Cond.selects "StowTongue$Parser" ⟨"StowTongue$Parser", "keepName", "(J)I"⟩ ⟨"StowTongue$Parser", "keepName", "(J)I"⟩ : Cond) ∈ am_tbl := am_w 30 (by decide +kernel) (by decide +kernel)
theorem d_Pars_parts_46 : decode prog_8_method_26_code 46 = .ok (.invokevirtual 141, 3) := by decide +kernel
theorem d_Pars_parts_49 : decode prog_8_method_26_code 49 = .ok (.goto 52, 3) := by decide +kernel
theorem d_Pars_parts_101 : decode prog_8_method_26_code 101 = .ok (.aload_n 0, 1) := by decide +kernel
theorem d_Pars_parts_102 : decode prog_8_method_26_code 102 = .ok (.iconst 1, 1) := by decide +kernel
theorem d_Pars_parts_103 : decode prog_8_method_26_code 103 = .ok (.putfield 172, 3) := by decide +kernel
theorem d_Pars_parts_106 : decode prog_8_method_26_code 106 = .ok (.iinc 2 1, 3) := by decide +kernel
theorem d_Pars_parts_109 : decode prog_8_method_26_code 109 = .ok (.goto (-102), 3) := by decide +kernel
theorem d_Pars_parts_52 : decode prog_8_method_26_code 52 = .ok (.aload_n 0, 1) := by decide +kernel
theorem d_Pars_parts_53 : decode prog_8_method_26_code 53 = .ok (.getfield 12, 3) := by decide +kernel
theorem d_Pars_parts_56 : decode prog_8_method_26_code 56 = .ok (.invokevirtual 59, 3) := by decide +kernel
theorem d_Pars_parts_59 : decode prog_8_method_26_code 59 = .ok (.bipush 91, 2) := by decide +kernel
theorem d_Pars_parts_61 : decode prog_8_method_26_code 61 = .ok (.if_icmp .ne 39, 3) := by decide +kernel
theorem d_Pars_parts_64 : decode prog_8_method_26_code 64 = .ok (.aload_n 0, 1) := by decide +kernel
theorem d_Pars_parts_65 : decode prog_8_method_26_code 65 = .ok (.bipush 91, 2) := by decide +kernel
theorem d_Pars_parts_67 : decode prog_8_method_26_code 67 = .ok (.iload_n 1, 1) := by decide +kernel
theorem d_Pars_parts_68 : decode prog_8_method_26_code 68 = .ok (.invokevirtual 135, 3) := by decide +kernel
theorem d_Pars_parts_71 : decode prog_8_method_26_code 71 = .ok (.ifCond .eq 29, 3) := by decide +kernel
theorem d_Pars_parts_100 : decode prog_8_method_26_code 100 = .ok (.return_, 1) := by decide +kernel
theorem d_Pars_parts_74 : decode prog_8_method_26_code 74 = .ok (.aload_n 0, 1) := by decide +kernel
theorem d_Pars_parts_75 : decode prog_8_method_26_code 75 = .ok (.iload_n 1, 1) := by decide +kernel
theorem d_Pars_parts_76 : decode prog_8_method_26_code 76 = .ok (.iconst 1, 1) := by decide +kernel
theorem d_Pars_parts_77 : decode prog_8_method_26_code 77 = .ok (.iadd, 1) := by decide +kernel
theorem d_Pars_parts_78 : decode prog_8_method_26_code 78 = .ok (.invokevirtual 156, 3) := by decide +kernel
theorem d_Pars_parts_81 : decode prog_8_method_26_code 81 = .ok (.aload_n 0, 1) := by decide +kernel
theorem d_Pars_parts_82 : decode prog_8_method_26_code 82 = .ok (.bipush 93, 2) := by decide +kernel
theorem d_Pars_parts_84 : decode prog_8_method_26_code 84 = .ok (.invokevirtual 106, 3) := by decide +kernel
theorem d_Pars_parts_87 : decode prog_8_method_26_code 87 = .ok (.aload_n 0, 1) := by decide +kernel
theorem d_Pars_parts_88 : decode prog_8_method_26_code 88 = .ok (.getfield 28, 3) := by decide +kernel
theorem d_Pars_parts_91 : decode prog_8_method_26_code 91 = .ok (.bipush 19, 2) := by decide +kernel
theorem d_Pars_parts_93 : decode prog_8_method_26_code 93 = .ok (.iconst 0, 1) := by decide +kernel
theorem d_Pars_parts_94 : decode prog_8_method_26_code 94 = .ok (.invokevirtual 141, 3) := by decide +kernel
theorem d_Pars_parts_97 : decode prog_8_method_26_code 97 = .ok (.goto 4, 3) := by decide +kernel
theorem d_Pars_atom_0 : decode prog_8_method_28_code 0 = .ok (.iconst 0, 1) := by decide +kernel
theorem d_Pars_atom_1 : decode prog_8_method_28_code 1 = .ok (.istore_n 2, 1) := by decide +kernel
theorem d_Pars_atom_2 : decode prog_8_method_28_code 2 = .ok (.aload_n 0, 1) := by decide +kernel
theorem d_Pars_atom_3 : decode prog_8_method_28_code 3 = .ok (.getfield 12, 3) := by decide +kernel
theorem d_Pars_atom_6 : decode prog_8_method_28_code 6 = .ok (.invokevirtual 59, 3) := by decide +kernel
theorem d_Pars_atom_9 : decode prog_8_method_28_code 9 = .ok (.lookupswitch 255 #[(2, 172), (3, 91), (4, 115), (13, 153), (14, 181), (15, 201), (16, 191), (40, 209), (91, 234), (123, 217)], 91) := by decide +kernel
theorem d_Pars_atom_181 : decode prog_8_method_28_code 181 = .ok (.aload_n 0, 1) := by decide +kernel
theorem d_Pars_atom_182 : decode prog_8_method_28_code 182 = .ok (.iload_n 1, 1) := by decide +kernel
theorem d_Pars_atom_183 : decode prog_8_method_28_code 183 = .ok (.invokevirtual 225, 3) := by decide +kernel
theorem w_800 : (Cond.methodLink "StowTongue$Parser" 225 ⟨"StowTongue$Parser", "variableOrCall", "(I)Z"⟩ : Cond) ∈ am_tbl := am_w 800 (by decide +kernel) (by decide +kernel)
set_option maxRecDepth 100000 in
theorem w_803 : (Cond.code ⟨"StowTongue$Parser", "variableOrCall", "(I)Z"⟩ prog_8_method_29_code 5 (some FieldType.boolean) : Cond) ∈ am_tbl := am_w 803 rfl rfl
theorem l_Pars_225 : am_L "StowTongue$Parser" 225 1 m_Pars_variableOrCall := ⟨Or.inl w_800, w_145, w_803, ⟨by decide, by decide⟩, by decide +kernel, by decide⟩
theorem w_802 : (Cond.instanceMethod ⟨"StowTongue$Parser", "variableOrCall", "(I)Z"⟩ : Cond) ∈ am_tbl := am_w 802 (by decide +kernel) (by decide +kernel)
theorem w_23 : (Cond.selects "StowTongue$Parser" ⟨"StowTongue$Parser", "variableOrCall", "(I)Z"⟩ ⟨"StowTongue$Parser", "variableOrCall", "(I)Z"⟩ : Cond) ∈ am_tbl := am_w 23 (by decide +kernel) (by decide +kernel)
theorem d_Pars_atom_186 : decode prog_8_method_28_code 186 = .ok (.istore_n 2, 1) := by decide +kernel
theorem d_Pars_atom_187 : decode prog_8_method_28_code 187 = .ok (.goto 81, 3) := by decide +kernel
theorem d_Pars_atom_268 : decode prog_8_method_28_code 268 = .ok (.aload_n 0, 1) := by decide +kernel
theorem d_Pars_atom_269 : decode prog_8_method_28_code 269 = .ok (.iload_n 2, 1) := by decide +kernel
theorem d_Pars_atom_270 : decode prog_8_method_28_code 270 = .ok (.putfield 172, 3) := by decide +kernel
theorem d_Pars_atom_273 : decode prog_8_method_28_code 273 = .ok (.return_, 1) := by decide +kernel
theorem d_Pars_atom_100 : decode prog_8_method_28_code 100 = .ok (.aload_n 0, 1) := by decide +kernel
theorem d_Pars_atom_101 : decode prog_8_method_28_code 101 = .ok (.getfield 28, 3) := by decide +kernel
theorem d_Pars_atom_104 : decode prog_8_method_28_code 104 = .ok (.bipush 11, 2) := by decide +kernel
theorem d_Pars_atom_106 : decode prog_8_method_28_code 106 = .ok (.aload_n 0, 1) := by decide +kernel
theorem d_Pars_atom_107 : decode prog_8_method_28_code 107 = .ok (.getfield 12, 3) := by decide +kernel
theorem d_Pars_atom_110 : decode prog_8_method_28_code 110 = .ok (.invokevirtual 219, 3) := by decide +kernel
theorem w_788 : (Cond.methodLink "StowTongue$Parser" 219 ⟨"StowTongue$Lexer", "number", "()I"⟩ : Cond) ∈ am_tbl := am_w 788 (by decide +kernel) (by decide +kernel)
set_option maxRecDepth 100000 in
theorem w_791 : (Cond.code ⟨"StowTongue$Lexer", "number", "()I"⟩ prog_4_method_8_code 1 (some FieldType.int) : Cond) ∈ am_tbl := am_w 791 rfl rfl
theorem l_Pars_219 : am_L "StowTongue$Parser" 219 0 m_Lexer_number := ⟨Or.inl w_788, w_146, w_791, ⟨by decide, by decide⟩, by decide +kernel, by decide⟩
theorem w_789 : (Cond.instanceMethod ⟨"StowTongue$Lexer", "number", "()I"⟩ : Cond) ∈ am_tbl := am_w 789 (by decide +kernel) (by decide +kernel)
theorem w_790 : (Cond.selects "StowTongue$Lexer" ⟨"StowTongue$Lexer", "number", "()I"⟩ ⟨"StowTongue$Lexer", "number", "()I"⟩ : Cond) ∈ am_tbl := am_w 790 (by decide +kernel) (by decide +kernel)
theorem d_Pars_atom_113 : decode prog_8_method_28_code 113 = .ok (.invokevirtual 141, 3) := by decide +kernel
theorem d_Pars_atom_116 : decode prog_8_method_28_code 116 = .ok (.aload_n 0, 1) := by decide +kernel
theorem d_Pars_atom_117 : decode prog_8_method_28_code 117 = .ok (.iconst 3, 1) := by decide +kernel
theorem d_Pars_atom_118 : decode prog_8_method_28_code 118 = .ok (.invokevirtual 106, 3) := by decide +kernel
theorem d_Pars_atom_121 : decode prog_8_method_28_code 121 = .ok (.goto 147, 3) := by decide +kernel
theorem d_Pars_atom_124 : decode prog_8_method_28_code 124 = .ok (.aload_n 0, 1) := by decide +kernel
theorem d_Pars_atom_125 : decode prog_8_method_28_code 125 = .ok (.getfield 28, 3) := by decide +kernel
theorem d_Pars_atom_128 : decode prog_8_method_28_code 128 = .ok (.bipush 12, 2) := by decide +kernel
theorem d_Pars_atom_130 : decode prog_8_method_28_code 130 = .ok (.aload_n 0, 1) := by decide +kernel
theorem d_Pars_atom_131 : decode prog_8_method_28_code 131 = .ok (.getfield 28, 3) := by decide +kernel
theorem d_Pars_atom_134 : decode prog_8_method_28_code 134 = .ok (.aload_n 0, 1) := by decide +kernel
theorem d_Pars_atom_135 : decode prog_8_method_28_code 135 = .ok (.getfield 12, 3) := by decide +kernel
theorem d_Pars_atom_138 : decode prog_8_method_28_code 138 = .ok (.invokevirtual 102, 3) := by decide +kernel
theorem d_Pars_atom_141 : decode prog_8_method_28_code 141 = .ok (.aload_n 0, 1) := by decide +kernel
theorem d_Pars_atom_142 : decode prog_8_method_28_code 142 = .ok (.getfield 12, 3) := by decide +kernel
theorem d_Pars_atom_145 : decode prog_8_method_28_code 145 = .ok (.invokevirtual 222, 3) := by decide +kernel
theorem w_792 : (Cond.methodLink "StowTongue$Parser" 222 ⟨"StowTongue$Lexer", "tail", "()J"⟩ : Cond) ∈ am_tbl := am_w 792 (by decide +kernel) (by decide +kernel)
set_option maxRecDepth 100000 in
theorem w_795 : (Cond.code ⟨"StowTongue$Lexer", "tail", "()J"⟩ prog_4_method_10_code 1 (some FieldType.long) : Cond) ∈ am_tbl := am_w 795 rfl rfl
theorem l_Pars_222 : am_L "StowTongue$Parser" 222 0 m_Lexer_tail := ⟨Or.inl w_792, w_146, w_795, ⟨by decide, by decide⟩, by decide +kernel, by decide⟩
theorem w_793 : (Cond.instanceMethod ⟨"StowTongue$Lexer", "tail", "()J"⟩ : Cond) ∈ am_tbl := am_w 793 (by decide +kernel) (by decide +kernel)
theorem w_794 : (Cond.selects "StowTongue$Lexer" ⟨"StowTongue$Lexer", "tail", "()J"⟩ ⟨"StowTongue$Lexer", "tail", "()J"⟩ : Cond) ∈ am_tbl := am_w 794 (by decide +kernel) (by decide +kernel)
theorem d_Pars_atom_148 : decode prog_8_method_28_code 148 = .ok (.invokevirtual 215, 3) := by decide +kernel
theorem d_Pars_atom_151 : decode prog_8_method_28_code 151 = .ok (.invokevirtual 141, 3) := by decide +kernel
theorem d_Pars_atom_154 : decode prog_8_method_28_code 154 = .ok (.aload_n 0, 1) := by decide +kernel
theorem d_Pars_atom_155 : decode prog_8_method_28_code 155 = .ok (.iconst 4, 1) := by decide +kernel
theorem d_Pars_atom_156 : decode prog_8_method_28_code 156 = .ok (.invokevirtual 106, 3) := by decide +kernel
theorem d_Pars_atom_159 : decode prog_8_method_28_code 159 = .ok (.goto 109, 3) := by decide +kernel
theorem d_Pars_atom_162 : decode prog_8_method_28_code 162 = .ok (.aload_n 0, 1) := by decide +kernel
theorem d_Pars_atom_163 : decode prog_8_method_28_code 163 = .ok (.getfield 28, 3) := by decide +kernel
theorem d_Pars_atom_166 : decode prog_8_method_28_code 166 = .ok (.bipush 10, 2) := by decide +kernel
theorem d_Pars_atom_168 : decode prog_8_method_28_code 168 = .ok (.iconst 0, 1) := by decide +kernel
theorem d_Pars_atom_169 : decode prog_8_method_28_code 169 = .ok (.invokevirtual 141, 3) := by decide +kernel
theorem d_Pars_atom_172 : decode prog_8_method_28_code 172 = .ok (.aload_n 0, 1) := by decide +kernel
theorem d_Pars_atom_173 : decode prog_8_method_28_code 173 = .ok (.bipush 13, 2) := by decide +kernel
theorem d_Pars_atom_175 : decode prog_8_method_28_code 175 = .ok (.invokevirtual 106, 3) := by decide +kernel
theorem d_Pars_atom_178 : decode prog_8_method_28_code 178 = .ok (.goto 90, 3) := by decide +kernel
theorem d_Pars_atom_190 : decode prog_8_method_28_code 190 = .ok (.aload_n 0, 1) := by decide +kernel
theorem d_Pars_atom_191 : decode prog_8_method_28_code 191 = .ok (.bipush 23, 2) := by decide +kernel
theorem d_Pars_atom_193 : decode prog_8_method_28_code 193 = .ok (.iload_n 1, 1) := by decide +kernel
theorem d_Pars_atom_194 : decode prog_8_method_28_code 194 = .ok (.invokevirtual 229, 3) := by decide +kernel
theorem w_808 : (Cond.methodLink "StowTongue$Parser" 229 ⟨"StowTongue$Parser", "withOne", "(II)V"⟩ : Cond) ∈ am_tbl := am_w 808 (by decide +kernel) (by decide +kernel)
set_option maxRecDepth 100000 in
theorem w_811 : (Cond.code ⟨"StowTongue$Parser", "withOne", "(II)V"⟩ prog_8_method_30_code 3 none : Cond) ∈ am_tbl := am_w 811 rfl rfl
theorem l_Pars_229 : am_L "StowTongue$Parser" 229 2 m_Pars_withOne := ⟨Or.inl w_808, w_145, w_811, ⟨by decide, by decide⟩, by decide +kernel, by decide⟩
theorem w_810 : (Cond.instanceMethod ⟨"StowTongue$Parser", "withOne", "(II)V"⟩ : Cond) ∈ am_tbl := am_w 810 (by decide +kernel) (by decide +kernel)
theorem w_25 : (Cond.selects "StowTongue$Parser" ⟨"StowTongue$Parser", "withOne", "(II)V"⟩ ⟨"StowTongue$Parser", "withOne", "(II)V"⟩ : Cond) ∈ am_tbl := am_w 25 (by decide +kernel) (by decide +kernel)
theorem d_Pars_atom_197 : decode prog_8_method_28_code 197 = .ok (.goto 71, 3) := by decide +kernel
theorem d_Pars_atom_210 : decode prog_8_method_28_code 210 = .ok (.aload_n 0, 1) := by decide +kernel
theorem d_Pars_atom_211 : decode prog_8_method_28_code 211 = .ok (.iload_n 1, 1) := by decide +kernel
theorem d_Pars_atom_212 : decode prog_8_method_28_code 212 = .ok (.invokevirtual 232, 3) := by decide +kernel
theorem w_816 : (Cond.methodLink "StowTongue$Parser" 232 ⟨"StowTongue$Parser", "pushAtom", "(I)V"⟩ : Cond) ∈ am_tbl := am_w 816 (by decide +kernel) (by decide +kernel)
set_option maxRecDepth 100000 in
theorem w_819 : (Cond.code ⟨"StowTongue$Parser", "pushAtom", "(I)V"⟩ prog_8_method_32_code 2 none : Cond) ∈ am_tbl := am_w 819 rfl rfl
theorem l_Pars_232 : am_L "StowTongue$Parser" 232 1 m_Pars_pushAtom := ⟨Or.inl w_816, w_145, w_819, ⟨by decide, by decide⟩, by decide +kernel, by decide⟩
theorem w_818 : (Cond.instanceMethod ⟨"StowTongue$Parser", "pushAtom", "(I)V"⟩ : Cond) ∈ am_tbl := am_w 818 (by decide +kernel) (by decide +kernel)
theorem w_27 : (Cond.selects "StowTongue$Parser" ⟨"StowTongue$Parser", "pushAtom", "(I)V"⟩ ⟨"StowTongue$Parser", "pushAtom", "(I)V"⟩ : Cond) ∈ am_tbl := am_w 27 (by decide +kernel) (by decide +kernel)
theorem d_Pars_atom_215 : decode prog_8_method_28_code 215 = .ok (.goto 53, 3) := by decide +kernel
theorem d_Pars_atom_200 : decode prog_8_method_28_code 200 = .ok (.aload_n 0, 1) := by decide +kernel
theorem d_Pars_atom_201 : decode prog_8_method_28_code 201 = .ok (.bipush 25, 2) := by decide +kernel
theorem d_Pars_atom_203 : decode prog_8_method_28_code 203 = .ok (.iload_n 1, 1) := by decide +kernel
theorem d_Pars_atom_204 : decode prog_8_method_28_code 204 = .ok (.invokevirtual 229, 3) := by decide +kernel
theorem d_Pars_atom_207 : decode prog_8_method_28_code 207 = .ok (.goto 61, 3) := by decide +kernel
theorem d_Pars_atom_218 : decode prog_8_method_28_code 218 = .ok (.aload_n 0, 1) := by decide +kernel
theorem d_Pars_atom_219 : decode prog_8_method_28_code 219 = .ok (.iload_n 1, 1) := by decide +kernel
theorem d_Pars_atom_220 : decode prog_8_method_28_code 220 = .ok (.invokevirtual 235, 3) := by decide +kernel
theorem w_812 : (Cond.methodLink "StowTongue$Parser" 235 ⟨"StowTongue$Parser", "inBrackets", "(I)V"⟩ : Cond) ∈ am_tbl := am_w 812 (by decide +kernel) (by decide +kernel)
set_option maxRecDepth 100000 in
theorem w_815 : (Cond.code ⟨"StowTongue$Parser", "inBrackets", "(I)V"⟩ prog_8_method_31_code 2 none : Cond) ∈ am_tbl := am_w 815 rfl rfl
theorem l_Pars_235 : am_L "StowTongue$Parser" 235 1 m_Pars_inBrackets := ⟨Or.inl w_812, w_145, w_815, ⟨by decide, by decide⟩, by decide +kernel, by decide⟩
theorem w_814 : (Cond.instanceMethod ⟨"StowTongue$Parser", "inBrackets", "(I)V"⟩ : Cond) ∈ am_tbl := am_w 814 (by decide +kernel) (by decide +kernel)
theorem w_26 : (Cond.selects "StowTongue$Parser" ⟨"StowTongue$Parser", "inBrackets", "(I)V"⟩ ⟨"StowTongue$Parser", "inBrackets", "(I)V"⟩ : Cond) ∈ am_tbl := am_w 26 (by decide +kernel) (by decide +kernel)
theorem d_Pars_atom_223 : decode prog_8_method_28_code 223 = .ok (.goto 45, 3) := by decide +kernel
theorem d_Pars_atom_243 : decode prog_8_method_28_code 243 = .ok (.aload_n 0, 1) := by decide +kernel
theorem d_Pars_atom_244 : decode prog_8_method_28_code 244 = .ok (.getfield 28, 3) := by decide +kernel
theorem d_Pars_atom_247 : decode prog_8_method_28_code 247 = .ok (.bipush 22, 2) := by decide +kernel
theorem d_Pars_atom_249 : decode prog_8_method_28_code 249 = .ok (.aload_n 0, 1) := by decide +kernel
theorem d_Pars_atom_250 : decode prog_8_method_28_code 250 = .ok (.bipush 91, 2) := by decide +kernel
theorem d_Pars_atom_252 : decode prog_8_method_28_code 252 = .ok (.bipush 93, 2) := by decide +kernel
theorem d_Pars_atom_254 : decode prog_8_method_28_code 254 = .ok (.iload_n 1, 1) := by decide +kernel
theorem d_Pars_atom_255 : decode prog_8_method_28_code 255 = .ok (.invokevirtual 241, 3) := by decide +kernel
theorem w_804 : (Cond.methodLink "StowTongue$Parser" 241 ⟨"StowTongue$Parser", "list", "(III)I"⟩ : Cond) ∈ am_tbl := am_w 804 (by decide +kernel) (by decide +kernel)
set_option maxRecDepth 100000 in
theorem w_807 : (Cond.code ⟨"StowTongue$Parser", "list", "(III)I"⟩ prog_8_method_33_code 5 (some FieldType.int) : Cond) ∈ am_tbl := am_w 807 rfl rfl
theorem l_Pars_241 : am_L "StowTongue$Parser" 241 3 m_Pars_list := ⟨Or.inl w_804, w_145, w_807, ⟨by decide, by decide⟩, by decide +kernel, by decide⟩
theorem w_806 : (Cond.instanceMethod ⟨"StowTongue$Parser", "list", "(III)I"⟩ : Cond) ∈ am_tbl := am_w 806 (by decide +kernel) (by decide +kernel)
theorem w_24 : (Cond.selects "StowTongue$Parser" ⟨"StowTongue$Parser", "list", "(III)I"⟩ ⟨"StowTongue$Parser", "list", "(III)I"⟩ : Cond) ∈ am_tbl := am_w 24 (by decide +kernel) (by decide +kernel)
theorem d_Pars_atom_258 : decode prog_8_method_28_code 258 = .ok (.invokevirtual 141, 3) := by decide +kernel
theorem d_Pars_atom_261 : decode prog_8_method_28_code 261 = .ok (.goto 7, 3) := by decide +kernel
theorem d_Pars_atom_226 : decode prog_8_method_28_code 226 = .ok (.aload_n 0, 1) := by decide +kernel
theorem d_Pars_atom_227 : decode prog_8_method_28_code 227 = .ok (.getfield 28, 3) := by decide +kernel
theorem d_Pars_atom_230 : decode prog_8_method_28_code 230 = .ok (.bipush 21, 2) := by decide +kernel
theorem d_Pars_atom_232 : decode prog_8_method_28_code 232 = .ok (.aload_n 0, 1) := by decide +kernel
theorem d_Pars_atom_233 : decode prog_8_method_28_code 233 = .ok (.iload_n 1, 1) := by decide +kernel
theorem d_Pars_atom_234 : decode prog_8_method_28_code 234 = .ok (.invokevirtual 238, 3) := by decide +kernel
theorem w_820 : (Cond.methodLink "StowTongue$Parser" 238 ⟨"StowTongue$Parser", "fields", "(I)I"⟩ : Cond) ∈ am_tbl := am_w 820 (by decide +kernel) (by decide +kernel)
set_option maxRecDepth 100000 in
theorem w_823 : (Cond.code ⟨"StowTongue$Parser", "fields", "(I)I"⟩ prog_8_method_34_code 3 (some FieldType.int) : Cond) ∈ am_tbl := am_w 823 rfl rfl
theorem l_Pars_238 : am_L "StowTongue$Parser" 238 1 m_Pars_fields := ⟨Or.inl w_820, w_145, w_823, ⟨by decide, by decide⟩, by decide +kernel, by decide⟩
theorem w_822 : (Cond.instanceMethod ⟨"StowTongue$Parser", "fields", "(I)I"⟩ : Cond) ∈ am_tbl := am_w 822 (by decide +kernel) (by decide +kernel)
theorem w_28 : (Cond.selects "StowTongue$Parser" ⟨"StowTongue$Parser", "fields", "(I)I"⟩ ⟨"StowTongue$Parser", "fields", "(I)I"⟩ : Cond) ∈ am_tbl := am_w 28 (by decide +kernel) (by decide +kernel)
theorem d_Pars_atom_237 : decode prog_8_method_28_code 237 = .ok (.invokevirtual 141, 3) := by decide +kernel
theorem d_Pars_atom_240 : decode prog_8_method_28_code 240 = .ok (.goto 28, 3) := by decide +kernel
theorem d_Pars_atom_264 : decode prog_8_method_28_code 264 = .ok (.aload_n 0, 1) := by decide +kernel
theorem d_Pars_atom_265 : decode prog_8_method_28_code 265 = .ok (.invokevirtual 99, 3) := by decide +kernel
theorem d_Pars_variableOrCall_0 : decode prog_8_method_29_code 0 = .ok (.aload_n 0, 1) := by decide +kernel
theorem d_Pars_variableOrCall_1 : decode prog_8_method_29_code 1 = .ok (.invokevirtual 109, 3) := by decide +kernel
theorem d_Pars_variableOrCall_4 : decode prog_8_method_29_code 4 = .ok (.lstore_n 2, 1) := by decide +kernel
theorem d_Pars_variableOrCall_5 : decode prog_8_method_29_code 5 = .ok (.aload_n 0, 1) := by decide +kernel
theorem d_Pars_variableOrCall_6 : decode prog_8_method_29_code 6 = .ok (.getfield 12, 3) := by decide +kernel
theorem d_Pars_variableOrCall_9 : decode prog_8_method_29_code 9 = .ok (.invokevirtual 59, 3) := by decide +kernel
theorem d_Pars_variableOrCall_12 : decode prog_8_method_29_code 12 = .ok (.bipush 40, 2) := by decide +kernel
theorem d_Pars_variableOrCall_14 : decode prog_8_method_29_code 14 = .ok (.if_icmp .ne 35, 3) := by decide +kernel
theorem d_Pars_variableOrCall_17 : decode prog_8_method_29_code 17 = .ok (.aload_n 0, 1) := by decide +kernel
theorem d_Pars_variableOrCall_18 : decode prog_8_method_29_code 18 = .ok (.bipush 40, 2) := by decide +kernel
theorem d_Pars_variableOrCall_20 : decode prog_8_method_29_code 20 = .ok (.bipush 41, 2) := by decide +kernel
theorem d_Pars_variableOrCall_22 : decode prog_8_method_29_code 22 = .ok (.iload_n 1, 1) := by decide +kernel
theorem d_Pars_variableOrCall_23 : decode prog_8_method_29_code 23 = .ok (.invokevirtual 241, 3) := by decide +kernel
theorem d_Pars_variableOrCall_26 : decode prog_8_method_29_code 26 = .ok (.istore 4, 2) := by decide +kernel
theorem d_Pars_variableOrCall_28 : decode prog_8_method_29_code 28 = .ok (.aload_n 0, 1) := by decide +kernel
theorem d_Pars_variableOrCall_29 : decode prog_8_method_29_code 29 = .ok (.getfield 28, 3) := by decide +kernel
theorem d_Pars_variableOrCall_32 : decode prog_8_method_29_code 32 = .ok (.iconst 5, 1) := by decide +kernel
theorem d_Pars_variableOrCall_33 : decode prog_8_method_29_code 33 = .ok (.aload_n 0, 1) := by decide +kernel
theorem d_Pars_variableOrCall_34 : decode prog_8_method_29_code 34 = .ok (.getfield 28, 3) := by decide +kernel
theorem d_Pars_variableOrCall_37 : decode prog_8_method_29_code 37 = .ok (.lload_n 2, 1) := by decide +kernel
theorem d_Pars_variableOrCall_38 : decode prog_8_method_29_code 38 = .ok (.iload 4, 2) := by decide +kernel
theorem d_Pars_variableOrCall_40 : decode prog_8_method_29_code 40 = .ok (.i2l, 1) := by decide +kernel
theorem d_Pars_variableOrCall_41 : decode prog_8_method_29_code 41 = .ok (.invokevirtual 215, 3) := by decide +kernel
theorem d_Pars_variableOrCall_44 : decode prog_8_method_29_code 44 = .ok (.invokevirtual 141, 3) := by decide +kernel
theorem d_Pars_variableOrCall_47 : decode prog_8_method_29_code 47 = .ok (.iconst 0, 1) := by decide +kernel
theorem d_Pars_variableOrCall_48 : decode prog_8_method_29_code 48 = .ok (.ireturn, 1) := by decide +kernel
theorem d_Pars_variableOrCall_49 : decode prog_8_method_29_code 49 = .ok (.aload_n 0, 1) := by decide +kernel
theorem d_Pars_variableOrCall_50 : decode prog_8_method_29_code 50 = .ok (.getfield 28, 3) := by decide +kernel
theorem d_Pars_variableOrCall_53 : decode prog_8_method_29_code 53 = .ok (.lload_n 2, 1) := by decide +kernel
theorem d_Pars_variableOrCall_54 : decode prog_8_method_29_code 54 = .ok (.invokevirtual 128, 3) := by decide +kernel
theorem d_Pars_variableOrCall_57 : decode prog_8_method_29_code 57 = .ok (.istore 4, 2) := by decide +kernel
theorem d_Pars_variableOrCall_59 : decode prog_8_method_29_code 59 = .ok (.iload 4, 2) := by decide +kernel
theorem d_Pars_variableOrCall_61 : decode prog_8_method_29_code 61 = .ok (.ifCond .lt 17, 3) := by decide +kernel
theorem d_Pars_variableOrCall_78 : decode prog_8_method_29_code 78 = .ok (.aload_n 0, 1) := by decide +kernel
theorem d_Pars_variableOrCall_79 : decode prog_8_method_29_code 79 = .ok (.getfield 28, 3) := by decide +kernel
theorem d_Pars_variableOrCall_82 : decode prog_8_method_29_code 82 = .ok (.bipush 15, 2) := by decide +kernel
theorem d_Pars_variableOrCall_84 : decode prog_8_method_29_code 84 = .ok (.aload_n 0, 1) := by decide +kernel
theorem d_Pars_variableOrCall_85 : decode prog_8_method_29_code 85 = .ok (.getfield 28, 3) := by decide +kernel
theorem d_Pars_variableOrCall_88 : decode prog_8_method_29_code 88 = .ok (.lload_n 2, 1) := by decide +kernel
theorem d_Pars_variableOrCall_89 : decode prog_8_method_29_code 89 = .ok (.lconst 0, 1) := by decide +kernel
theorem d_Pars_variableOrCall_90 : decode prog_8_method_29_code 90 = .ok (.invokevirtual 215, 3) := by decide +kernel
theorem d_Pars_variableOrCall_93 : decode prog_8_method_29_code 93 = .ok (.invokevirtual 141, 3) := by decide +kernel
theorem d_Pars_variableOrCall_96 : decode prog_8_method_29_code 96 = .ok (.iconst 1, 1) := by decide +kernel
theorem d_Pars_variableOrCall_97 : decode prog_8_method_29_code 97 = .ok (.ireturn, 1) := by decide +kernel
theorem d_Pars_variableOrCall_64 : decode prog_8_method_29_code 64 = .ok (.aload_n 0, 1) := by decide +kernel
theorem d_Pars_variableOrCall_65 : decode prog_8_method_29_code 65 = .ok (.getfield 28, 3) := by decide +kernel
theorem d_Pars_variableOrCall_68 : decode prog_8_method_29_code 68 = .ok (.bipush 13, 2) := by decide +kernel
theorem d_Pars_variableOrCall_70 : decode prog_8_method_29_code 70 = .ok (.iload 4, 2) := by decide +kernel
theorem d_Pars_variableOrCall_72 : decode prog_8_method_29_code 72 = .ok (.invokevirtual 141, 3) := by decide +kernel
theorem d_Pars_variableOrCall_75 : decode prog_8_method_29_code 75 = .ok (.goto 21, 3) := by decide +kernel
theorem d_Pars_withOne_0 : decode prog_8_method_30_code 0 = .ok (.aload_n 0, 1) := by decide +kernel
theorem d_Pars_withOne_1 : decode prog_8_method_30_code 1 = .ok (.aload_n 0, 1) := by decide +kernel
theorem d_Pars_withOne_2 : decode prog_8_method_30_code 2 = .ok (.getfield 12, 3) := by decide +kernel
theorem d_Pars_withOne_5 : decode prog_8_method_30_code 5 = .ok (.invokevirtual 59, 3) := by decide +kernel
theorem d_Pars_withOne_8 : decode prog_8_method_30_code 8 = .ok (.invokevirtual 106, 3) := by decide +kernel
theorem d_Pars_withOne_11 : decode prog_8_method_30_code 11 = .ok (.aload_n 0, 1) := by decide +kernel
theorem d_Pars_withOne_12 : decode prog_8_method_30_code 12 = .ok (.iload_n 2, 1) := by decide +kernel
theorem d_Pars_withOne_13 : decode prog_8_method_30_code 13 = .ok (.invokevirtual 235, 3) := by decide +kernel
theorem d_Pars_withOne_16 : decode prog_8_method_30_code 16 = .ok (.aload_n 0, 1) := by decide +kernel
theorem d_Pars_withOne_17 : decode prog_8_method_30_code 17 = .ok (.getfield 28, 3) := by decide +kernel
theorem d_Pars_withOne_20 : decode prog_8_method_30_code 20 = .ok (.iload_n 1, 1) := by decide +kernel
theorem d_Pars_withOne_21 : decode prog_8_method_30_code 21 = .ok (.iconst 0, 1) := by decide +kernel
theorem d_Pars_withOne_22 : decode prog_8_method_30_code 22 = .ok (.invokevirtual 141, 3) := by decide +kernel
theorem d_Pars_withOne_25 : decode prog_8_method_30_code 25 = .ok (.return_, 1) := by decide +kernel
theorem d_Pars_inBrackets_0 : decode prog_8_method_31_code 0 = .ok (.aload_n 0, 1) := by decide +kernel
theorem d_Pars_inBrackets_1 : decode prog_8_method_31_code 1 = .ok (.bipush 40, 2) := by decide +kernel
theorem d_Pars_inBrackets_3 : decode prog_8_method_31_code 3 = .ok (.iload_n 1, 1) := by decide +kernel
theorem d_Pars_inBrackets_4 : decode prog_8_method_31_code 4 = .ok (.invokevirtual 135, 3) := by decide +kernel
theorem d_Pars_inBrackets_7 : decode prog_8_method_31_code 7 = .ok (.ifCond .eq 16, 3) := by decide +kernel
theorem d_Pars_inBrackets_23 : decode prog_8_method_31_code 23 = .ok (.return_, 1) := by decide +kernel
theorem d_Pars_inBrackets_10 : decode prog_8_method_31_code 10 = .ok (.aload_n 0, 1) := by decide +kernel
theorem d_Pars_inBrackets_11 : decode prog_8_method_31_code 11 = .ok (.iload_n 1, 1) := by decide +kernel
theorem d_Pars_inBrackets_12 : decode prog_8_method_31_code 12 = .ok (.iconst 1, 1) := by decide +kernel
theorem d_Pars_inBrackets_13 : decode prog_8_method_31_code 13 = .ok (.iadd, 1) := by decide +kernel
theorem d_Pars_inBrackets_14 : decode prog_8_method_31_code 14 = .ok (.invokevirtual 156, 3) := by decide +kernel
theorem d_Pars_inBrackets_17 : decode prog_8_method_31_code 17 = .ok (.aload_n 0, 1) := by decide +kernel
theorem d_Pars_inBrackets_18 : decode prog_8_method_31_code 18 = .ok (.bipush 41, 2) := by decide +kernel
theorem d_Pars_inBrackets_20 : decode prog_8_method_31_code 20 = .ok (.invokevirtual 106, 3) := by decide +kernel
theorem d_Pars_pushAtom_0 : decode prog_8_method_32_code 0 = .ok (.aload_n 0, 1) := by decide +kernel
theorem d_Pars_pushAtom_1 : decode prog_8_method_32_code 1 = .ok (.bipush 15, 2) := by decide +kernel
theorem d_Pars_pushAtom_3 : decode prog_8_method_32_code 3 = .ok (.invokevirtual 106, 3) := by decide +kernel
theorem d_Pars_pushAtom_6 : decode prog_8_method_32_code 6 = .ok (.aload_n 0, 1) := by decide +kernel
theorem d_Pars_pushAtom_7 : decode prog_8_method_32_code 7 = .ok (.bipush 40, 2) := by decide +kernel
theorem d_Pars_pushAtom_9 : decode prog_8_method_32_code 9 = .ok (.iload_n 1, 1) := by decide +kernel
theorem d_Pars_pushAtom_10 : decode prog_8_method_32_code 10 = .ok (.invokevirtual 135, 3) := by decide +kernel
theorem d_Pars_pushAtom_13 : decode prog_8_method_32_code 13 = .ok (.ifCond .eq 29, 3) := by decide +kernel
theorem d_Pars_pushAtom_42 : decode prog_8_method_32_code 42 = .ok (.aload_n 0, 1) := by decide +kernel
theorem d_Pars_pushAtom_43 : decode prog_8_method_32_code 43 = .ok (.getfield 28, 3) := by decide +kernel
theorem d_Pars_pushAtom_46 : decode prog_8_method_32_code 46 = .ok (.bipush 24, 2) := by decide +kernel
theorem d_Pars_pushAtom_48 : decode prog_8_method_32_code 48 = .ok (.iconst 0, 1) := by decide +kernel
theorem d_Pars_pushAtom_49 : decode prog_8_method_32_code 49 = .ok (.invokevirtual 141, 3) := by decide +kernel
theorem d_Pars_pushAtom_52 : decode prog_8_method_32_code 52 = .ok (.return_, 1) := by decide +kernel
theorem d_Pars_pushAtom_16 : decode prog_8_method_32_code 16 = .ok (.aload_n 0, 1) := by decide +kernel
theorem d_Pars_pushAtom_17 : decode prog_8_method_32_code 17 = .ok (.iload_n 1, 1) := by decide +kernel
theorem d_Pars_pushAtom_18 : decode prog_8_method_32_code 18 = .ok (.iconst 1, 1) := by decide +kernel
theorem d_Pars_pushAtom_19 : decode prog_8_method_32_code 19 = .ok (.iadd, 1) := by decide +kernel
theorem d_Pars_pushAtom_20 : decode prog_8_method_32_code 20 = .ok (.invokevirtual 156, 3) := by decide +kernel
theorem d_Pars_pushAtom_23 : decode prog_8_method_32_code 23 = .ok (.aload_n 0, 1) := by decide +kernel
theorem d_Pars_pushAtom_24 : decode prog_8_method_32_code 24 = .ok (.bipush 44, 2) := by decide +kernel
theorem d_Pars_pushAtom_26 : decode prog_8_method_32_code 26 = .ok (.invokevirtual 106, 3) := by decide +kernel
theorem d_Pars_pushAtom_29 : decode prog_8_method_32_code 29 = .ok (.aload_n 0, 1) := by decide +kernel
theorem d_Pars_pushAtom_30 : decode prog_8_method_32_code 30 = .ok (.iload_n 1, 1) := by decide +kernel
theorem d_Pars_pushAtom_31 : decode prog_8_method_32_code 31 = .ok (.iconst 1, 1) := by decide +kernel
theorem d_Pars_pushAtom_32 : decode prog_8_method_32_code 32 = .ok (.iadd, 1) := by decide +kernel
theorem d_Pars_pushAtom_33 : decode prog_8_method_32_code 33 = .ok (.invokevirtual 156, 3) := by decide +kernel
theorem d_Pars_pushAtom_36 : decode prog_8_method_32_code 36 = .ok (.aload_n 0, 1) := by decide +kernel
theorem d_Pars_pushAtom_37 : decode prog_8_method_32_code 37 = .ok (.bipush 41, 2) := by decide +kernel
theorem d_Pars_pushAtom_39 : decode prog_8_method_32_code 39 = .ok (.invokevirtual 106, 3) := by decide +kernel
theorem d_Pars_list_0 : decode prog_8_method_33_code 0 = .ok (.iconst 0, 1) := by decide +kernel
theorem d_Pars_list_1 : decode prog_8_method_33_code 1 = .ok (.istore 4, 2) := by decide +kernel
theorem d_Pars_list_3 : decode prog_8_method_33_code 3 = .ok (.aload_n 0, 1) := by decide +kernel
theorem d_Pars_list_4 : decode prog_8_method_33_code 4 = .ok (.iload_n 1, 1) := by decide +kernel
theorem d_Pars_list_5 : decode prog_8_method_33_code 5 = .ok (.iload_n 3, 1) := by decide +kernel
theorem d_Pars_list_6 : decode prog_8_method_33_code 6 = .ok (.invokevirtual 135, 3) := by decide +kernel
theorem d_Pars_list_9 : decode prog_8_method_33_code 9 = .ok (.ifCond .eq 63, 3) := by decide +kernel
theorem d_Pars_list_72 : decode prog_8_method_33_code 72 = .ok (.aload_n 0, 1) := by decide +kernel
theorem d_Pars_list_73 : decode prog_8_method_33_code 73 = .ok (.iload_n 2, 1) := by decide +kernel
theorem d_Pars_list_74 : decode prog_8_method_33_code 74 = .ok (.invokevirtual 106, 3) := by decide +kernel
theorem d_Pars_list_77 : decode prog_8_method_33_code 77 = .ok (.iload 4, 2) := by decide +kernel
theorem d_Pars_list_79 : decode prog_8_method_33_code 79 = .ok (.ireturn, 1) := by decide +kernel
theorem d_Pars_list_12 : decode prog_8_method_33_code 12 = .ok (.aload_n 0, 1) := by decide +kernel
theorem d_Pars_list_13 : decode prog_8_method_33_code 13 = .ok (.getfield 12, 3) := by decide +kernel
theorem d_Pars_list_16 : decode prog_8_method_33_code 16 = .ok (.invokevirtual 59, 3) := by decide +kernel
theorem d_Pars_list_19 : decode prog_8_method_33_code 19 = .ok (.iload_n 2, 1) := by decide +kernel
theorem d_Pars_list_20 : decode prog_8_method_33_code 20 = .ok (.if_icmp .eq 52, 3) := by decide +kernel
theorem d_Pars_list_23 : decode prog_8_method_33_code 23 = .ok (.aload_n 0, 1) := by decide +kernel
theorem d_Pars_list_24 : decode prog_8_method_33_code 24 = .ok (.iload_n 3, 1) := by decide +kernel
theorem d_Pars_list_25 : decode prog_8_method_33_code 25 = .ok (.iconst 1, 1) := by decide +kernel
theorem d_Pars_list_26 : decode prog_8_method_33_code 26 = .ok (.iadd, 1) := by decide +kernel
theorem d_Pars_list_27 : decode prog_8_method_33_code 27 = .ok (.invokevirtual 156, 3) := by decide +kernel
theorem d_Pars_list_30 : decode prog_8_method_33_code 30 = .ok (.iconst 1, 1) := by decide +kernel
theorem d_Pars_list_31 : decode prog_8_method_33_code 31 = .ok (.istore 4, 2) := by decide +kernel
theorem d_Pars_list_33 : decode prog_8_method_33_code 33 = .ok (.iload 4, 2) := by decide +kernel
theorem d_Pars_list_35 : decode prog_8_method_33_code 35 = .ok (.sipush 1500, 3) := by decide +kernel
theorem d_Pars_list_38 : decode prog_8_method_33_code 38 = .ok (.if_icmp .ge 34, 3) := by decide +kernel
theorem d_Pars_list_41 : decode prog_8_method_33_code 41 = .ok (.aload_n 0, 1) := by decide +kernel
theorem d_Pars_list_42 : decode prog_8_method_33_code 42 = .ok (.getfield 12, 3) := by decide +kernel
theorem d_Pars_list_45 : decode prog_8_method_33_code 45 = .ok (.invokevirtual 59, 3) := by decide +kernel
theorem d_Pars_list_48 : decode prog_8_method_33_code 48 = .ok (.bipush 44, 2) := by decide +kernel
theorem d_Pars_list_50 : decode prog_8_method_33_code 50 = .ok (.if_icmp .ne 22, 3) := by decide +kernel
theorem d_Pars_list_53 : decode prog_8_method_33_code 53 = .ok (.aload_n 0, 1) := by decide +kernel
theorem d_Pars_list_54 : decode prog_8_method_33_code 54 = .ok (.bipush 44, 2) := by decide +kernel
theorem d_Pars_list_56 : decode prog_8_method_33_code 56 = .ok (.invokevirtual 106, 3) := by decide +kernel
theorem d_Pars_list_59 : decode prog_8_method_33_code 59 = .ok (.aload_n 0, 1) := by decide +kernel
theorem d_Pars_list_60 : decode prog_8_method_33_code 60 = .ok (.iload_n 3, 1) := by decide +kernel
theorem d_Pars_list_61 : decode prog_8_method_33_code 61 = .ok (.iconst 1, 1) := by decide +kernel
theorem d_Pars_list_62 : decode prog_8_method_33_code 62 = .ok (.iadd, 1) := by decide +kernel
theorem d_Pars_list_63 : decode prog_8_method_33_code 63 = .ok (.invokevirtual 156, 3) := by decide +kernel
theorem d_Pars_list_66 : decode prog_8_method_33_code 66 = .ok (.iinc 4 1, 3) := by decide +kernel
theorem d_Pars_list_69 : decode prog_8_method_33_code 69 = .ok (.goto (-36), 3) := by decide +kernel
theorem d_Pars_fields_0 : decode prog_8_method_34_code 0 = .ok (.iconst 0, 1) := by decide +kernel
theorem d_Pars_fields_1 : decode prog_8_method_34_code 1 = .ok (.istore_n 2, 1) := by decide +kernel
theorem d_Pars_fields_2 : decode prog_8_method_34_code 2 = .ok (.aload_n 0, 1) := by decide +kernel
theorem d_Pars_fields_3 : decode prog_8_method_34_code 3 = .ok (.bipush 123, 2) := by decide +kernel
theorem d_Pars_fields_5 : decode prog_8_method_34_code 5 = .ok (.iload_n 1, 1) := by decide +kernel
theorem d_Pars_fields_6 : decode prog_8_method_34_code 6 = .ok (.invokevirtual 135, 3) := by decide +kernel
theorem d_Pars_fields_9 : decode prog_8_method_34_code 9 = .ok (.ifCond .eq 62, 3) := by decide +kernel
theorem d_Pars_fields_71 : decode prog_8_method_34_code 71 = .ok (.aload_n 0, 1) := by decide +kernel
theorem d_Pars_fields_72 : decode prog_8_method_34_code 72 = .ok (.bipush 125, 2) := by decide +kernel
theorem d_Pars_fields_74 : decode prog_8_method_34_code 74 = .ok (.invokevirtual 106, 3) := by decide +kernel
theorem d_Pars_fields_77 : decode prog_8_method_34_code 77 = .ok (.iload_n 2, 1) := by decide +kernel
theorem d_Pars_fields_78 : decode prog_8_method_34_code 78 = .ok (.ireturn, 1) := by decide +kernel
theorem d_Pars_fields_12 : decode prog_8_method_34_code 12 = .ok (.aload_n 0, 1) := by decide +kernel
theorem d_Pars_fields_13 : decode prog_8_method_34_code 13 = .ok (.getfield 12, 3) := by decide +kernel
theorem d_Pars_fields_16 : decode prog_8_method_34_code 16 = .ok (.invokevirtual 59, 3) := by decide +kernel
theorem d_Pars_fields_19 : decode prog_8_method_34_code 19 = .ok (.bipush 125, 2) := by decide +kernel
theorem d_Pars_fields_21 : decode prog_8_method_34_code 21 = .ok (.if_icmp .eq 50, 3) := by decide +kernel
theorem d_Pars_fields_24 : decode prog_8_method_34_code 24 = .ok (.aload_n 0, 1) := by decide +kernel
theorem d_Pars_fields_25 : decode prog_8_method_34_code 25 = .ok (.iload_n 1, 1) := by decide +kernel
theorem d_Pars_fields_26 : decode prog_8_method_34_code 26 = .ok (.iconst 1, 1) := by decide +kernel
theorem d_Pars_fields_27 : decode prog_8_method_34_code 27 = .ok (.iadd, 1) := by decide +kernel
theorem d_Pars_fields_28 : decode prog_8_method_34_code 28 = .ok (.invokevirtual 245, 3) := by decide +kernel
theorem w_824 : (Cond.methodLink "StowTongue$Parser" 245 ⟨"StowTongue$Parser", "field", "(I)V"⟩ : Cond) ∈ am_tbl := am_w 824 (by decide +kernel) (by decide +kernel)
set_option maxRecDepth 100000 in
theorem w_827 : (Cond.code ⟨"StowTongue$Parser", "field", "(I)V"⟩ prog_8_method_35_code 2 none : Cond) ∈ am_tbl := am_w 827 rfl rfl
theorem l_Pars_245 : am_L "StowTongue$Parser" 245 1 m_Pars_field := ⟨Or.inl w_824, w_145, w_827, ⟨by decide, by decide⟩, by decide +kernel, by decide⟩
theorem w_826 : (Cond.instanceMethod ⟨"StowTongue$Parser", "field", "(I)V"⟩ : Cond) ∈ am_tbl := am_w 826 (by decide +kernel) (by decide +kernel)
theorem w_29 : (Cond.selects "StowTongue$Parser" ⟨"StowTongue$Parser", "field", "(I)V"⟩ ⟨"StowTongue$Parser", "field", "(I)V"⟩ : Cond) ∈ am_tbl := am_w 29 (by decide +kernel) (by decide +kernel)
theorem d_Pars_fields_31 : decode prog_8_method_34_code 31 = .ok (.iconst 1, 1) := by decide +kernel
theorem d_Pars_fields_32 : decode prog_8_method_34_code 32 = .ok (.istore_n 2, 1) := by decide +kernel
theorem d_Pars_fields_33 : decode prog_8_method_34_code 33 = .ok (.iload_n 2, 1) := by decide +kernel
theorem d_Pars_fields_34 : decode prog_8_method_34_code 34 = .ok (.sipush 1500, 3) := by decide +kernel
theorem d_Pars_fields_37 : decode prog_8_method_34_code 37 = .ok (.if_icmp .ge 34, 3) := by decide +kernel
theorem d_Pars_fields_40 : decode prog_8_method_34_code 40 = .ok (.aload_n 0, 1) := by decide +kernel
theorem d_Pars_fields_41 : decode prog_8_method_34_code 41 = .ok (.getfield 12, 3) := by decide +kernel
theorem d_Pars_fields_44 : decode prog_8_method_34_code 44 = .ok (.invokevirtual 59, 3) := by decide +kernel
theorem d_Pars_fields_47 : decode prog_8_method_34_code 47 = .ok (.bipush 44, 2) := by decide +kernel
theorem d_Pars_fields_49 : decode prog_8_method_34_code 49 = .ok (.if_icmp .ne 22, 3) := by decide +kernel
theorem d_Pars_fields_52 : decode prog_8_method_34_code 52 = .ok (.aload_n 0, 1) := by decide +kernel
theorem d_Pars_fields_53 : decode prog_8_method_34_code 53 = .ok (.bipush 44, 2) := by decide +kernel
theorem d_Pars_fields_55 : decode prog_8_method_34_code 55 = .ok (.invokevirtual 106, 3) := by decide +kernel
theorem d_Pars_fields_58 : decode prog_8_method_34_code 58 = .ok (.aload_n 0, 1) := by decide +kernel
theorem d_Pars_fields_59 : decode prog_8_method_34_code 59 = .ok (.iload_n 1, 1) := by decide +kernel
theorem d_Pars_fields_60 : decode prog_8_method_34_code 60 = .ok (.iconst 1, 1) := by decide +kernel
theorem d_Pars_fields_61 : decode prog_8_method_34_code 61 = .ok (.iadd, 1) := by decide +kernel
theorem d_Pars_fields_62 : decode prog_8_method_34_code 62 = .ok (.invokevirtual 245, 3) := by decide +kernel
theorem d_Pars_fields_65 : decode prog_8_method_34_code 65 = .ok (.iinc 2 1, 3) := by decide +kernel
theorem d_Pars_fields_68 : decode prog_8_method_34_code 68 = .ok (.goto (-35), 3) := by decide +kernel
theorem d_Pars_field_0 : decode prog_8_method_35_code 0 = .ok (.aload_n 0, 1) := by decide +kernel
theorem d_Pars_field_1 : decode prog_8_method_35_code 1 = .ok (.getfield 28, 3) := by decide +kernel
theorem d_Pars_field_4 : decode prog_8_method_35_code 4 = .ok (.bipush 12, 2) := by decide +kernel
theorem d_Pars_field_6 : decode prog_8_method_35_code 6 = .ok (.aload_n 0, 1) := by decide +kernel
theorem d_Pars_field_7 : decode prog_8_method_35_code 7 = .ok (.aload_n 0, 1) := by decide +kernel
theorem d_Pars_field_8 : decode prog_8_method_35_code 8 = .ok (.invokevirtual 109, 3) := by decide +kernel
theorem d_Pars_field_11 : decode prog_8_method_35_code 11 = .ok (.invokevirtual 206, 3) := by decide +kernel
theorem d_Pars_field_14 : decode prog_8_method_35_code 14 = .ok (.invokevirtual 141, 3) := by decide +kernel
theorem d_Pars_field_17 : decode prog_8_method_35_code 17 = .ok (.aload_n 0, 1) := by decide +kernel
theorem d_Pars_field_18 : decode prog_8_method_35_code 18 = .ok (.bipush 58, 2) := by decide +kernel
theorem d_Pars_field_20 : decode prog_8_method_35_code 20 = .ok (.invokevirtual 106, 3) := by decide +kernel
theorem d_Pars_field_23 : decode prog_8_method_35_code 23 = .ok (.aload_n 0, 1) := by decide +kernel
theorem d_Pars_field_24 : decode prog_8_method_35_code 24 = .ok (.iload_n 1, 1) := by decide +kernel
theorem d_Pars_field_25 : decode prog_8_method_35_code 25 = .ok (.invokevirtual 156, 3) := by decide +kernel
theorem d_Pars_field_28 : decode prog_8_method_35_code 28 = .ok (.return_, 1) := by decide +kernel
