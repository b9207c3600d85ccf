abbrev m_Mod_block : am_M := (⟨"StowTongueModel", "block", "(I)Z"⟩, prog_13_method_18_code, 2, (some FieldType.boolean))
abbrev m_Mod_test : am_M := (⟨"StowTongueModel", "test", "(I)Z"⟩, prog_13_method_19_code, 2, (some FieldType.boolean))
abbrev m_Mod_statement : am_M := (⟨"StowTongueModel", "statement", "(I)Z"⟩, prog_13_method_20_code, 3, (some FieldType.boolean))
abbrev m_Mod_branch : am_M := (⟨"StowTongueModel", "branch", "(I)Z"⟩, prog_13_method_21_code, 4, (some FieldType.boolean))
abbrev m_Mod_loop : am_M := (⟨"StowTongueModel", "loop", "(I)Z"⟩, prog_13_method_22_code, 4, (some FieldType.boolean))
abbrev m_Mod_assignment : am_M := (⟨"StowTongueModel", "assignment", "(I)Z"⟩, prog_13_method_23_code, 5, (some FieldType.boolean))
abbrev m_Mod_expression : am_M := (⟨"StowTongueModel", "expression", "(I)Z"⟩, prog_13_method_24_code, 2, (some FieldType.boolean))
abbrev m_Mod_either : am_M := (⟨"StowTongueModel", "either", "(II)Z"⟩, prog_13_method_25_code, 5, (some FieldType.boolean))
abbrev m_Mod_compared : am_M := (⟨"StowTongueModel", "compared", "(I)Z"⟩, prog_13_method_26_code, 3, (some FieldType.boolean))
abbrev m_Mod_sum_II : am_M := (⟨"StowTongueModel", "sum", "(II)Z"⟩, prog_13_method_27_code, 4, (some FieldType.boolean))
abbrev m_Mod_unary : am_M := (⟨"StowTongueModel", "unary", "(I)Z"⟩, prog_13_method_28_code, 3, (some FieldType.boolean))
abbrev m_Mod_atom : am_M := (⟨"StowTongueModel", "atom", "(I)Z"⟩, prog_13_method_29_code, 4, (some FieldType.boolean))
abbrev m_Mod_simple : am_M := (⟨"StowTongueModel", "simple", "(I)Z"⟩, prog_13_method_30_code, 3, (some FieldType.boolean))
abbrev m_Mod_named : am_M := (⟨"StowTongueModel", "named", "(I)Z"⟩, prog_13_method_31_code, 6, (some FieldType.boolean))
abbrev m_Mod_built : am_M := (⟨"StowTongueModel", "built", "(I)Z"⟩, prog_13_method_32_code, 3, (some FieldType.boolean))
abbrev m_Mod_record : am_M := (⟨"StowTongueModel", "record", "(I)Z"⟩, prog_13_method_33_code, 5, (some FieldType.boolean))
abbrev m_Mod_row : am_M := (⟨"StowTongueModel", "row", "(I)Z"⟩, prog_13_method_34_code, 3, (some FieldType.boolean))
theorem d_Mod_block_0 : decode prog_13_method_18_code 0 = .ok (.aload_n 0, 1) := by decide +kernel
theorem d_Mod_block_1 : decode prog_13_method_18_code 1 = .ok (.ldc 210, 2) := by decide +kernel
theorem d_Mod_block_3 : decode prog_13_method_18_code 3 = .ok (.invokevirtual 80, 3) := by decide +kernel
theorem d_Mod_block_6 : decode prog_13_method_18_code 6 = .ok (.ifCond .eq 9, 3) := by decide +kernel
theorem d_Mod_block_15 : decode prog_13_method_18_code 15 = .ok (.aload_n 0, 1) := by decide +kernel
theorem d_Mod_block_16 : decode prog_13_method_18_code 16 = .ok (.invokevirtual 84, 3) := by decide +kernel
theorem d_Mod_block_19 : decode prog_13_method_18_code 19 = .ok (.ireturn, 1) := by decide +kernel
theorem d_Mod_block_9 : decode prog_13_method_18_code 9 = .ok (.iload_n 1, 1) := by decide +kernel
theorem d_Mod_block_10 : decode prog_13_method_18_code 10 = .ok (.bipush 16, 2) := by decide +kernel
theorem d_Mod_block_12 : decode prog_13_method_18_code 12 = .ok (.if_icmp .ne 8, 3) := by decide +kernel
theorem d_Mod_block_20 : decode prog_13_method_18_code 20 = .ok (.aload_n 0, 1) := by decide +kernel
theorem d_Mod_block_21 : decode prog_13_method_18_code 21 = .ok (.invokevirtual 87, 3) := by decide +kernel
theorem d_Mod_block_24 : decode prog_13_method_18_code 24 = .ok (.aload_n 0, 1) := by decide +kernel
theorem d_Mod_block_25 : decode prog_13_method_18_code 25 = .ok (.ldc 212, 2) := by decide +kernel
theorem d_Mod_block_27 : decode prog_13_method_18_code 27 = .ok (.invokevirtual 80, 3) := by decide +kernel
theorem d_Mod_block_30 : decode prog_13_method_18_code 30 = .ok (.ifCond .ne 15, 3) := by decide +kernel
theorem d_Mod_block_33 : decode prog_13_method_18_code 33 = .ok (.aload_n 0, 1) := by decide +kernel
theorem d_Mod_block_34 : decode prog_13_method_18_code 34 = .ok (.iload_n 1, 1) := by decide +kernel
theorem d_Mod_block_35 : decode prog_13_method_18_code 35 = .ok (.iconst 1, 1) := by decide +kernel
theorem d_Mod_block_36 : decode prog_13_method_18_code 36 = .ok (.iadd, 1) := by decide +kernel
theorem d_Mod_block_37 : decode prog_13_method_18_code 37 = .ok (.invokevirtual 157, 3) := by decide +kernel
theorem w_1869 : (Cond.methodLink "StowTongueModel" 157 ⟨"StowTongueModel", "statement", "(I)Z"⟩ : Cond) ∈ am_tbl := am_w 1869 (by decide +kernel) (by decide +kernel)
set_option maxRecDepth 100000 in
theorem w_1872 : (Cond.code ⟨"StowTongueModel", "statement", "(I)Z"⟩ prog_13_method_20_code 3 (some FieldType.boolean) : Cond) ∈ am_tbl := am_w 1872 rfl rfl
theorem l_Mod_157 : am_L "StowTongueModel" 157 1 m_Mod_statement := ⟨Or.inl w_1869, w_160, w_1872, ⟨by decide, by decide⟩, by decide +kernel, by decide⟩
theorem w_1871 : (Cond.instanceMethod ⟨"StowTongueModel", "statement", "(I)Z"⟩ : Cond) ∈ am_tbl := am_w 1871 (by decide +kernel) (by decide +kernel)
theorem w_94 : (Cond.selects "StowTongueModel" ⟨"StowTongueModel", "statement", "(I)Z"⟩ ⟨"StowTongueModel", "statement", "(I)Z"⟩ : Cond) ∈ am_tbl := am_w 94 (by decide +kernel) (by decide +kernel)
theorem d_Mod_block_40 : decode prog_13_method_18_code 40 = .ok (.ifCond .ne (-16), 3) := by decide +kernel
theorem d_Mod_block_43 : decode prog_13_method_18_code 43 = .ok (.iconst 0, 1) := by decide +kernel
theorem d_Mod_block_44 : decode prog_13_method_18_code 44 = .ok (.ireturn, 1) := by decide +kernel
theorem d_Mod_block_45 : decode prog_13_method_18_code 45 = .ok (.aload_n 0, 1) := by decide +kernel
theorem d_Mod_block_46 : decode prog_13_method_18_code 46 = .ok (.invokevirtual 87, 3) := by decide +kernel
theorem d_Mod_block_49 : decode prog_13_method_18_code 49 = .ok (.iconst 1, 1) := by decide +kernel
theorem d_Mod_block_50 : decode prog_13_method_18_code 50 = .ok (.ireturn, 1) := by decide +kernel
theorem d_Mod_test_0 : decode prog_13_method_19_code 0 = .ok (.aload_n 0, 1) := by decide +kernel
theorem d_Mod_test_1 : decode prog_13_method_19_code 1 = .ok (.ldc 177, 2) := by decide +kernel
theorem d_Mod_test_3 : decode prog_13_method_19_code 3 = .ok (.invokevirtual 80, 3) := by decide +kernel
theorem d_Mod_test_6 : decode prog_13_method_19_code 6 = .ok (.ifCond .eq 9, 3) := by decide +kernel
theorem d_Mod_test_15 : decode prog_13_method_19_code 15 = .ok (.aload_n 0, 1) := by decide +kernel
theorem d_Mod_test_16 : decode prog_13_method_19_code 16 = .ok (.invokevirtual 84, 3) := by decide +kernel
theorem d_Mod_test_19 : decode prog_13_method_19_code 19 = .ok (.ireturn, 1) := by decide +kernel
theorem d_Mod_test_9 : decode prog_13_method_19_code 9 = .ok (.iload_n 1, 1) := by decide +kernel
theorem d_Mod_test_10 : decode prog_13_method_19_code 10 = .ok (.bipush 16, 2) := by decide +kernel
theorem d_Mod_test_12 : decode prog_13_method_19_code 12 = .ok (.if_icmp .ne 8, 3) := by decide +kernel
theorem d_Mod_test_20 : decode prog_13_method_19_code 20 = .ok (.aload_n 0, 1) := by decide +kernel
theorem d_Mod_test_21 : decode prog_13_method_19_code 21 = .ok (.invokevirtual 87, 3) := by decide +kernel
theorem d_Mod_test_24 : decode prog_13_method_19_code 24 = .ok (.aload_n 0, 1) := by decide +kernel
theorem d_Mod_test_25 : decode prog_13_method_19_code 25 = .ok (.iload_n 1, 1) := by decide +kernel
theorem d_Mod_test_26 : decode prog_13_method_19_code 26 = .ok (.iconst 1, 1) := by decide +kernel
theorem d_Mod_test_27 : decode prog_13_method_19_code 27 = .ok (.iadd, 1) := by decide +kernel
theorem d_Mod_test_28 : decode prog_13_method_19_code 28 = .ok (.invokevirtual 214, 3) := by decide +kernel
theorem w_1879 : (Cond.methodLink "StowTongueModel" 214 ⟨"StowTongueModel", "expression", "(I)Z"⟩ : Cond) ∈ am_tbl := am_w 1879 (by decide +kernel) (by decide +kernel)
set_option maxRecDepth 100000 in
theorem w_1882 : (Cond.code ⟨"StowTongueModel", "expression", "(I)Z"⟩ prog_13_method_24_code 2 (some FieldType.boolean) : Cond) ∈ am_tbl := am_w 1882 rfl rfl
theorem l_Mod_214 : am_L "StowTongueModel" 214 1 m_Mod_expression := ⟨Or.inl w_1879, w_160, w_1882, ⟨by decide, by decide⟩, by decide +kernel, by decide⟩
theorem w_1881 : (Cond.instanceMethod ⟨"StowTongueModel", "expression", "(I)Z"⟩ : Cond) ∈ am_tbl := am_w 1881 (by decide +kernel) (by decide +kernel)
theorem w_96 : (Cond.selects "StowTongueModel" ⟨"StowTongueModel", "expression", "(I)Z"⟩ ⟨"StowTongueModel", "expression", "(I)Z"⟩ : Cond) ∈ am_tbl := am_w 96 (by decide +kernel) (by decide +kernel)
theorem d_Mod_test_31 : decode prog_13_method_19_code 31 = .ok (.ifCond .eq 16, 3) := by decide +kernel
theorem d_Mod_test_47 : decode prog_13_method_19_code 47 = .ok (.iconst 0, 1) := by decide +kernel
theorem d_Mod_test_48 : decode prog_13_method_19_code 48 = .ok (.ireturn, 1) := by decide +kernel
theorem d_Mod_test_34 : decode prog_13_method_19_code 34 = .ok (.aload_n 0, 1) := by decide +kernel
theorem d_Mod_test_35 : decode prog_13_method_19_code 35 = .ok (.ldc 182, 2) := by decide +kernel
theorem d_Mod_test_37 : decode prog_13_method_19_code 37 = .ok (.invokevirtual 179, 3) := by decide +kernel
theorem w_1849 : (Cond.methodLink "StowTongueModel" 179 ⟨"StowTongueModel", "take", "(Ljava/lang/String;)Z"⟩ : Cond) ∈ am_tbl := am_w 1849 (by decide +kernel) (by decide +kernel)
set_option maxRecDepth 100000 in
theorem w_1852 : (Cond.code ⟨"StowTongueModel", "take", "(Ljava/lang/String;)Z"⟩ prog_13_method_8_code 2 (some FieldType.boolean) : Cond) ∈ am_tbl := am_w 1852 rfl rfl
theorem l_Mod_179 : am_L "StowTongueModel" 179 1 m_Mod_take := ⟨Or.inl w_1849, w_160, w_1852, ⟨by decide, by decide⟩, by decide +kernel, by decide⟩
theorem w_1851 : (Cond.instanceMethod ⟨"StowTongueModel", "take", "(Ljava/lang/String;)Z"⟩ : Cond) ∈ am_tbl := am_w 1851 (by decide +kernel) (by decide +kernel)
theorem w_90 : (Cond.selects "StowTongueModel" ⟨"StowTongueModel", "take", "(Ljava/lang/String;)Z"⟩ ⟨"StowTongueModel", "take", "(Ljava/lang/String;)Z"⟩ : Cond) ∈ am_tbl := am_w 90 (by decide +kernel) (by decide +kernel)
theorem d_Mod_test_40 : decode prog_13_method_19_code 40 = .ok (.ifCond .eq 7, 3) := by decide +kernel
theorem d_Mod_test_43 : decode prog_13_method_19_code 43 = .ok (.iconst 1, 1) := by decide +kernel
theorem d_Mod_test_44 : decode prog_13_method_19_code 44 = .ok (.goto 4, 3) := by decide +kernel
theorem d_Mod_statement_0 : decode prog_13_method_20_code 0 = .ok (.aload_n 0, 1) := by decide +kernel
theorem d_Mod_statement_1 : decode prog_13_method_20_code 1 = .ok (.ldc 210, 2) := by decide +kernel
theorem d_Mod_statement_3 : decode prog_13_method_20_code 3 = .ok (.invokevirtual 80, 3) := by decide +kernel
theorem d_Mod_statement_6 : decode prog_13_method_20_code 6 = .ok (.ifCond .eq 9, 3) := by decide +kernel
theorem d_Mod_statement_15 : decode prog_13_method_20_code 15 = .ok (.aload_n 0, 1) := by decide +kernel
theorem d_Mod_statement_16 : decode prog_13_method_20_code 16 = .ok (.bipush 23, 2) := by decide +kernel
theorem d_Mod_statement_18 : decode prog_13_method_20_code 18 = .ok (.invokevirtual 103, 3) := by decide +kernel
theorem d_Mod_statement_21 : decode prog_13_method_20_code 21 = .ok (.pop, 1) := by decide +kernel
theorem d_Mod_statement_22 : decode prog_13_method_20_code 22 = .ok (.aload_n 0, 1) := by decide +kernel
theorem d_Mod_statement_23 : decode prog_13_method_20_code 23 = .ok (.ldc 217, 2) := by decide +kernel
theorem d_Mod_statement_25 : decode prog_13_method_20_code 25 = .ok (.invokevirtual 80, 3) := by decide +kernel
theorem d_Mod_statement_28 : decode prog_13_method_20_code 28 = .ok (.ifCond .eq 65, 3) := by decide +kernel
theorem d_Mod_statement_93 : decode prog_13_method_20_code 93 = .ok (.aload_n 0, 1) := by decide +kernel
theorem d_Mod_statement_94 : decode prog_13_method_20_code 94 = .ok (.ldc 222, 2) := by decide +kernel
theorem d_Mod_statement_96 : decode prog_13_method_20_code 96 = .ok (.invokevirtual 80, 3) := by decide +kernel
theorem d_Mod_statement_99 : decode prog_13_method_20_code 99 = .ok (.ifCond .eq 9, 3) := by decide +kernel
theorem d_Mod_statement_108 : decode prog_13_method_20_code 108 = .ok (.aload_n 0, 1) := by decide +kernel
theorem d_Mod_statement_109 : decode prog_13_method_20_code 109 = .ok (.ldc 227, 2) := by decide +kernel
theorem d_Mod_statement_111 : decode prog_13_method_20_code 111 = .ok (.invokevirtual 80, 3) := by decide +kernel
theorem d_Mod_statement_114 : decode prog_13_method_20_code 114 = .ok (.ifCond .eq 9, 3) := by decide +kernel
theorem d_Mod_statement_123 : decode prog_13_method_20_code 123 = .ok (.aload_n 0, 1) := by decide +kernel
theorem d_Mod_statement_124 : decode prog_13_method_20_code 124 = .ok (.ldc 232, 2) := by decide +kernel
theorem d_Mod_statement_126 : decode prog_13_method_20_code 126 = .ok (.invokevirtual 80, 3) := by decide +kernel
theorem d_Mod_statement_129 : decode prog_13_method_20_code 129 = .ok (.ifCond .eq 51, 3) := by decide +kernel
theorem d_Mod_statement_180 : decode prog_13_method_20_code 180 = .ok (.aload_n 0, 1) := by decide +kernel
theorem d_Mod_statement_181 : decode prog_13_method_20_code 181 = .ok (.ldc 237, 2) := by decide +kernel
theorem d_Mod_statement_183 : decode prog_13_method_20_code 183 = .ok (.invokevirtual 80, 3) := by decide +kernel
theorem d_Mod_statement_186 : decode prog_13_method_20_code 186 = .ok (.ifCond .eq 21, 3) := by decide +kernel
theorem d_Mod_statement_207 : decode prog_13_method_20_code 207 = .ok (.aload_n 0, 1) := by decide +kernel
theorem d_Mod_statement_208 : decode prog_13_method_20_code 208 = .ok (.ldc 239, 2) := by decide +kernel
theorem d_Mod_statement_210 : decode prog_13_method_20_code 210 = .ok (.invokevirtual 80, 3) := by decide +kernel
theorem d_Mod_statement_213 : decode prog_13_method_20_code 213 = .ok (.ifCond .eq 31, 3) := by decide +kernel
theorem d_Mod_statement_244 : decode prog_13_method_20_code 244 = .ok (.aload_n 0, 1) := by decide +kernel
theorem d_Mod_statement_245 : decode prog_13_method_20_code 245 = .ok (.iload_n 1, 1) := by decide +kernel
theorem d_Mod_statement_246 : decode prog_13_method_20_code 246 = .ok (.invokevirtual 241, 3) := by decide +kernel
theorem w_1982 : (Cond.methodLink "StowTongueModel" 241 ⟨"StowTongueModel", "assignment", "(I)Z"⟩ : Cond) ∈ am_tbl := am_w 1982 (by decide +kernel) (by decide +kernel)
set_option maxRecDepth 100000 in
theorem w_1985 : (Cond.code ⟨"StowTongueModel", "assignment", "(I)Z"⟩ prog_13_method_23_code 5 (some FieldType.boolean) : Cond) ∈ am_tbl := am_w 1985 rfl rfl
theorem l_Mod_241 : am_L "StowTongueModel" 241 1 m_Mod_assignment := ⟨Or.inl w_1982, w_160, w_1985, ⟨by decide, by decide⟩, by decide +kernel, by decide⟩
theorem w_1984 : (Cond.instanceMethod ⟨"StowTongueModel", "assignment", "(I)Z"⟩ : Cond) ∈ am_tbl := am_w 1984 (by decide +kernel) (by decide +kernel)
theorem w_113 : (Cond.selects "StowTongueModel" ⟨"StowTongueModel", "assignment", "(I)Z"⟩ ⟨"StowTongueModel", "assignment", "(I)Z"⟩ : Cond) ∈ am_tbl := am_w 113 (by decide +kernel) (by decide +kernel)
theorem d_Mod_statement_249 : decode prog_13_method_20_code 249 = .ok (.ireturn, 1) := by decide +kernel
theorem d_Mod_statement_216 : decode prog_13_method_20_code 216 = .ok (.aload_n 0, 1) := by decide +kernel
theorem d_Mod_statement_217 : decode prog_13_method_20_code 217 = .ok (.invokevirtual 87, 3) := by decide +kernel
theorem d_Mod_statement_220 : decode prog_13_method_20_code 220 = .ok (.aload_n 0, 1) := by decide +kernel
theorem d_Mod_statement_221 : decode prog_13_method_20_code 221 = .ok (.iload_n 1, 1) := by decide +kernel
theorem d_Mod_statement_222 : decode prog_13_method_20_code 222 = .ok (.invokevirtual 214, 3) := by decide +kernel
theorem d_Mod_statement_225 : decode prog_13_method_20_code 225 = .ok (.ifCond .ne 5, 3) := by decide +kernel
theorem d_Mod_statement_228 : decode prog_13_method_20_code 228 = .ok (.iconst 0, 1) := by decide +kernel
theorem d_Mod_statement_229 : decode prog_13_method_20_code 229 = .ok (.ireturn, 1) := by decide +kernel
theorem d_Mod_statement_230 : decode prog_13_method_20_code 230 = .ok (.aload_n 0, 1) := by decide +kernel
theorem d_Mod_statement_231 : decode prog_13_method_20_code 231 = .ok (.bipush 24, 2) := by decide +kernel
theorem d_Mod_statement_233 : decode prog_13_method_20_code 233 = .ok (.invokevirtual 103, 3) := by decide +kernel
theorem d_Mod_statement_236 : decode prog_13_method_20_code 236 = .ok (.pop, 1) := by decide +kernel
theorem d_Mod_statement_237 : decode prog_13_method_20_code 237 = .ok (.aload_n 0, 1) := by decide +kernel
theorem d_Mod_statement_238 : decode prog_13_method_20_code 238 = .ok (.ldc 220, 2) := by decide +kernel
theorem d_Mod_statement_240 : decode prog_13_method_20_code 240 = .ok (.invokevirtual 179, 3) := by decide +kernel
theorem d_Mod_statement_243 : decode prog_13_method_20_code 243 = .ok (.ireturn, 1) := by decide +kernel
theorem d_Mod_statement_189 : decode prog_13_method_20_code 189 = .ok (.aload_n 0, 1) := by decide +kernel
theorem d_Mod_statement_190 : decode prog_13_method_20_code 190 = .ok (.invokevirtual 87, 3) := by decide +kernel
theorem d_Mod_statement_193 : decode prog_13_method_20_code 193 = .ok (.aload_n 0, 1) := by decide +kernel
theorem d_Mod_statement_194 : decode prog_13_method_20_code 194 = .ok (.bipush 25, 2) := by decide +kernel
theorem d_Mod_statement_196 : decode prog_13_method_20_code 196 = .ok (.invokevirtual 103, 3) := by decide +kernel
theorem d_Mod_statement_199 : decode prog_13_method_20_code 199 = .ok (.pop, 1) := by decide +kernel
theorem d_Mod_statement_200 : decode prog_13_method_20_code 200 = .ok (.aload_n 0, 1) := by decide +kernel
theorem d_Mod_statement_201 : decode prog_13_method_20_code 201 = .ok (.ldc 220, 2) := by decide +kernel
theorem d_Mod_statement_203 : decode prog_13_method_20_code 203 = .ok (.invokevirtual 179, 3) := by decide +kernel
theorem d_Mod_statement_206 : decode prog_13_method_20_code 206 = .ok (.ireturn, 1) := by decide +kernel
theorem d_Mod_statement_132 : decode prog_13_method_20_code 132 = .ok (.aload_n 0, 1) := by decide +kernel
theorem d_Mod_statement_133 : decode prog_13_method_20_code 133 = .ok (.invokevirtual 87, 3) := by decide +kernel
theorem d_Mod_statement_136 : decode prog_13_method_20_code 136 = .ok (.aload_n 0, 1) := by decide +kernel
theorem d_Mod_statement_137 : decode prog_13_method_20_code 137 = .ok (.ldc 220, 2) := by decide +kernel
theorem d_Mod_statement_139 : decode prog_13_method_20_code 139 = .ok (.invokevirtual 80, 3) := by decide +kernel
theorem d_Mod_statement_142 : decode prog_13_method_20_code 142 = .ok (.ifCond .eq 14, 3) := by decide +kernel
theorem d_Mod_statement_156 : decode prog_13_method_20_code 156 = .ok (.aload_n 0, 1) := by decide +kernel
theorem d_Mod_statement_157 : decode prog_13_method_20_code 157 = .ok (.iload_n 1, 1) := by decide +kernel
theorem d_Mod_statement_158 : decode prog_13_method_20_code 158 = .ok (.invokevirtual 214, 3) := by decide +kernel
theorem d_Mod_statement_161 : decode prog_13_method_20_code 161 = .ok (.ifCond .ne 5, 3) := by decide +kernel
theorem d_Mod_statement_164 : decode prog_13_method_20_code 164 = .ok (.iconst 0, 1) := by decide +kernel
theorem d_Mod_statement_165 : decode prog_13_method_20_code 165 = .ok (.ireturn, 1) := by decide +kernel
theorem d_Mod_statement_166 : decode prog_13_method_20_code 166 = .ok (.aload_n 0, 1) := by decide +kernel
theorem d_Mod_statement_167 : decode prog_13_method_20_code 167 = .ok (.bipush 26, 2) := by decide +kernel
theorem d_Mod_statement_169 : decode prog_13_method_20_code 169 = .ok (.invokevirtual 103, 3) := by decide +kernel
theorem d_Mod_statement_172 : decode prog_13_method_20_code 172 = .ok (.pop, 1) := by decide +kernel
theorem d_Mod_statement_173 : decode prog_13_method_20_code 173 = .ok (.aload_n 0, 1) := by decide +kernel
theorem d_Mod_statement_174 : decode prog_13_method_20_code 174 = .ok (.ldc 220, 2) := by decide +kernel
theorem d_Mod_statement_176 : decode prog_13_method_20_code 176 = .ok (.invokevirtual 179, 3) := by decide +kernel
theorem d_Mod_statement_179 : decode prog_13_method_20_code 179 = .ok (.ireturn, 1) := by decide +kernel
theorem d_Mod_statement_145 : decode prog_13_method_20_code 145 = .ok (.aload_n 0, 1) := by decide +kernel
theorem d_Mod_statement_146 : decode prog_13_method_20_code 146 = .ok (.iconst 0, 1) := by decide +kernel
theorem d_Mod_statement_147 : decode prog_13_method_20_code 147 = .ok (.iconst 0, 1) := by decide +kernel
theorem d_Mod_statement_148 : decode prog_13_method_20_code 148 = .ok (.lconst 0, 1) := by decide +kernel
theorem d_Mod_statement_149 : decode prog_13_method_20_code 149 = .ok (.lconst 0, 1) := by decide +kernel
theorem d_Mod_statement_150 : decode prog_13_method_20_code 150 = .ok (.invokevirtual 234, 3) := by decide +kernel
theorem w_1909 : (Cond.methodLink "StowTongueModel" 234 ⟨"StowTongueModel", "value", "(IIJJ)V"⟩ : Cond) ∈ am_tbl := am_w 1909 (by decide +kernel) (by decide +kernel)
set_option maxRecDepth 100000 in
theorem w_1912 : (Cond.code ⟨"StowTongueModel", "value", "(IIJJ)V"⟩ prog_13_method_12_code 7 none : Cond) ∈ am_tbl := am_w 1912 rfl rfl
theorem l_Mod_234 : am_L "StowTongueModel" 234 4 m_Mod_value_IIJJ := ⟨Or.inl w_1909, w_160, w_1912, ⟨by decide, by decide⟩, by decide +kernel, by decide⟩
theorem w_1911 : (Cond.instanceMethod ⟨"StowTongueModel", "value", "(IIJJ)V"⟩ : Cond) ∈ am_tbl := am_w 1911 (by decide +kernel) (by decide +kernel)
theorem w_103 : (Cond.selects "StowTongueModel" ⟨"StowTongueModel", "value", "(IIJJ)V"⟩ ⟨"StowTongueModel", "value", "(IIJJ)V"⟩ : Cond) ∈ am_tbl := am_w 103 (by decide +kernel) (by decide +kernel)
theorem d_Mod_statement_153 : decode prog_13_method_20_code 153 = .ok (.goto 13, 3) := by decide +kernel
theorem d_Mod_statement_117 : decode prog_13_method_20_code 117 = .ok (.aload_n 0, 1) := by decide +kernel
theorem d_Mod_statement_118 : decode prog_13_method_20_code 118 = .ok (.iload_n 1, 1) := by decide +kernel
theorem d_Mod_statement_119 : decode prog_13_method_20_code 119 = .ok (.invokevirtual 229, 3) := by decide +kernel
theorem w_1975 : (Cond.methodLink "StowTongueModel" 229 ⟨"StowTongueModel", "loop", "(I)Z"⟩ : Cond) ∈ am_tbl := am_w 1975 (by decide +kernel) (by decide +kernel)
set_option maxRecDepth 100000 in
theorem w_1978 : (Cond.code ⟨"StowTongueModel", "loop", "(I)Z"⟩ prog_13_method_22_code 4 (some FieldType.boolean) : Cond) ∈ am_tbl := am_w 1978 rfl rfl
theorem l_Mod_229 : am_L "StowTongueModel" 229 1 m_Mod_loop := ⟨Or.inl w_1975, w_160, w_1978, ⟨by decide, by decide⟩, by decide +kernel, by decide⟩
theorem w_1977 : (Cond.instanceMethod ⟨"StowTongueModel", "loop", "(I)Z"⟩ : Cond) ∈ am_tbl := am_w 1977 (by decide +kernel) (by decide +kernel)
theorem w_112 : (Cond.selects "StowTongueModel" ⟨"StowTongueModel", "loop", "(I)Z"⟩ ⟨"StowTongueModel", "loop", "(I)Z"⟩ : Cond) ∈ am_tbl := am_w 112 (by decide +kernel) (by decide +kernel)
theorem d_Mod_statement_122 : decode prog_13_method_20_code 122 = .ok (.ireturn, 1) := by decide +kernel
theorem d_Mod_statement_102 : decode prog_13_method_20_code 102 = .ok (.aload_n 0, 1) := by decide +kernel
theorem d_Mod_statement_103 : decode prog_13_method_20_code 103 = .ok (.iload_n 1, 1) := by decide +kernel
theorem d_Mod_statement_104 : decode prog_13_method_20_code 104 = .ok (.invokevirtual 224, 3) := by decide +kernel
theorem w_1965 : (Cond.methodLink "StowTongueModel" 224 ⟨"StowTongueModel", "branch", "(I)Z"⟩ : Cond) ∈ am_tbl := am_w 1965 (by decide +kernel) (by decide +kernel)
set_option maxRecDepth 100000 in
theorem w_1968 : (Cond.code ⟨"StowTongueModel", "branch", "(I)Z"⟩ prog_13_method_21_code 4 (some FieldType.boolean) : Cond) ∈ am_tbl := am_w 1968 rfl rfl
theorem l_Mod_224 : am_L "StowTongueModel" 224 1 m_Mod_branch := ⟨Or.inl w_1965, w_160, w_1968, ⟨by decide, by decide⟩, by decide +kernel, by decide⟩
theorem w_1967 : (Cond.instanceMethod ⟨"StowTongueModel", "branch", "(I)Z"⟩ : Cond) ∈ am_tbl := am_w 1967 (by decide +kernel) (by decide +kernel)
theorem w_110 : (Cond.selects "StowTongueModel" ⟨"StowTongueModel", "branch", "(I)Z"⟩ ⟨"StowTongueModel", "branch", "(I)Z"⟩ : Cond) ∈ am_tbl := am_w 110 (by decide +kernel) (by decide +kernel)
theorem d_Mod_statement_107 : decode prog_13_method_20_code 107 = .ok (.ireturn, 1) := by decide +kernel
theorem d_Mod_statement_31 : decode prog_13_method_20_code 31 = .ok (.aload_n 0, 1) := by decide +kernel
theorem d_Mod_statement_32 : decode prog_13_method_20_code 32 = .ok (.invokevirtual 87, 3) := by decide +kernel
theorem d_Mod_statement_35 : decode prog_13_method_20_code 35 = .ok (.aload_n 0, 1) := by decide +kernel
theorem d_Mod_statement_36 : decode prog_13_method_20_code 36 = .ok (.getfield 32, 3) := by decide +kernel
theorem d_Mod_statement_39 : decode prog_13_method_20_code 39 = .ok (.iconst 1, 1) := by decide +kernel
theorem d_Mod_statement_40 : decode prog_13_method_20_code 40 = .ok (.if_icmp .eq 8, 3) := by decide +kernel
theorem d_Mod_statement_48 : decode prog_13_method_20_code 48 = .ok (.aload_n 0, 1) := by decide +kernel
theorem d_Mod_statement_49 : decode prog_13_method_20_code 49 = .ok (.aload_n 0, 1) := by decide +kernel
theorem d_Mod_statement_50 : decode prog_13_method_20_code 50 = .ok (.invokevirtual 164, 3) := by decide +kernel
theorem w_1843 : (Cond.methodLink "StowTongueModel" 164 ⟨"StowTongueModel", "name", "()J"⟩ : Cond) ∈ am_tbl := am_w 1843 (by decide +kernel) (by decide +kernel)
set_option maxRecDepth 100000 in
theorem w_1846 : (Cond.code ⟨"StowTongueModel", "name", "()J"⟩ prog_13_method_9_code 4 (some FieldType.long) : Cond) ∈ am_tbl := am_w 1846 rfl rfl
theorem l_Mod_164 : am_L "StowTongueModel" 164 0 m_Mod_name := ⟨Or.inl w_1843, w_160, w_1846, ⟨by decide, by decide⟩, by decide +kernel, by decide⟩
theorem w_1845 : (Cond.instanceMethod ⟨"StowTongueModel", "name", "()J"⟩ : Cond) ∈ am_tbl := am_w 1845 (by decide +kernel) (by decide +kernel)
theorem w_89 : (Cond.selects "StowTongueModel" ⟨"StowTongueModel", "name", "()J"⟩ ⟨"StowTongueModel", "name", "()J"⟩ : Cond) ∈ am_tbl := am_w 89 (by decide +kernel) (by decide +kernel)
theorem d_Mod_statement_53 : decode prog_13_method_20_code 53 = .ok (.invokevirtual 186, 3) := by decide +kernel
theorem w_1859 : (Cond.methodLink "StowTongueModel" 186 ⟨"StowTongueModel", "let", "(J)I"⟩ : Cond) ∈ am_tbl := am_w 1859 (by decide +kernel) (by decide +kernel)
set_option maxRecDepth 100000 in
theorem w_1862 : (Cond.code ⟨"StowTongueModel", "let", "(J)I"⟩ prog_13_method_15_code 4 (some FieldType.int) : Cond) ∈ am_tbl := am_w 1862 rfl rfl
theorem l_Mod_186 : am_L "StowTongueModel" 186 1 m_Mod_let := ⟨Or.inl w_1859, w_160, w_1862, ⟨by decide, by decide⟩, by decide +kernel, by decide⟩
theorem w_1861 : (Cond.instanceMethod ⟨"StowTongueModel", "let", "(J)I"⟩ : Cond) ∈ am_tbl := am_w 1861 (by decide +kernel) (by decide +kernel)
theorem w_92 : (Cond.selects "StowTongueModel" ⟨"StowTongueModel", "let", "(J)I"⟩ ⟨"StowTongueModel", "let", "(J)I"⟩ : Cond) ∈ am_tbl := am_w 92 (by decide +kernel) (by decide +kernel)
theorem d_Mod_statement_56 : decode prog_13_method_20_code 56 = .ok (.istore_n 2, 1) := by decide +kernel
theorem d_Mod_statement_57 : decode prog_13_method_20_code 57 = .ok (.aload_n 0, 1) := by decide +kernel
theorem d_Mod_statement_58 : decode prog_13_method_20_code 58 = .ok (.invokevirtual 87, 3) := by decide +kernel
theorem d_Mod_statement_61 : decode prog_13_method_20_code 61 = .ok (.aload_n 0, 1) := by decide +kernel
theorem d_Mod_statement_62 : decode prog_13_method_20_code 62 = .ok (.ldc 218, 2) := by decide +kernel
theorem d_Mod_statement_64 : decode prog_13_method_20_code 64 = .ok (.invokevirtual 179, 3) := by decide +kernel
theorem d_Mod_statement_67 : decode prog_13_method_20_code 67 = .ok (.ifCond .eq 11, 3) := by decide +kernel
theorem d_Mod_statement_78 : decode prog_13_method_20_code 78 = .ok (.iconst 0, 1) := by decide +kernel
theorem d_Mod_statement_79 : decode prog_13_method_20_code 79 = .ok (.ireturn, 1) := by decide +kernel
theorem d_Mod_statement_70 : decode prog_13_method_20_code 70 = .ok (.aload_n 0, 1) := by decide +kernel
theorem d_Mod_statement_71 : decode prog_13_method_20_code 71 = .ok (.iload_n 1, 1) := by decide +kernel
theorem d_Mod_statement_72 : decode prog_13_method_20_code 72 = .ok (.invokevirtual 214, 3) := by decide +kernel
theorem d_Mod_statement_75 : decode prog_13_method_20_code 75 = .ok (.ifCond .ne 5, 3) := by decide +kernel
theorem d_Mod_statement_80 : decode prog_13_method_20_code 80 = .ok (.aload_n 0, 1) := by decide +kernel
theorem d_Mod_statement_81 : decode prog_13_method_20_code 81 = .ok (.iconst 2, 1) := by decide +kernel
theorem d_Mod_statement_82 : decode prog_13_method_20_code 82 = .ok (.iload_n 2, 1) := by decide +kernel
theorem d_Mod_statement_83 : decode prog_13_method_20_code 83 = .ok (.invokevirtual 120, 3) := by decide +kernel
theorem d_Mod_statement_86 : decode prog_13_method_20_code 86 = .ok (.aload_n 0, 1) := by decide +kernel
theorem d_Mod_statement_87 : decode prog_13_method_20_code 87 = .ok (.ldc 220, 2) := by decide +kernel
theorem d_Mod_statement_89 : decode prog_13_method_20_code 89 = .ok (.invokevirtual 179, 3) := by decide +kernel
theorem d_Mod_statement_92 : decode prog_13_method_20_code 92 = .ok (.ireturn, 1) := by decide +kernel
theorem d_Mod_statement_43 : decode prog_13_method_20_code 43 = .ok (.aload_n 0, 1) := by decide +kernel
theorem d_Mod_statement_44 : decode prog_13_method_20_code 44 = .ok (.invokevirtual 84, 3) := by decide +kernel
theorem d_Mod_statement_47 : decode prog_13_method_20_code 47 = .ok (.ireturn, 1) := by decide +kernel
theorem d_Mod_statement_9 : decode prog_13_method_20_code 9 = .ok (.aload_n 0, 1) := by decide +kernel
theorem d_Mod_statement_10 : decode prog_13_method_20_code 10 = .ok (.iload_n 1, 1) := by decide +kernel
theorem d_Mod_statement_11 : decode prog_13_method_20_code 11 = .ok (.invokevirtual 198, 3) := by decide +kernel
theorem w_1863 : (Cond.methodLink "StowTongueModel" 198 ⟨"StowTongueModel", "block", "(I)Z"⟩ : Cond) ∈ am_tbl := am_w 1863 (by decide +kernel) (by decide +kernel)
set_option maxRecDepth 100000 in
theorem w_1866 : (Cond.code ⟨"StowTongueModel", "block", "(I)Z"⟩ prog_13_method_18_code 2 (some FieldType.boolean) : Cond) ∈ am_tbl := am_w 1866 rfl rfl
theorem l_Mod_198 : am_L "StowTongueModel" 198 1 m_Mod_block := ⟨Or.inl w_1863, w_160, w_1866, ⟨by decide, by decide⟩, by decide +kernel, by decide⟩
theorem w_1865 : (Cond.instanceMethod ⟨"StowTongueModel", "block", "(I)Z"⟩ : Cond) ∈ am_tbl := am_w 1865 (by decide +kernel) (by decide +kernel)
theorem w_93 : (Cond.selects "StowTongueModel" ⟨"StowTongueModel", "block", "(I)Z"⟩ ⟨"StowTongueModel", "block", "(I)Z"⟩ : Cond) ∈ am_tbl := am_w 93 (by decide +kernel) (by decide +kernel)
theorem d_Mod_statement_14 : decode prog_13_method_20_code 14 = .ok (.ireturn, 1) := by decide +kernel
theorem d_Mod_branch_0 : decode prog_13_method_21_code 0 = .ok (.aload_n 0, 1) := by decide +kernel
theorem d_Mod_branch_1 : decode prog_13_method_21_code 1 = .ok (.invokevirtual 87, 3) := by decide +kernel
theorem d_Mod_branch_4 : decode prog_13_method_21_code 4 = .ok (.aload_n 0, 1) := by decide +kernel
theorem d_Mod_branch_5 : decode prog_13_method_21_code 5 = .ok (.iload_n 1, 1) := by decide +kernel
theorem d_Mod_branch_6 : decode prog_13_method_21_code 6 = .ok (.invokevirtual 244, 3) := by decide +kernel
theorem w_1969 : (Cond.methodLink "StowTongueModel" 244 ⟨"StowTongueModel", "test", "(I)Z"⟩ : Cond) ∈ am_tbl := am_w 1969 (by decide +kernel) (by decide +kernel)
set_option maxRecDepth 100000 in
theorem w_1972 : (Cond.code ⟨"StowTongueModel", "test", "(I)Z"⟩ prog_13_method_19_code 2 (some FieldType.boolean) : Cond) ∈ am_tbl := am_w 1972 rfl rfl
theorem l_Mod_244 : am_L "StowTongueModel" 244 1 m_Mod_test := ⟨Or.inl w_1969, w_160, w_1972, ⟨by decide, by decide⟩, by decide +kernel, by decide⟩
theorem w_1971 : (Cond.instanceMethod ⟨"StowTongueModel", "test", "(I)Z"⟩ : Cond) ∈ am_tbl := am_w 1971 (by decide +kernel) (by decide +kernel)
theorem w_111 : (Cond.selects "StowTongueModel" ⟨"StowTongueModel", "test", "(I)Z"⟩ ⟨"StowTongueModel", "test", "(I)Z"⟩ : Cond) ∈ am_tbl := am_w 111 (by decide +kernel) (by decide +kernel)
theorem d_Mod_branch_9 : decode prog_13_method_21_code 9 = .ok (.ifCond .ne 5, 3) := by decide +kernel
theorem d_Mod_branch_12 : decode prog_13_method_21_code 12 = .ok (.iconst 0, 1) := by decide +kernel
theorem d_Mod_branch_13 : decode prog_13_method_21_code 13 = .ok (.ireturn, 1) := by decide +kernel
theorem d_Mod_branch_14 : decode prog_13_method_21_code 14 = .ok (.aload_n 0, 1) := by decide +kernel
theorem d_Mod_branch_15 : decode prog_13_method_21_code 15 = .ok (.bipush 15, 2) := by decide +kernel
theorem d_Mod_branch_17 : decode prog_13_method_21_code 17 = .ok (.invokevirtual 103, 3) := by decide +kernel
theorem d_Mod_branch_20 : decode prog_13_method_21_code 20 = .ok (.pop, 1) := by decide +kernel
theorem d_Mod_branch_21 : decode prog_13_method_21_code 21 = .ok (.aload_n 0, 1) := by decide +kernel
theorem d_Mod_branch_22 : decode prog_13_method_21_code 22 = .ok (.iconst 0, 1) := by decide +kernel
theorem d_Mod_branch_23 : decode prog_13_method_21_code 23 = .ok (.invokevirtual 103, 3) := by decide +kernel
theorem d_Mod_branch_26 : decode prog_13_method_21_code 26 = .ok (.istore_n 2, 1) := by decide +kernel
theorem d_Mod_branch_27 : decode prog_13_method_21_code 27 = .ok (.aload_n 0, 1) := by decide +kernel
theorem d_Mod_branch_28 : decode prog_13_method_21_code 28 = .ok (.iload_n 1, 1) := by decide +kernel
theorem d_Mod_branch_29 : decode prog_13_method_21_code 29 = .ok (.invokevirtual 198, 3) := by decide +kernel
theorem d_Mod_branch_32 : decode prog_13_method_21_code 32 = .ok (.ifCond .ne 5, 3) := by decide +kernel
theorem d_Mod_branch_35 : decode prog_13_method_21_code 35 = .ok (.iconst 0, 1) := by decide +kernel
theorem d_Mod_branch_36 : decode prog_13_method_21_code 36 = .ok (.ireturn, 1) := by decide +kernel
theorem d_Mod_branch_37 : decode prog_13_method_21_code 37 = .ok (.aload_n 0, 1) := by decide +kernel
theorem d_Mod_branch_38 : decode prog_13_method_21_code 38 = .ok (.ldc 247, 2) := by decide +kernel
theorem d_Mod_branch_40 : decode prog_13_method_21_code 40 = .ok (.invokevirtual 80, 3) := by decide +kernel
theorem d_Mod_branch_43 : decode prog_13_method_21_code 43 = .ok (.ifCond .eq 65, 3) := by decide +kernel
theorem d_Mod_branch_108 : decode prog_13_method_21_code 108 = .ok (.aload_n 0, 1) := by decide +kernel
theorem d_Mod_branch_109 : decode prog_13_method_21_code 109 = .ok (.getfield 91, 3) := by decide +kernel
theorem d_Mod_branch_112 : decode prog_13_method_21_code 112 = .ok (.getfield 95, 3) := by decide +kernel
theorem d_Mod_branch_115 : decode prog_13_method_21_code 115 = .ok (.iload_n 2, 1) := by decide +kernel
theorem d_Mod_branch_116 : decode prog_13_method_21_code 116 = .ok (.aload_n 0, 1) := by decide +kernel
theorem d_Mod_branch_117 : decode prog_13_method_21_code 117 = .ok (.getfield 91, 3) := by decide +kernel
theorem d_Mod_branch_120 : decode prog_13_method_21_code 120 = .ok (.getfield 100, 3) := by decide +kernel
theorem d_Mod_branch_123 : decode prog_13_method_21_code 123 = .ok (.iastore, 1) := by decide +kernel
theorem d_Mod_branch_124 : decode prog_13_method_21_code 124 = .ok (.iconst 1, 1) := by decide +kernel
theorem d_Mod_branch_125 : decode prog_13_method_21_code 125 = .ok (.ireturn, 1) := by decide +kernel
theorem d_Mod_branch_46 : decode prog_13_method_21_code 46 = .ok (.aload_n 0, 1) := by decide +kernel
theorem d_Mod_branch_47 : decode prog_13_method_21_code 47 = .ok (.invokevirtual 87, 3) := by decide +kernel
theorem d_Mod_branch_50 : decode prog_13_method_21_code 50 = .ok (.aload_n 0, 1) := by decide +kernel
theorem d_Mod_branch_51 : decode prog_13_method_21_code 51 = .ok (.bipush 14, 2) := by decide +kernel
theorem d_Mod_branch_53 : decode prog_13_method_21_code 53 = .ok (.invokevirtual 103, 3) := by decide +kernel
theorem d_Mod_branch_56 : decode prog_13_method_21_code 56 = .ok (.pop, 1) := by decide +kernel
theorem d_Mod_branch_57 : decode prog_13_method_21_code 57 = .ok (.aload_n 0, 1) := by decide +kernel
theorem d_Mod_branch_58 : decode prog_13_method_21_code 58 = .ok (.iconst 0, 1) := by decide +kernel
theorem d_Mod_branch_59 : decode prog_13_method_21_code 59 = .ok (.invokevirtual 103, 3) := by decide +kernel
theorem d_Mod_branch_62 : decode prog_13_method_21_code 62 = .ok (.istore_n 3, 1) := by decide +kernel
theorem d_Mod_branch_63 : decode prog_13_method_21_code 63 = .ok (.aload_n 0, 1) := by decide +kernel
theorem d_Mod_branch_64 : decode prog_13_method_21_code 64 = .ok (.getfield 91, 3) := by decide +kernel
theorem d_Mod_branch_67 : decode prog_13_method_21_code 67 = .ok (.getfield 95, 3) := by decide +kernel
theorem d_Mod_branch_70 : decode prog_13_method_21_code 70 = .ok (.iload_n 2, 1) := by decide +kernel
theorem d_Mod_branch_71 : decode prog_13_method_21_code 71 = .ok (.aload_n 0, 1) := by decide +kernel
theorem d_Mod_branch_72 : decode prog_13_method_21_code 72 = .ok (.getfield 91, 3) := by decide +kernel
theorem d_Mod_branch_75 : decode prog_13_method_21_code 75 = .ok (.getfield 100, 3) := by decide +kernel
theorem d_Mod_branch_78 : decode prog_13_method_21_code 78 = .ok (.iastore, 1) := by decide +kernel
theorem d_Mod_branch_79 : decode prog_13_method_21_code 79 = .ok (.aload_n 0, 1) := by decide +kernel
theorem d_Mod_branch_80 : decode prog_13_method_21_code 80 = .ok (.iload_n 1, 1) := by decide +kernel
theorem d_Mod_branch_81 : decode prog_13_method_21_code 81 = .ok (.invokevirtual 198, 3) := by decide +kernel
theorem d_Mod_branch_84 : decode prog_13_method_21_code 84 = .ok (.ifCond .ne 5, 3) := by decide +kernel
theorem d_Mod_branch_87 : decode prog_13_method_21_code 87 = .ok (.iconst 0, 1) := by decide +kernel
theorem d_Mod_branch_88 : decode prog_13_method_21_code 88 = .ok (.ireturn, 1) := by decide +kernel
theorem d_Mod_branch_89 : decode prog_13_method_21_code 89 = .ok (.aload_n 0, 1) := by decide +kernel
theorem d_Mod_branch_90 : decode prog_13_method_21_code 90 = .ok (.getfield 91, 3) := by decide +kernel
theorem d_Mod_branch_93 : decode prog_13_method_21_code 93 = .ok (.getfield 95, 3) := by decide +kernel
theorem d_Mod_branch_96 : decode prog_13_method_21_code 96 = .ok (.iload_n 3, 1) := by decide +kernel
theorem d_Mod_branch_97 : decode prog_13_method_21_code 97 = .ok (.aload_n 0, 1) := by decide +kernel
theorem d_Mod_branch_98 : decode prog_13_method_21_code 98 = .ok (.getfield 91, 3) := by decide +kernel
theorem d_Mod_branch_101 : decode prog_13_method_21_code 101 = .ok (.getfield 100, 3) := by decide +kernel
theorem d_Mod_branch_104 : decode prog_13_method_21_code 104 = .ok (.iastore, 1) := by decide +kernel
theorem d_Mod_branch_105 : decode prog_13_method_21_code 105 = .ok (.goto 19, 3) := by decide +kernel
theorem d_Mod_loop_0 : decode prog_13_method_22_code 0 = .ok (.aload_n 0, 1) := by decide +kernel
theorem d_Mod_loop_1 : decode prog_13_method_22_code 1 = .ok (.invokevirtual 87, 3) := by decide +kernel
theorem d_Mod_loop_4 : decode prog_13_method_22_code 4 = .ok (.aload_n 0, 1) := by decide +kernel
theorem d_Mod_loop_5 : decode prog_13_method_22_code 5 = .ok (.getfield 91, 3) := by decide +kernel
theorem d_Mod_loop_8 : decode prog_13_method_22_code 8 = .ok (.getfield 100, 3) := by decide +kernel
theorem d_Mod_loop_11 : decode prog_13_method_22_code 11 = .ok (.istore_n 2, 1) := by decide +kernel
theorem d_Mod_loop_12 : decode prog_13_method_22_code 12 = .ok (.aload_n 0, 1) := by decide +kernel
theorem d_Mod_loop_13 : decode prog_13_method_22_code 13 = .ok (.iload_n 1, 1) := by decide +kernel
theorem d_Mod_loop_14 : decode prog_13_method_22_code 14 = .ok (.invokevirtual 244, 3) := by decide +kernel
theorem d_Mod_loop_17 : decode prog_13_method_22_code 17 = .ok (.ifCond .ne 5, 3) := by decide +kernel
theorem d_Mod_loop_20 : decode prog_13_method_22_code 20 = .ok (.iconst 0, 1) := by decide +kernel
theorem d_Mod_loop_21 : decode prog_13_method_22_code 21 = .ok (.ireturn, 1) := by decide +kernel
theorem d_Mod_loop_22 : decode prog_13_method_22_code 22 = .ok (.aload_n 0, 1) := by decide +kernel
theorem d_Mod_loop_23 : decode prog_13_method_22_code 23 = .ok (.bipush 15, 2) := by decide +kernel
theorem d_Mod_loop_25 : decode prog_13_method_22_code 25 = .ok (.invokevirtual 103, 3) := by decide +kernel
theorem d_Mod_loop_28 : decode prog_13_method_22_code 28 = .ok (.pop, 1) := by decide +kernel
theorem d_Mod_loop_29 : decode prog_13_method_22_code 29 = .ok (.aload_n 0, 1) := by decide +kernel
theorem d_Mod_loop_30 : decode prog_13_method_22_code 30 = .ok (.iconst 0, 1) := by decide +kernel
theorem d_Mod_loop_31 : decode prog_13_method_22_code 31 = .ok (.invokevirtual 103, 3) := by decide +kernel
theorem d_Mod_loop_34 : decode prog_13_method_22_code 34 = .ok (.istore_n 3, 1) := by decide +kernel
theorem d_Mod_loop_35 : decode prog_13_method_22_code 35 = .ok (.aload_n 0, 1) := by decide +kernel
theorem d_Mod_loop_36 : decode prog_13_method_22_code 36 = .ok (.bipush 23, 2) := by decide +kernel
theorem d_Mod_loop_38 : decode prog_13_method_22_code 38 = .ok (.invokevirtual 103, 3) := by decide +kernel
theorem d_Mod_loop_41 : decode prog_13_method_22_code 41 = .ok (.pop, 1) := by decide +kernel
theorem d_Mod_loop_42 : decode prog_13_method_22_code 42 = .ok (.aload_n 0, 1) := by decide +kernel
theorem d_Mod_loop_43 : decode prog_13_method_22_code 43 = .ok (.iload_n 1, 1) := by decide +kernel
theorem d_Mod_loop_44 : decode prog_13_method_22_code 44 = .ok (.invokevirtual 198, 3) := by decide +kernel
theorem d_Mod_loop_47 : decode prog_13_method_22_code 47 = .ok (.ifCond .ne 5, 3) := by decide +kernel
theorem d_Mod_loop_50 : decode prog_13_method_22_code 50 = .ok (.iconst 0, 1) := by decide +kernel
theorem d_Mod_loop_51 : decode prog_13_method_22_code 51 = .ok (.ireturn, 1) := by decide +kernel
theorem d_Mod_loop_52 : decode prog_13_method_22_code 52 = .ok (.aload_n 0, 1) := by decide +kernel
theorem d_Mod_loop_53 : decode prog_13_method_22_code 53 = .ok (.bipush 14, 2) := by decide +kernel
theorem d_Mod_loop_55 : decode prog_13_method_22_code 55 = .ok (.iload_n 2, 1) := by decide +kernel
theorem d_Mod_loop_56 : decode prog_13_method_22_code 56 = .ok (.invokevirtual 120, 3) := by decide +kernel
theorem d_Mod_loop_59 : decode prog_13_method_22_code 59 = .ok (.aload_n 0, 1) := by decide +kernel
theorem d_Mod_loop_60 : decode prog_13_method_22_code 60 = .ok (.getfield 91, 3) := by decide +kernel
theorem d_Mod_loop_63 : decode prog_13_method_22_code 63 = .ok (.getfield 95, 3) := by decide +kernel
theorem d_Mod_loop_66 : decode prog_13_method_22_code 66 = .ok (.iload_n 3, 1) := by decide +kernel
theorem d_Mod_loop_67 : decode prog_13_method_22_code 67 = .ok (.aload_n 0, 1) := by decide +kernel
theorem d_Mod_loop_68 : decode prog_13_method_22_code 68 = .ok (.getfield 91, 3) := by decide +kernel
theorem d_Mod_loop_71 : decode prog_13_method_22_code 71 = .ok (.getfield 100, 3) := by decide +kernel
theorem d_Mod_loop_74 : decode prog_13_method_22_code 74 = .ok (.iastore, 1) := by decide +kernel
theorem d_Mod_loop_75 : decode prog_13_method_22_code 75 = .ok (.iconst 1, 1) := by decide +kernel
theorem d_Mod_loop_76 : decode prog_13_method_22_code 76 = .ok (.ireturn, 1) := by decide +kernel
theorem d_Mod_assignment_0 : decode prog_13_method_23_code 0 = .ok (.aload_n 0, 1) := by decide +kernel
theorem d_Mod_assignment_1 : decode prog_13_method_23_code 1 = .ok (.iload_n 1, 1) := by decide +kernel
theorem d_Mod_assignment_2 : decode prog_13_method_23_code 2 = .ok (.invokevirtual 214, 3) := by decide +kernel
theorem d_Mod_assignment_5 : decode prog_13_method_23_code 5 = .ok (.ifCond .ne 5, 3) := by decide +kernel
theorem d_Mod_assignment_8 : decode prog_13_method_23_code 8 = .ok (.iconst 0, 1) := by decide +kernel
theorem d_Mod_assignment_9 : decode prog_13_method_23_code 9 = .ok (.ireturn, 1) := by decide +kernel
theorem d_Mod_assignment_10 : decode prog_13_method_23_code 10 = .ok (.aload_n 0, 1) := by decide +kernel
theorem d_Mod_assignment_11 : decode prog_13_method_23_code 11 = .ok (.ldc 218, 2) := by decide +kernel
theorem d_Mod_assignment_13 : decode prog_13_method_23_code 13 = .ok (.invokevirtual 80, 3) := by decide +kernel
theorem d_Mod_assignment_16 : decode prog_13_method_23_code 16 = .ok (.ifCond .ne 17, 3) := by decide +kernel
theorem d_Mod_assignment_19 : decode prog_13_method_23_code 19 = .ok (.aload_n 0, 1) := by decide +kernel
theorem d_Mod_assignment_20 : decode prog_13_method_23_code 20 = .ok (.bipush 27, 2) := by decide +kernel
theorem d_Mod_assignment_22 : decode prog_13_method_23_code 22 = .ok (.invokevirtual 103, 3) := by decide +kernel
theorem d_Mod_assignment_25 : decode prog_13_method_23_code 25 = .ok (.pop, 1) := by decide +kernel
theorem d_Mod_assignment_26 : decode prog_13_method_23_code 26 = .ok (.aload_n 0, 1) := by decide +kernel
theorem d_Mod_assignment_27 : decode prog_13_method_23_code 27 = .ok (.ldc 220, 2) := by decide +kernel
theorem d_Mod_assignment_29 : decode prog_13_method_23_code 29 = .ok (.invokevirtual 179, 3) := by decide +kernel
theorem d_Mod_assignment_32 : decode prog_13_method_23_code 32 = .ok (.ireturn, 1) := by decide +kernel
theorem d_Mod_assignment_33 : decode prog_13_method_23_code 33 = .ok (.aload_n 0, 1) := by decide +kernel
theorem d_Mod_assignment_34 : decode prog_13_method_23_code 34 = .ok (.getfield 249, 3) := by decide +kernel
theorem w_1647 : (Cond.fieldLink "StowTongueModel" 249 "StowTongueModel" "given" "Z" : Cond) ∈ am_tbl := am_w 1647 (by decide +kernel) (by decide +kernel)
theorem f_Mod_249 : am_F "StowTongueModel" 249 14 25 := ⟨_, rfl, cl_14, by decide, Or.inl w_1647⟩
theorem d_Mod_assignment_37 : decode prog_13_method_23_code 37 = .ok (.ifCond .ne 8, 3) := by decide +kernel
theorem d_Mod_assignment_40 : decode prog_13_method_23_code 40 = .ok (.aload_n 0, 1) := by decide +kernel
theorem d_Mod_assignment_41 : decode prog_13_method_23_code 41 = .ok (.invokevirtual 84, 3) := by decide +kernel
theorem d_Mod_assignment_44 : decode prog_13_method_23_code 44 = .ok (.ireturn, 1) := by decide +kernel
theorem d_Mod_assignment_45 : decode prog_13_method_23_code 45 = .ok (.aload_n 0, 1) := by decide +kernel
theorem d_Mod_assignment_46 : decode prog_13_method_23_code 46 = .ok (.getfield 253, 3) := by decide +kernel
theorem w_1649 : (Cond.fieldLink "StowTongueModel" 253 "StowTongueModel" "lastStep" "I" : Cond) ∈ am_tbl := am_w 1649 (by decide +kernel) (by decide +kernel)
theorem f_Mod_253 : am_F "StowTongueModel" 253 14 27 := ⟨_, rfl, cl_14, by decide, Or.inl w_1649⟩
theorem d_Mod_assignment_49 : decode prog_13_method_23_code 49 = .ok (.istore_n 2, 1) := by decide +kernel
theorem d_Mod_assignment_50 : decode prog_13_method_23_code 50 = .ok (.aload_n 0, 1) := by decide +kernel
theorem d_Mod_assignment_51 : decode prog_13_method_23_code 51 = .ok (.getfield 91, 3) := by decide +kernel
theorem d_Mod_assignment_54 : decode prog_13_method_23_code 54 = .ok (.getfield 95, 3) := by decide +kernel
theorem d_Mod_assignment_57 : decode prog_13_method_23_code 57 = .ok (.iload_n 2, 1) := by decide +kernel
theorem d_Mod_assignment_58 : decode prog_13_method_23_code 58 = .ok (.iaload, 1) := by decide +kernel
theorem d_Mod_assignment_59 : decode prog_13_method_23_code 59 = .ok (.istore_n 3, 1) := by decide +kernel
theorem d_Mod_assignment_60 : decode prog_13_method_23_code 60 = .ok (.iload_n 3, 1) := by decide +kernel
theorem d_Mod_assignment_61 : decode prog_13_method_23_code 61 = .ok (.bipush 7, 2) := by decide +kernel
theorem d_Mod_assignment_63 : decode prog_13_method_23_code 63 = .ok (.if_icmp .ne 7, 3) := by decide +kernel
theorem d_Mod_assignment_66 : decode prog_13_method_23_code 66 = .ok (.iconst 0, 1) := by decide +kernel
theorem d_Mod_assignment_67 : decode prog_13_method_23_code 67 = .ok (.goto 14, 3) := by decide +kernel
theorem d_Mod_assignment_81 : decode prog_13_method_23_code 81 = .ok (.istore 4, 2) := by decide +kernel
theorem d_Mod_assignment_83 : decode prog_13_method_23_code 83 = .ok (.aload_n 0, 1) := by decide +kernel
theorem d_Mod_assignment_84 : decode prog_13_method_23_code 84 = .ok (.getfield 91, 3) := by decide +kernel
theorem d_Mod_assignment_87 : decode prog_13_method_23_code 87 = .ok (.iload_n 2, 1) := by decide +kernel
theorem d_Mod_assignment_88 : decode prog_13_method_23_code 88 = .ok (.putfield 100, 3) := by decide +kernel
theorem d_Mod_assignment_91 : decode prog_13_method_23_code 91 = .ok (.aload_n 0, 1) := by decide +kernel
theorem d_Mod_assignment_92 : decode prog_13_method_23_code 92 = .ok (.invokevirtual 87, 3) := by decide +kernel
theorem d_Mod_assignment_95 : decode prog_13_method_23_code 95 = .ok (.aload_n 0, 1) := by decide +kernel
theorem d_Mod_assignment_96 : decode prog_13_method_23_code 96 = .ok (.iload_n 1, 1) := by decide +kernel
theorem d_Mod_assignment_97 : decode prog_13_method_23_code 97 = .ok (.invokevirtual 214, 3) := by decide +kernel
theorem d_Mod_assignment_100 : decode prog_13_method_23_code 100 = .ok (.ifCond .ne 5, 3) := by decide +kernel
theorem d_Mod_assignment_103 : decode prog_13_method_23_code 103 = .ok (.iconst 0, 1) := by decide +kernel
theorem d_Mod_assignment_104 : decode prog_13_method_23_code 104 = .ok (.ireturn, 1) := by decide +kernel
theorem d_Mod_assignment_105 : decode prog_13_method_23_code 105 = .ok (.aload_n 0, 1) := by decide +kernel
theorem d_Mod_assignment_106 : decode prog_13_method_23_code 106 = .ok (.iload_n 3, 1) := by decide +kernel
theorem d_Mod_assignment_107 : decode prog_13_method_23_code 107 = .ok (.iconst 1, 1) := by decide +kernel
theorem d_Mod_assignment_108 : decode prog_13_method_23_code 108 = .ok (.if_icmp .ne 7, 3) := by decide +kernel
theorem d_Mod_assignment_111 : decode prog_13_method_23_code 111 = .ok (.iconst 2, 1) := by decide +kernel
theorem d_Mod_assignment_112 : decode prog_13_method_23_code 112 = .ok (.goto 24, 3) := by decide +kernel
theorem d_Mod_assignment_136 : decode prog_13_method_23_code 136 = .ok (.invokevirtual 103, 3) := by decide +kernel
theorem d_Mod_assignment_139 : decode prog_13_method_23_code 139 = .ok (.pop, 1) := by decide +kernel
theorem d_Mod_assignment_140 : decode prog_13_method_23_code 140 = .ok (.iload_n 3, 1) := by decide +kernel
theorem d_Mod_assignment_141 : decode prog_13_method_23_code 141 = .ok (.bipush 7, 2) := by decide +kernel
theorem d_Mod_assignment_143 : decode prog_13_method_23_code 143 = .ok (.if_icmp .eq 10, 3) := by decide +kernel
theorem d_Mod_assignment_153 : decode prog_13_method_23_code 153 = .ok (.aload_n 0, 1) := by decide +kernel
theorem d_Mod_assignment_154 : decode prog_13_method_23_code 154 = .ok (.ldc 220, 2) := by decide +kernel
theorem d_Mod_assignment_156 : decode prog_13_method_23_code 156 = .ok (.invokevirtual 179, 3) := by decide +kernel
theorem d_Mod_assignment_159 : decode prog_13_method_23_code 159 = .ok (.ireturn, 1) := by decide +kernel
theorem d_Mod_assignment_146 : decode prog_13_method_23_code 146 = .ok (.aload_n 0, 1) := by decide +kernel
theorem d_Mod_assignment_147 : decode prog_13_method_23_code 147 = .ok (.iload 4, 2) := by decide +kernel
theorem d_Mod_assignment_149 : decode prog_13_method_23_code 149 = .ok (.invokevirtual 103, 3) := by decide +kernel
theorem d_Mod_assignment_152 : decode prog_13_method_23_code 152 = .ok (.pop, 1) := by decide +kernel
theorem d_Mod_assignment_115 : decode prog_13_method_23_code 115 = .ok (.iload_n 3, 1) := by decide +kernel
theorem d_Mod_assignment_116 : decode prog_13_method_23_code 116 = .ok (.iconst 3, 1) := by decide +kernel
theorem d_Mod_assignment_117 : decode prog_13_method_23_code 117 = .ok (.if_icmp .ne 7, 3) := by decide +kernel
theorem d_Mod_assignment_120 : decode prog_13_method_23_code 120 = .ok (.iconst 4, 1) := by decide +kernel
theorem d_Mod_assignment_121 : decode prog_13_method_23_code 121 = .ok (.goto 15, 3) := by decide +kernel
theorem d_Mod_assignment_124 : decode prog_13_method_23_code 124 = .ok (.iload_n 3, 1) := by decide +kernel
theorem d_Mod_assignment_125 : decode prog_13_method_23_code 125 = .ok (.iconst 5, 1) := by decide +kernel
theorem d_Mod_assignment_126 : decode prog_13_method_23_code 126 = .ok (.if_icmp .ne 8, 3) := by decide +kernel
theorem d_Mod_assignment_129 : decode prog_13_method_23_code 129 = .ok (.bipush 6, 2) := by decide +kernel
theorem d_Mod_assignment_131 : decode prog_13_method_23_code 131 = .ok (.goto 5, 3) := by decide +kernel
theorem d_Mod_assignment_134 : decode prog_13_method_23_code 134 = .ok (.bipush 8, 2) := by decide +kernel
theorem d_Mod_assignment_70 : decode prog_13_method_23_code 70 = .ok (.aload_n 0, 1) := by decide +kernel
theorem d_Mod_assignment_71 : decode prog_13_method_23_code 71 = .ok (.getfield 91, 3) := by decide +kernel
theorem d_Mod_assignment_74 : decode prog_13_method_23_code 74 = .ok (.getfield 95, 3) := by decide +kernel
theorem d_Mod_assignment_77 : decode prog_13_method_23_code 77 = .ok (.iload_n 2, 1) := by decide +kernel
theorem d_Mod_assignment_78 : decode prog_13_method_23_code 78 = .ok (.iconst 1, 1) := by decide +kernel
theorem d_Mod_assignment_79 : decode prog_13_method_23_code 79 = .ok (.iadd, 1) := by decide +kernel
theorem d_Mod_assignment_80 : decode prog_13_method_23_code 80 = .ok (.iaload, 1) := by decide +kernel
theorem d_Mod_expression_0 : decode prog_13_method_24_code 0 = .ok (.aload_n 0, 1) := by decide +kernel
theorem d_Mod_expression_1 : decode prog_13_method_24_code 1 = .ok (.iload_n 1, 1) := by decide +kernel
theorem d_Mod_expression_2 : decode prog_13_method_24_code 2 = .ok (.iconst 0, 1) := by decide +kernel
theorem d_Mod_expression_3 : decode prog_13_method_24_code 3 = .ok (.invokevirtual 256, 3) := by decide +kernel
theorem w_1883 : (Cond.methodLink "StowTongueModel" 256 ⟨"StowTongueModel", "either", "(II)Z"⟩ : Cond) ∈ am_tbl := am_w 1883 (by decide +kernel) (by decide +kernel)
set_option maxRecDepth 100000 in
theorem w_1886 : (Cond.code ⟨"StowTongueModel", "either", "(II)Z"⟩ prog_13_method_25_code 5 (some FieldType.boolean) : Cond) ∈ am_tbl := am_w 1886 rfl rfl
theorem l_Mod_256 : am_L "StowTongueModel" 256 2 m_Mod_either := ⟨Or.inl w_1883, w_160, w_1886, ⟨by decide, by decide⟩, by decide +kernel, by decide⟩
theorem w_1885 : (Cond.instanceMethod ⟨"StowTongueModel", "either", "(II)Z"⟩ : Cond) ∈ am_tbl := am_w 1885 (by decide +kernel) (by decide +kernel)
theorem w_97 : (Cond.selects "StowTongueModel" ⟨"StowTongueModel", "either", "(II)Z"⟩ ⟨"StowTongueModel", "either", "(II)Z"⟩ : Cond) ∈ am_tbl := am_w 97 (by decide +kernel) (by decide +kernel)
theorem d_Mod_expression_6 : decode prog_13_method_24_code 6 = .ok (.ireturn, 1) := by decide +kernel
theorem d_Mod_either_0 : decode prog_13_method_25_code 0 = .ok (.iload_n 2, 1) := by decide +kernel
theorem d_Mod_either_1 : decode prog_13_method_25_code 1 = .ok (.iconst 2, 1) := by decide +kernel
theorem d_Mod_either_2 : decode prog_13_method_25_code 2 = .ok (.if_icmp .ne 9, 3) := by decide +kernel
theorem d_Mod_either_5 : decode prog_13_method_25_code 5 = .ok (.aload_n 0, 1) := by decide +kernel
theorem d_Mod_either_6 : decode prog_13_method_25_code 6 = .ok (.iload_n 1, 1) := by decide +kernel
theorem d_Mod_either_7 : decode prog_13_method_25_code 7 = .ok (.invokevirtual 260, 3) := by decide +kernel
theorem w_1887 : (Cond.methodLink "StowTongueModel" 260 ⟨"StowTongueModel", "compared", "(I)Z"⟩ : Cond) ∈ am_tbl := am_w 1887 (by decide +kernel) (by decide +kernel)
set_option maxRecDepth 100000 in
theorem w_1890 : (Cond.code ⟨"StowTongueModel", "compared", "(I)Z"⟩ prog_13_method_26_code 3 (some FieldType.boolean) : Cond) ∈ am_tbl := am_w 1890 rfl rfl
theorem l_Mod_260 : am_L "StowTongueModel" 260 1 m_Mod_compared := ⟨Or.inl w_1887, w_160, w_1890, ⟨by decide, by decide⟩, by decide +kernel, by decide⟩
theorem w_1889 : (Cond.instanceMethod ⟨"StowTongueModel", "compared", "(I)Z"⟩ : Cond) ∈ am_tbl := am_w 1889 (by decide +kernel) (by decide +kernel)
theorem w_98 : (Cond.selects "StowTongueModel" ⟨"StowTongueModel", "compared", "(I)Z"⟩ ⟨"StowTongueModel", "compared", "(I)Z"⟩ : Cond) ∈ am_tbl := am_w 98 (by decide +kernel) (by decide +kernel)
theorem d_Mod_either_10 : decode prog_13_method_25_code 10 = .ok (.ireturn, 1) := by decide +kernel
theorem d_Mod_either_11 : decode prog_13_method_25_code 11 = .ok (.aload_n 0, 1) := by decide +kernel
theorem d_Mod_either_12 : decode prog_13_method_25_code 12 = .ok (.iload_n 1, 1) := by decide +kernel
theorem d_Mod_either_13 : decode prog_13_method_25_code 13 = .ok (.iload_n 2, 1) := by decide +kernel
theorem d_Mod_either_14 : decode prog_13_method_25_code 14 = .ok (.iconst 1, 1) := by decide +kernel
theorem d_Mod_either_15 : decode prog_13_method_25_code 15 = .ok (.iadd, 1) := by decide +kernel
theorem d_Mod_either_16 : decode prog_13_method_25_code 16 = .ok (.invokevirtual 256, 3) := by decide +kernel
theorem d_Mod_either_19 : decode prog_13_method_25_code 19 = .ok (.ifCond .ne 5, 3) := by decide +kernel
theorem d_Mod_either_22 : decode prog_13_method_25_code 22 = .ok (.iconst 0, 1) := by decide +kernel
theorem d_Mod_either_23 : decode prog_13_method_25_code 23 = .ok (.ireturn, 1) := by decide +kernel
theorem d_Mod_either_24 : decode prog_13_method_25_code 24 = .ok (.iconst (-1), 1) := by decide +kernel
theorem d_Mod_either_25 : decode prog_13_method_25_code 25 = .ok (.istore_n 3, 1) := by decide +kernel
theorem d_Mod_either_26 : decode prog_13_method_25_code 26 = .ok (.aload_n 0, 1) := by decide +kernel
theorem d_Mod_either_27 : decode prog_13_method_25_code 27 = .ok (.iload_n 2, 1) := by decide +kernel
theorem d_Mod_either_28 : decode prog_13_method_25_code 28 = .ok (.ifCond .ne 9, 3) := by decide +kernel
theorem d_Mod_either_31 : decode prog_13_method_25_code 31 = .ok (.ldc_w 263, 3) := by decide +kernel
theorem d_Mod_either_34 : decode prog_13_method_25_code 34 = .ok (.goto 6, 3) := by decide +kernel
theorem d_Mod_either_40 : decode prog_13_method_25_code 40 = .ok (.invokevirtual 80, 3) := by decide +kernel
theorem d_Mod_either_43 : decode prog_13_method_25_code 43 = .ok (.ifCond .eq 41, 3) := by decide +kernel
theorem d_Mod_either_84 : decode prog_13_method_25_code 84 = .ok (.iload_n 3, 1) := by decide +kernel
theorem d_Mod_either_85 : decode prog_13_method_25_code 85 = .ok (.ifCond .lt 36, 3) := by decide +kernel
theorem d_Mod_either_121 : decode prog_13_method_25_code 121 = .ok (.iconst 1, 1) := by decide +kernel
theorem d_Mod_either_122 : decode prog_13_method_25_code 122 = .ok (.ireturn, 1) := by decide +kernel
theorem d_Mod_either_88 : decode prog_13_method_25_code 88 = .ok (.aload_n 0, 1) := by decide +kernel
theorem d_Mod_either_89 : decode prog_13_method_25_code 89 = .ok (.getfield 91, 3) := by decide +kernel
theorem d_Mod_either_92 : decode prog_13_method_25_code 92 = .ok (.getfield 95, 3) := by decide +kernel
theorem d_Mod_either_95 : decode prog_13_method_25_code 95 = .ok (.iload_n 3, 1) := by decide +kernel
theorem d_Mod_either_96 : decode prog_13_method_25_code 96 = .ok (.iaload, 1) := by decide +kernel
theorem d_Mod_either_97 : decode prog_13_method_25_code 97 = .ok (.istore 4, 2) := by decide +kernel
theorem d_Mod_either_99 : decode prog_13_method_25_code 99 = .ok (.aload_n 0, 1) := by decide +kernel
theorem d_Mod_either_100 : decode prog_13_method_25_code 100 = .ok (.getfield 91, 3) := by decide +kernel
theorem d_Mod_either_103 : decode prog_13_method_25_code 103 = .ok (.getfield 95, 3) := by decide +kernel
theorem d_Mod_either_106 : decode prog_13_method_25_code 106 = .ok (.iload_n 3, 1) := by decide +kernel
theorem d_Mod_either_107 : decode prog_13_method_25_code 107 = .ok (.aload_n 0, 1) := by decide +kernel
theorem d_Mod_either_108 : decode prog_13_method_25_code 108 = .ok (.getfield 91, 3) := by decide +kernel
theorem d_Mod_either_111 : decode prog_13_method_25_code 111 = .ok (.getfield 100, 3) := by decide +kernel
theorem d_Mod_either_114 : decode prog_13_method_25_code 114 = .ok (.iastore, 1) := by decide +kernel
theorem d_Mod_either_115 : decode prog_13_method_25_code 115 = .ok (.iload 4, 2) := by decide +kernel
theorem d_Mod_either_117 : decode prog_13_method_25_code 117 = .ok (.istore_n 3, 1) := by decide +kernel
theorem d_Mod_either_118 : decode prog_13_method_25_code 118 = .ok (.goto (-34), 3) := by decide +kernel
theorem d_Mod_either_46 : decode prog_13_method_25_code 46 = .ok (.aload_n 0, 1) := by decide +kernel
theorem d_Mod_either_47 : decode prog_13_method_25_code 47 = .ok (.invokevirtual 87, 3) := by decide +kernel
theorem d_Mod_either_50 : decode prog_13_method_25_code 50 = .ok (.aload_n 0, 1) := by decide +kernel
theorem d_Mod_either_51 : decode prog_13_method_25_code 51 = .ok (.bipush 16, 2) := by decide +kernel
theorem d_Mod_either_53 : decode prog_13_method_25_code 53 = .ok (.iload_n 2, 1) := by decide +kernel
theorem d_Mod_either_54 : decode prog_13_method_25_code 54 = .ok (.invokevirtual 120, 3) := by decide +kernel
theorem d_Mod_either_57 : decode prog_13_method_25_code 57 = .ok (.aload_n 0, 1) := by decide +kernel
theorem d_Mod_either_58 : decode prog_13_method_25_code 58 = .ok (.iload_n 3, 1) := by decide +kernel
theorem d_Mod_either_59 : decode prog_13_method_25_code 59 = .ok (.invokevirtual 103, 3) := by decide +kernel
theorem d_Mod_either_62 : decode prog_13_method_25_code 62 = .ok (.istore_n 3, 1) := by decide +kernel
theorem d_Mod_either_63 : decode prog_13_method_25_code 63 = .ok (.aload_n 0, 1) := by decide +kernel
theorem d_Mod_either_64 : decode prog_13_method_25_code 64 = .ok (.iload_n 1, 1) := by decide +kernel
theorem d_Mod_either_65 : decode prog_13_method_25_code 65 = .ok (.iload_n 2, 1) := by decide +kernel
theorem d_Mod_either_66 : decode prog_13_method_25_code 66 = .ok (.iconst 1, 1) := by decide +kernel
theorem d_Mod_either_67 : decode prog_13_method_25_code 67 = .ok (.iadd, 1) := by decide +kernel
theorem d_Mod_either_68 : decode prog_13_method_25_code 68 = .ok (.invokevirtual 256, 3) := by decide +kernel
theorem d_Mod_either_71 : decode prog_13_method_25_code 71 = .ok (.ifCond .ne 5, 3) := by decide +kernel
theorem d_Mod_either_74 : decode prog_13_method_25_code 74 = .ok (.iconst 0, 1) := by decide +kernel
theorem d_Mod_either_75 : decode prog_13_method_25_code 75 = .ok (.ireturn, 1) := by decide +kernel
theorem d_Mod_either_76 : decode prog_13_method_25_code 76 = .ok (.aload_n 0, 1) := by decide +kernel
theorem d_Mod_either_77 : decode prog_13_method_25_code 77 = .ok (.iconst 0, 1) := by decide +kernel
theorem d_Mod_either_78 : decode prog_13_method_25_code 78 = .ok (.putfield 249, 3) := by decide +kernel
theorem d_Mod_either_81 : decode prog_13_method_25_code 81 = .ok (.goto (-55), 3) := by decide +kernel
theorem d_Mod_either_37 : decode prog_13_method_25_code 37 = .ok (.ldc_w 265, 3) := by decide +kernel
theorem d_Mod_compared_0 : decode prog_13_method_26_code 0 = .ok (.aload_n 0, 1) := by decide +kernel
theorem d_Mod_compared_1 : decode prog_13_method_26_code 1 = .ok (.iload_n 1, 1) := by decide +kernel
theorem d_Mod_compared_2 : decode prog_13_method_26_code 2 = .ok (.iconst 0, 1) := by decide +kernel
theorem d_Mod_compared_3 : decode prog_13_method_26_code 3 = .ok (.invokevirtual 267, 3) := by decide +kernel
theorem w_1891 : (Cond.methodLink "StowTongueModel" 267 ⟨"StowTongueModel", "sum", "(II)Z"⟩ : Cond) ∈ am_tbl := am_w 1891 (by decide +kernel) (by decide +kernel)
set_option maxRecDepth 100000 in
theorem w_1894 : (Cond.code ⟨"StowTongueModel", "sum", "(II)Z"⟩ prog_13_method_27_code 4 (some FieldType.boolean) : Cond) ∈ am_tbl := am_w 1894 rfl rfl
theorem l_Mod_267 : am_L "StowTongueModel" 267 2 m_Mod_sum_II := ⟨Or.inl w_1891, w_160, w_1894, ⟨by decide, by decide⟩, by decide +kernel, by decide⟩
theorem w_1893 : (Cond.instanceMethod ⟨"StowTongueModel", "sum", "(II)Z"⟩ : Cond) ∈ am_tbl := am_w 1893 (by decide +kernel) (by decide +kernel)
theorem w_99 : (Cond.selects "StowTongueModel" ⟨"StowTongueModel", "sum", "(II)Z"⟩ ⟨"StowTongueModel", "sum", "(II)Z"⟩ : Cond) ∈ am_tbl := am_w 99 (by decide +kernel) (by decide +kernel)
theorem d_Mod_compared_6 : decode prog_13_method_26_code 6 = .ok (.ifCond .ne 5, 3) := by decide +kernel
theorem d_Mod_compared_9 : decode prog_13_method_26_code 9 = .ok (.iconst 0, 1) := by decide +kernel
theorem d_Mod_compared_10 : decode prog_13_method_26_code 10 = .ok (.ireturn, 1) := by decide +kernel
theorem d_Mod_compared_11 : decode prog_13_method_26_code 11 = .ok (.aload_n 0, 1) := by decide +kernel
theorem d_Mod_compared_12 : decode prog_13_method_26_code 12 = .ok (.ldc_w 270, 3) := by decide +kernel
theorem d_Mod_compared_15 : decode prog_13_method_26_code 15 = .ok (.invokevirtual 80, 3) := by decide +kernel
theorem d_Mod_compared_18 : decode prog_13_method_26_code 18 = .ok (.ifCond .eq 7, 3) := by decide +kernel
theorem d_Mod_compared_25 : decode prog_13_method_26_code 25 = .ok (.aload_n 0, 1) := by decide +kernel
theorem d_Mod_compared_26 : decode prog_13_method_26_code 26 = .ok (.ldc_w 272, 3) := by decide +kernel
theorem d_Mod_compared_29 : decode prog_13_method_26_code 29 = .ok (.invokevirtual 80, 3) := by decide +kernel
theorem d_Mod_compared_32 : decode prog_13_method_26_code 32 = .ok (.ifCond .eq 7, 3) := by decide +kernel
theorem d_Mod_compared_39 : decode prog_13_method_26_code 39 = .ok (.aload_n 0, 1) := by decide +kernel
theorem d_Mod_compared_40 : decode prog_13_method_26_code 40 = .ok (.ldc_w 274, 3) := by decide +kernel
theorem d_Mod_compared_43 : decode prog_13_method_26_code 43 = .ok (.invokevirtual 80, 3) := by decide +kernel
theorem d_Mod_compared_46 : decode prog_13_method_26_code 46 = .ok (.ifCond .eq 7, 3) := by decide +kernel
theorem d_Mod_compared_53 : decode prog_13_method_26_code 53 = .ok (.aload_n 0, 1) := by decide +kernel
theorem d_Mod_compared_54 : decode prog_13_method_26_code 54 = .ok (.ldc_w 276, 3) := by decide +kernel
theorem d_Mod_compared_57 : decode prog_13_method_26_code 57 = .ok (.invokevirtual 80, 3) := by decide +kernel
theorem d_Mod_compared_60 : decode prog_13_method_26_code 60 = .ok (.ifCond .eq 7, 3) := by decide +kernel
theorem d_Mod_compared_67 : decode prog_13_method_26_code 67 = .ok (.iconst (-1), 1) := by decide +kernel
theorem d_Mod_compared_68 : decode prog_13_method_26_code 68 = .ok (.istore_n 2, 1) := by decide +kernel
theorem d_Mod_compared_69 : decode prog_13_method_26_code 69 = .ok (.iload_n 2, 1) := by decide +kernel
theorem d_Mod_compared_70 : decode prog_13_method_26_code 70 = .ok (.ifCond .ge 5, 3) := by decide +kernel
theorem d_Mod_compared_75 : decode prog_13_method_26_code 75 = .ok (.aload_n 0, 1) := by decide +kernel
theorem d_Mod_compared_76 : decode prog_13_method_26_code 76 = .ok (.invokevirtual 87, 3) := by decide +kernel
theorem d_Mod_compared_79 : decode prog_13_method_26_code 79 = .ok (.aload_n 0, 1) := by decide +kernel
theorem d_Mod_compared_80 : decode prog_13_method_26_code 80 = .ok (.iload_n 1, 1) := by decide +kernel
theorem d_Mod_compared_81 : decode prog_13_method_26_code 81 = .ok (.iconst 0, 1) := by decide +kernel
theorem d_Mod_compared_82 : decode prog_13_method_26_code 82 = .ok (.invokevirtual 267, 3) := by decide +kernel
theorem d_Mod_compared_85 : decode prog_13_method_26_code 85 = .ok (.ifCond .ne 5, 3) := by decide +kernel
theorem d_Mod_compared_88 : decode prog_13_method_26_code 88 = .ok (.iconst 0, 1) := by decide +kernel
theorem d_Mod_compared_89 : decode prog_13_method_26_code 89 = .ok (.ireturn, 1) := by decide +kernel
theorem d_Mod_compared_90 : decode prog_13_method_26_code 90 = .ok (.aload_n 0, 1) := by decide +kernel
theorem d_Mod_compared_91 : decode prog_13_method_26_code 91 = .ok (.iload_n 2, 1) := by decide +kernel
theorem d_Mod_compared_92 : decode prog_13_method_26_code 92 = .ok (.iconst 2, 1) := by decide +kernel
theorem d_Mod_compared_93 : decode prog_13_method_26_code 93 = .ok (.if_icmp .ge 8, 3) := by decide +kernel
theorem d_Mod_compared_101 : decode prog_13_method_26_code 101 = .ok (.bipush 13, 2) := by decide +kernel
theorem d_Mod_compared_103 : decode prog_13_method_26_code 103 = .ok (.iload_n 2, 1) := by decide +kernel
theorem d_Mod_compared_104 : decode prog_13_method_26_code 104 = .ok (.iconst 1, 1) := by decide +kernel
theorem d_Mod_compared_105 : decode prog_13_method_26_code 105 = .ok (.iand, 1) := by decide +kernel
theorem d_Mod_compared_106 : decode prog_13_method_26_code 106 = .ok (.invokevirtual 120, 3) := by decide +kernel
theorem d_Mod_compared_109 : decode prog_13_method_26_code 109 = .ok (.aload_n 0, 1) := by decide +kernel
theorem d_Mod_compared_110 : decode prog_13_method_26_code 110 = .ok (.iconst 0, 1) := by decide +kernel
theorem d_Mod_compared_111 : decode prog_13_method_26_code 111 = .ok (.putfield 249, 3) := by decide +kernel
theorem d_Mod_compared_114 : decode prog_13_method_26_code 114 = .ok (.iconst 1, 1) := by decide +kernel
theorem d_Mod_compared_115 : decode prog_13_method_26_code 115 = .ok (.ireturn, 1) := by decide +kernel
theorem d_Mod_compared_96 : decode prog_13_method_26_code 96 = .ok (.bipush 12, 2) := by decide +kernel
theorem d_Mod_compared_98 : decode prog_13_method_26_code 98 = .ok (.goto 5, 3) := by decide +kernel
theorem d_Mod_compared_73 : decode prog_13_method_26_code 73 = .ok (.iconst 1, 1) := by decide +kernel
theorem d_Mod_compared_74 : decode prog_13_method_26_code 74 = .ok (.ireturn, 1) := by decide +kernel
theorem d_Mod_compared_63 : decode prog_13_method_26_code 63 = .ok (.iconst 3, 1) := by decide +kernel
theorem d_Mod_compared_64 : decode prog_13_method_26_code 64 = .ok (.goto 4, 3) := by decide +kernel
theorem d_Mod_compared_49 : decode prog_13_method_26_code 49 = .ok (.iconst 2, 1) := by decide +kernel
theorem d_Mod_compared_50 : decode prog_13_method_26_code 50 = .ok (.goto 18, 3) := by decide +kernel
theorem d_Mod_compared_35 : decode prog_13_method_26_code 35 = .ok (.iconst 1, 1) := by decide +kernel
theorem d_Mod_compared_36 : decode prog_13_method_26_code 36 = .ok (.goto 32, 3) := by decide +kernel
theorem d_Mod_compared_21 : decode prog_13_method_26_code 21 = .ok (.iconst 0, 1) := by decide +kernel
theorem d_Mod_compared_22 : decode prog_13_method_26_code 22 = .ok (.goto 46, 3) := by decide +kernel
theorem d_Mod_sum_II_0 : decode prog_13_method_27_code 0 = .ok (.iload_n 2, 1) := by decide +kernel
theorem d_Mod_sum_II_1 : decode prog_13_method_27_code 1 = .ok (.iconst 2, 1) := by decide +kernel
theorem d_Mod_sum_II_2 : decode prog_13_method_27_code 2 = .ok (.if_icmp .ne 9, 3) := by decide +kernel
theorem d_Mod_sum_II_5 : decode prog_13_method_27_code 5 = .ok (.aload_n 0, 1) := by decide +kernel
theorem d_Mod_sum_II_6 : decode prog_13_method_27_code 6 = .ok (.iload_n 1, 1) := by decide +kernel
theorem d_Mod_sum_II_7 : decode prog_13_method_27_code 7 = .ok (.invokevirtual 278, 3) := by decide +kernel
theorem w_1895 : (Cond.methodLink "StowTongueModel" 278 ⟨"StowTongueModel", "unary", "(I)Z"⟩ : Cond) ∈ am_tbl := am_w 1895 (by decide +kernel) (by decide +kernel)
set_option maxRecDepth 100000 in
theorem w_1898 : (Cond.code ⟨"StowTongueModel", "unary", "(I)Z"⟩ prog_13_method_28_code 3 (some FieldType.boolean) : Cond) ∈ am_tbl := am_w 1898 rfl rfl
theorem l_Mod_278 : am_L "StowTongueModel" 278 1 m_Mod_unary := ⟨Or.inl w_1895, w_160, w_1898, ⟨by decide, by decide⟩, by decide +kernel, by decide⟩
theorem w_1897 : (Cond.instanceMethod ⟨"StowTongueModel", "unary", "(I)Z"⟩ : Cond) ∈ am_tbl := am_w 1897 (by decide +kernel) (by decide +kernel)
theorem w_100 : (Cond.selects "StowTongueModel" ⟨"StowTongueModel", "unary", "(I)Z"⟩ ⟨"StowTongueModel", "unary", "(I)Z"⟩ : Cond) ∈ am_tbl := am_w 100 (by decide +kernel) (by decide +kernel)
theorem d_Mod_sum_II_10 : decode prog_13_method_27_code 10 = .ok (.ireturn, 1) := by decide +kernel
theorem d_Mod_sum_II_11 : decode prog_13_method_27_code 11 = .ok (.aload_n 0, 1) := by decide +kernel
theorem d_Mod_sum_II_12 : decode prog_13_method_27_code 12 = .ok (.iload_n 1, 1) := by decide +kernel
theorem d_Mod_sum_II_13 : decode prog_13_method_27_code 13 = .ok (.iload_n 2, 1) := by decide +kernel
theorem d_Mod_sum_II_14 : decode prog_13_method_27_code 14 = .ok (.iconst 1, 1) := by decide +kernel
theorem d_Mod_sum_II_15 : decode prog_13_method_27_code 15 = .ok (.iadd, 1) := by decide +kernel
theorem d_Mod_sum_II_16 : decode prog_13_method_27_code 16 = .ok (.invokevirtual 267, 3) := by decide +kernel
theorem d_Mod_sum_II_19 : decode prog_13_method_27_code 19 = .ok (.ifCond .ne 5, 3) := by decide +kernel
theorem d_Mod_sum_II_22 : decode prog_13_method_27_code 22 = .ok (.iconst 0, 1) := by decide +kernel
theorem d_Mod_sum_II_23 : decode prog_13_method_27_code 23 = .ok (.ireturn, 1) := by decide +kernel
theorem d_Mod_sum_II_24 : decode prog_13_method_27_code 24 = .ok (.iload_n 2, 1) := by decide +kernel
theorem d_Mod_sum_II_25 : decode prog_13_method_27_code 25 = .ok (.ifCond .ne 26, 3) := by decide +kernel
theorem d_Mod_sum_II_28 : decode prog_13_method_27_code 28 = .ok (.aload_n 0, 1) := by decide +kernel
theorem d_Mod_sum_II_29 : decode prog_13_method_27_code 29 = .ok (.ldc_w 281, 3) := by decide +kernel
theorem d_Mod_sum_II_32 : decode prog_13_method_27_code 32 = .ok (.invokevirtual 80, 3) := by decide +kernel
theorem d_Mod_sum_II_35 : decode prog_13_method_27_code 35 = .ok (.ifCond .ne 46, 3) := by decide +kernel
theorem d_Mod_sum_II_38 : decode prog_13_method_27_code 38 = .ok (.aload_n 0, 1) := by decide +kernel
theorem d_Mod_sum_II_39 : decode prog_13_method_27_code 39 = .ok (.ldc_w 283, 3) := by decide +kernel
theorem d_Mod_sum_II_42 : decode prog_13_method_27_code 42 = .ok (.invokevirtual 80, 3) := by decide +kernel
theorem d_Mod_sum_II_45 : decode prog_13_method_27_code 45 = .ok (.ifCond .eq 78, 3) := by decide +kernel
theorem d_Mod_sum_II_123 : decode prog_13_method_27_code 123 = .ok (.iconst 1, 1) := by decide +kernel
theorem d_Mod_sum_II_124 : decode prog_13_method_27_code 124 = .ok (.ireturn, 1) := by decide +kernel
theorem d_Mod_sum_II_48 : decode prog_13_method_27_code 48 = .ok (.goto 33, 3) := by decide +kernel
theorem d_Mod_sum_II_81 : decode prog_13_method_27_code 81 = .ok (.aload_n 0, 1) := by decide +kernel
theorem d_Mod_sum_II_82 : decode prog_13_method_27_code 82 = .ok (.getfield 22, 3) := by decide +kernel
theorem d_Mod_sum_II_85 : decode prog_13_method_27_code 85 = .ok (.aload_n 0, 1) := by decide +kernel
theorem d_Mod_sum_II_86 : decode prog_13_method_27_code 86 = .ok (.getfield 9, 3) := by decide +kernel
theorem d_Mod_sum_II_89 : decode prog_13_method_27_code 89 = .ok (.baload, 1) := by decide +kernel
theorem d_Mod_sum_II_90 : decode prog_13_method_27_code 90 = .ok (.istore_n 3, 1) := by decide +kernel
theorem d_Mod_sum_II_91 : decode prog_13_method_27_code 91 = .ok (.aload_n 0, 1) := by decide +kernel
theorem d_Mod_sum_II_92 : decode prog_13_method_27_code 92 = .ok (.invokevirtual 87, 3) := by decide +kernel
theorem d_Mod_sum_II_95 : decode prog_13_method_27_code 95 = .ok (.aload_n 0, 1) := by decide +kernel
theorem d_Mod_sum_II_96 : decode prog_13_method_27_code 96 = .ok (.iload_n 1, 1) := by decide +kernel
theorem d_Mod_sum_II_97 : decode prog_13_method_27_code 97 = .ok (.iload_n 2, 1) := by decide +kernel
theorem d_Mod_sum_II_98 : decode prog_13_method_27_code 98 = .ok (.iconst 1, 1) := by decide +kernel
theorem d_Mod_sum_II_99 : decode prog_13_method_27_code 99 = .ok (.iadd, 1) := by decide +kernel
theorem d_Mod_sum_II_100 : decode prog_13_method_27_code 100 = .ok (.invokevirtual 267, 3) := by decide +kernel
theorem d_Mod_sum_II_103 : decode prog_13_method_27_code 103 = .ok (.ifCond .ne 5, 3) := by decide +kernel
theorem d_Mod_sum_II_106 : decode prog_13_method_27_code 106 = .ok (.iconst 0, 1) := by decide +kernel
theorem d_Mod_sum_II_107 : decode prog_13_method_27_code 107 = .ok (.ireturn, 1) := by decide +kernel
theorem d_Mod_sum_II_108 : decode prog_13_method_27_code 108 = .ok (.aload_n 0, 1) := by decide +kernel
theorem d_Mod_sum_II_109 : decode prog_13_method_27_code 109 = .ok (.bipush 9, 2) := by decide +kernel
theorem d_Mod_sum_II_111 : decode prog_13_method_27_code 111 = .ok (.iload_n 3, 1) := by decide +kernel
theorem d_Mod_sum_II_112 : decode prog_13_method_27_code 112 = .ok (.invokevirtual 120, 3) := by decide +kernel
theorem d_Mod_sum_II_115 : decode prog_13_method_27_code 115 = .ok (.aload_n 0, 1) := by decide +kernel
theorem d_Mod_sum_II_116 : decode prog_13_method_27_code 116 = .ok (.iconst 0, 1) := by decide +kernel
theorem d_Mod_sum_II_117 : decode prog_13_method_27_code 117 = .ok (.putfield 249, 3) := by decide +kernel
theorem d_Mod_sum_II_120 : decode prog_13_method_27_code 120 = .ok (.goto (-96), 3) := by decide +kernel
theorem d_Mod_sum_II_51 : decode prog_13_method_27_code 51 = .ok (.aload_n 0, 1) := by decide +kernel
theorem d_Mod_sum_II_52 : decode prog_13_method_27_code 52 = .ok (.ldc_w 285, 3) := by decide +kernel
theorem d_Mod_sum_II_55 : decode prog_13_method_27_code 55 = .ok (.invokevirtual 80, 3) := by decide +kernel
theorem d_Mod_sum_II_58 : decode prog_13_method_27_code 58 = .ok (.ifCond .ne 23, 3) := by decide +kernel
theorem d_Mod_sum_II_61 : decode prog_13_method_27_code 61 = .ok (.aload_n 0, 1) := by decide +kernel
theorem d_Mod_sum_II_62 : decode prog_13_method_27_code 62 = .ok (.ldc_w 287, 3) := by decide +kernel
theorem d_Mod_sum_II_65 : decode prog_13_method_27_code 65 = .ok (.invokevirtual 80, 3) := by decide +kernel
theorem d_Mod_sum_II_68 : decode prog_13_method_27_code 68 = .ok (.ifCond .ne 13, 3) := by decide +kernel
theorem d_Mod_sum_II_71 : decode prog_13_method_27_code 71 = .ok (.aload_n 0, 1) := by decide +kernel
theorem d_Mod_sum_II_72 : decode prog_13_method_27_code 72 = .ok (.ldc_w 289, 3) := by decide +kernel
theorem d_Mod_sum_II_75 : decode prog_13_method_27_code 75 = .ok (.invokevirtual 80, 3) := by decide +kernel
theorem d_Mod_sum_II_78 : decode prog_13_method_27_code 78 = .ok (.ifCond .eq 45, 3) := by decide +kernel
theorem d_Mod_unary_0 : decode prog_13_method_28_code 0 = .ok (.aload_n 0, 1) := by decide +kernel
theorem d_Mod_unary_1 : decode prog_13_method_28_code 1 = .ok (.ldc_w 283, 3) := by decide +kernel
theorem d_Mod_unary_4 : decode prog_13_method_28_code 4 = .ok (.invokevirtual 80, 3) := by decide +kernel
theorem d_Mod_unary_7 : decode prog_13_method_28_code 7 = .ok (.ifCond .ne 19, 3) := by decide +kernel
theorem d_Mod_unary_10 : decode prog_13_method_28_code 10 = .ok (.aload_n 0, 1) := by decide +kernel
theorem d_Mod_unary_11 : decode prog_13_method_28_code 11 = .ok (.ldc_w 291, 3) := by decide +kernel
theorem d_Mod_unary_14 : decode prog_13_method_28_code 14 = .ok (.invokevirtual 80, 3) := by decide +kernel
theorem d_Mod_unary_17 : decode prog_13_method_28_code 17 = .ok (.ifCond .ne 9, 3) := by decide +kernel
theorem d_Mod_unary_20 : decode prog_13_method_28_code 20 = .ok (.aload_n 0, 1) := by decide +kernel
theorem d_Mod_unary_21 : decode prog_13_method_28_code 21 = .ok (.iload_n 1, 1) := by decide +kernel
theorem d_Mod_unary_22 : decode prog_13_method_28_code 22 = .ok (.invokevirtual 293, 3) := by decide +kernel
theorem w_1901 : (Cond.methodLink "StowTongueModel" 293 ⟨"StowTongueModel", "atom", "(I)Z"⟩ : Cond) ∈ am_tbl := am_w 1901 (by decide +kernel) (by decide +kernel)
set_option maxRecDepth 100000 in
theorem w_1904 : (Cond.code ⟨"StowTongueModel", "atom", "(I)Z"⟩ prog_13_method_29_code 4 (some FieldType.boolean) : Cond) ∈ am_tbl := am_w 1904 rfl rfl
theorem l_Mod_293 : am_L "StowTongueModel" 293 1 m_Mod_atom := ⟨Or.inl w_1901, w_160, w_1904, ⟨by decide, by decide⟩, by decide +kernel, by decide⟩
theorem w_1903 : (Cond.instanceMethod ⟨"StowTongueModel", "atom", "(I)Z"⟩ : Cond) ∈ am_tbl := am_w 1903 (by decide +kernel) (by decide +kernel)
theorem w_101 : (Cond.selects "StowTongueModel" ⟨"StowTongueModel", "atom", "(I)Z"⟩ ⟨"StowTongueModel", "atom", "(I)Z"⟩ : Cond) ∈ am_tbl := am_w 101 (by decide +kernel) (by decide +kernel)
theorem d_Mod_unary_25 : decode prog_13_method_28_code 25 = .ok (.ireturn, 1) := by decide +kernel
theorem d_Mod_unary_26 : decode prog_13_method_28_code 26 = .ok (.iload_n 1, 1) := by decide +kernel
theorem d_Mod_unary_27 : decode prog_13_method_28_code 27 = .ok (.bipush 16, 2) := by decide +kernel
theorem d_Mod_unary_29 : decode prog_13_method_28_code 29 = .ok (.if_icmp .ne 8, 3) := by decide +kernel
theorem d_Mod_unary_32 : decode prog_13_method_28_code 32 = .ok (.aload_n 0, 1) := by decide +kernel
theorem d_Mod_unary_33 : decode prog_13_method_28_code 33 = .ok (.invokevirtual 84, 3) := by decide +kernel
theorem d_Mod_unary_36 : decode prog_13_method_28_code 36 = .ok (.ireturn, 1) := by decide +kernel
theorem d_Mod_unary_37 : decode prog_13_method_28_code 37 = .ok (.aload_n 0, 1) := by decide +kernel
theorem d_Mod_unary_38 : decode prog_13_method_28_code 38 = .ok (.ldc_w 283, 3) := by decide +kernel
theorem d_Mod_unary_41 : decode prog_13_method_28_code 41 = .ok (.invokevirtual 80, 3) := by decide +kernel
theorem d_Mod_unary_44 : decode prog_13_method_28_code 44 = .ok (.istore_n 2, 1) := by decide +kernel
theorem d_Mod_unary_45 : decode prog_13_method_28_code 45 = .ok (.aload_n 0, 1) := by decide +kernel
theorem d_Mod_unary_46 : decode prog_13_method_28_code 46 = .ok (.invokevirtual 87, 3) := by decide +kernel
theorem d_Mod_unary_49 : decode prog_13_method_28_code 49 = .ok (.aload_n 0, 1) := by decide +kernel
theorem d_Mod_unary_50 : decode prog_13_method_28_code 50 = .ok (.iload_n 1, 1) := by decide +kernel
theorem d_Mod_unary_51 : decode prog_13_method_28_code 51 = .ok (.iconst 1, 1) := by decide +kernel
theorem d_Mod_unary_52 : decode prog_13_method_28_code 52 = .ok (.iadd, 1) := by decide +kernel
theorem d_Mod_unary_53 : decode prog_13_method_28_code 53 = .ok (.invokevirtual 278, 3) := by decide +kernel
theorem d_Mod_unary_56 : decode prog_13_method_28_code 56 = .ok (.ifCond .ne 5, 3) := by decide +kernel
theorem d_Mod_unary_59 : decode prog_13_method_28_code 59 = .ok (.iconst 0, 1) := by decide +kernel
theorem d_Mod_unary_60 : decode prog_13_method_28_code 60 = .ok (.ireturn, 1) := by decide +kernel
theorem d_Mod_unary_61 : decode prog_13_method_28_code 61 = .ok (.aload_n 0, 1) := by decide +kernel
theorem d_Mod_unary_62 : decode prog_13_method_28_code 62 = .ok (.iload_n 2, 1) := by decide +kernel
theorem d_Mod_unary_63 : decode prog_13_method_28_code 63 = .ok (.ifCond .eq 8, 3) := by decide +kernel
theorem d_Mod_unary_71 : decode prog_13_method_28_code 71 = .ok (.bipush 11, 2) := by decide +kernel
theorem d_Mod_unary_73 : decode prog_13_method_28_code 73 = .ok (.invokevirtual 103, 3) := by decide +kernel
theorem d_Mod_unary_76 : decode prog_13_method_28_code 76 = .ok (.pop, 1) := by decide +kernel
theorem d_Mod_unary_77 : decode prog_13_method_28_code 77 = .ok (.aload_n 0, 1) := by decide +kernel
theorem d_Mod_unary_78 : decode prog_13_method_28_code 78 = .ok (.iconst 0, 1) := by decide +kernel
theorem d_Mod_unary_79 : decode prog_13_method_28_code 79 = .ok (.putfield 249, 3) := by decide +kernel
theorem d_Mod_unary_82 : decode prog_13_method_28_code 82 = .ok (.iconst 1, 1) := by decide +kernel
theorem d_Mod_unary_83 : decode prog_13_method_28_code 83 = .ok (.ireturn, 1) := by decide +kernel
theorem d_Mod_unary_66 : decode prog_13_method_28_code 66 = .ok (.bipush 10, 2) := by decide +kernel
theorem d_Mod_unary_68 : decode prog_13_method_28_code 68 = .ok (.goto 5, 3) := by decide +kernel
theorem d_Mod_atom_0 : decode prog_13_method_29_code 0 = .ok (.aload_n 0, 1) := by decide +kernel
theorem d_Mod_atom_1 : decode prog_13_method_29_code 1 = .ok (.iload_n 1, 1) := by decide +kernel
theorem d_Mod_atom_2 : decode prog_13_method_29_code 2 = .ok (.invokevirtual 296, 3) := by decide +kernel
theorem w_1905 : (Cond.methodLink "StowTongueModel" 296 ⟨"StowTongueModel", "simple", "(I)Z"⟩ : Cond) ∈ am_tbl := am_w 1905 (by decide +kernel) (by decide +kernel)
set_option maxRecDepth 100000 in
theorem w_1908 : (Cond.code ⟨"StowTongueModel", "simple", "(I)Z"⟩ prog_13_method_30_code 3 (some FieldType.boolean) : Cond) ∈ am_tbl := am_w 1908 rfl rfl
theorem l_Mod_296 : am_L "StowTongueModel" 296 1 m_Mod_simple := ⟨Or.inl w_1905, w_160, w_1908, ⟨by decide, by decide⟩, by decide +kernel, by decide⟩
theorem w_1907 : (Cond.instanceMethod ⟨"StowTongueModel", "simple", "(I)Z"⟩ : Cond) ∈ am_tbl := am_w 1907 (by decide +kernel) (by decide +kernel)
theorem w_102 : (Cond.selects "StowTongueModel" ⟨"StowTongueModel", "simple", "(I)Z"⟩ ⟨"StowTongueModel", "simple", "(I)Z"⟩ : Cond) ∈ am_tbl := am_w 102 (by decide +kernel) (by decide +kernel)
theorem d_Mod_atom_5 : decode prog_13_method_29_code 5 = .ok (.ifCond .ne 5, 3) := by decide +kernel
theorem d_Mod_atom_8 : decode prog_13_method_29_code 8 = .ok (.iconst 0, 1) := by decide +kernel
theorem d_Mod_atom_9 : decode prog_13_method_29_code 9 = .ok (.ireturn, 1) := by decide +kernel
theorem d_Mod_atom_10 : decode prog_13_method_29_code 10 = .ok (.aload_n 0, 1) := by decide +kernel
theorem d_Mod_atom_11 : decode prog_13_method_29_code 11 = .ok (.ldc_w 299, 3) := by decide +kernel
theorem d_Mod_atom_14 : decode prog_13_method_29_code 14 = .ok (.invokevirtual 80, 3) := by decide +kernel
theorem d_Mod_atom_17 : decode prog_13_method_29_code 17 = .ok (.ifCond .ne 13, 3) := by decide +kernel
theorem d_Mod_atom_20 : decode prog_13_method_29_code 20 = .ok (.aload_n 0, 1) := by decide +kernel
theorem d_Mod_atom_21 : decode prog_13_method_29_code 21 = .ok (.ldc_w 301, 3) := by decide +kernel
theorem d_Mod_atom_24 : decode prog_13_method_29_code 24 = .ok (.invokevirtual 80, 3) := by decide +kernel
theorem d_Mod_atom_27 : decode prog_13_method_29_code 27 = .ok (.ifCond .eq 122, 3) := by decide +kernel
theorem d_Mod_atom_149 : decode prog_13_method_29_code 149 = .ok (.iconst 1, 1) := by decide +kernel
theorem d_Mod_atom_150 : decode prog_13_method_29_code 150 = .ok (.ireturn, 1) := by decide +kernel
theorem d_Mod_atom_30 : decode prog_13_method_29_code 30 = .ok (.aload_n 0, 1) := by decide +kernel
theorem d_Mod_atom_31 : decode prog_13_method_29_code 31 = .ok (.ldc_w 299, 3) := by decide +kernel
theorem d_Mod_atom_34 : decode prog_13_method_29_code 34 = .ok (.invokevirtual 80, 3) := by decide +kernel
theorem d_Mod_atom_37 : decode prog_13_method_29_code 37 = .ok (.istore_n 2, 1) := by decide +kernel
theorem d_Mod_atom_38 : decode prog_13_method_29_code 38 = .ok (.iload_n 2, 1) := by decide +kernel
theorem d_Mod_atom_39 : decode prog_13_method_29_code 39 = .ok (.ifCond .ne 14, 3) := by decide +kernel
theorem d_Mod_atom_42 : decode prog_13_method_29_code 42 = .ok (.iload_n 1, 1) := by decide +kernel
theorem d_Mod_atom_43 : decode prog_13_method_29_code 43 = .ok (.bipush 16, 2) := by decide +kernel
theorem d_Mod_atom_45 : decode prog_13_method_29_code 45 = .ok (.if_icmp .ne 8, 3) := by decide +kernel
theorem d_Mod_atom_48 : decode prog_13_method_29_code 48 = .ok (.aload_n 0, 1) := by decide +kernel
theorem d_Mod_atom_49 : decode prog_13_method_29_code 49 = .ok (.invokevirtual 84, 3) := by decide +kernel
theorem d_Mod_atom_52 : decode prog_13_method_29_code 52 = .ok (.ireturn, 1) := by decide +kernel
theorem d_Mod_atom_53 : decode prog_13_method_29_code 53 = .ok (.aload_n 0, 1) := by decide +kernel
theorem d_Mod_atom_54 : decode prog_13_method_29_code 54 = .ok (.invokevirtual 87, 3) := by decide +kernel
theorem d_Mod_atom_57 : decode prog_13_method_29_code 57 = .ok (.iload_n 2, 1) := by decide +kernel
theorem d_Mod_atom_58 : decode prog_13_method_29_code 58 = .ok (.ifCond .eq 49, 3) := by decide +kernel
theorem d_Mod_atom_107 : decode prog_13_method_29_code 107 = .ok (.aload_n 0, 1) := by decide +kernel
theorem d_Mod_atom_108 : decode prog_13_method_29_code 108 = .ok (.iload_n 1, 1) := by decide +kernel
theorem d_Mod_atom_109 : decode prog_13_method_29_code 109 = .ok (.iconst 1, 1) := by decide +kernel
theorem d_Mod_atom_110 : decode prog_13_method_29_code 110 = .ok (.iadd, 1) := by decide +kernel
theorem d_Mod_atom_111 : decode prog_13_method_29_code 111 = .ok (.invokevirtual 214, 3) := by decide +kernel
theorem d_Mod_atom_114 : decode prog_13_method_29_code 114 = .ok (.ifCond .ne 5, 3) := by decide +kernel
theorem d_Mod_atom_117 : decode prog_13_method_29_code 117 = .ok (.iconst 0, 1) := by decide +kernel
theorem d_Mod_atom_118 : decode prog_13_method_29_code 118 = .ok (.ireturn, 1) := by decide +kernel
theorem d_Mod_atom_119 : decode prog_13_method_29_code 119 = .ok (.aload_n 0, 1) := by decide +kernel
theorem d_Mod_atom_120 : decode prog_13_method_29_code 120 = .ok (.aload_n 0, 1) := by decide +kernel
theorem d_Mod_atom_121 : decode prog_13_method_29_code 121 = .ok (.bipush 7, 2) := by decide +kernel
theorem d_Mod_atom_123 : decode prog_13_method_29_code 123 = .ok (.invokevirtual 103, 3) := by decide +kernel
theorem d_Mod_atom_126 : decode prog_13_method_29_code 126 = .ok (.putfield 253, 3) := by decide +kernel
theorem d_Mod_atom_129 : decode prog_13_method_29_code 129 = .ok (.aload_n 0, 1) := by decide +kernel
theorem d_Mod_atom_130 : decode prog_13_method_29_code 130 = .ok (.ldc_w 306, 3) := by decide +kernel
theorem d_Mod_atom_133 : decode prog_13_method_29_code 133 = .ok (.invokevirtual 179, 3) := by decide +kernel
theorem d_Mod_atom_136 : decode prog_13_method_29_code 136 = .ok (.ifCond .ne 5, 3) := by decide +kernel
theorem d_Mod_atom_139 : decode prog_13_method_29_code 139 = .ok (.iconst 0, 1) := by decide +kernel
theorem d_Mod_atom_140 : decode prog_13_method_29_code 140 = .ok (.ireturn, 1) := by decide +kernel
theorem d_Mod_atom_141 : decode prog_13_method_29_code 141 = .ok (.aload_n 0, 1) := by decide +kernel
theorem d_Mod_atom_142 : decode prog_13_method_29_code 142 = .ok (.iconst 1, 1) := by decide +kernel
theorem d_Mod_atom_143 : decode prog_13_method_29_code 143 = .ok (.putfield 249, 3) := by decide +kernel
theorem d_Mod_atom_146 : decode prog_13_method_29_code 146 = .ok (.goto (-136), 3) := by decide +kernel
theorem d_Mod_atom_61 : decode prog_13_method_29_code 61 = .ok (.aload_n 0, 1) := by decide +kernel
theorem d_Mod_atom_62 : decode prog_13_method_29_code 62 = .ok (.getfield 32, 3) := by decide +kernel
theorem d_Mod_atom_65 : decode prog_13_method_29_code 65 = .ok (.iconst 1, 1) := by decide +kernel
theorem d_Mod_atom_66 : decode prog_13_method_29_code 66 = .ok (.if_icmp .eq 8, 3) := by decide +kernel
theorem d_Mod_atom_74 : decode prog_13_method_29_code 74 = .ok (.aload_n 0, 1) := by decide +kernel
theorem d_Mod_atom_75 : decode prog_13_method_29_code 75 = .ok (.aload_n 0, 1) := by decide +kernel
theorem d_Mod_atom_76 : decode prog_13_method_29_code 76 = .ok (.invokevirtual 164, 3) := by decide +kernel
theorem d_Mod_atom_79 : decode prog_13_method_29_code 79 = .ok (.invokevirtual 303, 3) := by decide +kernel
theorem w_1930 : (Cond.methodLink "StowTongueModel" 303 ⟨"StowTongueModel", "nameValue", "(J)I"⟩ : Cond) ∈ am_tbl := am_w 1930 (by decide +kernel) (by decide +kernel)
set_option maxRecDepth 100000 in
theorem w_1933 : (Cond.code ⟨"StowTongueModel", "nameValue", "(J)I"⟩ prog_13_method_13_code 3 (some FieldType.int) : Cond) ∈ am_tbl := am_w 1933 rfl rfl
theorem l_Mod_303 : am_L "StowTongueModel" 303 1 m_Mod_nameValue := ⟨Or.inl w_1930, w_160, w_1933, ⟨by decide, by decide⟩, by decide +kernel, by decide⟩
theorem w_1932 : (Cond.instanceMethod ⟨"StowTongueModel", "nameValue", "(J)I"⟩ : Cond) ∈ am_tbl := am_w 1932 (by decide +kernel) (by decide +kernel)
theorem w_106 : (Cond.selects "StowTongueModel" ⟨"StowTongueModel", "nameValue", "(J)I"⟩ ⟨"StowTongueModel", "nameValue", "(J)I"⟩ : Cond) ∈ am_tbl := am_w 106 (by decide +kernel) (by decide +kernel)
theorem d_Mod_atom_82 : decode prog_13_method_29_code 82 = .ok (.istore_n 3, 1) := by decide +kernel
theorem d_Mod_atom_83 : decode prog_13_method_29_code 83 = .ok (.aload_n 0, 1) := by decide +kernel
theorem d_Mod_atom_84 : decode prog_13_method_29_code 84 = .ok (.aload_n 0, 1) := by decide +kernel
theorem d_Mod_atom_85 : decode prog_13_method_29_code 85 = .ok (.getfield 91, 3) := by decide +kernel
theorem d_Mod_atom_88 : decode prog_13_method_29_code 88 = .ok (.getfield 100, 3) := by decide +kernel
theorem d_Mod_atom_91 : decode prog_13_method_29_code 91 = .ok (.putfield 253, 3) := by decide +kernel
theorem d_Mod_atom_94 : decode prog_13_method_29_code 94 = .ok (.aload_n 0, 1) := by decide +kernel
theorem d_Mod_atom_95 : decode prog_13_method_29_code 95 = .ok (.iconst 5, 1) := by decide +kernel
theorem d_Mod_atom_96 : decode prog_13_method_29_code 96 = .ok (.iload_n 3, 1) := by decide +kernel
theorem d_Mod_atom_97 : decode prog_13_method_29_code 97 = .ok (.invokevirtual 120, 3) := by decide +kernel
theorem d_Mod_atom_100 : decode prog_13_method_29_code 100 = .ok (.aload_n 0, 1) := by decide +kernel
theorem d_Mod_atom_101 : decode prog_13_method_29_code 101 = .ok (.invokevirtual 87, 3) := by decide +kernel
theorem d_Mod_atom_104 : decode prog_13_method_29_code 104 = .ok (.goto 37, 3) := by decide +kernel
theorem d_Mod_atom_69 : decode prog_13_method_29_code 69 = .ok (.aload_n 0, 1) := by decide +kernel
theorem d_Mod_atom_70 : decode prog_13_method_29_code 70 = .ok (.invokevirtual 84, 3) := by decide +kernel
theorem d_Mod_atom_73 : decode prog_13_method_29_code 73 = .ok (.ireturn, 1) := by decide +kernel
theorem d_Mod_simple_0 : decode prog_13_method_30_code 0 = .ok (.aload_n 0, 1) := by decide +kernel
theorem d_Mod_simple_1 : decode prog_13_method_30_code 1 = .ok (.iconst 0, 1) := by decide +kernel
theorem d_Mod_simple_2 : decode prog_13_method_30_code 2 = .ok (.putfield 249, 3) := by decide +kernel
theorem d_Mod_simple_5 : decode prog_13_method_30_code 5 = .ok (.aload_n 0, 1) := by decide +kernel
theorem d_Mod_simple_6 : decode prog_13_method_30_code 6 = .ok (.getfield 32, 3) := by decide +kernel
theorem d_Mod_simple_9 : decode prog_13_method_30_code 9 = .ok (.iconst 3, 1) := by decide +kernel
theorem d_Mod_simple_10 : decode prog_13_method_30_code 10 = .ok (.if_icmp .ne 20, 3) := by decide +kernel
theorem d_Mod_simple_13 : decode prog_13_method_30_code 13 = .ok (.aload_n 0, 1) := by decide +kernel
theorem d_Mod_simple_14 : decode prog_13_method_30_code 14 = .ok (.iconst 1, 1) := by decide +kernel
theorem d_Mod_simple_15 : decode prog_13_method_30_code 15 = .ok (.iconst 0, 1) := by decide +kernel
theorem d_Mod_simple_16 : decode prog_13_method_30_code 16 = .ok (.aload_n 0, 1) := by decide +kernel
theorem d_Mod_simple_17 : decode prog_13_method_30_code 17 = .ok (.getfield 46, 3) := by decide +kernel
theorem d_Mod_simple_20 : decode prog_13_method_30_code 20 = .ok (.lconst 0, 1) := by decide +kernel
theorem d_Mod_simple_21 : decode prog_13_method_30_code 21 = .ok (.invokevirtual 234, 3) := by decide +kernel
theorem d_Mod_simple_24 : decode prog_13_method_30_code 24 = .ok (.aload_n 0, 1) := by decide +kernel
theorem d_Mod_simple_25 : decode prog_13_method_30_code 25 = .ok (.invokevirtual 87, 3) := by decide +kernel
theorem d_Mod_simple_28 : decode prog_13_method_30_code 28 = .ok (.iconst 1, 1) := by decide +kernel
theorem d_Mod_simple_29 : decode prog_13_method_30_code 29 = .ok (.ireturn, 1) := by decide +kernel
theorem d_Mod_simple_30 : decode prog_13_method_30_code 30 = .ok (.aload_n 0, 1) := by decide +kernel
theorem d_Mod_simple_31 : decode prog_13_method_30_code 31 = .ok (.getfield 32, 3) := by decide +kernel
theorem d_Mod_simple_34 : decode prog_13_method_30_code 34 = .ok (.iconst 4, 1) := by decide +kernel
theorem d_Mod_simple_35 : decode prog_13_method_30_code 35 = .ok (.if_icmp .ne 101, 3) := by decide +kernel
theorem d_Mod_simple_38 : decode prog_13_method_30_code 38 = .ok (.aload_n 0, 1) := by decide +kernel
theorem d_Mod_simple_39 : decode prog_13_method_30_code 39 = .ok (.getfield 91, 3) := by decide +kernel
theorem d_Mod_simple_42 : decode prog_13_method_30_code 42 = .ok (.getfield 107, 3) := by decide +kernel
theorem d_Mod_simple_45 : decode prog_13_method_30_code 45 = .ok (.aload_n 0, 1) := by decide +kernel
theorem d_Mod_simple_46 : decode prog_13_method_30_code 46 = .ok (.getfield 91, 3) := by decide +kernel
theorem d_Mod_simple_49 : decode prog_13_method_30_code 49 = .ok (.getfield 111, 3) := by decide +kernel
theorem d_Mod_simple_52 : decode prog_13_method_30_code 52 = .ok (.iconst 2, 1) := by decide +kernel
theorem d_Mod_simple_53 : decode prog_13_method_30_code 53 = .ok (.iconst 0, 1) := by decide +kernel
theorem d_Mod_simple_54 : decode prog_13_method_30_code 54 = .ok (.lconst 0, 1) := by decide +kernel
theorem d_Mod_simple_55 : decode prog_13_method_30_code 55 = .ok (.lconst 0, 1) := by decide +kernel
theorem d_Mod_simple_56 : decode prog_13_method_30_code 56 = .ok (.invokevirtual 114, 3) := by decide +kernel
theorem d_Mod_simple_59 : decode prog_13_method_30_code 59 = .ok (.aload_n 0, 1) := by decide +kernel
theorem d_Mod_simple_60 : decode prog_13_method_30_code 60 = .ok (.getfield 9, 3) := by decide +kernel
theorem d_Mod_simple_63 : decode prog_13_method_30_code 63 = .ok (.iconst 1, 1) := by decide +kernel
theorem d_Mod_simple_64 : decode prog_13_method_30_code 64 = .ok (.iadd, 1) := by decide +kernel
theorem d_Mod_simple_65 : decode prog_13_method_30_code 65 = .ok (.istore_n 2, 1) := by decide +kernel
theorem d_Mod_simple_66 : decode prog_13_method_30_code 66 = .ok (.iload_n 2, 1) := by decide +kernel
theorem d_Mod_simple_67 : decode prog_13_method_30_code 67 = .ok (.aload_n 0, 1) := by decide +kernel
theorem d_Mod_simple_68 : decode prog_13_method_30_code 68 = .ok (.getfield 74, 3) := by decide +kernel
theorem d_Mod_simple_71 : decode prog_13_method_30_code 71 = .ok (.iconst 1, 1) := by decide +kernel
theorem d_Mod_simple_72 : decode prog_13_method_30_code 72 = .ok (.isub, 1) := by decide +kernel
theorem d_Mod_simple_73 : decode prog_13_method_30_code 73 = .ok (.if_icmp .ge 32, 3) := by decide +kernel
theorem d_Mod_simple_105 : decode prog_13_method_30_code 105 = .ok (.aload_n 0, 1) := by decide +kernel
theorem d_Mod_simple_106 : decode prog_13_method_30_code 106 = .ok (.iconst 0, 1) := by decide +kernel
theorem d_Mod_simple_107 : decode prog_13_method_30_code 107 = .ok (.aload_n 0, 1) := by decide +kernel
theorem d_Mod_simple_108 : decode prog_13_method_30_code 108 = .ok (.getfield 91, 3) := by decide +kernel
theorem d_Mod_simple_111 : decode prog_13_method_30_code 111 = .ok (.getfield 111, 3) := by decide +kernel
theorem d_Mod_simple_114 : decode prog_13_method_30_code 114 = .ok (.invokevirtual 120, 3) := by decide +kernel
theorem d_Mod_simple_117 : decode prog_13_method_30_code 117 = .ok (.aload_n 0, 1) := by decide +kernel
theorem d_Mod_simple_118 : decode prog_13_method_30_code 118 = .ok (.getfield 91, 3) := by decide +kernel
theorem d_Mod_simple_121 : decode prog_13_method_30_code 121 = .ok (.dup, 1) := by decide +kernel
theorem d_Mod_simple_122 : decode prog_13_method_30_code 122 = .ok (.getfield 111, 3) := by decide +kernel
theorem d_Mod_simple_125 : decode prog_13_method_30_code 125 = .ok (.iconst 1, 1) := by decide +kernel
theorem d_Mod_simple_126 : decode prog_13_method_30_code 126 = .ok (.iadd, 1) := by decide +kernel
theorem d_Mod_simple_127 : decode prog_13_method_30_code 127 = .ok (.putfield 111, 3) := by decide +kernel
theorem d_Mod_simple_130 : decode prog_13_method_30_code 130 = .ok (.aload_n 0, 1) := by decide +kernel
theorem d_Mod_simple_131 : decode prog_13_method_30_code 131 = .ok (.invokevirtual 87, 3) := by decide +kernel
theorem d_Mod_simple_134 : decode prog_13_method_30_code 134 = .ok (.iconst 1, 1) := by decide +kernel
theorem d_Mod_simple_135 : decode prog_13_method_30_code 135 = .ok (.ireturn, 1) := by decide +kernel
theorem d_Mod_simple_76 : decode prog_13_method_30_code 76 = .ok (.aload_n 0, 1) := by decide +kernel
theorem d_Mod_simple_77 : decode prog_13_method_30_code 77 = .ok (.getfield 91, 3) := by decide +kernel
theorem d_Mod_simple_80 : decode prog_13_method_30_code 80 = .ok (.getfield 107, 3) := by decide +kernel
theorem d_Mod_simple_83 : decode prog_13_method_30_code 83 = .ok (.aload_n 0, 1) := by decide +kernel
theorem d_Mod_simple_84 : decode prog_13_method_30_code 84 = .ok (.getfield 91, 3) := by decide +kernel
theorem d_Mod_simple_87 : decode prog_13_method_30_code 87 = .ok (.getfield 111, 3) := by decide +kernel
theorem d_Mod_simple_90 : decode prog_13_method_30_code 90 = .ok (.aload_n 0, 1) := by decide +kernel
theorem d_Mod_simple_91 : decode prog_13_method_30_code 91 = .ok (.getfield 22, 3) := by decide +kernel
theorem d_Mod_simple_94 : decode prog_13_method_30_code 94 = .ok (.iload_n 2, 1) := by decide +kernel
theorem d_Mod_simple_95 : decode prog_13_method_30_code 95 = .ok (.baload, 1) := by decide +kernel
theorem d_Mod_simple_96 : decode prog_13_method_30_code 96 = .ok (.invokevirtual 308, 3) := by decide +kernel
theorem d_Mod_simple_99 : decode prog_13_method_30_code 99 = .ok (.iinc 2 1, 3) := by decide +kernel
theorem d_Mod_simple_102 : decode prog_13_method_30_code 102 = .ok (.goto (-36), 3) := by decide +kernel
theorem d_Mod_simple_136 : decode prog_13_method_30_code 136 = .ok (.aload_n 0, 1) := by decide +kernel
theorem d_Mod_simple_137 : decode prog_13_method_30_code 137 = .ok (.ldc_w 311, 3) := by decide +kernel
theorem d_Mod_simple_140 : decode prog_13_method_30_code 140 = .ok (.invokevirtual 80, 3) := by decide +kernel
theorem d_Mod_simple_143 : decode prog_13_method_30_code 143 = .ok (.ifCond .eq 17, 3) := by decide +kernel
theorem d_Mod_simple_160 : decode prog_13_method_30_code 160 = .ok (.aload_n 0, 1) := by decide +kernel
theorem d_Mod_simple_161 : decode prog_13_method_30_code 161 = .ok (.getfield 32, 3) := by decide +kernel
theorem d_Mod_simple_164 : decode prog_13_method_30_code 164 = .ok (.iconst 1, 1) := by decide +kernel
theorem d_Mod_simple_165 : decode prog_13_method_30_code 165 = .ok (.if_icmp .ne 9, 3) := by decide +kernel
theorem d_Mod_simple_168 : decode prog_13_method_30_code 168 = .ok (.aload_n 0, 1) := by decide +kernel
theorem d_Mod_simple_169 : decode prog_13_method_30_code 169 = .ok (.iload_n 1, 1) := by decide +kernel
theorem d_Mod_simple_170 : decode prog_13_method_30_code 170 = .ok (.invokevirtual 313, 3) := by decide +kernel
theorem w_1926 : (Cond.methodLink "StowTongueModel" 313 ⟨"StowTongueModel", "named", "(I)Z"⟩ : Cond) ∈ am_tbl := am_w 1926 (by decide +kernel) (by decide +kernel)
set_option maxRecDepth 100000 in
theorem w_1929 : (Cond.code ⟨"StowTongueModel", "named", "(I)Z"⟩ prog_13_method_31_code 6 (some FieldType.boolean) : Cond) ∈ am_tbl := am_w 1929 rfl rfl
theorem l_Mod_313 : am_L "StowTongueModel" 313 1 m_Mod_named := ⟨Or.inl w_1926, w_160, w_1929, ⟨by decide, by decide⟩, by decide +kernel, by decide⟩
theorem w_1928 : (Cond.instanceMethod ⟨"StowTongueModel", "named", "(I)Z"⟩ : Cond) ∈ am_tbl := am_w 1928 (by decide +kernel) (by decide +kernel)
theorem w_105 : (Cond.selects "StowTongueModel" ⟨"StowTongueModel", "named", "(I)Z"⟩ ⟨"StowTongueModel", "named", "(I)Z"⟩ : Cond) ∈ am_tbl := am_w 105 (by decide +kernel) (by decide +kernel)
theorem d_Mod_simple_173 : decode prog_13_method_30_code 173 = .ok (.ireturn, 1) := by decide +kernel
theorem d_Mod_simple_174 : decode prog_13_method_30_code 174 = .ok (.aload_n 0, 1) := by decide +kernel
theorem d_Mod_simple_175 : decode prog_13_method_30_code 175 = .ok (.ldc_w 316, 3) := by decide +kernel
theorem d_Mod_simple_178 : decode prog_13_method_30_code 178 = .ok (.invokevirtual 80, 3) := by decide +kernel
theorem d_Mod_simple_181 : decode prog_13_method_30_code 181 = .ok (.ifCond .ne 23, 3) := by decide +kernel
theorem d_Mod_simple_184 : decode prog_13_method_30_code 184 = .ok (.aload_n 0, 1) := by decide +kernel
theorem d_Mod_simple_185 : decode prog_13_method_30_code 185 = .ok (.ldc_w 317, 3) := by decide +kernel
theorem d_Mod_simple_188 : decode prog_13_method_30_code 188 = .ok (.invokevirtual 80, 3) := by decide +kernel
theorem d_Mod_simple_191 : decode prog_13_method_30_code 191 = .ok (.ifCond .ne 13, 3) := by decide +kernel
theorem d_Mod_simple_194 : decode prog_13_method_30_code 194 = .ok (.aload_n 0, 1) := by decide +kernel
theorem d_Mod_simple_195 : decode prog_13_method_30_code 195 = .ok (.ldc_w 319, 3) := by decide +kernel
theorem d_Mod_simple_198 : decode prog_13_method_30_code 198 = .ok (.invokevirtual 80, 3) := by decide +kernel
theorem d_Mod_simple_201 : decode prog_13_method_30_code 201 = .ok (.ifCond .eq 9, 3) := by decide +kernel
theorem d_Mod_simple_210 : decode prog_13_method_30_code 210 = .ok (.aload_n 0, 1) := by decide +kernel
theorem d_Mod_simple_211 : decode prog_13_method_30_code 211 = .ok (.ldc 177, 2) := by decide +kernel
theorem d_Mod_simple_213 : decode prog_13_method_30_code 213 = .ok (.invokevirtual 80, 3) := by decide +kernel
theorem d_Mod_simple_216 : decode prog_13_method_30_code 216 = .ok (.ifCond .ne 27, 3) := by decide +kernel
theorem d_Mod_simple_219 : decode prog_13_method_30_code 219 = .ok (.aload_n 0, 1) := by decide +kernel
theorem d_Mod_simple_220 : decode prog_13_method_30_code 220 = .ok (.ldc 210, 2) := by decide +kernel
theorem d_Mod_simple_222 : decode prog_13_method_30_code 222 = .ok (.invokevirtual 80, 3) := by decide +kernel
theorem d_Mod_simple_225 : decode prog_13_method_30_code 225 = .ok (.ifCond .ne 18, 3) := by decide +kernel
theorem d_Mod_simple_228 : decode prog_13_method_30_code 228 = .ok (.aload_n 0, 1) := by decide +kernel
theorem d_Mod_simple_229 : decode prog_13_method_30_code 229 = .ok (.ldc_w 301, 3) := by decide +kernel
theorem d_Mod_simple_232 : decode prog_13_method_30_code 232 = .ok (.invokevirtual 80, 3) := by decide +kernel
theorem d_Mod_simple_235 : decode prog_13_method_30_code 235 = .ok (.ifCond .ne 8, 3) := by decide +kernel
theorem d_Mod_simple_238 : decode prog_13_method_30_code 238 = .ok (.aload_n 0, 1) := by decide +kernel
theorem d_Mod_simple_239 : decode prog_13_method_30_code 239 = .ok (.invokevirtual 84, 3) := by decide +kernel
theorem d_Mod_simple_242 : decode prog_13_method_30_code 242 = .ok (.ireturn, 1) := by decide +kernel
theorem d_Mod_simple_243 : decode prog_13_method_30_code 243 = .ok (.iload_n 1, 1) := by decide +kernel
theorem d_Mod_simple_244 : decode prog_13_method_30_code 244 = .ok (.bipush 16, 2) := by decide +kernel
theorem d_Mod_simple_246 : decode prog_13_method_30_code 246 = .ok (.if_icmp .ne 8, 3) := by decide +kernel
theorem d_Mod_simple_249 : decode prog_13_method_30_code 249 = .ok (.aload_n 0, 1) := by decide +kernel
theorem d_Mod_simple_250 : decode prog_13_method_30_code 250 = .ok (.invokevirtual 84, 3) := by decide +kernel
theorem d_Mod_simple_253 : decode prog_13_method_30_code 253 = .ok (.ireturn, 1) := by decide +kernel
theorem d_Mod_simple_254 : decode prog_13_method_30_code 254 = .ok (.aload_n 0, 1) := by decide +kernel
theorem d_Mod_simple_255 : decode prog_13_method_30_code 255 = .ok (.ldc 210, 2) := by decide +kernel
theorem d_Mod_simple_257 : decode prog_13_method_30_code 257 = .ok (.invokevirtual 80, 3) := by decide +kernel
theorem d_Mod_simple_260 : decode prog_13_method_30_code 260 = .ok (.ifCond .eq 11, 3) := by decide +kernel
theorem d_Mod_simple_271 : decode prog_13_method_30_code 271 = .ok (.aload_n 0, 1) := by decide +kernel
theorem d_Mod_simple_272 : decode prog_13_method_30_code 272 = .ok (.ldc_w 301, 3) := by decide +kernel
theorem d_Mod_simple_275 : decode prog_13_method_30_code 275 = .ok (.invokevirtual 80, 3) := by decide +kernel
theorem d_Mod_simple_278 : decode prog_13_method_30_code 278 = .ok (.ifCond .eq 11, 3) := by decide +kernel
theorem d_Mod_simple_289 : decode prog_13_method_30_code 289 = .ok (.aload_n 0, 1) := by decide +kernel
theorem d_Mod_simple_290 : decode prog_13_method_30_code 290 = .ok (.invokevirtual 87, 3) := by decide +kernel
theorem d_Mod_simple_293 : decode prog_13_method_30_code 293 = .ok (.aload_n 0, 1) := by decide +kernel
theorem d_Mod_simple_294 : decode prog_13_method_30_code 294 = .ok (.iload_n 1, 1) := by decide +kernel
theorem d_Mod_simple_295 : decode prog_13_method_30_code 295 = .ok (.iconst 1, 1) := by decide +kernel
theorem d_Mod_simple_296 : decode prog_13_method_30_code 296 = .ok (.iadd, 1) := by decide +kernel
theorem d_Mod_simple_297 : decode prog_13_method_30_code 297 = .ok (.invokevirtual 214, 3) := by decide +kernel
theorem d_Mod_simple_300 : decode prog_13_method_30_code 300 = .ok (.ifCond .eq 12, 3) := by decide +kernel
theorem d_Mod_simple_312 : decode prog_13_method_30_code 312 = .ok (.iconst 0, 1) := by decide +kernel
theorem d_Mod_simple_313 : decode prog_13_method_30_code 313 = .ok (.ireturn, 1) := by decide +kernel
theorem d_Mod_simple_303 : decode prog_13_method_30_code 303 = .ok (.aload_n 0, 1) := by decide +kernel
theorem d_Mod_simple_304 : decode prog_13_method_30_code 304 = .ok (.ldc 182, 2) := by decide +kernel
theorem d_Mod_simple_306 : decode prog_13_method_30_code 306 = .ok (.invokevirtual 179, 3) := by decide +kernel
theorem d_Mod_simple_309 : decode prog_13_method_30_code 309 = .ok (.ifCond .ne 5, 3) := by decide +kernel
theorem d_Mod_simple_314 : decode prog_13_method_30_code 314 = .ok (.aload_n 0, 1) := by decide +kernel
theorem d_Mod_simple_315 : decode prog_13_method_30_code 315 = .ok (.iconst 0, 1) := by decide +kernel
theorem d_Mod_simple_316 : decode prog_13_method_30_code 316 = .ok (.putfield 249, 3) := by decide +kernel
theorem d_Mod_simple_319 : decode prog_13_method_30_code 319 = .ok (.iconst 1, 1) := by decide +kernel
theorem d_Mod_simple_320 : decode prog_13_method_30_code 320 = .ok (.ireturn, 1) := by decide +kernel
theorem d_Mod_simple_281 : decode prog_13_method_30_code 281 = .ok (.aload_n 0, 1) := by decide +kernel
theorem d_Mod_simple_282 : decode prog_13_method_30_code 282 = .ok (.iload_n 1, 1) := by decide +kernel
theorem d_Mod_simple_283 : decode prog_13_method_30_code 283 = .ok (.iconst 1, 1) := by decide +kernel
theorem d_Mod_simple_284 : decode prog_13_method_30_code 284 = .ok (.iadd, 1) := by decide +kernel
theorem d_Mod_simple_285 : decode prog_13_method_30_code 285 = .ok (.invokevirtual 327, 3) := by decide +kernel
theorem w_1947 : (Cond.methodLink "StowTongueModel" 327 ⟨"StowTongueModel", "row", "(I)Z"⟩ : Cond) ∈ am_tbl := am_w 1947 (by decide +kernel) (by decide +kernel)
set_option maxRecDepth 100000 in
theorem w_1950 : (Cond.code ⟨"StowTongueModel", "row", "(I)Z"⟩ prog_13_method_34_code 3 (some FieldType.boolean) : Cond) ∈ am_tbl := am_w 1950 rfl rfl
theorem l_Mod_327 : am_L "StowTongueModel" 327 1 m_Mod_row := ⟨Or.inl w_1947, w_160, w_1950, ⟨by decide, by decide⟩, by decide +kernel, by decide⟩
theorem w_1949 : (Cond.instanceMethod ⟨"StowTongueModel", "row", "(I)Z"⟩ : Cond) ∈ am_tbl := am_w 1949 (by decide +kernel) (by decide +kernel)
theorem w_109 : (Cond.selects "StowTongueModel" ⟨"StowTongueModel", "row", "(I)Z"⟩ ⟨"StowTongueModel", "row", "(I)Z"⟩ : Cond) ∈ am_tbl := am_w 109 (by decide +kernel) (by decide +kernel)
theorem d_Mod_simple_288 : decode prog_13_method_30_code 288 = .ok (.ireturn, 1) := by decide +kernel
theorem d_Mod_simple_263 : decode prog_13_method_30_code 263 = .ok (.aload_n 0, 1) := by decide +kernel
theorem d_Mod_simple_264 : decode prog_13_method_30_code 264 = .ok (.iload_n 1, 1) := by decide +kernel
theorem d_Mod_simple_265 : decode prog_13_method_30_code 265 = .ok (.iconst 1, 1) := by decide +kernel
theorem d_Mod_simple_266 : decode prog_13_method_30_code 266 = .ok (.iadd, 1) := by decide +kernel
theorem d_Mod_simple_267 : decode prog_13_method_30_code 267 = .ok (.invokevirtual 324, 3) := by decide +kernel
theorem w_1942 : (Cond.methodLink "StowTongueModel" 324 ⟨"StowTongueModel", "record", "(I)Z"⟩ : Cond) ∈ am_tbl := am_w 1942 (by decide +kernel) (by decide +kernel)
set_option maxRecDepth 100000 in
theorem w_1945 : (Cond.code ⟨"StowTongueModel", "record", "(I)Z"⟩ prog_13_method_33_code 5 (some FieldType.boolean) : Cond) ∈ am_tbl := am_w 1945 rfl rfl
theorem l_Mod_324 : am_L "StowTongueModel" 324 1 m_Mod_record := ⟨Or.inl w_1942, w_160, w_1945, ⟨by decide, by decide⟩, by decide +kernel, by decide⟩
theorem w_1944 : (Cond.instanceMethod ⟨"StowTongueModel", "record", "(I)Z"⟩ : Cond) ∈ am_tbl := am_w 1944 (by decide +kernel) (by decide +kernel)
theorem w_108 : (Cond.selects "StowTongueModel" ⟨"StowTongueModel", "record", "(I)Z"⟩ ⟨"StowTongueModel", "record", "(I)Z"⟩ : Cond) ∈ am_tbl := am_w 108 (by decide +kernel) (by decide +kernel)
theorem d_Mod_simple_270 : decode prog_13_method_30_code 270 = .ok (.ireturn, 1) := by decide +kernel
theorem d_Mod_simple_204 : decode prog_13_method_30_code 204 = .ok (.aload_n 0, 1) := by decide +kernel
theorem d_Mod_simple_205 : decode prog_13_method_30_code 205 = .ok (.iload_n 1, 1) := by decide +kernel
theorem d_Mod_simple_206 : decode prog_13_method_30_code 206 = .ok (.invokevirtual 321, 3) := by decide +kernel
theorem w_1937 : (Cond.methodLink "StowTongueModel" 321 ⟨"StowTongueModel", "built", "(I)Z"⟩ : Cond) ∈ am_tbl := am_w 1937 (by decide +kernel) (by decide +kernel)
set_option maxRecDepth 100000 in
theorem w_1940 : (Cond.code ⟨"StowTongueModel", "built", "(I)Z"⟩ prog_13_method_32_code 3 (some FieldType.boolean) : Cond) ∈ am_tbl := am_w 1940 rfl rfl
theorem l_Mod_321 : am_L "StowTongueModel" 321 1 m_Mod_built := ⟨Or.inl w_1937, w_160, w_1940, ⟨by decide, by decide⟩, by decide +kernel, by decide⟩
theorem w_1939 : (Cond.instanceMethod ⟨"StowTongueModel", "built", "(I)Z"⟩ : Cond) ∈ am_tbl := am_w 1939 (by decide +kernel) (by decide +kernel)
theorem w_107 : (Cond.selects "StowTongueModel" ⟨"StowTongueModel", "built", "(I)Z"⟩ ⟨"StowTongueModel", "built", "(I)Z"⟩ : Cond) ∈ am_tbl := am_w 107 (by decide +kernel) (by decide +kernel)
theorem d_Mod_simple_209 : decode prog_13_method_30_code 209 = .ok (.ireturn, 1) := by decide +kernel
theorem d_Mod_simple_146 : decode prog_13_method_30_code 146 = .ok (.aload_n 0, 1) := by decide +kernel
theorem d_Mod_simple_147 : decode prog_13_method_30_code 147 = .ok (.iconst 0, 1) := by decide +kernel
theorem d_Mod_simple_148 : decode prog_13_method_30_code 148 = .ok (.iconst 0, 1) := by decide +kernel
theorem d_Mod_simple_149 : decode prog_13_method_30_code 149 = .ok (.lconst 0, 1) := by decide +kernel
theorem d_Mod_simple_150 : decode prog_13_method_30_code 150 = .ok (.lconst 0, 1) := by decide +kernel
theorem d_Mod_simple_151 : decode prog_13_method_30_code 151 = .ok (.invokevirtual 234, 3) := by decide +kernel
theorem d_Mod_simple_154 : decode prog_13_method_30_code 154 = .ok (.aload_n 0, 1) := by decide +kernel
theorem d_Mod_simple_155 : decode prog_13_method_30_code 155 = .ok (.invokevirtual 87, 3) := by decide +kernel
theorem d_Mod_simple_158 : decode prog_13_method_30_code 158 = .ok (.iconst 1, 1) := by decide +kernel
theorem d_Mod_simple_159 : decode prog_13_method_30_code 159 = .ok (.ireturn, 1) := by decide +kernel
theorem d_Mod_named_0 : decode prog_13_method_31_code 0 = .ok (.aload_n 0, 1) := by decide +kernel
theorem d_Mod_named_1 : decode prog_13_method_31_code 1 = .ok (.invokevirtual 164, 3) := by decide +kernel
theorem d_Mod_named_4 : decode prog_13_method_31_code 4 = .ok (.lstore_n 2, 1) := by decide +kernel
theorem d_Mod_named_5 : decode prog_13_method_31_code 5 = .ok (.aload_n 0, 1) := by decide +kernel
theorem d_Mod_named_6 : decode prog_13_method_31_code 6 = .ok (.invokevirtual 87, 3) := by decide +kernel
theorem d_Mod_named_9 : decode prog_13_method_31_code 9 = .ok (.aload_n 0, 1) := by decide +kernel
theorem d_Mod_named_10 : decode prog_13_method_31_code 10 = .ok (.ldc 177, 2) := by decide +kernel
theorem d_Mod_named_12 : decode prog_13_method_31_code 12 = .ok (.invokevirtual 80, 3) := by decide +kernel
theorem d_Mod_named_15 : decode prog_13_method_31_code 15 = .ok (.ifCond .ne 61, 3) := by decide +kernel
theorem d_Mod_named_18 : decode prog_13_method_31_code 18 = .ok (.aload_n 0, 1) := by decide +kernel
theorem d_Mod_named_19 : decode prog_13_method_31_code 19 = .ok (.lload_n 2, 1) := by decide +kernel
theorem d_Mod_named_20 : decode prog_13_method_31_code 20 = .ok (.invokevirtual 130, 3) := by decide +kernel
theorem d_Mod_named_23 : decode prog_13_method_31_code 23 = .ok (.istore 4, 2) := by decide +kernel
theorem d_Mod_named_25 : decode prog_13_method_31_code 25 = .ok (.iload 4, 2) := by decide +kernel
theorem d_Mod_named_27 : decode prog_13_method_31_code 27 = .ok (.ifCond .ge 11, 3) := by decide +kernel
theorem d_Mod_named_38 : decode prog_13_method_31_code 38 = .ok (.iload 4, 2) := by decide +kernel
theorem d_Mod_named_40 : decode prog_13_method_31_code 40 = .ok (.istore 5, 2) := by decide +kernel
theorem d_Mod_named_42 : decode prog_13_method_31_code 42 = .ok (.aload_n 0, 1) := by decide +kernel
theorem d_Mod_named_43 : decode prog_13_method_31_code 43 = .ok (.aload_n 0, 1) := by decide +kernel
theorem d_Mod_named_44 : decode prog_13_method_31_code 44 = .ok (.getfield 91, 3) := by decide +kernel
theorem d_Mod_named_47 : decode prog_13_method_31_code 47 = .ok (.getfield 100, 3) := by decide +kernel
theorem d_Mod_named_50 : decode prog_13_method_31_code 50 = .ok (.putfield 253, 3) := by decide +kernel
theorem d_Mod_named_53 : decode prog_13_method_31_code 53 = .ok (.aload_n 0, 1) := by decide +kernel
theorem d_Mod_named_54 : decode prog_13_method_31_code 54 = .ok (.iload 4, 2) := by decide +kernel
theorem d_Mod_named_56 : decode prog_13_method_31_code 56 = .ok (.ifCond .ge 7, 3) := by decide +kernel
theorem d_Mod_named_63 : decode prog_13_method_31_code 63 = .ok (.iconst 1, 1) := by decide +kernel
theorem d_Mod_named_64 : decode prog_13_method_31_code 64 = .ok (.iload 5, 2) := by decide +kernel
theorem d_Mod_named_66 : decode prog_13_method_31_code 66 = .ok (.invokevirtual 120, 3) := by decide +kernel
theorem d_Mod_named_69 : decode prog_13_method_31_code 69 = .ok (.aload_n 0, 1) := by decide +kernel
theorem d_Mod_named_70 : decode prog_13_method_31_code 70 = .ok (.iconst 1, 1) := by decide +kernel
theorem d_Mod_named_71 : decode prog_13_method_31_code 71 = .ok (.putfield 249, 3) := by decide +kernel
theorem d_Mod_named_74 : decode prog_13_method_31_code 74 = .ok (.iconst 1, 1) := by decide +kernel
theorem d_Mod_named_75 : decode prog_13_method_31_code 75 = .ok (.ireturn, 1) := by decide +kernel
theorem d_Mod_named_59 : decode prog_13_method_31_code 59 = .ok (.iconst 3, 1) := by decide +kernel
theorem d_Mod_named_60 : decode prog_13_method_31_code 60 = .ok (.goto 4, 3) := by decide +kernel
theorem d_Mod_named_30 : decode prog_13_method_31_code 30 = .ok (.aload_n 0, 1) := by decide +kernel
theorem d_Mod_named_31 : decode prog_13_method_31_code 31 = .ok (.lload_n 2, 1) := by decide +kernel
theorem d_Mod_named_32 : decode prog_13_method_31_code 32 = .ok (.invokevirtual 303, 3) := by decide +kernel
theorem d_Mod_named_35 : decode prog_13_method_31_code 35 = .ok (.goto 5, 3) := by decide +kernel
theorem d_Mod_named_76 : decode prog_13_method_31_code 76 = .ok (.iload_n 1, 1) := by decide +kernel
theorem d_Mod_named_77 : decode prog_13_method_31_code 77 = .ok (.bipush 16, 2) := by decide +kernel
theorem d_Mod_named_79 : decode prog_13_method_31_code 79 = .ok (.if_icmp .ne 8, 3) := by decide +kernel
theorem d_Mod_named_82 : decode prog_13_method_31_code 82 = .ok (.aload_n 0, 1) := by decide +kernel
theorem d_Mod_named_83 : decode prog_13_method_31_code 83 = .ok (.invokevirtual 84, 3) := by decide +kernel
theorem d_Mod_named_86 : decode prog_13_method_31_code 86 = .ok (.ireturn, 1) := by decide +kernel
theorem d_Mod_named_87 : decode prog_13_method_31_code 87 = .ok (.iconst 0, 1) := by decide +kernel
theorem d_Mod_named_88 : decode prog_13_method_31_code 88 = .ok (.istore 4, 2) := by decide +kernel
theorem d_Mod_named_90 : decode prog_13_method_31_code 90 = .ok (.aload_n 0, 1) := by decide +kernel
theorem d_Mod_named_91 : decode prog_13_method_31_code 91 = .ok (.invokevirtual 87, 3) := by decide +kernel
theorem d_Mod_named_94 : decode prog_13_method_31_code 94 = .ok (.iload 4, 2) := by decide +kernel
theorem d_Mod_named_96 : decode prog_13_method_31_code 96 = .ok (.ifCond .ne 15, 3) := by decide +kernel
theorem d_Mod_named_99 : decode prog_13_method_31_code 99 = .ok (.aload_n 0, 1) := by decide +kernel
theorem d_Mod_named_100 : decode prog_13_method_31_code 100 = .ok (.ldc 182, 2) := by decide +kernel
theorem d_Mod_named_102 : decode prog_13_method_31_code 102 = .ok (.invokevirtual 80, 3) := by decide +kernel
theorem d_Mod_named_105 : decode prog_13_method_31_code 105 = .ok (.ifCond .ne 42, 3) := by decide +kernel
theorem d_Mod_named_108 : decode prog_13_method_31_code 108 = .ok (.goto 12, 3) := by decide +kernel
theorem d_Mod_named_120 : decode prog_13_method_31_code 120 = .ok (.iload 4, 2) := by decide +kernel
theorem d_Mod_named_122 : decode prog_13_method_31_code 122 = .ok (.ifCond .le 7, 3) := by decide +kernel
theorem d_Mod_named_129 : decode prog_13_method_31_code 129 = .ok (.aload_n 0, 1) := by decide +kernel
theorem d_Mod_named_130 : decode prog_13_method_31_code 130 = .ok (.iload_n 1, 1) := by decide +kernel
theorem d_Mod_named_131 : decode prog_13_method_31_code 131 = .ok (.iconst 1, 1) := by decide +kernel
theorem d_Mod_named_132 : decode prog_13_method_31_code 132 = .ok (.iadd, 1) := by decide +kernel
theorem d_Mod_named_133 : decode prog_13_method_31_code 133 = .ok (.invokevirtual 214, 3) := by decide +kernel
theorem d_Mod_named_136 : decode prog_13_method_31_code 136 = .ok (.ifCond .ne 5, 3) := by decide +kernel
theorem d_Mod_named_139 : decode prog_13_method_31_code 139 = .ok (.iconst 0, 1) := by decide +kernel
theorem d_Mod_named_140 : decode prog_13_method_31_code 140 = .ok (.ireturn, 1) := by decide +kernel
theorem d_Mod_named_141 : decode prog_13_method_31_code 141 = .ok (.iinc 4 1, 3) := by decide +kernel
theorem d_Mod_named_144 : decode prog_13_method_31_code 144 = .ok (.goto (-50), 3) := by decide +kernel
theorem d_Mod_named_125 : decode prog_13_method_31_code 125 = .ok (.aload_n 0, 1) := by decide +kernel
theorem d_Mod_named_126 : decode prog_13_method_31_code 126 = .ok (.invokevirtual 87, 3) := by decide +kernel
theorem d_Mod_named_147 : decode prog_13_method_31_code 147 = .ok (.aload_n 0, 1) := by decide +kernel
theorem d_Mod_named_148 : decode prog_13_method_31_code 148 = .ok (.ldc 182, 2) := by decide +kernel
theorem d_Mod_named_150 : decode prog_13_method_31_code 150 = .ok (.invokevirtual 179, 3) := by decide +kernel
theorem d_Mod_named_153 : decode prog_13_method_31_code 153 = .ok (.ifCond .ne 5, 3) := by decide +kernel
theorem d_Mod_named_156 : decode prog_13_method_31_code 156 = .ok (.iconst 0, 1) := by decide +kernel
theorem d_Mod_named_157 : decode prog_13_method_31_code 157 = .ok (.ireturn, 1) := by decide +kernel
theorem d_Mod_named_158 : decode prog_13_method_31_code 158 = .ok (.aload_n 0, 1) := by decide +kernel
theorem d_Mod_named_159 : decode prog_13_method_31_code 159 = .ok (.bipush 22, 2) := by decide +kernel
theorem d_Mod_named_161 : decode prog_13_method_31_code 161 = .ok (.aload_n 0, 1) := by decide +kernel
theorem d_Mod_named_162 : decode prog_13_method_31_code 162 = .ok (.lload_n 2, 1) := by decide +kernel
theorem d_Mod_named_163 : decode prog_13_method_31_code 163 = .ok (.invokevirtual 303, 3) := by decide +kernel
theorem d_Mod_named_166 : decode prog_13_method_31_code 166 = .ok (.invokevirtual 120, 3) := by decide +kernel
theorem d_Mod_named_169 : decode prog_13_method_31_code 169 = .ok (.aload_n 0, 1) := by decide +kernel
theorem d_Mod_named_170 : decode prog_13_method_31_code 170 = .ok (.iload 4, 2) := by decide +kernel
theorem d_Mod_named_172 : decode prog_13_method_31_code 172 = .ok (.invokevirtual 103, 3) := by decide +kernel
theorem d_Mod_named_175 : decode prog_13_method_31_code 175 = .ok (.pop, 1) := by decide +kernel
theorem d_Mod_named_176 : decode prog_13_method_31_code 176 = .ok (.aload_n 0, 1) := by decide +kernel
theorem d_Mod_named_177 : decode prog_13_method_31_code 177 = .ok (.iconst 0, 1) := by decide +kernel
theorem d_Mod_named_178 : decode prog_13_method_31_code 178 = .ok (.putfield 249, 3) := by decide +kernel
theorem d_Mod_named_181 : decode prog_13_method_31_code 181 = .ok (.iconst 1, 1) := by decide +kernel
theorem d_Mod_named_182 : decode prog_13_method_31_code 182 = .ok (.ireturn, 1) := by decide +kernel
theorem d_Mod_named_111 : decode prog_13_method_31_code 111 = .ok (.aload_n 0, 1) := by decide +kernel
theorem d_Mod_named_112 : decode prog_13_method_31_code 112 = .ok (.ldc 184, 2) := by decide +kernel
theorem d_Mod_named_114 : decode prog_13_method_31_code 114 = .ok (.invokevirtual 80, 3) := by decide +kernel
theorem d_Mod_named_117 : decode prog_13_method_31_code 117 = .ok (.ifCond .eq 30, 3) := by decide +kernel
theorem d_Mod_built_0 : decode prog_13_method_32_code 0 = .ok (.aload_n 0, 1) := by decide +kernel
theorem d_Mod_built_1 : decode prog_13_method_32_code 1 = .ok (.ldc_w 316, 3) := by decide +kernel
theorem d_Mod_built_4 : decode prog_13_method_32_code 4 = .ok (.invokevirtual 80, 3) := by decide +kernel
theorem d_Mod_built_7 : decode prog_13_method_32_code 7 = .ok (.ifCond .eq 8, 3) := by decide +kernel
theorem d_Mod_built_15 : decode prog_13_method_32_code 15 = .ok (.aload_n 0, 1) := by decide +kernel
theorem d_Mod_built_16 : decode prog_13_method_32_code 16 = .ok (.ldc_w 317, 3) := by decide +kernel
theorem d_Mod_built_19 : decode prog_13_method_32_code 19 = .ok (.invokevirtual 80, 3) := by decide +kernel
theorem d_Mod_built_22 : decode prog_13_method_32_code 22 = .ok (.ifCond .eq 8, 3) := by decide +kernel
theorem d_Mod_built_30 : decode prog_13_method_32_code 30 = .ok (.bipush 19, 2) := by decide +kernel
theorem d_Mod_built_32 : decode prog_13_method_32_code 32 = .ok (.istore_n 2, 1) := by decide +kernel
theorem d_Mod_built_33 : decode prog_13_method_32_code 33 = .ok (.aload_n 0, 1) := by decide +kernel
theorem d_Mod_built_34 : decode prog_13_method_32_code 34 = .ok (.invokevirtual 87, 3) := by decide +kernel
theorem d_Mod_built_37 : decode prog_13_method_32_code 37 = .ok (.aload_n 0, 1) := by decide +kernel
theorem d_Mod_built_38 : decode prog_13_method_32_code 38 = .ok (.ldc 177, 2) := by decide +kernel
theorem d_Mod_built_40 : decode prog_13_method_32_code 40 = .ok (.invokevirtual 80, 3) := by decide +kernel
theorem d_Mod_built_43 : decode prog_13_method_32_code 43 = .ok (.ifCond .eq 9, 3) := by decide +kernel
theorem d_Mod_built_52 : decode prog_13_method_32_code 52 = .ok (.aload_n 0, 1) := by decide +kernel
theorem d_Mod_built_53 : decode prog_13_method_32_code 53 = .ok (.invokevirtual 84, 3) := by decide +kernel
theorem d_Mod_built_56 : decode prog_13_method_32_code 56 = .ok (.ireturn, 1) := by decide +kernel
theorem d_Mod_built_46 : decode prog_13_method_32_code 46 = .ok (.iload_n 1, 1) := by decide +kernel
theorem d_Mod_built_47 : decode prog_13_method_32_code 47 = .ok (.bipush 16, 2) := by decide +kernel
theorem d_Mod_built_49 : decode prog_13_method_32_code 49 = .ok (.if_icmp .ne 8, 3) := by decide +kernel
theorem d_Mod_built_57 : decode prog_13_method_32_code 57 = .ok (.aload_n 0, 1) := by decide +kernel
theorem d_Mod_built_58 : decode prog_13_method_32_code 58 = .ok (.invokevirtual 87, 3) := by decide +kernel
theorem d_Mod_built_61 : decode prog_13_method_32_code 61 = .ok (.aload_n 0, 1) := by decide +kernel
theorem d_Mod_built_62 : decode prog_13_method_32_code 62 = .ok (.iload_n 1, 1) := by decide +kernel
theorem d_Mod_built_63 : decode prog_13_method_32_code 63 = .ok (.iconst 1, 1) := by decide +kernel
theorem d_Mod_built_64 : decode prog_13_method_32_code 64 = .ok (.iadd, 1) := by decide +kernel
theorem d_Mod_built_65 : decode prog_13_method_32_code 65 = .ok (.invokevirtual 214, 3) := by decide +kernel
theorem d_Mod_built_68 : decode prog_13_method_32_code 68 = .ok (.ifCond .ne 5, 3) := by decide +kernel
theorem d_Mod_built_71 : decode prog_13_method_32_code 71 = .ok (.iconst 0, 1) := by decide +kernel
theorem d_Mod_built_72 : decode prog_13_method_32_code 72 = .ok (.ireturn, 1) := by decide +kernel
theorem d_Mod_built_73 : decode prog_13_method_32_code 73 = .ok (.iload_n 2, 1) := by decide +kernel
theorem d_Mod_built_74 : decode prog_13_method_32_code 74 = .ok (.bipush 18, 2) := by decide +kernel
theorem d_Mod_built_76 : decode prog_13_method_32_code 76 = .ok (.if_icmp .ne 24, 3) := by decide +kernel
theorem d_Mod_built_79 : decode prog_13_method_32_code 79 = .ok (.aload_n 0, 1) := by decide +kernel
theorem d_Mod_built_80 : decode prog_13_method_32_code 80 = .ok (.ldc 184, 2) := by decide +kernel
theorem d_Mod_built_82 : decode prog_13_method_32_code 82 = .ok (.invokevirtual 179, 3) := by decide +kernel
theorem d_Mod_built_85 : decode prog_13_method_32_code 85 = .ok (.ifCond .eq 13, 3) := by decide +kernel
theorem d_Mod_built_98 : decode prog_13_method_32_code 98 = .ok (.iconst 0, 1) := by decide +kernel
theorem d_Mod_built_99 : decode prog_13_method_32_code 99 = .ok (.ireturn, 1) := by decide +kernel
theorem d_Mod_built_88 : decode prog_13_method_32_code 88 = .ok (.aload_n 0, 1) := by decide +kernel
theorem d_Mod_built_89 : decode prog_13_method_32_code 89 = .ok (.iload_n 1, 1) := by decide +kernel
theorem d_Mod_built_90 : decode prog_13_method_32_code 90 = .ok (.iconst 1, 1) := by decide +kernel
theorem d_Mod_built_91 : decode prog_13_method_32_code 91 = .ok (.iadd, 1) := by decide +kernel
theorem d_Mod_built_92 : decode prog_13_method_32_code 92 = .ok (.invokevirtual 214, 3) := by decide +kernel
theorem d_Mod_built_95 : decode prog_13_method_32_code 95 = .ok (.ifCond .ne 5, 3) := by decide +kernel
theorem d_Mod_built_100 : decode prog_13_method_32_code 100 = .ok (.aload_n 0, 1) := by decide +kernel
theorem d_Mod_built_101 : decode prog_13_method_32_code 101 = .ok (.iload_n 2, 1) := by decide +kernel
theorem d_Mod_built_102 : decode prog_13_method_32_code 102 = .ok (.invokevirtual 103, 3) := by decide +kernel
theorem d_Mod_built_105 : decode prog_13_method_32_code 105 = .ok (.pop, 1) := by decide +kernel
theorem d_Mod_built_106 : decode prog_13_method_32_code 106 = .ok (.aload_n 0, 1) := by decide +kernel
theorem d_Mod_built_107 : decode prog_13_method_32_code 107 = .ok (.iconst 0, 1) := by decide +kernel
theorem d_Mod_built_108 : decode prog_13_method_32_code 108 = .ok (.putfield 249, 3) := by decide +kernel
theorem d_Mod_built_111 : decode prog_13_method_32_code 111 = .ok (.aload_n 0, 1) := by decide +kernel
theorem d_Mod_built_112 : decode prog_13_method_32_code 112 = .ok (.ldc 182, 2) := by decide +kernel
theorem d_Mod_built_114 : decode prog_13_method_32_code 114 = .ok (.invokevirtual 179, 3) := by decide +kernel
theorem d_Mod_built_117 : decode prog_13_method_32_code 117 = .ok (.ireturn, 1) := by decide +kernel
theorem d_Mod_built_25 : decode prog_13_method_32_code 25 = .ok (.bipush 18, 2) := by decide +kernel
theorem d_Mod_built_27 : decode prog_13_method_32_code 27 = .ok (.goto 5, 3) := by decide +kernel
theorem d_Mod_built_10 : decode prog_13_method_32_code 10 = .ok (.bipush 17, 2) := by decide +kernel
theorem d_Mod_built_12 : decode prog_13_method_32_code 12 = .ok (.goto 20, 3) := by decide +kernel
theorem d_Mod_record_0 : decode prog_13_method_33_code 0 = .ok (.aload_n 0, 1) := by decide +kernel
theorem d_Mod_record_1 : decode prog_13_method_33_code 1 = .ok (.getfield 140, 3) := by decide +kernel
theorem w_1651 : (Cond.fieldLink "StowTongueModel" 140 "StowTongueModel" "piled" "I" : Cond) ∈ am_tbl := am_w 1651 (by decide +kernel) (by decide +kernel)
theorem f_Mod_140 : am_F "StowTongueModel" 140 14 29 := ⟨_, rfl, cl_14, by decide, Or.inl w_1651⟩
theorem d_Mod_record_4 : decode prog_13_method_33_code 4 = .ok (.istore_n 2, 1) := by decide +kernel
theorem d_Mod_record_5 : decode prog_13_method_33_code 5 = .ok (.iconst 0, 1) := by decide +kernel
theorem d_Mod_record_6 : decode prog_13_method_33_code 6 = .ok (.istore_n 3, 1) := by decide +kernel
theorem d_Mod_record_7 : decode prog_13_method_33_code 7 = .ok (.aload_n 0, 1) := by decide +kernel
theorem d_Mod_record_8 : decode prog_13_method_33_code 8 = .ok (.invokevirtual 87, 3) := by decide +kernel
theorem d_Mod_record_11 : decode prog_13_method_33_code 11 = .ok (.iload_n 3, 1) := by decide +kernel
theorem d_Mod_record_12 : decode prog_13_method_33_code 12 = .ok (.ifCond .ne 15, 3) := by decide +kernel
theorem d_Mod_record_15 : decode prog_13_method_33_code 15 = .ok (.aload_n 0, 1) := by decide +kernel
theorem d_Mod_record_16 : decode prog_13_method_33_code 16 = .ok (.ldc 212, 2) := by decide +kernel
theorem d_Mod_record_18 : decode prog_13_method_33_code 18 = .ok (.invokevirtual 80, 3) := by decide +kernel
theorem d_Mod_record_21 : decode prog_13_method_33_code 21 = .ok (.ifCond .ne 93, 3) := by decide +kernel
theorem d_Mod_record_24 : decode prog_13_method_33_code 24 = .ok (.goto 12, 3) := by decide +kernel
theorem d_Mod_record_36 : decode prog_13_method_33_code 36 = .ok (.iload_n 3, 1) := by decide +kernel
theorem d_Mod_record_37 : decode prog_13_method_33_code 37 = .ok (.ifCond .le 7, 3) := by decide +kernel
theorem d_Mod_record_44 : decode prog_13_method_33_code 44 = .ok (.aload_n 0, 1) := by decide +kernel
theorem d_Mod_record_45 : decode prog_13_method_33_code 45 = .ok (.getfield 32, 3) := by decide +kernel
theorem d_Mod_record_48 : decode prog_13_method_33_code 48 = .ok (.iconst 1, 1) := by decide +kernel
theorem d_Mod_record_49 : decode prog_13_method_33_code 49 = .ok (.if_icmp .eq 8, 3) := by decide +kernel
theorem d_Mod_record_57 : decode prog_13_method_33_code 57 = .ok (.aload_n 0, 1) := by decide +kernel
theorem d_Mod_record_58 : decode prog_13_method_33_code 58 = .ok (.getfield 330, 3) := by decide +kernel
theorem d_Mod_record_61 : decode prog_13_method_33_code 61 = .ok (.aload_n 0, 1) := by decide +kernel
theorem d_Mod_record_62 : decode prog_13_method_33_code 62 = .ok (.getfield 140, 3) := by decide +kernel
theorem d_Mod_record_65 : decode prog_13_method_33_code 65 = .ok (.aload_n 0, 1) := by decide +kernel
theorem d_Mod_record_66 : decode prog_13_method_33_code 66 = .ok (.aload_n 0, 1) := by decide +kernel
theorem d_Mod_record_67 : decode prog_13_method_33_code 67 = .ok (.invokevirtual 164, 3) := by decide +kernel
theorem d_Mod_record_70 : decode prog_13_method_33_code 70 = .ok (.invokevirtual 303, 3) := by decide +kernel
theorem d_Mod_record_73 : decode prog_13_method_33_code 73 = .ok (.iastore, 1) := by decide +kernel
theorem d_Mod_record_74 : decode prog_13_method_33_code 74 = .ok (.aload_n 0, 1) := by decide +kernel
theorem d_Mod_record_75 : decode prog_13_method_33_code 75 = .ok (.dup, 1) := by decide +kernel
theorem d_Mod_record_76 : decode prog_13_method_33_code 76 = .ok (.getfield 140, 3) := by decide +kernel
theorem d_Mod_record_79 : decode prog_13_method_33_code 79 = .ok (.iconst 1, 1) := by decide +kernel
theorem d_Mod_record_80 : decode prog_13_method_33_code 80 = .ok (.iadd, 1) := by decide +kernel
theorem d_Mod_record_81 : decode prog_13_method_33_code 81 = .ok (.putfield 140, 3) := by decide +kernel
theorem d_Mod_record_84 : decode prog_13_method_33_code 84 = .ok (.aload_n 0, 1) := by decide +kernel
theorem d_Mod_record_85 : decode prog_13_method_33_code 85 = .ok (.invokevirtual 87, 3) := by decide +kernel
theorem d_Mod_record_88 : decode prog_13_method_33_code 88 = .ok (.aload_n 0, 1) := by decide +kernel
theorem d_Mod_record_89 : decode prog_13_method_33_code 89 = .ok (.ldc_w 333, 3) := by decide +kernel
theorem d_Mod_record_92 : decode prog_13_method_33_code 92 = .ok (.invokevirtual 179, 3) := by decide +kernel
theorem d_Mod_record_95 : decode prog_13_method_33_code 95 = .ok (.ifCond .eq 11, 3) := by decide +kernel
theorem d_Mod_record_106 : decode prog_13_method_33_code 106 = .ok (.iconst 0, 1) := by decide +kernel
theorem d_Mod_record_107 : decode prog_13_method_33_code 107 = .ok (.ireturn, 1) := by decide +kernel
theorem d_Mod_record_98 : decode prog_13_method_33_code 98 = .ok (.aload_n 0, 1) := by decide +kernel
theorem d_Mod_record_99 : decode prog_13_method_33_code 99 = .ok (.iload_n 1, 1) := by decide +kernel
theorem d_Mod_record_100 : decode prog_13_method_33_code 100 = .ok (.invokevirtual 214, 3) := by decide +kernel
theorem d_Mod_record_103 : decode prog_13_method_33_code 103 = .ok (.ifCond .ne 5, 3) := by decide +kernel
theorem d_Mod_record_108 : decode prog_13_method_33_code 108 = .ok (.iinc 3 1, 3) := by decide +kernel
theorem d_Mod_record_111 : decode prog_13_method_33_code 111 = .ok (.goto (-100), 3) := by decide +kernel
theorem d_Mod_record_52 : decode prog_13_method_33_code 52 = .ok (.aload_n 0, 1) := by decide +kernel
theorem d_Mod_record_53 : decode prog_13_method_33_code 53 = .ok (.invokevirtual 84, 3) := by decide +kernel
theorem d_Mod_record_56 : decode prog_13_method_33_code 56 = .ok (.ireturn, 1) := by decide +kernel
theorem d_Mod_record_40 : decode prog_13_method_33_code 40 = .ok (.aload_n 0, 1) := by decide +kernel
theorem d_Mod_record_41 : decode prog_13_method_33_code 41 = .ok (.invokevirtual 87, 3) := by decide +kernel
theorem d_Mod_record_114 : decode prog_13_method_33_code 114 = .ok (.aload_n 0, 1) := by decide +kernel
theorem d_Mod_record_115 : decode prog_13_method_33_code 115 = .ok (.bipush 20, 2) := by decide +kernel
theorem d_Mod_record_117 : decode prog_13_method_33_code 117 = .ok (.iload_n 3, 1) := by decide +kernel
theorem d_Mod_record_118 : decode prog_13_method_33_code 118 = .ok (.invokevirtual 120, 3) := by decide +kernel
theorem d_Mod_record_121 : decode prog_13_method_33_code 121 = .ok (.iconst 0, 1) := by decide +kernel
theorem d_Mod_record_122 : decode prog_13_method_33_code 122 = .ok (.istore 4, 2) := by decide +kernel
theorem d_Mod_record_124 : decode prog_13_method_33_code 124 = .ok (.iload 4, 2) := by decide +kernel
theorem d_Mod_record_126 : decode prog_13_method_33_code 126 = .ok (.iload_n 3, 1) := by decide +kernel
theorem d_Mod_record_127 : decode prog_13_method_33_code 127 = .ok (.if_icmp .ge 23, 3) := by decide +kernel
theorem d_Mod_record_150 : decode prog_13_method_33_code 150 = .ok (.aload_n 0, 1) := by decide +kernel
theorem d_Mod_record_151 : decode prog_13_method_33_code 151 = .ok (.iload_n 2, 1) := by decide +kernel
theorem d_Mod_record_152 : decode prog_13_method_33_code 152 = .ok (.putfield 140, 3) := by decide +kernel
theorem d_Mod_record_155 : decode prog_13_method_33_code 155 = .ok (.aload_n 0, 1) := by decide +kernel
theorem d_Mod_record_156 : decode prog_13_method_33_code 156 = .ok (.iconst 0, 1) := by decide +kernel
theorem d_Mod_record_157 : decode prog_13_method_33_code 157 = .ok (.putfield 249, 3) := by decide +kernel
theorem d_Mod_record_160 : decode prog_13_method_33_code 160 = .ok (.aload_n 0, 1) := by decide +kernel
theorem d_Mod_record_161 : decode prog_13_method_33_code 161 = .ok (.ldc 212, 2) := by decide +kernel
theorem d_Mod_record_163 : decode prog_13_method_33_code 163 = .ok (.invokevirtual 179, 3) := by decide +kernel
theorem d_Mod_record_166 : decode prog_13_method_33_code 166 = .ok (.ireturn, 1) := by decide +kernel
theorem d_Mod_record_130 : decode prog_13_method_33_code 130 = .ok (.aload_n 0, 1) := by decide +kernel
theorem d_Mod_record_131 : decode prog_13_method_33_code 131 = .ok (.aload_n 0, 1) := by decide +kernel
theorem d_Mod_record_132 : decode prog_13_method_33_code 132 = .ok (.getfield 330, 3) := by decide +kernel
theorem d_Mod_record_135 : decode prog_13_method_33_code 135 = .ok (.iload_n 2, 1) := by decide +kernel
theorem d_Mod_record_136 : decode prog_13_method_33_code 136 = .ok (.iload 4, 2) := by decide +kernel
theorem d_Mod_record_138 : decode prog_13_method_33_code 138 = .ok (.iadd, 1) := by decide +kernel
theorem d_Mod_record_139 : decode prog_13_method_33_code 139 = .ok (.iaload, 1) := by decide +kernel
theorem d_Mod_record_140 : decode prog_13_method_33_code 140 = .ok (.invokevirtual 103, 3) := by decide +kernel
theorem d_Mod_record_143 : decode prog_13_method_33_code 143 = .ok (.pop, 1) := by decide +kernel
theorem d_Mod_record_144 : decode prog_13_method_33_code 144 = .ok (.iinc 4 1, 3) := by decide +kernel
theorem d_Mod_record_147 : decode prog_13_method_33_code 147 = .ok (.goto (-23), 3) := by decide +kernel
theorem d_Mod_record_27 : decode prog_13_method_33_code 27 = .ok (.aload_n 0, 1) := by decide +kernel
theorem d_Mod_record_28 : decode prog_13_method_33_code 28 = .ok (.ldc 184, 2) := by decide +kernel
theorem d_Mod_record_30 : decode prog_13_method_33_code 30 = .ok (.invokevirtual 80, 3) := by decide +kernel
theorem d_Mod_record_33 : decode prog_13_method_33_code 33 = .ok (.ifCond .eq 81, 3) := by decide +kernel
theorem d_Mod_row_0 : decode prog_13_method_34_code 0 = .ok (.iconst 0, 1) := by decide +kernel
theorem d_Mod_row_1 : decode prog_13_method_34_code 1 = .ok (.istore_n 2, 1) := by decide +kernel
theorem d_Mod_row_2 : decode prog_13_method_34_code 2 = .ok (.aload_n 0, 1) := by decide +kernel
theorem d_Mod_row_3 : decode prog_13_method_34_code 3 = .ok (.invokevirtual 87, 3) := by decide +kernel
theorem d_Mod_row_6 : decode prog_13_method_34_code 6 = .ok (.iload_n 2, 1) := by decide +kernel
theorem d_Mod_row_7 : decode prog_13_method_34_code 7 = .ok (.ifCond .ne 16, 3) := by decide +kernel
theorem d_Mod_row_10 : decode prog_13_method_34_code 10 = .ok (.aload_n 0, 1) := by decide +kernel
theorem d_Mod_row_11 : decode prog_13_method_34_code 11 = .ok (.ldc_w 306, 3) := by decide +kernel
theorem d_Mod_row_14 : decode prog_13_method_34_code 14 = .ok (.invokevirtual 80, 3) := by decide +kernel
theorem d_Mod_row_17 : decode prog_13_method_34_code 17 = .ok (.ifCond .ne 39, 3) := by decide +kernel
theorem d_Mod_row_20 : decode prog_13_method_34_code 20 = .ok (.goto 12, 3) := by decide +kernel
theorem d_Mod_row_32 : decode prog_13_method_34_code 32 = .ok (.iload_n 2, 1) := by decide +kernel
theorem d_Mod_row_33 : decode prog_13_method_34_code 33 = .ok (.ifCond .le 7, 3) := by decide +kernel
theorem d_Mod_row_40 : decode prog_13_method_34_code 40 = .ok (.aload_n 0, 1) := by decide +kernel
theorem d_Mod_row_41 : decode prog_13_method_34_code 41 = .ok (.iload_n 1, 1) := by decide +kernel
theorem d_Mod_row_42 : decode prog_13_method_34_code 42 = .ok (.invokevirtual 214, 3) := by decide +kernel
theorem d_Mod_row_45 : decode prog_13_method_34_code 45 = .ok (.ifCond .ne 5, 3) := by decide +kernel
theorem d_Mod_row_48 : decode prog_13_method_34_code 48 = .ok (.iconst 0, 1) := by decide +kernel
theorem d_Mod_row_49 : decode prog_13_method_34_code 49 = .ok (.ireturn, 1) := by decide +kernel
theorem d_Mod_row_50 : decode prog_13_method_34_code 50 = .ok (.iinc 2 1, 3) := by decide +kernel
theorem d_Mod_row_53 : decode prog_13_method_34_code 53 = .ok (.goto (-47), 3) := by decide +kernel
theorem d_Mod_row_36 : decode prog_13_method_34_code 36 = .ok (.aload_n 0, 1) := by decide +kernel
theorem d_Mod_row_37 : decode prog_13_method_34_code 37 = .ok (.invokevirtual 87, 3) := by decide +kernel
theorem d_Mod_row_56 : decode prog_13_method_34_code 56 = .ok (.aload_n 0, 1) := by decide +kernel
theorem d_Mod_row_57 : decode prog_13_method_34_code 57 = .ok (.bipush 21, 2) := by decide +kernel
theorem d_Mod_row_59 : decode prog_13_method_34_code 59 = .ok (.iload_n 2, 1) := by decide +kernel
theorem d_Mod_row_60 : decode prog_13_method_34_code 60 = .ok (.invokevirtual 120, 3) := by decide +kernel
theorem d_Mod_row_63 : decode prog_13_method_34_code 63 = .ok (.aload_n 0, 1) := by decide +kernel
theorem d_Mod_row_64 : decode prog_13_method_34_code 64 = .ok (.iconst 0, 1) := by decide +kernel
theorem d_Mod_row_65 : decode prog_13_method_34_code 65 = .ok (.putfield 249, 3) := by decide +kernel
theorem d_Mod_row_68 : decode prog_13_method_34_code 68 = .ok (.aload_n 0, 1) := by decide +kernel
theorem d_Mod_row_69 : decode prog_13_method_34_code 69 = .ok (.ldc_w 306, 3) := by decide +kernel
theorem d_Mod_row_72 : decode prog_13_method_34_code 72 = .ok (.invokevirtual 179, 3) := by decide +kernel
theorem d_Mod_row_75 : decode prog_13_method_34_code 75 = .ok (.ireturn, 1) := by decide +kernel
theorem d_Mod_row_23 : decode prog_13_method_34_code 23 = .ok (.aload_n 0, 1) := by decide +kernel
theorem d_Mod_row_24 : decode prog_13_method_34_code 24 = .ok (.ldc 184, 2) := by decide +kernel
theorem d_Mod_row_26 : decode prog_13_method_34_code 26 = .ok (.invokevirtual 80, 3) := by decide +kernel
theorem d_Mod_row_29 : decode prog_13_method_34_code 29 = .ok (.ifCond .eq 27, 3) := by decide +kernel
