abbrev m_Mod_octet : am_M := (⟨"StowTongueModel", "octet", "(I)I"⟩, prog_13_method_72_code, 2, (some FieldType.int))
theorem d_Mod_octet_0 : decode prog_13_method_72_code 0 = .ok (.iload_n 1, 1) := by decide +kernel
theorem d_Mod_octet_1 : decode prog_13_method_72_code 1 = .ok (.i2l, 1) := by decide +kernel
theorem d_Mod_octet_2 : decode prog_13_method_72_code 2 = .ok (.ldc2_w 622, 3) := by decide +kernel
theorem w_2172 : (Cond.constantLong "StowTongueModel" 622 (-1) : Cond) ∈ am_tbl := am_w 2172 (by decide +kernel) (by decide +kernel)
theorem d_Mod_octet_5 : decode prog_13_method_72_code 5 = .ok (.aload_n 0, 1) := by decide +kernel
theorem d_Mod_octet_6 : decode prog_13_method_72_code 6 = .ok (.getfield 440, 3) := by decide +kernel
theorem d_Mod_octet_9 : decode prog_13_method_72_code 9 = .ok (.iconst 1, 1) := by decide +kernel
theorem d_Mod_octet_10 : decode prog_13_method_72_code 10 = .ok (.isub, 1) := by decide +kernel
theorem d_Mod_octet_11 : decode prog_13_method_72_code 11 = .ok (.i2l, 1) := by decide +kernel
theorem d_Mod_octet_12 : decode prog_13_method_72_code 12 = .ok (.invokestatic 70, 3) := by decide +kernel
theorem d_Mod_octet_15 : decode prog_13_method_72_code 15 = .ok (.ifCond .ne 6, 3) := by decide +kernel
theorem d_Mod_octet_18 : decode prog_13_method_72_code 18 = .ok (.bipush (-2), 2) := by decide +kernel
theorem d_Mod_octet_20 : decode prog_13_method_72_code 20 = .ok (.ireturn, 1) := by decide +kernel
theorem d_Mod_octet_21 : decode prog_13_method_72_code 21 = .ok (.iload_n 1, 1) := by decide +kernel
theorem d_Mod_octet_22 : decode prog_13_method_72_code 22 = .ok (.ifCond .ge 10, 3) := by decide +kernel
theorem d_Mod_octet_32 : decode prog_13_method_72_code 32 = .ok (.aload_n 0, 1) := by decide +kernel
theorem d_Mod_octet_33 : decode prog_13_method_72_code 33 = .ok (.getfield 340, 3) := by decide +kernel
theorem d_Mod_octet_36 : decode prog_13_method_72_code 36 = .ok (.iload_n 1, 1) := by decide +kernel
theorem d_Mod_octet_37 : decode prog_13_method_72_code 37 = .ok (.baload, 1) := by decide +kernel
theorem d_Mod_octet_38 : decode prog_13_method_72_code 38 = .ok (.sipush 255, 3) := by decide +kernel
theorem d_Mod_octet_41 : decode prog_13_method_72_code 41 = .ok (.iand, 1) := by decide +kernel
theorem d_Mod_octet_42 : decode prog_13_method_72_code 42 = .ok (.ireturn, 1) := by decide +kernel
theorem d_Mod_octet_25 : decode prog_13_method_72_code 25 = .ok (.aload_n 0, 1) := by decide +kernel
theorem d_Mod_octet_26 : decode prog_13_method_72_code 26 = .ok (.getfield 440, 3) := by decide +kernel
theorem d_Mod_octet_29 : decode prog_13_method_72_code 29 = .ok (.goto 13, 3) := by decide +kernel
theorem d_Mod_root_84 : decode prog_13_method_73_code 84 = .ok (.aload_n 0, 1) := by decide +kernel
theorem d_Mod_root_85 : decode prog_13_method_73_code 85 = .ok (.getfield 349, 3) := by decide +kernel
theorem d_Mod_root_88 : decode prog_13_method_73_code 88 = .ok (.getfield 472, 3) := by decide +kernel
theorem d_Mod_root_91 : decode prog_13_method_73_code 91 = .ok (.getfield 515, 3) := by decide +kernel
theorem d_Mod_root_94 : decode prog_13_method_73_code 94 = .ok (.iload 4, 2) := by decide +kernel
theorem d_Mod_root_96 : decode prog_13_method_73_code 96 = .ok (.iaload, 1) := by decide +kernel
theorem d_Mod_root_97 : decode prog_13_method_73_code 97 = .ok (.istore 5, 2) := by decide +kernel
theorem d_Mod_root_99 : decode prog_13_method_73_code 99 = .ok (.iload 5, 2) := by decide +kernel
theorem d_Mod_root_101 : decode prog_13_method_73_code 101 = .ok (.iconst 1, 1) := by decide +kernel
theorem d_Mod_root_102 : decode prog_13_method_73_code 102 = .ok (.if_icmp .ne 19, 3) := by decide +kernel
theorem d_Mod_root_105 : decode prog_13_method_73_code 105 = .ok (.aload_n 0, 1) := by decide +kernel
theorem d_Mod_root_106 : decode prog_13_method_73_code 106 = .ok (.getfield 349, 3) := by decide +kernel
theorem d_Mod_root_109 : decode prog_13_method_73_code 109 = .ok (.getfield 472, 3) := by decide +kernel
theorem d_Mod_root_112 : decode prog_13_method_73_code 112 = .ok (.getfield 508, 3) := by decide +kernel
theorem d_Mod_root_115 : decode prog_13_method_73_code 115 = .ok (.iload 4, 2) := by decide +kernel
theorem d_Mod_root_117 : decode prog_13_method_73_code 117 = .ok (.laload, 1) := by decide +kernel
theorem d_Mod_root_118 : decode prog_13_method_73_code 118 = .ok (.goto 42, 3) := by decide +kernel
theorem d_Mod_root_160 : decode prog_13_method_73_code 160 = .ok (.lreturn, 1) := by decide +kernel
theorem d_Mod_root_121 : decode prog_13_method_73_code 121 = .ok (.iload 5, 2) := by decide +kernel
theorem d_Mod_root_123 : decode prog_13_method_73_code 123 = .ok (.iconst 2, 1) := by decide +kernel
theorem d_Mod_root_124 : decode prog_13_method_73_code 124 = .ok (.if_icmp .ne 27, 3) := by decide +kernel
theorem d_Mod_root_127 : decode prog_13_method_73_code 127 = .ok (.ldc2_w 616, 3) := by decide +kernel
theorem d_Mod_root_130 : decode prog_13_method_73_code 130 = .ok (.bipush 8, 2) := by decide +kernel
theorem d_Mod_root_132 : decode prog_13_method_73_code 132 = .ok (.aload_n 0, 1) := by decide +kernel
theorem d_Mod_root_133 : decode prog_13_method_73_code 133 = .ok (.getfield 349, 3) := by decide +kernel
theorem d_Mod_root_136 : decode prog_13_method_73_code 136 = .ok (.getfield 472, 3) := by decide +kernel
theorem d_Mod_root_139 : decode prog_13_method_73_code 139 = .ok (.getfield 565, 3) := by decide +kernel
theorem d_Mod_root_142 : decode prog_13_method_73_code 142 = .ok (.iload 4, 2) := by decide +kernel
theorem d_Mod_root_144 : decode prog_13_method_73_code 144 = .ok (.iaload, 1) := by decide +kernel
theorem d_Mod_root_145 : decode prog_13_method_73_code 145 = .ok (.imul, 1) := by decide +kernel
theorem d_Mod_root_146 : decode prog_13_method_73_code 146 = .ok (.i2l, 1) := by decide +kernel
theorem d_Mod_root_147 : decode prog_13_method_73_code 147 = .ok (.ladd, 1) := by decide +kernel
theorem d_Mod_root_148 : decode prog_13_method_73_code 148 = .ok (.goto 12, 3) := by decide +kernel
theorem d_Mod_root_151 : decode prog_13_method_73_code 151 = .ok (.ldc2_w 50, 3) := by decide +kernel
theorem d_Mod_root_154 : decode prog_13_method_73_code 154 = .ok (.iload 5, 2) := by decide +kernel
theorem d_Mod_root_156 : decode prog_13_method_73_code 156 = .ok (.i2l, 1) := by decide +kernel
theorem d_Mod_root_157 : decode prog_13_method_73_code 157 = .ok (.ladd, 1) := by decide +kernel
theorem d_Mod_root_158 : decode prog_13_method_73_code 158 = .ok (.lconst 1, 1) := by decide +kernel
theorem d_Mod_root_159 : decode prog_13_method_73_code 159 = .ok (.lsub, 1) := by decide +kernel
theorem d_Mod_root_21 : decode prog_13_method_73_code 21 = .ok (.iload_n 1, 1) := by decide +kernel
theorem d_Mod_root_22 : decode prog_13_method_73_code 22 = .ok (.bipush 8, 2) := by decide +kernel
theorem d_Mod_root_24 : decode prog_13_method_73_code 24 = .ok (.if_icmp .gt 13, 3) := by decide +kernel
theorem d_Mod_root_37 : decode prog_13_method_73_code 37 = .ok (.ldc2_w 50, 3) := by decide +kernel
theorem d_Mod_root_40 : decode prog_13_method_73_code 40 = .ok (.lreturn, 1) := by decide +kernel
theorem d_Mod_root_27 : decode prog_13_method_73_code 27 = .ok (.aload_n 0, 1) := by decide +kernel
theorem d_Mod_root_28 : decode prog_13_method_73_code 28 = .ok (.getfield 22, 3) := by decide +kernel
theorem d_Mod_root_31 : decode prog_13_method_73_code 31 = .ok (.iload 4, 2) := by decide +kernel
theorem d_Mod_root_33 : decode prog_13_method_73_code 33 = .ok (.baload, 1) := by decide +kernel
theorem d_Mod_root_34 : decode prog_13_method_73_code 34 = .ok (.ifCond .ne 7, 3) := by decide +kernel
theorem d_Mod_root_41 : decode prog_13_method_73_code 41 = .ok (.lload_n 2, 1) := by decide +kernel
theorem d_Mod_root_42 : decode prog_13_method_73_code 42 = .ok (.bipush 8, 2) := by decide +kernel
theorem d_Mod_root_44 : decode prog_13_method_73_code 44 = .ok (.lshl, 1) := by decide +kernel
theorem d_Mod_root_45 : decode prog_13_method_73_code 45 = .ok (.aload_n 0, 1) := by decide +kernel
theorem d_Mod_root_46 : decode prog_13_method_73_code 46 = .ok (.getfield 22, 3) := by decide +kernel
theorem d_Mod_root_49 : decode prog_13_method_73_code 49 = .ok (.iload 4, 2) := by decide +kernel
theorem d_Mod_root_51 : decode prog_13_method_73_code 51 = .ok (.baload, 1) := by decide +kernel
theorem d_Mod_root_52 : decode prog_13_method_73_code 52 = .ok (.sipush 255, 3) := by decide +kernel
theorem d_Mod_root_55 : decode prog_13_method_73_code 55 = .ok (.iand, 1) := by decide +kernel
theorem d_Mod_root_56 : decode prog_13_method_73_code 56 = .ok (.i2l, 1) := by decide +kernel
theorem d_Mod_root_57 : decode prog_13_method_73_code 57 = .ok (.lor, 1) := by decide +kernel
theorem d_Mod_root_58 : decode prog_13_method_73_code 58 = .ok (.lstore_n 2, 1) := by decide +kernel
theorem d_Mod_root_59 : decode prog_13_method_73_code 59 = .ok (.iinc 4 1, 3) := by decide +kernel
theorem d_Mod_root_62 : decode prog_13_method_73_code 62 = .ok (.goto (-47), 3) := by decide +kernel
theorem d_Mod_count_95 : decode prog_13_method_74_code 95 = .ok (.iload_n 2, 1) := by decide +kernel
theorem d_Mod_count_96 : decode prog_13_method_74_code 96 = .ok (.aload_n 0, 1) := by decide +kernel
theorem d_Mod_count_97 : decode prog_13_method_74_code 97 = .ok (.getfield 359, 3) := by decide +kernel
theorem d_Mod_count_100 : decode prog_13_method_74_code 100 = .ok (.iload_n 3, 1) := by decide +kernel
theorem d_Mod_count_101 : decode prog_13_method_74_code 101 = .ok (.aaload, 1) := by decide +kernel
theorem d_Mod_count_102 : decode prog_13_method_74_code 102 = .ok (.getfield 483, 3) := by decide +kernel
theorem w_1593 : (Cond.fieldLink "StowTongueModel" 483 "StowTongueModel$State" "bytes" "I" : Cond) ∈ am_tbl := am_w 1593 (by decide +kernel) (by decide +kernel)
theorem f_Mod_483 : am_F "StowTongueModel" 483 13 11 := ⟨_, rfl, cl_13, by decide, Or.inl w_1593⟩
theorem d_Mod_count_105 : decode prog_13_method_74_code 105 = .ok (.iadd, 1) := by decide +kernel
theorem d_Mod_count_106 : decode prog_13_method_74_code 106 = .ok (.istore_n 2, 1) := by decide +kernel
theorem d_Mod_count_107 : decode prog_13_method_74_code 107 = .ok (.iinc 3 1, 3) := by decide +kernel
theorem d_Mod_count_110 : decode prog_13_method_74_code 110 = .ok (.goto (-23), 3) := by decide +kernel
theorem d_Mod_count_125 : decode prog_13_method_74_code 125 = .ok (.iconst (-1), 1) := by decide +kernel
theorem d_Mod_count_126 : decode prog_13_method_74_code 126 = .ok (.ireturn, 1) := by decide +kernel
abbrev m_Stow_feed : am_M := (⟨"StowTongue", "feed", "(IIIII)I"⟩, prog_1_method_2_code, 6, (some FieldType.int))
theorem d_Stow_feed_0 : decode prog_1_method_2_code 0 = .ok (.aload_n 0, 1) := by decide +kernel
theorem d_Stow_feed_1 : decode prog_1_method_2_code 1 = .ok (.getfield 48, 3) := by decide +kernel
theorem d_Stow_feed_4 : decode prog_1_method_2_code 4 = .ok (.bipush 20, 2) := by decide +kernel
theorem d_Stow_feed_6 : decode prog_1_method_2_code 6 = .ok (.iadd, 1) := by decide +kernel
theorem d_Stow_feed_7 : decode prog_1_method_2_code 7 = .ok (.sipush 1500, 3) := by decide +kernel
theorem d_Stow_feed_10 : decode prog_1_method_2_code 10 = .ok (.if_icmp .le 6, 3) := by decide +kernel
theorem d_Stow_feed_16 : decode prog_1_method_2_code 16 = .ok (.aload_n 0, 1) := by decide +kernel
theorem d_Stow_feed_17 : decode prog_1_method_2_code 17 = .ok (.iload_n 1, 1) := by decide +kernel
theorem d_Stow_feed_18 : decode prog_1_method_2_code 18 = .ok (.invokevirtual 52, 3) := by decide +kernel
theorem w_530 : (Cond.methodLink "StowTongue" 52 ⟨"StowTongue", "addFour", "(I)V"⟩ : Cond) ∈ am_tbl := am_w 530 (by decide +kernel) (by decide +kernel)
set_option maxRecDepth 100000 in
theorem w_533 : (Cond.code ⟨"StowTongue", "addFour", "(I)V"⟩ prog_1_method_3_code 3 none : Cond) ∈ am_tbl := am_w 533 rfl rfl
theorem l_Stow_52 : am_L "StowTongue" 52 1 m_Stow_addFour := ⟨Or.inl w_530, w_143, w_533, ⟨by decide, by decide⟩, by decide +kernel, by decide⟩
theorem w_532 : (Cond.instanceMethod ⟨"StowTongue", "addFour", "(I)V"⟩ : Cond) ∈ am_tbl := am_w 532 (by decide +kernel) (by decide +kernel)
theorem w_0 : (Cond.selects "StowTongue" ⟨"StowTongue", "addFour", "(I)V"⟩ ⟨"StowTongue", "addFour", "(I)V"⟩ : Cond) ∈ am_tbl := am_w 0 (by decide +kernel) (by decide +kernel)
theorem d_Stow_feed_21 : decode prog_1_method_2_code 21 = .ok (.aload_n 0, 1) := by decide +kernel
theorem d_Stow_feed_22 : decode prog_1_method_2_code 22 = .ok (.iload_n 2, 1) := by decide +kernel
theorem d_Stow_feed_23 : decode prog_1_method_2_code 23 = .ok (.invokevirtual 52, 3) := by decide +kernel
theorem d_Stow_feed_26 : decode prog_1_method_2_code 26 = .ok (.aload_n 0, 1) := by decide +kernel
theorem d_Stow_feed_27 : decode prog_1_method_2_code 27 = .ok (.iload_n 3, 1) := by decide +kernel
theorem d_Stow_feed_28 : decode prog_1_method_2_code 28 = .ok (.invokevirtual 52, 3) := by decide +kernel
theorem d_Stow_feed_31 : decode prog_1_method_2_code 31 = .ok (.aload_n 0, 1) := by decide +kernel
theorem d_Stow_feed_32 : decode prog_1_method_2_code 32 = .ok (.iload 4, 2) := by decide +kernel
theorem d_Stow_feed_34 : decode prog_1_method_2_code 34 = .ok (.invokevirtual 52, 3) := by decide +kernel
theorem d_Stow_feed_37 : decode prog_1_method_2_code 37 = .ok (.aload_n 0, 1) := by decide +kernel
theorem d_Stow_feed_38 : decode prog_1_method_2_code 38 = .ok (.iload 5, 2) := by decide +kernel
theorem d_Stow_feed_40 : decode prog_1_method_2_code 40 = .ok (.invokevirtual 52, 3) := by decide +kernel
theorem d_Stow_feed_43 : decode prog_1_method_2_code 43 = .ok (.aload_n 0, 1) := by decide +kernel
theorem d_Stow_feed_44 : decode prog_1_method_2_code 44 = .ok (.getfield 48, 3) := by decide +kernel
theorem d_Stow_feed_47 : decode prog_1_method_2_code 47 = .ok (.ireturn, 1) := by decide +kernel
theorem d_Stow_feed_13 : decode prog_1_method_2_code 13 = .ok (.bipush (-3), 2) := by decide +kernel
theorem d_Stow_feed_15 : decode prog_1_method_2_code 15 = .ok (.ireturn, 1) := by decide +kernel
abbrev m_Lexer_scanText : am_M := (⟨"StowTongue$Lexer", "scanText", "()V"⟩, prog_4_method_20_code, 2, none)
theorem d_Lexer_scanText_0 : decode prog_4_method_20_code 0 = .ok (.iconst 0, 1) := by decide +kernel
theorem d_Lexer_scanText_1 : decode prog_4_method_20_code 1 = .ok (.istore_n 1, 1) := by decide +kernel
theorem d_Lexer_scanText_2 : decode prog_4_method_20_code 2 = .ok (.aload_n 0, 1) := by decide +kernel
theorem d_Lexer_scanText_3 : decode prog_4_method_20_code 3 = .ok (.iconst 2, 1) := by decide +kernel
theorem d_Lexer_scanText_4 : decode prog_4_method_20_code 4 = .ok (.invokestatic 111, 3) := by decide +kernel
theorem w_593 : (Cond.methodLink "StowTongue$Lexer" 111 ⟨"StowTongue$Cell", "headOf", "(I)J"⟩ : Cond) ∈ am_tbl := am_w 593 (by decide +kernel) (by decide +kernel)
theorem l_Lexer_111 : am_L "StowTongue$Lexer" 111 1 m_Cell_headOf := ⟨Or.inl w_593, w_151, w_595, ⟨by decide, by decide⟩, by decide +kernel, by decide⟩
theorem d_Lexer_scanText_7 : decode prog_4_method_20_code 7 = .ok (.putfield 91, 3) := by decide +kernel
theorem d_Lexer_scanText_10 : decode prog_4_method_20_code 10 = .ok (.aload_n 0, 1) := by decide +kernel
theorem d_Lexer_scanText_11 : decode prog_4_method_20_code 11 = .ok (.lconst 0, 1) := by decide +kernel
theorem d_Lexer_scanText_12 : decode prog_4_method_20_code 12 = .ok (.putfield 95, 3) := by decide +kernel
theorem d_Lexer_scanText_15 : decode prog_4_method_20_code 15 = .ok (.aload_n 0, 1) := by decide +kernel
theorem d_Lexer_scanText_16 : decode prog_4_method_20_code 16 = .ok (.dup, 1) := by decide +kernel
theorem d_Lexer_scanText_17 : decode prog_4_method_20_code 17 = .ok (.getfield 46, 3) := by decide +kernel
theorem d_Lexer_scanText_20 : decode prog_4_method_20_code 20 = .ok (.iconst 1, 1) := by decide +kernel
theorem d_Lexer_scanText_21 : decode prog_4_method_20_code 21 = .ok (.iadd, 1) := by decide +kernel
theorem d_Lexer_scanText_22 : decode prog_4_method_20_code 22 = .ok (.putfield 46, 3) := by decide +kernel
theorem d_Lexer_scanText_25 : decode prog_4_method_20_code 25 = .ok (.aload_n 0, 1) := by decide +kernel
theorem d_Lexer_scanText_26 : decode prog_4_method_20_code 26 = .ok (.getfield 46, 3) := by decide +kernel
theorem d_Lexer_scanText_29 : decode prog_4_method_20_code 29 = .ok (.aload_n 0, 1) := by decide +kernel
theorem d_Lexer_scanText_30 : decode prog_4_method_20_code 30 = .ok (.getfield 43, 3) := by decide +kernel
theorem d_Lexer_scanText_33 : decode prog_4_method_20_code 33 = .ok (.if_icmp .ge 90, 3) := by decide +kernel
theorem d_Lexer_scanText_123 : decode prog_4_method_20_code 123 = .ok (.aload_n 0, 1) := by decide +kernel
theorem d_Lexer_scanText_124 : decode prog_4_method_20_code 124 = .ok (.aload_n 0, 1) := by decide +kernel
theorem d_Lexer_scanText_125 : decode prog_4_method_20_code 125 = .ok (.aload_n 0, 1) := by decide +kernel
theorem d_Lexer_scanText_126 : decode prog_4_method_20_code 126 = .ok (.getfield 46, 3) := by decide +kernel
theorem d_Lexer_scanText_129 : decode prog_4_method_20_code 129 = .ok (.invokevirtual 61, 3) := by decide +kernel
theorem d_Lexer_scanText_132 : decode prog_4_method_20_code 132 = .ok (.bipush 34, 2) := by decide +kernel
theorem d_Lexer_scanText_134 : decode prog_4_method_20_code 134 = .ok (.if_icmp .ne 13, 3) := by decide +kernel
theorem d_Lexer_scanText_137 : decode prog_4_method_20_code 137 = .ok (.iload_n 1, 1) := by decide +kernel
theorem d_Lexer_scanText_138 : decode prog_4_method_20_code 138 = .ok (.bipush 16, 2) := by decide +kernel
theorem d_Lexer_scanText_140 : decode prog_4_method_20_code 140 = .ok (.if_icmp .gt 7, 3) := by decide +kernel
theorem d_Lexer_scanText_147 : decode prog_4_method_20_code 147 = .ok (.iconst 1, 1) := by decide +kernel
theorem d_Lexer_scanText_148 : decode prog_4_method_20_code 148 = .ok (.putfield 65, 3) := by decide +kernel
theorem d_Lexer_scanText_151 : decode prog_4_method_20_code 151 = .ok (.aload_n 0, 1) := by decide +kernel
theorem d_Lexer_scanText_152 : decode prog_4_method_20_code 152 = .ok (.dup, 1) := by decide +kernel
theorem d_Lexer_scanText_153 : decode prog_4_method_20_code 153 = .ok (.getfield 46, 3) := by decide +kernel
theorem d_Lexer_scanText_156 : decode prog_4_method_20_code 156 = .ok (.iconst 1, 1) := by decide +kernel
theorem d_Lexer_scanText_157 : decode prog_4_method_20_code 157 = .ok (.iadd, 1) := by decide +kernel
theorem d_Lexer_scanText_158 : decode prog_4_method_20_code 158 = .ok (.putfield 46, 3) := by decide +kernel
theorem d_Lexer_scanText_161 : decode prog_4_method_20_code 161 = .ok (.return_, 1) := by decide +kernel
theorem d_Lexer_scanText_143 : decode prog_4_method_20_code 143 = .ok (.iconst 4, 1) := by decide +kernel
theorem d_Lexer_scanText_144 : decode prog_4_method_20_code 144 = .ok (.goto 4, 3) := by decide +kernel
theorem d_Lexer_scanText_36 : decode prog_4_method_20_code 36 = .ok (.aload_n 0, 1) := by decide +kernel
theorem d_Lexer_scanText_37 : decode prog_4_method_20_code 37 = .ok (.aload_n 0, 1) := by decide +kernel
theorem d_Lexer_scanText_38 : decode prog_4_method_20_code 38 = .ok (.getfield 46, 3) := by decide +kernel
theorem d_Lexer_scanText_41 : decode prog_4_method_20_code 41 = .ok (.invokevirtual 61, 3) := by decide +kernel
theorem d_Lexer_scanText_44 : decode prog_4_method_20_code 44 = .ok (.invokestatic 115, 3) := by decide +kernel
theorem w_596 : (Cond.methodLink "StowTongue$Lexer" 115 ⟨"StowTongue$Lexer", "isTextSign", "(I)Z"⟩ : Cond) ∈ am_tbl := am_w 596 (by decide +kernel) (by decide +kernel)
set_option maxRecDepth 100000 in
theorem w_598 : (Cond.code ⟨"StowTongue$Lexer", "isTextSign", "(I)Z"⟩ prog_4_method_14_code 1 (some FieldType.boolean) : Cond) ∈ am_tbl := am_w 598 rfl rfl
theorem l_Lexer_115 : am_L "StowTongue$Lexer" 115 1 m_Lexer_isTextSign := ⟨Or.inl w_596, w_146, w_598, ⟨by decide, by decide⟩, by decide +kernel, by decide⟩
theorem w_597 : (Cond.static ⟨"StowTongue$Lexer", "isTextSign", "(I)Z"⟩ : Cond) ∈ am_tbl := am_w 597 (by decide +kernel) (by decide +kernel)
theorem d_Lexer_scanText_47 : decode prog_4_method_20_code 47 = .ok (.ifCond .eq 76, 3) := by decide +kernel
theorem d_Lexer_scanText_50 : decode prog_4_method_20_code 50 = .ok (.iload_n 1, 1) := by decide +kernel
theorem d_Lexer_scanText_51 : decode prog_4_method_20_code 51 = .ok (.bipush 8, 2) := by decide +kernel
theorem d_Lexer_scanText_53 : decode prog_4_method_20_code 53 = .ok (.if_icmp .ge 27, 3) := by decide +kernel
theorem d_Lexer_scanText_80 : decode prog_4_method_20_code 80 = .ok (.iload_n 1, 1) := by decide +kernel
theorem d_Lexer_scanText_81 : decode prog_4_method_20_code 81 = .ok (.bipush 16, 2) := by decide +kernel
theorem d_Lexer_scanText_83 : decode prog_4_method_20_code 83 = .ok (.if_icmp .ge 24, 3) := by decide +kernel
theorem d_Lexer_scanText_107 : decode prog_4_method_20_code 107 = .ok (.iinc 1 1, 3) := by decide +kernel
theorem d_Lexer_scanText_110 : decode prog_4_method_20_code 110 = .ok (.aload_n 0, 1) := by decide +kernel
theorem d_Lexer_scanText_111 : decode prog_4_method_20_code 111 = .ok (.dup, 1) := by decide +kernel
theorem d_Lexer_scanText_112 : decode prog_4_method_20_code 112 = .ok (.getfield 46, 3) := by decide +kernel
theorem d_Lexer_scanText_115 : decode prog_4_method_20_code 115 = .ok (.iconst 1, 1) := by decide +kernel
theorem d_Lexer_scanText_116 : decode prog_4_method_20_code 116 = .ok (.iadd, 1) := by decide +kernel
theorem d_Lexer_scanText_117 : decode prog_4_method_20_code 117 = .ok (.putfield 46, 3) := by decide +kernel
theorem d_Lexer_scanText_120 : decode prog_4_method_20_code 120 = .ok (.goto (-95), 3) := by decide +kernel
theorem d_Lexer_scanText_86 : decode prog_4_method_20_code 86 = .ok (.aload_n 0, 1) := by decide +kernel
theorem d_Lexer_scanText_87 : decode prog_4_method_20_code 87 = .ok (.dup, 1) := by decide +kernel
theorem d_Lexer_scanText_88 : decode prog_4_method_20_code 88 = .ok (.getfield 95, 3) := by decide +kernel
theorem d_Lexer_scanText_91 : decode prog_4_method_20_code 91 = .ok (.aload_n 0, 1) := by decide +kernel
theorem d_Lexer_scanText_92 : decode prog_4_method_20_code 92 = .ok (.aload_n 0, 1) := by decide +kernel
theorem d_Lexer_scanText_93 : decode prog_4_method_20_code 93 = .ok (.getfield 46, 3) := by decide +kernel
theorem d_Lexer_scanText_96 : decode prog_4_method_20_code 96 = .ok (.invokevirtual 61, 3) := by decide +kernel
theorem d_Lexer_scanText_99 : decode prog_4_method_20_code 99 = .ok (.iload_n 1, 1) := by decide +kernel
theorem d_Lexer_scanText_100 : decode prog_4_method_20_code 100 = .ok (.invokestatic 31, 3) := by decide +kernel
theorem d_Lexer_scanText_103 : decode prog_4_method_20_code 103 = .ok (.lor, 1) := by decide +kernel
theorem d_Lexer_scanText_104 : decode prog_4_method_20_code 104 = .ok (.putfield 95, 3) := by decide +kernel
theorem d_Lexer_scanText_56 : decode prog_4_method_20_code 56 = .ok (.aload_n 0, 1) := by decide +kernel
theorem d_Lexer_scanText_57 : decode prog_4_method_20_code 57 = .ok (.dup, 1) := by decide +kernel
theorem d_Lexer_scanText_58 : decode prog_4_method_20_code 58 = .ok (.getfield 91, 3) := by decide +kernel
theorem d_Lexer_scanText_61 : decode prog_4_method_20_code 61 = .ok (.aload_n 0, 1) := by decide +kernel
theorem d_Lexer_scanText_62 : decode prog_4_method_20_code 62 = .ok (.aload_n 0, 1) := by decide +kernel
theorem d_Lexer_scanText_63 : decode prog_4_method_20_code 63 = .ok (.getfield 46, 3) := by decide +kernel
theorem d_Lexer_scanText_66 : decode prog_4_method_20_code 66 = .ok (.invokevirtual 61, 3) := by decide +kernel
theorem d_Lexer_scanText_69 : decode prog_4_method_20_code 69 = .ok (.iload_n 1, 1) := by decide +kernel
theorem d_Lexer_scanText_70 : decode prog_4_method_20_code 70 = .ok (.invokestatic 31, 3) := by decide +kernel
theorem d_Lexer_scanText_73 : decode prog_4_method_20_code 73 = .ok (.lor, 1) := by decide +kernel
theorem d_Lexer_scanText_74 : decode prog_4_method_20_code 74 = .ok (.putfield 91, 3) := by decide +kernel
theorem d_Lexer_scanText_77 : decode prog_4_method_20_code 77 = .ok (.goto 30, 3) := by decide +kernel
abbrev m_Lexer_scanSign : am_M := (⟨"StowTongue$Lexer", "scanSign", "(I)V"⟩, prog_4_method_21_code, 2, none)
theorem d_Lexer_scanSign_0 : decode prog_4_method_21_code 0 = .ok (.aload_n 0, 1) := by decide +kernel
theorem d_Lexer_scanSign_1 : decode prog_4_method_21_code 1 = .ok (.iload_n 1, 1) := by decide +kernel
theorem d_Lexer_scanSign_2 : decode prog_4_method_21_code 2 = .ok (.aload_n 0, 1) := by decide +kernel
theorem d_Lexer_scanSign_3 : decode prog_4_method_21_code 3 = .ok (.aload_n 0, 1) := by decide +kernel
theorem d_Lexer_scanSign_4 : decode prog_4_method_21_code 4 = .ok (.getfield 46, 3) := by decide +kernel
theorem d_Lexer_scanSign_7 : decode prog_4_method_21_code 7 = .ok (.iconst 1, 1) := by decide +kernel
theorem d_Lexer_scanSign_8 : decode prog_4_method_21_code 8 = .ok (.iadd, 1) := by decide +kernel
theorem d_Lexer_scanSign_9 : decode prog_4_method_21_code 9 = .ok (.invokevirtual 61, 3) := by decide +kernel
theorem d_Lexer_scanSign_12 : decode prog_4_method_21_code 12 = .ok (.invokestatic 118, 3) := by decide +kernel
theorem w_603 : (Cond.methodLink "StowTongue$Lexer" 118 ⟨"StowTongue$Lexer", "pairKind", "(II)I"⟩ : Cond) ∈ am_tbl := am_w 603 (by decide +kernel) (by decide +kernel)
set_option maxRecDepth 100000 in
theorem w_605 : (Cond.code ⟨"StowTongue$Lexer", "pairKind", "(II)I"⟩ prog_4_method_22_code 2 (some FieldType.int) : Cond) ∈ am_tbl := am_w 605 rfl rfl
theorem l_Lexer_118 : am_L "StowTongue$Lexer" 118 2 m_Lexer_pairKind := ⟨Or.inl w_603, w_146, w_605, ⟨by decide, by decide⟩, by decide +kernel, by decide⟩
theorem w_604 : (Cond.static ⟨"StowTongue$Lexer", "pairKind", "(II)I"⟩ : Cond) ∈ am_tbl := am_w 604 (by decide +kernel) (by decide +kernel)
theorem d_Lexer_scanSign_15 : decode prog_4_method_21_code 15 = .ok (.putfield 65, 3) := by decide +kernel
theorem d_Lexer_scanSign_18 : decode prog_4_method_21_code 18 = .ok (.aload_n 0, 1) := by decide +kernel
theorem d_Lexer_scanSign_19 : decode prog_4_method_21_code 19 = .ok (.dup, 1) := by decide +kernel
theorem d_Lexer_scanSign_20 : decode prog_4_method_21_code 20 = .ok (.getfield 46, 3) := by decide +kernel
theorem d_Lexer_scanSign_23 : decode prog_4_method_21_code 23 = .ok (.iconst 1, 1) := by decide +kernel
theorem d_Lexer_scanSign_24 : decode prog_4_method_21_code 24 = .ok (.iadd, 1) := by decide +kernel
theorem d_Lexer_scanSign_25 : decode prog_4_method_21_code 25 = .ok (.putfield 46, 3) := by decide +kernel
theorem d_Lexer_scanSign_28 : decode prog_4_method_21_code 28 = .ok (.aload_n 0, 1) := by decide +kernel
theorem d_Lexer_scanSign_29 : decode prog_4_method_21_code 29 = .ok (.getfield 65, 3) := by decide +kernel
theorem d_Lexer_scanSign_32 : decode prog_4_method_21_code 32 = .ok (.iconst 1, 1) := by decide +kernel
theorem d_Lexer_scanSign_33 : decode prog_4_method_21_code 33 = .ok (.if_icmp .eq 16, 3) := by decide +kernel
theorem d_Lexer_scanSign_49 : decode prog_4_method_21_code 49 = .ok (.ldc 121, 2) := by decide +kernel
theorem d_Lexer_scanSign_51 : decode prog_4_method_21_code 51 = .ok (.iload_n 1, 1) := by decide +kernel
theorem d_Lexer_scanSign_52 : decode prog_4_method_21_code 52 = .ok (.i2c, 1) := by decide +kernel
theorem d_Lexer_scanSign_53 : decode prog_4_method_21_code 53 = .ok (.invokevirtual 123, 3) := by decide +kernel
theorem w_607 : (Cond.methodLink "StowTongue$Lexer" 123 ⟨"java/lang/String", "indexOf", "(I)I"⟩ : Cond) ∈ am_tbl := am_w 607 (by decide +kernel) (by decide +kernel)
set_option maxRecDepth 100000 in
theorem w_610 : (Cond.code ⟨"java/lang/String", "indexOf", "(I)I"⟩ prog_22_method_79_code 2 (some FieldType.int) : Cond) ∈ am_tbl := am_w 610 rfl rfl
theorem l_Lexer_123 : am_L "StowTongue$Lexer" 123 1 m_Str_indexOf_I := ⟨Or.inl w_607, w_147, w_610, ⟨by decide, by decide⟩, by decide +kernel, by decide⟩
theorem w_608 : (Cond.instanceMethod ⟨"java/lang/String", "indexOf", "(I)I"⟩ : Cond) ∈ am_tbl := am_w 608 (by decide +kernel) (by decide +kernel)
theorem w_609 : (Cond.selects "java/lang/String" ⟨"java/lang/String", "indexOf", "(I)I"⟩ ⟨"java/lang/String", "indexOf", "(I)I"⟩ : Cond) ∈ am_tbl := am_w 609 (by decide +kernel) (by decide +kernel)
theorem d_Lexer_scanSign_56 : decode prog_4_method_21_code 56 = .ok (.ifCond .lt 8, 3) := by decide +kernel
theorem d_Lexer_scanSign_64 : decode prog_4_method_21_code 64 = .ok (.return_, 1) := by decide +kernel
theorem d_Lexer_scanSign_59 : decode prog_4_method_21_code 59 = .ok (.aload_n 0, 1) := by decide +kernel
theorem d_Lexer_scanSign_60 : decode prog_4_method_21_code 60 = .ok (.iload_n 1, 1) := by decide +kernel
theorem d_Lexer_scanSign_61 : decode prog_4_method_21_code 61 = .ok (.putfield 65, 3) := by decide +kernel
theorem d_Lexer_scanSign_36 : decode prog_4_method_21_code 36 = .ok (.aload_n 0, 1) := by decide +kernel
theorem d_Lexer_scanSign_37 : decode prog_4_method_21_code 37 = .ok (.dup, 1) := by decide +kernel
theorem d_Lexer_scanSign_38 : decode prog_4_method_21_code 38 = .ok (.getfield 46, 3) := by decide +kernel
theorem d_Lexer_scanSign_41 : decode prog_4_method_21_code 41 = .ok (.iconst 1, 1) := by decide +kernel
theorem d_Lexer_scanSign_42 : decode prog_4_method_21_code 42 = .ok (.iadd, 1) := by decide +kernel
theorem d_Lexer_scanSign_43 : decode prog_4_method_21_code 43 = .ok (.putfield 46, 3) := by decide +kernel
theorem d_Lexer_scanSign_46 : decode prog_4_method_21_code 46 = .ok (.goto 18, 3) := by decide +kernel
abbrev m_Pars_fail : am_M := (⟨"StowTongue$Parser", "fail", "()V"⟩, prog_8_method_6_code, 1, none)
theorem d_Pars_fail_0 : decode prog_8_method_6_code 0 = .ok (.aload_n 0, 1) := by decide +kernel
theorem d_Pars_fail_1 : decode prog_8_method_6_code 1 = .ok (.getfield 51, 3) := by decide +kernel
theorem w_375 : (Cond.fieldLink "StowTongue$Parser" 51 "StowTongue$Parser" "fault" "I" : Cond) ∈ am_tbl := am_w 375 (by decide +kernel) (by decide +kernel)
theorem f_Pars_51 : am_F "StowTongue$Parser" 51 5 6 := ⟨_, rfl, cl_5, by decide, Or.inl w_375⟩
theorem d_Pars_fail_4 : decode prog_8_method_6_code 4 = .ok (.ifCond .ge 14, 3) := by decide +kernel
theorem d_Pars_fail_18 : decode prog_8_method_6_code 18 = .ok (.aload_n 0, 1) := by decide +kernel
theorem d_Pars_fail_19 : decode prog_8_method_6_code 19 = .ok (.getfield 12, 3) := by decide +kernel
theorem d_Pars_fail_22 : decode prog_8_method_6_code 22 = .ok (.invokevirtual 93, 3) := by decide +kernel
theorem w_693 : (Cond.methodLink "StowTongue$Parser" 93 ⟨"StowTongue$Lexer", "stop", "()V"⟩ : Cond) ∈ am_tbl := am_w 693 (by decide +kernel) (by decide +kernel)
set_option maxRecDepth 100000 in
theorem w_696 : (Cond.code ⟨"StowTongue$Lexer", "stop", "()V"⟩ prog_4_method_4_code 1 none : Cond) ∈ am_tbl := am_w 696 rfl rfl
theorem l_Pars_93 : am_L "StowTongue$Parser" 93 0 m_Lexer_stop := ⟨Or.inl w_693, w_146, w_696, ⟨by decide, by decide⟩, by decide +kernel, by decide⟩
theorem w_694 : (Cond.instanceMethod ⟨"StowTongue$Lexer", "stop", "()V"⟩ : Cond) ∈ am_tbl := am_w 694 (by decide +kernel) (by decide +kernel)
theorem w_695 : (Cond.selects "StowTongue$Lexer" ⟨"StowTongue$Lexer", "stop", "()V"⟩ ⟨"StowTongue$Lexer", "stop", "()V"⟩ : Cond) ∈ am_tbl := am_w 695 (by decide +kernel) (by decide +kernel)
theorem d_Pars_fail_25 : decode prog_8_method_6_code 25 = .ok (.return_, 1) := by decide +kernel
theorem d_Pars_fail_7 : decode prog_8_method_6_code 7 = .ok (.aload_n 0, 1) := by decide +kernel
theorem d_Pars_fail_8 : decode prog_8_method_6_code 8 = .ok (.aload_n 0, 1) := by decide +kernel
theorem d_Pars_fail_9 : decode prog_8_method_6_code 9 = .ok (.getfield 12, 3) := by decide +kernel
theorem d_Pars_fail_12 : decode prog_8_method_6_code 12 = .ok (.invokevirtual 90, 3) := by decide +kernel
theorem w_689 : (Cond.methodLink "StowTongue$Parser" 90 ⟨"StowTongue$Lexer", "place", "()I"⟩ : Cond) ∈ am_tbl := am_w 689 (by decide +kernel) (by decide +kernel)
set_option maxRecDepth 100000 in
theorem w_692 : (Cond.code ⟨"StowTongue$Lexer", "place", "()I"⟩ prog_4_method_6_code 1 (some FieldType.int) : Cond) ∈ am_tbl := am_w 692 rfl rfl
theorem l_Pars_90 : am_L "StowTongue$Parser" 90 0 m_Lexer_place := ⟨Or.inl w_689, w_146, w_692, ⟨by decide, by decide⟩, by decide +kernel, by decide⟩
theorem w_690 : (Cond.instanceMethod ⟨"StowTongue$Lexer", "place", "()I"⟩ : Cond) ∈ am_tbl := am_w 690 (by decide +kernel) (by decide +kernel)
theorem w_691 : (Cond.selects "StowTongue$Lexer" ⟨"StowTongue$Lexer", "place", "()I"⟩ ⟨"StowTongue$Lexer", "place", "()I"⟩ : Cond) ∈ am_tbl := am_w 691 (by decide +kernel) (by decide +kernel)
theorem d_Pars_fail_15 : decode prog_8_method_6_code 15 = .ok (.putfield 51, 3) := by decide +kernel
theorem d_Store_functionTokens_12 : decode prog_9_method_21_code 12 = .ok (.iload_n 1, 1) := by decide +kernel
theorem d_Store_functionTokens_13 : decode prog_9_method_21_code 13 = .ok (.aload_n 0, 1) := by decide +kernel
theorem d_Store_functionTokens_14 : decode prog_9_method_21_code 14 = .ok (.getfield 31, 3) := by decide +kernel
theorem d_Store_functionTokens_17 : decode prog_9_method_21_code 17 = .ok (.iload_n 2, 1) := by decide +kernel
theorem d_Store_functionTokens_18 : decode prog_9_method_21_code 18 = .ok (.aaload, 1) := by decide +kernel
theorem d_Store_functionTokens_19 : decode prog_9_method_21_code 19 = .ok (.ifnonnull 7, 3) := by decide +kernel
theorem d_Store_functionTokens_26 : decode prog_9_method_21_code 26 = .ok (.aload_n 0, 1) := by decide +kernel
theorem d_Store_functionTokens_27 : decode prog_9_method_21_code 27 = .ok (.getfield 31, 3) := by decide +kernel
theorem d_Store_functionTokens_30 : decode prog_9_method_21_code 30 = .ok (.iload_n 2, 1) := by decide +kernel
theorem d_Store_functionTokens_31 : decode prog_9_method_21_code 31 = .ok (.aaload, 1) := by decide +kernel
theorem d_Store_functionTokens_32 : decode prog_9_method_21_code 32 = .ok (.invokevirtual 97, 3) := by decide +kernel
theorem w_1053 : (Cond.methodLink "StowTongue$Store" 97 ⟨"StowTongue$Unit", "tokens", "()I"⟩ : Cond) ∈ am_tbl := am_w 1053 (by decide +kernel) (by decide +kernel)
set_option maxRecDepth 100000 in
theorem w_1056 : (Cond.code ⟨"StowTongue$Unit", "tokens", "()I"⟩ prog_11_method_5_code 1 (some FieldType.int) : Cond) ∈ am_tbl := am_w 1056 rfl rfl
theorem l_Store_97 : am_L "StowTongue$Store" 97 0 m_Unit_tokens := ⟨Or.inl w_1053, w_156, w_1056, ⟨by decide, by decide⟩, by decide +kernel, by decide⟩
theorem w_1054 : (Cond.instanceMethod ⟨"StowTongue$Unit", "tokens", "()I"⟩ : Cond) ∈ am_tbl := am_w 1054 (by decide +kernel) (by decide +kernel)
theorem w_1055 : (Cond.selects "StowTongue$Unit" ⟨"StowTongue$Unit", "tokens", "()I"⟩ ⟨"StowTongue$Unit", "tokens", "()I"⟩ : Cond) ∈ am_tbl := am_w 1055 (by decide +kernel) (by decide +kernel)
theorem d_Store_functionTokens_35 : decode prog_9_method_21_code 35 = .ok (.iadd, 1) := by decide +kernel
theorem d_Store_functionTokens_36 : decode prog_9_method_21_code 36 = .ok (.istore_n 1, 1) := by decide +kernel
theorem d_Store_functionTokens_37 : decode prog_9_method_21_code 37 = .ok (.iinc 2 1, 3) := by decide +kernel
theorem d_Store_functionTokens_40 : decode prog_9_method_21_code 40 = .ok (.goto (-36), 3) := by decide +kernel
abbrev m_Mach_lay : am_M := (⟨"StowTongue$Machine", "lay", "(JJ)V"⟩, prog_6_method_9_code, 5, none)
theorem d_Mach_lay_0 : decode prog_6_method_9_code 0 = .ok (.aload_n 0, 1) := by decide +kernel
theorem d_Mach_lay_1 : decode prog_6_method_9_code 1 = .ok (.getfield 54, 3) := by decide +kernel
theorem d_Mach_lay_4 : decode prog_6_method_9_code 4 = .ok (.aload_n 0, 1) := by decide +kernel
theorem d_Mach_lay_5 : decode prog_6_method_9_code 5 = .ok (.getfield 7, 3) := by decide +kernel
theorem d_Mach_lay_8 : decode prog_6_method_9_code 8 = .ok (.arraylength, 1) := by decide +kernel
theorem d_Mach_lay_9 : decode prog_6_method_9_code 9 = .ok (.if_icmp .ne 54, 3) := by decide +kernel
theorem d_Mach_lay_12 : decode prog_6_method_9_code 12 = .ok (.aload_n 0, 1) := by decide +kernel
theorem d_Mach_lay_13 : decode prog_6_method_9_code 13 = .ok (.getfield 54, 3) := by decide +kernel
theorem d_Mach_lay_16 : decode prog_6_method_9_code 16 = .ok (.sipush 8192, 3) := by decide +kernel
theorem d_Mach_lay_19 : decode prog_6_method_9_code 19 = .ok (.if_icmp .lt 10, 3) := by decide +kernel
theorem d_Mach_lay_29 : decode prog_6_method_9_code 29 = .ok (.aload_n 0, 1) := by decide +kernel
theorem d_Mach_lay_30 : decode prog_6_method_9_code 30 = .ok (.aload_n 0, 1) := by decide +kernel
theorem d_Mach_lay_31 : decode prog_6_method_9_code 31 = .ok (.getfield 7, 3) := by decide +kernel
theorem d_Mach_lay_34 : decode prog_6_method_9_code 34 = .ok (.iconst 2, 1) := by decide +kernel
theorem d_Mach_lay_35 : decode prog_6_method_9_code 35 = .ok (.aload_n 0, 1) := by decide +kernel
theorem d_Mach_lay_36 : decode prog_6_method_9_code 36 = .ok (.getfield 54, 3) := by decide +kernel
theorem d_Mach_lay_39 : decode prog_6_method_9_code 39 = .ok (.imul, 1) := by decide +kernel
theorem d_Mach_lay_40 : decode prog_6_method_9_code 40 = .ok (.invokestatic 109, 3) := by decide +kernel
theorem w_1086 : (Cond.methodLink "StowTongue$Machine" 109 ⟨"java/util/Arrays", "copyOf", "([JI)[J"⟩ : Cond) ∈ am_tbl := am_w 1086 (by decide +kernel) (by decide +kernel)
theorem l_Mach_109 : am_L "StowTongue$Machine" 109 2 m_Arr_copyOf_aJI := ⟨Or.inl w_1086, w_166, w_724, ⟨by decide, by decide⟩, by decide +kernel, by decide⟩
theorem d_Mach_lay_43 : decode prog_6_method_9_code 43 = .ok (.putfield 7, 3) := by decide +kernel
theorem d_Mach_lay_46 : decode prog_6_method_9_code 46 = .ok (.aload_n 0, 1) := by decide +kernel
theorem d_Mach_lay_47 : decode prog_6_method_9_code 47 = .ok (.aload_n 0, 1) := by decide +kernel
theorem d_Mach_lay_48 : decode prog_6_method_9_code 48 = .ok (.getfield 13, 3) := by decide +kernel
theorem d_Mach_lay_51 : decode prog_6_method_9_code 51 = .ok (.iconst 2, 1) := by decide +kernel
theorem d_Mach_lay_52 : decode prog_6_method_9_code 52 = .ok (.aload_n 0, 1) := by decide +kernel
theorem d_Mach_lay_53 : decode prog_6_method_9_code 53 = .ok (.getfield 54, 3) := by decide +kernel
theorem d_Mach_lay_56 : decode prog_6_method_9_code 56 = .ok (.imul, 1) := by decide +kernel
theorem d_Mach_lay_57 : decode prog_6_method_9_code 57 = .ok (.invokestatic 109, 3) := by decide +kernel
theorem d_Mach_lay_60 : decode prog_6_method_9_code 60 = .ok (.putfield 13, 3) := by decide +kernel
theorem d_Mach_lay_63 : decode prog_6_method_9_code 63 = .ok (.aload_n 0, 1) := by decide +kernel
theorem d_Mach_lay_64 : decode prog_6_method_9_code 64 = .ok (.getfield 7, 3) := by decide +kernel
theorem d_Mach_lay_67 : decode prog_6_method_9_code 67 = .ok (.aload_n 0, 1) := by decide +kernel
theorem d_Mach_lay_68 : decode prog_6_method_9_code 68 = .ok (.getfield 54, 3) := by decide +kernel
theorem d_Mach_lay_71 : decode prog_6_method_9_code 71 = .ok (.lload_n 1, 1) := by decide +kernel
theorem d_Mach_lay_72 : decode prog_6_method_9_code 72 = .ok (.lastore, 1) := by decide +kernel
theorem d_Mach_lay_73 : decode prog_6_method_9_code 73 = .ok (.aload_n 0, 1) := by decide +kernel
theorem d_Mach_lay_74 : decode prog_6_method_9_code 74 = .ok (.getfield 13, 3) := by decide +kernel
theorem d_Mach_lay_77 : decode prog_6_method_9_code 77 = .ok (.aload_n 0, 1) := by decide +kernel
theorem d_Mach_lay_78 : decode prog_6_method_9_code 78 = .ok (.getfield 54, 3) := by decide +kernel
theorem d_Mach_lay_81 : decode prog_6_method_9_code 81 = .ok (.lload_n 3, 1) := by decide +kernel
theorem d_Mach_lay_82 : decode prog_6_method_9_code 82 = .ok (.lastore, 1) := by decide +kernel
theorem d_Mach_lay_83 : decode prog_6_method_9_code 83 = .ok (.aload_n 0, 1) := by decide +kernel
theorem d_Mach_lay_84 : decode prog_6_method_9_code 84 = .ok (.dup, 1) := by decide +kernel
theorem d_Mach_lay_85 : decode prog_6_method_9_code 85 = .ok (.getfield 54, 3) := by decide +kernel
theorem d_Mach_lay_88 : decode prog_6_method_9_code 88 = .ok (.iconst 1, 1) := by decide +kernel
theorem d_Mach_lay_89 : decode prog_6_method_9_code 89 = .ok (.iadd, 1) := by decide +kernel
theorem d_Mach_lay_90 : decode prog_6_method_9_code 90 = .ok (.putfield 54, 3) := by decide +kernel
theorem d_Mach_lay_93 : decode prog_6_method_9_code 93 = .ok (.return_, 1) := by decide +kernel
theorem d_Mach_lay_22 : decode prog_6_method_9_code 22 = .ok (.aload_n 0, 1) := by decide +kernel
theorem d_Mach_lay_23 : decode prog_6_method_9_code 23 = .ok (.bipush 8, 2) := by decide +kernel
theorem d_Mach_lay_25 : decode prog_6_method_9_code 25 = .ok (.invokevirtual 106, 3) := by decide +kernel
theorem d_Mach_lay_28 : decode prog_6_method_9_code 28 = .ok (.return_, 1) := by decide +kernel
abbrev m_Mach_leave : am_M := (⟨"StowTongue$Machine", "leave", "()V"⟩, prog_6_method_19_code, 2, none)
theorem d_Mach_leave_0 : decode prog_6_method_19_code 0 = .ok (.aload_n 0, 1) := by decide +kernel
theorem d_Mach_leave_1 : decode prog_6_method_19_code 1 = .ok (.iconst 1, 1) := by decide +kernel
theorem d_Mach_leave_2 : decode prog_6_method_19_code 2 = .ok (.invokevirtual 133, 3) := by decide +kernel
theorem d_Mach_leave_5 : decode prog_6_method_19_code 5 = .ok (.istore_n 1, 1) := by decide +kernel
theorem d_Mach_leave_6 : decode prog_6_method_19_code 6 = .ok (.aload_n 0, 1) := by decide +kernel
theorem d_Mach_leave_7 : decode prog_6_method_19_code 7 = .ok (.aload_n 0, 1) := by decide +kernel
theorem d_Mach_leave_8 : decode prog_6_method_19_code 8 = .ok (.getfield 7, 3) := by decide +kernel
theorem d_Mach_leave_11 : decode prog_6_method_19_code 11 = .ok (.iload_n 1, 1) := by decide +kernel
theorem d_Mach_leave_12 : decode prog_6_method_19_code 12 = .ok (.laload, 1) := by decide +kernel
theorem d_Mach_leave_13 : decode prog_6_method_19_code 13 = .ok (.putfield 93, 3) := by decide +kernel
theorem d_Mach_leave_16 : decode prog_6_method_19_code 16 = .ok (.aload_n 0, 1) := by decide +kernel
theorem d_Mach_leave_17 : decode prog_6_method_19_code 17 = .ok (.aload_n 0, 1) := by decide +kernel
theorem d_Mach_leave_18 : decode prog_6_method_19_code 18 = .ok (.getfield 13, 3) := by decide +kernel
theorem d_Mach_leave_21 : decode prog_6_method_19_code 21 = .ok (.iload_n 1, 1) := by decide +kernel
theorem d_Mach_leave_22 : decode prog_6_method_19_code 22 = .ok (.laload, 1) := by decide +kernel
theorem d_Mach_leave_23 : decode prog_6_method_19_code 23 = .ok (.putfield 97, 3) := by decide +kernel
theorem d_Mach_leave_26 : decode prog_6_method_19_code 26 = .ok (.aload_n 0, 1) := by decide +kernel
theorem d_Mach_leave_27 : decode prog_6_method_19_code 27 = .ok (.getfield 51, 3) := by decide +kernel
theorem w_411 : (Cond.fieldLink "StowTongue$Machine" 51 "StowTongue$Machine" "calls" "I" : Cond) ∈ am_tbl := am_w 411 (by decide +kernel) (by decide +kernel)
theorem f_Mach_51 : am_F "StowTongue$Machine" 51 6 9 := ⟨_, rfl, cl_6, by decide, Or.inl w_411⟩
theorem d_Mach_leave_30 : decode prog_6_method_19_code 30 = .ok (.ifCond .ne 9, 3) := by decide +kernel
theorem d_Mach_leave_33 : decode prog_6_method_19_code 33 = .ok (.aload_n 0, 1) := by decide +kernel
theorem d_Mach_leave_34 : decode prog_6_method_19_code 34 = .ok (.iconst 1, 1) := by decide +kernel
theorem d_Mach_leave_35 : decode prog_6_method_19_code 35 = .ok (.putfield 47, 3) := by decide +kernel
theorem d_Mach_leave_38 : decode prog_6_method_19_code 38 = .ok (.return_, 1) := by decide +kernel
theorem d_Mach_leave_39 : decode prog_6_method_19_code 39 = .ok (.aload_n 0, 1) := by decide +kernel
theorem d_Mach_leave_40 : decode prog_6_method_19_code 40 = .ok (.dup, 1) := by decide +kernel
theorem d_Mach_leave_41 : decode prog_6_method_19_code 41 = .ok (.getfield 51, 3) := by decide +kernel
theorem d_Mach_leave_44 : decode prog_6_method_19_code 44 = .ok (.iconst 1, 1) := by decide +kernel
theorem d_Mach_leave_45 : decode prog_6_method_19_code 45 = .ok (.isub, 1) := by decide +kernel
theorem d_Mach_leave_46 : decode prog_6_method_19_code 46 = .ok (.putfield 51, 3) := by decide +kernel
theorem d_Mach_leave_49 : decode prog_6_method_19_code 49 = .ok (.aload_n 0, 1) := by decide +kernel
theorem d_Mach_leave_50 : decode prog_6_method_19_code 50 = .ok (.aload_n 0, 1) := by decide +kernel
theorem d_Mach_leave_51 : decode prog_6_method_19_code 51 = .ok (.getfield 171, 3) := by decide +kernel
theorem d_Mach_leave_54 : decode prog_6_method_19_code 54 = .ok (.putfield 54, 3) := by decide +kernel
theorem d_Mach_leave_57 : decode prog_6_method_19_code 57 = .ok (.aload_n 0, 1) := by decide +kernel
theorem d_Mach_leave_58 : decode prog_6_method_19_code 58 = .ok (.aload_n 0, 1) := by decide +kernel
theorem d_Mach_leave_59 : decode prog_6_method_19_code 59 = .ok (.getfield 18, 3) := by decide +kernel
theorem d_Mach_leave_62 : decode prog_6_method_19_code 62 = .ok (.aload_n 0, 1) := by decide +kernel
theorem d_Mach_leave_63 : decode prog_6_method_19_code 63 = .ok (.getfield 51, 3) := by decide +kernel
theorem d_Mach_leave_66 : decode prog_6_method_19_code 66 = .ok (.aaload, 1) := by decide +kernel
theorem d_Mach_leave_67 : decode prog_6_method_19_code 67 = .ok (.putfield 62, 3) := by decide +kernel
theorem w_406 : (Cond.fieldLink "StowTongue$Machine" 62 "StowTongue$Machine" "unit" "LStowTongue$Unit;" : Cond) ∈ am_tbl := am_w 406 (by decide +kernel) (by decide +kernel)
theorem f_Mach_62 : am_F "StowTongue$Machine" 62 6 4 := ⟨_, rfl, cl_6, by decide, Or.inl w_406⟩
theorem d_Mach_leave_70 : decode prog_6_method_19_code 70 = .ok (.aload_n 0, 1) := by decide +kernel
theorem d_Mach_leave_71 : decode prog_6_method_19_code 71 = .ok (.aload_n 0, 1) := by decide +kernel
theorem d_Mach_leave_72 : decode prog_6_method_19_code 72 = .ok (.getfield 22, 3) := by decide +kernel
theorem d_Mach_leave_75 : decode prog_6_method_19_code 75 = .ok (.aload_n 0, 1) := by decide +kernel
theorem d_Mach_leave_76 : decode prog_6_method_19_code 76 = .ok (.getfield 51, 3) := by decide +kernel
theorem d_Mach_leave_79 : decode prog_6_method_19_code 79 = .ok (.iaload, 1) := by decide +kernel
theorem d_Mach_leave_80 : decode prog_6_method_19_code 80 = .ok (.putfield 66, 3) := by decide +kernel
theorem d_Mach_leave_83 : decode prog_6_method_19_code 83 = .ok (.aload_n 0, 1) := by decide +kernel
theorem d_Mach_leave_84 : decode prog_6_method_19_code 84 = .ok (.aload_n 0, 1) := by decide +kernel
theorem d_Mach_leave_85 : decode prog_6_method_19_code 85 = .ok (.getfield 26, 3) := by decide +kernel
theorem d_Mach_leave_88 : decode prog_6_method_19_code 88 = .ok (.aload_n 0, 1) := by decide +kernel
theorem d_Mach_leave_89 : decode prog_6_method_19_code 89 = .ok (.getfield 51, 3) := by decide +kernel
theorem d_Mach_leave_92 : decode prog_6_method_19_code 92 = .ok (.iaload, 1) := by decide +kernel
theorem d_Mach_leave_93 : decode prog_6_method_19_code 93 = .ok (.putfield 171, 3) := by decide +kernel
theorem d_Mach_leave_96 : decode prog_6_method_19_code 96 = .ok (.aload_n 0, 1) := by decide +kernel
theorem d_Mach_leave_97 : decode prog_6_method_19_code 97 = .ok (.aload_n 0, 1) := by decide +kernel
theorem d_Mach_leave_98 : decode prog_6_method_19_code 98 = .ok (.getfield 93, 3) := by decide +kernel
theorem d_Mach_leave_101 : decode prog_6_method_19_code 101 = .ok (.aload_n 0, 1) := by decide +kernel
theorem d_Mach_leave_102 : decode prog_6_method_19_code 102 = .ok (.getfield 97, 3) := by decide +kernel
theorem d_Mach_leave_105 : decode prog_6_method_19_code 105 = .ok (.invokevirtual 121, 3) := by decide +kernel
theorem w_1078 : (Cond.methodLink "StowTongue$Machine" 121 ⟨"StowTongue$Machine", "lay", "(JJ)V"⟩ : Cond) ∈ am_tbl := am_w 1078 (by decide +kernel) (by decide +kernel)
set_option maxRecDepth 100000 in
theorem w_1081 : (Cond.code ⟨"StowTongue$Machine", "lay", "(JJ)V"⟩ prog_6_method_9_code 5 none : Cond) ∈ am_tbl := am_w 1081 rfl rfl
theorem l_Mach_121 : am_L "StowTongue$Machine" 121 2 m_Mach_lay := ⟨Or.inl w_1078, w_157, w_1081, ⟨by decide, by decide⟩, by decide +kernel, by decide⟩
theorem w_1080 : (Cond.instanceMethod ⟨"StowTongue$Machine", "lay", "(JJ)V"⟩ : Cond) ∈ am_tbl := am_w 1080 (by decide +kernel) (by decide +kernel)
theorem w_44 : (Cond.selects "StowTongue$Machine" ⟨"StowTongue$Machine", "lay", "(JJ)V"⟩ ⟨"StowTongue$Machine", "lay", "(JJ)V"⟩ : Cond) ∈ am_tbl := am_w 44 (by decide +kernel) (by decide +kernel)
theorem d_Mach_leave_108 : decode prog_6_method_19_code 108 = .ok (.return_, 1) := by decide +kernel
abbrev m_Out_addNumber : am_M := (⟨"StowTongue$Out", "addNumber", "(J)V"⟩, prog_7_method_8_code, 8, none)
theorem d_Out_addNumber_0 : decode prog_7_method_8_code 0 = .ok (.lload_n 1, 1) := by decide +kernel
theorem d_Out_addNumber_1 : decode prog_7_method_8_code 1 = .ok (.lconst 0, 1) := by decide +kernel
theorem d_Out_addNumber_2 : decode prog_7_method_8_code 2 = .ok (.lcmp, 1) := by decide +kernel
theorem d_Out_addNumber_3 : decode prog_7_method_8_code 3 = .ok (.ifCond .ge 9, 3) := by decide +kernel
theorem d_Out_addNumber_12 : decode prog_7_method_8_code 12 = .ok (.lload_n 1, 1) := by decide +kernel
theorem d_Out_addNumber_13 : decode prog_7_method_8_code 13 = .ok (.invokestatic 37, 3) := by decide +kernel
theorem w_1151 : (Cond.methodLink "StowTongue$Out" 37 ⟨"java/lang/Math", "abs", "(J)J"⟩ : Cond) ∈ am_tbl := am_w 1151 (by decide +kernel) (by decide +kernel)
theorem w_1152 : (Cond.static ⟨"java/lang/Math", "abs", "(J)J"⟩ : Cond) ∈ am_tbl := am_w 1152 (by decide +kernel) (by decide +kernel)
set_option maxRecDepth 100000 in
theorem w_1153 : (Cond.code ⟨"java/lang/Math", "abs", "(J)J"⟩ prog_21_method_61_code 2 (some FieldType.long) : Cond) ∈ am_tbl := am_w 1153 rfl rfl
theorem d_Out_addNumber_16 : decode prog_7_method_8_code 16 = .ok (.lstore_n 3, 1) := by decide +kernel
theorem d_Out_addNumber_17 : decode prog_7_method_8_code 17 = .ok (.lconst 1, 1) := by decide +kernel
theorem d_Out_addNumber_18 : decode prog_7_method_8_code 18 = .ok (.lstore 5, 2) := by decide +kernel
theorem d_Out_addNumber_20 : decode prog_7_method_8_code 20 = .ok (.iconst 0, 1) := by decide +kernel
theorem d_Out_addNumber_21 : decode prog_7_method_8_code 21 = .ok (.istore 7, 2) := by decide +kernel
theorem d_Out_addNumber_23 : decode prog_7_method_8_code 23 = .ok (.iload 7, 2) := by decide +kernel
theorem d_Out_addNumber_25 : decode prog_7_method_8_code 25 = .ok (.bipush 10, 2) := by decide +kernel
theorem d_Out_addNumber_27 : decode prog_7_method_8_code 27 = .ok (.if_icmp .ge 28, 3) := by decide +kernel
theorem d_Out_addNumber_55 : decode prog_7_method_8_code 55 = .ok (.iconst 0, 1) := by decide +kernel
theorem d_Out_addNumber_56 : decode prog_7_method_8_code 56 = .ok (.istore 7, 2) := by decide +kernel
theorem d_Out_addNumber_58 : decode prog_7_method_8_code 58 = .ok (.iload 7, 2) := by decide +kernel
theorem d_Out_addNumber_60 : decode prog_7_method_8_code 60 = .ok (.bipush 11, 2) := by decide +kernel
theorem d_Out_addNumber_62 : decode prog_7_method_8_code 62 = .ok (.if_icmp .ge 41, 3) := by decide +kernel
theorem d_Out_addNumber_103 : decode prog_7_method_8_code 103 = .ok (.return_, 1) := by decide +kernel
theorem d_Out_addNumber_65 : decode prog_7_method_8_code 65 = .ok (.lload 5, 2) := by decide +kernel
theorem d_Out_addNumber_67 : decode prog_7_method_8_code 67 = .ok (.lconst 0, 1) := by decide +kernel
theorem d_Out_addNumber_68 : decode prog_7_method_8_code 68 = .ok (.lcmp, 1) := by decide +kernel
theorem d_Out_addNumber_69 : decode prog_7_method_8_code 69 = .ok (.ifCond .le 34, 3) := by decide +kernel
theorem d_Out_addNumber_72 : decode prog_7_method_8_code 72 = .ok (.aload_n 0, 1) := by decide +kernel
theorem d_Out_addNumber_73 : decode prog_7_method_8_code 73 = .ok (.ldc2_w 45, 3) := by decide +kernel
theorem w_1155 : (Cond.constantLong "StowTongue$Out" 45 48 : Cond) ∈ am_tbl := am_w 1155 (by decide +kernel) (by decide +kernel)
theorem d_Out_addNumber_76 : decode prog_7_method_8_code 76 = .ok (.lload_n 3, 1) := by decide +kernel
theorem d_Out_addNumber_77 : decode prog_7_method_8_code 77 = .ok (.lload 5, 2) := by decide +kernel
theorem d_Out_addNumber_79 : decode prog_7_method_8_code 79 = .ok (.ldiv, 1) := by decide +kernel
theorem d_Out_addNumber_80 : decode prog_7_method_8_code 80 = .ok (.ldc2_w 43, 3) := by decide +kernel
theorem w_1154 : (Cond.constantLong "StowTongue$Out" 43 10 : Cond) ∈ am_tbl := am_w 1154 (by decide +kernel) (by decide +kernel)
theorem d_Out_addNumber_83 : decode prog_7_method_8_code 83 = .ok (.lrem, 1) := by decide +kernel
theorem d_Out_addNumber_84 : decode prog_7_method_8_code 84 = .ok (.ladd, 1) := by decide +kernel
theorem d_Out_addNumber_85 : decode prog_7_method_8_code 85 = .ok (.l2i, 1) := by decide +kernel
theorem d_Out_addNumber_86 : decode prog_7_method_8_code 86 = .ok (.invokevirtual 33, 3) := by decide +kernel
theorem d_Out_addNumber_89 : decode prog_7_method_8_code 89 = .ok (.lload 5, 2) := by decide +kernel
theorem d_Out_addNumber_91 : decode prog_7_method_8_code 91 = .ok (.ldc2_w 43, 3) := by decide +kernel
theorem d_Out_addNumber_94 : decode prog_7_method_8_code 94 = .ok (.ldiv, 1) := by decide +kernel
theorem d_Out_addNumber_95 : decode prog_7_method_8_code 95 = .ok (.lstore 5, 2) := by decide +kernel
theorem d_Out_addNumber_97 : decode prog_7_method_8_code 97 = .ok (.iinc 7 1, 3) := by decide +kernel
theorem d_Out_addNumber_100 : decode prog_7_method_8_code 100 = .ok (.goto (-42), 3) := by decide +kernel
theorem d_Out_addNumber_30 : decode prog_7_method_8_code 30 = .ok (.lload_n 3, 1) := by decide +kernel
theorem d_Out_addNumber_31 : decode prog_7_method_8_code 31 = .ok (.lload 5, 2) := by decide +kernel
theorem d_Out_addNumber_33 : decode prog_7_method_8_code 33 = .ok (.ldiv, 1) := by decide +kernel
theorem d_Out_addNumber_34 : decode prog_7_method_8_code 34 = .ok (.ldc2_w 43, 3) := by decide +kernel
theorem d_Out_addNumber_37 : decode prog_7_method_8_code 37 = .ok (.lcmp, 1) := by decide +kernel
theorem d_Out_addNumber_38 : decode prog_7_method_8_code 38 = .ok (.ifCond .lt 17, 3) := by decide +kernel
theorem d_Out_addNumber_41 : decode prog_7_method_8_code 41 = .ok (.lload 5, 2) := by decide +kernel
theorem d_Out_addNumber_43 : decode prog_7_method_8_code 43 = .ok (.ldc2_w 43, 3) := by decide +kernel
theorem d_Out_addNumber_46 : decode prog_7_method_8_code 46 = .ok (.lmul, 1) := by decide +kernel
theorem d_Out_addNumber_47 : decode prog_7_method_8_code 47 = .ok (.lstore 5, 2) := by decide +kernel
theorem d_Out_addNumber_49 : decode prog_7_method_8_code 49 = .ok (.iinc 7 1, 3) := by decide +kernel
theorem d_Out_addNumber_52 : decode prog_7_method_8_code 52 = .ok (.goto (-29), 3) := by decide +kernel
theorem d_Out_addNumber_6 : decode prog_7_method_8_code 6 = .ok (.aload_n 0, 1) := by decide +kernel
theorem d_Out_addNumber_7 : decode prog_7_method_8_code 7 = .ok (.bipush 45, 2) := by decide +kernel
theorem d_Out_addNumber_9 : decode prog_7_method_8_code 9 = .ok (.invokevirtual 33, 3) := by decide +kernel
