abbrev m_Law_law (nm : String) : am_M := (⟨"StowTongueLaw", nm, ""⟩, code, 4, ret)
theorem d_Law_law_18 : decode code 18 = .ok (.iload_n 3, 1) := by decide +kernel
theorem d_Law_law_19 : decode code 19 = .ok (.aload_n 0, 1) := by decide +kernel
theorem d_Law_law_20 : decode code 20 = .ok (.arraylength, 1) := by decide +kernel
theorem d_Law_law_21 : decode code 21 = .ok (.bipush 6, 2) := by decide +kernel
theorem d_Law_law_23 : decode code 23 = .ok (.isub, 1) := by decide +kernel
theorem d_Law_law_24 : decode code 24 = .ok (.if_icmp .gt 302, 3) := by decide +kernel
theorem d_Law_law_326 : decode code 326 = .ok (.iconst 1, 1) := by decide +kernel
theorem d_Law_law_327 : decode code 327 = .ok (.ireturn, 1) := by decide +kernel
theorem d_Law_law_27 : decode code 27 = .ok (.aload_n 0, 1) := by decide +kernel
theorem d_Law_law_28 : decode code 28 = .ok (.iload_n 3, 1) := by decide +kernel
theorem d_Law_law_29 : decode code 29 = .ok (.iaload, 1) := by decide +kernel
theorem d_Law_law_30 : decode code 30 = .ok (.bipush 15, 2) := by decide +kernel
theorem d_Law_law_32 : decode code 32 = .ok (.iand, 1) := by decide +kernel
theorem d_Law_law_33 : decode code 33 = .ok (.tableswitch 287 0 9 #[55, 118, 141, 164, 178, 201, 215, 228, 251, 264], 55) := by decide +kernel
theorem d_Law_law_88 : decode code 88 = .ok (.aload_n 1, 1) := by decide +kernel
theorem d_Law_law_89 : decode code 89 = .ok (.aload_n 0, 1) := by decide +kernel
theorem d_Law_law_90 : decode code 90 = .ok (.iload_n 3, 1) := by decide +kernel
theorem d_Law_law_91 : decode code 91 = .ok (.iconst 1, 1) := by decide +kernel
theorem d_Law_law_92 : decode code 92 = .ok (.iadd, 1) := by decide +kernel
theorem d_Law_law_93 : decode code 93 = .ok (.iaload, 1) := by decide +kernel
theorem d_Law_law_94 : decode code 94 = .ok (.aload_n 0, 1) := by decide +kernel
theorem d_Law_law_95 : decode code 95 = .ok (.iload_n 3, 1) := by decide +kernel
theorem d_Law_law_96 : decode code 96 = .ok (.iconst 2, 1) := by decide +kernel
theorem d_Law_law_97 : decode code 97 = .ok (.iadd, 1) := by decide +kernel
theorem d_Law_law_98 : decode code 98 = .ok (.iaload, 1) := by decide +kernel
theorem d_Law_law_99 : decode code 99 = .ok (.aload_n 0, 1) := by decide +kernel
theorem d_Law_law_100 : decode code 100 = .ok (.iload_n 3, 1) := by decide +kernel
theorem d_Law_law_101 : decode code 101 = .ok (.iconst 3, 1) := by decide +kernel
theorem d_Law_law_102 : decode code 102 = .ok (.iadd, 1) := by decide +kernel
theorem d_Law_law_103 : decode code 103 = .ok (.iaload, 1) := by decide +kernel
theorem d_Law_law_104 : decode code 104 = .ok (.aload_n 0, 1) := by decide +kernel
theorem d_Law_law_105 : decode code 105 = .ok (.iload_n 3, 1) := by decide +kernel
theorem d_Law_law_106 : decode code 106 = .ok (.iconst 4, 1) := by decide +kernel
theorem d_Law_law_107 : decode code 107 = .ok (.iadd, 1) := by decide +kernel
theorem d_Law_law_108 : decode code 108 = .ok (.iaload, 1) := by decide +kernel
theorem d_Law_law_109 : decode code 109 = .ok (.aload_n 0, 1) := by decide +kernel
theorem d_Law_law_110 : decode code 110 = .ok (.iload_n 3, 1) := by decide +kernel
theorem d_Law_law_111 : decode code 111 = .ok (.iconst 5, 1) := by decide +kernel
theorem d_Law_law_112 : decode code 112 = .ok (.iadd, 1) := by decide +kernel
theorem d_Law_law_113 : decode code 113 = .ok (.iaload, 1) := by decide +kernel
theorem d_Law_law_114 : decode code 114 = .ok (.invokevirtual 13, 3) := by decide +kernel
theorem w_526 : (Cond.methodLink "StowTongueLaw" 13 ⟨"StowTongue", "feed", "(IIIII)I"⟩ : Cond) ∈ am_tbl := am_w 526 (by decide +kernel) (by decide +kernel)
set_option maxRecDepth 100000 in
theorem w_529 : (Cond.code ⟨"StowTongue", "feed", "(IIIII)I"⟩ prog_1_method_2_code 6 (some FieldType.int) : Cond) ∈ am_tbl := am_w 529 rfl rfl
theorem l_Law_13 : am_L "StowTongueLaw" 13 5 m_Stow_feed := ⟨Or.inl w_526, w_143, w_529, ⟨by decide, by decide⟩, by decide +kernel, by decide⟩
theorem w_527 : (Cond.instanceMethod ⟨"StowTongue", "feed", "(IIIII)I"⟩ : Cond) ∈ am_tbl := am_w 527 (by decide +kernel) (by decide +kernel)
theorem w_528 : (Cond.selects "StowTongue" ⟨"StowTongue", "feed", "(IIIII)I"⟩ ⟨"StowTongue", "feed", "(IIIII)I"⟩ : Cond) ∈ am_tbl := am_w 528 (by decide +kernel) (by decide +kernel)
theorem d_Law_law_117 : decode code 117 = .ok (.aload_n 2, 1) := by decide +kernel
theorem d_Law_law_118 : decode code 118 = .ok (.aload_n 0, 1) := by decide +kernel
theorem d_Law_law_119 : decode code 119 = .ok (.iload_n 3, 1) := by decide +kernel
theorem d_Law_law_120 : decode code 120 = .ok (.iconst 1, 1) := by decide +kernel
theorem d_Law_law_121 : decode code 121 = .ok (.iadd, 1) := by decide +kernel
theorem d_Law_law_122 : decode code 122 = .ok (.iaload, 1) := by decide +kernel
theorem d_Law_law_123 : decode code 123 = .ok (.aload_n 0, 1) := by decide +kernel
theorem d_Law_law_124 : decode code 124 = .ok (.iload_n 3, 1) := by decide +kernel
theorem d_Law_law_125 : decode code 125 = .ok (.iconst 2, 1) := by decide +kernel
theorem d_Law_law_126 : decode code 126 = .ok (.iadd, 1) := by decide +kernel
theorem d_Law_law_127 : decode code 127 = .ok (.iaload, 1) := by decide +kernel
theorem d_Law_law_128 : decode code 128 = .ok (.aload_n 0, 1) := by decide +kernel
theorem d_Law_law_129 : decode code 129 = .ok (.iload_n 3, 1) := by decide +kernel
theorem d_Law_law_130 : decode code 130 = .ok (.iconst 3, 1) := by decide +kernel
theorem d_Law_law_131 : decode code 131 = .ok (.iadd, 1) := by decide +kernel
theorem d_Law_law_132 : decode code 132 = .ok (.iaload, 1) := by decide +kernel
theorem d_Law_law_133 : decode code 133 = .ok (.aload_n 0, 1) := by decide +kernel
theorem d_Law_law_134 : decode code 134 = .ok (.iload_n 3, 1) := by decide +kernel
theorem d_Law_law_135 : decode code 135 = .ok (.iconst 4, 1) := by decide +kernel
theorem d_Law_law_136 : decode code 136 = .ok (.iadd, 1) := by decide +kernel
theorem d_Law_law_137 : decode code 137 = .ok (.iaload, 1) := by decide +kernel
theorem d_Law_law_138 : decode code 138 = .ok (.aload_n 0, 1) := by decide +kernel
theorem d_Law_law_139 : decode code 139 = .ok (.iload_n 3, 1) := by decide +kernel
theorem d_Law_law_140 : decode code 140 = .ok (.iconst 5, 1) := by decide +kernel
theorem d_Law_law_141 : decode code 141 = .ok (.iadd, 1) := by decide +kernel
theorem d_Law_law_142 : decode code 142 = .ok (.iaload, 1) := by decide +kernel
theorem d_Law_law_143 : decode code 143 = .ok (.invokevirtual 17, 3) := by decide +kernel
theorem w_1782 : (Cond.methodLink "StowTongueLaw" 17 ⟨"StowTongueModel", "feed", "(IIIII)I"⟩ : Cond) ∈ am_tbl := am_w 1782 (by decide +kernel) (by decide +kernel)
set_option maxRecDepth 100000 in
theorem w_1785 : (Cond.code ⟨"StowTongueModel", "feed", "(IIIII)I"⟩ prog_13_method_36_code 8 (some FieldType.int) : Cond) ∈ am_tbl := am_w 1785 rfl rfl
theorem l_Law_17 : am_L "StowTongueLaw" 17 5 m_Mod_feed := ⟨Or.inl w_1782, w_160, w_1785, ⟨by decide, by decide⟩, by decide +kernel, by decide⟩
theorem w_1783 : (Cond.instanceMethod ⟨"StowTongueModel", "feed", "(IIIII)I"⟩ : Cond) ∈ am_tbl := am_w 1783 (by decide +kernel) (by decide +kernel)
theorem w_1784 : (Cond.selects "StowTongueModel" ⟨"StowTongueModel", "feed", "(IIIII)I"⟩ ⟨"StowTongueModel", "feed", "(IIIII)I"⟩ : Cond) ∈ am_tbl := am_w 1784 (by decide +kernel) (by decide +kernel)
theorem d_Law_law_146 : decode code 146 = .ok (.if_icmp .eq 174, 3) := by decide +kernel
theorem d_Law_law_320 : decode code 320 = .ok (.iinc 3 6, 3) := by decide +kernel
theorem d_Law_law_323 : decode code 323 = .ok (.goto (-305), 3) := by decide +kernel
theorem d_Law_law_149 : decode code 149 = .ok (.iconst 0, 1) := by decide +kernel
theorem d_Law_law_150 : decode code 150 = .ok (.ireturn, 1) := by decide +kernel
theorem d_Law_law_151 : decode code 151 = .ok (.aload_n 1, 1) := by decide +kernel
theorem d_Law_law_152 : decode code 152 = .ok (.aload_n 0, 1) := by decide +kernel
theorem d_Law_law_153 : decode code 153 = .ok (.iload_n 3, 1) := by decide +kernel
theorem d_Law_law_154 : decode code 154 = .ok (.iconst 1, 1) := by decide +kernel
theorem d_Law_law_155 : decode code 155 = .ok (.iadd, 1) := by decide +kernel
theorem d_Law_law_156 : decode code 156 = .ok (.iaload, 1) := by decide +kernel
theorem d_Law_law_157 : decode code 157 = .ok (.invokevirtual 18, 3) := by decide +kernel
theorem w_534 : (Cond.methodLink "StowTongueLaw" 18 ⟨"StowTongue", "end", "(I)I"⟩ : Cond) ∈ am_tbl := am_w 534 (by decide +kernel) (by decide +kernel)
set_option maxRecDepth 100000 in
theorem w_537 : (Cond.code ⟨"StowTongue", "end", "(I)I"⟩ prog_1_method_4_code 2 (some FieldType.int) : Cond) ∈ am_tbl := am_w 537 rfl rfl
theorem l_Law_18 : am_L "StowTongueLaw" 18 1 m_Stow_end := ⟨Or.inl w_534, w_143, w_537, ⟨by decide, by decide⟩, by decide +kernel, by decide⟩
theorem w_535 : (Cond.instanceMethod ⟨"StowTongue", "end", "(I)I"⟩ : Cond) ∈ am_tbl := am_w 535 (by decide +kernel) (by decide +kernel)
theorem w_536 : (Cond.selects "StowTongue" ⟨"StowTongue", "end", "(I)I"⟩ ⟨"StowTongue", "end", "(I)I"⟩ : Cond) ∈ am_tbl := am_w 536 (by decide +kernel) (by decide +kernel)
theorem d_Law_law_160 : decode code 160 = .ok (.aload_n 2, 1) := by decide +kernel
theorem d_Law_law_161 : decode code 161 = .ok (.aload_n 0, 1) := by decide +kernel
theorem d_Law_law_162 : decode code 162 = .ok (.iload_n 3, 1) := by decide +kernel
theorem d_Law_law_163 : decode code 163 = .ok (.iconst 1, 1) := by decide +kernel
theorem d_Law_law_164 : decode code 164 = .ok (.iadd, 1) := by decide +kernel
theorem d_Law_law_165 : decode code 165 = .ok (.iaload, 1) := by decide +kernel
theorem d_Law_law_166 : decode code 166 = .ok (.invokevirtual 22, 3) := by decide +kernel
theorem w_1786 : (Cond.methodLink "StowTongueLaw" 22 ⟨"StowTongueModel", "end", "(I)I"⟩ : Cond) ∈ am_tbl := am_w 1786 (by decide +kernel) (by decide +kernel)
set_option maxRecDepth 100000 in
theorem w_1789 : (Cond.code ⟨"StowTongueModel", "end", "(I)I"⟩ prog_13_method_37_code 2 (some FieldType.int) : Cond) ∈ am_tbl := am_w 1789 rfl rfl
theorem l_Law_22 : am_L "StowTongueLaw" 22 1 m_Mod_end := ⟨Or.inl w_1786, w_160, w_1789, ⟨by decide, by decide⟩, by decide +kernel, by decide⟩
theorem w_1787 : (Cond.instanceMethod ⟨"StowTongueModel", "end", "(I)I"⟩ : Cond) ∈ am_tbl := am_w 1787 (by decide +kernel) (by decide +kernel)
theorem w_1788 : (Cond.selects "StowTongueModel" ⟨"StowTongueModel", "end", "(I)I"⟩ ⟨"StowTongueModel", "end", "(I)I"⟩ : Cond) ∈ am_tbl := am_w 1788 (by decide +kernel) (by decide +kernel)
theorem d_Law_law_169 : decode code 169 = .ok (.if_icmp .eq 151, 3) := by decide +kernel
theorem d_Law_law_172 : decode code 172 = .ok (.iconst 0, 1) := by decide +kernel
theorem d_Law_law_173 : decode code 173 = .ok (.ireturn, 1) := by decide +kernel
theorem d_Law_law_174 : decode code 174 = .ok (.aload_n 1, 1) := by decide +kernel
theorem d_Law_law_175 : decode code 175 = .ok (.aload_n 0, 1) := by decide +kernel
theorem d_Law_law_176 : decode code 176 = .ok (.iload_n 3, 1) := by decide +kernel
theorem d_Law_law_177 : decode code 177 = .ok (.iconst 1, 1) := by decide +kernel
theorem d_Law_law_178 : decode code 178 = .ok (.iadd, 1) := by decide +kernel
theorem d_Law_law_179 : decode code 179 = .ok (.iaload, 1) := by decide +kernel
theorem d_Law_law_180 : decode code 180 = .ok (.invokevirtual 23, 3) := by decide +kernel
theorem w_538 : (Cond.methodLink "StowTongueLaw" 23 ⟨"StowTongue", "run", "(I)I"⟩ : Cond) ∈ am_tbl := am_w 538 (by decide +kernel) (by decide +kernel)
set_option maxRecDepth 100000 in
theorem w_541 : (Cond.code ⟨"StowTongue", "run", "(I)I"⟩ prog_1_method_5_code 5 (some FieldType.int) : Cond) ∈ am_tbl := am_w 541 rfl rfl
theorem l_Law_23 : am_L "StowTongueLaw" 23 1 m_Stow_run := ⟨Or.inl w_538, w_143, w_541, ⟨by decide, by decide⟩, by decide +kernel, by decide⟩
theorem w_539 : (Cond.instanceMethod ⟨"StowTongue", "run", "(I)I"⟩ : Cond) ∈ am_tbl := am_w 539 (by decide +kernel) (by decide +kernel)
theorem w_540 : (Cond.selects "StowTongue" ⟨"StowTongue", "run", "(I)I"⟩ ⟨"StowTongue", "run", "(I)I"⟩ : Cond) ∈ am_tbl := am_w 540 (by decide +kernel) (by decide +kernel)
theorem d_Law_law_183 : decode code 183 = .ok (.aload_n 2, 1) := by decide +kernel
theorem d_Law_law_184 : decode code 184 = .ok (.aload_n 0, 1) := by decide +kernel
theorem d_Law_law_185 : decode code 185 = .ok (.iload_n 3, 1) := by decide +kernel
theorem d_Law_law_186 : decode code 186 = .ok (.iconst 1, 1) := by decide +kernel
theorem d_Law_law_187 : decode code 187 = .ok (.iadd, 1) := by decide +kernel
theorem d_Law_law_188 : decode code 188 = .ok (.iaload, 1) := by decide +kernel
theorem d_Law_law_189 : decode code 189 = .ok (.invokevirtual 26, 3) := by decide +kernel
theorem w_1793 : (Cond.methodLink "StowTongueLaw" 26 ⟨"StowTongueModel", "run", "(I)I"⟩ : Cond) ∈ am_tbl := am_w 1793 (by decide +kernel) (by decide +kernel)
set_option maxRecDepth 100000 in
theorem w_1796 : (Cond.code ⟨"StowTongueModel", "run", "(I)I"⟩ prog_13_method_42_code 6 (some FieldType.int) : Cond) ∈ am_tbl := am_w 1796 rfl rfl
theorem l_Law_26 : am_L "StowTongueLaw" 26 1 m_Mod_run := ⟨Or.inl w_1793, w_160, w_1796, ⟨by decide, by decide⟩, by decide +kernel, by decide⟩
theorem w_1794 : (Cond.instanceMethod ⟨"StowTongueModel", "run", "(I)I"⟩ : Cond) ∈ am_tbl := am_w 1794 (by decide +kernel) (by decide +kernel)
theorem w_1795 : (Cond.selects "StowTongueModel" ⟨"StowTongueModel", "run", "(I)I"⟩ ⟨"StowTongueModel", "run", "(I)I"⟩ : Cond) ∈ am_tbl := am_w 1795 (by decide +kernel) (by decide +kernel)
theorem d_Law_law_192 : decode code 192 = .ok (.if_icmp .eq 128, 3) := by decide +kernel
theorem d_Law_law_195 : decode code 195 = .ok (.iconst 0, 1) := by decide +kernel
theorem d_Law_law_196 : decode code 196 = .ok (.ireturn, 1) := by decide +kernel
theorem d_Law_law_197 : decode code 197 = .ok (.aload_n 1, 1) := by decide +kernel
theorem d_Law_law_198 : decode code 198 = .ok (.invokevirtual 27, 3) := by decide +kernel
theorem w_1370 : (Cond.methodLink "StowTongueLaw" 27 ⟨"StowTongue", "value", "()J"⟩ : Cond) ∈ am_tbl := am_w 1370 (by decide +kernel) (by decide +kernel)
set_option maxRecDepth 100000 in
theorem w_1373 : (Cond.code ⟨"StowTongue", "value", "()J"⟩ prog_1_method_7_code 1 (some FieldType.long) : Cond) ∈ am_tbl := am_w 1373 rfl rfl
theorem l_Law_27 : am_L "StowTongueLaw" 27 0 m_Stow_value := ⟨Or.inl w_1370, w_143, w_1373, ⟨by decide, by decide⟩, by decide +kernel, by decide⟩
theorem w_1371 : (Cond.instanceMethod ⟨"StowTongue", "value", "()J"⟩ : Cond) ∈ am_tbl := am_w 1371 (by decide +kernel) (by decide +kernel)
theorem w_1372 : (Cond.selects "StowTongue" ⟨"StowTongue", "value", "()J"⟩ ⟨"StowTongue", "value", "()J"⟩ : Cond) ∈ am_tbl := am_w 1372 (by decide +kernel) (by decide +kernel)
theorem d_Law_law_201 : decode code 201 = .ok (.aload_n 2, 1) := by decide +kernel
theorem d_Law_law_202 : decode code 202 = .ok (.invokevirtual 31, 3) := by decide +kernel
theorem w_2161 : (Cond.methodLink "StowTongueLaw" 31 ⟨"StowTongueModel", "value", "()J"⟩ : Cond) ∈ am_tbl := am_w 2161 (by decide +kernel) (by decide +kernel)
set_option maxRecDepth 100000 in
theorem w_2164 : (Cond.code ⟨"StowTongueModel", "value", "()J"⟩ prog_13_method_71_code 2 (some FieldType.long) : Cond) ∈ am_tbl := am_w 2164 rfl rfl
theorem l_Law_31 : am_L "StowTongueLaw" 31 0 m_Mod_value_ := ⟨Or.inl w_2161, w_160, w_2164, ⟨by decide, by decide⟩, by decide +kernel, by decide⟩
theorem w_2162 : (Cond.instanceMethod ⟨"StowTongueModel", "value", "()J"⟩ : Cond) ∈ am_tbl := am_w 2162 (by decide +kernel) (by decide +kernel)
theorem w_2163 : (Cond.selects "StowTongueModel" ⟨"StowTongueModel", "value", "()J"⟩ ⟨"StowTongueModel", "value", "()J"⟩ : Cond) ∈ am_tbl := am_w 2163 (by decide +kernel) (by decide +kernel)
theorem d_Law_law_205 : decode code 205 = .ok (.lcmp, 1) := by decide +kernel
theorem d_Law_law_206 : decode code 206 = .ok (.ifCond .eq 114, 3) := by decide +kernel
theorem d_Law_law_209 : decode code 209 = .ok (.iconst 0, 1) := by decide +kernel
theorem d_Law_law_210 : decode code 210 = .ok (.ireturn, 1) := by decide +kernel
theorem d_Law_law_211 : decode code 211 = .ok (.aload_n 1, 1) := by decide +kernel
theorem d_Law_law_212 : decode code 212 = .ok (.aload_n 0, 1) := by decide +kernel
theorem d_Law_law_213 : decode code 213 = .ok (.iload_n 3, 1) := by decide +kernel
theorem d_Law_law_214 : decode code 214 = .ok (.iconst 1, 1) := by decide +kernel
theorem d_Law_law_215 : decode code 215 = .ok (.iadd, 1) := by decide +kernel
theorem d_Law_law_216 : decode code 216 = .ok (.iaload, 1) := by decide +kernel
theorem d_Law_law_217 : decode code 217 = .ok (.invokevirtual 32, 3) := by decide +kernel
theorem w_1383 : (Cond.methodLink "StowTongueLaw" 32 ⟨"StowTongue", "octet", "(I)I"⟩ : Cond) ∈ am_tbl := am_w 1383 (by decide +kernel) (by decide +kernel)
set_option maxRecDepth 100000 in
theorem w_1386 : (Cond.code ⟨"StowTongue", "octet", "(I)I"⟩ prog_1_method_9_code 2 (some FieldType.int) : Cond) ∈ am_tbl := am_w 1386 rfl rfl
theorem l_Law_32 : am_L "StowTongueLaw" 32 1 m_Stow_octet := ⟨Or.inl w_1383, w_143, w_1386, ⟨by decide, by decide⟩, by decide +kernel, by decide⟩
theorem w_1384 : (Cond.instanceMethod ⟨"StowTongue", "octet", "(I)I"⟩ : Cond) ∈ am_tbl := am_w 1384 (by decide +kernel) (by decide +kernel)
theorem w_1385 : (Cond.selects "StowTongue" ⟨"StowTongue", "octet", "(I)I"⟩ ⟨"StowTongue", "octet", "(I)I"⟩ : Cond) ∈ am_tbl := am_w 1385 (by decide +kernel) (by decide +kernel)
theorem d_Law_law_220 : decode code 220 = .ok (.aload_n 2, 1) := by decide +kernel
theorem d_Law_law_221 : decode code 221 = .ok (.aload_n 0, 1) := by decide +kernel
theorem d_Law_law_222 : decode code 222 = .ok (.iload_n 3, 1) := by decide +kernel
theorem d_Law_law_223 : decode code 223 = .ok (.iconst 1, 1) := by decide +kernel
theorem d_Law_law_224 : decode code 224 = .ok (.iadd, 1) := by decide +kernel
theorem d_Law_law_225 : decode code 225 = .ok (.iaload, 1) := by decide +kernel
theorem d_Law_law_226 : decode code 226 = .ok (.invokevirtual 35, 3) := by decide +kernel
theorem w_2168 : (Cond.methodLink "StowTongueLaw" 35 ⟨"StowTongueModel", "octet", "(I)I"⟩ : Cond) ∈ am_tbl := am_w 2168 (by decide +kernel) (by decide +kernel)
set_option maxRecDepth 100000 in
theorem w_2171 : (Cond.code ⟨"StowTongueModel", "octet", "(I)I"⟩ prog_13_method_72_code 2 (some FieldType.int) : Cond) ∈ am_tbl := am_w 2171 rfl rfl
theorem l_Law_35 : am_L "StowTongueLaw" 35 1 m_Mod_octet := ⟨Or.inl w_2168, w_160, w_2171, ⟨by decide, by decide⟩, by decide +kernel, by decide⟩
theorem w_2169 : (Cond.instanceMethod ⟨"StowTongueModel", "octet", "(I)I"⟩ : Cond) ∈ am_tbl := am_w 2169 (by decide +kernel) (by decide +kernel)
theorem w_2170 : (Cond.selects "StowTongueModel" ⟨"StowTongueModel", "octet", "(I)I"⟩ ⟨"StowTongueModel", "octet", "(I)I"⟩ : Cond) ∈ am_tbl := am_w 2170 (by decide +kernel) (by decide +kernel)
theorem d_Law_law_229 : decode code 229 = .ok (.if_icmp .eq 91, 3) := by decide +kernel
theorem d_Law_law_232 : decode code 232 = .ok (.iconst 0, 1) := by decide +kernel
theorem d_Law_law_233 : decode code 233 = .ok (.ireturn, 1) := by decide +kernel
theorem d_Law_law_234 : decode code 234 = .ok (.aload_n 1, 1) := by decide +kernel
theorem d_Law_law_235 : decode code 235 = .ok (.invokevirtual 36, 3) := by decide +kernel
theorem w_1395 : (Cond.methodLink "StowTongueLaw" 36 ⟨"StowTongue", "root", "()J"⟩ : Cond) ∈ am_tbl := am_w 1395 (by decide +kernel) (by decide +kernel)
set_option maxRecDepth 100000 in
theorem w_1398 : (Cond.code ⟨"StowTongue", "root", "()J"⟩ prog_1_method_10_code 11 (some FieldType.long) : Cond) ∈ am_tbl := am_w 1398 rfl rfl
theorem l_Law_36 : am_L "StowTongueLaw" 36 0 m_Stow_root := ⟨Or.inl w_1395, w_143, w_1398, ⟨by decide, by decide⟩, by decide +kernel, by decide⟩
theorem w_1396 : (Cond.instanceMethod ⟨"StowTongue", "root", "()J"⟩ : Cond) ∈ am_tbl := am_w 1396 (by decide +kernel) (by decide +kernel)
theorem w_1397 : (Cond.selects "StowTongue" ⟨"StowTongue", "root", "()J"⟩ ⟨"StowTongue", "root", "()J"⟩ : Cond) ∈ am_tbl := am_w 1397 (by decide +kernel) (by decide +kernel)
theorem d_Law_law_238 : decode code 238 = .ok (.aload_n 2, 1) := by decide +kernel
theorem d_Law_law_239 : decode code 239 = .ok (.invokevirtual 39, 3) := by decide +kernel
theorem w_2173 : (Cond.methodLink "StowTongueLaw" 39 ⟨"StowTongueModel", "root", "()J"⟩ : Cond) ∈ am_tbl := am_w 2173 (by decide +kernel) (by decide +kernel)
set_option maxRecDepth 100000 in
theorem w_2176 : (Cond.code ⟨"StowTongueModel", "root", "()J"⟩ prog_13_method_73_code 6 (some FieldType.long) : Cond) ∈ am_tbl := am_w 2176 rfl rfl
theorem l_Law_39 : am_L "StowTongueLaw" 39 0 m_Mod_root := ⟨Or.inl w_2173, w_160, w_2176, ⟨by decide, by decide⟩, by decide +kernel, by decide⟩
theorem w_2174 : (Cond.instanceMethod ⟨"StowTongueModel", "root", "()J"⟩ : Cond) ∈ am_tbl := am_w 2174 (by decide +kernel) (by decide +kernel)
theorem w_2175 : (Cond.selects "StowTongueModel" ⟨"StowTongueModel", "root", "()J"⟩ ⟨"StowTongueModel", "root", "()J"⟩ : Cond) ∈ am_tbl := am_w 2175 (by decide +kernel) (by decide +kernel)
theorem d_Law_law_242 : decode code 242 = .ok (.lcmp, 1) := by decide +kernel
theorem d_Law_law_243 : decode code 243 = .ok (.ifCond .eq 77, 3) := by decide +kernel
theorem d_Law_law_246 : decode code 246 = .ok (.iconst 0, 1) := by decide +kernel
theorem d_Law_law_247 : decode code 247 = .ok (.ireturn, 1) := by decide +kernel
theorem d_Law_law_248 : decode code 248 = .ok (.aload_n 1, 1) := by decide +kernel
theorem d_Law_law_249 : decode code 249 = .ok (.invokevirtual 40, 3) := by decide +kernel
theorem w_1405 : (Cond.methodLink "StowTongueLaw" 40 ⟨"StowTongue", "sync", "()I"⟩ : Cond) ∈ am_tbl := am_w 1405 (by decide +kernel) (by decide +kernel)
set_option maxRecDepth 100000 in
theorem w_1408 : (Cond.code ⟨"StowTongue", "sync", "()I"⟩ prog_1_method_11_code 2 (some FieldType.int) : Cond) ∈ am_tbl := am_w 1408 rfl rfl
theorem l_Law_40 : am_L "StowTongueLaw" 40 0 m_Stow_sync := ⟨Or.inl w_1405, w_143, w_1408, ⟨by decide, by decide⟩, by decide +kernel, by decide⟩
theorem w_1406 : (Cond.instanceMethod ⟨"StowTongue", "sync", "()I"⟩ : Cond) ∈ am_tbl := am_w 1406 (by decide +kernel) (by decide +kernel)
theorem w_1407 : (Cond.selects "StowTongue" ⟨"StowTongue", "sync", "()I"⟩ ⟨"StowTongue", "sync", "()I"⟩ : Cond) ∈ am_tbl := am_w 1407 (by decide +kernel) (by decide +kernel)
theorem d_Law_law_252 : decode code 252 = .ok (.aload_n 2, 1) := by decide +kernel
theorem d_Law_law_253 : decode code 253 = .ok (.invokevirtual 44, 3) := by decide +kernel
theorem w_2142 : (Cond.methodLink "StowTongueLaw" 44 ⟨"StowTongueModel", "sync", "()I"⟩ : Cond) ∈ am_tbl := am_w 2142 (by decide +kernel) (by decide +kernel)
set_option maxRecDepth 100000 in
theorem w_2145 : (Cond.code ⟨"StowTongueModel", "sync", "()I"⟩ prog_13_method_67_code 2 (some FieldType.int) : Cond) ∈ am_tbl := am_w 2145 rfl rfl
theorem l_Law_44 : am_L "StowTongueLaw" 44 0 m_Mod_sync := ⟨Or.inl w_2142, w_160, w_2145, ⟨by decide, by decide⟩, by decide +kernel, by decide⟩
theorem w_2143 : (Cond.instanceMethod ⟨"StowTongueModel", "sync", "()I"⟩ : Cond) ∈ am_tbl := am_w 2143 (by decide +kernel) (by decide +kernel)
theorem w_2144 : (Cond.selects "StowTongueModel" ⟨"StowTongueModel", "sync", "()I"⟩ ⟨"StowTongueModel", "sync", "()I"⟩ : Cond) ∈ am_tbl := am_w 2144 (by decide +kernel) (by decide +kernel)
theorem d_Law_law_256 : decode code 256 = .ok (.if_icmp .eq 64, 3) := by decide +kernel
theorem d_Law_law_259 : decode code 259 = .ok (.iconst 0, 1) := by decide +kernel
theorem d_Law_law_260 : decode code 260 = .ok (.ireturn, 1) := by decide +kernel
theorem d_Law_law_261 : decode code 261 = .ok (.aload_n 1, 1) := by decide +kernel
theorem d_Law_law_262 : decode code 262 = .ok (.aload_n 0, 1) := by decide +kernel
theorem d_Law_law_263 : decode code 263 = .ok (.iload_n 3, 1) := by decide +kernel
theorem d_Law_law_264 : decode code 264 = .ok (.iconst 1, 1) := by decide +kernel
theorem d_Law_law_265 : decode code 265 = .ok (.iadd, 1) := by decide +kernel
theorem d_Law_law_266 : decode code 266 = .ok (.iaload, 1) := by decide +kernel
theorem d_Law_law_267 : decode code 267 = .ok (.invokevirtual 45, 3) := by decide +kernel
theorem w_1414 : (Cond.methodLink "StowTongueLaw" 45 ⟨"StowTongue", "crash", "(I)I"⟩ : Cond) ∈ am_tbl := am_w 1414 (by decide +kernel) (by decide +kernel)
set_option maxRecDepth 100000 in
theorem w_1417 : (Cond.code ⟨"StowTongue", "crash", "(I)I"⟩ prog_1_method_12_code 3 (some FieldType.int) : Cond) ∈ am_tbl := am_w 1417 rfl rfl
theorem l_Law_45 : am_L "StowTongueLaw" 45 1 m_Stow_crash := ⟨Or.inl w_1414, w_143, w_1417, ⟨by decide, by decide⟩, by decide +kernel, by decide⟩
theorem w_1415 : (Cond.instanceMethod ⟨"StowTongue", "crash", "(I)I"⟩ : Cond) ∈ am_tbl := am_w 1415 (by decide +kernel) (by decide +kernel)
theorem w_1416 : (Cond.selects "StowTongue" ⟨"StowTongue", "crash", "(I)I"⟩ ⟨"StowTongue", "crash", "(I)I"⟩ : Cond) ∈ am_tbl := am_w 1416 (by decide +kernel) (by decide +kernel)
theorem d_Law_law_270 : decode code 270 = .ok (.aload_n 2, 1) := by decide +kernel
theorem d_Law_law_271 : decode code 271 = .ok (.aload_n 0, 1) := by decide +kernel
theorem d_Law_law_272 : decode code 272 = .ok (.iload_n 3, 1) := by decide +kernel
theorem d_Law_law_273 : decode code 273 = .ok (.iconst 1, 1) := by decide +kernel
theorem d_Law_law_274 : decode code 274 = .ok (.iadd, 1) := by decide +kernel
theorem d_Law_law_275 : decode code 275 = .ok (.iaload, 1) := by decide +kernel
theorem d_Law_law_276 : decode code 276 = .ok (.invokevirtual 48, 3) := by decide +kernel
theorem w_2146 : (Cond.methodLink "StowTongueLaw" 48 ⟨"StowTongueModel", "crash", "(I)I"⟩ : Cond) ∈ am_tbl := am_w 2146 (by decide +kernel) (by decide +kernel)
set_option maxRecDepth 100000 in
theorem w_2149 : (Cond.code ⟨"StowTongueModel", "crash", "(I)I"⟩ prog_13_method_68_code 5 (some FieldType.int) : Cond) ∈ am_tbl := am_w 2149 rfl rfl
theorem l_Law_48 : am_L "StowTongueLaw" 48 1 m_Mod_crash := ⟨Or.inl w_2146, w_160, w_2149, ⟨by decide, by decide⟩, by decide +kernel, by decide⟩
theorem w_2147 : (Cond.instanceMethod ⟨"StowTongueModel", "crash", "(I)I"⟩ : Cond) ∈ am_tbl := am_w 2147 (by decide +kernel) (by decide +kernel)
theorem w_2148 : (Cond.selects "StowTongueModel" ⟨"StowTongueModel", "crash", "(I)I"⟩ ⟨"StowTongueModel", "crash", "(I)I"⟩ : Cond) ∈ am_tbl := am_w 2148 (by decide +kernel) (by decide +kernel)
theorem d_Law_law_279 : decode code 279 = .ok (.if_icmp .eq 41, 3) := by decide +kernel
theorem d_Law_law_282 : decode code 282 = .ok (.iconst 0, 1) := by decide +kernel
theorem d_Law_law_283 : decode code 283 = .ok (.ireturn, 1) := by decide +kernel
theorem d_Law_law_284 : decode code 284 = .ok (.aload_n 1, 1) := by decide +kernel
theorem d_Law_law_285 : decode code 285 = .ok (.invokevirtual 49, 3) := by decide +kernel
theorem w_1426 : (Cond.methodLink "StowTongueLaw" 49 ⟨"StowTongue", "sweep", "()I"⟩ : Cond) ∈ am_tbl := am_w 1426 (by decide +kernel) (by decide +kernel)
set_option maxRecDepth 100000 in
theorem w_1429 : (Cond.code ⟨"StowTongue", "sweep", "()I"⟩ prog_1_method_13_code 3 (some FieldType.int) : Cond) ∈ am_tbl := am_w 1429 rfl rfl
theorem l_Law_49 : am_L "StowTongueLaw" 49 0 m_Stow_sweep := ⟨Or.inl w_1426, w_143, w_1429, ⟨by decide, by decide⟩, by decide +kernel, by decide⟩
theorem w_1427 : (Cond.instanceMethod ⟨"StowTongue", "sweep", "()I"⟩ : Cond) ∈ am_tbl := am_w 1427 (by decide +kernel) (by decide +kernel)
theorem w_1428 : (Cond.selects "StowTongue" ⟨"StowTongue", "sweep", "()I"⟩ ⟨"StowTongue", "sweep", "()I"⟩ : Cond) ∈ am_tbl := am_w 1428 (by decide +kernel) (by decide +kernel)
theorem d_Law_law_288 : decode code 288 = .ok (.aload_n 2, 1) := by decide +kernel
theorem d_Law_law_289 : decode code 289 = .ok (.invokevirtual 52, 3) := by decide +kernel
theorem w_2150 : (Cond.methodLink "StowTongueLaw" 52 ⟨"StowTongueModel", "sweep", "()I"⟩ : Cond) ∈ am_tbl := am_w 2150 (by decide +kernel) (by decide +kernel)
set_option maxRecDepth 100000 in
theorem w_2153 : (Cond.code ⟨"StowTongueModel", "sweep", "()I"⟩ prog_13_method_70_code 4 (some FieldType.int) : Cond) ∈ am_tbl := am_w 2153 rfl rfl
theorem l_Law_52 : am_L "StowTongueLaw" 52 0 m_Mod_sweep := ⟨Or.inl w_2150, w_160, w_2153, ⟨by decide, by decide⟩, by decide +kernel, by decide⟩
theorem w_2151 : (Cond.instanceMethod ⟨"StowTongueModel", "sweep", "()I"⟩ : Cond) ∈ am_tbl := am_w 2151 (by decide +kernel) (by decide +kernel)
theorem w_2152 : (Cond.selects "StowTongueModel" ⟨"StowTongueModel", "sweep", "()I"⟩ ⟨"StowTongueModel", "sweep", "()I"⟩ : Cond) ∈ am_tbl := am_w 2152 (by decide +kernel) (by decide +kernel)
theorem d_Law_law_292 : decode code 292 = .ok (.if_icmp .eq 28, 3) := by decide +kernel
theorem d_Law_law_295 : decode code 295 = .ok (.iconst 0, 1) := by decide +kernel
theorem d_Law_law_296 : decode code 296 = .ok (.ireturn, 1) := by decide +kernel
theorem d_Law_law_297 : decode code 297 = .ok (.aload_n 1, 1) := by decide +kernel
theorem d_Law_law_298 : decode code 298 = .ok (.aload_n 0, 1) := by decide +kernel
theorem d_Law_law_299 : decode code 299 = .ok (.iload_n 3, 1) := by decide +kernel
theorem d_Law_law_300 : decode code 300 = .ok (.iconst 1, 1) := by decide +kernel
theorem d_Law_law_301 : decode code 301 = .ok (.iadd, 1) := by decide +kernel
theorem d_Law_law_302 : decode code 302 = .ok (.iaload, 1) := by decide +kernel
theorem d_Law_law_303 : decode code 303 = .ok (.invokevirtual 53, 3) := by decide +kernel
theorem w_1461 : (Cond.methodLink "StowTongueLaw" 53 ⟨"StowTongue", "count", "(I)I"⟩ : Cond) ∈ am_tbl := am_w 1461 (by decide +kernel) (by decide +kernel)
set_option maxRecDepth 100000 in
theorem w_1464 : (Cond.code ⟨"StowTongue", "count", "(I)I"⟩ prog_1_method_14_code 3 (some FieldType.int) : Cond) ∈ am_tbl := am_w 1464 rfl rfl
theorem l_Law_53 : am_L "StowTongueLaw" 53 1 m_Stow_count := ⟨Or.inl w_1461, w_143, w_1464, ⟨by decide, by decide⟩, by decide +kernel, by decide⟩
theorem w_1462 : (Cond.instanceMethod ⟨"StowTongue", "count", "(I)I"⟩ : Cond) ∈ am_tbl := am_w 1462 (by decide +kernel) (by decide +kernel)
theorem w_1463 : (Cond.selects "StowTongue" ⟨"StowTongue", "count", "(I)I"⟩ ⟨"StowTongue", "count", "(I)I"⟩ : Cond) ∈ am_tbl := am_w 1463 (by decide +kernel) (by decide +kernel)
theorem d_Law_law_306 : decode code 306 = .ok (.aload_n 2, 1) := by decide +kernel
theorem d_Law_law_307 : decode code 307 = .ok (.aload_n 0, 1) := by decide +kernel
theorem d_Law_law_308 : decode code 308 = .ok (.iload_n 3, 1) := by decide +kernel
theorem d_Law_law_309 : decode code 309 = .ok (.iconst 1, 1) := by decide +kernel
theorem d_Law_law_310 : decode code 310 = .ok (.iadd, 1) := by decide +kernel
theorem d_Law_law_311 : decode code 311 = .ok (.iaload, 1) := by decide +kernel
theorem d_Law_law_312 : decode code 312 = .ok (.invokevirtual 56, 3) := by decide +kernel
theorem w_2177 : (Cond.methodLink "StowTongueLaw" 56 ⟨"StowTongueModel", "count", "(I)I"⟩ : Cond) ∈ am_tbl := am_w 2177 (by decide +kernel) (by decide +kernel)
set_option maxRecDepth 100000 in
theorem w_2180 : (Cond.code ⟨"StowTongueModel", "count", "(I)I"⟩ prog_13_method_74_code 4 (some FieldType.int) : Cond) ∈ am_tbl := am_w 2180 rfl rfl
theorem l_Law_56 : am_L "StowTongueLaw" 56 1 m_Mod_count := ⟨Or.inl w_2177, w_160, w_2180, ⟨by decide, by decide⟩, by decide +kernel, by decide⟩
theorem w_2178 : (Cond.instanceMethod ⟨"StowTongueModel", "count", "(I)I"⟩ : Cond) ∈ am_tbl := am_w 2178 (by decide +kernel) (by decide +kernel)
theorem w_2179 : (Cond.selects "StowTongueModel" ⟨"StowTongueModel", "count", "(I)I"⟩ ⟨"StowTongueModel", "count", "(I)I"⟩ : Cond) ∈ am_tbl := am_w 2179 (by decide +kernel) (by decide +kernel)
theorem d_Law_law_315 : decode code 315 = .ok (.if_icmp .eq 5, 3) := by decide +kernel
theorem d_Law_law_318 : decode code 318 = .ok (.iconst 0, 1) := by decide +kernel
theorem d_Law_law_319 : decode code 319 = .ok (.ireturn, 1) := by decide +kernel
