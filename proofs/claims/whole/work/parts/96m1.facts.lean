abbrev m_Mach_doObject : am_M := (⟨"StowTongue$Machine", "doObject", "(II)V"⟩, prog_6_method_30_code, 3, none)
theorem d_Mach_doObject_0 : decode prog_6_method_30_code 0 = .ok (.iload_n 1, 1) := by decide +kernel
theorem d_Mach_doObject_1 : decode prog_6_method_30_code 1 = .ok (.tableswitch 61 21 24 #[31, 39, 47, 54], 31) := by decide +kernel
theorem d_Mach_doObject_32 : decode prog_6_method_30_code 32 = .ok (.aload_n 0, 1) := by decide +kernel
theorem d_Mach_doObject_33 : decode prog_6_method_30_code 33 = .ok (.iload_n 2, 1) := by decide +kernel
theorem d_Mach_doObject_34 : decode prog_6_method_30_code 34 = .ok (.invokevirtual 260, 3) := by decide +kernel
theorem w_1269 : (Cond.methodLink "StowTongue$Machine" 260 ⟨"StowTongue$Machine", "makeRecord", "(I)V"⟩ : Cond) ∈ am_tbl := am_w 1269 (by decide +kernel) (by decide +kernel)
set_option maxRecDepth 100000 in
theorem w_1272 : (Cond.code ⟨"StowTongue$Machine", "makeRecord", "(I)V"⟩ prog_6_method_31_code 5 none : Cond) ∈ am_tbl := am_w 1272 rfl rfl
theorem l_Mach_260 : am_L "StowTongue$Machine" 260 1 m_Mach_makeRecord := ⟨Or.inl w_1269, w_157, w_1272, ⟨by decide, by decide⟩, by decide +kernel, by decide⟩
theorem w_1271 : (Cond.instanceMethod ⟨"StowTongue$Machine", "makeRecord", "(I)V"⟩ : Cond) ∈ am_tbl := am_w 1271 (by decide +kernel) (by decide +kernel)
theorem w_67 : (Cond.selects "StowTongue$Machine" ⟨"StowTongue$Machine", "makeRecord", "(I)V"⟩ ⟨"StowTongue$Machine", "makeRecord", "(I)V"⟩ : Cond) ∈ am_tbl := am_w 67 (by decide +kernel) (by decide +kernel)
theorem d_Mach_doObject_37 : decode prog_6_method_30_code 37 = .ok (.goto 29, 3) := by decide +kernel
theorem d_Mach_doObject_66 : decode prog_6_method_30_code 66 = .ok (.return_, 1) := by decide +kernel
theorem d_Mach_doObject_40 : decode prog_6_method_30_code 40 = .ok (.aload_n 0, 1) := by decide +kernel
theorem d_Mach_doObject_41 : decode prog_6_method_30_code 41 = .ok (.iload_n 2, 1) := by decide +kernel
theorem d_Mach_doObject_42 : decode prog_6_method_30_code 42 = .ok (.invokevirtual 263, 3) := by decide +kernel
theorem w_1277 : (Cond.methodLink "StowTongue$Machine" 263 ⟨"StowTongue$Machine", "makeRow", "(I)V"⟩ : Cond) ∈ am_tbl := am_w 1277 (by decide +kernel) (by decide +kernel)
set_option maxRecDepth 100000 in
theorem w_1280 : (Cond.code ⟨"StowTongue$Machine", "makeRow", "(I)V"⟩ prog_6_method_32_code 5 none : Cond) ∈ am_tbl := am_w 1280 rfl rfl
theorem l_Mach_263 : am_L "StowTongue$Machine" 263 1 m_Mach_makeRow := ⟨Or.inl w_1277, w_157, w_1280, ⟨by decide, by decide⟩, by decide +kernel, by decide⟩
theorem w_1279 : (Cond.instanceMethod ⟨"StowTongue$Machine", "makeRow", "(I)V"⟩ : Cond) ∈ am_tbl := am_w 1279 (by decide +kernel) (by decide +kernel)
theorem w_68 : (Cond.selects "StowTongue$Machine" ⟨"StowTongue$Machine", "makeRow", "(I)V"⟩ ⟨"StowTongue$Machine", "makeRow", "(I)V"⟩ : Cond) ∈ am_tbl := am_w 68 (by decide +kernel) (by decide +kernel)
theorem d_Mach_doObject_45 : decode prog_6_method_30_code 45 = .ok (.goto 21, 3) := by decide +kernel
theorem d_Mach_doObject_48 : decode prog_6_method_30_code 48 = .ok (.aload_n 0, 1) := by decide +kernel
theorem d_Mach_doObject_49 : decode prog_6_method_30_code 49 = .ok (.invokevirtual 266, 3) := by decide +kernel
theorem w_1282 : (Cond.methodLink "StowTongue$Machine" 266 ⟨"StowTongue$Machine", "size", "()V"⟩ : Cond) ∈ am_tbl := am_w 1282 (by decide +kernel) (by decide +kernel)
set_option maxRecDepth 100000 in
theorem w_1285 : (Cond.code ⟨"StowTongue$Machine", "size", "()V"⟩ prog_6_method_33_code 2 none : Cond) ∈ am_tbl := am_w 1285 rfl rfl
theorem l_Mach_266 : am_L "StowTongue$Machine" 266 0 m_Mach_size := ⟨Or.inl w_1282, w_157, w_1285, ⟨by decide, by decide⟩, by decide +kernel, by decide⟩
theorem w_1284 : (Cond.instanceMethod ⟨"StowTongue$Machine", "size", "()V"⟩ : Cond) ∈ am_tbl := am_w 1284 (by decide +kernel) (by decide +kernel)
theorem w_69 : (Cond.selects "StowTongue$Machine" ⟨"StowTongue$Machine", "size", "()V"⟩ ⟨"StowTongue$Machine", "size", "()V"⟩ : Cond) ∈ am_tbl := am_w 69 (by decide +kernel) (by decide +kernel)
theorem d_Mach_doObject_52 : decode prog_6_method_30_code 52 = .ok (.goto 14, 3) := by decide +kernel
theorem d_Mach_doObject_55 : decode prog_6_method_30_code 55 = .ok (.aload_n 0, 1) := by decide +kernel
theorem d_Mach_doObject_56 : decode prog_6_method_30_code 56 = .ok (.invokevirtual 269, 3) := by decide +kernel
theorem w_1286 : (Cond.methodLink "StowTongue$Machine" 269 ⟨"StowTongue$Machine", "push", "()V"⟩ : Cond) ∈ am_tbl := am_w 1286 (by decide +kernel) (by decide +kernel)
set_option maxRecDepth 100000 in
theorem w_1289 : (Cond.code ⟨"StowTongue$Machine", "push", "()V"⟩ prog_6_method_34_code 3 none : Cond) ∈ am_tbl := am_w 1289 rfl rfl
theorem l_Mach_269 : am_L "StowTongue$Machine" 269 0 m_Mach_push := ⟨Or.inl w_1286, w_157, w_1289, ⟨by decide, by decide⟩, by decide +kernel, by decide⟩
theorem w_1288 : (Cond.instanceMethod ⟨"StowTongue$Machine", "push", "()V"⟩ : Cond) ∈ am_tbl := am_w 1288 (by decide +kernel) (by decide +kernel)
theorem w_70 : (Cond.selects "StowTongue$Machine" ⟨"StowTongue$Machine", "push", "()V"⟩ ⟨"StowTongue$Machine", "push", "()V"⟩ : Cond) ∈ am_tbl := am_w 70 (by decide +kernel) (by decide +kernel)
theorem d_Mach_doObject_59 : decode prog_6_method_30_code 59 = .ok (.goto 7, 3) := by decide +kernel
theorem d_Mach_doObject_62 : decode prog_6_method_30_code 62 = .ok (.aload_n 0, 1) := by decide +kernel
theorem d_Mach_doObject_63 : decode prog_6_method_30_code 63 = .ok (.invokevirtual 272, 3) := by decide +kernel
theorem w_1290 : (Cond.methodLink "StowTongue$Machine" 272 ⟨"StowTongue$Machine", "pop", "()V"⟩ : Cond) ∈ am_tbl := am_w 1290 (by decide +kernel) (by decide +kernel)
set_option maxRecDepth 100000 in
theorem w_1293 : (Cond.code ⟨"StowTongue$Machine", "pop", "()V"⟩ prog_6_method_35_code 5 none : Cond) ∈ am_tbl := am_w 1293 rfl rfl
theorem l_Mach_272 : am_L "StowTongue$Machine" 272 0 m_Mach_pop := ⟨Or.inl w_1290, w_157, w_1293, ⟨by decide, by decide⟩, by decide +kernel, by decide⟩
theorem w_1292 : (Cond.instanceMethod ⟨"StowTongue$Machine", "pop", "()V"⟩ : Cond) ∈ am_tbl := am_w 1292 (by decide +kernel) (by decide +kernel)
theorem w_71 : (Cond.selects "StowTongue$Machine" ⟨"StowTongue$Machine", "pop", "()V"⟩ ⟨"StowTongue$Machine", "pop", "()V"⟩ : Cond) ∈ am_tbl := am_w 71 (by decide +kernel) (by decide +kernel)
abbrev m_Mach_doReckoning : am_M := (⟨"StowTongue$Machine", "doReckoning", "(I)V"⟩, prog_6_method_36_code, 5, none)
theorem d_Mach_doReckoning_0 : decode prog_6_method_36_code 0 = .ok (.aload_n 0, 1) := by decide +kernel
theorem d_Mach_doReckoning_1 : decode prog_6_method_36_code 1 = .ok (.iconst 2, 1) := by decide +kernel
theorem d_Mach_doReckoning_2 : decode prog_6_method_36_code 2 = .ok (.invokevirtual 133, 3) := by decide +kernel
theorem d_Mach_doReckoning_5 : decode prog_6_method_36_code 5 = .ok (.istore_n 2, 1) := by decide +kernel
theorem d_Mach_doReckoning_6 : decode prog_6_method_36_code 6 = .ok (.aload_n 0, 1) := by decide +kernel
theorem d_Mach_doReckoning_7 : decode prog_6_method_36_code 7 = .ok (.iconst 1, 1) := by decide +kernel
theorem d_Mach_doReckoning_8 : decode prog_6_method_36_code 8 = .ok (.invokevirtual 133, 3) := by decide +kernel
theorem d_Mach_doReckoning_11 : decode prog_6_method_36_code 11 = .ok (.istore_n 3, 1) := by decide +kernel
theorem d_Mach_doReckoning_12 : decode prog_6_method_36_code 12 = .ok (.aload_n 0, 1) := by decide +kernel
theorem d_Mach_doReckoning_13 : decode prog_6_method_36_code 13 = .ok (.getfield 7, 3) := by decide +kernel
theorem d_Mach_doReckoning_16 : decode prog_6_method_36_code 16 = .ok (.iload_n 2, 1) := by decide +kernel
theorem d_Mach_doReckoning_17 : decode prog_6_method_36_code 17 = .ok (.laload, 1) := by decide +kernel
theorem d_Mach_doReckoning_18 : decode prog_6_method_36_code 18 = .ok (.aload_n 0, 1) := by decide +kernel
theorem d_Mach_doReckoning_19 : decode prog_6_method_36_code 19 = .ok (.getfield 7, 3) := by decide +kernel
theorem d_Mach_doReckoning_22 : decode prog_6_method_36_code 22 = .ok (.iload_n 3, 1) := by decide +kernel
theorem d_Mach_doReckoning_23 : decode prog_6_method_36_code 23 = .ok (.laload, 1) := by decide +kernel
theorem d_Mach_doReckoning_24 : decode prog_6_method_36_code 24 = .ok (.lcmp, 1) := by decide +kernel
theorem d_Mach_doReckoning_25 : decode prog_6_method_36_code 25 = .ok (.ifCond .ne 23, 3) := by decide +kernel
theorem d_Mach_doReckoning_28 : decode prog_6_method_36_code 28 = .ok (.aload_n 0, 1) := by decide +kernel
theorem d_Mach_doReckoning_29 : decode prog_6_method_36_code 29 = .ok (.getfield 13, 3) := by decide +kernel
theorem d_Mach_doReckoning_32 : decode prog_6_method_36_code 32 = .ok (.iload_n 2, 1) := by decide +kernel
theorem d_Mach_doReckoning_33 : decode prog_6_method_36_code 33 = .ok (.laload, 1) := by decide +kernel
theorem d_Mach_doReckoning_34 : decode prog_6_method_36_code 34 = .ok (.aload_n 0, 1) := by decide +kernel
theorem d_Mach_doReckoning_35 : decode prog_6_method_36_code 35 = .ok (.getfield 13, 3) := by decide +kernel
theorem d_Mach_doReckoning_38 : decode prog_6_method_36_code 38 = .ok (.iload_n 3, 1) := by decide +kernel
theorem d_Mach_doReckoning_39 : decode prog_6_method_36_code 39 = .ok (.laload, 1) := by decide +kernel
theorem d_Mach_doReckoning_40 : decode prog_6_method_36_code 40 = .ok (.lcmp, 1) := by decide +kernel
theorem d_Mach_doReckoning_41 : decode prog_6_method_36_code 41 = .ok (.ifCond .ne 7, 3) := by decide +kernel
theorem d_Mach_doReckoning_44 : decode prog_6_method_36_code 44 = .ok (.iconst 1, 1) := by decide +kernel
theorem d_Mach_doReckoning_45 : decode prog_6_method_36_code 45 = .ok (.goto 4, 3) := by decide +kernel
theorem d_Mach_doReckoning_49 : decode prog_6_method_36_code 49 = .ok (.istore 4, 2) := by decide +kernel
theorem d_Mach_doReckoning_51 : decode prog_6_method_36_code 51 = .ok (.iload_n 1, 1) := by decide +kernel
theorem d_Mach_doReckoning_52 : decode prog_6_method_36_code 52 = .ok (.tableswitch 140 26 31 #[40, 48, 83, 97, 119, 129], 40) := by decide +kernel
theorem d_Mach_doReckoning_92 : decode prog_6_method_36_code 92 = .ok (.aload_n 0, 1) := by decide +kernel
theorem d_Mach_doReckoning_93 : decode prog_6_method_36_code 93 = .ok (.iload_n 3, 1) := by decide +kernel
theorem d_Mach_doReckoning_94 : decode prog_6_method_36_code 94 = .ok (.invokevirtual 285, 3) := by decide +kernel
theorem w_1302 : (Cond.methodLink "StowTongue$Machine" 285 ⟨"StowTongue$Machine", "minus", "(I)V"⟩ : Cond) ∈ am_tbl := am_w 1302 (by decide +kernel) (by decide +kernel)
set_option maxRecDepth 100000 in
theorem w_1305 : (Cond.code ⟨"StowTongue$Machine", "minus", "(I)V"⟩ prog_6_method_37_code 2 none : Cond) ∈ am_tbl := am_w 1305 rfl rfl
theorem l_Mach_285 : am_L "StowTongue$Machine" 285 1 m_Mach_minus := ⟨Or.inl w_1302, w_157, w_1305, ⟨by decide, by decide⟩, by decide +kernel, by decide⟩
theorem w_1304 : (Cond.instanceMethod ⟨"StowTongue$Machine", "minus", "(I)V"⟩ : Cond) ∈ am_tbl := am_w 1304 (by decide +kernel) (by decide +kernel)
theorem w_73 : (Cond.selects "StowTongue$Machine" ⟨"StowTongue$Machine", "minus", "(I)V"⟩ ⟨"StowTongue$Machine", "minus", "(I)V"⟩ : Cond) ∈ am_tbl := am_w 73 (by decide +kernel) (by decide +kernel)
theorem d_Mach_doReckoning_97 : decode prog_6_method_36_code 97 = .ok (.goto 102, 3) := by decide +kernel
theorem d_Mach_doReckoning_199 : decode prog_6_method_36_code 199 = .ok (.return_, 1) := by decide +kernel
theorem d_Mach_doReckoning_100 : decode prog_6_method_36_code 100 = .ok (.aload_n 0, 1) := by decide +kernel
theorem d_Mach_doReckoning_101 : decode prog_6_method_36_code 101 = .ok (.iload_n 3, 1) := by decide +kernel
theorem d_Mach_doReckoning_102 : decode prog_6_method_36_code 102 = .ok (.putfield 54, 3) := by decide +kernel
theorem d_Mach_doReckoning_105 : decode prog_6_method_36_code 105 = .ok (.aload_n 0, 1) := by decide +kernel
theorem d_Mach_doReckoning_106 : decode prog_6_method_36_code 106 = .ok (.aload_n 0, 1) := by decide +kernel
theorem d_Mach_doReckoning_107 : decode prog_6_method_36_code 107 = .ok (.getfield 7, 3) := by decide +kernel
theorem d_Mach_doReckoning_110 : decode prog_6_method_36_code 110 = .ok (.iload_n 3, 1) := by decide +kernel
theorem d_Mach_doReckoning_111 : decode prog_6_method_36_code 111 = .ok (.laload, 1) := by decide +kernel
theorem d_Mach_doReckoning_112 : decode prog_6_method_36_code 112 = .ok (.aload_n 0, 1) := by decide +kernel
theorem d_Mach_doReckoning_113 : decode prog_6_method_36_code 113 = .ok (.getfield 13, 3) := by decide +kernel
theorem d_Mach_doReckoning_116 : decode prog_6_method_36_code 116 = .ok (.iload_n 3, 1) := by decide +kernel
theorem d_Mach_doReckoning_117 : decode prog_6_method_36_code 117 = .ok (.laload, 1) := by decide +kernel
theorem d_Mach_doReckoning_118 : decode prog_6_method_36_code 118 = .ok (.invokestatic 136, 3) := by decide +kernel
theorem w_1100 : (Cond.methodLink "StowTongue$Machine" 136 ⟨"StowTongue$Cell", "isTrue", "(JJ)Z"⟩ : Cond) ∈ am_tbl := am_w 1100 (by decide +kernel) (by decide +kernel)
set_option maxRecDepth 100000 in
theorem w_1102 : (Cond.code ⟨"StowTongue$Cell", "isTrue", "(JJ)Z"⟩ prog_2_method_5_code 5 (some FieldType.boolean) : Cond) ∈ am_tbl := am_w 1102 rfl rfl
theorem l_Mach_136 : am_L "StowTongue$Machine" 136 2 m_Cell_isTrue := ⟨Or.inl w_1100, w_151, w_1102, ⟨by decide, by decide⟩, by decide +kernel, by decide⟩
theorem w_1101 : (Cond.static ⟨"StowTongue$Cell", "isTrue", "(JJ)Z"⟩ : Cond) ∈ am_tbl := am_w 1101 (by decide +kernel) (by decide +kernel)
theorem d_Mach_doReckoning_121 : decode prog_6_method_36_code 121 = .ok (.ifCond .ne 7, 3) := by decide +kernel
theorem d_Mach_doReckoning_124 : decode prog_6_method_36_code 124 = .ok (.iconst 1, 1) := by decide +kernel
theorem d_Mach_doReckoning_125 : decode prog_6_method_36_code 125 = .ok (.goto 4, 3) := by decide +kernel
theorem d_Mach_doReckoning_129 : decode prog_6_method_36_code 129 = .ok (.invokevirtual 288, 3) := by decide +kernel
theorem d_Mach_doReckoning_132 : decode prog_6_method_36_code 132 = .ok (.goto 67, 3) := by decide +kernel
theorem d_Mach_doReckoning_128 : decode prog_6_method_36_code 128 = .ok (.iconst 0, 1) := by decide +kernel
theorem d_Mach_doReckoning_135 : decode prog_6_method_36_code 135 = .ok (.aload_n 0, 1) := by decide +kernel
theorem d_Mach_doReckoning_136 : decode prog_6_method_36_code 136 = .ok (.iload_n 2, 1) := by decide +kernel
theorem d_Mach_doReckoning_137 : decode prog_6_method_36_code 137 = .ok (.putfield 54, 3) := by decide +kernel
theorem d_Mach_doReckoning_140 : decode prog_6_method_36_code 140 = .ok (.aload_n 0, 1) := by decide +kernel
theorem d_Mach_doReckoning_141 : decode prog_6_method_36_code 141 = .ok (.iload 4, 2) := by decide +kernel
theorem d_Mach_doReckoning_143 : decode prog_6_method_36_code 143 = .ok (.invokevirtual 288, 3) := by decide +kernel
theorem d_Mach_doReckoning_146 : decode prog_6_method_36_code 146 = .ok (.goto 53, 3) := by decide +kernel
theorem d_Mach_doReckoning_149 : decode prog_6_method_36_code 149 = .ok (.aload_n 0, 1) := by decide +kernel
theorem d_Mach_doReckoning_150 : decode prog_6_method_36_code 150 = .ok (.iload_n 2, 1) := by decide +kernel
theorem d_Mach_doReckoning_151 : decode prog_6_method_36_code 151 = .ok (.putfield 54, 3) := by decide +kernel
theorem d_Mach_doReckoning_154 : decode prog_6_method_36_code 154 = .ok (.aload_n 0, 1) := by decide +kernel
theorem d_Mach_doReckoning_155 : decode prog_6_method_36_code 155 = .ok (.iload 4, 2) := by decide +kernel
theorem d_Mach_doReckoning_157 : decode prog_6_method_36_code 157 = .ok (.ifCond .ne 7, 3) := by decide +kernel
theorem d_Mach_doReckoning_160 : decode prog_6_method_36_code 160 = .ok (.iconst 1, 1) := by decide +kernel
theorem d_Mach_doReckoning_161 : decode prog_6_method_36_code 161 = .ok (.goto 4, 3) := by decide +kernel
theorem d_Mach_doReckoning_165 : decode prog_6_method_36_code 165 = .ok (.invokevirtual 288, 3) := by decide +kernel
theorem d_Mach_doReckoning_168 : decode prog_6_method_36_code 168 = .ok (.goto 31, 3) := by decide +kernel
theorem d_Mach_doReckoning_164 : decode prog_6_method_36_code 164 = .ok (.iconst 0, 1) := by decide +kernel
theorem d_Mach_doReckoning_171 : decode prog_6_method_36_code 171 = .ok (.aload_n 0, 1) := by decide +kernel
theorem d_Mach_doReckoning_172 : decode prog_6_method_36_code 172 = .ok (.iload_n 2, 1) := by decide +kernel
theorem d_Mach_doReckoning_173 : decode prog_6_method_36_code 173 = .ok (.iload_n 3, 1) := by decide +kernel
theorem d_Mach_doReckoning_174 : decode prog_6_method_36_code 174 = .ok (.iconst 0, 1) := by decide +kernel
theorem d_Mach_doReckoning_175 : decode prog_6_method_36_code 175 = .ok (.invokevirtual 292, 3) := by decide +kernel
theorem w_1310 : (Cond.methodLink "StowTongue$Machine" 292 ⟨"StowTongue$Machine", "compare", "(IIZ)V"⟩ : Cond) ∈ am_tbl := am_w 1310 (by decide +kernel) (by decide +kernel)
set_option maxRecDepth 100000 in
theorem w_1313 : (Cond.code ⟨"StowTongue$Machine", "compare", "(IIZ)V"⟩ prog_6_method_38_code 6 none : Cond) ∈ am_tbl := am_w 1313 rfl rfl
theorem l_Mach_292 : am_L "StowTongue$Machine" 292 3 m_Mach_compare := ⟨Or.inl w_1310, w_157, w_1313, ⟨by decide, by decide⟩, by decide +kernel, by decide⟩
theorem w_1312 : (Cond.instanceMethod ⟨"StowTongue$Machine", "compare", "(IIZ)V"⟩ : Cond) ∈ am_tbl := am_w 1312 (by decide +kernel) (by decide +kernel)
theorem w_75 : (Cond.selects "StowTongue$Machine" ⟨"StowTongue$Machine", "compare", "(IIZ)V"⟩ ⟨"StowTongue$Machine", "compare", "(IIZ)V"⟩ : Cond) ∈ am_tbl := am_w 75 (by decide +kernel) (by decide +kernel)
theorem d_Mach_doReckoning_178 : decode prog_6_method_36_code 178 = .ok (.goto 21, 3) := by decide +kernel
theorem d_Mach_doReckoning_181 : decode prog_6_method_36_code 181 = .ok (.aload_n 0, 1) := by decide +kernel
theorem d_Mach_doReckoning_182 : decode prog_6_method_36_code 182 = .ok (.iload_n 2, 1) := by decide +kernel
theorem d_Mach_doReckoning_183 : decode prog_6_method_36_code 183 = .ok (.iload_n 3, 1) := by decide +kernel
theorem d_Mach_doReckoning_184 : decode prog_6_method_36_code 184 = .ok (.iload 4, 2) := by decide +kernel
theorem d_Mach_doReckoning_186 : decode prog_6_method_36_code 186 = .ok (.invokevirtual 292, 3) := by decide +kernel
theorem d_Mach_doReckoning_189 : decode prog_6_method_36_code 189 = .ok (.goto 10, 3) := by decide +kernel
theorem d_Mach_doReckoning_192 : decode prog_6_method_36_code 192 = .ok (.aload_n 0, 1) := by decide +kernel
theorem d_Mach_doReckoning_193 : decode prog_6_method_36_code 193 = .ok (.iload_n 1, 1) := by decide +kernel
theorem d_Mach_doReckoning_194 : decode prog_6_method_36_code 194 = .ok (.iload_n 2, 1) := by decide +kernel
theorem d_Mach_doReckoning_195 : decode prog_6_method_36_code 195 = .ok (.iload_n 3, 1) := by decide +kernel
theorem d_Mach_doReckoning_196 : decode prog_6_method_36_code 196 = .ok (.invokevirtual 296, 3) := by decide +kernel
theorem w_1314 : (Cond.methodLink "StowTongue$Machine" 296 ⟨"StowTongue$Machine", "reckon", "(III)V"⟩ : Cond) ∈ am_tbl := am_w 1314 (by decide +kernel) (by decide +kernel)
set_option maxRecDepth 100000 in
theorem w_1317 : (Cond.code ⟨"StowTongue$Machine", "reckon", "(III)V"⟩ prog_6_method_39_code 5 none : Cond) ∈ am_tbl := am_w 1317 rfl rfl
theorem l_Mach_296 : am_L "StowTongue$Machine" 296 3 m_Mach_reckon := ⟨Or.inl w_1314, w_157, w_1317, ⟨by decide, by decide⟩, by decide +kernel, by decide⟩
theorem w_1316 : (Cond.instanceMethod ⟨"StowTongue$Machine", "reckon", "(III)V"⟩ : Cond) ∈ am_tbl := am_w 1316 (by decide +kernel) (by decide +kernel)
theorem w_76 : (Cond.selects "StowTongue$Machine" ⟨"StowTongue$Machine", "reckon", "(III)V"⟩ ⟨"StowTongue$Machine", "reckon", "(III)V"⟩ : Cond) ∈ am_tbl := am_w 76 (by decide +kernel) (by decide +kernel)
theorem d_Mach_doReckoning_48 : decode prog_6_method_36_code 48 = .ok (.iconst 0, 1) := by decide +kernel
theorem d_Stow_sweep_21 : decode prog_1_method_13_code 21 = .ok (.aload_n 0, 1) := by decide +kernel
theorem d_Stow_sweep_22 : decode prog_1_method_13_code 22 = .ok (.getfield 37, 3) := by decide +kernel
theorem d_Stow_sweep_25 : decode prog_1_method_13_code 25 = .ok (.bipush 8, 2) := by decide +kernel
theorem d_Stow_sweep_27 : decode prog_1_method_13_code 27 = .ok (.invokevirtual 113, 3) := by decide +kernel
theorem w_1358 : (Cond.methodLink "StowTongue" 113 ⟨"StowTongue$Log", "append", "(I)V"⟩ : Cond) ∈ am_tbl := am_w 1358 (by decide +kernel) (by decide +kernel)
set_option maxRecDepth 100000 in
theorem w_1361 : (Cond.code ⟨"StowTongue$Log", "append", "(I)V"⟩ prog_5_method_6_code 2 none : Cond) ∈ am_tbl := am_w 1361 rfl rfl
theorem l_Stow_113 : am_L "StowTongue" 113 1 m_Log_append := ⟨Or.inl w_1358, w_158, w_1361, ⟨by decide, by decide⟩, by decide +kernel, by decide⟩
theorem w_1359 : (Cond.instanceMethod ⟨"StowTongue$Log", "append", "(I)V"⟩ : Cond) ∈ am_tbl := am_w 1359 (by decide +kernel) (by decide +kernel)
theorem w_1360 : (Cond.selects "StowTongue$Log" ⟨"StowTongue$Log", "append", "(I)V"⟩ ⟨"StowTongue$Log", "append", "(I)V"⟩ : Cond) ∈ am_tbl := am_w 1360 (by decide +kernel) (by decide +kernel)
abbrev m_Mod_go_ : am_M := (⟨"StowTongueModel", "go", "()I"⟩, prog_13_method_44_code, 2, (some FieldType.int))
theorem d_Mod_go__0 : decode prog_13_method_44_code 0 = .ok (.aload_n 0, 1) := by decide +kernel
theorem d_Mod_go__1 : decode prog_13_method_44_code 1 = .ok (.iconst 0, 1) := by decide +kernel
theorem d_Mod_go__2 : decode prog_13_method_44_code 2 = .ok (.putfield 486, 3) := by decide +kernel
theorem d_Mod_go__5 : decode prog_13_method_44_code 5 = .ok (.aload_n 0, 1) := by decide +kernel
theorem d_Mod_go__6 : decode prog_13_method_44_code 6 = .ok (.iconst 0, 1) := by decide +kernel
theorem d_Mod_go__7 : decode prog_13_method_44_code 7 = .ok (.putfield 489, 3) := by decide +kernel
theorem d_Mod_go__10 : decode prog_13_method_44_code 10 = .ok (.aload_n 0, 1) := by decide +kernel
theorem d_Mod_go__11 : decode prog_13_method_44_code 11 = .ok (.iconst 0, 1) := by decide +kernel
theorem d_Mod_go__12 : decode prog_13_method_44_code 12 = .ok (.putfield 492, 3) := by decide +kernel
theorem d_Mod_go__15 : decode prog_13_method_44_code 15 = .ok (.aload_n 0, 1) := by decide +kernel
theorem d_Mod_go__16 : decode prog_13_method_44_code 16 = .ok (.aload_n 0, 1) := by decide +kernel
theorem d_Mod_go__17 : decode prog_13_method_44_code 17 = .ok (.getfield 143, 3) := by decide +kernel
theorem d_Mod_go__20 : decode prog_13_method_44_code 20 = .ok (.iconst 0, 1) := by decide +kernel
theorem d_Mod_go__21 : decode prog_13_method_44_code 21 = .ok (.invokevirtual 495, 3) := by decide +kernel
theorem d_Mod_go__24 : decode prog_13_method_44_code 24 = .ok (.iconst (-1), 1) := by decide +kernel
theorem d_Mod_go__25 : decode prog_13_method_44_code 25 = .ok (.istore_n 1, 1) := by decide +kernel
theorem d_Mod_go__26 : decode prog_13_method_44_code 26 = .ok (.iload_n 1, 1) := by decide +kernel
theorem d_Mod_go__27 : decode prog_13_method_44_code 27 = .ok (.ifCond .ge 11, 3) := by decide +kernel
theorem d_Mod_go__38 : decode prog_13_method_44_code 38 = .ok (.iload_n 1, 1) := by decide +kernel
theorem d_Mod_go__39 : decode prog_13_method_44_code 39 = .ok (.ireturn, 1) := by decide +kernel
theorem d_Mod_go__30 : decode prog_13_method_44_code 30 = .ok (.aload_n 0, 1) := by decide +kernel
theorem d_Mod_go__31 : decode prog_13_method_44_code 31 = .ok (.invokevirtual 499, 3) := by decide +kernel
theorem w_2030 : (Cond.methodLink "StowTongueModel" 499 ⟨"StowTongueModel", "one", "()I"⟩ : Cond) ∈ am_tbl := am_w 2030 (by decide +kernel) (by decide +kernel)
set_option maxRecDepth 100000 in
theorem w_2033 : (Cond.code ⟨"StowTongueModel", "one", "()I"⟩ prog_13_method_52_code 5 (some FieldType.int) : Cond) ∈ am_tbl := am_w 2033 rfl rfl
theorem l_Mod_499 : am_L "StowTongueModel" 499 0 m_Mod_one := ⟨Or.inl w_2030, w_160, w_2033, ⟨by decide, by decide⟩, by decide +kernel, by decide⟩
theorem w_2032 : (Cond.instanceMethod ⟨"StowTongueModel", "one", "()I"⟩ : Cond) ∈ am_tbl := am_w 2032 (by decide +kernel) (by decide +kernel)
theorem w_119 : (Cond.selects "StowTongueModel" ⟨"StowTongueModel", "one", "()I"⟩ ⟨"StowTongueModel", "one", "()I"⟩ : Cond) ∈ am_tbl := am_w 119 (by decide +kernel) (by decide +kernel)
theorem d_Mod_go__34 : decode prog_13_method_44_code 34 = .ok (.istore_n 1, 1) := by decide +kernel
theorem d_Mod_go__35 : decode prog_13_method_44_code 35 = .ok (.goto (-9), 3) := by decide +kernel
abbrev m_Mach_doFlow : am_M := (⟨"StowTongue$Machine", "doFlow", "(II)V"⟩, prog_6_method_15_code, 5, none)
theorem d_Mach_doFlow_0 : decode prog_6_method_15_code 0 = .ok (.aload_n 0, 1) := by decide +kernel
theorem d_Mach_doFlow_1 : decode prog_6_method_15_code 1 = .ok (.iconst 1, 1) := by decide +kernel
theorem d_Mach_doFlow_2 : decode prog_6_method_15_code 2 = .ok (.invokevirtual 133, 3) := by decide +kernel
theorem d_Mach_doFlow_5 : decode prog_6_method_15_code 5 = .ok (.istore_n 3, 1) := by decide +kernel
theorem d_Mach_doFlow_6 : decode prog_6_method_15_code 6 = .ok (.aload_n 0, 1) := by decide +kernel
theorem d_Mach_doFlow_7 : decode prog_6_method_15_code 7 = .ok (.getfield 7, 3) := by decide +kernel
theorem d_Mach_doFlow_10 : decode prog_6_method_15_code 10 = .ok (.iload_n 3, 1) := by decide +kernel
theorem d_Mach_doFlow_11 : decode prog_6_method_15_code 11 = .ok (.laload, 1) := by decide +kernel
theorem d_Mach_doFlow_12 : decode prog_6_method_15_code 12 = .ok (.aload_n 0, 1) := by decide +kernel
theorem d_Mach_doFlow_13 : decode prog_6_method_15_code 13 = .ok (.getfield 13, 3) := by decide +kernel
theorem d_Mach_doFlow_16 : decode prog_6_method_15_code 16 = .ok (.iload_n 3, 1) := by decide +kernel
theorem d_Mach_doFlow_17 : decode prog_6_method_15_code 17 = .ok (.laload, 1) := by decide +kernel
theorem d_Mach_doFlow_18 : decode prog_6_method_15_code 18 = .ok (.invokestatic 136, 3) := by decide +kernel
theorem d_Mach_doFlow_21 : decode prog_6_method_15_code 21 = .ok (.istore 4, 2) := by decide +kernel
theorem d_Mach_doFlow_23 : decode prog_6_method_15_code 23 = .ok (.iload_n 1, 1) := by decide +kernel
theorem d_Mach_doFlow_24 : decode prog_6_method_15_code 24 = .ok (.tableswitch 171 0 8 #[52, 60, 68, 93, 103, 121, 147, 154, 163], 52) := by decide +kernel
theorem d_Mach_doFlow_76 : decode prog_6_method_15_code 76 = .ok (.aload_n 0, 1) := by decide +kernel
theorem d_Mach_doFlow_77 : decode prog_6_method_15_code 77 = .ok (.invokevirtual 140, 3) := by decide +kernel
theorem d_Mach_doFlow_80 : decode prog_6_method_15_code 80 = .ok (.pop, 1) := by decide +kernel
theorem d_Mach_doFlow_81 : decode prog_6_method_15_code 81 = .ok (.goto 124, 3) := by decide +kernel
theorem d_Mach_doFlow_205 : decode prog_6_method_15_code 205 = .ok (.return_, 1) := by decide +kernel
theorem d_Mach_doFlow_84 : decode prog_6_method_15_code 84 = .ok (.aload_n 0, 1) := by decide +kernel
theorem d_Mach_doFlow_85 : decode prog_6_method_15_code 85 = .ok (.iload_n 2, 1) := by decide +kernel
theorem d_Mach_doFlow_86 : decode prog_6_method_15_code 86 = .ok (.putfield 66, 3) := by decide +kernel
theorem d_Mach_doFlow_89 : decode prog_6_method_15_code 89 = .ok (.goto 116, 3) := by decide +kernel
theorem d_Mach_doFlow_92 : decode prog_6_method_15_code 92 = .ok (.aload_n 0, 1) := by decide +kernel
theorem d_Mach_doFlow_93 : decode prog_6_method_15_code 93 = .ok (.iload_n 3, 1) := by decide +kernel
theorem d_Mach_doFlow_94 : decode prog_6_method_15_code 94 = .ok (.putfield 54, 3) := by decide +kernel
theorem d_Mach_doFlow_97 : decode prog_6_method_15_code 97 = .ok (.aload_n 0, 1) := by decide +kernel
theorem d_Mach_doFlow_98 : decode prog_6_method_15_code 98 = .ok (.iload 4, 2) := by decide +kernel
theorem d_Mach_doFlow_100 : decode prog_6_method_15_code 100 = .ok (.ifCond .eq 10, 3) := by decide +kernel
theorem d_Mach_doFlow_110 : decode prog_6_method_15_code 110 = .ok (.iload_n 2, 1) := by decide +kernel
theorem d_Mach_doFlow_111 : decode prog_6_method_15_code 111 = .ok (.putfield 66, 3) := by decide +kernel
theorem d_Mach_doFlow_114 : decode prog_6_method_15_code 114 = .ok (.goto 91, 3) := by decide +kernel
theorem d_Mach_doFlow_103 : decode prog_6_method_15_code 103 = .ok (.aload_n 0, 1) := by decide +kernel
theorem d_Mach_doFlow_104 : decode prog_6_method_15_code 104 = .ok (.getfield 66, 3) := by decide +kernel
theorem d_Mach_doFlow_107 : decode prog_6_method_15_code 107 = .ok (.goto 4, 3) := by decide +kernel
theorem d_Mach_doFlow_117 : decode prog_6_method_15_code 117 = .ok (.aload_n 0, 1) := by decide +kernel
theorem d_Mach_doFlow_118 : decode prog_6_method_15_code 118 = .ok (.iload 4, 2) := by decide +kernel
theorem d_Mach_doFlow_120 : decode prog_6_method_15_code 120 = .ok (.iload_n 2, 1) := by decide +kernel
theorem d_Mach_doFlow_121 : decode prog_6_method_15_code 121 = .ok (.invokevirtual 144, 3) := by decide +kernel
theorem w_1110 : (Cond.methodLink "StowTongue$Machine" 144 ⟨"StowTongue$Machine", "keepLeft", "(ZI)V"⟩ : Cond) ∈ am_tbl := am_w 1110 (by decide +kernel) (by decide +kernel)
set_option maxRecDepth 100000 in
theorem w_1113 : (Cond.code ⟨"StowTongue$Machine", "keepLeft", "(ZI)V"⟩ prog_6_method_16_code 3 none : Cond) ∈ am_tbl := am_w 1113 rfl rfl
theorem l_Mach_144 : am_L "StowTongue$Machine" 144 2 m_Mach_keepLeft := ⟨Or.inl w_1110, w_157, w_1113, ⟨by decide, by decide⟩, by decide +kernel, by decide⟩
theorem w_1112 : (Cond.instanceMethod ⟨"StowTongue$Machine", "keepLeft", "(ZI)V"⟩ : Cond) ∈ am_tbl := am_w 1112 (by decide +kernel) (by decide +kernel)
theorem w_48 : (Cond.selects "StowTongue$Machine" ⟨"StowTongue$Machine", "keepLeft", "(ZI)V"⟩ ⟨"StowTongue$Machine", "keepLeft", "(ZI)V"⟩ : Cond) ∈ am_tbl := am_w 48 (by decide +kernel) (by decide +kernel)
theorem d_Mach_doFlow_124 : decode prog_6_method_15_code 124 = .ok (.goto 81, 3) := by decide +kernel
theorem d_Mach_doFlow_127 : decode prog_6_method_15_code 127 = .ok (.aload_n 0, 1) := by decide +kernel
theorem d_Mach_doFlow_128 : decode prog_6_method_15_code 128 = .ok (.iload 4, 2) := by decide +kernel
theorem d_Mach_doFlow_130 : decode prog_6_method_15_code 130 = .ok (.ifCond .ne 7, 3) := by decide +kernel
theorem d_Mach_doFlow_133 : decode prog_6_method_15_code 133 = .ok (.iconst 1, 1) := by decide +kernel
theorem d_Mach_doFlow_134 : decode prog_6_method_15_code 134 = .ok (.goto 4, 3) := by decide +kernel
theorem d_Mach_doFlow_138 : decode prog_6_method_15_code 138 = .ok (.iload_n 2, 1) := by decide +kernel
theorem d_Mach_doFlow_139 : decode prog_6_method_15_code 139 = .ok (.invokevirtual 144, 3) := by decide +kernel
theorem d_Mach_doFlow_142 : decode prog_6_method_15_code 142 = .ok (.goto 63, 3) := by decide +kernel
theorem d_Mach_doFlow_137 : decode prog_6_method_15_code 137 = .ok (.iconst 0, 1) := by decide +kernel
theorem d_Mach_doFlow_145 : decode prog_6_method_15_code 145 = .ok (.aload_n 0, 1) := by decide +kernel
theorem d_Mach_doFlow_146 : decode prog_6_method_15_code 146 = .ok (.aload_n 0, 1) := by decide +kernel
theorem d_Mach_doFlow_147 : decode prog_6_method_15_code 147 = .ok (.getfield 62, 3) := by decide +kernel
theorem d_Mach_doFlow_150 : decode prog_6_method_15_code 150 = .ok (.iload_n 2, 1) := by decide +kernel
theorem d_Mach_doFlow_151 : decode prog_6_method_15_code 151 = .ok (.invokevirtual 148, 3) := by decide +kernel
theorem d_Mach_doFlow_154 : decode prog_6_method_15_code 154 = .ok (.aload_n 0, 1) := by decide +kernel
theorem d_Mach_doFlow_155 : decode prog_6_method_15_code 155 = .ok (.getfield 62, 3) := by decide +kernel
theorem d_Mach_doFlow_158 : decode prog_6_method_15_code 158 = .ok (.iload_n 2, 1) := by decide +kernel
theorem d_Mach_doFlow_159 : decode prog_6_method_15_code 159 = .ok (.iconst 1, 1) := by decide +kernel
theorem d_Mach_doFlow_160 : decode prog_6_method_15_code 160 = .ok (.iadd, 1) := by decide +kernel
theorem d_Mach_doFlow_161 : decode prog_6_method_15_code 161 = .ok (.invokevirtual 148, 3) := by decide +kernel
theorem d_Mach_doFlow_164 : decode prog_6_method_15_code 164 = .ok (.l2i, 1) := by decide +kernel
theorem d_Mach_doFlow_165 : decode prog_6_method_15_code 165 = .ok (.invokevirtual 151, 3) := by decide +kernel
theorem w_1118 : (Cond.methodLink "StowTongue$Machine" 151 ⟨"StowTongue$Machine", "call", "(JI)V"⟩ : Cond) ∈ am_tbl := am_w 1118 (by decide +kernel) (by decide +kernel)
set_option maxRecDepth 100000 in
theorem w_1121 : (Cond.code ⟨"StowTongue$Machine", "call", "(JI)V"⟩ prog_6_method_17_code 5 none : Cond) ∈ am_tbl := am_w 1121 rfl rfl
theorem l_Mach_151 : am_L "StowTongue$Machine" 151 2 m_Mach_call := ⟨Or.inl w_1118, w_157, w_1121, ⟨by decide, by decide⟩, by decide +kernel, by decide⟩
theorem w_1120 : (Cond.instanceMethod ⟨"StowTongue$Machine", "call", "(JI)V"⟩ : Cond) ∈ am_tbl := am_w 1120 (by decide +kernel) (by decide +kernel)
theorem w_49 : (Cond.selects "StowTongue$Machine" ⟨"StowTongue$Machine", "call", "(JI)V"⟩ ⟨"StowTongue$Machine", "call", "(JI)V"⟩ : Cond) ∈ am_tbl := am_w 49 (by decide +kernel) (by decide +kernel)
theorem d_Mach_doFlow_168 : decode prog_6_method_15_code 168 = .ok (.goto 37, 3) := by decide +kernel
theorem d_Mach_doFlow_171 : decode prog_6_method_15_code 171 = .ok (.aload_n 0, 1) := by decide +kernel
theorem d_Mach_doFlow_172 : decode prog_6_method_15_code 172 = .ok (.invokevirtual 155, 3) := by decide +kernel
theorem w_1130 : (Cond.methodLink "StowTongue$Machine" 155 ⟨"StowTongue$Machine", "leave", "()V"⟩ : Cond) ∈ am_tbl := am_w 1130 (by decide +kernel) (by decide +kernel)
set_option maxRecDepth 100000 in
theorem w_1133 : (Cond.code ⟨"StowTongue$Machine", "leave", "()V"⟩ prog_6_method_19_code 2 none : Cond) ∈ am_tbl := am_w 1133 rfl rfl
theorem l_Mach_155 : am_L "StowTongue$Machine" 155 0 m_Mach_leave := ⟨Or.inl w_1130, w_157, w_1133, ⟨by decide, by decide⟩, by decide +kernel, by decide⟩
theorem w_1132 : (Cond.instanceMethod ⟨"StowTongue$Machine", "leave", "()V"⟩ : Cond) ∈ am_tbl := am_w 1132 (by decide +kernel) (by decide +kernel)
theorem w_50 : (Cond.selects "StowTongue$Machine" ⟨"StowTongue$Machine", "leave", "()V"⟩ ⟨"StowTongue$Machine", "leave", "()V"⟩ : Cond) ∈ am_tbl := am_w 50 (by decide +kernel) (by decide +kernel)
theorem d_Mach_doFlow_175 : decode prog_6_method_15_code 175 = .ok (.goto 30, 3) := by decide +kernel
theorem d_Mach_doFlow_178 : decode prog_6_method_15_code 178 = .ok (.aload_n 0, 1) := by decide +kernel
theorem d_Mach_doFlow_179 : decode prog_6_method_15_code 179 = .ok (.bipush 10, 2) := by decide +kernel
theorem d_Mach_doFlow_181 : decode prog_6_method_15_code 181 = .ok (.invokevirtual 106, 3) := by decide +kernel
theorem d_Mach_doFlow_184 : decode prog_6_method_15_code 184 = .ok (.goto 21, 3) := by decide +kernel
theorem d_Mach_doFlow_187 : decode prog_6_method_15_code 187 = .ok (.aload_n 0, 1) := by decide +kernel
theorem d_Mach_doFlow_188 : decode prog_6_method_15_code 188 = .ok (.iload_n 3, 1) := by decide +kernel
theorem d_Mach_doFlow_189 : decode prog_6_method_15_code 189 = .ok (.putfield 54, 3) := by decide +kernel
theorem d_Mach_doFlow_192 : decode prog_6_method_15_code 192 = .ok (.goto 13, 3) := by decide +kernel
theorem d_Mach_doFlow_195 : decode prog_6_method_15_code 195 = .ok (.aload_n 0, 1) := by decide +kernel
theorem d_Mach_doFlow_196 : decode prog_6_method_15_code 196 = .ok (.iload_n 3, 1) := by decide +kernel
theorem d_Mach_doFlow_197 : decode prog_6_method_15_code 197 = .ok (.putfield 54, 3) := by decide +kernel
theorem d_Mach_doFlow_200 : decode prog_6_method_15_code 200 = .ok (.aload_n 0, 1) := by decide +kernel
theorem d_Mach_doFlow_201 : decode prog_6_method_15_code 201 = .ok (.iload_n 3, 1) := by decide +kernel
theorem d_Mach_doFlow_202 : decode prog_6_method_15_code 202 = .ok (.invokevirtual 158, 3) := by decide +kernel
theorem w_1134 : (Cond.methodLink "StowTongue$Machine" 158 ⟨"StowTongue$Machine", "print", "(I)V"⟩ : Cond) ∈ am_tbl := am_w 1134 (by decide +kernel) (by decide +kernel)
set_option maxRecDepth 100000 in
theorem w_1137 : (Cond.code ⟨"StowTongue$Machine", "print", "(I)V"⟩ prog_6_method_20_code 2 none : Cond) ∈ am_tbl := am_w 1137 rfl rfl
theorem l_Mach_158 : am_L "StowTongue$Machine" 158 1 m_Mach_print := ⟨Or.inl w_1134, w_157, w_1137, ⟨by decide, by decide⟩, by decide +kernel, by decide⟩
theorem w_1136 : (Cond.instanceMethod ⟨"StowTongue$Machine", "print", "(I)V"⟩ : Cond) ∈ am_tbl := am_w 1136 (by decide +kernel) (by decide +kernel)
theorem w_51 : (Cond.selects "StowTongue$Machine" ⟨"StowTongue$Machine", "print", "(I)V"⟩ ⟨"StowTongue$Machine", "print", "(I)V"⟩ : Cond) ∈ am_tbl := am_w 51 (by decide +kernel) (by decide +kernel)
abbrev m_Mach_doPlace : am_M := (⟨"StowTongue$Machine", "doPlace", "(II)V"⟩, prog_6_method_22_code, 4, none)
theorem d_Mach_doPlace_0 : decode prog_6_method_22_code 0 = .ok (.aload_n 0, 1) := by decide +kernel
theorem d_Mach_doPlace_1 : decode prog_6_method_22_code 1 = .ok (.iconst 1, 1) := by decide +kernel
theorem d_Mach_doPlace_2 : decode prog_6_method_22_code 2 = .ok (.invokevirtual 133, 3) := by decide +kernel
theorem d_Mach_doPlace_5 : decode prog_6_method_22_code 5 = .ok (.istore_n 3, 1) := by decide +kernel
theorem d_Mach_doPlace_6 : decode prog_6_method_22_code 6 = .ok (.iload_n 1, 1) := by decide +kernel
theorem d_Mach_doPlace_7 : decode prog_6_method_22_code 7 = .ok (.tableswitch 211 13 19 #[41, 68, 108, 130, 174, 189, 204], 41) := by decide +kernel
theorem d_Mach_doPlace_48 : decode prog_6_method_22_code 48 = .ok (.aload_n 0, 1) := by decide +kernel
theorem d_Mach_doPlace_49 : decode prog_6_method_22_code 49 = .ok (.aload_n 0, 1) := by decide +kernel
theorem d_Mach_doPlace_50 : decode prog_6_method_22_code 50 = .ok (.getfield 7, 3) := by decide +kernel
theorem d_Mach_doPlace_53 : decode prog_6_method_22_code 53 = .ok (.aload_n 0, 1) := by decide +kernel
theorem d_Mach_doPlace_54 : decode prog_6_method_22_code 54 = .ok (.iload_n 2, 1) := by decide +kernel
theorem d_Mach_doPlace_55 : decode prog_6_method_22_code 55 = .ok (.invokevirtual 194, 3) := by decide +kernel
theorem w_1185 : (Cond.methodLink "StowTongue$Machine" 194 ⟨"StowTongue$Machine", "localAt", "(I)I"⟩ : Cond) ∈ am_tbl := am_w 1185 (by decide +kernel) (by decide +kernel)
set_option maxRecDepth 100000 in
theorem w_1188 : (Cond.code ⟨"StowTongue$Machine", "localAt", "(I)I"⟩ prog_6_method_23_code 3 (some FieldType.int) : Cond) ∈ am_tbl := am_w 1188 rfl rfl
theorem l_Mach_194 : am_L "StowTongue$Machine" 194 1 m_Mach_localAt := ⟨Or.inl w_1185, w_157, w_1188, ⟨by decide, by decide⟩, by decide +kernel, by decide⟩
theorem w_1187 : (Cond.instanceMethod ⟨"StowTongue$Machine", "localAt", "(I)I"⟩ : Cond) ∈ am_tbl := am_w 1187 (by decide +kernel) (by decide +kernel)
theorem w_56 : (Cond.selects "StowTongue$Machine" ⟨"StowTongue$Machine", "localAt", "(I)I"⟩ ⟨"StowTongue$Machine", "localAt", "(I)I"⟩ : Cond) ∈ am_tbl := am_w 56 (by decide +kernel) (by decide +kernel)
theorem d_Mach_doPlace_58 : decode prog_6_method_22_code 58 = .ok (.laload, 1) := by decide +kernel
theorem d_Mach_doPlace_59 : decode prog_6_method_22_code 59 = .ok (.aload_n 0, 1) := by decide +kernel
theorem d_Mach_doPlace_60 : decode prog_6_method_22_code 60 = .ok (.getfield 13, 3) := by decide +kernel
theorem d_Mach_doPlace_63 : decode prog_6_method_22_code 63 = .ok (.aload_n 0, 1) := by decide +kernel
theorem d_Mach_doPlace_64 : decode prog_6_method_22_code 64 = .ok (.iload_n 2, 1) := by decide +kernel
theorem d_Mach_doPlace_65 : decode prog_6_method_22_code 65 = .ok (.invokevirtual 194, 3) := by decide +kernel
theorem d_Mach_doPlace_68 : decode prog_6_method_22_code 68 = .ok (.laload, 1) := by decide +kernel
theorem d_Mach_doPlace_69 : decode prog_6_method_22_code 69 = .ok (.invokevirtual 121, 3) := by decide +kernel
theorem d_Mach_doPlace_72 : decode prog_6_method_22_code 72 = .ok (.goto 150, 3) := by decide +kernel
theorem d_Mach_doPlace_222 : decode prog_6_method_22_code 222 = .ok (.return_, 1) := by decide +kernel
theorem d_Mach_doPlace_75 : decode prog_6_method_22_code 75 = .ok (.aload_n 0, 1) := by decide +kernel
theorem d_Mach_doPlace_76 : decode prog_6_method_22_code 76 = .ok (.iload_n 3, 1) := by decide +kernel
theorem d_Mach_doPlace_77 : decode prog_6_method_22_code 77 = .ok (.putfield 54, 3) := by decide +kernel
theorem d_Mach_doPlace_80 : decode prog_6_method_22_code 80 = .ok (.aload_n 0, 1) := by decide +kernel
theorem d_Mach_doPlace_81 : decode prog_6_method_22_code 81 = .ok (.getfield 7, 3) := by decide +kernel
theorem d_Mach_doPlace_84 : decode prog_6_method_22_code 84 = .ok (.aload_n 0, 1) := by decide +kernel
theorem d_Mach_doPlace_85 : decode prog_6_method_22_code 85 = .ok (.iload_n 2, 1) := by decide +kernel
theorem d_Mach_doPlace_86 : decode prog_6_method_22_code 86 = .ok (.invokevirtual 194, 3) := by decide +kernel
theorem d_Mach_doPlace_89 : decode prog_6_method_22_code 89 = .ok (.aload_n 0, 1) := by decide +kernel
theorem d_Mach_doPlace_90 : decode prog_6_method_22_code 90 = .ok (.getfield 7, 3) := by decide +kernel
theorem d_Mach_doPlace_93 : decode prog_6_method_22_code 93 = .ok (.iload_n 3, 1) := by decide +kernel
theorem d_Mach_doPlace_94 : decode prog_6_method_22_code 94 = .ok (.laload, 1) := by decide +kernel
theorem d_Mach_doPlace_95 : decode prog_6_method_22_code 95 = .ok (.lastore, 1) := by decide +kernel
theorem d_Mach_doPlace_96 : decode prog_6_method_22_code 96 = .ok (.aload_n 0, 1) := by decide +kernel
theorem d_Mach_doPlace_97 : decode prog_6_method_22_code 97 = .ok (.getfield 13, 3) := by decide +kernel
theorem d_Mach_doPlace_100 : decode prog_6_method_22_code 100 = .ok (.aload_n 0, 1) := by decide +kernel
theorem d_Mach_doPlace_101 : decode prog_6_method_22_code 101 = .ok (.iload_n 2, 1) := by decide +kernel
theorem d_Mach_doPlace_102 : decode prog_6_method_22_code 102 = .ok (.invokevirtual 194, 3) := by decide +kernel
theorem d_Mach_doPlace_105 : decode prog_6_method_22_code 105 = .ok (.aload_n 0, 1) := by decide +kernel
theorem d_Mach_doPlace_106 : decode prog_6_method_22_code 106 = .ok (.getfield 13, 3) := by decide +kernel
theorem d_Mach_doPlace_109 : decode prog_6_method_22_code 109 = .ok (.iload_n 3, 1) := by decide +kernel
theorem d_Mach_doPlace_110 : decode prog_6_method_22_code 110 = .ok (.laload, 1) := by decide +kernel
theorem d_Mach_doPlace_111 : decode prog_6_method_22_code 111 = .ok (.lastore, 1) := by decide +kernel
theorem d_Mach_doPlace_112 : decode prog_6_method_22_code 112 = .ok (.goto 110, 3) := by decide +kernel
theorem d_Mach_doPlace_115 : decode prog_6_method_22_code 115 = .ok (.aload_n 0, 1) := by decide +kernel
theorem d_Mach_doPlace_116 : decode prog_6_method_22_code 116 = .ok (.aload_n 0, 1) := by decide +kernel
theorem d_Mach_doPlace_117 : decode prog_6_method_22_code 117 = .ok (.getfield 29, 3) := by decide +kernel
theorem d_Mach_doPlace_120 : decode prog_6_method_22_code 120 = .ok (.aload_n 0, 1) := by decide +kernel
theorem d_Mach_doPlace_121 : decode prog_6_method_22_code 121 = .ok (.getfield 62, 3) := by decide +kernel
theorem d_Mach_doPlace_124 : decode prog_6_method_22_code 124 = .ok (.iload_n 2, 1) := by decide +kernel
theorem d_Mach_doPlace_125 : decode prog_6_method_22_code 125 = .ok (.invokevirtual 148, 3) := by decide +kernel
theorem d_Mach_doPlace_128 : decode prog_6_method_22_code 128 = .ok (.invokevirtual 197, 3) := by decide +kernel
theorem w_1189 : (Cond.methodLink "StowTongue$Machine" 197 ⟨"StowTongue$Store", "rootAt", "(J)I"⟩ : Cond) ∈ am_tbl := am_w 1189 (by decide +kernel) (by decide +kernel)
theorem l_Mach_197 : am_L "StowTongue$Machine" 197 1 m_Store_rootAt := ⟨Or.inl w_1189, w_169, w_1192, ⟨by decide, by decide⟩, by decide +kernel, by decide⟩
theorem d_Mach_doPlace_131 : decode prog_6_method_22_code 131 = .ok (.invokevirtual 200, 3) := by decide +kernel
theorem w_1193 : (Cond.methodLink "StowTongue$Machine" 200 ⟨"StowTongue$Machine", "loadRoot", "(I)V"⟩ : Cond) ∈ am_tbl := am_w 1193 (by decide +kernel) (by decide +kernel)
set_option maxRecDepth 100000 in
theorem w_1196 : (Cond.code ⟨"StowTongue$Machine", "loadRoot", "(I)V"⟩ prog_6_method_24_code 2 none : Cond) ∈ am_tbl := am_w 1196 rfl rfl
theorem l_Mach_200 : am_L "StowTongue$Machine" 200 1 m_Mach_loadRoot := ⟨Or.inl w_1193, w_157, w_1196, ⟨by decide, by decide⟩, by decide +kernel, by decide⟩
theorem w_1195 : (Cond.instanceMethod ⟨"StowTongue$Machine", "loadRoot", "(I)V"⟩ : Cond) ∈ am_tbl := am_w 1195 (by decide +kernel) (by decide +kernel)
theorem w_57 : (Cond.selects "StowTongue$Machine" ⟨"StowTongue$Machine", "loadRoot", "(I)V"⟩ ⟨"StowTongue$Machine", "loadRoot", "(I)V"⟩ : Cond) ∈ am_tbl := am_w 57 (by decide +kernel) (by decide +kernel)
theorem d_Mach_doPlace_134 : decode prog_6_method_22_code 134 = .ok (.goto 88, 3) := by decide +kernel
theorem d_Mach_doPlace_137 : decode prog_6_method_22_code 137 = .ok (.aload_n 0, 1) := by decide +kernel
theorem d_Mach_doPlace_138 : decode prog_6_method_22_code 138 = .ok (.iload_n 3, 1) := by decide +kernel
theorem d_Mach_doPlace_139 : decode prog_6_method_22_code 139 = .ok (.putfield 54, 3) := by decide +kernel
theorem d_Mach_doPlace_142 : decode prog_6_method_22_code 142 = .ok (.aload_n 0, 1) := by decide +kernel
theorem d_Mach_doPlace_143 : decode prog_6_method_22_code 143 = .ok (.getfield 29, 3) := by decide +kernel
theorem d_Mach_doPlace_146 : decode prog_6_method_22_code 146 = .ok (.aload_n 0, 1) := by decide +kernel
theorem d_Mach_doPlace_147 : decode prog_6_method_22_code 147 = .ok (.getfield 62, 3) := by decide +kernel
theorem d_Mach_doPlace_150 : decode prog_6_method_22_code 150 = .ok (.iload_n 2, 1) := by decide +kernel
theorem d_Mach_doPlace_151 : decode prog_6_method_22_code 151 = .ok (.invokevirtual 148, 3) := by decide +kernel
theorem d_Mach_doPlace_154 : decode prog_6_method_22_code 154 = .ok (.aload_n 0, 1) := by decide +kernel
theorem d_Mach_doPlace_155 : decode prog_6_method_22_code 155 = .ok (.getfield 7, 3) := by decide +kernel
theorem d_Mach_doPlace_158 : decode prog_6_method_22_code 158 = .ok (.iload_n 3, 1) := by decide +kernel
theorem d_Mach_doPlace_159 : decode prog_6_method_22_code 159 = .ok (.laload, 1) := by decide +kernel
theorem d_Mach_doPlace_160 : decode prog_6_method_22_code 160 = .ok (.aload_n 0, 1) := by decide +kernel
theorem d_Mach_doPlace_161 : decode prog_6_method_22_code 161 = .ok (.getfield 13, 3) := by decide +kernel
theorem d_Mach_doPlace_164 : decode prog_6_method_22_code 164 = .ok (.iload_n 3, 1) := by decide +kernel
theorem d_Mach_doPlace_165 : decode prog_6_method_22_code 165 = .ok (.laload, 1) := by decide +kernel
theorem d_Mach_doPlace_166 : decode prog_6_method_22_code 166 = .ok (.invokevirtual 203, 3) := by decide +kernel
theorem w_1197 : (Cond.methodLink "StowTongue$Machine" 203 ⟨"StowTongue$Store", "setRoot", "(JJJ)Z"⟩ : Cond) ∈ am_tbl := am_w 1197 (by decide +kernel) (by decide +kernel)
set_option maxRecDepth 100000 in
theorem w_1200 : (Cond.code ⟨"StowTongue$Store", "setRoot", "(JJJ)Z"⟩ prog_9_method_16_code 8 (some FieldType.boolean) : Cond) ∈ am_tbl := am_w 1200 rfl rfl
theorem l_Mach_203 : am_L "StowTongue$Machine" 203 3 m_Store_setRoot := ⟨Or.inl w_1197, w_169, w_1200, ⟨by decide, by decide⟩, by decide +kernel, by decide⟩
theorem w_1198 : (Cond.instanceMethod ⟨"StowTongue$Store", "setRoot", "(JJJ)Z"⟩ : Cond) ∈ am_tbl := am_w 1198 (by decide +kernel) (by decide +kernel)
theorem w_1199 : (Cond.selects "StowTongue$Store" ⟨"StowTongue$Store", "setRoot", "(JJJ)Z"⟩ ⟨"StowTongue$Store", "setRoot", "(JJJ)Z"⟩ : Cond) ∈ am_tbl := am_w 1199 (by decide +kernel) (by decide +kernel)
theorem d_Mach_doPlace_169 : decode prog_6_method_22_code 169 = .ok (.ifCond .ne 53, 3) := by decide +kernel
theorem d_Mach_doPlace_172 : decode prog_6_method_22_code 172 = .ok (.aload_n 0, 1) := by decide +kernel
theorem d_Mach_doPlace_173 : decode prog_6_method_22_code 173 = .ok (.bipush 8, 2) := by decide +kernel
theorem d_Mach_doPlace_175 : decode prog_6_method_22_code 175 = .ok (.invokevirtual 106, 3) := by decide +kernel
theorem d_Mach_doPlace_178 : decode prog_6_method_22_code 178 = .ok (.goto 44, 3) := by decide +kernel
theorem d_Mach_doPlace_181 : decode prog_6_method_22_code 181 = .ok (.aload_n 0, 1) := by decide +kernel
theorem d_Mach_doPlace_182 : decode prog_6_method_22_code 182 = .ok (.aload_n 0, 1) := by decide +kernel
theorem d_Mach_doPlace_183 : decode prog_6_method_22_code 183 = .ok (.getfield 62, 3) := by decide +kernel
theorem d_Mach_doPlace_186 : decode prog_6_method_22_code 186 = .ok (.iload_n 2, 1) := by decide +kernel
theorem d_Mach_doPlace_187 : decode prog_6_method_22_code 187 = .ok (.invokevirtual 148, 3) := by decide +kernel
theorem d_Mach_doPlace_190 : decode prog_6_method_22_code 190 = .ok (.invokevirtual 207, 3) := by decide +kernel
theorem w_1207 : (Cond.methodLink "StowTongue$Machine" 207 ⟨"StowTongue$Machine", "loadField", "(J)V"⟩ : Cond) ∈ am_tbl := am_w 1207 (by decide +kernel) (by decide +kernel)
set_option maxRecDepth 100000 in
theorem w_1210 : (Cond.code ⟨"StowTongue$Machine", "loadField", "(J)V"⟩ prog_6_method_25_code 5 none : Cond) ∈ am_tbl := am_w 1210 rfl rfl
theorem l_Mach_207 : am_L "StowTongue$Machine" 207 1 m_Mach_loadField := ⟨Or.inl w_1207, w_157, w_1210, ⟨by decide, by decide⟩, by decide +kernel, by decide⟩
theorem w_1209 : (Cond.instanceMethod ⟨"StowTongue$Machine", "loadField", "(J)V"⟩ : Cond) ∈ am_tbl := am_w 1209 (by decide +kernel) (by decide +kernel)
theorem w_59 : (Cond.selects "StowTongue$Machine" ⟨"StowTongue$Machine", "loadField", "(J)V"⟩ ⟨"StowTongue$Machine", "loadField", "(J)V"⟩ : Cond) ∈ am_tbl := am_w 59 (by decide +kernel) (by decide +kernel)
theorem d_Mach_doPlace_193 : decode prog_6_method_22_code 193 = .ok (.goto 29, 3) := by decide +kernel
theorem d_Mach_doPlace_196 : decode prog_6_method_22_code 196 = .ok (.aload_n 0, 1) := by decide +kernel
theorem d_Mach_doPlace_197 : decode prog_6_method_22_code 197 = .ok (.aload_n 0, 1) := by decide +kernel
theorem d_Mach_doPlace_198 : decode prog_6_method_22_code 198 = .ok (.getfield 62, 3) := by decide +kernel
theorem d_Mach_doPlace_201 : decode prog_6_method_22_code 201 = .ok (.iload_n 2, 1) := by decide +kernel
theorem d_Mach_doPlace_202 : decode prog_6_method_22_code 202 = .ok (.invokevirtual 148, 3) := by decide +kernel
theorem d_Mach_doPlace_205 : decode prog_6_method_22_code 205 = .ok (.invokevirtual 210, 3) := by decide +kernel
theorem w_1227 : (Cond.methodLink "StowTongue$Machine" 210 ⟨"StowTongue$Machine", "storeField", "(J)V"⟩ : Cond) ∈ am_tbl := am_w 1227 (by decide +kernel) (by decide +kernel)
set_option maxRecDepth 100000 in
theorem w_1230 : (Cond.code ⟨"StowTongue$Machine", "storeField", "(J)V"⟩ prog_6_method_26_code 5 none : Cond) ∈ am_tbl := am_w 1230 rfl rfl
theorem l_Mach_210 : am_L "StowTongue$Machine" 210 1 m_Mach_storeField := ⟨Or.inl w_1227, w_157, w_1230, ⟨by decide, by decide⟩, by decide +kernel, by decide⟩
theorem w_1229 : (Cond.instanceMethod ⟨"StowTongue$Machine", "storeField", "(J)V"⟩ : Cond) ∈ am_tbl := am_w 1229 (by decide +kernel) (by decide +kernel)
theorem w_61 : (Cond.selects "StowTongue$Machine" ⟨"StowTongue$Machine", "storeField", "(J)V"⟩ ⟨"StowTongue$Machine", "storeField", "(J)V"⟩ : Cond) ∈ am_tbl := am_w 61 (by decide +kernel) (by decide +kernel)
theorem d_Mach_doPlace_208 : decode prog_6_method_22_code 208 = .ok (.goto 14, 3) := by decide +kernel
theorem d_Mach_doPlace_211 : decode prog_6_method_22_code 211 = .ok (.aload_n 0, 1) := by decide +kernel
theorem d_Mach_doPlace_212 : decode prog_6_method_22_code 212 = .ok (.invokevirtual 213, 3) := by decide +kernel
theorem w_1248 : (Cond.methodLink "StowTongue$Machine" 213 ⟨"StowTongue$Machine", "loadItem", "()V"⟩ : Cond) ∈ am_tbl := am_w 1248 (by decide +kernel) (by decide +kernel)
set_option maxRecDepth 100000 in
theorem w_1251 : (Cond.code ⟨"StowTongue$Machine", "loadItem", "()V"⟩ prog_6_method_28_code 4 none : Cond) ∈ am_tbl := am_w 1251 rfl rfl
theorem l_Mach_213 : am_L "StowTongue$Machine" 213 0 m_Mach_loadItem := ⟨Or.inl w_1248, w_157, w_1251, ⟨by decide, by decide⟩, by decide +kernel, by decide⟩
theorem w_1250 : (Cond.instanceMethod ⟨"StowTongue$Machine", "loadItem", "()V"⟩ : Cond) ∈ am_tbl := am_w 1250 (by decide +kernel) (by decide +kernel)
theorem w_63 : (Cond.selects "StowTongue$Machine" ⟨"StowTongue$Machine", "loadItem", "()V"⟩ ⟨"StowTongue$Machine", "loadItem", "()V"⟩ : Cond) ∈ am_tbl := am_w 63 (by decide +kernel) (by decide +kernel)
theorem d_Mach_doPlace_215 : decode prog_6_method_22_code 215 = .ok (.goto 7, 3) := by decide +kernel
theorem d_Mach_doPlace_218 : decode prog_6_method_22_code 218 = .ok (.aload_n 0, 1) := by decide +kernel
theorem d_Mach_doPlace_219 : decode prog_6_method_22_code 219 = .ok (.invokevirtual 216, 3) := by decide +kernel
theorem w_1261 : (Cond.methodLink "StowTongue$Machine" 216 ⟨"StowTongue$Machine", "storeItem", "()V"⟩ : Cond) ∈ am_tbl := am_w 1261 (by decide +kernel) (by decide +kernel)
set_option maxRecDepth 100000 in
theorem w_1264 : (Cond.code ⟨"StowTongue$Machine", "storeItem", "()V"⟩ prog_6_method_29_code 5 none : Cond) ∈ am_tbl := am_w 1264 rfl rfl
theorem l_Mach_216 : am_L "StowTongue$Machine" 216 0 m_Mach_storeItem := ⟨Or.inl w_1261, w_157, w_1264, ⟨by decide, by decide⟩, by decide +kernel, by decide⟩
theorem w_1263 : (Cond.instanceMethod ⟨"StowTongue$Machine", "storeItem", "()V"⟩ : Cond) ∈ am_tbl := am_w 1263 (by decide +kernel) (by decide +kernel)
theorem w_65 : (Cond.selects "StowTongue$Machine" ⟨"StowTongue$Machine", "storeItem", "()V"⟩ ⟨"StowTongue$Machine", "storeItem", "()V"⟩ : Cond) ∈ am_tbl := am_w 65 (by decide +kernel) (by decide +kernel)
abbrev m_Mach_perform : am_M := (⟨"StowTongue$Machine", "perform", "(LStowTongue$Unit;LStowTongue$Store;LStowTongue$Out;I)I"⟩, prog_6_method_3_code, 8, (some FieldType.int))
theorem d_Mach_perform_0 : decode prog_6_method_3_code 0 = .ok (.aload_n 0, 1) := by decide +kernel
theorem d_Mach_perform_1 : decode prog_6_method_3_code 1 = .ok (.aload_n 2, 1) := by decide +kernel
theorem d_Mach_perform_2 : decode prog_6_method_3_code 2 = .ok (.putfield 29, 3) := by decide +kernel
theorem d_Mach_perform_5 : decode prog_6_method_3_code 5 = .ok (.aload_n 0, 1) := by decide +kernel
theorem d_Mach_perform_6 : decode prog_6_method_3_code 6 = .ok (.aload_n 3, 1) := by decide +kernel
theorem d_Mach_perform_7 : decode prog_6_method_3_code 7 = .ok (.putfield 33, 3) := by decide +kernel
theorem d_Mach_perform_10 : decode prog_6_method_3_code 10 = .ok (.aload_n 0, 1) := by decide +kernel
theorem d_Mach_perform_11 : decode prog_6_method_3_code 11 = .ok (.iload 4, 2) := by decide +kernel
theorem d_Mach_perform_13 : decode prog_6_method_3_code 13 = .ok (.putfield 37, 3) := by decide +kernel
theorem d_Mach_perform_16 : decode prog_6_method_3_code 16 = .ok (.aload_n 0, 1) := by decide +kernel
theorem d_Mach_perform_17 : decode prog_6_method_3_code 17 = .ok (.iconst 0, 1) := by decide +kernel
theorem d_Mach_perform_18 : decode prog_6_method_3_code 18 = .ok (.putfield 41, 3) := by decide +kernel
theorem d_Mach_perform_21 : decode prog_6_method_3_code 21 = .ok (.aload_n 0, 1) := by decide +kernel
theorem d_Mach_perform_22 : decode prog_6_method_3_code 22 = .ok (.iconst 0, 1) := by decide +kernel
theorem d_Mach_perform_23 : decode prog_6_method_3_code 23 = .ok (.putfield 44, 3) := by decide +kernel
theorem d_Mach_perform_26 : decode prog_6_method_3_code 26 = .ok (.aload_n 0, 1) := by decide +kernel
theorem d_Mach_perform_27 : decode prog_6_method_3_code 27 = .ok (.iconst 0, 1) := by decide +kernel
theorem d_Mach_perform_28 : decode prog_6_method_3_code 28 = .ok (.putfield 47, 3) := by decide +kernel
theorem d_Mach_perform_31 : decode prog_6_method_3_code 31 = .ok (.aload_n 0, 1) := by decide +kernel
theorem d_Mach_perform_32 : decode prog_6_method_3_code 32 = .ok (.iconst 0, 1) := by decide +kernel
theorem d_Mach_perform_33 : decode prog_6_method_3_code 33 = .ok (.putfield 51, 3) := by decide +kernel
theorem d_Mach_perform_36 : decode prog_6_method_3_code 36 = .ok (.aload_n 0, 1) := by decide +kernel
theorem d_Mach_perform_37 : decode prog_6_method_3_code 37 = .ok (.iconst 0, 1) := by decide +kernel
theorem d_Mach_perform_38 : decode prog_6_method_3_code 38 = .ok (.putfield 54, 3) := by decide +kernel
theorem d_Mach_perform_41 : decode prog_6_method_3_code 41 = .ok (.aload_n 0, 1) := by decide +kernel
theorem d_Mach_perform_42 : decode prog_6_method_3_code 42 = .ok (.aload_n 1, 1) := by decide +kernel
theorem d_Mach_perform_43 : decode prog_6_method_3_code 43 = .ok (.iconst 0, 1) := by decide +kernel
theorem d_Mach_perform_44 : decode prog_6_method_3_code 44 = .ok (.invokevirtual 57, 3) := by decide +kernel
theorem d_Mach_perform_47 : decode prog_6_method_3_code 47 = .ok (.iconst 0, 1) := by decide +kernel
theorem d_Mach_perform_48 : decode prog_6_method_3_code 48 = .ok (.istore 5, 2) := by decide +kernel
theorem d_Mach_perform_50 : decode prog_6_method_3_code 50 = .ok (.iload 5, 2) := by decide +kernel
theorem d_Mach_perform_52 : decode prog_6_method_3_code 52 = .ok (.ldc 61, 2) := by decide +kernel
theorem w_1087 : (Cond.constant "StowTongue$Machine" 61 100000000 : Cond) ∈ am_tbl := am_w 1087 (by decide +kernel) (by decide +kernel)
theorem d_Mach_perform_54 : decode prog_6_method_3_code 54 = .ok (.if_icmp .ge 137, 3) := by decide +kernel
theorem d_Mach_perform_191 : decode prog_6_method_3_code 191 = .ok (.aload_n 0, 1) := by decide +kernel
theorem d_Mach_perform_192 : decode prog_6_method_3_code 192 = .ok (.getfield 44, 3) := by decide +kernel
theorem d_Mach_perform_195 : decode prog_6_method_3_code 195 = .ok (.ireturn, 1) := by decide +kernel
theorem d_Mach_perform_57 : decode prog_6_method_3_code 57 = .ok (.aload_n 0, 1) := by decide +kernel
theorem d_Mach_perform_58 : decode prog_6_method_3_code 58 = .ok (.getfield 47, 3) := by decide +kernel
theorem d_Mach_perform_61 : decode prog_6_method_3_code 61 = .ok (.ifCond .ne 130, 3) := by decide +kernel
theorem d_Mach_perform_64 : decode prog_6_method_3_code 64 = .ok (.aload_n 0, 1) := by decide +kernel
theorem d_Mach_perform_65 : decode prog_6_method_3_code 65 = .ok (.getfield 62, 3) := by decide +kernel
theorem d_Mach_perform_68 : decode prog_6_method_3_code 68 = .ok (.ifnull 123, 3) := by decide +kernel
theorem d_Mach_perform_71 : decode prog_6_method_3_code 71 = .ok (.aload_n 0, 1) := by decide +kernel
theorem d_Mach_perform_72 : decode prog_6_method_3_code 72 = .ok (.getfield 62, 3) := by decide +kernel
theorem d_Mach_perform_75 : decode prog_6_method_3_code 75 = .ok (.aload_n 0, 1) := by decide +kernel
theorem d_Mach_perform_76 : decode prog_6_method_3_code 76 = .ok (.getfield 66, 3) := by decide +kernel
theorem d_Mach_perform_79 : decode prog_6_method_3_code 79 = .ok (.invokevirtual 69, 3) := by decide +kernel
theorem w_1088 : (Cond.methodLink "StowTongue$Machine" 69 ⟨"StowTongue$Unit", "op", "(I)I"⟩ : Cond) ∈ am_tbl := am_w 1088 (by decide +kernel) (by decide +kernel)
set_option maxRecDepth 100000 in
theorem w_1091 : (Cond.code ⟨"StowTongue$Unit", "op", "(I)I"⟩ prog_11_method_6_code 3 (some FieldType.int) : Cond) ∈ am_tbl := am_w 1091 rfl rfl
theorem l_Mach_69 : am_L "StowTongue$Machine" 69 1 m_Unit_op := ⟨Or.inl w_1088, w_156, w_1091, ⟨by decide, by decide⟩, by decide +kernel, by decide⟩
theorem w_1089 : (Cond.instanceMethod ⟨"StowTongue$Unit", "op", "(I)I"⟩ : Cond) ∈ am_tbl := am_w 1089 (by decide +kernel) (by decide +kernel)
theorem w_1090 : (Cond.selects "StowTongue$Unit" ⟨"StowTongue$Unit", "op", "(I)I"⟩ ⟨"StowTongue$Unit", "op", "(I)I"⟩ : Cond) ∈ am_tbl := am_w 1090 (by decide +kernel) (by decide +kernel)
theorem d_Mach_perform_82 : decode prog_6_method_3_code 82 = .ok (.istore 6, 2) := by decide +kernel
theorem d_Mach_perform_84 : decode prog_6_method_3_code 84 = .ok (.aload_n 0, 1) := by decide +kernel
theorem d_Mach_perform_85 : decode prog_6_method_3_code 85 = .ok (.getfield 62, 3) := by decide +kernel
theorem d_Mach_perform_88 : decode prog_6_method_3_code 88 = .ok (.aload_n 0, 1) := by decide +kernel
theorem d_Mach_perform_89 : decode prog_6_method_3_code 89 = .ok (.getfield 66, 3) := by decide +kernel
theorem d_Mach_perform_92 : decode prog_6_method_3_code 92 = .ok (.invokevirtual 73, 3) := by decide +kernel
theorem w_1092 : (Cond.methodLink "StowTongue$Machine" 73 ⟨"StowTongue$Unit", "argument", "(I)I"⟩ : Cond) ∈ am_tbl := am_w 1092 (by decide +kernel) (by decide +kernel)
set_option maxRecDepth 100000 in
theorem w_1095 : (Cond.code ⟨"StowTongue$Unit", "argument", "(I)I"⟩ prog_11_method_7_code 3 (some FieldType.int) : Cond) ∈ am_tbl := am_w 1095 rfl rfl
theorem l_Mach_73 : am_L "StowTongue$Machine" 73 1 m_Unit_argument := ⟨Or.inl w_1092, w_156, w_1095, ⟨by decide, by decide⟩, by decide +kernel, by decide⟩
theorem w_1093 : (Cond.instanceMethod ⟨"StowTongue$Unit", "argument", "(I)I"⟩ : Cond) ∈ am_tbl := am_w 1093 (by decide +kernel) (by decide +kernel)
theorem w_1094 : (Cond.selects "StowTongue$Unit" ⟨"StowTongue$Unit", "argument", "(I)I"⟩ ⟨"StowTongue$Unit", "argument", "(I)I"⟩ : Cond) ∈ am_tbl := am_w 1094 (by decide +kernel) (by decide +kernel)
theorem d_Mach_perform_95 : decode prog_6_method_3_code 95 = .ok (.istore 7, 2) := by decide +kernel
theorem d_Mach_perform_97 : decode prog_6_method_3_code 97 = .ok (.aload_n 0, 1) := by decide +kernel
theorem d_Mach_perform_98 : decode prog_6_method_3_code 98 = .ok (.dup, 1) := by decide +kernel
theorem d_Mach_perform_99 : decode prog_6_method_3_code 99 = .ok (.getfield 66, 3) := by decide +kernel
theorem d_Mach_perform_102 : decode prog_6_method_3_code 102 = .ok (.iconst 1, 1) := by decide +kernel
theorem d_Mach_perform_103 : decode prog_6_method_3_code 103 = .ok (.iadd, 1) := by decide +kernel
theorem d_Mach_perform_104 : decode prog_6_method_3_code 104 = .ok (.putfield 66, 3) := by decide +kernel
theorem d_Mach_perform_107 : decode prog_6_method_3_code 107 = .ok (.iload 6, 2) := by decide +kernel
theorem d_Mach_perform_109 : decode prog_6_method_3_code 109 = .ok (.bipush 9, 2) := by decide +kernel
theorem d_Mach_perform_111 : decode prog_6_method_3_code 111 = .ok (.if_icmp .gt 14, 3) := by decide +kernel
theorem d_Mach_perform_125 : decode prog_6_method_3_code 125 = .ok (.iload 6, 2) := by decide +kernel
theorem d_Mach_perform_127 : decode prog_6_method_3_code 127 = .ok (.bipush 12, 2) := by decide +kernel
theorem d_Mach_perform_129 : decode prog_6_method_3_code 129 = .ok (.if_icmp .gt 14, 3) := by decide +kernel
theorem d_Mach_perform_143 : decode prog_6_method_3_code 143 = .ok (.iload 6, 2) := by decide +kernel
theorem d_Mach_perform_145 : decode prog_6_method_3_code 145 = .ok (.bipush 20, 2) := by decide +kernel
theorem d_Mach_perform_147 : decode prog_6_method_3_code 147 = .ok (.if_icmp .gt 14, 3) := by decide +kernel
theorem d_Mach_perform_161 : decode prog_6_method_3_code 161 = .ok (.iload 6, 2) := by decide +kernel
theorem d_Mach_perform_163 : decode prog_6_method_3_code 163 = .ok (.bipush 25, 2) := by decide +kernel
theorem d_Mach_perform_165 : decode prog_6_method_3_code 165 = .ok (.if_icmp .gt 14, 3) := by decide +kernel
theorem d_Mach_perform_179 : decode prog_6_method_3_code 179 = .ok (.aload_n 0, 1) := by decide +kernel
theorem d_Mach_perform_180 : decode prog_6_method_3_code 180 = .ok (.iload 6, 2) := by decide +kernel
theorem d_Mach_perform_182 : decode prog_6_method_3_code 182 = .ok (.invokevirtual 89, 3) := by decide +kernel
theorem w_1298 : (Cond.methodLink "StowTongue$Machine" 89 ⟨"StowTongue$Machine", "doReckoning", "(I)V"⟩ : Cond) ∈ am_tbl := am_w 1298 (by decide +kernel) (by decide +kernel)
set_option maxRecDepth 100000 in
theorem w_1301 : (Cond.code ⟨"StowTongue$Machine", "doReckoning", "(I)V"⟩ prog_6_method_36_code 5 none : Cond) ∈ am_tbl := am_w 1301 rfl rfl
theorem l_Mach_89 : am_L "StowTongue$Machine" 89 1 m_Mach_doReckoning := ⟨Or.inl w_1298, w_157, w_1301, ⟨by decide, by decide⟩, by decide +kernel, by decide⟩
theorem w_1300 : (Cond.instanceMethod ⟨"StowTongue$Machine", "doReckoning", "(I)V"⟩ : Cond) ∈ am_tbl := am_w 1300 (by decide +kernel) (by decide +kernel)
theorem w_72 : (Cond.selects "StowTongue$Machine" ⟨"StowTongue$Machine", "doReckoning", "(I)V"⟩ ⟨"StowTongue$Machine", "doReckoning", "(I)V"⟩ : Cond) ∈ am_tbl := am_w 72 (by decide +kernel) (by decide +kernel)
theorem d_Mach_perform_185 : decode prog_6_method_3_code 185 = .ok (.iinc 5 1, 3) := by decide +kernel
theorem d_Mach_perform_188 : decode prog_6_method_3_code 188 = .ok (.goto (-138), 3) := by decide +kernel
theorem d_Mach_perform_168 : decode prog_6_method_3_code 168 = .ok (.aload_n 0, 1) := by decide +kernel
theorem d_Mach_perform_169 : decode prog_6_method_3_code 169 = .ok (.iload 6, 2) := by decide +kernel
theorem d_Mach_perform_171 : decode prog_6_method_3_code 171 = .ok (.iload 7, 2) := by decide +kernel
theorem d_Mach_perform_173 : decode prog_6_method_3_code 173 = .ok (.invokevirtual 86, 3) := by decide +kernel
theorem w_1265 : (Cond.methodLink "StowTongue$Machine" 86 ⟨"StowTongue$Machine", "doObject", "(II)V"⟩ : Cond) ∈ am_tbl := am_w 1265 (by decide +kernel) (by decide +kernel)
set_option maxRecDepth 100000 in
theorem w_1268 : (Cond.code ⟨"StowTongue$Machine", "doObject", "(II)V"⟩ prog_6_method_30_code 3 none : Cond) ∈ am_tbl := am_w 1268 rfl rfl
theorem l_Mach_86 : am_L "StowTongue$Machine" 86 2 m_Mach_doObject := ⟨Or.inl w_1265, w_157, w_1268, ⟨by decide, by decide⟩, by decide +kernel, by decide⟩
theorem w_1267 : (Cond.instanceMethod ⟨"StowTongue$Machine", "doObject", "(II)V"⟩ : Cond) ∈ am_tbl := am_w 1267 (by decide +kernel) (by decide +kernel)
theorem w_66 : (Cond.selects "StowTongue$Machine" ⟨"StowTongue$Machine", "doObject", "(II)V"⟩ ⟨"StowTongue$Machine", "doObject", "(II)V"⟩ : Cond) ∈ am_tbl := am_w 66 (by decide +kernel) (by decide +kernel)
theorem d_Mach_perform_176 : decode prog_6_method_3_code 176 = .ok (.goto 9, 3) := by decide +kernel
theorem d_Mach_perform_150 : decode prog_6_method_3_code 150 = .ok (.aload_n 0, 1) := by decide +kernel
theorem d_Mach_perform_151 : decode prog_6_method_3_code 151 = .ok (.iload 6, 2) := by decide +kernel
theorem d_Mach_perform_153 : decode prog_6_method_3_code 153 = .ok (.iload 7, 2) := by decide +kernel
theorem d_Mach_perform_155 : decode prog_6_method_3_code 155 = .ok (.invokevirtual 83, 3) := by decide +kernel
theorem w_1181 : (Cond.methodLink "StowTongue$Machine" 83 ⟨"StowTongue$Machine", "doPlace", "(II)V"⟩ : Cond) ∈ am_tbl := am_w 1181 (by decide +kernel) (by decide +kernel)
set_option maxRecDepth 100000 in
theorem w_1184 : (Cond.code ⟨"StowTongue$Machine", "doPlace", "(II)V"⟩ prog_6_method_22_code 4 none : Cond) ∈ am_tbl := am_w 1184 rfl rfl
theorem l_Mach_83 : am_L "StowTongue$Machine" 83 2 m_Mach_doPlace := ⟨Or.inl w_1181, w_157, w_1184, ⟨by decide, by decide⟩, by decide +kernel, by decide⟩
theorem w_1183 : (Cond.instanceMethod ⟨"StowTongue$Machine", "doPlace", "(II)V"⟩ : Cond) ∈ am_tbl := am_w 1183 (by decide +kernel) (by decide +kernel)
theorem w_55 : (Cond.selects "StowTongue$Machine" ⟨"StowTongue$Machine", "doPlace", "(II)V"⟩ ⟨"StowTongue$Machine", "doPlace", "(II)V"⟩ : Cond) ∈ am_tbl := am_w 55 (by decide +kernel) (by decide +kernel)
theorem d_Mach_perform_158 : decode prog_6_method_3_code 158 = .ok (.goto 27, 3) := by decide +kernel
theorem d_Mach_perform_132 : decode prog_6_method_3_code 132 = .ok (.aload_n 0, 1) := by decide +kernel
theorem d_Mach_perform_133 : decode prog_6_method_3_code 133 = .ok (.iload 6, 2) := by decide +kernel
theorem d_Mach_perform_135 : decode prog_6_method_3_code 135 = .ok (.iload 7, 2) := by decide +kernel
theorem d_Mach_perform_137 : decode prog_6_method_3_code 137 = .ok (.invokevirtual 80, 3) := by decide +kernel
theorem w_1172 : (Cond.methodLink "StowTongue$Machine" 80 ⟨"StowTongue$Machine", "doConstant", "(II)V"⟩ : Cond) ∈ am_tbl := am_w 1172 (by decide +kernel) (by decide +kernel)
set_option maxRecDepth 100000 in
theorem w_1175 : (Cond.code ⟨"StowTongue$Machine", "doConstant", "(II)V"⟩ prog_6_method_21_code 3 none : Cond) ∈ am_tbl := am_w 1175 rfl rfl
theorem l_Mach_80 : am_L "StowTongue$Machine" 80 2 m_Mach_doConstant := ⟨Or.inl w_1172, w_157, w_1175, ⟨by decide, by decide⟩, by decide +kernel, by decide⟩
theorem w_1174 : (Cond.instanceMethod ⟨"StowTongue$Machine", "doConstant", "(II)V"⟩ : Cond) ∈ am_tbl := am_w 1174 (by decide +kernel) (by decide +kernel)
theorem w_53 : (Cond.selects "StowTongue$Machine" ⟨"StowTongue$Machine", "doConstant", "(II)V"⟩ ⟨"StowTongue$Machine", "doConstant", "(II)V"⟩ : Cond) ∈ am_tbl := am_w 53 (by decide +kernel) (by decide +kernel)
theorem d_Mach_perform_140 : decode prog_6_method_3_code 140 = .ok (.goto 45, 3) := by decide +kernel
theorem d_Mach_perform_114 : decode prog_6_method_3_code 114 = .ok (.aload_n 0, 1) := by decide +kernel
theorem d_Mach_perform_115 : decode prog_6_method_3_code 115 = .ok (.iload 6, 2) := by decide +kernel
theorem d_Mach_perform_117 : decode prog_6_method_3_code 117 = .ok (.iload 7, 2) := by decide +kernel
theorem d_Mach_perform_119 : decode prog_6_method_3_code 119 = .ok (.invokevirtual 76, 3) := by decide +kernel
theorem w_1096 : (Cond.methodLink "StowTongue$Machine" 76 ⟨"StowTongue$Machine", "doFlow", "(II)V"⟩ : Cond) ∈ am_tbl := am_w 1096 (by decide +kernel) (by decide +kernel)
set_option maxRecDepth 100000 in
theorem w_1099 : (Cond.code ⟨"StowTongue$Machine", "doFlow", "(II)V"⟩ prog_6_method_15_code 5 none : Cond) ∈ am_tbl := am_w 1099 rfl rfl
theorem l_Mach_76 : am_L "StowTongue$Machine" 76 2 m_Mach_doFlow := ⟨Or.inl w_1096, w_157, w_1099, ⟨by decide, by decide⟩, by decide +kernel, by decide⟩
theorem w_1098 : (Cond.instanceMethod ⟨"StowTongue$Machine", "doFlow", "(II)V"⟩ : Cond) ∈ am_tbl := am_w 1098 (by decide +kernel) (by decide +kernel)
theorem w_46 : (Cond.selects "StowTongue$Machine" ⟨"StowTongue$Machine", "doFlow", "(II)V"⟩ ⟨"StowTongue$Machine", "doFlow", "(II)V"⟩ : Cond) ∈ am_tbl := am_w 46 (by decide +kernel) (by decide +kernel)
theorem d_Mach_perform_122 : decode prog_6_method_3_code 122 = .ok (.goto 63, 3) := by decide +kernel
