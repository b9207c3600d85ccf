abbrev m_SL1_indexOfChar : am_M := (⟨"java/lang/StringLatin1", "indexOfChar", "([BIII)I"⟩, prog_23_method_23_code, 6, (some FieldType.int))
theorem d_SL1_indexOfChar_0 : decode prog_23_method_23_code 0 = .ok (.iload_n 1, 1) := by decide +kernel
theorem d_SL1_indexOfChar_1 : decode prog_23_method_23_code 1 = .ok (.i2b, 1) := by decide +kernel
theorem d_SL1_indexOfChar_2 : decode prog_23_method_23_code 2 = .ok (.istore 4, 2) := by decide +kernel
theorem d_SL1_indexOfChar_4 : decode prog_23_method_23_code 4 = .ok (.iload_n 2, 1) := by decide +kernel
theorem d_SL1_indexOfChar_5 : decode prog_23_method_23_code 5 = .ok (.istore 5, 2) := by decide +kernel
theorem d_SL1_indexOfChar_7 : decode prog_23_method_23_code 7 = .ok (.iload 5, 2) := by decide +kernel
theorem d_SL1_indexOfChar_9 : decode prog_23_method_23_code 9 = .ok (.iload_n 3, 1) := by decide +kernel
theorem d_SL1_indexOfChar_10 : decode prog_23_method_23_code 10 = .ok (.if_icmp .ge 21, 3) := by decide +kernel
theorem d_SL1_indexOfChar_31 : decode prog_23_method_23_code 31 = .ok (.iconst (-1), 1) := by decide +kernel
theorem d_SL1_indexOfChar_32 : decode prog_23_method_23_code 32 = .ok (.ireturn, 1) := by decide +kernel
theorem d_SL1_indexOfChar_13 : decode prog_23_method_23_code 13 = .ok (.aload_n 0, 1) := by decide +kernel
theorem d_SL1_indexOfChar_14 : decode prog_23_method_23_code 14 = .ok (.iload 5, 2) := by decide +kernel
theorem d_SL1_indexOfChar_16 : decode prog_23_method_23_code 16 = .ok (.baload, 1) := by decide +kernel
theorem d_SL1_indexOfChar_17 : decode prog_23_method_23_code 17 = .ok (.iload 4, 2) := by decide +kernel
theorem d_SL1_indexOfChar_19 : decode prog_23_method_23_code 19 = .ok (.if_icmp .ne 6, 3) := by decide +kernel
theorem d_SL1_indexOfChar_25 : decode prog_23_method_23_code 25 = .ok (.iinc 5 1, 3) := by decide +kernel
theorem d_SL1_indexOfChar_28 : decode prog_23_method_23_code 28 = .ok (.goto (-21), 3) := by decide +kernel
theorem d_SL1_indexOfChar_22 : decode prog_23_method_23_code 22 = .ok (.iload 5, 2) := by decide +kernel
theorem d_SL1_indexOfChar_24 : decode prog_23_method_23_code 24 = .ok (.ireturn, 1) := by decide +kernel
abbrev m_SL1_canEncode : am_M := (⟨"java/lang/StringLatin1", "canEncode", "(I)Z"⟩, prog_23_method_4_code, 1, (some FieldType.boolean))
theorem d_SL1_canEncode_0 : decode prog_23_method_4_code 0 = .ok (.iload_n 0, 1) := by decide +kernel
theorem d_SL1_canEncode_1 : decode prog_23_method_4_code 1 = .ok (.ifCond .lt 14, 3) := by decide +kernel
theorem d_SL1_canEncode_4 : decode prog_23_method_4_code 4 = .ok (.iload_n 0, 1) := by decide +kernel
theorem d_SL1_canEncode_5 : decode prog_23_method_4_code 5 = .ok (.sipush 255, 3) := by decide +kernel
theorem d_SL1_canEncode_8 : decode prog_23_method_4_code 8 = .ok (.if_icmp .gt 7, 3) := by decide +kernel
theorem d_SL1_canEncode_11 : decode prog_23_method_4_code 11 = .ok (.iconst 1, 1) := by decide +kernel
theorem d_SL1_canEncode_12 : decode prog_23_method_4_code 12 = .ok (.goto 4, 3) := by decide +kernel
theorem d_SL1_canEncode_16 : decode prog_23_method_4_code 16 = .ok (.ireturn, 1) := by decide +kernel
abbrev m_SL1_indexOf : am_M := (⟨"java/lang/StringLatin1", "indexOf", "([BIII)I"⟩, prog_23_method_22_code, 4, (some FieldType.int))
theorem w_622 : (Cond.methodLink "java/lang/StringLatin1" 92 ⟨"java/lang/Math", "max", "(II)I"⟩ : Cond) ∈ am_tbl := am_w 622 (by decide +kernel) (by decide +kernel)
theorem w_623 : (Cond.static ⟨"java/lang/Math", "max", "(II)I"⟩ : Cond) ∈ am_tbl := am_w 623 (by decide +kernel) (by decide +kernel)
theorem w_164 : (Cond.initialized "java/lang/Math" : Cond) ∈ am_tbl := am_w 164 (by decide +kernel) (by decide +kernel)
set_option maxRecDepth 100000 in
theorem w_624 : (Cond.code ⟨"java/lang/Math", "max", "(II)I"⟩ prog_21_method_65_code 2 (some FieldType.int) : Cond) ∈ am_tbl := am_w 624 rfl rfl
theorem d_SL1_indexOf_11 : decode prog_23_method_22_code 11 = .ok (.invokestatic 92, 3) := by decide +kernel
theorem d_SL1_indexOf_17 : decode prog_23_method_22_code 17 = .ok (.arraylength, 1) := by decide +kernel
theorem w_625 : (Cond.methodLink "java/lang/StringLatin1" 38 ⟨"java/lang/Math", "min", "(II)I"⟩ : Cond) ∈ am_tbl := am_w 625 (by decide +kernel) (by decide +kernel)
theorem w_551 : (Cond.static ⟨"java/lang/Math", "min", "(II)I"⟩ : Cond) ∈ am_tbl := am_w 551 (by decide +kernel) (by decide +kernel)
set_option maxRecDepth 100000 in
theorem w_552 : (Cond.code ⟨"java/lang/Math", "min", "(II)I"⟩ prog_21_method_69_code 2 (some FieldType.int) : Cond) ∈ am_tbl := am_w 552 rfl rfl
theorem d_SL1_indexOf_18 : decode prog_23_method_22_code 18 = .ok (.invokestatic 38, 3) := by decide +kernel
theorem d_SL1_indexOf_0 : decode prog_23_method_22_code 0 = .ok (.iload_n 1, 1) := by decide +kernel
theorem d_SL1_indexOf_1 : decode prog_23_method_22_code 1 = .ok (.invokestatic 88, 3) := by decide +kernel
theorem w_619 : (Cond.methodLink "java/lang/StringLatin1" 88 ⟨"java/lang/StringLatin1", "canEncode", "(I)Z"⟩ : Cond) ∈ am_tbl := am_w 619 (by decide +kernel) (by decide +kernel)
set_option maxRecDepth 100000 in
theorem w_621 : (Cond.code ⟨"java/lang/StringLatin1", "canEncode", "(I)Z"⟩ prog_23_method_4_code 1 (some FieldType.boolean) : Cond) ∈ am_tbl := am_w 621 rfl rfl
theorem l_SL1_88 : am_L "java/lang/StringLatin1" 88 1 m_SL1_canEncode := ⟨Or.inl w_619, w_148, w_621, ⟨by decide, by decide⟩, by decide +kernel, by decide⟩
theorem w_620 : (Cond.static ⟨"java/lang/StringLatin1", "canEncode", "(I)Z"⟩ : Cond) ∈ am_tbl := am_w 620 (by decide +kernel) (by decide +kernel)
theorem d_SL1_indexOf_4 : decode prog_23_method_22_code 4 = .ok (.ifCond .ne 5, 3) := by decide +kernel
theorem d_SL1_indexOf_9 : decode prog_23_method_22_code 9 = .ok (.iload_n 2, 1) := by decide +kernel
theorem d_SL1_indexOf_10 : decode prog_23_method_22_code 10 = .ok (.iconst 0, 1) := by decide +kernel
theorem d_SL1_indexOf_14 : decode prog_23_method_22_code 14 = .ok (.istore_n 2, 1) := by decide +kernel
theorem d_SL1_indexOf_15 : decode prog_23_method_22_code 15 = .ok (.iload_n 3, 1) := by decide +kernel
theorem d_SL1_indexOf_16 : decode prog_23_method_22_code 16 = .ok (.aload_n 0, 1) := by decide +kernel
theorem d_SL1_indexOf_21 : decode prog_23_method_22_code 21 = .ok (.istore_n 3, 1) := by decide +kernel
theorem d_SL1_indexOf_22 : decode prog_23_method_22_code 22 = .ok (.iload_n 2, 1) := by decide +kernel
theorem d_SL1_indexOf_23 : decode prog_23_method_22_code 23 = .ok (.iload_n 3, 1) := by decide +kernel
theorem d_SL1_indexOf_24 : decode prog_23_method_22_code 24 = .ok (.if_icmp .lt 5, 3) := by decide +kernel
theorem d_SL1_indexOf_29 : decode prog_23_method_22_code 29 = .ok (.aload_n 0, 1) := by decide +kernel
theorem d_SL1_indexOf_30 : decode prog_23_method_22_code 30 = .ok (.iload_n 1, 1) := by decide +kernel
theorem d_SL1_indexOf_31 : decode prog_23_method_22_code 31 = .ok (.iload_n 2, 1) := by decide +kernel
theorem d_SL1_indexOf_32 : decode prog_23_method_22_code 32 = .ok (.iload_n 3, 1) := by decide +kernel
theorem d_SL1_indexOf_33 : decode prog_23_method_22_code 33 = .ok (.invokestatic 95, 3) := by decide +kernel
theorem w_626 : (Cond.methodLink "java/lang/StringLatin1" 95 ⟨"java/lang/StringLatin1", "indexOfChar", "([BIII)I"⟩ : Cond) ∈ am_tbl := am_w 626 (by decide +kernel) (by decide +kernel)
set_option maxRecDepth 100000 in
theorem w_628 : (Cond.code ⟨"java/lang/StringLatin1", "indexOfChar", "([BIII)I"⟩ prog_23_method_23_code 6 (some FieldType.int) : Cond) ∈ am_tbl := am_w 628 rfl rfl
theorem l_SL1_95 : am_L "java/lang/StringLatin1" 95 4 m_SL1_indexOfChar := ⟨Or.inl w_626, w_148, w_628, ⟨by decide, by decide⟩, by decide +kernel, by decide⟩
theorem w_627 : (Cond.static ⟨"java/lang/StringLatin1", "indexOfChar", "([BIII)I"⟩ : Cond) ∈ am_tbl := am_w 627 (by decide +kernel) (by decide +kernel)
theorem d_SL1_indexOf_36 : decode prog_23_method_22_code 36 = .ok (.ireturn, 1) := by decide +kernel
abbrev m_Str_indexOf_II : am_M := (⟨"java/lang/String", "indexOf", "(II)I"⟩, prog_22_method_80_code, 3, (some FieldType.int))
theorem d_Str_indexOf_II_1 : decode prog_22_method_80_code 1 = .ok (.invokevirtual 492, 3) := by decide +kernel
theorem d_Str_indexOf_II_8 : decode prog_22_method_80_code 8 = .ok (.getfield 9, 3) := by decide +kernel
theorem w_615 : (Cond.methodLink "java/lang/String" 505 ⟨"java/lang/String", "length", "()I"⟩ : Cond) ∈ am_tbl := am_w 615 (by decide +kernel) (by decide +kernel)
theorem l_Str_505 : am_L "java/lang/String" 505 0 m_Str_length := ⟨Or.inl w_615, w_147, w_212, ⟨by decide, by decide⟩, by decide +kernel, by decide⟩
theorem d_Str_indexOf_II_14 : decode prog_22_method_80_code 14 = .ok (.invokevirtual 505, 3) := by decide +kernel
theorem d_Str_indexOf_II_0 : decode prog_22_method_80_code 0 = .ok (.aload_n 0, 1) := by decide +kernel
theorem d_Str_indexOf_II_4 : decode prog_22_method_80_code 4 = .ok (.ifCond .eq 19, 3) := by decide +kernel
theorem d_Str_indexOf_II_7 : decode prog_22_method_80_code 7 = .ok (.aload_n 0, 1) := by decide +kernel
theorem d_Str_indexOf_II_11 : decode prog_22_method_80_code 11 = .ok (.iload_n 1, 1) := by decide +kernel
theorem d_Str_indexOf_II_12 : decode prog_22_method_80_code 12 = .ok (.iload_n 2, 1) := by decide +kernel
theorem d_Str_indexOf_II_13 : decode prog_22_method_80_code 13 = .ok (.aload_n 0, 1) := by decide +kernel
theorem d_Str_indexOf_II_17 : decode prog_22_method_80_code 17 = .ok (.invokestatic 637, 3) := by decide +kernel
theorem w_616 : (Cond.methodLink "java/lang/String" 637 ⟨"java/lang/StringLatin1", "indexOf", "([BIII)I"⟩ : Cond) ∈ am_tbl := am_w 616 (by decide +kernel) (by decide +kernel)
set_option maxRecDepth 100000 in
theorem w_618 : (Cond.code ⟨"java/lang/StringLatin1", "indexOf", "([BIII)I"⟩ prog_23_method_22_code 4 (some FieldType.int) : Cond) ∈ am_tbl := am_w 618 rfl rfl
theorem l_Str_637 : am_L "java/lang/String" 637 4 m_SL1_indexOf := ⟨Or.inl w_616, w_148, w_618, ⟨by decide, by decide⟩, by decide +kernel, by decide⟩
theorem w_617 : (Cond.static ⟨"java/lang/StringLatin1", "indexOf", "([BIII)I"⟩ : Cond) ∈ am_tbl := am_w 617 (by decide +kernel) (by decide +kernel)
theorem d_Str_indexOf_II_20 : decode prog_22_method_80_code 20 = .ok (.goto 16, 3) := by decide +kernel
theorem d_Str_indexOf_II_36 : decode prog_22_method_80_code 36 = .ok (.ireturn, 1) := by decide +kernel
abbrev m_Str_indexOf_I : am_M := (⟨"java/lang/String", "indexOf", "(I)I"⟩, prog_22_method_79_code, 2, (some FieldType.int))
theorem w_611 : (Cond.methodLink "java/lang/String" 633 ⟨"java/lang/String", "indexOf", "(II)I"⟩ : Cond) ∈ am_tbl := am_w 611 (by decide +kernel) (by decide +kernel)
set_option maxRecDepth 100000 in
theorem w_614 : (Cond.code ⟨"java/lang/String", "indexOf", "(II)I"⟩ prog_22_method_80_code 3 (some FieldType.int) : Cond) ∈ am_tbl := am_w 614 rfl rfl
theorem l_Str_633 : am_L "java/lang/String" 633 2 m_Str_indexOf_II := ⟨Or.inl w_611, w_147, w_614, ⟨by decide, by decide⟩, by decide +kernel, by decide⟩
theorem w_612 : (Cond.instanceMethod ⟨"java/lang/String", "indexOf", "(II)I"⟩ : Cond) ∈ am_tbl := am_w 612 (by decide +kernel) (by decide +kernel)
theorem w_613 : (Cond.selects "java/lang/String" ⟨"java/lang/String", "indexOf", "(II)I"⟩ ⟨"java/lang/String", "indexOf", "(II)I"⟩ : Cond) ∈ am_tbl := am_w 613 (by decide +kernel) (by decide +kernel)
theorem d_Str_indexOf_I_3 : decode prog_22_method_79_code 3 = .ok (.invokevirtual 633, 3) := by decide +kernel
theorem d_Str_indexOf_I_0 : decode prog_22_method_79_code 0 = .ok (.aload_n 0, 1) := by decide +kernel
theorem d_Str_indexOf_I_1 : decode prog_22_method_79_code 1 = .ok (.iload_n 1, 1) := by decide +kernel
theorem d_Str_indexOf_I_2 : decode prog_22_method_79_code 2 = .ok (.iconst 0, 1) := by decide +kernel
theorem d_Str_indexOf_I_6 : decode prog_22_method_79_code 6 = .ok (.ireturn, 1) := by decide +kernel
