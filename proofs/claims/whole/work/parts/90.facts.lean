abbrev m_Lexer_scanName : am_M := (⟨"StowTongue$Lexer", "scanName", "()V"⟩, prog_4_method_17_code, 3, none)
theorem w_565 : (Cond.methodLink "StowTongue$Lexer" 68 ⟨"StowTongue$Lexer", "isLetter", "(I)Z"⟩ : Cond) ∈ am_tbl := am_w 565 (by decide +kernel) (by decide +kernel)
set_option maxRecDepth 100000 in
theorem w_567 : (Cond.code ⟨"StowTongue$Lexer", "isLetter", "(I)Z"⟩ prog_4_method_12_code 1 (some FieldType.boolean) : Cond) ∈ am_tbl := am_w 567 rfl rfl
theorem l_Lexer_68 : am_L "StowTongue$Lexer" 68 1 m_Lexer_isLetter := ⟨Or.inl w_565, w_146, w_567, ⟨by decide, by decide⟩, by decide +kernel, by decide⟩
theorem w_572 : (Cond.methodLink "StowTongue$Lexer" 75 ⟨"StowTongue$Lexer", "isDigit", "(I)Z"⟩ : Cond) ∈ am_tbl := am_w 572 (by decide +kernel) (by decide +kernel)
set_option maxRecDepth 100000 in
theorem w_574 : (Cond.code ⟨"StowTongue$Lexer", "isDigit", "(I)Z"⟩ prog_4_method_13_code 1 (some FieldType.boolean) : Cond) ∈ am_tbl := am_w 574 rfl rfl
theorem l_Lexer_75 : am_L "StowTongue$Lexer" 75 1 m_Lexer_isDigit := ⟨Or.inl w_572, w_146, w_574, ⟨by decide, by decide⟩, by decide +kernel, by decide⟩
theorem w_575 : (Cond.methodLink "StowTongue$Lexer" 98 ⟨"StowTongue$Lexer", "wordKind", "(J)I"⟩ : Cond) ∈ am_tbl := am_w 575 (by decide +kernel) (by decide +kernel)
set_option maxRecDepth 100000 in
theorem w_578 : (Cond.code ⟨"StowTongue$Lexer", "wordKind", "(J)I"⟩ prog_4_method_18_code 4 (some FieldType.int) : Cond) ∈ am_tbl := am_w 578 rfl rfl
theorem l_Lexer_98 : am_L "StowTongue$Lexer" 98 1 m_Lexer_wordKind := ⟨Or.inl w_575, w_146, w_578, ⟨by decide, by decide⟩, by decide +kernel, by decide⟩
theorem d_Lexer_scanName_80 : decode prog_4_method_17_code 80 = .ok (.aload_n 0, 1) := by decide +kernel
theorem d_Lexer_scanName_81 : decode prog_4_method_17_code 81 = .ok (.iload_n 1, 1) := by decide +kernel
theorem d_Lexer_scanName_82 : decode prog_4_method_17_code 82 = .ok (.bipush 8, 2) := by decide +kernel
theorem d_Lexer_scanName_84 : decode prog_4_method_17_code 84 = .ok (.if_icmp .le 7, 3) := by decide +kernel
theorem d_Lexer_scanName_91 : decode prog_4_method_17_code 91 = .ok (.aload_n 0, 1) := by decide +kernel
theorem d_Lexer_scanName_92 : decode prog_4_method_17_code 92 = .ok (.aload_n 0, 1) := by decide +kernel
theorem d_Lexer_scanName_93 : decode prog_4_method_17_code 93 = .ok (.getfield 91, 3) := by decide +kernel
theorem w_577 : (Cond.instanceMethod ⟨"StowTongue$Lexer", "wordKind", "(J)I"⟩ : Cond) ∈ am_tbl := am_w 577 (by decide +kernel) (by decide +kernel)
theorem w_4 : (Cond.selects "StowTongue$Lexer" ⟨"StowTongue$Lexer", "wordKind", "(J)I"⟩ ⟨"StowTongue$Lexer", "wordKind", "(J)I"⟩ : Cond) ∈ am_tbl := am_w 4 (by decide +kernel) (by decide +kernel)
theorem d_Lexer_scanName_96 : decode prog_4_method_17_code 96 = .ok (.invokevirtual 98, 3) := by decide +kernel
theorem d_Lexer_scanName_99 : decode prog_4_method_17_code 99 = .ok (.putfield 65, 3) := by decide +kernel
theorem d_Lexer_scanName_102 : decode prog_4_method_17_code 102 = .ok (.return_, 1) := by decide +kernel
theorem d_Lexer_scanName_87 : decode prog_4_method_17_code 87 = .ok (.iconst 1, 1) := by decide +kernel
theorem d_Lexer_scanName_88 : decode prog_4_method_17_code 88 = .ok (.goto 11, 3) := by decide +kernel
theorem d_Lexer_scanName_64 : decode prog_4_method_17_code 64 = .ok (.iinc 1 1, 3) := by decide +kernel
theorem d_Lexer_scanName_67 : decode prog_4_method_17_code 67 = .ok (.aload_n 0, 1) := by decide +kernel
theorem d_Lexer_scanName_68 : decode prog_4_method_17_code 68 = .ok (.dup, 1) := by decide +kernel
theorem d_Lexer_scanName_0 : decode prog_4_method_17_code 0 = .ok (.iconst 0, 1) := by decide +kernel
theorem d_Lexer_scanName_1 : decode prog_4_method_17_code 1 = .ok (.istore_n 1, 1) := by decide +kernel
theorem d_Lexer_scanName_2 : decode prog_4_method_17_code 2 = .ok (.aload_n 0, 1) := by decide +kernel
theorem d_Lexer_scanName_3 : decode prog_4_method_17_code 3 = .ok (.lconst 0, 1) := by decide +kernel
theorem d_Lexer_scanName_4 : decode prog_4_method_17_code 4 = .ok (.putfield 91, 3) := by decide +kernel
theorem d_Lexer_scanName_7 : decode prog_4_method_17_code 7 = .ok (.aload_n 0, 1) := by decide +kernel
theorem d_Lexer_scanName_8 : decode prog_4_method_17_code 8 = .ok (.getfield 46, 3) := by decide +kernel
theorem d_Lexer_scanName_11 : decode prog_4_method_17_code 11 = .ok (.aload_n 0, 1) := by decide +kernel
theorem d_Lexer_scanName_12 : decode prog_4_method_17_code 12 = .ok (.getfield 43, 3) := by decide +kernel
theorem d_Lexer_scanName_15 : decode prog_4_method_17_code 15 = .ok (.if_icmp .ge 65, 3) := by decide +kernel
theorem d_Lexer_scanName_18 : decode prog_4_method_17_code 18 = .ok (.aload_n 0, 1) := by decide +kernel
theorem d_Lexer_scanName_19 : decode prog_4_method_17_code 19 = .ok (.aload_n 0, 1) := by decide +kernel
theorem d_Lexer_scanName_20 : decode prog_4_method_17_code 20 = .ok (.getfield 46, 3) := by decide +kernel
theorem d_Lexer_scanName_23 : decode prog_4_method_17_code 23 = .ok (.invokevirtual 61, 3) := by decide +kernel
theorem d_Lexer_scanName_26 : decode prog_4_method_17_code 26 = .ok (.istore_n 2, 1) := by decide +kernel
theorem d_Lexer_scanName_44 : decode prog_4_method_17_code 44 = .ok (.iload_n 1, 1) := by decide +kernel
theorem d_Lexer_scanName_45 : decode prog_4_method_17_code 45 = .ok (.bipush 8, 2) := by decide +kernel
theorem d_Lexer_scanName_47 : decode prog_4_method_17_code 47 = .ok (.if_icmp .ge 17, 3) := by decide +kernel
theorem d_Lexer_scanName_69 : decode prog_4_method_17_code 69 = .ok (.getfield 46, 3) := by decide +kernel
theorem d_Lexer_scanName_72 : decode prog_4_method_17_code 72 = .ok (.iconst 1, 1) := by decide +kernel
theorem d_Lexer_scanName_73 : decode prog_4_method_17_code 73 = .ok (.iadd, 1) := by decide +kernel
theorem d_Lexer_scanName_74 : decode prog_4_method_17_code 74 = .ok (.putfield 46, 3) := by decide +kernel
theorem d_Lexer_scanName_77 : decode prog_4_method_17_code 77 = .ok (.goto (-70), 3) := by decide +kernel
theorem d_Lexer_scanName_50 : decode prog_4_method_17_code 50 = .ok (.aload_n 0, 1) := by decide +kernel
theorem d_Lexer_scanName_51 : decode prog_4_method_17_code 51 = .ok (.dup, 1) := by decide +kernel
theorem d_Lexer_scanName_52 : decode prog_4_method_17_code 52 = .ok (.getfield 91, 3) := by decide +kernel
theorem d_Lexer_scanName_55 : decode prog_4_method_17_code 55 = .ok (.iload_n 2, 1) := by decide +kernel
theorem d_Lexer_scanName_56 : decode prog_4_method_17_code 56 = .ok (.iload_n 1, 1) := by decide +kernel
theorem d_Lexer_scanName_57 : decode prog_4_method_17_code 57 = .ok (.invokestatic 31, 3) := by decide +kernel
theorem d_Lexer_scanName_60 : decode prog_4_method_17_code 60 = .ok (.lor, 1) := by decide +kernel
theorem d_Lexer_scanName_61 : decode prog_4_method_17_code 61 = .ok (.putfield 91, 3) := by decide +kernel
theorem d_Lexer_scanName_27 : decode prog_4_method_17_code 27 = .ok (.iload_n 2, 1) := by decide +kernel
theorem w_566 : (Cond.static ⟨"StowTongue$Lexer", "isLetter", "(I)Z"⟩ : Cond) ∈ am_tbl := am_w 566 (by decide +kernel) (by decide +kernel)
theorem d_Lexer_scanName_28 : decode prog_4_method_17_code 28 = .ok (.invokestatic 68, 3) := by decide +kernel
theorem d_Lexer_scanName_31 : decode prog_4_method_17_code 31 = .ok (.ifCond .ne 13, 3) := by decide +kernel
theorem d_Lexer_scanName_34 : decode prog_4_method_17_code 34 = .ok (.iload_n 2, 1) := by decide +kernel
theorem w_573 : (Cond.static ⟨"StowTongue$Lexer", "isDigit", "(I)Z"⟩ : Cond) ∈ am_tbl := am_w 573 (by decide +kernel) (by decide +kernel)
theorem d_Lexer_scanName_35 : decode prog_4_method_17_code 35 = .ok (.invokestatic 75, 3) := by decide +kernel
theorem d_Lexer_scanName_38 : decode prog_4_method_17_code 38 = .ok (.ifCond .ne 6, 3) := by decide +kernel
theorem d_Lexer_scanName_41 : decode prog_4_method_17_code 41 = .ok (.goto 39, 3) := by decide +kernel
