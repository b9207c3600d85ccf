theorem w_265 : (Cond.fieldLink "StowTongue$Lexer" 65 "StowTongue$Lexer" "kind" "I" : Cond) ∈ am_tbl := am_w 265 (by decide +kernel) (by decide +kernel)
theorem f_Lexer_65 : am_F "StowTongue$Lexer" 65 1 5 := ⟨_, rfl, cl_1, by decide, Or.inl w_265⟩
abbrev m_Lexer_kind : am_M := (⟨"StowTongue$Lexer", "kind", "()I"⟩, prog_4_method_5_code, 1, (some FieldType.int))
theorem d_Lexer_kind_0 : decode prog_4_method_5_code 0 = .ok (.aload_n 0, 1) := by decide +kernel
theorem d_Lexer_kind_1 : decode prog_4_method_5_code 1 = .ok (.getfield 65, 3) := by decide +kernel
theorem d_Lexer_kind_4 : decode prog_4_method_5_code 4 = .ok (.ireturn, 1) := by decide +kernel
theorem w_266 : (Cond.fieldLink "StowTongue$Lexer" 58 "StowTongue$Lexer" "place" "I" : Cond) ∈ am_tbl := am_w 266 (by decide +kernel) (by decide +kernel)
theorem f_Lexer_58 : am_F "StowTongue$Lexer" 58 1 6 := ⟨_, rfl, cl_1, by decide, Or.inl w_266⟩
abbrev m_Lexer_place : am_M := (⟨"StowTongue$Lexer", "place", "()I"⟩, prog_4_method_6_code, 1, (some FieldType.int))
theorem d_Lexer_place_0 : decode prog_4_method_6_code 0 = .ok (.aload_n 0, 1) := by decide +kernel
theorem d_Lexer_place_1 : decode prog_4_method_6_code 1 = .ok (.getfield 58, 3) := by decide +kernel
theorem d_Lexer_place_4 : decode prog_4_method_6_code 4 = .ok (.ireturn, 1) := by decide +kernel
theorem w_268 : (Cond.fieldLink "StowTongue$Lexer" 91 "StowTongue$Lexer" "head" "J" : Cond) ∈ am_tbl := am_w 268 (by decide +kernel) (by decide +kernel)
theorem f_Lexer_91 : am_F "StowTongue$Lexer" 91 1 8 := ⟨_, rfl, cl_1, by decide, Or.inl w_268⟩
abbrev m_Lexer_head : am_M := (⟨"StowTongue$Lexer", "head", "()J"⟩, prog_4_method_9_code, 1, (some FieldType.long))
theorem d_Lexer_head_0 : decode prog_4_method_9_code 0 = .ok (.aload_n 0, 1) := by decide +kernel
theorem d_Lexer_head_1 : decode prog_4_method_9_code 1 = .ok (.getfield 91, 3) := by decide +kernel
theorem d_Lexer_head_4 : decode prog_4_method_9_code 4 = .ok (.lreturn, 1) := by decide +kernel
theorem w_264 : (Cond.fieldLink "StowTongue$Lexer" 49 "StowTongue$Lexer" "taken" "I" : Cond) ∈ am_tbl := am_w 264 (by decide +kernel) (by decide +kernel)
theorem f_Lexer_49 : am_F "StowTongue$Lexer" 49 1 4 := ⟨_, rfl, cl_1, by decide, Or.inl w_264⟩
abbrev m_Lexer_taken : am_M := (⟨"StowTongue$Lexer", "taken", "()I"⟩, prog_4_method_7_code, 1, (some FieldType.int))
theorem d_Lexer_taken_0 : decode prog_4_method_7_code 0 = .ok (.aload_n 0, 1) := by decide +kernel
theorem d_Lexer_taken_1 : decode prog_4_method_7_code 1 = .ok (.getfield 49, 3) := by decide +kernel
theorem d_Lexer_taken_4 : decode prog_4_method_7_code 4 = .ok (.ireturn, 1) := by decide +kernel
theorem w_267 : (Cond.fieldLink "StowTongue$Lexer" 88 "StowTongue$Lexer" "number" "I" : Cond) ∈ am_tbl := am_w 267 (by decide +kernel) (by decide +kernel)
theorem f_Lexer_88 : am_F "StowTongue$Lexer" 88 1 7 := ⟨_, rfl, cl_1, by decide, Or.inl w_267⟩
abbrev m_Lexer_number : am_M := (⟨"StowTongue$Lexer", "number", "()I"⟩, prog_4_method_8_code, 1, (some FieldType.int))
theorem d_Lexer_number_0 : decode prog_4_method_8_code 0 = .ok (.aload_n 0, 1) := by decide +kernel
theorem d_Lexer_number_1 : decode prog_4_method_8_code 1 = .ok (.getfield 88, 3) := by decide +kernel
theorem d_Lexer_number_4 : decode prog_4_method_8_code 4 = .ok (.ireturn, 1) := by decide +kernel
theorem w_269 : (Cond.fieldLink "StowTongue$Lexer" 95 "StowTongue$Lexer" "tail" "J" : Cond) ∈ am_tbl := am_w 269 (by decide +kernel) (by decide +kernel)
theorem f_Lexer_95 : am_F "StowTongue$Lexer" 95 1 9 := ⟨_, rfl, cl_1, by decide, Or.inl w_269⟩
abbrev m_Lexer_tail : am_M := (⟨"StowTongue$Lexer", "tail", "()J"⟩, prog_4_method_10_code, 1, (some FieldType.long))
theorem d_Lexer_tail_0 : decode prog_4_method_10_code 0 = .ok (.aload_n 0, 1) := by decide +kernel
theorem d_Lexer_tail_1 : decode prog_4_method_10_code 1 = .ok (.getfield 95, 3) := by decide +kernel
theorem d_Lexer_tail_4 : decode prog_4_method_10_code 4 = .ok (.lreturn, 1) := by decide +kernel
abbrev m_Unit_name : am_M := (⟨"StowTongue$Unit", "name", "()J"⟩, prog_11_method_2_code, 1, (some FieldType.long))
theorem d_Unit_name_0 : decode prog_11_method_2_code 0 = .ok (.aload_n 0, 1) := by decide +kernel
theorem d_Unit_name_1 : decode prog_11_method_2_code 1 = .ok (.getfield 7, 3) := by decide +kernel
theorem d_Unit_name_4 : decode prog_11_method_2_code 4 = .ok (.lreturn, 1) := by decide +kernel
abbrev m_Unit_tokens : am_M := (⟨"StowTongue$Unit", "tokens", "()I"⟩, prog_11_method_5_code, 1, (some FieldType.int))
theorem d_Unit_tokens_0 : decode prog_11_method_5_code 0 = .ok (.aload_n 0, 1) := by decide +kernel
theorem d_Unit_tokens_1 : decode prog_11_method_5_code 1 = .ok (.getfield 20, 3) := by decide +kernel
theorem d_Unit_tokens_4 : decode prog_11_method_5_code 4 = .ok (.ireturn, 1) := by decide +kernel
abbrev m_Unit_locals : am_M := (⟨"StowTongue$Unit", "locals", "()I"⟩, prog_11_method_4_code, 1, (some FieldType.int))
theorem d_Unit_locals_0 : decode prog_11_method_4_code 0 = .ok (.aload_n 0, 1) := by decide +kernel
theorem d_Unit_locals_1 : decode prog_11_method_4_code 1 = .ok (.getfield 17, 3) := by decide +kernel
theorem d_Unit_locals_4 : decode prog_11_method_4_code 4 = .ok (.ireturn, 1) := by decide +kernel
abbrev m_Unit_names : am_M := (⟨"StowTongue$Unit", "names", "()I"⟩, prog_11_method_3_code, 1, (some FieldType.int))
theorem d_Unit_names_0 : decode prog_11_method_3_code 0 = .ok (.aload_n 0, 1) := by decide +kernel
theorem d_Unit_names_1 : decode prog_11_method_3_code 1 = .ok (.getfield 13, 3) := by decide +kernel
theorem d_Unit_names_4 : decode prog_11_method_3_code 4 = .ok (.ireturn, 1) := by decide +kernel
theorem w_415 : (Cond.fieldLink "StowTongue$Machine" 41 "StowTongue$Machine" "taken" "I" : Cond) ∈ am_tbl := am_w 415 (by decide +kernel) (by decide +kernel)
theorem f_Mach_41 : am_F "StowTongue$Machine" 41 6 13 := ⟨_, rfl, cl_6, by decide, Or.inl w_415⟩
abbrev m_Mach_taken : am_M := (⟨"StowTongue$Machine", "taken", "()I"⟩, prog_6_method_4_code, 1, (some FieldType.int))
theorem d_Mach_taken_0 : decode prog_6_method_4_code 0 = .ok (.aload_n 0, 1) := by decide +kernel
theorem d_Mach_taken_1 : decode prog_6_method_4_code 1 = .ok (.getfield 41, 3) := by decide +kernel
theorem d_Mach_taken_4 : decode prog_6_method_4_code 4 = .ok (.ireturn, 1) := by decide +kernel
theorem w_418 : (Cond.fieldLink "StowTongue$Machine" 93 "StowTongue$Machine" "resultHead" "J" : Cond) ∈ am_tbl := am_w 418 (by decide +kernel) (by decide +kernel)
theorem f_Mach_93 : am_F "StowTongue$Machine" 93 6 16 := ⟨_, rfl, cl_6, by decide, Or.inl w_418⟩
abbrev m_Mach_resultHead : am_M := (⟨"StowTongue$Machine", "resultHead", "()J"⟩, prog_6_method_5_code, 1, (some FieldType.long))
theorem d_Mach_resultHead_0 : decode prog_6_method_5_code 0 = .ok (.aload_n 0, 1) := by decide +kernel
theorem d_Mach_resultHead_1 : decode prog_6_method_5_code 1 = .ok (.getfield 93, 3) := by decide +kernel
theorem d_Mach_resultHead_4 : decode prog_6_method_5_code 4 = .ok (.lreturn, 1) := by decide +kernel
theorem w_419 : (Cond.fieldLink "StowTongue$Machine" 97 "StowTongue$Machine" "resultTail" "J" : Cond) ∈ am_tbl := am_w 419 (by decide +kernel) (by decide +kernel)
theorem f_Mach_97 : am_F "StowTongue$Machine" 97 6 17 := ⟨_, rfl, cl_6, by decide, Or.inl w_419⟩
abbrev m_Mach_resultTail : am_M := (⟨"StowTongue$Machine", "resultTail", "()J"⟩, prog_6_method_6_code, 1, (some FieldType.long))
theorem d_Mach_resultTail_0 : decode prog_6_method_6_code 0 = .ok (.aload_n 0, 1) := by decide +kernel
theorem d_Mach_resultTail_1 : decode prog_6_method_6_code 1 = .ok (.getfield 97, 3) := by decide +kernel
theorem d_Mach_resultTail_4 : decode prog_6_method_6_code 4 = .ok (.lreturn, 1) := by decide +kernel
