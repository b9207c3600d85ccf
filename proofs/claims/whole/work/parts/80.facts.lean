abbrev m_Out_addText : am_M := (⟨"StowTongue$Out", "addText", "(JJ)V"⟩, prog_7_method_7_code, 7, none)
theorem w_1160 : (Cond.methodLink "StowTongue$Out" 23 ⟨"StowTongue$Cell", "signsOf", "(JJ)I"⟩ : Cond) ∈ am_tbl := am_w 1160 (by decide +kernel) (by decide +kernel)
set_option maxRecDepth 100000 in
theorem w_1162 : (Cond.code ⟨"StowTongue$Cell", "signsOf", "(JJ)I"⟩ prog_2_method_8_code 5 (some FieldType.int) : Cond) ∈ am_tbl := am_w 1162 rfl rfl
theorem l_Out_23 : am_L "StowTongue$Out" 23 2 m_Cell_signsOf := ⟨Or.inl w_1160, w_151, w_1162, ⟨by decide, by decide⟩, by decide +kernel, by decide⟩
theorem w_1166 : (Cond.methodLink "StowTongue$Out" 29 ⟨"StowTongue$Cell", "signAt", "(JJI)I"⟩ : Cond) ∈ am_tbl := am_w 1166 (by decide +kernel) (by decide +kernel)
theorem l_Out_29 : am_L "StowTongue$Out" 29 3 m_Cell_signAt := ⟨Or.inl w_1166, w_151, w_1165, ⟨by decide, by decide⟩, by decide +kernel, by decide⟩
theorem w_1147 : (Cond.methodLink "StowTongue$Out" 33 ⟨"StowTongue$Out", "add", "(I)V"⟩ : Cond) ∈ am_tbl := am_w 1147 (by decide +kernel) (by decide +kernel)
set_option maxRecDepth 100000 in
theorem w_1150 : (Cond.code ⟨"StowTongue$Out", "add", "(I)V"⟩ prog_7_method_6_code 2 none : Cond) ∈ am_tbl := am_w 1150 rfl rfl
theorem l_Out_33 : am_L "StowTongue$Out" 33 1 m_Out_add := ⟨Or.inl w_1147, w_144, w_1150, ⟨by decide, by decide⟩, by decide +kernel, by decide⟩
theorem d_Out_addText_0 : decode prog_7_method_7_code 0 = .ok (.lload_n 1, 1) := by decide +kernel
theorem d_Out_addText_1 : decode prog_7_method_7_code 1 = .ok (.lload_n 3, 1) := by decide +kernel
theorem w_1161 : (Cond.static ⟨"StowTongue$Cell", "signsOf", "(JJ)I"⟩ : Cond) ∈ am_tbl := am_w 1161 (by decide +kernel) (by decide +kernel)
theorem d_Out_addText_2 : decode prog_7_method_7_code 2 = .ok (.invokestatic 23, 3) := by decide +kernel
theorem d_Out_addText_5 : decode prog_7_method_7_code 5 = .ok (.istore 5, 2) := by decide +kernel
theorem d_Out_addText_7 : decode prog_7_method_7_code 7 = .ok (.iconst 0, 1) := by decide +kernel
theorem d_Out_addText_8 : decode prog_7_method_7_code 8 = .ok (.istore 6, 2) := by decide +kernel
theorem d_Out_addText_10 : decode prog_7_method_7_code 10 = .ok (.iload 6, 2) := by decide +kernel
theorem d_Out_addText_12 : decode prog_7_method_7_code 12 = .ok (.iload 5, 2) := by decide +kernel
theorem d_Out_addText_14 : decode prog_7_method_7_code 14 = .ok (.if_icmp .ge 20, 3) := by decide +kernel
theorem d_Out_addText_34 : decode prog_7_method_7_code 34 = .ok (.return_, 1) := by decide +kernel
theorem d_Out_addText_17 : decode prog_7_method_7_code 17 = .ok (.aload_n 0, 1) := by decide +kernel
theorem d_Out_addText_18 : decode prog_7_method_7_code 18 = .ok (.lload_n 1, 1) := by decide +kernel
theorem d_Out_addText_19 : decode prog_7_method_7_code 19 = .ok (.lload_n 3, 1) := by decide +kernel
theorem d_Out_addText_20 : decode prog_7_method_7_code 20 = .ok (.iload 6, 2) := by decide +kernel
theorem d_Out_addText_22 : decode prog_7_method_7_code 22 = .ok (.invokestatic 29, 3) := by decide +kernel
theorem w_1148 : (Cond.instanceMethod ⟨"StowTongue$Out", "add", "(I)V"⟩ : Cond) ∈ am_tbl := am_w 1148 (by decide +kernel) (by decide +kernel)
theorem w_1149 : (Cond.selects "StowTongue$Out" ⟨"StowTongue$Out", "add", "(I)V"⟩ ⟨"StowTongue$Out", "add", "(I)V"⟩ : Cond) ∈ am_tbl := am_w 1149 (by decide +kernel) (by decide +kernel)
theorem d_Out_addText_25 : decode prog_7_method_7_code 25 = .ok (.invokevirtual 33, 3) := by decide +kernel
theorem d_Out_addText_28 : decode prog_7_method_7_code 28 = .ok (.iinc 6 1, 3) := by decide +kernel
theorem d_Out_addText_31 : decode prog_7_method_7_code 31 = .ok (.goto (-21), 3) := by decide +kernel
