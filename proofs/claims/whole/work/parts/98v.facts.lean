theorem d_Law_law_0 : decode code 0 = .ok (.new 7, 3) := by decide +kernel
theorem d_Law_law_3 : decode code 3 = .ok (.dup, 1) := by decide +kernel
theorem d_Law_law_4 : decode code 4 = .ok (.invokespecial 9, 3) := by decide +kernel
theorem d_Law_law_7 : decode code 7 = .ok (.astore_n 1, 1) := by decide +kernel
theorem d_Law_law_8 : decode code 8 = .ok (.new 10, 3) := by decide +kernel
theorem d_Law_law_11 : decode code 11 = .ok (.dup, 1) := by decide +kernel
theorem d_Law_law_12 : decode code 12 = .ok (.invokespecial 12, 3) := by decide +kernel
theorem d_Law_law_15 : decode code 15 = .ok (.astore_n 2, 1) := by decide +kernel
theorem d_Law_law_16 : decode code 16 = .ok (.iconst 0, 1) := by decide +kernel
theorem d_Law_law_17 : decode code 17 = .ok (.istore_n 3, 1) := by decide +kernel
theorem w_171 : (Cond.classLink "StowTongueLaw" 7 "StowTongue" : Cond) ∈ am_tbl := am_w 171 (by decide +kernel) (by decide +kernel)
theorem n_Law_7 : am_N "StowTongueLaw" 7 9 10 [.null, .int 0, .null, .null, .null, .null, .null, .long 0, .long 0, .int 0] := ⟨_, rfl, cl_9, rfl, by decide +kernel, w_171, w_172, w_143⟩
theorem w_1483 : (Cond.classLink "StowTongueLaw" 10 "StowTongueModel" : Cond) ∈ am_tbl := am_w 1483 (by decide +kernel) (by decide +kernel)
theorem n_Law_10 : am_N "StowTongueLaw" 10 14 53 [.null, .null, .int 0, .int 0, .int 0, .int 0, .int 0, .int 0, .int 0, .int 0, .int 0, .long 0, .null, .null, .null, .null, .null, .null, .null, .null, .int 0, .null, .null, .null, .int 0, .int 0, .null, .int 0, .null, .int 0, .null, .null, .null, .null, .int 0, .int 0, .null, .null, .null, .null, .null, .int 0, .int 0, .int 0, .int 0, .int 0, .int 0, .null, .null, .null, .null, .null, .int 0] := ⟨_, rfl, cl_14, rfl, by decide +kernel, w_1483, w_1484, w_160⟩
theorem w_173 : (Cond.methodLink "StowTongueLaw" 9 ⟨"StowTongue", "<init>", "()V"⟩ : Cond) ∈ am_tbl := am_w 173 (by decide +kernel) (by decide +kernel)
set_option maxRecDepth 100000 in
theorem w_175 : (Cond.code ⟨"StowTongue", "<init>", "()V"⟩ prog_1_method_1_code 1 none : Cond) ∈ am_tbl := am_w 175 rfl rfl
theorem l_Law_9 : am_L "StowTongueLaw" 9 0 m_Stow_init := ⟨Or.inl w_173, w_143, w_175, ⟨by decide, by decide⟩, by decide +kernel, by decide⟩
theorem w_1485 : (Cond.methodLink "StowTongueLaw" 12 ⟨"StowTongueModel", "<init>", "()V"⟩ : Cond) ∈ am_tbl := am_w 1485 (by decide +kernel) (by decide +kernel)
set_option maxRecDepth 100000 in
theorem w_1487 : (Cond.code ⟨"StowTongueModel", "<init>", "()V"⟩ prog_13_method_35_code 2 none : Cond) ∈ am_tbl := am_w 1487 rfl rfl
theorem l_Law_12 : am_L "StowTongueLaw" 12 0 m_Mod_init := ⟨Or.inl w_1485, w_160, w_1487, ⟨by decide, by decide⟩, by decide +kernel, by decide⟩
theorem w_174 : (Cond.instanceMethod ⟨"StowTongue", "<init>", "()V"⟩ : Cond) ∈ am_tbl := am_w 174 (by decide +kernel) (by decide +kernel)
theorem w_1486 : (Cond.instanceMethod ⟨"StowTongueModel", "<init>", "()V"⟩ : Cond) ∈ am_tbl := am_w 1486 (by decide +kernel) (by decide +kernel)
