set_option maxRecDepth 100000 in
theorem d_Mod_step_62 : decode prog_13_method_5_code 62 = .ok (.aload_n 0, 1) := by decide +kernel
set_option maxRecDepth 100000 in
theorem d_Mod_step_63 : decode prog_13_method_5_code 63 = .ok (.aload_n 0, 1) := by decide +kernel
set_option maxRecDepth 100000 in
theorem d_Mod_step_64 : decode prog_13_method_5_code 64 = .ok (.getfield 3, 3) := by decide +kernel
set_option maxRecDepth 100000 in
theorem w_1629 : (Cond.fieldLink "StowTongueModel" 9 "StowTongueModel" "from" "I" : Cond) ∈ am_tbl := am_w 1629 (by decide +kernel) (by decide +kernel)
set_option maxRecDepth 100000 in
theorem f_Mod_9 : am_F "StowTongueModel" 9 14 7 := ⟨_, rfl, cl_14, by decide, Or.inl w_1629⟩
set_option maxRecDepth 100000 in
theorem d_Mod_step_67 : decode prog_13_method_5_code 67 = .ok (.putfield 9, 3) := by decide +kernel
set_option maxRecDepth 100000 in
theorem d_Mod_step_70 : decode prog_13_method_5_code 70 = .ok (.aload_n 0, 1) := by decide +kernel
set_option maxRecDepth 100000 in
theorem d_Mod_step_71 : decode prog_13_method_5_code 71 = .ok (.getfield 9, 3) := by decide +kernel
set_option maxRecDepth 100000 in
theorem d_Mod_step_74 : decode prog_13_method_5_code 74 = .ok (.aload_n 0, 1) := by decide +kernel
set_option maxRecDepth 100000 in
theorem d_Mod_step_75 : decode prog_13_method_5_code 75 = .ok (.getfield 29, 3) := by decide +kernel
set_option maxRecDepth 100000 in
theorem d_Mod_step_78 : decode prog_13_method_5_code 78 = .ok (.if_icmp .ne 11, 3) := by decide +kernel
set_option maxRecDepth 100000 in
theorem d_Mod_step_81 : decode prog_13_method_5_code 81 = .ok (.aload_n 0, 1) := by decide +kernel
set_option maxRecDepth 100000 in
theorem d_Mod_step_82 : decode prog_13_method_5_code 82 = .ok (.iconst 0, 1) := by decide +kernel
set_option maxRecDepth 100000 in
theorem w_1628 : (Cond.fieldLink "StowTongueModel" 32 "StowTongueModel" "kind" "I" : Cond) ∈ am_tbl := am_w 1628 (by decide +kernel) (by decide +kernel)
set_option maxRecDepth 100000 in
theorem f_Mod_32 : am_F "StowTongueModel" 32 14 6 := ⟨_, rfl, cl_14, by decide, Or.inl w_1628⟩
set_option maxRecDepth 100000 in
theorem d_Mod_step_83 : decode prog_13_method_5_code 83 = .ok (.putfield 32, 3) := by decide +kernel
set_option maxRecDepth 100000 in
theorem d_Mod_step_86 : decode prog_13_method_5_code 86 = .ok (.goto 627, 3) := by decide +kernel
set_option maxRecDepth 100000 in
theorem d_Mod_step_713 : decode prog_13_method_5_code 713 = .ok (.aload_n 0, 1) := by decide +kernel
set_option maxRecDepth 100000 in
theorem d_Mod_step_714 : decode prog_13_method_5_code 714 = .ok (.aload_n 0, 1) := by decide +kernel
set_option maxRecDepth 100000 in
theorem d_Mod_step_715 : decode prog_13_method_5_code 715 = .ok (.getfield 3, 3) := by decide +kernel
set_option maxRecDepth 100000 in
theorem w_1630 : (Cond.fieldLink "StowTongueModel" 74 "StowTongueModel" "to" "I" : Cond) ∈ am_tbl := am_w 1630 (by decide +kernel) (by decide +kernel)
set_option maxRecDepth 100000 in
theorem f_Mod_74 : am_F "StowTongueModel" 74 14 8 := ⟨_, rfl, cl_14, by decide, Or.inl w_1630⟩
set_option maxRecDepth 100000 in
theorem d_Mod_step_718 : decode prog_13_method_5_code 718 = .ok (.putfield 74, 3) := by decide +kernel
set_option maxRecDepth 100000 in
theorem d_Mod_step_721 : decode prog_13_method_5_code 721 = .ok (.return_, 1) := by decide +kernel
set_option maxRecDepth 100000 in
theorem w_1806 : (Cond.methodLink "StowTongueModel" 87 ⟨"StowTongueModel", "step", "()V"⟩ : Cond) ∈ am_tbl := am_w 1806 (by decide +kernel) (by decide +kernel)
set_option maxRecDepth 100000 in
theorem w_1809 : (Cond.code ⟨"StowTongueModel", "step", "()V"⟩ prog_13_method_5_code 5 none : Cond) ∈ am_tbl := am_w 1809 rfl rfl
set_option maxRecDepth 100000 in
theorem l_Mod_87 : am_L "StowTongueModel" 87 0 m_Mod_step := ⟨Or.inl w_1806, w_160, w_1809, ⟨by decide, by decide⟩, by decide +kernel, by decide⟩
set_option maxRecDepth 100000 in
theorem w_1808 : (Cond.instanceMethod ⟨"StowTongueModel", "step", "()V"⟩ : Cond) ∈ am_tbl := am_w 1808 (by decide +kernel) (by decide +kernel)
set_option maxRecDepth 100000 in
theorem w_84 : (Cond.selects "StowTongueModel" ⟨"StowTongueModel", "step", "()V"⟩ ⟨"StowTongueModel", "step", "()V"⟩ : Cond) ∈ am_tbl := am_w 84 (by decide +kernel) (by decide +kernel)
set_option maxRecDepth 100000 in
theorem d_Mod_read_61 : decode prog_13_method_16_code 61 = .ok (.invokevirtual 87, 3) := by decide +kernel
set_option maxRecDepth 100000 in
theorem d_Mod_read_64 : decode prog_13_method_16_code 64 = .ok (.aload_n 0, 1) := by decide +kernel
set_option maxRecDepth 100000 in
theorem d_Mod_read_65 : decode prog_13_method_16_code 65 = .ok (.getfield 32, 3) := by decide +kernel
set_option maxRecDepth 100000 in
theorem d_Mod_read_68 : decode prog_13_method_16_code 68 = .ok (.ifCond .eq 32, 3) := by decide +kernel
set_option maxRecDepth 100000 in
theorem d_Mod_read_100 : decode prog_13_method_16_code 100 = .ok (.aload_n 0, 1) := by decide +kernel
set_option maxRecDepth 100000 in
theorem d_Mod_read_101 : decode prog_13_method_16_code 101 = .ok (.getfield 91, 3) := by decide +kernel
set_option maxRecDepth 100000 in
theorem d_Mod_read_104 : decode prog_13_method_16_code 104 = .ok (.aload_n 0, 1) := by decide +kernel
set_option maxRecDepth 100000 in
theorem d_Mod_read_105 : decode prog_13_method_16_code 105 = .ok (.getfield 123, 3) := by decide +kernel
set_option maxRecDepth 100000 in
theorem w_1534 : (Cond.fieldLink "StowTongueModel" 160 "StowTongueModel$Code" "locals" "I" : Cond) ∈ am_tbl := am_w 1534 (by decide +kernel) (by decide +kernel)
set_option maxRecDepth 100000 in
theorem f_Mod_160 : am_F "StowTongueModel" 160 12 6 := ⟨_, rfl, cl_12, by decide, Or.inl w_1534⟩
set_option maxRecDepth 100000 in
theorem d_Mod_read_108 : decode prog_13_method_16_code 108 = .ok (.putfield 160, 3) := by decide +kernel
set_option maxRecDepth 100000 in
theorem d_Mod_read_111 : decode prog_13_method_16_code 111 = .ok (.aload_n 0, 1) := by decide +kernel
set_option maxRecDepth 100000 in
theorem d_Mod_read_112 : decode prog_13_method_16_code 112 = .ok (.bipush 28, 2) := by decide +kernel
set_option maxRecDepth 100000 in
abbrev m_Mod_put_I : am_M := (⟨"StowTongueModel", "put", "(I)I"⟩, prog_13_method_10_code, 2, (some FieldType.int))
set_option maxRecDepth 100000 in
theorem d_Mod_put_I_0 : decode prog_13_method_10_code 0 = .ok (.aload_n 0, 1) := by decide +kernel
set_option maxRecDepth 100000 in
theorem d_Mod_put_I_1 : decode prog_13_method_10_code 1 = .ok (.getfield 91, 3) := by decide +kernel
set_option maxRecDepth 100000 in
theorem w_1522 : (Cond.fieldLink "StowTongueModel" 95 "StowTongueModel$Code" "step" "[I" : Cond) ∈ am_tbl := am_w 1522 (by decide +kernel) (by decide +kernel)
set_option maxRecDepth 100000 in
theorem f_Mod_95 : am_F "StowTongueModel" 95 12 0 := ⟨_, rfl, cl_12, by decide, Or.inl w_1522⟩
set_option maxRecDepth 100000 in
theorem d_Mod_put_I_4 : decode prog_13_method_10_code 4 = .ok (.getfield 95, 3) := by decide +kernel
set_option maxRecDepth 100000 in
theorem d_Mod_put_I_7 : decode prog_13_method_10_code 7 = .ok (.aload_n 0, 1) := by decide +kernel
set_option maxRecDepth 100000 in
theorem d_Mod_put_I_8 : decode prog_13_method_10_code 8 = .ok (.getfield 91, 3) := by decide +kernel
set_option maxRecDepth 100000 in
theorem w_1526 : (Cond.fieldLink "StowTongueModel" 100 "StowTongueModel$Code" "many" "I" : Cond) ∈ am_tbl := am_w 1526 (by decide +kernel) (by decide +kernel)
set_option maxRecDepth 100000 in
theorem f_Mod_100 : am_F "StowTongueModel" 100 12 2 := ⟨_, rfl, cl_12, by decide, Or.inl w_1526⟩
set_option maxRecDepth 100000 in
theorem d_Mod_put_I_11 : decode prog_13_method_10_code 11 = .ok (.getfield 100, 3) := by decide +kernel
set_option maxRecDepth 100000 in
theorem d_Mod_put_I_14 : decode prog_13_method_10_code 14 = .ok (.iload_n 1, 1) := by decide +kernel
set_option maxRecDepth 100000 in
theorem d_Mod_put_I_15 : decode prog_13_method_10_code 15 = .ok (.iastore, 1) := by decide +kernel
set_option maxRecDepth 100000 in
theorem d_Mod_put_I_16 : decode prog_13_method_10_code 16 = .ok (.aload_n 0, 1) := by decide +kernel
set_option maxRecDepth 100000 in
theorem d_Mod_put_I_17 : decode prog_13_method_10_code 17 = .ok (.getfield 91, 3) := by decide +kernel
set_option maxRecDepth 100000 in
theorem d_Mod_put_I_20 : decode prog_13_method_10_code 20 = .ok (.dup, 1) := by decide +kernel
set_option maxRecDepth 100000 in
theorem d_Mod_put_I_21 : decode prog_13_method_10_code 21 = .ok (.getfield 100, 3) := by decide +kernel
set_option maxRecDepth 100000 in
theorem d_Mod_put_I_24 : decode prog_13_method_10_code 24 = .ok (.iconst 1, 1) := by decide +kernel
set_option maxRecDepth 100000 in
theorem d_Mod_put_I_25 : decode prog_13_method_10_code 25 = .ok (.iadd, 1) := by decide +kernel
set_option maxRecDepth 100000 in
theorem d_Mod_put_I_26 : decode prog_13_method_10_code 26 = .ok (.putfield 100, 3) := by decide +kernel
set_option maxRecDepth 100000 in
theorem d_Mod_put_I_29 : decode prog_13_method_10_code 29 = .ok (.aload_n 0, 1) := by decide +kernel
set_option maxRecDepth 100000 in
theorem d_Mod_put_I_30 : decode prog_13_method_10_code 30 = .ok (.getfield 91, 3) := by decide +kernel
set_option maxRecDepth 100000 in
theorem d_Mod_put_I_33 : decode prog_13_method_10_code 33 = .ok (.getfield 100, 3) := by decide +kernel
set_option maxRecDepth 100000 in
theorem d_Mod_put_I_36 : decode prog_13_method_10_code 36 = .ok (.iconst 1, 1) := by decide +kernel
set_option maxRecDepth 100000 in
theorem d_Mod_put_I_37 : decode prog_13_method_10_code 37 = .ok (.isub, 1) := by decide +kernel
set_option maxRecDepth 100000 in
theorem d_Mod_put_I_38 : decode prog_13_method_10_code 38 = .ok (.ireturn, 1) := by decide +kernel
set_option maxRecDepth 100000 in
theorem w_1873 : (Cond.methodLink "StowTongueModel" 103 ⟨"StowTongueModel", "put", "(I)I"⟩ : Cond) ∈ am_tbl := am_w 1873 (by decide +kernel) (by decide +kernel)
set_option maxRecDepth 100000 in
theorem w_1876 : (Cond.code ⟨"StowTongueModel", "put", "(I)I"⟩ prog_13_method_10_code 2 (some FieldType.int) : Cond) ∈ am_tbl := am_w 1876 rfl rfl
set_option maxRecDepth 100000 in
theorem l_Mod_103 : am_L "StowTongueModel" 103 1 m_Mod_put_I := ⟨Or.inl w_1873, w_160, w_1876, ⟨by decide, by decide⟩, by decide +kernel, by decide⟩
set_option maxRecDepth 100000 in
theorem w_1875 : (Cond.instanceMethod ⟨"StowTongueModel", "put", "(I)I"⟩ : Cond) ∈ am_tbl := am_w 1875 (by decide +kernel) (by decide +kernel)
set_option maxRecDepth 100000 in
theorem w_95 : (Cond.selects "StowTongueModel" ⟨"StowTongueModel", "put", "(I)I"⟩ ⟨"StowTongueModel", "put", "(I)I"⟩ : Cond) ∈ am_tbl := am_w 95 (by decide +kernel) (by decide +kernel)
set_option maxRecDepth 100000 in
theorem d_Mod_read_114 : decode prog_13_method_16_code 114 = .ok (.invokevirtual 103, 3) := by decide +kernel
set_option maxRecDepth 100000 in
theorem d_Mod_read_117 : decode prog_13_method_16_code 117 = .ok (.pop, 1) := by decide +kernel
set_option maxRecDepth 100000 in
theorem d_Mod_read_118 : decode prog_13_method_16_code 118 = .ok (.iconst 1, 1) := by decide +kernel
set_option maxRecDepth 100000 in
theorem d_Mod_read_119 : decode prog_13_method_16_code 119 = .ok (.ireturn, 1) := by decide +kernel
set_option maxRecDepth 100000 in
theorem w_1798 : (Cond.methodLink "StowTongueModel" 437 ⟨"StowTongueModel", "read", "()Z"⟩ : Cond) ∈ am_tbl := am_w 1798 (by decide +kernel) (by decide +kernel)
set_option maxRecDepth 100000 in
theorem w_1801 : (Cond.code ⟨"StowTongueModel", "read", "()Z"⟩ prog_13_method_16_code 1 (some FieldType.boolean) : Cond) ∈ am_tbl := am_w 1801 rfl rfl
set_option maxRecDepth 100000 in
theorem l_Mod_437 : am_L "StowTongueModel" 437 0 m_Mod_read := ⟨Or.inl w_1798, w_160, w_1801, ⟨by decide, by decide⟩, by decide +kernel, by decide⟩
set_option maxRecDepth 100000 in
theorem w_1800 : (Cond.instanceMethod ⟨"StowTongueModel", "read", "()Z"⟩ : Cond) ∈ am_tbl := am_w 1800 (by decide +kernel) (by decide +kernel)
set_option maxRecDepth 100000 in
theorem w_83 : (Cond.selects "StowTongueModel" ⟨"StowTongueModel", "read", "()Z"⟩ ⟨"StowTongueModel", "read", "()Z"⟩ : Cond) ∈ am_tbl := am_w 83 (by decide +kernel) (by decide +kernel)
set_option maxRecDepth 100000 in
theorem d_Mod_run_15 : decode prog_13_method_42_code 15 = .ok (.invokevirtual 437, 3) := by decide +kernel
set_option maxRecDepth 100000 in
theorem d_Mod_run_18 : decode prog_13_method_42_code 18 = .ok (.ifCond .ne 11, 3) := by decide +kernel
set_option maxRecDepth 100000 in
theorem d_Mod_run_29 : decode prog_13_method_42_code 29 = .ok (.aload_n 0, 1) := by decide +kernel
set_option maxRecDepth 100000 in
theorem d_Mod_run_30 : decode prog_13_method_42_code 30 = .ok (.iconst 0, 1) := by decide +kernel
set_option maxRecDepth 100000 in
theorem d_Mod_run_31 : decode prog_13_method_42_code 31 = .ok (.putfield 440, 3) := by decide +kernel
set_option maxRecDepth 100000 in
theorem d_Mod_run_34 : decode prog_13_method_42_code 34 = .ok (.aload_n 0, 1) := by decide +kernel
set_option maxRecDepth 100000 in
theorem d_Mod_run_35 : decode prog_13_method_42_code 35 = .ok (.getfield 374, 3) := by decide +kernel
set_option maxRecDepth 100000 in
theorem d_Mod_run_38 : decode prog_13_method_42_code 38 = .ok (.iconst 0, 1) := by decide +kernel
set_option maxRecDepth 100000 in
theorem d_Mod_run_39 : decode prog_13_method_42_code 39 = .ok (.iconst 0, 1) := by decide +kernel
set_option maxRecDepth 100000 in
theorem d_Mod_run_40 : decode prog_13_method_42_code 40 = .ok (.iconst 0, 1) := by decide +kernel
set_option maxRecDepth 100000 in
theorem d_Mod_run_41 : decode prog_13_method_42_code 41 = .ok (.lconst 0, 1) := by decide +kernel
set_option maxRecDepth 100000 in
theorem d_Mod_run_42 : decode prog_13_method_42_code 42 = .ok (.lconst 0, 1) := by decide +kernel
set_option maxRecDepth 100000 in
abbrev m_Vals_set : am_M := (⟨"StowTongueModel$Values", "set", "(IIIJJ)V"⟩, prog_16_method_2_code, 8, none)
set_option maxRecDepth 100000 in
theorem d_Vals_set_0 : decode prog_16_method_2_code 0 = .ok (.aload_n 0, 1) := by decide +kernel
set_option maxRecDepth 100000 in
theorem d_Vals_set_1 : decode prog_16_method_2_code 1 = .ok (.getfield 7, 3) := by decide +kernel
set_option maxRecDepth 100000 in
theorem d_Vals_set_4 : decode prog_16_method_2_code 4 = .ok (.iload_n 1, 1) := by decide +kernel
set_option maxRecDepth 100000 in
theorem d_Vals_set_5 : decode prog_16_method_2_code 5 = .ok (.iload_n 2, 1) := by decide +kernel
set_option maxRecDepth 100000 in
theorem d_Vals_set_6 : decode prog_16_method_2_code 6 = .ok (.iastore, 1) := by decide +kernel
set_option maxRecDepth 100000 in
theorem d_Vals_set_7 : decode prog_16_method_2_code 7 = .ok (.aload_n 0, 1) := by decide +kernel
set_option maxRecDepth 100000 in
theorem d_Vals_set_8 : decode prog_16_method_2_code 8 = .ok (.getfield 13, 3) := by decide +kernel
set_option maxRecDepth 100000 in
theorem d_Vals_set_11 : decode prog_16_method_2_code 11 = .ok (.iload_n 1, 1) := by decide +kernel
set_option maxRecDepth 100000 in
theorem d_Vals_set_12 : decode prog_16_method_2_code 12 = .ok (.iload_n 3, 1) := by decide +kernel
set_option maxRecDepth 100000 in
theorem d_Vals_set_13 : decode prog_16_method_2_code 13 = .ok (.iastore, 1) := by decide +kernel
set_option maxRecDepth 100000 in
theorem d_Vals_set_14 : decode prog_16_method_2_code 14 = .ok (.aload_n 0, 1) := by decide +kernel
set_option maxRecDepth 100000 in
theorem d_Vals_set_15 : decode prog_16_method_2_code 15 = .ok (.getfield 16, 3) := by decide +kernel
set_option maxRecDepth 100000 in
theorem d_Vals_set_18 : decode prog_16_method_2_code 18 = .ok (.iload_n 1, 1) := by decide +kernel
set_option maxRecDepth 100000 in
theorem d_Vals_set_19 : decode prog_16_method_2_code 19 = .ok (.lload 4, 2) := by decide +kernel
set_option maxRecDepth 100000 in
theorem d_Vals_set_21 : decode prog_16_method_2_code 21 = .ok (.lastore, 1) := by decide +kernel
set_option maxRecDepth 100000 in
theorem d_Vals_set_22 : decode prog_16_method_2_code 22 = .ok (.aload_n 0, 1) := by decide +kernel
set_option maxRecDepth 100000 in
theorem d_Vals_set_23 : decode prog_16_method_2_code 23 = .ok (.getfield 20, 3) := by decide +kernel
set_option maxRecDepth 100000 in
theorem d_Vals_set_26 : decode prog_16_method_2_code 26 = .ok (.iload_n 1, 1) := by decide +kernel
set_option maxRecDepth 100000 in
theorem d_Vals_set_27 : decode prog_16_method_2_code 27 = .ok (.lload 6, 2) := by decide +kernel
set_option maxRecDepth 100000 in
theorem d_Vals_set_29 : decode prog_16_method_2_code 29 = .ok (.lastore, 1) := by decide +kernel
set_option maxRecDepth 100000 in
theorem d_Vals_set_30 : decode prog_16_method_2_code 30 = .ok (.return_, 1) := by decide +kernel
set_option maxRecDepth 100000 in
theorem w_1913 : (Cond.methodLink "StowTongueModel" 114 ⟨"StowTongueModel$Values", "set", "(IIIJJ)V"⟩ : Cond) ∈ am_tbl := am_w 1913 (by decide +kernel) (by decide +kernel)
set_option maxRecDepth 100000 in
theorem w_1916 : (Cond.code ⟨"StowTongueModel$Values", "set", "(IIIJJ)V"⟩ prog_16_method_2_code 8 none : Cond) ∈ am_tbl := am_w 1916 rfl rfl
set_option maxRecDepth 100000 in
theorem l_Mod_114 : am_L "StowTongueModel" 114 5 m_Vals_set := ⟨Or.inl w_1913, w_162, w_1916, ⟨by decide, by decide⟩, by decide +kernel, by decide⟩
set_option maxRecDepth 100000 in
theorem w_1914 : (Cond.instanceMethod ⟨"StowTongueModel$Values", "set", "(IIIJJ)V"⟩ : Cond) ∈ am_tbl := am_w 1914 (by decide +kernel) (by decide +kernel)
set_option maxRecDepth 100000 in
theorem w_1915 : (Cond.selects "StowTongueModel$Values" ⟨"StowTongueModel$Values", "set", "(IIIJJ)V"⟩ ⟨"StowTongueModel$Values", "set", "(IIIJJ)V"⟩ : Cond) ∈ am_tbl := am_w 1915 (by decide +kernel) (by decide +kernel)
set_option maxRecDepth 100000 in
theorem d_Mod_run_43 : decode prog_13_method_42_code 43 = .ok (.invokevirtual 114, 3) := by decide +kernel
set_option maxRecDepth 100000 in
theorem d_Mod_run_46 : decode prog_13_method_42_code 46 = .ok (.aload_n 0, 1) := by decide +kernel
set_option maxRecDepth 100000 in
theorem d_Mod_run_47 : decode prog_13_method_42_code 47 = .ok (.iload_n 1, 1) := by decide +kernel
set_option maxRecDepth 100000 in
theorem w_1665 : (Cond.fieldLink "StowTongueModel" 443 "StowTongueModel" "fuel" "I" : Cond) ∈ am_tbl := am_w 1665 (by decide +kernel) (by decide +kernel)
set_option maxRecDepth 100000 in
theorem f_Mod_443 : am_F "StowTongueModel" 443 14 43 := ⟨_, rfl, cl_14, by decide, Or.inl w_1665⟩
set_option maxRecDepth 100000 in
theorem d_Mod_run_48 : decode prog_13_method_42_code 48 = .ok (.putfield 443, 3) := by decide +kernel
set_option maxRecDepth 100000 in
theorem d_Mod_run_51 : decode prog_13_method_42_code 51 = .ok (.aload_n 0, 1) := by decide +kernel
set_option maxRecDepth 100000 in
theorem d_Mod_run_52 : decode prog_13_method_42_code 52 = .ok (.iconst 0, 1) := by decide +kernel
set_option maxRecDepth 100000 in
theorem d_Mod_run_53 : decode prog_13_method_42_code 53 = .ok (.putfield 446, 3) := by decide +kernel
set_option maxRecDepth 100000 in
theorem d_Mod_run_56 : decode prog_13_method_42_code 56 = .ok (.aload_n 0, 1) := by decide +kernel
set_option maxRecDepth 100000 in
theorem d_Mod_run_57 : decode prog_13_method_42_code 57 = .ok (.getfield 353, 3) := by decide +kernel
set_option maxRecDepth 100000 in
theorem d_Mod_run_60 : decode prog_13_method_42_code 60 = .ok (.aload_n 0, 1) := by decide +kernel
set_option maxRecDepth 100000 in
theorem d_Mod_run_61 : decode prog_13_method_42_code 61 = .ok (.getfield 349, 3) := by decide +kernel
set_option maxRecDepth 100000 in
theorem d_Mod_run_64 : decode prog_13_method_42_code 64 = .ok (.invokevirtual 448, 3) := by decide +kernel
set_option maxRecDepth 100000 in
theorem d_Mod_run_67 : decode prog_13_method_42_code 67 = .ok (.aload_n 0, 1) := by decide +kernel
set_option maxRecDepth 100000 in
abbrev m_Mod_tellFunctions : am_M := (⟨"StowTongueModel", "tellFunctions", "()I"⟩, prog_13_method_40_code, 4, (some FieldType.int))
set_option maxRecDepth 100000 in
theorem d_Mod_tellFunctions_0 : decode prog_13_method_40_code 0 = .ok (.iconst 0, 1) := by decide +kernel
set_option maxRecDepth 100000 in
theorem d_Mod_tellFunctions_1 : decode prog_13_method_40_code 1 = .ok (.istore_n 1, 1) := by decide +kernel
set_option maxRecDepth 100000 in
theorem d_Mod_tellFunctions_2 : decode prog_13_method_40_code 2 = .ok (.iload_n 1, 1) := by decide +kernel
set_option maxRecDepth 100000 in
theorem d_Mod_tellFunctions_3 : decode prog_13_method_40_code 3 = .ok (.aload_n 0, 1) := by decide +kernel
set_option maxRecDepth 100000 in
theorem d_Mod_tellFunctions_4 : decode prog_13_method_40_code 4 = .ok (.getfield 137, 3) := by decide +kernel
set_option maxRecDepth 100000 in
theorem d_Mod_tellFunctions_7 : decode prog_13_method_40_code 7 = .ok (.if_icmp .ge 209, 3) := by decide +kernel
set_option maxRecDepth 100000 in
theorem d_Mod_tellFunctions_216 : decode prog_13_method_40_code 216 = .ok (.iconst 0, 1) := by decide +kernel
set_option maxRecDepth 100000 in
theorem d_Mod_tellFunctions_217 : decode prog_13_method_40_code 217 = .ok (.ireturn, 1) := by decide +kernel
set_option maxRecDepth 100000 in
theorem w_1996 : (Cond.methodLink "StowTongueModel" 451 ⟨"StowTongueModel", "tellFunctions", "()I"⟩ : Cond) ∈ am_tbl := am_w 1996 (by decide +kernel) (by decide +kernel)
set_option maxRecDepth 100000 in
theorem w_1999 : (Cond.code ⟨"StowTongueModel", "tellFunctions", "()I"⟩ prog_13_method_40_code 4 (some FieldType.int) : Cond) ∈ am_tbl := am_w 1999 rfl rfl
set_option maxRecDepth 100000 in
theorem l_Mod_451 : am_L "StowTongueModel" 451 0 m_Mod_tellFunctions := ⟨Or.inl w_1996, w_160, w_1999, ⟨by decide, by decide⟩, by decide +kernel, by decide⟩
set_option maxRecDepth 100000 in
theorem w_1998 : (Cond.instanceMethod ⟨"StowTongueModel", "tellFunctions", "()I"⟩ : Cond) ∈ am_tbl := am_w 1998 (by decide +kernel) (by decide +kernel)
set_option maxRecDepth 100000 in
theorem w_114 : (Cond.selects "StowTongueModel" ⟨"StowTongueModel", "tellFunctions", "()I"⟩ ⟨"StowTongueModel", "tellFunctions", "()I"⟩ : Cond) ∈ am_tbl := am_w 114 (by decide +kernel) (by decide +kernel)
set_option maxRecDepth 100000 in
theorem d_Mod_run_68 : decode prog_13_method_42_code 68 = .ok (.invokevirtual 451, 3) := by decide +kernel
set_option maxRecDepth 100000 in
theorem d_Mod_run_71 : decode prog_13_method_42_code 71 = .ok (.istore_n 2, 1) := by decide +kernel
set_option maxRecDepth 100000 in
theorem d_Mod_run_72 : decode prog_13_method_42_code 72 = .ok (.iload_n 2, 1) := by decide +kernel
set_option maxRecDepth 100000 in
theorem d_Mod_run_73 : decode prog_13_method_42_code 73 = .ok (.ifCond .ne 8, 3) := by decide +kernel
set_option maxRecDepth 100000 in
theorem d_Mod_run_76 : decode prog_13_method_42_code 76 = .ok (.aload_n 0, 1) := by decide +kernel
set_option maxRecDepth 100000 in
abbrev m_Mod_go_ : am_M := (⟨"StowTongueModel", "go", "()I"⟩, prog_13_method_44_code, 2, (some FieldType.int))
set_option maxRecDepth 100000 in
theorem d_Mod_go__0 : decode prog_13_method_44_code 0 = .ok (.aload_n 0, 1) := by decide +kernel
set_option maxRecDepth 100000 in
theorem d_Mod_go__1 : decode prog_13_method_44_code 1 = .ok (.iconst 0, 1) := by decide +kernel
set_option maxRecDepth 100000 in
theorem w_1663 : (Cond.fieldLink "StowTongueModel" 486 "StowTongueModel" "top" "I" : Cond) ∈ am_tbl := am_w 1663 (by decide +kernel) (by decide +kernel)
set_option maxRecDepth 100000 in
theorem f_Mod_486 : am_F "StowTongueModel" 486 14 41 := ⟨_, rfl, cl_14, by decide, Or.inl w_1663⟩
set_option maxRecDepth 100000 in
theorem d_Mod_go__2 : decode prog_13_method_44_code 2 = .ok (.putfield 486, 3) := by decide +kernel
set_option maxRecDepth 100000 in
theorem d_Mod_go__5 : decode prog_13_method_44_code 5 = .ok (.aload_n 0, 1) := by decide +kernel
set_option maxRecDepth 100000 in
theorem d_Mod_go__6 : decode prog_13_method_44_code 6 = .ok (.iconst 0, 1) := by decide +kernel
set_option maxRecDepth 100000 in
theorem w_1664 : (Cond.fieldLink "StowTongueModel" 489 "StowTongueModel" "placed" "I" : Cond) ∈ am_tbl := am_w 1664 (by decide +kernel) (by decide +kernel)
set_option maxRecDepth 100000 in
theorem f_Mod_489 : am_F "StowTongueModel" 489 14 42 := ⟨_, rfl, cl_14, by decide, Or.inl w_1664⟩
set_option maxRecDepth 100000 in
theorem d_Mod_go__7 : decode prog_13_method_44_code 7 = .ok (.putfield 489, 3) := by decide +kernel
set_option maxRecDepth 100000 in
theorem d_Mod_go__10 : decode prog_13_method_44_code 10 = .ok (.aload_n 0, 1) := by decide +kernel
set_option maxRecDepth 100000 in
theorem d_Mod_go__11 : decode prog_13_method_44_code 11 = .ok (.iconst 0, 1) := by decide +kernel
set_option maxRecDepth 100000 in
theorem w_1667 : (Cond.fieldLink "StowTongueModel" 492 "StowTongueModel" "frames" "I" : Cond) ∈ am_tbl := am_w 1667 (by decide +kernel) (by decide +kernel)
set_option maxRecDepth 100000 in
theorem f_Mod_492 : am_F "StowTongueModel" 492 14 45 := ⟨_, rfl, cl_14, by decide, Or.inl w_1667⟩
set_option maxRecDepth 100000 in
theorem d_Mod_go__12 : decode prog_13_method_44_code 12 = .ok (.putfield 492, 3) := by decide +kernel
set_option maxRecDepth 100000 in
theorem d_Mod_go__15 : decode prog_13_method_44_code 15 = .ok (.aload_n 0, 1) := by decide +kernel
set_option maxRecDepth 100000 in
theorem d_Mod_go__16 : decode prog_13_method_44_code 16 = .ok (.aload_n 0, 1) := by decide +kernel
set_option maxRecDepth 100000 in
theorem d_Mod_go__17 : decode prog_13_method_44_code 17 = .ok (.getfield 143, 3) := by decide +kernel
set_option maxRecDepth 100000 in
theorem d_Mod_go__20 : decode prog_13_method_44_code 20 = .ok (.iconst 0, 1) := by decide +kernel
set_option maxRecDepth 100000 in
abbrev m_Mod_enter : am_M := (⟨"StowTongueModel", "enter", "(LStowTongueModel$Code;I)V"⟩, prog_13_method_45_code, 4, none)
set_option maxRecDepth 100000 in
theorem d_Mod_enter_0 : decode prog_13_method_45_code 0 = .ok (.aload_n 0, 1) := by decide +kernel
set_option maxRecDepth 100000 in
theorem d_Mod_enter_1 : decode prog_13_method_45_code 1 = .ok (.getfield 380, 3) := by decide +kernel
set_option maxRecDepth 100000 in
theorem d_Mod_enter_4 : decode prog_13_method_45_code 4 = .ok (.aload_n 0, 1) := by decide +kernel
set_option maxRecDepth 100000 in
theorem d_Mod_enter_5 : decode prog_13_method_45_code 5 = .ok (.getfield 492, 3) := by decide +kernel
set_option maxRecDepth 100000 in
theorem d_Mod_enter_8 : decode prog_13_method_45_code 8 = .ok (.aload_n 1, 1) := by decide +kernel
set_option maxRecDepth 100000 in
theorem d_Mod_enter_9 : decode prog_13_method_45_code 9 = .ok (.aastore, 1) := by decide +kernel
set_option maxRecDepth 100000 in
theorem d_Mod_enter_10 : decode prog_13_method_45_code 10 = .ok (.aload_n 0, 1) := by decide +kernel
set_option maxRecDepth 100000 in
theorem d_Mod_enter_11 : decode prog_13_method_45_code 11 = .ok (.getfield 383, 3) := by decide +kernel
set_option maxRecDepth 100000 in
theorem d_Mod_enter_14 : decode prog_13_method_45_code 14 = .ok (.aload_n 0, 1) := by decide +kernel
set_option maxRecDepth 100000 in
theorem d_Mod_enter_15 : decode prog_13_method_45_code 15 = .ok (.getfield 492, 3) := by decide +kernel
set_option maxRecDepth 100000 in
theorem d_Mod_enter_18 : decode prog_13_method_45_code 18 = .ok (.aload_n 0, 1) := by decide +kernel
set_option maxRecDepth 100000 in
theorem w_1668 : (Cond.fieldLink "StowTongueModel" 502 "StowTongueModel" "pc" "I" : Cond) ∈ am_tbl := am_w 1668 (by decide +kernel) (by decide +kernel)
set_option maxRecDepth 100000 in
theorem f_Mod_502 : am_F "StowTongueModel" 502 14 46 := ⟨_, rfl, cl_14, by decide, Or.inl w_1668⟩
set_option maxRecDepth 100000 in
theorem d_Mod_enter_19 : decode prog_13_method_45_code 19 = .ok (.getfield 502, 3) := by decide +kernel
set_option maxRecDepth 100000 in
theorem d_Mod_enter_22 : decode prog_13_method_45_code 22 = .ok (.iastore, 1) := by decide +kernel
set_option maxRecDepth 100000 in
theorem d_Mod_enter_23 : decode prog_13_method_45_code 23 = .ok (.aload_n 0, 1) := by decide +kernel
set_option maxRecDepth 100000 in
theorem d_Mod_enter_24 : decode prog_13_method_45_code 24 = .ok (.getfield 386, 3) := by decide +kernel
set_option maxRecDepth 100000 in
theorem d_Mod_enter_27 : decode prog_13_method_45_code 27 = .ok (.aload_n 0, 1) := by decide +kernel
set_option maxRecDepth 100000 in
theorem d_Mod_enter_28 : decode prog_13_method_45_code 28 = .ok (.getfield 492, 3) := by decide +kernel
set_option maxRecDepth 100000 in
theorem d_Mod_enter_31 : decode prog_13_method_45_code 31 = .ok (.aload_n 0, 1) := by decide +kernel
set_option maxRecDepth 100000 in
theorem d_Mod_enter_32 : decode prog_13_method_45_code 32 = .ok (.getfield 489, 3) := by decide +kernel
set_option maxRecDepth 100000 in
theorem d_Mod_enter_35 : decode prog_13_method_45_code 35 = .ok (.iastore, 1) := by decide +kernel
set_option maxRecDepth 100000 in
theorem d_Mod_enter_36 : decode prog_13_method_45_code 36 = .ok (.iconst 0, 1) := by decide +kernel
set_option maxRecDepth 100000 in
theorem d_Mod_enter_37 : decode prog_13_method_45_code 37 = .ok (.istore_n 3, 1) := by decide +kernel
set_option maxRecDepth 100000 in
theorem d_Mod_enter_38 : decode prog_13_method_45_code 38 = .ok (.iload_n 3, 1) := by decide +kernel
set_option maxRecDepth 100000 in
theorem d_Mod_enter_39 : decode prog_13_method_45_code 39 = .ok (.aload_n 1, 1) := by decide +kernel
set_option maxRecDepth 100000 in
theorem d_Mod_enter_40 : decode prog_13_method_45_code 40 = .ok (.getfield 160, 3) := by decide +kernel
set_option maxRecDepth 100000 in
theorem d_Mod_enter_43 : decode prog_13_method_45_code 43 = .ok (.if_icmp .ge 26, 3) := by decide +kernel
set_option maxRecDepth 100000 in
theorem d_Mod_enter_69 : decode prog_13_method_45_code 69 = .ok (.iconst 0, 1) := by decide +kernel
set_option maxRecDepth 100000 in
theorem d_Mod_enter_70 : decode prog_13_method_45_code 70 = .ok (.istore_n 3, 1) := by decide +kernel
set_option maxRecDepth 100000 in
theorem d_Mod_enter_71 : decode prog_13_method_45_code 71 = .ok (.iload_n 3, 1) := by decide +kernel
set_option maxRecDepth 100000 in
theorem d_Mod_enter_72 : decode prog_13_method_45_code 72 = .ok (.iload_n 2, 1) := by decide +kernel
set_option maxRecDepth 100000 in
theorem d_Mod_enter_73 : decode prog_13_method_45_code 73 = .ok (.if_icmp .ge 34, 3) := by decide +kernel
set_option maxRecDepth 100000 in
theorem d_Mod_enter_107 : decode prog_13_method_45_code 107 = .ok (.aload_n 0, 1) := by decide +kernel
set_option maxRecDepth 100000 in
theorem d_Mod_enter_108 : decode prog_13_method_45_code 108 = .ok (.dup, 1) := by decide +kernel
set_option maxRecDepth 100000 in
theorem d_Mod_enter_109 : decode prog_13_method_45_code 109 = .ok (.getfield 486, 3) := by decide +kernel
set_option maxRecDepth 100000 in
theorem d_Mod_enter_112 : decode prog_13_method_45_code 112 = .ok (.iload_n 2, 1) := by decide +kernel
set_option maxRecDepth 100000 in
theorem d_Mod_enter_113 : decode prog_13_method_45_code 113 = .ok (.isub, 1) := by decide +kernel
set_option maxRecDepth 100000 in
theorem d_Mod_enter_114 : decode prog_13_method_45_code 114 = .ok (.putfield 486, 3) := by decide +kernel
set_option maxRecDepth 100000 in
theorem d_Mod_enter_117 : decode prog_13_method_45_code 117 = .ok (.aload_n 0, 1) := by decide +kernel
set_option maxRecDepth 100000 in
theorem d_Mod_enter_118 : decode prog_13_method_45_code 118 = .ok (.dup, 1) := by decide +kernel
set_option maxRecDepth 100000 in
theorem d_Mod_enter_119 : decode prog_13_method_45_code 119 = .ok (.getfield 489, 3) := by decide +kernel
set_option maxRecDepth 100000 in
theorem d_Mod_enter_122 : decode prog_13_method_45_code 122 = .ok (.aload_n 1, 1) := by decide +kernel
set_option maxRecDepth 100000 in
theorem d_Mod_enter_123 : decode prog_13_method_45_code 123 = .ok (.getfield 160, 3) := by decide +kernel
set_option maxRecDepth 100000 in
theorem d_Mod_enter_126 : decode prog_13_method_45_code 126 = .ok (.iadd, 1) := by decide +kernel
set_option maxRecDepth 100000 in
theorem d_Mod_enter_127 : decode prog_13_method_45_code 127 = .ok (.putfield 489, 3) := by decide +kernel
set_option maxRecDepth 100000 in
theorem d_Mod_enter_130 : decode prog_13_method_45_code 130 = .ok (.aload_n 0, 1) := by decide +kernel
set_option maxRecDepth 100000 in
theorem d_Mod_enter_131 : decode prog_13_method_45_code 131 = .ok (.dup, 1) := by decide +kernel
set_option maxRecDepth 100000 in
theorem d_Mod_enter_132 : decode prog_13_method_45_code 132 = .ok (.getfield 492, 3) := by decide +kernel
set_option maxRecDepth 100000 in
theorem d_Mod_enter_135 : decode prog_13_method_45_code 135 = .ok (.iconst 1, 1) := by decide +kernel
set_option maxRecDepth 100000 in
theorem d_Mod_enter_136 : decode prog_13_method_45_code 136 = .ok (.iadd, 1) := by decide +kernel
set_option maxRecDepth 100000 in
theorem d_Mod_enter_137 : decode prog_13_method_45_code 137 = .ok (.putfield 492, 3) := by decide +kernel
set_option maxRecDepth 100000 in
theorem d_Mod_enter_140 : decode prog_13_method_45_code 140 = .ok (.aload_n 0, 1) := by decide +kernel
set_option maxRecDepth 100000 in
theorem d_Mod_enter_141 : decode prog_13_method_45_code 141 = .ok (.iconst 0, 1) := by decide +kernel
set_option maxRecDepth 100000 in
theorem d_Mod_enter_142 : decode prog_13_method_45_code 142 = .ok (.putfield 502, 3) := by decide +kernel
set_option maxRecDepth 100000 in
theorem d_Mod_enter_145 : decode prog_13_method_45_code 145 = .ok (.return_, 1) := by decide +kernel
set_option maxRecDepth 100000 in
theorem w_2025 : (Cond.methodLink "StowTongueModel" 495 ⟨"StowTongueModel", "enter", "(LStowTongueModel$Code;I)V"⟩ : Cond) ∈ am_tbl := am_w 2025 (by decide +kernel) (by decide +kernel)
set_option maxRecDepth 100000 in
theorem w_2028 : (Cond.code ⟨"StowTongueModel", "enter", "(LStowTongueModel$Code;I)V"⟩ prog_13_method_45_code 4 none : Cond) ∈ am_tbl := am_w 2028 rfl rfl
set_option maxRecDepth 100000 in
theorem l_Mod_495 : am_L "StowTongueModel" 495 2 m_Mod_enter := ⟨Or.inl w_2025, w_160, w_2028, ⟨by decide, by decide⟩, by decide +kernel, by decide⟩
set_option maxRecDepth 100000 in
theorem w_2027 : (Cond.instanceMethod ⟨"StowTongueModel", "enter", "(LStowTongueModel$Code;I)V"⟩ : Cond) ∈ am_tbl := am_w 2027 (by decide +kernel) (by decide +kernel)
set_option maxRecDepth 100000 in
theorem w_118 : (Cond.selects "StowTongueModel" ⟨"StowTongueModel", "enter", "(LStowTongueModel$Code;I)V"⟩ ⟨"StowTongueModel", "enter", "(LStowTongueModel$Code;I)V"⟩ : Cond) ∈ am_tbl := am_w 118 (by decide +kernel) (by decide +kernel)
set_option maxRecDepth 100000 in
theorem d_Mod_go__21 : decode prog_13_method_44_code 21 = .ok (.invokevirtual 495, 3) := by decide +kernel
set_option maxRecDepth 100000 in
theorem d_Mod_go__24 : decode prog_13_method_44_code 24 = .ok (.iconst (-1), 1) := by decide +kernel
set_option maxRecDepth 100000 in
theorem d_Mod_go__25 : decode prog_13_method_44_code 25 = .ok (.istore_n 1, 1) := by decide +kernel
set_option maxRecDepth 100000 in
theorem d_Mod_go__26 : decode prog_13_method_44_code 26 = .ok (.iload_n 1, 1) := by decide +kernel
set_option maxRecDepth 100000 in
theorem d_Mod_go__27 : decode prog_13_method_44_code 27 = .ok (.ifCond .ge 11, 3) := by decide +kernel
set_option maxRecDepth 100000 in
theorem d_Mod_go__30 : decode prog_13_method_44_code 30 = .ok (.aload_n 0, 1) := by decide +kernel
set_option maxRecDepth 100000 in
abbrev m_Mod_one : am_M := (⟨"StowTongueModel", "one", "()I"⟩, prog_13_method_52_code, 5, (some FieldType.int))
set_option maxRecDepth 100000 in
theorem d_Mod_one_0 : decode prog_13_method_52_code 0 = .ok (.aload_n 0, 1) := by decide +kernel
set_option maxRecDepth 100000 in
abbrev m_Mod_next : am_M := (⟨"StowTongueModel", "next", "()I"⟩, prog_13_method_46_code, 1, (some FieldType.int))
set_option maxRecDepth 100000 in
theorem d_Mod_next_0 : decode prog_13_method_46_code 0 = .ok (.aload_n 0, 1) := by decide +kernel
set_option maxRecDepth 100000 in
theorem d_Mod_next_1 : decode prog_13_method_46_code 1 = .ok (.dup, 1) := by decide +kernel
set_option maxRecDepth 100000 in
theorem d_Mod_next_2 : decode prog_13_method_46_code 2 = .ok (.getfield 502, 3) := by decide +kernel
set_option maxRecDepth 100000 in
theorem d_Mod_next_5 : decode prog_13_method_46_code 5 = .ok (.iconst 1, 1) := by decide +kernel
set_option maxRecDepth 100000 in
theorem d_Mod_next_6 : decode prog_13_method_46_code 6 = .ok (.iadd, 1) := by decide +kernel
set_option maxRecDepth 100000 in
theorem d_Mod_next_7 : decode prog_13_method_46_code 7 = .ok (.putfield 502, 3) := by decide +kernel
set_option maxRecDepth 100000 in
theorem d_Mod_next_10 : decode prog_13_method_46_code 10 = .ok (.aload_n 0, 1) := by decide +kernel
set_option maxRecDepth 100000 in
theorem d_Mod_next_11 : decode prog_13_method_46_code 11 = .ok (.getfield 380, 3) := by decide +kernel
set_option maxRecDepth 100000 in
theorem d_Mod_next_14 : decode prog_13_method_46_code 14 = .ok (.aload_n 0, 1) := by decide +kernel
set_option maxRecDepth 100000 in
theorem d_Mod_next_15 : decode prog_13_method_46_code 15 = .ok (.getfield 492, 3) := by decide +kernel
set_option maxRecDepth 100000 in
theorem d_Mod_next_18 : decode prog_13_method_46_code 18 = .ok (.iconst 1, 1) := by decide +kernel
set_option maxRecDepth 100000 in
theorem d_Mod_next_19 : decode prog_13_method_46_code 19 = .ok (.isub, 1) := by decide +kernel
set_option maxRecDepth 100000 in
theorem d_Mod_next_20 : decode prog_13_method_46_code 20 = .ok (.aaload, 1) := by decide +kernel
set_option maxRecDepth 100000 in
theorem d_Mod_next_21 : decode prog_13_method_46_code 21 = .ok (.getfield 95, 3) := by decide +kernel
set_option maxRecDepth 100000 in
theorem d_Mod_next_24 : decode prog_13_method_46_code 24 = .ok (.aload_n 0, 1) := by decide +kernel
set_option maxRecDepth 100000 in
theorem d_Mod_next_25 : decode prog_13_method_46_code 25 = .ok (.getfield 502, 3) := by decide +kernel
set_option maxRecDepth 100000 in
theorem d_Mod_next_28 : decode prog_13_method_46_code 28 = .ok (.iconst 1, 1) := by decide +kernel
set_option maxRecDepth 100000 in
theorem d_Mod_next_29 : decode prog_13_method_46_code 29 = .ok (.isub, 1) := by decide +kernel
set_option maxRecDepth 100000 in
theorem d_Mod_next_30 : decode prog_13_method_46_code 30 = .ok (.iaload, 1) := by decide +kernel
set_option maxRecDepth 100000 in
theorem d_Mod_next_31 : decode prog_13_method_46_code 31 = .ok (.ireturn, 1) := by decide +kernel
set_option maxRecDepth 100000 in
theorem w_2034 : (Cond.methodLink "StowTongueModel" 516 ⟨"StowTongueModel", "next", "()I"⟩ : Cond) ∈ am_tbl := am_w 2034 (by decide +kernel) (by decide +kernel)
set_option maxRecDepth 100000 in
theorem w_2037 : (Cond.code ⟨"StowTongueModel", "next", "()I"⟩ prog_13_method_46_code 1 (some FieldType.int) : Cond) ∈ am_tbl := am_w 2037 rfl rfl
set_option maxRecDepth 100000 in
theorem l_Mod_516 : am_L "StowTongueModel" 516 0 m_Mod_next := ⟨Or.inl w_2034, w_160, w_2037, ⟨by decide, by decide⟩, by decide +kernel, by decide⟩
set_option maxRecDepth 100000 in
theorem w_2036 : (Cond.instanceMethod ⟨"StowTongueModel", "next", "()I"⟩ : Cond) ∈ am_tbl := am_w 2036 (by decide +kernel) (by decide +kernel)
set_option maxRecDepth 100000 in
theorem w_120 : (Cond.selects "StowTongueModel" ⟨"StowTongueModel", "next", "()I"⟩ ⟨"StowTongueModel", "next", "()I"⟩ : Cond) ∈ am_tbl := am_w 120 (by decide +kernel) (by decide +kernel)
set_option maxRecDepth 100000 in
theorem d_Mod_one_1 : decode prog_13_method_52_code 1 = .ok (.invokevirtual 516, 3) := by decide +kernel
set_option maxRecDepth 100000 in
theorem d_Mod_one_4 : decode prog_13_method_52_code 4 = .ok (.istore_n 1, 1) := by decide +kernel
set_option maxRecDepth 100000 in
theorem d_Mod_one_5 : decode prog_13_method_52_code 5 = .ok (.aload_n 0, 1) := by decide +kernel
set_option maxRecDepth 100000 in
theorem d_Mod_one_6 : decode prog_13_method_52_code 6 = .ok (.getfield 492, 3) := by decide +kernel
set_option maxRecDepth 100000 in
theorem d_Mod_one_9 : decode prog_13_method_52_code 9 = .ok (.iconst 1, 1) := by decide +kernel
set_option maxRecDepth 100000 in
theorem d_Mod_one_10 : decode prog_13_method_52_code 10 = .ok (.isub, 1) := by decide +kernel
set_option maxRecDepth 100000 in
theorem d_Mod_one_11 : decode prog_13_method_52_code 11 = .ok (.istore_n 2, 1) := by decide +kernel
set_option maxRecDepth 100000 in
theorem d_Mod_one_12 : decode prog_13_method_52_code 12 = .ok (.iload_n 1, 1) := by decide +kernel
set_option maxRecDepth 100000 in
theorem d_Mod_one_13 : decode prog_13_method_52_code 13 = .ok (.tableswitch 511 0 28 #[131, 179, 217, 255, 324, 511, 511, 511, 511, 511, 511, 511, 511, 511, 337, 357, 390, 511, 511, 511, 511, 511, 478, 445, 473, 458, 495, 461, 500], 131) := by decide +kernel
set_option maxRecDepth 100000 in
theorem d_Mod_one_513 : decode prog_13_method_52_code 513 = .ok (.aload_n 0, 1) := by decide +kernel
set_option maxRecDepth 100000 in
theorem d_Mod_one_514 : decode prog_13_method_52_code 514 = .ok (.iconst 0, 1) := by decide +kernel
set_option maxRecDepth 100000 in
theorem d_Mod_one_515 : decode prog_13_method_52_code 515 = .ok (.lconst 0, 1) := by decide +kernel
set_option maxRecDepth 100000 in
abbrev m_Mod_push : am_M := (⟨"StowTongueModel", "push", "(IJ)V"⟩, prog_13_method_49_code, 4, none)
set_option maxRecDepth 100000 in
theorem d_Mod_push_0 : decode prog_13_method_49_code 0 = .ok (.aload_n 0, 1) := by decide +kernel
set_option maxRecDepth 100000 in
theorem d_Mod_push_1 : decode prog_13_method_49_code 1 = .ok (.getfield 368, 3) := by decide +kernel
set_option maxRecDepth 100000 in
theorem d_Mod_push_4 : decode prog_13_method_49_code 4 = .ok (.aload_n 0, 1) := by decide +kernel
set_option maxRecDepth 100000 in
theorem d_Mod_push_5 : decode prog_13_method_49_code 5 = .ok (.getfield 486, 3) := by decide +kernel
set_option maxRecDepth 100000 in
theorem d_Mod_push_8 : decode prog_13_method_49_code 8 = .ok (.iload_n 1, 1) := by decide +kernel
set_option maxRecDepth 100000 in
theorem d_Mod_push_9 : decode prog_13_method_49_code 9 = .ok (.iconst 0, 1) := by decide +kernel
set_option maxRecDepth 100000 in
theorem d_Mod_push_10 : decode prog_13_method_49_code 10 = .ok (.lload_n 2, 1) := by decide +kernel
set_option maxRecDepth 100000 in
theorem d_Mod_push_11 : decode prog_13_method_49_code 11 = .ok (.lconst 0, 1) := by decide +kernel
set_option maxRecDepth 100000 in
theorem d_Mod_push_12 : decode prog_13_method_49_code 12 = .ok (.invokevirtual 114, 3) := by decide +kernel
set_option maxRecDepth 100000 in
theorem d_Mod_push_15 : decode prog_13_method_49_code 15 = .ok (.aload_n 0, 1) := by decide +kernel
set_option maxRecDepth 100000 in
theorem d_Mod_push_16 : decode prog_13_method_49_code 16 = .ok (.dup, 1) := by decide +kernel
set_option maxRecDepth 100000 in
theorem d_Mod_push_17 : decode prog_13_method_49_code 17 = .ok (.getfield 486, 3) := by decide +kernel
set_option maxRecDepth 100000 in
theorem d_Mod_push_20 : decode prog_13_method_49_code 20 = .ok (.iconst 1, 1) := by decide +kernel
set_option maxRecDepth 100000 in
theorem d_Mod_push_21 : decode prog_13_method_49_code 21 = .ok (.iadd, 1) := by decide +kernel
set_option maxRecDepth 100000 in
theorem d_Mod_push_22 : decode prog_13_method_49_code 22 = .ok (.putfield 486, 3) := by decide +kernel
set_option maxRecDepth 100000 in
theorem d_Mod_push_25 : decode prog_13_method_49_code 25 = .ok (.return_, 1) := by decide +kernel
set_option maxRecDepth 100000 in
theorem w_2084 : (Cond.methodLink "StowTongueModel" 542 ⟨"StowTongueModel", "push", "(IJ)V"⟩ : Cond) ∈ am_tbl := am_w 2084 (by decide +kernel) (by decide +kernel)
set_option maxRecDepth 100000 in
theorem w_2087 : (Cond.code ⟨"StowTongueModel", "push", "(IJ)V"⟩ prog_13_method_49_code 4 none : Cond) ∈ am_tbl := am_w 2087 rfl rfl
set_option maxRecDepth 100000 in
theorem l_Mod_542 : am_L "StowTongueModel" 542 2 m_Mod_push := ⟨Or.inl w_2084, w_160, w_2087, ⟨by decide, by decide⟩, by decide +kernel, by decide⟩
set_option maxRecDepth 100000 in
theorem w_2086 : (Cond.instanceMethod ⟨"StowTongueModel", "push", "(IJ)V"⟩ : Cond) ∈ am_tbl := am_w 2086 (by decide +kernel) (by decide +kernel)
set_option maxRecDepth 100000 in
theorem w_130 : (Cond.selects "StowTongueModel" ⟨"StowTongueModel", "push", "(IJ)V"⟩ ⟨"StowTongueModel", "push", "(IJ)V"⟩ : Cond) ∈ am_tbl := am_w 130 (by decide +kernel) (by decide +kernel)
set_option maxRecDepth 100000 in
theorem d_Mod_one_516 : decode prog_13_method_52_code 516 = .ok (.invokevirtual 542, 3) := by decide +kernel
set_option maxRecDepth 100000 in
theorem d_Mod_one_519 : decode prog_13_method_52_code 519 = .ok (.aload_n 0, 1) := by decide +kernel
set_option maxRecDepth 100000 in
abbrev m_Mod_leave : am_M := (⟨"StowTongueModel", "leave", "()I"⟩, prog_13_method_53_code, 1, (some FieldType.int))
set_option maxRecDepth 100000 in
theorem d_Mod_leave_0 : decode prog_13_method_53_code 0 = .ok (.aload_n 0, 1) := by decide +kernel
set_option maxRecDepth 100000 in
theorem d_Mod_leave_1 : decode prog_13_method_53_code 1 = .ok (.dup, 1) := by decide +kernel
set_option maxRecDepth 100000 in
theorem d_Mod_leave_2 : decode prog_13_method_53_code 2 = .ok (.getfield 486, 3) := by decide +kernel
set_option maxRecDepth 100000 in
theorem d_Mod_leave_5 : decode prog_13_method_53_code 5 = .ok (.iconst 1, 1) := by decide +kernel
set_option maxRecDepth 100000 in
theorem d_Mod_leave_6 : decode prog_13_method_53_code 6 = .ok (.isub, 1) := by decide +kernel
set_option maxRecDepth 100000 in
theorem d_Mod_leave_7 : decode prog_13_method_53_code 7 = .ok (.putfield 486, 3) := by decide +kernel
set_option maxRecDepth 100000 in
theorem d_Mod_leave_10 : decode prog_13_method_53_code 10 = .ok (.aload_n 0, 1) := by decide +kernel
set_option maxRecDepth 100000 in
theorem d_Mod_leave_11 : decode prog_13_method_53_code 11 = .ok (.getfield 377, 3) := by decide +kernel
set_option maxRecDepth 100000 in
theorem d_Mod_leave_14 : decode prog_13_method_53_code 14 = .ok (.iconst 0, 1) := by decide +kernel
set_option maxRecDepth 100000 in
theorem d_Mod_leave_15 : decode prog_13_method_53_code 15 = .ok (.aload_n 0, 1) := by decide +kernel
set_option maxRecDepth 100000 in
theorem d_Mod_leave_16 : decode prog_13_method_53_code 16 = .ok (.getfield 368, 3) := by decide +kernel
set_option maxRecDepth 100000 in
theorem d_Mod_leave_19 : decode prog_13_method_53_code 19 = .ok (.aload_n 0, 1) := by decide +kernel
set_option maxRecDepth 100000 in
theorem d_Mod_leave_20 : decode prog_13_method_53_code 20 = .ok (.getfield 486, 3) := by decide +kernel
set_option maxRecDepth 100000 in
abbrev m_Vals_copy : am_M := (⟨"StowTongueModel$Values", "copy", "(ILStowTongueModel$Values;I)V"⟩, prog_16_method_3_code, 4, none)
set_option maxRecDepth 100000 in
theorem d_Vals_copy_0 : decode prog_16_method_3_code 0 = .ok (.aload_n 0, 1) := by decide +kernel
set_option maxRecDepth 100000 in
theorem d_Vals_copy_1 : decode prog_16_method_3_code 1 = .ok (.iload_n 1, 1) := by decide +kernel
set_option maxRecDepth 100000 in
theorem d_Vals_copy_2 : decode prog_16_method_3_code 2 = .ok (.aload_n 2, 1) := by decide +kernel
set_option maxRecDepth 100000 in
theorem d_Vals_copy_3 : decode prog_16_method_3_code 3 = .ok (.getfield 7, 3) := by decide +kernel
set_option maxRecDepth 100000 in
theorem d_Vals_copy_6 : decode prog_16_method_3_code 6 = .ok (.iload_n 3, 1) := by decide +kernel
set_option maxRecDepth 100000 in
theorem d_Vals_copy_7 : decode prog_16_method_3_code 7 = .ok (.iaload, 1) := by decide +kernel
set_option maxRecDepth 100000 in
theorem d_Vals_copy_8 : decode prog_16_method_3_code 8 = .ok (.aload_n 2, 1) := by decide +kernel
set_option maxRecDepth 100000 in
theorem d_Vals_copy_9 : decode prog_16_method_3_code 9 = .ok (.getfield 13, 3) := by decide +kernel
set_option maxRecDepth 100000 in
theorem d_Vals_copy_12 : decode prog_16_method_3_code 12 = .ok (.iload_n 3, 1) := by decide +kernel
set_option maxRecDepth 100000 in
theorem d_Vals_copy_13 : decode prog_16_method_3_code 13 = .ok (.iaload, 1) := by decide +kernel
set_option maxRecDepth 100000 in
theorem d_Vals_copy_14 : decode prog_16_method_3_code 14 = .ok (.aload_n 2, 1) := by decide +kernel
set_option maxRecDepth 100000 in
theorem d_Vals_copy_15 : decode prog_16_method_3_code 15 = .ok (.getfield 16, 3) := by decide +kernel
set_option maxRecDepth 100000 in
theorem d_Vals_copy_18 : decode prog_16_method_3_code 18 = .ok (.iload_n 3, 1) := by decide +kernel
set_option maxRecDepth 100000 in
theorem d_Vals_copy_19 : decode prog_16_method_3_code 19 = .ok (.laload, 1) := by decide +kernel
set_option maxRecDepth 100000 in
theorem d_Vals_copy_20 : decode prog_16_method_3_code 20 = .ok (.aload_n 2, 1) := by decide +kernel
set_option maxRecDepth 100000 in
theorem d_Vals_copy_21 : decode prog_16_method_3_code 21 = .ok (.getfield 20, 3) := by decide +kernel
set_option maxRecDepth 100000 in
theorem d_Vals_copy_24 : decode prog_16_method_3_code 24 = .ok (.iload_n 3, 1) := by decide +kernel
set_option maxRecDepth 100000 in
theorem d_Vals_copy_25 : decode prog_16_method_3_code 25 = .ok (.laload, 1) := by decide +kernel
set_option maxRecDepth 100000 in
theorem w_1995 : (Cond.methodLink "StowTongueModel$Values" 23 ⟨"StowTongueModel$Values", "set", "(IIIJJ)V"⟩ : Cond) ∈ am_tbl := am_w 1995 (by decide +kernel) (by decide +kernel)
set_option maxRecDepth 100000 in
theorem l_Vals_23 : am_L "StowTongueModel$Values" 23 5 m_Vals_set := ⟨Or.inl w_1995, w_162, w_1916, ⟨by decide, by decide⟩, by decide +kernel, by decide⟩
set_option maxRecDepth 100000 in
theorem d_Vals_copy_26 : decode prog_16_method_3_code 26 = .ok (.invokevirtual 23, 3) := by decide +kernel
set_option maxRecDepth 100000 in
theorem d_Vals_copy_29 : decode prog_16_method_3_code 29 = .ok (.return_, 1) := by decide +kernel
set_option maxRecDepth 100000 in
theorem w_2029 : (Cond.methodLink "StowTongueModel" 505 ⟨"StowTongueModel$Values", "copy", "(ILStowTongueModel$Values;I)V"⟩ : Cond) ∈ am_tbl := am_w 2029 (by decide +kernel) (by decide +kernel)
set_option maxRecDepth 100000 in
theorem w_1994 : (Cond.code ⟨"StowTongueModel$Values", "copy", "(ILStowTongueModel$Values;I)V"⟩ prog_16_method_3_code 4 none : Cond) ∈ am_tbl := am_w 1994 rfl rfl
set_option maxRecDepth 100000 in
theorem l_Mod_505 : am_L "StowTongueModel" 505 3 m_Vals_copy := ⟨Or.inl w_2029, w_162, w_1994, ⟨by decide, by decide⟩, by decide +kernel, by decide⟩
set_option maxRecDepth 100000 in
theorem w_1992 : (Cond.instanceMethod ⟨"StowTongueModel$Values", "copy", "(ILStowTongueModel$Values;I)V"⟩ : Cond) ∈ am_tbl := am_w 1992 (by decide +kernel) (by decide +kernel)
set_option maxRecDepth 100000 in
theorem w_1993 : (Cond.selects "StowTongueModel$Values" ⟨"StowTongueModel$Values", "copy", "(ILStowTongueModel$Values;I)V"⟩ ⟨"StowTongueModel$Values", "copy", "(ILStowTongueModel$Values;I)V"⟩ : Cond) ∈ am_tbl := am_w 1993 (by decide +kernel) (by decide +kernel)
set_option maxRecDepth 100000 in
theorem d_Mod_leave_23 : decode prog_13_method_53_code 23 = .ok (.invokevirtual 505, 3) := by decide +kernel
set_option maxRecDepth 100000 in
theorem d_Mod_leave_26 : decode prog_13_method_53_code 26 = .ok (.aload_n 0, 1) := by decide +kernel
set_option maxRecDepth 100000 in
theorem d_Mod_leave_27 : decode prog_13_method_53_code 27 = .ok (.dup, 1) := by decide +kernel
set_option maxRecDepth 100000 in
theorem d_Mod_leave_28 : decode prog_13_method_53_code 28 = .ok (.getfield 492, 3) := by decide +kernel
set_option maxRecDepth 100000 in
theorem d_Mod_leave_31 : decode prog_13_method_53_code 31 = .ok (.iconst 1, 1) := by decide +kernel
set_option maxRecDepth 100000 in
theorem d_Mod_leave_32 : decode prog_13_method_53_code 32 = .ok (.isub, 1) := by decide +kernel
set_option maxRecDepth 100000 in
theorem d_Mod_leave_33 : decode prog_13_method_53_code 33 = .ok (.putfield 492, 3) := by decide +kernel
set_option maxRecDepth 100000 in
theorem d_Mod_leave_36 : decode prog_13_method_53_code 36 = .ok (.aload_n 0, 1) := by decide +kernel
set_option maxRecDepth 100000 in
theorem d_Mod_leave_37 : decode prog_13_method_53_code 37 = .ok (.getfield 492, 3) := by decide +kernel
set_option maxRecDepth 100000 in
theorem d_Mod_leave_40 : decode prog_13_method_53_code 40 = .ok (.ifCond .ne 18, 3) := by decide +kernel
set_option maxRecDepth 100000 in
theorem d_Mod_leave_43 : decode prog_13_method_53_code 43 = .ok (.aload_n 0, 1) := by decide +kernel
set_option maxRecDepth 100000 in
theorem d_Mod_leave_44 : decode prog_13_method_53_code 44 = .ok (.getfield 374, 3) := by decide +kernel
set_option maxRecDepth 100000 in
theorem d_Mod_leave_47 : decode prog_13_method_53_code 47 = .ok (.iconst 0, 1) := by decide +kernel
set_option maxRecDepth 100000 in
theorem d_Mod_leave_48 : decode prog_13_method_53_code 48 = .ok (.aload_n 0, 1) := by decide +kernel
set_option maxRecDepth 100000 in
theorem d_Mod_leave_49 : decode prog_13_method_53_code 49 = .ok (.getfield 377, 3) := by decide +kernel
set_option maxRecDepth 100000 in
theorem d_Mod_leave_52 : decode prog_13_method_53_code 52 = .ok (.iconst 0, 1) := by decide +kernel
set_option maxRecDepth 100000 in
theorem d_Mod_leave_53 : decode prog_13_method_53_code 53 = .ok (.invokevirtual 505, 3) := by decide +kernel
set_option maxRecDepth 100000 in
theorem d_Mod_leave_56 : decode prog_13_method_53_code 56 = .ok (.iconst 0, 1) := by decide +kernel
set_option maxRecDepth 100000 in
theorem d_Mod_leave_57 : decode prog_13_method_53_code 57 = .ok (.ireturn, 1) := by decide +kernel
set_option maxRecDepth 100000 in
theorem w_2080 : (Cond.methodLink "StowTongueModel" 539 ⟨"StowTongueModel", "leave", "()I"⟩ : Cond) ∈ am_tbl := am_w 2080 (by decide +kernel) (by decide +kernel)
set_option maxRecDepth 100000 in
theorem w_2083 : (Cond.code ⟨"StowTongueModel", "leave", "()I"⟩ prog_13_method_53_code 1 (some FieldType.int) : Cond) ∈ am_tbl := am_w 2083 rfl rfl
set_option maxRecDepth 100000 in
theorem l_Mod_539 : am_L "StowTongueModel" 539 0 m_Mod_leave := ⟨Or.inl w_2080, w_160, w_2083, ⟨by decide, by decide⟩, by decide +kernel, by decide⟩
set_option maxRecDepth 100000 in
theorem w_2082 : (Cond.instanceMethod ⟨"StowTongueModel", "leave", "()I"⟩ : Cond) ∈ am_tbl := am_w 2082 (by decide +kernel) (by decide +kernel)
set_option maxRecDepth 100000 in
theorem w_129 : (Cond.selects "StowTongueModel" ⟨"StowTongueModel", "leave", "()I"⟩ ⟨"StowTongueModel", "leave", "()I"⟩ : Cond) ∈ am_tbl := am_w 129 (by decide +kernel) (by decide +kernel)
set_option maxRecDepth 100000 in
theorem d_Mod_one_520 : decode prog_13_method_52_code 520 = .ok (.invokevirtual 539, 3) := by decide +kernel
set_option maxRecDepth 100000 in
theorem d_Mod_one_523 : decode prog_13_method_52_code 523 = .ok (.ireturn, 1) := by decide +kernel
set_option maxRecDepth 100000 in
theorem w_2030 : (Cond.methodLink "StowTongueModel" 499 ⟨"StowTongueModel", "one", "()I"⟩ : Cond) ∈ am_tbl := am_w 2030 (by decide +kernel) (by decide +kernel)
set_option maxRecDepth 100000 in
theorem w_2033 : (Cond.code ⟨"StowTongueModel", "one", "()I"⟩ prog_13_method_52_code 5 (some FieldType.int) : Cond) ∈ am_tbl := am_w 2033 rfl rfl
set_option maxRecDepth 100000 in
theorem l_Mod_499 : am_L "StowTongueModel" 499 0 m_Mod_one := ⟨Or.inl w_2030, w_160, w_2033, ⟨by decide, by decide⟩, by decide +kernel, by decide⟩
set_option maxRecDepth 100000 in
theorem w_2032 : (Cond.instanceMethod ⟨"StowTongueModel", "one", "()I"⟩ : Cond) ∈ am_tbl := am_w 2032 (by decide +kernel) (by decide +kernel)
set_option maxRecDepth 100000 in
theorem w_119 : (Cond.selects "StowTongueModel" ⟨"StowTongueModel", "one", "()I"⟩ ⟨"StowTongueModel", "one", "()I"⟩ : Cond) ∈ am_tbl := am_w 119 (by decide +kernel) (by decide +kernel)
set_option maxRecDepth 100000 in
theorem d_Mod_go__31 : decode prog_13_method_44_code 31 = .ok (.invokevirtual 499, 3) := by decide +kernel
set_option maxRecDepth 100000 in
theorem d_Mod_go__34 : decode prog_13_method_44_code 34 = .ok (.istore_n 1, 1) := by decide +kernel
set_option maxRecDepth 100000 in
theorem d_Mod_go__35 : decode prog_13_method_44_code 35 = .ok (.goto (-9), 3) := by decide +kernel
set_option maxRecDepth 100000 in
theorem d_Mod_go__38 : decode prog_13_method_44_code 38 = .ok (.iload_n 1, 1) := by decide +kernel
set_option maxRecDepth 100000 in
theorem d_Mod_go__39 : decode prog_13_method_44_code 39 = .ok (.ireturn, 1) := by decide +kernel
set_option maxRecDepth 100000 in
theorem w_2021 : (Cond.methodLink "StowTongueModel" 454 ⟨"StowTongueModel", "go", "()I"⟩ : Cond) ∈ am_tbl := am_w 2021 (by decide +kernel) (by decide +kernel)
set_option maxRecDepth 100000 in
theorem w_2024 : (Cond.code ⟨"StowTongueModel", "go", "()I"⟩ prog_13_method_44_code 2 (some FieldType.int) : Cond) ∈ am_tbl := am_w 2024 rfl rfl
set_option maxRecDepth 100000 in
theorem l_Mod_454 : am_L "StowTongueModel" 454 0 m_Mod_go_ := ⟨Or.inl w_2021, w_160, w_2024, ⟨by decide, by decide⟩, by decide +kernel, by decide⟩
set_option maxRecDepth 100000 in
theorem w_2023 : (Cond.instanceMethod ⟨"StowTongueModel", "go", "()I"⟩ : Cond) ∈ am_tbl := am_w 2023 (by decide +kernel) (by decide +kernel)
set_option maxRecDepth 100000 in
theorem w_117 : (Cond.selects "StowTongueModel" ⟨"StowTongueModel", "go", "()I"⟩ ⟨"StowTongueModel", "go", "()I"⟩ : Cond) ∈ am_tbl := am_w 117 (by decide +kernel) (by decide +kernel)
set_option maxRecDepth 100000 in
theorem d_Mod_run_77 : decode prog_13_method_42_code 77 = .ok (.invokevirtual 454, 3) := by decide +kernel
set_option maxRecDepth 100000 in
theorem d_Mod_run_80 : decode prog_13_method_42_code 80 = .ok (.istore_n 2, 1) := by decide +kernel
set_option maxRecDepth 100000 in
theorem d_Mod_run_81 : decode prog_13_method_42_code 81 = .ok (.iload_n 2, 1) := by decide +kernel
set_option maxRecDepth 100000 in
theorem d_Mod_run_82 : decode prog_13_method_42_code 82 = .ok (.ifCond .eq 17, 3) := by decide +kernel
set_option maxRecDepth 100000 in
theorem d_Mod_run_99 : decode prog_13_method_42_code 99 = .ok (.bipush 8, 2) := by decide +kernel
set_option maxRecDepth 100000 in
theorem d_Mod_run_101 : decode prog_13_method_42_code 101 = .ok (.istore_n 3, 1) := by decide +kernel
set_option maxRecDepth 100000 in
theorem d_Mod_run_102 : decode prog_13_method_42_code 102 = .ok (.iconst 0, 1) := by decide +kernel
set_option maxRecDepth 100000 in
theorem d_Mod_run_103 : decode prog_13_method_42_code 103 = .ok (.istore 4, 2) := by decide +kernel
set_option maxRecDepth 100000 in
theorem d_Mod_run_163 : decode prog_13_method_42_code 163 = .ok (.iconst 0, 1) := by decide +kernel
set_option maxRecDepth 100000 in
theorem d_Mod_run_164 : decode prog_13_method_42_code 164 = .ok (.istore 4, 2) := by decide +kernel
