set_option maxRecDepth 100000 in
theorem d_Mod_run_166 : decode prog_13_method_42_code 166 = .ok (.iload 4, 2) := by decide +kernel
set_option maxRecDepth 100000 in
theorem d_Mod_run_168 : decode prog_13_method_42_code 168 = .ok (.aload_n 0, 1) := by decide +kernel
set_option maxRecDepth 100000 in
theorem d_Mod_run_169 : decode prog_13_method_42_code 169 = .ok (.getfield 353, 3) := by decide +kernel
set_option maxRecDepth 100000 in
theorem d_Mod_run_172 : decode prog_13_method_42_code 172 = .ok (.getfield 463, 3) := by decide +kernel
set_option maxRecDepth 100000 in
theorem d_Mod_run_175 : decode prog_13_method_42_code 175 = .ok (.if_icmp .ge 60, 3) := by decide +kernel
set_option maxRecDepth 100000 in
theorem d_Mod_run_235 : decode prog_13_method_42_code 235 = .ok (.iconst 0, 1) := by decide +kernel
set_option maxRecDepth 100000 in
theorem d_Mod_run_236 : decode prog_13_method_42_code 236 = .ok (.istore 4, 2) := by decide +kernel
set_option maxRecDepth 100000 in
theorem d_Mod_run_238 : decode prog_13_method_42_code 238 = .ok (.iload 4, 2) := by decide +kernel
set_option maxRecDepth 100000 in
theorem d_Mod_run_240 : decode prog_13_method_42_code 240 = .ok (.aload_n 0, 1) := by decide +kernel
set_option maxRecDepth 100000 in
theorem d_Mod_run_241 : decode prog_13_method_42_code 241 = .ok (.getfield 349, 3) := by decide +kernel
set_option maxRecDepth 100000 in
theorem d_Mod_run_244 : decode prog_13_method_42_code 244 = .ok (.getfield 463, 3) := by decide +kernel
set_option maxRecDepth 100000 in
theorem d_Mod_run_247 : decode prog_13_method_42_code 247 = .ok (.if_icmp .ge 32, 3) := by decide +kernel
set_option maxRecDepth 100000 in
theorem d_Mod_run_279 : decode prog_13_method_42_code 279 = .ok (.iconst 0, 1) := by decide +kernel
set_option maxRecDepth 100000 in
theorem d_Mod_run_280 : decode prog_13_method_42_code 280 = .ok (.istore 4, 2) := by decide +kernel
set_option maxRecDepth 100000 in
theorem d_Mod_run_282 : decode prog_13_method_42_code 282 = .ok (.iload 4, 2) := by decide +kernel
set_option maxRecDepth 100000 in
theorem d_Mod_run_284 : decode prog_13_method_42_code 284 = .ok (.aload_n 0, 1) := by decide +kernel
set_option maxRecDepth 100000 in
theorem d_Mod_run_285 : decode prog_13_method_42_code 285 = .ok (.getfield 137, 3) := by decide +kernel
set_option maxRecDepth 100000 in
theorem d_Mod_run_288 : decode prog_13_method_42_code 288 = .ok (.if_icmp .ge 21, 3) := by decide +kernel
set_option maxRecDepth 100000 in
theorem d_Mod_run_309 : decode prog_13_method_42_code 309 = .ok (.aload_n 0, 1) := by decide +kernel
set_option maxRecDepth 100000 in
theorem d_Mod_run_310 : decode prog_13_method_42_code 310 = .ok (.getfield 349, 3) := by decide +kernel
set_option maxRecDepth 100000 in
theorem d_Mod_run_313 : decode prog_13_method_42_code 313 = .ok (.astore 4, 2) := by decide +kernel
set_option maxRecDepth 100000 in
theorem d_Mod_run_315 : decode prog_13_method_42_code 315 = .ok (.aload_n 0, 1) := by decide +kernel
set_option maxRecDepth 100000 in
theorem d_Mod_run_316 : decode prog_13_method_42_code 316 = .ok (.aload_n 0, 1) := by decide +kernel
set_option maxRecDepth 100000 in
theorem d_Mod_run_317 : decode prog_13_method_42_code 317 = .ok (.getfield 353, 3) := by decide +kernel
set_option maxRecDepth 100000 in
theorem d_Mod_run_320 : decode prog_13_method_42_code 320 = .ok (.putfield 349, 3) := by decide +kernel
set_option maxRecDepth 100000 in
theorem d_Mod_run_323 : decode prog_13_method_42_code 323 = .ok (.aload_n 0, 1) := by decide +kernel
set_option maxRecDepth 100000 in
theorem d_Mod_run_324 : decode prog_13_method_42_code 324 = .ok (.aload 4, 2) := by decide +kernel
set_option maxRecDepth 100000 in
theorem d_Mod_run_326 : decode prog_13_method_42_code 326 = .ok (.putfield 353, 3) := by decide +kernel
set_option maxRecDepth 100000 in
theorem d_Mod_run_329 : decode prog_13_method_42_code 329 = .ok (.aload_n 0, 1) := by decide +kernel
set_option maxRecDepth 100000 in
theorem d_Mod_run_330 : decode prog_13_method_42_code 330 = .ok (.iload_n 3, 1) := by decide +kernel
set_option maxRecDepth 100000 in
abbrev m_Mod_wait : am_M := (⟨"StowTongueModel", "wait", "(I)V"⟩, prog_13_method_43_code, 4, none)
set_option maxRecDepth 100000 in
theorem d_Mod_wait_0 : decode prog_13_method_43_code 0 = .ok (.aload_n 0, 1) := by decide +kernel
set_option maxRecDepth 100000 in
theorem d_Mod_wait_1 : decode prog_13_method_43_code 1 = .ok (.dup, 1) := by decide +kernel
set_option maxRecDepth 100000 in
theorem d_Mod_wait_2 : decode prog_13_method_43_code 2 = .ok (.getfield 480, 3) := by decide +kernel
set_option maxRecDepth 100000 in
theorem d_Mod_wait_5 : decode prog_13_method_43_code 5 = .ok (.iload_n 1, 1) := by decide +kernel
set_option maxRecDepth 100000 in
theorem d_Mod_wait_6 : decode prog_13_method_43_code 6 = .ok (.iadd, 1) := by decide +kernel
set_option maxRecDepth 100000 in
theorem d_Mod_wait_7 : decode prog_13_method_43_code 7 = .ok (.putfield 480, 3) := by decide +kernel
set_option maxRecDepth 100000 in
theorem d_Mod_wait_10 : decode prog_13_method_43_code 10 = .ok (.aload_n 0, 1) := by decide +kernel
set_option maxRecDepth 100000 in
theorem d_Mod_wait_11 : decode prog_13_method_43_code 11 = .ok (.getfield 409, 3) := by decide +kernel
set_option maxRecDepth 100000 in
theorem d_Mod_wait_14 : decode prog_13_method_43_code 14 = .ok (.bipush 8, 2) := by decide +kernel
set_option maxRecDepth 100000 in
theorem d_Mod_wait_16 : decode prog_13_method_43_code 16 = .ok (.if_icmp .ne 69, 3) := by decide +kernel
set_option maxRecDepth 100000 in
theorem d_Mod_wait_85 : decode prog_13_method_43_code 85 = .ok (.aload_n 0, 1) := by decide +kernel
set_option maxRecDepth 100000 in
theorem d_Mod_wait_86 : decode prog_13_method_43_code 86 = .ok (.getfield 359, 3) := by decide +kernel
set_option maxRecDepth 100000 in
theorem d_Mod_wait_89 : decode prog_13_method_43_code 89 = .ok (.aload_n 0, 1) := by decide +kernel
set_option maxRecDepth 100000 in
theorem d_Mod_wait_90 : decode prog_13_method_43_code 90 = .ok (.getfield 409, 3) := by decide +kernel
set_option maxRecDepth 100000 in
theorem d_Mod_wait_93 : decode prog_13_method_43_code 93 = .ok (.aaload, 1) := by decide +kernel
set_option maxRecDepth 100000 in
theorem d_Mod_wait_94 : decode prog_13_method_43_code 94 = .ok (.aload_n 0, 1) := by decide +kernel
set_option maxRecDepth 100000 in
theorem d_Mod_wait_95 : decode prog_13_method_43_code 95 = .ok (.getfield 349, 3) := by decide +kernel
set_option maxRecDepth 100000 in
theorem d_Mod_wait_98 : decode prog_13_method_43_code 98 = .ok (.invokevirtual 448, 3) := by decide +kernel
set_option maxRecDepth 100000 in
theorem d_Mod_wait_101 : decode prog_13_method_43_code 101 = .ok (.aload_n 0, 1) := by decide +kernel
set_option maxRecDepth 100000 in
theorem d_Mod_wait_102 : decode prog_13_method_43_code 102 = .ok (.getfield 359, 3) := by decide +kernel
set_option maxRecDepth 100000 in
theorem d_Mod_wait_105 : decode prog_13_method_43_code 105 = .ok (.aload_n 0, 1) := by decide +kernel
set_option maxRecDepth 100000 in
theorem d_Mod_wait_106 : decode prog_13_method_43_code 106 = .ok (.getfield 409, 3) := by decide +kernel
set_option maxRecDepth 100000 in
theorem d_Mod_wait_109 : decode prog_13_method_43_code 109 = .ok (.aaload, 1) := by decide +kernel
set_option maxRecDepth 100000 in
theorem d_Mod_wait_110 : decode prog_13_method_43_code 110 = .ok (.iload_n 1, 1) := by decide +kernel
set_option maxRecDepth 100000 in
theorem w_1593 : (Cond.fieldLink "StowTongueModel" 483 "StowTongueModel$State" "bytes" "I" : Cond) ∈ am_tbl := am_w 1593 (by decide +kernel) (by decide +kernel)
set_option maxRecDepth 100000 in
theorem f_Mod_483 : am_F "StowTongueModel" 483 13 11 := ⟨_, rfl, cl_13, by decide, Or.inl w_1593⟩
set_option maxRecDepth 100000 in
theorem d_Mod_wait_111 : decode prog_13_method_43_code 111 = .ok (.putfield 483, 3) := by decide +kernel
set_option maxRecDepth 100000 in
theorem d_Mod_wait_114 : decode prog_13_method_43_code 114 = .ok (.aload_n 0, 1) := by decide +kernel
set_option maxRecDepth 100000 in
theorem d_Mod_wait_115 : decode prog_13_method_43_code 115 = .ok (.dup, 1) := by decide +kernel
set_option maxRecDepth 100000 in
theorem d_Mod_wait_116 : decode prog_13_method_43_code 116 = .ok (.getfield 409, 3) := by decide +kernel
set_option maxRecDepth 100000 in
theorem d_Mod_wait_119 : decode prog_13_method_43_code 119 = .ok (.iconst 1, 1) := by decide +kernel
set_option maxRecDepth 100000 in
theorem d_Mod_wait_120 : decode prog_13_method_43_code 120 = .ok (.iadd, 1) := by decide +kernel
set_option maxRecDepth 100000 in
theorem d_Mod_wait_121 : decode prog_13_method_43_code 121 = .ok (.putfield 409, 3) := by decide +kernel
set_option maxRecDepth 100000 in
theorem d_Mod_wait_124 : decode prog_13_method_43_code 124 = .ok (.return_, 1) := by decide +kernel
set_option maxRecDepth 100000 in
theorem w_2138 : (Cond.methodLink "StowTongueModel" 477 ⟨"StowTongueModel", "wait", "(I)V"⟩ : Cond) ∈ am_tbl := am_w 2138 (by decide +kernel) (by decide +kernel)
set_option maxRecDepth 100000 in
theorem w_2141 : (Cond.code ⟨"StowTongueModel", "wait", "(I)V"⟩ prog_13_method_43_code 4 none : Cond) ∈ am_tbl := am_w 2141 rfl rfl
set_option maxRecDepth 100000 in
theorem l_Mod_477 : am_L "StowTongueModel" 477 1 m_Mod_wait := ⟨Or.inl w_2138, w_160, w_2141, ⟨by decide, by decide⟩, by decide +kernel, by decide⟩
set_option maxRecDepth 100000 in
theorem w_2140 : (Cond.instanceMethod ⟨"StowTongueModel", "wait", "(I)V"⟩ : Cond) ∈ am_tbl := am_w 2140 (by decide +kernel) (by decide +kernel)
set_option maxRecDepth 100000 in
theorem w_140 : (Cond.selects "StowTongueModel" ⟨"StowTongueModel", "wait", "(I)V"⟩ ⟨"StowTongueModel", "wait", "(I)V"⟩ : Cond) ∈ am_tbl := am_w 140 (by decide +kernel) (by decide +kernel)
set_option maxRecDepth 100000 in
theorem d_Mod_run_331 : decode prog_13_method_42_code 331 = .ok (.invokevirtual 477, 3) := by decide +kernel
set_option maxRecDepth 100000 in
theorem d_Mod_run_334 : decode prog_13_method_42_code 334 = .ok (.iconst 0, 1) := by decide +kernel
set_option maxRecDepth 100000 in
theorem d_Mod_run_335 : decode prog_13_method_42_code 335 = .ok (.ireturn, 1) := by decide +kernel
set_option maxRecDepth 100000 in
abbrev m_Stow_feed : am_M := (⟨"StowTongue", "feed", "(IIIII)I"⟩, prog_1_method_2_code, 6, (some FieldType.int))
set_option maxRecDepth 100000 in
theorem d_Stow_feed_0 : decode prog_1_method_2_code 0 = .ok (.aload_n 0, 1) := by decide +kernel
set_option maxRecDepth 100000 in
theorem d_Stow_feed_1 : decode prog_1_method_2_code 1 = .ok (.getfield 48, 3) := by decide +kernel
set_option maxRecDepth 100000 in
theorem d_Stow_feed_4 : decode prog_1_method_2_code 4 = .ok (.bipush 20, 2) := by decide +kernel
set_option maxRecDepth 100000 in
theorem d_Stow_feed_6 : decode prog_1_method_2_code 6 = .ok (.iadd, 1) := by decide +kernel
set_option maxRecDepth 100000 in
theorem d_Stow_feed_7 : decode prog_1_method_2_code 7 = .ok (.sipush 1500, 3) := by decide +kernel
set_option maxRecDepth 100000 in
theorem d_Stow_feed_10 : decode prog_1_method_2_code 10 = .ok (.if_icmp .le 6, 3) := by decide +kernel
set_option maxRecDepth 100000 in
theorem d_Stow_feed_16 : decode prog_1_method_2_code 16 = .ok (.aload_n 0, 1) := by decide +kernel
set_option maxRecDepth 100000 in
theorem d_Stow_feed_17 : decode prog_1_method_2_code 17 = .ok (.iload_n 1, 1) := by decide +kernel
set_option maxRecDepth 100000 in
abbrev m_Stow_addFour : am_M := (⟨"StowTongue", "addFour", "(I)V"⟩, prog_1_method_3_code, 3, none)
set_option maxRecDepth 100000 in
theorem d_Stow_addFour_0 : decode prog_1_method_3_code 0 = .ok (.bipush 24, 2) := by decide +kernel
set_option maxRecDepth 100000 in
theorem d_Stow_addFour_2 : decode prog_1_method_3_code 2 = .ok (.istore_n 2, 1) := by decide +kernel
set_option maxRecDepth 100000 in
theorem d_Stow_addFour_3 : decode prog_1_method_3_code 3 = .ok (.iload_n 2, 1) := by decide +kernel
set_option maxRecDepth 100000 in
theorem d_Stow_addFour_4 : decode prog_1_method_3_code 4 = .ok (.ifCond .lt 42, 3) := by decide +kernel
set_option maxRecDepth 100000 in
theorem d_Stow_addFour_7 : decode prog_1_method_3_code 7 = .ok (.aload_n 0, 1) := by decide +kernel
set_option maxRecDepth 100000 in
theorem d_Stow_addFour_8 : decode prog_1_method_3_code 8 = .ok (.getfield 48, 3) := by decide +kernel
set_option maxRecDepth 100000 in
theorem d_Stow_addFour_11 : decode prog_1_method_3_code 11 = .ok (.sipush 1500, 3) := by decide +kernel
set_option maxRecDepth 100000 in
theorem d_Stow_addFour_14 : decode prog_1_method_3_code 14 = .ok (.if_icmp .ge 32, 3) := by decide +kernel
set_option maxRecDepth 100000 in
theorem d_Stow_addFour_17 : decode prog_1_method_3_code 17 = .ok (.aload_n 0, 1) := by decide +kernel
set_option maxRecDepth 100000 in
theorem d_Stow_addFour_18 : decode prog_1_method_3_code 18 = .ok (.getfield 9, 3) := by decide +kernel
set_option maxRecDepth 100000 in
theorem d_Stow_addFour_21 : decode prog_1_method_3_code 21 = .ok (.aload_n 0, 1) := by decide +kernel
set_option maxRecDepth 100000 in
theorem d_Stow_addFour_22 : decode prog_1_method_3_code 22 = .ok (.getfield 48, 3) := by decide +kernel
set_option maxRecDepth 100000 in
theorem d_Stow_addFour_25 : decode prog_1_method_3_code 25 = .ok (.iload_n 1, 1) := by decide +kernel
set_option maxRecDepth 100000 in
theorem d_Stow_addFour_26 : decode prog_1_method_3_code 26 = .ok (.iload_n 2, 1) := by decide +kernel
set_option maxRecDepth 100000 in
theorem d_Stow_addFour_27 : decode prog_1_method_3_code 27 = .ok (.ishr, 1) := by decide +kernel
set_option maxRecDepth 100000 in
theorem d_Stow_addFour_28 : decode prog_1_method_3_code 28 = .ok (.i2b, 1) := by decide +kernel
set_option maxRecDepth 100000 in
theorem d_Stow_addFour_29 : decode prog_1_method_3_code 29 = .ok (.bastore, 1) := by decide +kernel
set_option maxRecDepth 100000 in
theorem d_Stow_addFour_30 : decode prog_1_method_3_code 30 = .ok (.aload_n 0, 1) := by decide +kernel
set_option maxRecDepth 100000 in
theorem d_Stow_addFour_31 : decode prog_1_method_3_code 31 = .ok (.dup, 1) := by decide +kernel
set_option maxRecDepth 100000 in
theorem d_Stow_addFour_32 : decode prog_1_method_3_code 32 = .ok (.getfield 48, 3) := by decide +kernel
set_option maxRecDepth 100000 in
theorem d_Stow_addFour_35 : decode prog_1_method_3_code 35 = .ok (.iconst 1, 1) := by decide +kernel
set_option maxRecDepth 100000 in
theorem d_Stow_addFour_36 : decode prog_1_method_3_code 36 = .ok (.iadd, 1) := by decide +kernel
set_option maxRecDepth 100000 in
theorem d_Stow_addFour_37 : decode prog_1_method_3_code 37 = .ok (.putfield 48, 3) := by decide +kernel
set_option maxRecDepth 100000 in
theorem d_Stow_addFour_40 : decode prog_1_method_3_code 40 = .ok (.iinc 2 (-8), 3) := by decide +kernel
set_option maxRecDepth 100000 in
theorem d_Stow_addFour_43 : decode prog_1_method_3_code 43 = .ok (.goto (-40), 3) := by decide +kernel
set_option maxRecDepth 100000 in
theorem d_Stow_addFour_46 : decode prog_1_method_3_code 46 = .ok (.return_, 1) := by decide +kernel
set_option maxRecDepth 100000 in
theorem w_530 : (Cond.methodLink "StowTongue" 52 ⟨"StowTongue", "addFour", "(I)V"⟩ : Cond) ∈ am_tbl := am_w 530 (by decide +kernel) (by decide +kernel)
set_option maxRecDepth 100000 in
theorem w_533 : (Cond.code ⟨"StowTongue", "addFour", "(I)V"⟩ prog_1_method_3_code 3 none : Cond) ∈ am_tbl := am_w 533 rfl rfl
set_option maxRecDepth 100000 in
theorem l_Stow_52 : am_L "StowTongue" 52 1 m_Stow_addFour := ⟨Or.inl w_530, w_143, w_533, ⟨by decide, by decide⟩, by decide +kernel, by decide⟩
set_option maxRecDepth 100000 in
theorem w_532 : (Cond.instanceMethod ⟨"StowTongue", "addFour", "(I)V"⟩ : Cond) ∈ am_tbl := am_w 532 (by decide +kernel) (by decide +kernel)
set_option maxRecDepth 100000 in
theorem w_0 : (Cond.selects "StowTongue" ⟨"StowTongue", "addFour", "(I)V"⟩ ⟨"StowTongue", "addFour", "(I)V"⟩ : Cond) ∈ am_tbl := am_w 0 (by decide +kernel) (by decide +kernel)
set_option maxRecDepth 100000 in
theorem d_Stow_feed_18 : decode prog_1_method_2_code 18 = .ok (.invokevirtual 52, 3) := by decide +kernel
set_option maxRecDepth 100000 in
theorem d_Stow_feed_21 : decode prog_1_method_2_code 21 = .ok (.aload_n 0, 1) := by decide +kernel
set_option maxRecDepth 100000 in
theorem d_Stow_feed_22 : decode prog_1_method_2_code 22 = .ok (.iload_n 2, 1) := by decide +kernel
set_option maxRecDepth 100000 in
theorem d_Stow_feed_23 : decode prog_1_method_2_code 23 = .ok (.invokevirtual 52, 3) := by decide +kernel
set_option maxRecDepth 100000 in
theorem d_Stow_feed_26 : decode prog_1_method_2_code 26 = .ok (.aload_n 0, 1) := by decide +kernel
set_option maxRecDepth 100000 in
theorem d_Stow_feed_27 : decode prog_1_method_2_code 27 = .ok (.iload_n 3, 1) := by decide +kernel
set_option maxRecDepth 100000 in
theorem d_Stow_feed_28 : decode prog_1_method_2_code 28 = .ok (.invokevirtual 52, 3) := by decide +kernel
set_option maxRecDepth 100000 in
theorem d_Stow_feed_31 : decode prog_1_method_2_code 31 = .ok (.aload_n 0, 1) := by decide +kernel
set_option maxRecDepth 100000 in
theorem d_Stow_feed_32 : decode prog_1_method_2_code 32 = .ok (.iload 4, 2) := by decide +kernel
set_option maxRecDepth 100000 in
theorem d_Stow_feed_34 : decode prog_1_method_2_code 34 = .ok (.invokevirtual 52, 3) := by decide +kernel
set_option maxRecDepth 100000 in
theorem d_Stow_feed_37 : decode prog_1_method_2_code 37 = .ok (.aload_n 0, 1) := by decide +kernel
set_option maxRecDepth 100000 in
theorem d_Stow_feed_38 : decode prog_1_method_2_code 38 = .ok (.iload 5, 2) := by decide +kernel
set_option maxRecDepth 100000 in
theorem d_Stow_feed_40 : decode prog_1_method_2_code 40 = .ok (.invokevirtual 52, 3) := by decide +kernel
set_option maxRecDepth 100000 in
theorem d_Stow_feed_43 : decode prog_1_method_2_code 43 = .ok (.aload_n 0, 1) := by decide +kernel
set_option maxRecDepth 100000 in
theorem d_Stow_feed_44 : decode prog_1_method_2_code 44 = .ok (.getfield 48, 3) := by decide +kernel
set_option maxRecDepth 100000 in
theorem d_Stow_feed_47 : decode prog_1_method_2_code 47 = .ok (.ireturn, 1) := by decide +kernel
set_option maxRecDepth 100000 in
abbrev m_Mod_feed : am_M := (⟨"StowTongueModel", "feed", "(IIIII)I"⟩, prog_13_method_36_code, 8, (some FieldType.int))
set_option maxRecDepth 100000 in
theorem d_Mod_feed_0 : decode prog_13_method_36_code 0 = .ok (.aload_n 0, 1) := by decide +kernel
set_option maxRecDepth 100000 in
theorem d_Mod_feed_1 : decode prog_13_method_36_code 1 = .ok (.getfield 134, 3) := by decide +kernel
set_option maxRecDepth 100000 in
theorem d_Mod_feed_4 : decode prog_13_method_36_code 4 = .ok (.bipush 20, 2) := by decide +kernel
set_option maxRecDepth 100000 in
theorem d_Mod_feed_6 : decode prog_13_method_36_code 6 = .ok (.iadd, 1) := by decide +kernel
set_option maxRecDepth 100000 in
theorem d_Mod_feed_7 : decode prog_13_method_36_code 7 = .ok (.sipush 1500, 3) := by decide +kernel
set_option maxRecDepth 100000 in
theorem d_Mod_feed_10 : decode prog_13_method_36_code 10 = .ok (.if_icmp .le 6, 3) := by decide +kernel
set_option maxRecDepth 100000 in
theorem d_Mod_feed_16 : decode prog_13_method_36_code 16 = .ok (.iconst 5, 1) := by decide +kernel
set_option maxRecDepth 100000 in
theorem d_Mod_feed_17 : decode prog_13_method_36_code 17 = .ok (.newarray .int, 2) := by decide +kernel
set_option maxRecDepth 100000 in
theorem d_Mod_feed_19 : decode prog_13_method_36_code 19 = .ok (.dup, 1) := by decide +kernel
set_option maxRecDepth 100000 in
theorem d_Mod_feed_20 : decode prog_13_method_36_code 20 = .ok (.iconst 0, 1) := by decide +kernel
set_option maxRecDepth 100000 in
theorem d_Mod_feed_21 : decode prog_13_method_36_code 21 = .ok (.iload_n 1, 1) := by decide +kernel
set_option maxRecDepth 100000 in
theorem d_Mod_feed_22 : decode prog_13_method_36_code 22 = .ok (.iastore, 1) := by decide +kernel
set_option maxRecDepth 100000 in
theorem d_Mod_feed_23 : decode prog_13_method_36_code 23 = .ok (.dup, 1) := by decide +kernel
set_option maxRecDepth 100000 in
theorem d_Mod_feed_24 : decode prog_13_method_36_code 24 = .ok (.iconst 1, 1) := by decide +kernel
set_option maxRecDepth 100000 in
theorem d_Mod_feed_25 : decode prog_13_method_36_code 25 = .ok (.iload_n 2, 1) := by decide +kernel
set_option maxRecDepth 100000 in
theorem d_Mod_feed_26 : decode prog_13_method_36_code 26 = .ok (.iastore, 1) := by decide +kernel
set_option maxRecDepth 100000 in
theorem d_Mod_feed_27 : decode prog_13_method_36_code 27 = .ok (.dup, 1) := by decide +kernel
set_option maxRecDepth 100000 in
theorem d_Mod_feed_28 : decode prog_13_method_36_code 28 = .ok (.iconst 2, 1) := by decide +kernel
set_option maxRecDepth 100000 in
theorem d_Mod_feed_29 : decode prog_13_method_36_code 29 = .ok (.iload_n 3, 1) := by decide +kernel
set_option maxRecDepth 100000 in
theorem d_Mod_feed_30 : decode prog_13_method_36_code 30 = .ok (.iastore, 1) := by decide +kernel
set_option maxRecDepth 100000 in
theorem d_Mod_feed_31 : decode prog_13_method_36_code 31 = .ok (.dup, 1) := by decide +kernel
set_option maxRecDepth 100000 in
theorem d_Mod_feed_32 : decode prog_13_method_36_code 32 = .ok (.iconst 3, 1) := by decide +kernel
set_option maxRecDepth 100000 in
theorem d_Mod_feed_33 : decode prog_13_method_36_code 33 = .ok (.iload 4, 2) := by decide +kernel
set_option maxRecDepth 100000 in
theorem d_Mod_feed_35 : decode prog_13_method_36_code 35 = .ok (.iastore, 1) := by decide +kernel
set_option maxRecDepth 100000 in
theorem d_Mod_feed_36 : decode prog_13_method_36_code 36 = .ok (.dup, 1) := by decide +kernel
set_option maxRecDepth 100000 in
theorem d_Mod_feed_37 : decode prog_13_method_36_code 37 = .ok (.iconst 4, 1) := by decide +kernel
set_option maxRecDepth 100000 in
theorem d_Mod_feed_38 : decode prog_13_method_36_code 38 = .ok (.iload 5, 2) := by decide +kernel
set_option maxRecDepth 100000 in
theorem d_Mod_feed_40 : decode prog_13_method_36_code 40 = .ok (.iastore, 1) := by decide +kernel
set_option maxRecDepth 100000 in
theorem d_Mod_feed_41 : decode prog_13_method_36_code 41 = .ok (.astore 6, 2) := by decide +kernel
set_option maxRecDepth 100000 in
theorem d_Mod_feed_43 : decode prog_13_method_36_code 43 = .ok (.iconst 0, 1) := by decide +kernel
set_option maxRecDepth 100000 in
theorem d_Mod_feed_44 : decode prog_13_method_36_code 44 = .ok (.istore 7, 2) := by decide +kernel
set_option maxRecDepth 100000 in
theorem d_Mod_feed_46 : decode prog_13_method_36_code 46 = .ok (.iload 7, 2) := by decide +kernel
set_option maxRecDepth 100000 in
theorem d_Mod_feed_48 : decode prog_13_method_36_code 48 = .ok (.bipush 20, 2) := by decide +kernel
set_option maxRecDepth 100000 in
theorem d_Mod_feed_50 : decode prog_13_method_36_code 50 = .ok (.if_icmp .ge 40, 3) := by decide +kernel
set_option maxRecDepth 100000 in
theorem d_Mod_feed_53 : decode prog_13_method_36_code 53 = .ok (.aload_n 0, 1) := by decide +kernel
set_option maxRecDepth 100000 in
theorem d_Mod_feed_54 : decode prog_13_method_36_code 54 = .ok (.getfield 22, 3) := by decide +kernel
set_option maxRecDepth 100000 in
theorem d_Mod_feed_57 : decode prog_13_method_36_code 57 = .ok (.aload_n 0, 1) := by decide +kernel
set_option maxRecDepth 100000 in
theorem d_Mod_feed_58 : decode prog_13_method_36_code 58 = .ok (.getfield 134, 3) := by decide +kernel
set_option maxRecDepth 100000 in
theorem d_Mod_feed_61 : decode prog_13_method_36_code 61 = .ok (.iload 7, 2) := by decide +kernel
set_option maxRecDepth 100000 in
theorem d_Mod_feed_63 : decode prog_13_method_36_code 63 = .ok (.iadd, 1) := by decide +kernel
set_option maxRecDepth 100000 in
theorem d_Mod_feed_64 : decode prog_13_method_36_code 64 = .ok (.aload 6, 2) := by decide +kernel
set_option maxRecDepth 100000 in
theorem d_Mod_feed_66 : decode prog_13_method_36_code 66 = .ok (.iload 7, 2) := by decide +kernel
set_option maxRecDepth 100000 in
theorem d_Mod_feed_68 : decode prog_13_method_36_code 68 = .ok (.iconst 4, 1) := by decide +kernel
set_option maxRecDepth 100000 in
theorem d_Mod_feed_69 : decode prog_13_method_36_code 69 = .ok (.idiv, 1) := by decide +kernel
set_option maxRecDepth 100000 in
theorem d_Mod_feed_70 : decode prog_13_method_36_code 70 = .ok (.iaload, 1) := by decide +kernel
set_option maxRecDepth 100000 in
theorem d_Mod_feed_71 : decode prog_13_method_36_code 71 = .ok (.bipush 24, 2) := by decide +kernel
set_option maxRecDepth 100000 in
theorem d_Mod_feed_73 : decode prog_13_method_36_code 73 = .ok (.bipush 8, 2) := by decide +kernel
set_option maxRecDepth 100000 in
theorem d_Mod_feed_75 : decode prog_13_method_36_code 75 = .ok (.iload 7, 2) := by decide +kernel
set_option maxRecDepth 100000 in
theorem d_Mod_feed_77 : decode prog_13_method_36_code 77 = .ok (.iconst 4, 1) := by decide +kernel
set_option maxRecDepth 100000 in
theorem d_Mod_feed_78 : decode prog_13_method_36_code 78 = .ok (.irem, 1) := by decide +kernel
set_option maxRecDepth 100000 in
theorem d_Mod_feed_79 : decode prog_13_method_36_code 79 = .ok (.imul, 1) := by decide +kernel
set_option maxRecDepth 100000 in
theorem d_Mod_feed_80 : decode prog_13_method_36_code 80 = .ok (.isub, 1) := by decide +kernel
set_option maxRecDepth 100000 in
theorem d_Mod_feed_81 : decode prog_13_method_36_code 81 = .ok (.ishr, 1) := by decide +kernel
set_option maxRecDepth 100000 in
theorem d_Mod_feed_82 : decode prog_13_method_36_code 82 = .ok (.i2b, 1) := by decide +kernel
set_option maxRecDepth 100000 in
theorem d_Mod_feed_83 : decode prog_13_method_36_code 83 = .ok (.bastore, 1) := by decide +kernel
set_option maxRecDepth 100000 in
theorem d_Mod_feed_84 : decode prog_13_method_36_code 84 = .ok (.iinc 7 1, 3) := by decide +kernel
set_option maxRecDepth 100000 in
theorem d_Mod_feed_87 : decode prog_13_method_36_code 87 = .ok (.goto (-41), 3) := by decide +kernel
set_option maxRecDepth 100000 in
theorem d_Mod_feed_90 : decode prog_13_method_36_code 90 = .ok (.aload_n 0, 1) := by decide +kernel
set_option maxRecDepth 100000 in
theorem d_Mod_feed_91 : decode prog_13_method_36_code 91 = .ok (.dup, 1) := by decide +kernel
set_option maxRecDepth 100000 in
theorem d_Mod_feed_92 : decode prog_13_method_36_code 92 = .ok (.getfield 134, 3) := by decide +kernel
set_option maxRecDepth 100000 in
theorem d_Mod_feed_95 : decode prog_13_method_36_code 95 = .ok (.bipush 20, 2) := by decide +kernel
set_option maxRecDepth 100000 in
theorem d_Mod_feed_97 : decode prog_13_method_36_code 97 = .ok (.iadd, 1) := by decide +kernel
set_option maxRecDepth 100000 in
theorem d_Mod_feed_98 : decode prog_13_method_36_code 98 = .ok (.putfield 134, 3) := by decide +kernel
set_option maxRecDepth 100000 in
theorem d_Mod_feed_101 : decode prog_13_method_36_code 101 = .ok (.aload_n 0, 1) := by decide +kernel
set_option maxRecDepth 100000 in
theorem d_Mod_feed_102 : decode prog_13_method_36_code 102 = .ok (.getfield 134, 3) := by decide +kernel
set_option maxRecDepth 100000 in
theorem d_Mod_feed_105 : decode prog_13_method_36_code 105 = .ok (.ireturn, 1) := by decide +kernel
