theorem d_Log_settle_7 : decode prog_5_method_7_code 7 = .ok (.aload_n 0, 1) := by decide +kernel
theorem d_Log_settle_8 : decode prog_5_method_7_code 8 = .ok (.getfield 27, 3) := by decide +kernel
theorem d_Log_settle_11 : decode prog_5_method_7_code 11 = .ok (.ifCond .le 13, 3) := by decide +kernel
theorem d_Log_settle_14 : decode prog_5_method_7_code 14 = .ok (.aload_n 0, 1) := by decide +kernel
theorem d_Log_settle_15 : decode prog_5_method_7_code 15 = .ok (.invokevirtual 47, 3) := by decide +kernel
theorem w_1366 : (Cond.methodLink "StowTongue$Log" 47 ⟨"StowTongue$Log", "settleOldest", "()V"⟩ : Cond) ∈ am_tbl := am_w 1366 (by decide +kernel) (by decide +kernel)
set_option maxRecDepth 100000 in
theorem w_1369 : (Cond.code ⟨"StowTongue$Log", "settleOldest", "()V"⟩ prog_5_method_8_code 3 none : Cond) ∈ am_tbl := am_w 1369 rfl rfl
theorem l_Log_47 : am_L "StowTongue$Log" 47 0 m_Log_settleOldest := ⟨Or.inl w_1366, w_158, w_1369, ⟨by decide, by decide⟩, by decide +kernel, by decide⟩
theorem w_1368 : (Cond.instanceMethod ⟨"StowTongue$Log", "settleOldest", "()V"⟩ : Cond) ∈ am_tbl := am_w 1368 (by decide +kernel) (by decide +kernel)
theorem w_79 : (Cond.selects "StowTongue$Log" ⟨"StowTongue$Log", "settleOldest", "()V"⟩ ⟨"StowTongue$Log", "settleOldest", "()V"⟩ : Cond) ∈ am_tbl := am_w 79 (by decide +kernel) (by decide +kernel)
theorem d_Log_settle_18 : decode prog_5_method_7_code 18 = .ok (.iinc 2 1, 3) := by decide +kernel
theorem d_Log_settle_21 : decode prog_5_method_7_code 21 = .ok (.goto (-19), 3) := by decide +kernel
abbrev m_Stow_octet : am_M := (⟨"StowTongue", "octet", "(I)I"⟩, prog_1_method_9_code, 2, (some FieldType.int))
theorem d_Stow_octet_0 : decode prog_1_method_9_code 0 = .ok (.iload_n 1, 1) := by decide +kernel
theorem d_Stow_octet_1 : decode prog_1_method_9_code 1 = .ok (.iconst (-1), 1) := by decide +kernel
theorem d_Stow_octet_2 : decode prog_1_method_9_code 2 = .ok (.if_icmp .ne 11, 3) := by decide +kernel
theorem d_Stow_octet_5 : decode prog_1_method_9_code 5 = .ok (.aload_n 0, 1) := by decide +kernel
theorem d_Stow_octet_6 : decode prog_1_method_9_code 6 = .ok (.getfield 16, 3) := by decide +kernel
theorem d_Stow_octet_9 : decode prog_1_method_9_code 9 = .ok (.invokevirtual 138, 3) := by decide +kernel
theorem w_1387 : (Cond.methodLink "StowTongue" 138 ⟨"StowTongue$Out", "size", "()I"⟩ : Cond) ∈ am_tbl := am_w 1387 (by decide +kernel) (by decide +kernel)
set_option maxRecDepth 100000 in
theorem w_1390 : (Cond.code ⟨"StowTongue$Out", "size", "()I"⟩ prog_7_method_3_code 1 (some FieldType.int) : Cond) ∈ am_tbl := am_w 1390 rfl rfl
theorem l_Stow_138 : am_L "StowTongue" 138 0 m_Out_size := ⟨Or.inl w_1387, w_144, w_1390, ⟨by decide, by decide⟩, by decide +kernel, by decide⟩
theorem w_1388 : (Cond.instanceMethod ⟨"StowTongue$Out", "size", "()I"⟩ : Cond) ∈ am_tbl := am_w 1388 (by decide +kernel) (by decide +kernel)
theorem w_1389 : (Cond.selects "StowTongue$Out" ⟨"StowTongue$Out", "size", "()I"⟩ ⟨"StowTongue$Out", "size", "()I"⟩ : Cond) ∈ am_tbl := am_w 1389 (by decide +kernel) (by decide +kernel)
theorem d_Stow_octet_12 : decode prog_1_method_9_code 12 = .ok (.ireturn, 1) := by decide +kernel
theorem d_Stow_octet_13 : decode prog_1_method_9_code 13 = .ok (.iload_n 1, 1) := by decide +kernel
theorem d_Stow_octet_14 : decode prog_1_method_9_code 14 = .ok (.ifCond .lt 25, 3) := by decide +kernel
theorem d_Stow_octet_39 : decode prog_1_method_9_code 39 = .ok (.bipush (-2), 2) := by decide +kernel
theorem d_Stow_octet_41 : decode prog_1_method_9_code 41 = .ok (.ireturn, 1) := by decide +kernel
theorem d_Stow_octet_17 : decode prog_1_method_9_code 17 = .ok (.iload_n 1, 1) := by decide +kernel
theorem d_Stow_octet_18 : decode prog_1_method_9_code 18 = .ok (.aload_n 0, 1) := by decide +kernel
theorem d_Stow_octet_19 : decode prog_1_method_9_code 19 = .ok (.getfield 16, 3) := by decide +kernel
theorem d_Stow_octet_22 : decode prog_1_method_9_code 22 = .ok (.invokevirtual 138, 3) := by decide +kernel
theorem d_Stow_octet_25 : decode prog_1_method_9_code 25 = .ok (.if_icmp .ge 14, 3) := by decide +kernel
theorem d_Stow_octet_28 : decode prog_1_method_9_code 28 = .ok (.aload_n 0, 1) := by decide +kernel
theorem d_Stow_octet_29 : decode prog_1_method_9_code 29 = .ok (.getfield 16, 3) := by decide +kernel
theorem d_Stow_octet_32 : decode prog_1_method_9_code 32 = .ok (.iload_n 1, 1) := by decide +kernel
theorem d_Stow_octet_33 : decode prog_1_method_9_code 33 = .ok (.invokevirtual 141, 3) := by decide +kernel
theorem w_1391 : (Cond.methodLink "StowTongue" 141 ⟨"StowTongue$Out", "byteAt", "(I)I"⟩ : Cond) ∈ am_tbl := am_w 1391 (by decide +kernel) (by decide +kernel)
set_option maxRecDepth 100000 in
theorem w_1394 : (Cond.code ⟨"StowTongue$Out", "byteAt", "(I)I"⟩ prog_7_method_5_code 2 (some FieldType.int) : Cond) ∈ am_tbl := am_w 1394 rfl rfl
theorem l_Stow_141 : am_L "StowTongue" 141 1 m_Out_byteAt := ⟨Or.inl w_1391, w_144, w_1394, ⟨by decide, by decide⟩, by decide +kernel, by decide⟩
theorem w_1392 : (Cond.instanceMethod ⟨"StowTongue$Out", "byteAt", "(I)I"⟩ : Cond) ∈ am_tbl := am_w 1392 (by decide +kernel) (by decide +kernel)
theorem w_1393 : (Cond.selects "StowTongue$Out" ⟨"StowTongue$Out", "byteAt", "(I)I"⟩ ⟨"StowTongue$Out", "byteAt", "(I)I"⟩ : Cond) ∈ am_tbl := am_w 1393 (by decide +kernel) (by decide +kernel)
theorem d_Stow_octet_36 : decode prog_1_method_9_code 36 = .ok (.goto 5, 3) := by decide +kernel
theorem d_Stow_root_51 : decode prog_1_method_10_code 51 = .ok (.aload_n 3, 1) := by decide +kernel
theorem d_Stow_root_52 : decode prog_1_method_10_code 52 = .ok (.getfield 156, 3) := by decide +kernel
theorem w_980 : (Cond.fieldLink "StowTongue" 156 "StowTongue$Store" "rootHead" "[J" : Cond) ∈ am_tbl := am_w 980 (by decide +kernel) (by decide +kernel)
theorem f_Stow_156 : am_F "StowTongue" 156 10 4 := ⟨_, rfl, cl_10, by decide, Or.inl w_980⟩
theorem d_Stow_root_55 : decode prog_1_method_10_code 55 = .ok (.iload 4, 2) := by decide +kernel
theorem d_Stow_root_57 : decode prog_1_method_10_code 57 = .ok (.laload, 1) := by decide +kernel
theorem d_Stow_root_58 : decode prog_1_method_10_code 58 = .ok (.lstore 5, 2) := by decide +kernel
theorem d_Stow_root_60 : decode prog_1_method_10_code 60 = .ok (.aload_n 3, 1) := by decide +kernel
theorem d_Stow_root_61 : decode prog_1_method_10_code 61 = .ok (.getfield 160, 3) := by decide +kernel
theorem w_984 : (Cond.fieldLink "StowTongue" 160 "StowTongue$Store" "rootTail" "[J" : Cond) ∈ am_tbl := am_w 984 (by decide +kernel) (by decide +kernel)
theorem f_Stow_160 : am_F "StowTongue" 160 10 5 := ⟨_, rfl, cl_10, by decide, Or.inl w_984⟩
theorem d_Stow_root_64 : decode prog_1_method_10_code 64 = .ok (.iload 4, 2) := by decide +kernel
theorem d_Stow_root_66 : decode prog_1_method_10_code 66 = .ok (.laload, 1) := by decide +kernel
theorem d_Stow_root_67 : decode prog_1_method_10_code 67 = .ok (.lstore 7, 2) := by decide +kernel
theorem d_Stow_root_69 : decode prog_1_method_10_code 69 = .ok (.lload 5, 2) := by decide +kernel
theorem d_Stow_root_71 : decode prog_1_method_10_code 71 = .ok (.invokestatic 116, 3) := by decide +kernel
theorem d_Stow_root_74 : decode prog_1_method_10_code 74 = .ok (.iconst 2, 1) := by decide +kernel
theorem d_Stow_root_75 : decode prog_1_method_10_code 75 = .ok (.if_icmp .ne 14, 3) := by decide +kernel
theorem d_Stow_root_78 : decode prog_1_method_10_code 78 = .ok (.lload 5, 2) := by decide +kernel
theorem d_Stow_root_80 : decode prog_1_method_10_code 80 = .ok (.lload 7, 2) := by decide +kernel
theorem d_Stow_root_82 : decode prog_1_method_10_code 82 = .ok (.invokestatic 163, 3) := by decide +kernel
theorem w_1403 : (Cond.methodLink "StowTongue" 163 ⟨"StowTongue$Cell", "signsOf", "(JJ)I"⟩ : Cond) ∈ am_tbl := am_w 1403 (by decide +kernel) (by decide +kernel)
theorem l_Stow_163 : am_L "StowTongue" 163 2 m_Cell_signsOf := ⟨Or.inl w_1403, w_151, w_1162, ⟨by decide, by decide⟩, by decide +kernel, by decide⟩
theorem d_Stow_root_85 : decode prog_1_method_10_code 85 = .ok (.i2l, 1) := by decide +kernel
theorem d_Stow_root_86 : decode prog_1_method_10_code 86 = .ok (.goto 4, 3) := by decide +kernel
theorem d_Stow_root_90 : decode prog_1_method_10_code 90 = .ok (.lstore 9, 2) := by decide +kernel
theorem d_Stow_root_92 : decode prog_1_method_10_code 92 = .ok (.lload 5, 2) := by decide +kernel
theorem d_Stow_root_94 : decode prog_1_method_10_code 94 = .ok (.lload 7, 2) := by decide +kernel
theorem d_Stow_root_96 : decode prog_1_method_10_code 96 = .ok (.invokestatic 126, 3) := by decide +kernel
theorem d_Stow_root_99 : decode prog_1_method_10_code 99 = .ok (.ldc2_w 167, 3) := by decide +kernel
theorem w_1404 : (Cond.constantLong "StowTongue" 167 8 : Cond) ∈ am_tbl := am_w 1404 (by decide +kernel) (by decide +kernel)
theorem d_Stow_root_102 : decode prog_1_method_10_code 102 = .ok (.lload 9, 2) := by decide +kernel
theorem d_Stow_root_104 : decode prog_1_method_10_code 104 = .ok (.lmul, 1) := by decide +kernel
theorem d_Stow_root_105 : decode prog_1_method_10_code 105 = .ok (.ladd, 1) := by decide +kernel
theorem d_Stow_root_106 : decode prog_1_method_10_code 106 = .ok (.lreturn, 1) := by decide +kernel
theorem d_Stow_root_89 : decode prog_1_method_10_code 89 = .ok (.lconst 0, 1) := by decide +kernel
theorem d_Stow_root_35 : decode prog_1_method_10_code 35 = .ok (.aload_n 3, 1) := by decide +kernel
theorem d_Stow_root_36 : decode prog_1_method_10_code 36 = .ok (.lload_n 1, 1) := by decide +kernel
theorem d_Stow_root_37 : decode prog_1_method_10_code 37 = .ok (.invokevirtual 151, 3) := by decide +kernel
theorem w_1402 : (Cond.methodLink "StowTongue" 151 ⟨"StowTongue$Store", "rootAt", "(J)I"⟩ : Cond) ∈ am_tbl := am_w 1402 (by decide +kernel) (by decide +kernel)
theorem l_Stow_151 : am_L "StowTongue" 151 1 m_Store_rootAt := ⟨Or.inl w_1402, w_169, w_1192, ⟨by decide, by decide⟩, by decide +kernel, by decide⟩
abbrev m_Stow_crash : am_M := (⟨"StowTongue", "crash", "(I)I"⟩, prog_1_method_12_code, 3, (some FieldType.int))
theorem d_Stow_crash_0 : decode prog_1_method_12_code 0 = .ok (.iload_n 1, 1) := by decide +kernel
theorem d_Stow_crash_1 : decode prog_1_method_12_code 1 = .ok (.ifCond .ge 5, 3) := by decide +kernel
theorem d_Stow_crash_6 : decode prog_1_method_12_code 6 = .ok (.aload_n 0, 1) := by decide +kernel
theorem d_Stow_crash_7 : decode prog_1_method_12_code 7 = .ok (.getfield 37, 3) := by decide +kernel
theorem d_Stow_crash_10 : decode prog_1_method_12_code 10 = .ok (.iload_n 1, 1) := by decide +kernel
theorem d_Stow_crash_11 : decode prog_1_method_12_code 11 = .ok (.invokevirtual 175, 3) := by decide +kernel
theorem w_1418 : (Cond.methodLink "StowTongue" 175 ⟨"StowTongue$Log", "wholeWithin", "(I)I"⟩ : Cond) ∈ am_tbl := am_w 1418 (by decide +kernel) (by decide +kernel)
set_option maxRecDepth 100000 in
theorem w_1421 : (Cond.code ⟨"StowTongue$Log", "wholeWithin", "(I)I"⟩ prog_5_method_10_code 4 (some FieldType.int) : Cond) ∈ am_tbl := am_w 1421 rfl rfl
theorem l_Stow_175 : am_L "StowTongue" 175 1 m_Log_wholeWithin := ⟨Or.inl w_1418, w_158, w_1421, ⟨by decide, by decide⟩, by decide +kernel, by decide⟩
theorem w_1419 : (Cond.instanceMethod ⟨"StowTongue$Log", "wholeWithin", "(I)I"⟩ : Cond) ∈ am_tbl := am_w 1419 (by decide +kernel) (by decide +kernel)
theorem w_1420 : (Cond.selects "StowTongue$Log" ⟨"StowTongue$Log", "wholeWithin", "(I)I"⟩ ⟨"StowTongue$Log", "wholeWithin", "(I)I"⟩ : Cond) ∈ am_tbl := am_w 1420 (by decide +kernel) (by decide +kernel)
theorem d_Stow_crash_14 : decode prog_1_method_12_code 14 = .ok (.istore_n 2, 1) := by decide +kernel
theorem d_Stow_crash_15 : decode prog_1_method_12_code 15 = .ok (.aload_n 0, 1) := by decide +kernel
theorem d_Stow_crash_16 : decode prog_1_method_12_code 16 = .ok (.getfield 37, 3) := by decide +kernel
theorem d_Stow_crash_19 : decode prog_1_method_12_code 19 = .ok (.iload_n 2, 1) := by decide +kernel
theorem d_Stow_crash_20 : decode prog_1_method_12_code 20 = .ok (.invokevirtual 172, 3) := by decide +kernel
theorem d_Stow_crash_23 : decode prog_1_method_12_code 23 = .ok (.aload_n 0, 1) := by decide +kernel
theorem d_Stow_crash_24 : decode prog_1_method_12_code 24 = .ok (.getfield 37, 3) := by decide +kernel
theorem d_Stow_crash_27 : decode prog_1_method_12_code 27 = .ok (.invokevirtual 178, 3) := by decide +kernel
theorem w_1422 : (Cond.methodLink "StowTongue" 178 ⟨"StowTongue$Log", "loseWaiting", "()V"⟩ : Cond) ∈ am_tbl := am_w 1422 (by decide +kernel) (by decide +kernel)
set_option maxRecDepth 100000 in
theorem w_1425 : (Cond.code ⟨"StowTongue$Log", "loseWaiting", "()V"⟩ prog_5_method_9_code 1 none : Cond) ∈ am_tbl := am_w 1425 rfl rfl
theorem l_Stow_178 : am_L "StowTongue" 178 0 m_Log_loseWaiting := ⟨Or.inl w_1422, w_158, w_1425, ⟨by decide, by decide⟩, by decide +kernel, by decide⟩
theorem w_1423 : (Cond.instanceMethod ⟨"StowTongue$Log", "loseWaiting", "()V"⟩ : Cond) ∈ am_tbl := am_w 1423 (by decide +kernel) (by decide +kernel)
theorem w_1424 : (Cond.selects "StowTongue$Log" ⟨"StowTongue$Log", "loseWaiting", "()V"⟩ ⟨"StowTongue$Log", "loseWaiting", "()V"⟩ : Cond) ∈ am_tbl := am_w 1424 (by decide +kernel) (by decide +kernel)
theorem d_Stow_crash_30 : decode prog_1_method_12_code 30 = .ok (.iload_n 2, 1) := by decide +kernel
theorem d_Stow_crash_31 : decode prog_1_method_12_code 31 = .ok (.ireturn, 1) := by decide +kernel
theorem d_Stow_crash_4 : decode prog_1_method_12_code 4 = .ok (.iconst (-1), 1) := by decide +kernel
theorem d_Stow_crash_5 : decode prog_1_method_12_code 5 = .ok (.ireturn, 1) := by decide +kernel
abbrev m_Sweep_reach : am_M := (⟨"StowTongue$Sweeper", "reach", "(JJ)V"⟩, prog_10_method_3_code, 5, none)
theorem d_Sweep_reach_0 : decode prog_10_method_3_code 0 = .ok (.lload_n 1, 1) := by decide +kernel
theorem d_Sweep_reach_1 : decode prog_10_method_3_code 1 = .ok (.invokestatic 46, 3) := by decide +kernel
theorem w_1442 : (Cond.methodLink "StowTongue$Sweeper" 46 ⟨"StowTongue$Cell", "isObject", "(J)Z"⟩ : Cond) ∈ am_tbl := am_w 1442 (by decide +kernel) (by decide +kernel)
set_option maxRecDepth 100000 in
theorem w_1444 : (Cond.code ⟨"StowTongue$Cell", "isObject", "(J)Z"⟩ prog_2_method_4_code 3 (some FieldType.boolean) : Cond) ∈ am_tbl := am_w 1444 rfl rfl
theorem l_Sweep_46 : am_L "StowTongue$Sweeper" 46 1 m_Cell_isObject := ⟨Or.inl w_1442, w_151, w_1444, ⟨by decide, by decide⟩, by decide +kernel, by decide⟩
theorem w_1443 : (Cond.static ⟨"StowTongue$Cell", "isObject", "(J)Z"⟩ : Cond) ∈ am_tbl := am_w 1443 (by decide +kernel) (by decide +kernel)
theorem d_Sweep_reach_4 : decode prog_10_method_3_code 4 = .ok (.ifCond .eq 65, 3) := by decide +kernel
theorem d_Sweep_reach_69 : decode prog_10_method_3_code 69 = .ok (.return_, 1) := by decide +kernel
theorem d_Sweep_reach_7 : decode prog_10_method_3_code 7 = .ok (.lload_n 3, 1) := by decide +kernel
theorem d_Sweep_reach_8 : decode prog_10_method_3_code 8 = .ok (.lconst 0, 1) := by decide +kernel
theorem d_Sweep_reach_9 : decode prog_10_method_3_code 9 = .ok (.lcmp, 1) := by decide +kernel
theorem d_Sweep_reach_10 : decode prog_10_method_3_code 10 = .ok (.ifCond .lt 59, 3) := by decide +kernel
theorem d_Sweep_reach_13 : decode prog_10_method_3_code 13 = .ok (.lload_n 3, 1) := by decide +kernel
theorem d_Sweep_reach_14 : decode prog_10_method_3_code 14 = .ok (.ldc2_w 52, 3) := by decide +kernel
theorem w_1445 : (Cond.constantLong "StowTongue$Sweeper" 52 100 : Cond) ∈ am_tbl := am_w 1445 (by decide +kernel) (by decide +kernel)
theorem d_Sweep_reach_17 : decode prog_10_method_3_code 17 = .ok (.lcmp, 1) := by decide +kernel
theorem d_Sweep_reach_18 : decode prog_10_method_3_code 18 = .ok (.ifCond .ge 51, 3) := by decide +kernel
theorem d_Sweep_reach_21 : decode prog_10_method_3_code 21 = .ok (.aload_n 0, 1) := by decide +kernel
theorem d_Sweep_reach_22 : decode prog_10_method_3_code 22 = .ok (.getfield 9, 3) := by decide +kernel
theorem d_Sweep_reach_25 : decode prog_10_method_3_code 25 = .ok (.lload_n 3, 1) := by decide +kernel
theorem d_Sweep_reach_26 : decode prog_10_method_3_code 26 = .ok (.l2i, 1) := by decide +kernel
theorem d_Sweep_reach_27 : decode prog_10_method_3_code 27 = .ok (.baload, 1) := by decide +kernel
theorem d_Sweep_reach_28 : decode prog_10_method_3_code 28 = .ok (.ifCond .ne 41, 3) := by decide +kernel
theorem d_Sweep_reach_31 : decode prog_10_method_3_code 31 = .ok (.aload_n 0, 1) := by decide +kernel
theorem d_Sweep_reach_32 : decode prog_10_method_3_code 32 = .ok (.getfield 19, 3) := by decide +kernel
theorem d_Sweep_reach_35 : decode prog_10_method_3_code 35 = .ok (.bipush 100, 2) := by decide +kernel
theorem d_Sweep_reach_37 : decode prog_10_method_3_code 37 = .ok (.if_icmp .ge 32, 3) := by decide +kernel
theorem d_Sweep_reach_40 : decode prog_10_method_3_code 40 = .ok (.aload_n 0, 1) := by decide +kernel
theorem d_Sweep_reach_41 : decode prog_10_method_3_code 41 = .ok (.getfield 9, 3) := by decide +kernel
theorem d_Sweep_reach_44 : decode prog_10_method_3_code 44 = .ok (.lload_n 3, 1) := by decide +kernel
theorem d_Sweep_reach_45 : decode prog_10_method_3_code 45 = .ok (.l2i, 1) := by decide +kernel
theorem d_Sweep_reach_46 : decode prog_10_method_3_code 46 = .ok (.iconst 1, 1) := by decide +kernel
theorem d_Sweep_reach_47 : decode prog_10_method_3_code 47 = .ok (.bastore, 1) := by decide +kernel
theorem d_Sweep_reach_48 : decode prog_10_method_3_code 48 = .ok (.aload_n 0, 1) := by decide +kernel
theorem d_Sweep_reach_49 : decode prog_10_method_3_code 49 = .ok (.getfield 15, 3) := by decide +kernel
theorem d_Sweep_reach_52 : decode prog_10_method_3_code 52 = .ok (.aload_n 0, 1) := by decide +kernel
theorem d_Sweep_reach_53 : decode prog_10_method_3_code 53 = .ok (.getfield 19, 3) := by decide +kernel
theorem d_Sweep_reach_56 : decode prog_10_method_3_code 56 = .ok (.lload_n 3, 1) := by decide +kernel
theorem d_Sweep_reach_57 : decode prog_10_method_3_code 57 = .ok (.l2i, 1) := by decide +kernel
theorem d_Sweep_reach_58 : decode prog_10_method_3_code 58 = .ok (.iastore, 1) := by decide +kernel
theorem d_Sweep_reach_59 : decode prog_10_method_3_code 59 = .ok (.aload_n 0, 1) := by decide +kernel
theorem d_Sweep_reach_60 : decode prog_10_method_3_code 60 = .ok (.dup, 1) := by decide +kernel
theorem d_Sweep_reach_61 : decode prog_10_method_3_code 61 = .ok (.getfield 19, 3) := by decide +kernel
theorem d_Sweep_reach_64 : decode prog_10_method_3_code 64 = .ok (.iconst 1, 1) := by decide +kernel
theorem d_Sweep_reach_65 : decode prog_10_method_3_code 65 = .ok (.iadd, 1) := by decide +kernel
theorem d_Sweep_reach_66 : decode prog_10_method_3_code 66 = .ok (.putfield 19, 3) := by decide +kernel
abbrev m_Sweep_reachFrom : am_M := (⟨"StowTongue$Sweeper", "reachFrom", "(LStowTongue$Store;I)V"⟩, prog_10_method_4_code, 6, none)
theorem d_Sweep_reachFrom_0 : decode prog_10_method_4_code 0 = .ok (.aload_n 1, 1) := by decide +kernel
theorem d_Sweep_reachFrom_1 : decode prog_10_method_4_code 1 = .ok (.iload_n 2, 1) := by decide +kernel
theorem d_Sweep_reachFrom_2 : decode prog_10_method_4_code 2 = .ok (.invokevirtual 54, 3) := by decide +kernel
theorem w_1450 : (Cond.methodLink "StowTongue$Sweeper" 54 ⟨"StowTongue$Store", "firstCell", "(I)I"⟩ : Cond) ∈ am_tbl := am_w 1450 (by decide +kernel) (by decide +kernel)
theorem l_Sweep_54 : am_L "StowTongue$Sweeper" 54 1 m_Store_firstCell := ⟨Or.inl w_1450, w_169, w_1222, ⟨by decide, by decide⟩, by decide +kernel, by decide⟩
theorem d_Sweep_reachFrom_5 : decode prog_10_method_4_code 5 = .ok (.istore_n 3, 1) := by decide +kernel
theorem d_Sweep_reachFrom_6 : decode prog_10_method_4_code 6 = .ok (.iload_n 3, 1) := by decide +kernel
theorem d_Sweep_reachFrom_7 : decode prog_10_method_4_code 7 = .ok (.aload_n 1, 1) := by decide +kernel
theorem d_Sweep_reachFrom_8 : decode prog_10_method_4_code 8 = .ok (.iload_n 2, 1) := by decide +kernel
theorem d_Sweep_reachFrom_9 : decode prog_10_method_4_code 9 = .ok (.invokevirtual 58, 3) := by decide +kernel
theorem w_1451 : (Cond.methodLink "StowTongue$Sweeper" 58 ⟨"StowTongue$Store", "cellsOf", "(I)I"⟩ : Cond) ∈ am_tbl := am_w 1451 (by decide +kernel) (by decide +kernel)
theorem l_Sweep_58 : am_L "StowTongue$Sweeper" 58 1 m_Store_cellsOf := ⟨Or.inl w_1451, w_169, w_1226, ⟨by decide, by decide⟩, by decide +kernel, by decide⟩
theorem d_Sweep_reachFrom_12 : decode prog_10_method_4_code 12 = .ok (.iadd, 1) := by decide +kernel
theorem d_Sweep_reachFrom_13 : decode prog_10_method_4_code 13 = .ok (.istore 4, 2) := by decide +kernel
theorem d_Sweep_reachFrom_15 : decode prog_10_method_4_code 15 = .ok (.iload_n 3, 1) := by decide +kernel
theorem d_Sweep_reachFrom_16 : decode prog_10_method_4_code 16 = .ok (.istore 5, 2) := by decide +kernel
theorem d_Sweep_reachFrom_18 : decode prog_10_method_4_code 18 = .ok (.iload 5, 2) := by decide +kernel
theorem d_Sweep_reachFrom_20 : decode prog_10_method_4_code 20 = .ok (.iload 4, 2) := by decide +kernel
theorem d_Sweep_reachFrom_22 : decode prog_10_method_4_code 22 = .ok (.if_icmp .ge 27, 3) := by decide +kernel
theorem d_Sweep_reachFrom_49 : decode prog_10_method_4_code 49 = .ok (.return_, 1) := by decide +kernel
theorem d_Sweep_reachFrom_25 : decode prog_10_method_4_code 25 = .ok (.aload_n 0, 1) := by decide +kernel
theorem d_Sweep_reachFrom_26 : decode prog_10_method_4_code 26 = .ok (.aload_n 1, 1) := by decide +kernel
theorem d_Sweep_reachFrom_27 : decode prog_10_method_4_code 27 = .ok (.getfield 61, 3) := by decide +kernel
theorem w_971 : (Cond.fieldLink "StowTongue$Sweeper" 61 "StowTongue$Store" "head" "[J" : Cond) ∈ am_tbl := am_w 971 (by decide +kernel) (by decide +kernel)
theorem f_Sweep_61 : am_F "StowTongue$Sweeper" 61 10 0 := ⟨_, rfl, cl_10, by decide, Or.inl w_971⟩
theorem d_Sweep_reachFrom_30 : decode prog_10_method_4_code 30 = .ok (.iload 5, 2) := by decide +kernel
theorem d_Sweep_reachFrom_32 : decode prog_10_method_4_code 32 = .ok (.laload, 1) := by decide +kernel
theorem d_Sweep_reachFrom_33 : decode prog_10_method_4_code 33 = .ok (.aload_n 1, 1) := by decide +kernel
theorem d_Sweep_reachFrom_34 : decode prog_10_method_4_code 34 = .ok (.getfield 64, 3) := by decide +kernel
theorem w_974 : (Cond.fieldLink "StowTongue$Sweeper" 64 "StowTongue$Store" "tail" "[J" : Cond) ∈ am_tbl := am_w 974 (by decide +kernel) (by decide +kernel)
theorem f_Sweep_64 : am_F "StowTongue$Sweeper" 64 10 1 := ⟨_, rfl, cl_10, by decide, Or.inl w_974⟩
theorem d_Sweep_reachFrom_37 : decode prog_10_method_4_code 37 = .ok (.iload 5, 2) := by decide +kernel
theorem d_Sweep_reachFrom_39 : decode prog_10_method_4_code 39 = .ok (.laload, 1) := by decide +kernel
theorem d_Sweep_reachFrom_40 : decode prog_10_method_4_code 40 = .ok (.invokevirtual 34, 3) := by decide +kernel
theorem w_1438 : (Cond.methodLink "StowTongue$Sweeper" 34 ⟨"StowTongue$Sweeper", "reach", "(JJ)V"⟩ : Cond) ∈ am_tbl := am_w 1438 (by decide +kernel) (by decide +kernel)
set_option maxRecDepth 100000 in
theorem w_1441 : (Cond.code ⟨"StowTongue$Sweeper", "reach", "(JJ)V"⟩ prog_10_method_3_code 5 none : Cond) ∈ am_tbl := am_w 1441 rfl rfl
theorem l_Sweep_34 : am_L "StowTongue$Sweeper" 34 2 m_Sweep_reach := ⟨Or.inl w_1438, w_159, w_1441, ⟨by decide, by decide⟩, by decide +kernel, by decide⟩
theorem w_1440 : (Cond.instanceMethod ⟨"StowTongue$Sweeper", "reach", "(JJ)V"⟩ : Cond) ∈ am_tbl := am_w 1440 (by decide +kernel) (by decide +kernel)
theorem w_80 : (Cond.selects "StowTongue$Sweeper" ⟨"StowTongue$Sweeper", "reach", "(JJ)V"⟩ ⟨"StowTongue$Sweeper", "reach", "(JJ)V"⟩ : Cond) ∈ am_tbl := am_w 80 (by decide +kernel) (by decide +kernel)
theorem d_Sweep_reachFrom_43 : decode prog_10_method_4_code 43 = .ok (.iinc 5 1, 3) := by decide +kernel
theorem d_Sweep_reachFrom_46 : decode prog_10_method_4_code 46 = .ok (.goto (-28), 3) := by decide +kernel
theorem d_Sweep_takeUnreached_27 : decode prog_10_method_5_code 27 = .ok (.aload_n 1, 1) := by decide +kernel
theorem d_Sweep_takeUnreached_28 : decode prog_10_method_5_code 28 = .ok (.iload_n 3, 1) := by decide +kernel
theorem d_Sweep_takeUnreached_29 : decode prog_10_method_5_code 29 = .ok (.invokevirtual 71, 3) := by decide +kernel
theorem w_1457 : (Cond.methodLink "StowTongue$Sweeper" 71 ⟨"StowTongue$Store", "takeAway", "(I)V"⟩ : Cond) ∈ am_tbl := am_w 1457 (by decide +kernel) (by decide +kernel)
set_option maxRecDepth 100000 in
theorem w_1460 : (Cond.code ⟨"StowTongue$Store", "takeAway", "(I)V"⟩ prog_9_method_6_code 2 none : Cond) ∈ am_tbl := am_w 1460 rfl rfl
theorem l_Sweep_71 : am_L "StowTongue$Sweeper" 71 1 m_Store_takeAway := ⟨Or.inl w_1457, w_169, w_1460, ⟨by decide, by decide⟩, by decide +kernel, by decide⟩
theorem w_1458 : (Cond.instanceMethod ⟨"StowTongue$Store", "takeAway", "(I)V"⟩ : Cond) ∈ am_tbl := am_w 1458 (by decide +kernel) (by decide +kernel)
theorem w_1459 : (Cond.selects "StowTongue$Store" ⟨"StowTongue$Store", "takeAway", "(I)V"⟩ ⟨"StowTongue$Store", "takeAway", "(I)V"⟩ : Cond) ∈ am_tbl := am_w 1459 (by decide +kernel) (by decide +kernel)
theorem d_Sweep_takeUnreached_32 : decode prog_10_method_5_code 32 = .ok (.iinc 2 1, 3) := by decide +kernel
theorem d_Stow_count_113 : decode prog_1_method_14_code 113 = .ok (.iconst (-1), 1) := by decide +kernel
theorem d_Stow_count_114 : decode prog_1_method_14_code 114 = .ok (.ireturn, 1) := by decide +kernel
abbrev m_Mod_end : am_M := (⟨"StowTongueModel", "end", "(I)I"⟩, prog_13_method_37_code, 2, (some FieldType.int))
theorem d_Mod_end_0 : decode prog_13_method_37_code 0 = .ok (.iload_n 1, 1) := by decide +kernel
theorem d_Mod_end_1 : decode prog_13_method_37_code 1 = .ok (.i2l, 1) := by decide +kernel
theorem d_Mod_end_2 : decode prog_13_method_37_code 2 = .ok (.lconst 0, 1) := by decide +kernel
theorem d_Mod_end_3 : decode prog_13_method_37_code 3 = .ok (.aload_n 0, 1) := by decide +kernel
theorem d_Mod_end_4 : decode prog_13_method_37_code 4 = .ok (.getfield 134, 3) := by decide +kernel
theorem d_Mod_end_7 : decode prog_13_method_37_code 7 = .ok (.i2l, 1) := by decide +kernel
theorem d_Mod_end_8 : decode prog_13_method_37_code 8 = .ok (.invokestatic 70, 3) := by decide +kernel
theorem d_Mod_end_11 : decode prog_13_method_37_code 11 = .ok (.ifCond .ne 5, 3) := by decide +kernel
theorem d_Mod_end_14 : decode prog_13_method_37_code 14 = .ok (.iconst (-1), 1) := by decide +kernel
theorem d_Mod_end_15 : decode prog_13_method_37_code 15 = .ok (.ireturn, 1) := by decide +kernel
theorem d_Mod_end_16 : decode prog_13_method_37_code 16 = .ok (.aload_n 0, 1) := by decide +kernel
theorem d_Mod_end_17 : decode prog_13_method_37_code 17 = .ok (.iload_n 1, 1) := by decide +kernel
theorem d_Mod_end_18 : decode prog_13_method_37_code 18 = .ok (.putfield 134, 3) := by decide +kernel
theorem d_Mod_end_21 : decode prog_13_method_37_code 21 = .ok (.iload_n 1, 1) := by decide +kernel
theorem d_Mod_end_22 : decode prog_13_method_37_code 22 = .ok (.ireturn, 1) := by decide +kernel
abbrev m_Mod_step : am_M := (⟨"StowTongueModel", "step", "()V"⟩, prog_13_method_5_code, 5, none)
theorem d_Mod_step_0 : decode prog_13_method_5_code 0 = .ok (.aload_n 0, 1) := by decide +kernel
theorem d_Mod_step_1 : decode prog_13_method_5_code 1 = .ok (.dup, 1) := by decide +kernel
theorem d_Mod_step_2 : decode prog_13_method_5_code 2 = .ok (.getfield 26, 3) := by decide +kernel
theorem w_1632 : (Cond.fieldLink "StowTongueModel" 26 "StowTongueModel" "passed" "I" : Cond) ∈ am_tbl := am_w 1632 (by decide +kernel) (by decide +kernel)
theorem f_Mod_26 : am_F "StowTongueModel" 26 14 10 := ⟨_, rfl, cl_14, by decide, Or.inl w_1632⟩
theorem d_Mod_step_5 : decode prog_13_method_5_code 5 = .ok (.iconst 1, 1) := by decide +kernel
theorem d_Mod_step_6 : decode prog_13_method_5_code 6 = .ok (.iadd, 1) := by decide +kernel
theorem d_Mod_step_7 : decode prog_13_method_5_code 7 = .ok (.putfield 26, 3) := by decide +kernel
theorem d_Mod_step_10 : decode prog_13_method_5_code 10 = .ok (.aload_n 0, 1) := by decide +kernel
theorem d_Mod_step_11 : decode prog_13_method_5_code 11 = .ok (.getfield 3, 3) := by decide +kernel
theorem d_Mod_step_14 : decode prog_13_method_5_code 14 = .ok (.aload_n 0, 1) := by decide +kernel
theorem d_Mod_step_15 : decode prog_13_method_5_code 15 = .ok (.getfield 29, 3) := by decide +kernel
theorem w_1626 : (Cond.fieldLink "StowTongueModel" 29 "StowTongueModel" "size" "I" : Cond) ∈ am_tbl := am_w 1626 (by decide +kernel) (by decide +kernel)
theorem f_Mod_29 : am_F "StowTongueModel" 29 14 4 := ⟨_, rfl, cl_14, by decide, Or.inl w_1626⟩
theorem d_Mod_step_18 : decode prog_13_method_5_code 18 = .ok (.if_icmp .ge 44, 3) := by decide +kernel
theorem d_Mod_step_62 : decode prog_13_method_5_code 62 = .ok (.aload_n 0, 1) := by decide +kernel
theorem d_Mod_step_63 : decode prog_13_method_5_code 63 = .ok (.aload_n 0, 1) := by decide +kernel
theorem d_Mod_step_64 : decode prog_13_method_5_code 64 = .ok (.getfield 3, 3) := by decide +kernel
theorem d_Mod_step_67 : decode prog_13_method_5_code 67 = .ok (.putfield 9, 3) := by decide +kernel
theorem d_Mod_step_70 : decode prog_13_method_5_code 70 = .ok (.aload_n 0, 1) := by decide +kernel
theorem d_Mod_step_71 : decode prog_13_method_5_code 71 = .ok (.getfield 9, 3) := by decide +kernel
theorem d_Mod_step_74 : decode prog_13_method_5_code 74 = .ok (.aload_n 0, 1) := by decide +kernel
theorem d_Mod_step_75 : decode prog_13_method_5_code 75 = .ok (.getfield 29, 3) := by decide +kernel
theorem d_Mod_step_78 : decode prog_13_method_5_code 78 = .ok (.if_icmp .ne 11, 3) := by decide +kernel
theorem d_Mod_step_81 : decode prog_13_method_5_code 81 = .ok (.aload_n 0, 1) := by decide +kernel
theorem d_Mod_step_82 : decode prog_13_method_5_code 82 = .ok (.iconst 0, 1) := by decide +kernel
theorem d_Mod_step_83 : decode prog_13_method_5_code 83 = .ok (.putfield 32, 3) := by decide +kernel
theorem d_Mod_step_86 : decode prog_13_method_5_code 86 = .ok (.goto 627, 3) := by decide +kernel
theorem d_Mod_step_713 : decode prog_13_method_5_code 713 = .ok (.aload_n 0, 1) := by decide +kernel
theorem d_Mod_step_714 : decode prog_13_method_5_code 714 = .ok (.aload_n 0, 1) := by decide +kernel
theorem d_Mod_step_715 : decode prog_13_method_5_code 715 = .ok (.getfield 3, 3) := by decide +kernel
theorem d_Mod_step_718 : decode prog_13_method_5_code 718 = .ok (.putfield 74, 3) := by decide +kernel
theorem d_Mod_step_721 : decode prog_13_method_5_code 721 = .ok (.return_, 1) := by decide +kernel
theorem d_Mod_step_89 : decode prog_13_method_5_code 89 = .ok (.aload_n 0, 1) := by decide +kernel
theorem d_Mod_step_90 : decode prog_13_method_5_code 90 = .ok (.getfield 22, 3) := by decide +kernel
theorem d_Mod_step_93 : decode prog_13_method_5_code 93 = .ok (.aload_n 0, 1) := by decide +kernel
theorem d_Mod_step_94 : decode prog_13_method_5_code 94 = .ok (.getfield 9, 3) := by decide +kernel
theorem d_Mod_step_97 : decode prog_13_method_5_code 97 = .ok (.baload, 1) := by decide +kernel
theorem d_Mod_step_98 : decode prog_13_method_5_code 98 = .ok (.invokestatic 35, 3) := by decide +kernel
theorem w_1810 : (Cond.methodLink "StowTongueModel" 35 ⟨"StowTongueModel", "isSmall", "(I)Z"⟩ : Cond) ∈ am_tbl := am_w 1810 (by decide +kernel) (by decide +kernel)
set_option maxRecDepth 100000 in
theorem w_1812 : (Cond.code ⟨"StowTongueModel", "isSmall", "(I)Z"⟩ prog_13_method_2_code 1 (some FieldType.boolean) : Cond) ∈ am_tbl := am_w 1812 rfl rfl
theorem l_Mod_35 : am_L "StowTongueModel" 35 1 m_Mod_isSmall := ⟨Or.inl w_1810, w_160, w_1812, ⟨by decide, by decide⟩, by decide +kernel, by decide⟩
theorem w_1811 : (Cond.static ⟨"StowTongueModel", "isSmall", "(I)Z"⟩ : Cond) ∈ am_tbl := am_w 1811 (by decide +kernel) (by decide +kernel)
theorem d_Mod_step_101 : decode prog_13_method_5_code 101 = .ok (.ifCond .eq 95, 3) := by decide +kernel
theorem d_Mod_step_196 : decode prog_13_method_5_code 196 = .ok (.aload_n 0, 1) := by decide +kernel
theorem d_Mod_step_197 : decode prog_13_method_5_code 197 = .ok (.getfield 22, 3) := by decide +kernel
theorem d_Mod_step_200 : decode prog_13_method_5_code 200 = .ok (.aload_n 0, 1) := by decide +kernel
theorem d_Mod_step_201 : decode prog_13_method_5_code 201 = .ok (.getfield 9, 3) := by decide +kernel
theorem d_Mod_step_204 : decode prog_13_method_5_code 204 = .ok (.baload, 1) := by decide +kernel
theorem d_Mod_step_205 : decode prog_13_method_5_code 205 = .ok (.invokestatic 39, 3) := by decide +kernel
theorem w_1813 : (Cond.methodLink "StowTongueModel" 39 ⟨"StowTongueModel", "isDigit", "(I)Z"⟩ : Cond) ∈ am_tbl := am_w 1813 (by decide +kernel) (by decide +kernel)
set_option maxRecDepth 100000 in
theorem w_1815 : (Cond.code ⟨"StowTongueModel", "isDigit", "(I)Z"⟩ prog_13_method_3_code 1 (some FieldType.boolean) : Cond) ∈ am_tbl := am_w 1815 rfl rfl
theorem l_Mod_39 : am_L "StowTongueModel" 39 1 m_Mod_isDigit := ⟨Or.inl w_1813, w_160, w_1815, ⟨by decide, by decide⟩, by decide +kernel, by decide⟩
theorem w_1814 : (Cond.static ⟨"StowTongueModel", "isDigit", "(I)Z"⟩ : Cond) ∈ am_tbl := am_w 1814 (by decide +kernel) (by decide +kernel)
theorem d_Mod_step_208 : decode prog_13_method_5_code 208 = .ok (.ifCond .eq 104, 3) := by decide +kernel
theorem d_Mod_step_312 : decode prog_13_method_5_code 312 = .ok (.aload_n 0, 1) := by decide +kernel
theorem d_Mod_step_313 : decode prog_13_method_5_code 313 = .ok (.getfield 22, 3) := by decide +kernel
theorem d_Mod_step_316 : decode prog_13_method_5_code 316 = .ok (.aload_n 0, 1) := by decide +kernel
theorem d_Mod_step_317 : decode prog_13_method_5_code 317 = .ok (.getfield 9, 3) := by decide +kernel
theorem d_Mod_step_320 : decode prog_13_method_5_code 320 = .ok (.baload, 1) := by decide +kernel
theorem d_Mod_step_321 : decode prog_13_method_5_code 321 = .ok (.bipush 34, 2) := by decide +kernel
theorem d_Mod_step_323 : decode prog_13_method_5_code 323 = .ok (.if_icmp .ne 151, 3) := by decide +kernel
theorem d_Mod_step_326 : decode prog_13_method_5_code 326 = .ok (.aload_n 0, 1) := by decide +kernel
theorem d_Mod_step_327 : decode prog_13_method_5_code 327 = .ok (.dup, 1) := by decide +kernel
theorem d_Mod_step_328 : decode prog_13_method_5_code 328 = .ok (.getfield 3, 3) := by decide +kernel
theorem d_Mod_step_331 : decode prog_13_method_5_code 331 = .ok (.iconst 1, 1) := by decide +kernel
theorem d_Mod_step_332 : decode prog_13_method_5_code 332 = .ok (.iadd, 1) := by decide +kernel
theorem d_Mod_step_333 : decode prog_13_method_5_code 333 = .ok (.putfield 3, 3) := by decide +kernel
theorem d_Mod_step_336 : decode prog_13_method_5_code 336 = .ok (.aload_n 0, 1) := by decide +kernel
theorem d_Mod_step_337 : decode prog_13_method_5_code 337 = .ok (.getfield 3, 3) := by decide +kernel
theorem d_Mod_step_340 : decode prog_13_method_5_code 340 = .ok (.aload_n 0, 1) := by decide +kernel
theorem d_Mod_step_341 : decode prog_13_method_5_code 341 = .ok (.getfield 29, 3) := by decide +kernel
theorem d_Mod_step_344 : decode prog_13_method_5_code 344 = .ok (.if_icmp .ge 52, 3) := by decide +kernel
theorem d_Mod_step_396 : decode prog_13_method_5_code 396 = .ok (.aload_n 0, 1) := by decide +kernel
theorem d_Mod_step_397 : decode prog_13_method_5_code 397 = .ok (.getfield 3, 3) := by decide +kernel
theorem d_Mod_step_400 : decode prog_13_method_5_code 400 = .ok (.aload_n 0, 1) := by decide +kernel
theorem d_Mod_step_401 : decode prog_13_method_5_code 401 = .ok (.getfield 29, 3) := by decide +kernel
theorem d_Mod_step_404 : decode prog_13_method_5_code 404 = .ok (.if_icmp .ge 21, 3) := by decide +kernel
theorem d_Mod_step_425 : decode prog_13_method_5_code 425 = .ok (.iconst 0, 1) := by decide +kernel
theorem d_Mod_step_426 : decode prog_13_method_5_code 426 = .ok (.istore_n 1, 1) := by decide +kernel
theorem d_Mod_step_427 : decode prog_13_method_5_code 427 = .ok (.aload_n 0, 1) := by decide +kernel
theorem d_Mod_step_428 : decode prog_13_method_5_code 428 = .ok (.iload_n 1, 1) := by decide +kernel
theorem d_Mod_step_429 : decode prog_13_method_5_code 429 = .ok (.ifCond .eq 23, 3) := by decide +kernel
theorem d_Mod_step_452 : decode prog_13_method_5_code 452 = .ok (.bipush 6, 2) := by decide +kernel
theorem d_Mod_step_454 : decode prog_13_method_5_code 454 = .ok (.putfield 32, 3) := by decide +kernel
theorem d_Mod_step_457 : decode prog_13_method_5_code 457 = .ok (.iload_n 1, 1) := by decide +kernel
theorem d_Mod_step_458 : decode prog_13_method_5_code 458 = .ok (.ifCond .eq 13, 3) := by decide +kernel
theorem d_Mod_step_471 : decode prog_13_method_5_code 471 = .ok (.goto 242, 3) := by decide +kernel
theorem d_Mod_step_461 : decode prog_13_method_5_code 461 = .ok (.aload_n 0, 1) := by decide +kernel
theorem d_Mod_step_462 : decode prog_13_method_5_code 462 = .ok (.dup, 1) := by decide +kernel
theorem d_Mod_step_463 : decode prog_13_method_5_code 463 = .ok (.getfield 3, 3) := by decide +kernel
theorem d_Mod_step_466 : decode prog_13_method_5_code 466 = .ok (.iconst 1, 1) := by decide +kernel
theorem d_Mod_step_467 : decode prog_13_method_5_code 467 = .ok (.iadd, 1) := by decide +kernel
theorem d_Mod_step_468 : decode prog_13_method_5_code 468 = .ok (.putfield 3, 3) := by decide +kernel
theorem d_Mod_step_432 : decode prog_13_method_5_code 432 = .ok (.aload_n 0, 1) := by decide +kernel
theorem d_Mod_step_433 : decode prog_13_method_5_code 433 = .ok (.getfield 3, 3) := by decide +kernel
theorem d_Mod_step_436 : decode prog_13_method_5_code 436 = .ok (.aload_n 0, 1) := by decide +kernel
theorem d_Mod_step_437 : decode prog_13_method_5_code 437 = .ok (.getfield 9, 3) := by decide +kernel
theorem d_Mod_step_440 : decode prog_13_method_5_code 440 = .ok (.isub, 1) := by decide +kernel
theorem d_Mod_step_441 : decode prog_13_method_5_code 441 = .ok (.iconst 1, 1) := by decide +kernel
theorem d_Mod_step_442 : decode prog_13_method_5_code 442 = .ok (.isub, 1) := by decide +kernel
theorem d_Mod_step_443 : decode prog_13_method_5_code 443 = .ok (.bipush 16, 2) := by decide +kernel
theorem d_Mod_step_445 : decode prog_13_method_5_code 445 = .ok (.if_icmp .gt 7, 3) := by decide +kernel
theorem d_Mod_step_448 : decode prog_13_method_5_code 448 = .ok (.iconst 4, 1) := by decide +kernel
theorem d_Mod_step_449 : decode prog_13_method_5_code 449 = .ok (.goto 5, 3) := by decide +kernel
theorem d_Mod_step_407 : decode prog_13_method_5_code 407 = .ok (.aload_n 0, 1) := by decide +kernel
theorem d_Mod_step_408 : decode prog_13_method_5_code 408 = .ok (.getfield 22, 3) := by decide +kernel
theorem d_Mod_step_411 : decode prog_13_method_5_code 411 = .ok (.aload_n 0, 1) := by decide +kernel
theorem d_Mod_step_412 : decode prog_13_method_5_code 412 = .ok (.getfield 3, 3) := by decide +kernel
theorem d_Mod_step_415 : decode prog_13_method_5_code 415 = .ok (.baload, 1) := by decide +kernel
theorem d_Mod_step_416 : decode prog_13_method_5_code 416 = .ok (.bipush 34, 2) := by decide +kernel
theorem d_Mod_step_418 : decode prog_13_method_5_code 418 = .ok (.if_icmp .ne 7, 3) := by decide +kernel
theorem d_Mod_step_421 : decode prog_13_method_5_code 421 = .ok (.iconst 1, 1) := by decide +kernel
theorem d_Mod_step_422 : decode prog_13_method_5_code 422 = .ok (.goto 4, 3) := by decide +kernel
theorem d_Mod_step_347 : decode prog_13_method_5_code 347 = .ok (.aload_n 0, 1) := by decide +kernel
theorem d_Mod_step_348 : decode prog_13_method_5_code 348 = .ok (.getfield 22, 3) := by decide +kernel
theorem d_Mod_step_351 : decode prog_13_method_5_code 351 = .ok (.aload_n 0, 1) := by decide +kernel
theorem d_Mod_step_352 : decode prog_13_method_5_code 352 = .ok (.getfield 3, 3) := by decide +kernel
theorem d_Mod_step_355 : decode prog_13_method_5_code 355 = .ok (.baload, 1) := by decide +kernel
theorem d_Mod_step_356 : decode prog_13_method_5_code 356 = .ok (.bipush 34, 2) := by decide +kernel
theorem d_Mod_step_358 : decode prog_13_method_5_code 358 = .ok (.if_icmp .eq 38, 3) := by decide +kernel
theorem d_Mod_step_361 : decode prog_13_method_5_code 361 = .ok (.aload_n 0, 1) := by decide +kernel
theorem d_Mod_step_362 : decode prog_13_method_5_code 362 = .ok (.getfield 22, 3) := by decide +kernel
theorem d_Mod_step_365 : decode prog_13_method_5_code 365 = .ok (.aload_n 0, 1) := by decide +kernel
theorem d_Mod_step_366 : decode prog_13_method_5_code 366 = .ok (.getfield 3, 3) := by decide +kernel
theorem d_Mod_step_369 : decode prog_13_method_5_code 369 = .ok (.baload, 1) := by decide +kernel
theorem d_Mod_step_370 : decode prog_13_method_5_code 370 = .ok (.i2l, 1) := by decide +kernel
theorem d_Mod_step_371 : decode prog_13_method_5_code 371 = .ok (.ldc2_w 66, 3) := by decide +kernel
theorem w_1828 : (Cond.constantLong "StowTongueModel" 66 32 : Cond) ∈ am_tbl := am_w 1828 (by decide +kernel) (by decide +kernel)
theorem d_Mod_step_374 : decode prog_13_method_5_code 374 = .ok (.ldc2_w 68, 3) := by decide +kernel
theorem w_1829 : (Cond.constantLong "StowTongueModel" 68 126 : Cond) ∈ am_tbl := am_w 1829 (by decide +kernel) (by decide +kernel)
theorem d_Mod_step_377 : decode prog_13_method_5_code 377 = .ok (.invokestatic 70, 3) := by decide +kernel
theorem d_Mod_step_380 : decode prog_13_method_5_code 380 = .ok (.ifCond .eq 16, 3) := by decide +kernel
theorem d_Mod_step_383 : decode prog_13_method_5_code 383 = .ok (.aload_n 0, 1) := by decide +kernel
theorem d_Mod_step_384 : decode prog_13_method_5_code 384 = .ok (.dup, 1) := by decide +kernel
theorem d_Mod_step_385 : decode prog_13_method_5_code 385 = .ok (.getfield 3, 3) := by decide +kernel
theorem d_Mod_step_388 : decode prog_13_method_5_code 388 = .ok (.iconst 1, 1) := by decide +kernel
theorem d_Mod_step_389 : decode prog_13_method_5_code 389 = .ok (.iadd, 1) := by decide +kernel
theorem d_Mod_step_390 : decode prog_13_method_5_code 390 = .ok (.putfield 3, 3) := by decide +kernel
theorem d_Mod_step_393 : decode prog_13_method_5_code 393 = .ok (.goto (-57), 3) := by decide +kernel
theorem d_Mod_step_474 : decode prog_13_method_5_code 474 = .ok (.aload_n 0, 1) := by decide +kernel
theorem d_Mod_step_475 : decode prog_13_method_5_code 475 = .ok (.getfield 22, 3) := by decide +kernel
theorem d_Mod_step_478 : decode prog_13_method_5_code 478 = .ok (.aload_n 0, 1) := by decide +kernel
theorem d_Mod_step_479 : decode prog_13_method_5_code 479 = .ok (.getfield 3, 3) := by decide +kernel
theorem d_Mod_step_482 : decode prog_13_method_5_code 482 = .ok (.baload, 1) := by decide +kernel
theorem d_Mod_step_483 : decode prog_13_method_5_code 483 = .ok (.istore_n 1, 1) := by decide +kernel
theorem d_Mod_step_484 : decode prog_13_method_5_code 484 = .ok (.aload_n 0, 1) := by decide +kernel
theorem d_Mod_step_485 : decode prog_13_method_5_code 485 = .ok (.getfield 3, 3) := by decide +kernel
theorem d_Mod_step_488 : decode prog_13_method_5_code 488 = .ok (.iconst 1, 1) := by decide +kernel
theorem d_Mod_step_489 : decode prog_13_method_5_code 489 = .ok (.iadd, 1) := by decide +kernel
theorem d_Mod_step_490 : decode prog_13_method_5_code 490 = .ok (.aload_n 0, 1) := by decide +kernel
theorem d_Mod_step_491 : decode prog_13_method_5_code 491 = .ok (.getfield 29, 3) := by decide +kernel
theorem d_Mod_step_494 : decode prog_13_method_5_code 494 = .ok (.if_icmp .ge 17, 3) := by decide +kernel
theorem d_Mod_step_511 : decode prog_13_method_5_code 511 = .ok (.iconst 0, 1) := by decide +kernel
theorem d_Mod_step_512 : decode prog_13_method_5_code 512 = .ok (.istore_n 2, 1) := by decide +kernel
theorem d_Mod_step_513 : decode prog_13_method_5_code 513 = .ok (.iload_n 1, 1) := by decide +kernel
theorem d_Mod_step_514 : decode prog_13_method_5_code 514 = .ok (.bipush 123, 2) := by decide +kernel
theorem d_Mod_step_516 : decode prog_13_method_5_code 516 = .ok (.if_icmp .eq 105, 3) := by decide +kernel
theorem d_Mod_step_621 : decode prog_13_method_5_code 621 = .ok (.iconst 1, 1) := by decide +kernel
theorem d_Mod_step_622 : decode prog_13_method_5_code 622 = .ok (.goto 4, 3) := by decide +kernel
theorem d_Mod_step_626 : decode prog_13_method_5_code 626 = .ok (.istore_n 3, 1) := by decide +kernel
theorem d_Mod_step_627 : decode prog_13_method_5_code 627 = .ok (.iload_n 2, 1) := by decide +kernel
theorem d_Mod_step_628 : decode prog_13_method_5_code 628 = .ok (.bipush 61, 2) := by decide +kernel
theorem d_Mod_step_630 : decode prog_13_method_5_code 630 = .ok (.if_icmp .ne 21, 3) := by decide +kernel
theorem d_Mod_step_633 : decode prog_13_method_5_code 633 = .ok (.iload_n 1, 1) := by decide +kernel
theorem d_Mod_step_634 : decode prog_13_method_5_code 634 = .ok (.bipush 61, 2) := by decide +kernel
theorem d_Mod_step_636 : decode prog_13_method_5_code 636 = .ok (.if_icmp .eq 32, 3) := by decide +kernel
theorem d_Mod_step_668 : decode prog_13_method_5_code 668 = .ok (.iconst 1, 1) := by decide +kernel
theorem d_Mod_step_669 : decode prog_13_method_5_code 669 = .ok (.goto 4, 3) := by decide +kernel
theorem d_Mod_step_673 : decode prog_13_method_5_code 673 = .ok (.istore 4, 2) := by decide +kernel
theorem d_Mod_step_675 : decode prog_13_method_5_code 675 = .ok (.aload_n 0, 1) := by decide +kernel
theorem d_Mod_step_676 : decode prog_13_method_5_code 676 = .ok (.iload_n 3, 1) := by decide +kernel
theorem d_Mod_step_677 : decode prog_13_method_5_code 677 = .ok (.ifCond .ne 8, 3) := by decide +kernel
theorem d_Mod_step_680 : decode prog_13_method_5_code 680 = .ok (.iload 4, 2) := by decide +kernel
theorem d_Mod_step_682 : decode prog_13_method_5_code 682 = .ok (.ifCond .eq 7, 3) := by decide +kernel
theorem d_Mod_step_689 : decode prog_13_method_5_code 689 = .ok (.bipush 6, 2) := by decide +kernel
theorem d_Mod_step_691 : decode prog_13_method_5_code 691 = .ok (.putfield 32, 3) := by decide +kernel
theorem d_Mod_step_694 : decode prog_13_method_5_code 694 = .ok (.aload_n 0, 1) := by decide +kernel
theorem d_Mod_step_695 : decode prog_13_method_5_code 695 = .ok (.dup, 1) := by decide +kernel
theorem d_Mod_step_696 : decode prog_13_method_5_code 696 = .ok (.getfield 3, 3) := by decide +kernel
theorem d_Mod_step_699 : decode prog_13_method_5_code 699 = .ok (.iload 4, 2) := by decide +kernel
theorem d_Mod_step_701 : decode prog_13_method_5_code 701 = .ok (.ifCond .eq 7, 3) := by decide +kernel
theorem d_Mod_step_708 : decode prog_13_method_5_code 708 = .ok (.iconst 1, 1) := by decide +kernel
theorem d_Mod_step_709 : decode prog_13_method_5_code 709 = .ok (.iadd, 1) := by decide +kernel
theorem d_Mod_step_710 : decode prog_13_method_5_code 710 = .ok (.putfield 3, 3) := by decide +kernel
theorem d_Mod_step_704 : decode prog_13_method_5_code 704 = .ok (.iconst 2, 1) := by decide +kernel
theorem d_Mod_step_705 : decode prog_13_method_5_code 705 = .ok (.goto 4, 3) := by decide +kernel
theorem d_Mod_step_685 : decode prog_13_method_5_code 685 = .ok (.iconst 5, 1) := by decide +kernel
theorem d_Mod_step_686 : decode prog_13_method_5_code 686 = .ok (.goto 5, 3) := by decide +kernel
theorem d_Mod_step_639 : decode prog_13_method_5_code 639 = .ok (.iload_n 1, 1) := by decide +kernel
theorem d_Mod_step_640 : decode prog_13_method_5_code 640 = .ok (.bipush 33, 2) := by decide +kernel
theorem d_Mod_step_642 : decode prog_13_method_5_code 642 = .ok (.if_icmp .eq 26, 3) := by decide +kernel
theorem d_Mod_step_645 : decode prog_13_method_5_code 645 = .ok (.iload_n 1, 1) := by decide +kernel
theorem d_Mod_step_646 : decode prog_13_method_5_code 646 = .ok (.bipush 60, 2) := by decide +kernel
theorem d_Mod_step_648 : decode prog_13_method_5_code 648 = .ok (.if_icmp .eq 20, 3) := by decide +kernel
theorem d_Mod_step_651 : decode prog_13_method_5_code 651 = .ok (.iload_n 2, 1) := by decide +kernel
theorem d_Mod_step_652 : decode prog_13_method_5_code 652 = .ok (.iload_n 1, 1) := by decide +kernel
theorem d_Mod_step_653 : decode prog_13_method_5_code 653 = .ok (.if_icmp .ne 19, 3) := by decide +kernel
theorem d_Mod_step_656 : decode prog_13_method_5_code 656 = .ok (.iload_n 1, 1) := by decide +kernel
theorem d_Mod_step_657 : decode prog_13_method_5_code 657 = .ok (.bipush 38, 2) := by decide +kernel
theorem d_Mod_step_659 : decode prog_13_method_5_code 659 = .ok (.if_icmp .eq 9, 3) := by decide +kernel
theorem d_Mod_step_662 : decode prog_13_method_5_code 662 = .ok (.iload_n 1, 1) := by decide +kernel
theorem d_Mod_step_663 : decode prog_13_method_5_code 663 = .ok (.bipush 124, 2) := by decide +kernel
theorem d_Mod_step_665 : decode prog_13_method_5_code 665 = .ok (.if_icmp .ne 7, 3) := by decide +kernel
theorem d_Mod_step_672 : decode prog_13_method_5_code 672 = .ok (.iconst 0, 1) := by decide +kernel
theorem d_Mod_step_519 : decode prog_13_method_5_code 519 = .ok (.iload_n 1, 1) := by decide +kernel
theorem d_Mod_step_520 : decode prog_13_method_5_code 520 = .ok (.bipush 125, 2) := by decide +kernel
theorem d_Mod_step_522 : decode prog_13_method_5_code 522 = .ok (.if_icmp .eq 99, 3) := by decide +kernel
theorem d_Mod_step_525 : decode prog_13_method_5_code 525 = .ok (.iload_n 1, 1) := by decide +kernel
theorem d_Mod_step_526 : decode prog_13_method_5_code 526 = .ok (.bipush 40, 2) := by decide +kernel
theorem d_Mod_step_528 : decode prog_13_method_5_code 528 = .ok (.if_icmp .eq 93, 3) := by decide +kernel
theorem d_Mod_step_531 : decode prog_13_method_5_code 531 = .ok (.iload_n 1, 1) := by decide +kernel
theorem d_Mod_step_532 : decode prog_13_method_5_code 532 = .ok (.bipush 41, 2) := by decide +kernel
theorem d_Mod_step_534 : decode prog_13_method_5_code 534 = .ok (.if_icmp .eq 87, 3) := by decide +kernel
theorem d_Mod_step_537 : decode prog_13_method_5_code 537 = .ok (.iload_n 1, 1) := by decide +kernel
theorem d_Mod_step_538 : decode prog_13_method_5_code 538 = .ok (.bipush 91, 2) := by decide +kernel
theorem d_Mod_step_540 : decode prog_13_method_5_code 540 = .ok (.if_icmp .eq 81, 3) := by decide +kernel
theorem d_Mod_step_543 : decode prog_13_method_5_code 543 = .ok (.iload_n 1, 1) := by decide +kernel
theorem d_Mod_step_544 : decode prog_13_method_5_code 544 = .ok (.bipush 93, 2) := by decide +kernel
theorem d_Mod_step_546 : decode prog_13_method_5_code 546 = .ok (.if_icmp .eq 75, 3) := by decide +kernel
theorem d_Mod_step_549 : decode prog_13_method_5_code 549 = .ok (.iload_n 1, 1) := by decide +kernel
theorem d_Mod_step_550 : decode prog_13_method_5_code 550 = .ok (.bipush 44, 2) := by decide +kernel
theorem d_Mod_step_552 : decode prog_13_method_5_code 552 = .ok (.if_icmp .eq 69, 3) := by decide +kernel
theorem d_Mod_step_555 : decode prog_13_method_5_code 555 = .ok (.iload_n 1, 1) := by decide +kernel
theorem d_Mod_step_556 : decode prog_13_method_5_code 556 = .ok (.bipush 59, 2) := by decide +kernel
theorem d_Mod_step_558 : decode prog_13_method_5_code 558 = .ok (.if_icmp .eq 63, 3) := by decide +kernel
theorem d_Mod_step_561 : decode prog_13_method_5_code 561 = .ok (.iload_n 1, 1) := by decide +kernel
theorem d_Mod_step_562 : decode prog_13_method_5_code 562 = .ok (.bipush 58, 2) := by decide +kernel
theorem d_Mod_step_564 : decode prog_13_method_5_code 564 = .ok (.if_icmp .eq 57, 3) := by decide +kernel
theorem d_Mod_step_567 : decode prog_13_method_5_code 567 = .ok (.iload_n 1, 1) := by decide +kernel
theorem d_Mod_step_568 : decode prog_13_method_5_code 568 = .ok (.bipush 46, 2) := by decide +kernel
theorem d_Mod_step_570 : decode prog_13_method_5_code 570 = .ok (.if_icmp .eq 51, 3) := by decide +kernel
theorem d_Mod_step_573 : decode prog_13_method_5_code 573 = .ok (.iload_n 1, 1) := by decide +kernel
theorem d_Mod_step_574 : decode prog_13_method_5_code 574 = .ok (.bipush 61, 2) := by decide +kernel
theorem d_Mod_step_576 : decode prog_13_method_5_code 576 = .ok (.if_icmp .eq 45, 3) := by decide +kernel
theorem d_Mod_step_579 : decode prog_13_method_5_code 579 = .ok (.iload_n 1, 1) := by decide +kernel
theorem d_Mod_step_580 : decode prog_13_method_5_code 580 = .ok (.bipush 43, 2) := by decide +kernel
theorem d_Mod_step_582 : decode prog_13_method_5_code 582 = .ok (.if_icmp .eq 39, 3) := by decide +kernel
theorem d_Mod_step_585 : decode prog_13_method_5_code 585 = .ok (.iload_n 1, 1) := by decide +kernel
theorem d_Mod_step_586 : decode prog_13_method_5_code 586 = .ok (.bipush 45, 2) := by decide +kernel
theorem d_Mod_step_588 : decode prog_13_method_5_code 588 = .ok (.if_icmp .eq 33, 3) := by decide +kernel
theorem d_Mod_step_591 : decode prog_13_method_5_code 591 = .ok (.iload_n 1, 1) := by decide +kernel
theorem d_Mod_step_592 : decode prog_13_method_5_code 592 = .ok (.bipush 42, 2) := by decide +kernel
theorem d_Mod_step_594 : decode prog_13_method_5_code 594 = .ok (.if_icmp .eq 27, 3) := by decide +kernel
theorem d_Mod_step_597 : decode prog_13_method_5_code 597 = .ok (.iload_n 1, 1) := by decide +kernel
theorem d_Mod_step_598 : decode prog_13_method_5_code 598 = .ok (.bipush 47, 2) := by decide +kernel
theorem d_Mod_step_600 : decode prog_13_method_5_code 600 = .ok (.if_icmp .eq 21, 3) := by decide +kernel
theorem d_Mod_step_603 : decode prog_13_method_5_code 603 = .ok (.iload_n 1, 1) := by decide +kernel
theorem d_Mod_step_604 : decode prog_13_method_5_code 604 = .ok (.bipush 37, 2) := by decide +kernel
theorem d_Mod_step_606 : decode prog_13_method_5_code 606 = .ok (.if_icmp .eq 15, 3) := by decide +kernel
theorem d_Mod_step_609 : decode prog_13_method_5_code 609 = .ok (.iload_n 1, 1) := by decide +kernel
theorem d_Mod_step_610 : decode prog_13_method_5_code 610 = .ok (.bipush 60, 2) := by decide +kernel
theorem d_Mod_step_612 : decode prog_13_method_5_code 612 = .ok (.if_icmp .eq 9, 3) := by decide +kernel
theorem d_Mod_step_615 : decode prog_13_method_5_code 615 = .ok (.iload_n 1, 1) := by decide +kernel
theorem d_Mod_step_616 : decode prog_13_method_5_code 616 = .ok (.bipush 33, 2) := by decide +kernel
theorem d_Mod_step_618 : decode prog_13_method_5_code 618 = .ok (.if_icmp .ne 7, 3) := by decide +kernel
theorem d_Mod_step_625 : decode prog_13_method_5_code 625 = .ok (.iconst 0, 1) := by decide +kernel
theorem d_Mod_step_497 : decode prog_13_method_5_code 497 = .ok (.aload_n 0, 1) := by decide +kernel
theorem d_Mod_step_498 : decode prog_13_method_5_code 498 = .ok (.getfield 22, 3) := by decide +kernel
theorem d_Mod_step_501 : decode prog_13_method_5_code 501 = .ok (.aload_n 0, 1) := by decide +kernel
theorem d_Mod_step_502 : decode prog_13_method_5_code 502 = .ok (.getfield 3, 3) := by decide +kernel
theorem d_Mod_step_505 : decode prog_13_method_5_code 505 = .ok (.iconst 1, 1) := by decide +kernel
theorem d_Mod_step_506 : decode prog_13_method_5_code 506 = .ok (.iadd, 1) := by decide +kernel
theorem d_Mod_step_507 : decode prog_13_method_5_code 507 = .ok (.baload, 1) := by decide +kernel
theorem d_Mod_step_508 : decode prog_13_method_5_code 508 = .ok (.goto 4, 3) := by decide +kernel
theorem d_Mod_step_211 : decode prog_13_method_5_code 211 = .ok (.aload_n 0, 1) := by decide +kernel
theorem d_Mod_step_212 : decode prog_13_method_5_code 212 = .ok (.lconst 0, 1) := by decide +kernel
theorem d_Mod_step_213 : decode prog_13_method_5_code 213 = .ok (.putfield 46, 3) := by decide +kernel
theorem w_1633 : (Cond.fieldLink "StowTongueModel" 46 "StowTongueModel" "number" "J" : Cond) ∈ am_tbl := am_w 1633 (by decide +kernel) (by decide +kernel)
theorem f_Mod_46 : am_F "StowTongueModel" 46 14 11 := ⟨_, rfl, cl_14, by decide, Or.inl w_1633⟩
theorem d_Mod_step_216 : decode prog_13_method_5_code 216 = .ok (.aload_n 0, 1) := by decide +kernel
theorem d_Mod_step_217 : decode prog_13_method_5_code 217 = .ok (.getfield 3, 3) := by decide +kernel
theorem d_Mod_step_220 : decode prog_13_method_5_code 220 = .ok (.aload_n 0, 1) := by decide +kernel
theorem d_Mod_step_221 : decode prog_13_method_5_code 221 = .ok (.getfield 29, 3) := by decide +kernel
theorem d_Mod_step_224 : decode prog_13_method_5_code 224 = .ok (.if_icmp .ge 64, 3) := by decide +kernel
theorem d_Mod_step_288 : decode prog_13_method_5_code 288 = .ok (.aload_n 0, 1) := by decide +kernel
theorem d_Mod_step_289 : decode prog_13_method_5_code 289 = .ok (.aload_n 0, 1) := by decide +kernel
theorem d_Mod_step_290 : decode prog_13_method_5_code 290 = .ok (.getfield 46, 3) := by decide +kernel
theorem d_Mod_step_293 : decode prog_13_method_5_code 293 = .ok (.ldc2_w 64, 3) := by decide +kernel
theorem w_1827 : (Cond.constantLong "StowTongueModel" 64 2147483647 : Cond) ∈ am_tbl := am_w 1827 (by decide +kernel) (by decide +kernel)
theorem d_Mod_step_296 : decode prog_13_method_5_code 296 = .ok (.lcmp, 1) := by decide +kernel
theorem d_Mod_step_297 : decode prog_13_method_5_code 297 = .ok (.ifCond .gt 7, 3) := by decide +kernel
theorem d_Mod_step_304 : decode prog_13_method_5_code 304 = .ok (.bipush 6, 2) := by decide +kernel
theorem d_Mod_step_306 : decode prog_13_method_5_code 306 = .ok (.putfield 32, 3) := by decide +kernel
theorem d_Mod_step_309 : decode prog_13_method_5_code 309 = .ok (.goto 404, 3) := by decide +kernel
theorem d_Mod_step_300 : decode prog_13_method_5_code 300 = .ok (.iconst 3, 1) := by decide +kernel
theorem d_Mod_step_301 : decode prog_13_method_5_code 301 = .ok (.goto 5, 3) := by decide +kernel
theorem d_Mod_step_227 : decode prog_13_method_5_code 227 = .ok (.aload_n 0, 1) := by decide +kernel
theorem d_Mod_step_228 : decode prog_13_method_5_code 228 = .ok (.getfield 22, 3) := by decide +kernel
theorem d_Mod_step_231 : decode prog_13_method_5_code 231 = .ok (.aload_n 0, 1) := by decide +kernel
theorem d_Mod_step_232 : decode prog_13_method_5_code 232 = .ok (.getfield 3, 3) := by decide +kernel
theorem d_Mod_step_235 : decode prog_13_method_5_code 235 = .ok (.baload, 1) := by decide +kernel
theorem d_Mod_step_236 : decode prog_13_method_5_code 236 = .ok (.invokestatic 39, 3) := by decide +kernel
theorem d_Mod_step_239 : decode prog_13_method_5_code 239 = .ok (.ifCond .eq 49, 3) := by decide +kernel
theorem d_Mod_step_242 : decode prog_13_method_5_code 242 = .ok (.aload_n 0, 1) := by decide +kernel
theorem d_Mod_step_243 : decode prog_13_method_5_code 243 = .ok (.ldc2_w 50, 3) := by decide +kernel
theorem d_Mod_step_246 : decode prog_13_method_5_code 246 = .ok (.ldc2_w 52, 3) := by decide +kernel
theorem w_1824 : (Cond.constantLong "StowTongueModel" 52 10 : Cond) ∈ am_tbl := am_w 1824 (by decide +kernel) (by decide +kernel)
theorem d_Mod_step_249 : decode prog_13_method_5_code 249 = .ok (.aload_n 0, 1) := by decide +kernel
theorem d_Mod_step_250 : decode prog_13_method_5_code 250 = .ok (.getfield 46, 3) := by decide +kernel
theorem d_Mod_step_253 : decode prog_13_method_5_code 253 = .ok (.lmul, 1) := by decide +kernel
theorem d_Mod_step_254 : decode prog_13_method_5_code 254 = .ok (.aload_n 0, 1) := by decide +kernel
theorem d_Mod_step_255 : decode prog_13_method_5_code 255 = .ok (.getfield 22, 3) := by decide +kernel
theorem d_Mod_step_258 : decode prog_13_method_5_code 258 = .ok (.aload_n 0, 1) := by decide +kernel
theorem d_Mod_step_259 : decode prog_13_method_5_code 259 = .ok (.getfield 3, 3) := by decide +kernel
theorem d_Mod_step_262 : decode prog_13_method_5_code 262 = .ok (.baload, 1) := by decide +kernel
theorem d_Mod_step_263 : decode prog_13_method_5_code 263 = .ok (.i2l, 1) := by decide +kernel
theorem d_Mod_step_264 : decode prog_13_method_5_code 264 = .ok (.ladd, 1) := by decide +kernel
theorem d_Mod_step_265 : decode prog_13_method_5_code 265 = .ok (.ldc2_w 54, 3) := by decide +kernel
theorem w_1825 : (Cond.constantLong "StowTongueModel" 54 48 : Cond) ∈ am_tbl := am_w 1825 (by decide +kernel) (by decide +kernel)
theorem d_Mod_step_268 : decode prog_13_method_5_code 268 = .ok (.lsub, 1) := by decide +kernel
theorem d_Mod_step_269 : decode prog_13_method_5_code 269 = .ok (.invokestatic 56, 3) := by decide +kernel
theorem w_1826 : (Cond.methodLink "StowTongueModel" 56 ⟨"java/lang/Math", "min", "(JJ)J"⟩ : Cond) ∈ am_tbl := am_w 1826 (by decide +kernel) (by decide +kernel)
theorem d_Mod_step_272 : decode prog_13_method_5_code 272 = .ok (.putfield 46, 3) := by decide +kernel
theorem d_Mod_step_275 : decode prog_13_method_5_code 275 = .ok (.aload_n 0, 1) := by decide +kernel
theorem d_Mod_step_276 : decode prog_13_method_5_code 276 = .ok (.dup, 1) := by decide +kernel
theorem d_Mod_step_277 : decode prog_13_method_5_code 277 = .ok (.getfield 3, 3) := by decide +kernel
theorem d_Mod_step_280 : decode prog_13_method_5_code 280 = .ok (.iconst 1, 1) := by decide +kernel
theorem d_Mod_step_281 : decode prog_13_method_5_code 281 = .ok (.iadd, 1) := by decide +kernel
theorem d_Mod_step_282 : decode prog_13_method_5_code 282 = .ok (.putfield 3, 3) := by decide +kernel
theorem d_Mod_step_285 : decode prog_13_method_5_code 285 = .ok (.goto (-69), 3) := by decide +kernel
theorem d_Mod_step_104 : decode prog_13_method_5_code 104 = .ok (.aload_n 0, 1) := by decide +kernel
theorem d_Mod_step_105 : decode prog_13_method_5_code 105 = .ok (.getfield 3, 3) := by decide +kernel
theorem d_Mod_step_108 : decode prog_13_method_5_code 108 = .ok (.aload_n 0, 1) := by decide +kernel
theorem d_Mod_step_109 : decode prog_13_method_5_code 109 = .ok (.getfield 29, 3) := by decide +kernel
theorem d_Mod_step_112 : decode prog_13_method_5_code 112 = .ok (.if_icmp .ge 46, 3) := by decide +kernel
theorem d_Mod_step_158 : decode prog_13_method_5_code 158 = .ok (.aload_n 0, 1) := by decide +kernel
theorem d_Mod_step_159 : decode prog_13_method_5_code 159 = .ok (.aload_n 0, 1) := by decide +kernel
theorem d_Mod_step_160 : decode prog_13_method_5_code 160 = .ok (.invokevirtual 42, 3) := by decide +kernel
theorem w_1816 : (Cond.methodLink "StowTongueModel" 42 ⟨"StowTongueModel", "isReserved", "()Z"⟩ : Cond) ∈ am_tbl := am_w 1816 (by decide +kernel) (by decide +kernel)
set_option maxRecDepth 100000 in
theorem w_1819 : (Cond.code ⟨"StowTongueModel", "isReserved", "()Z"⟩ prog_13_method_4_code 6 (some FieldType.boolean) : Cond) ∈ am_tbl := am_w 1819 rfl rfl
theorem l_Mod_42 : am_L "StowTongueModel" 42 0 m_Mod_isReserved := ⟨Or.inl w_1816, w_160, w_1819, ⟨by decide, by decide⟩, by decide +kernel, by decide⟩
theorem w_1818 : (Cond.instanceMethod ⟨"StowTongueModel", "isReserved", "()Z"⟩ : Cond) ∈ am_tbl := am_w 1818 (by decide +kernel) (by decide +kernel)
theorem w_85 : (Cond.selects "StowTongueModel" ⟨"StowTongueModel", "isReserved", "()Z"⟩ ⟨"StowTongueModel", "isReserved", "()Z"⟩ : Cond) ∈ am_tbl := am_w 85 (by decide +kernel) (by decide +kernel)
theorem d_Mod_step_163 : decode prog_13_method_5_code 163 = .ok (.ifCond .eq 7, 3) := by decide +kernel
theorem d_Mod_step_170 : decode prog_13_method_5_code 170 = .ok (.aload_n 0, 1) := by decide +kernel
theorem d_Mod_step_171 : decode prog_13_method_5_code 171 = .ok (.getfield 3, 3) := by decide +kernel
theorem d_Mod_step_174 : decode prog_13_method_5_code 174 = .ok (.aload_n 0, 1) := by decide +kernel
theorem d_Mod_step_175 : decode prog_13_method_5_code 175 = .ok (.getfield 9, 3) := by decide +kernel
theorem d_Mod_step_178 : decode prog_13_method_5_code 178 = .ok (.isub, 1) := by decide +kernel
theorem d_Mod_step_179 : decode prog_13_method_5_code 179 = .ok (.bipush 8, 2) := by decide +kernel
theorem d_Mod_step_181 : decode prog_13_method_5_code 181 = .ok (.if_icmp .gt 7, 3) := by decide +kernel
theorem d_Mod_step_188 : decode prog_13_method_5_code 188 = .ok (.bipush 6, 2) := by decide +kernel
theorem d_Mod_step_190 : decode prog_13_method_5_code 190 = .ok (.putfield 32, 3) := by decide +kernel
theorem d_Mod_step_193 : decode prog_13_method_5_code 193 = .ok (.goto 520, 3) := by decide +kernel
theorem d_Mod_step_184 : decode prog_13_method_5_code 184 = .ok (.iconst 1, 1) := by decide +kernel
theorem d_Mod_step_185 : decode prog_13_method_5_code 185 = .ok (.goto 5, 3) := by decide +kernel
theorem d_Mod_step_166 : decode prog_13_method_5_code 166 = .ok (.iconst 2, 1) := by decide +kernel
theorem d_Mod_step_167 : decode prog_13_method_5_code 167 = .ok (.goto 23, 3) := by decide +kernel
theorem d_Mod_step_115 : decode prog_13_method_5_code 115 = .ok (.aload_n 0, 1) := by decide +kernel
theorem d_Mod_step_116 : decode prog_13_method_5_code 116 = .ok (.getfield 22, 3) := by decide +kernel
theorem d_Mod_step_119 : decode prog_13_method_5_code 119 = .ok (.aload_n 0, 1) := by decide +kernel
theorem d_Mod_step_120 : decode prog_13_method_5_code 120 = .ok (.getfield 3, 3) := by decide +kernel
theorem d_Mod_step_123 : decode prog_13_method_5_code 123 = .ok (.baload, 1) := by decide +kernel
theorem d_Mod_step_124 : decode prog_13_method_5_code 124 = .ok (.invokestatic 35, 3) := by decide +kernel
theorem d_Mod_step_127 : decode prog_13_method_5_code 127 = .ok (.ifCond .ne 18, 3) := by decide +kernel
theorem d_Mod_step_130 : decode prog_13_method_5_code 130 = .ok (.aload_n 0, 1) := by decide +kernel
theorem d_Mod_step_131 : decode prog_13_method_5_code 131 = .ok (.getfield 22, 3) := by decide +kernel
theorem d_Mod_step_134 : decode prog_13_method_5_code 134 = .ok (.aload_n 0, 1) := by decide +kernel
theorem d_Mod_step_135 : decode prog_13_method_5_code 135 = .ok (.getfield 3, 3) := by decide +kernel
theorem d_Mod_step_138 : decode prog_13_method_5_code 138 = .ok (.baload, 1) := by decide +kernel
theorem d_Mod_step_139 : decode prog_13_method_5_code 139 = .ok (.invokestatic 39, 3) := by decide +kernel
theorem d_Mod_step_142 : decode prog_13_method_5_code 142 = .ok (.ifCond .eq 16, 3) := by decide +kernel
theorem d_Mod_step_145 : decode prog_13_method_5_code 145 = .ok (.aload_n 0, 1) := by decide +kernel
theorem d_Mod_step_146 : decode prog_13_method_5_code 146 = .ok (.dup, 1) := by decide +kernel
theorem d_Mod_step_147 : decode prog_13_method_5_code 147 = .ok (.getfield 3, 3) := by decide +kernel
theorem d_Mod_step_150 : decode prog_13_method_5_code 150 = .ok (.iconst 1, 1) := by decide +kernel
theorem d_Mod_step_151 : decode prog_13_method_5_code 151 = .ok (.iadd, 1) := by decide +kernel
theorem d_Mod_step_152 : decode prog_13_method_5_code 152 = .ok (.putfield 3, 3) := by decide +kernel
theorem d_Mod_step_155 : decode prog_13_method_5_code 155 = .ok (.goto (-51), 3) := by decide +kernel
theorem d_Mod_step_21 : decode prog_13_method_5_code 21 = .ok (.aload_n 0, 1) := by decide +kernel
theorem d_Mod_step_22 : decode prog_13_method_5_code 22 = .ok (.getfield 22, 3) := by decide +kernel
theorem d_Mod_step_25 : decode prog_13_method_5_code 25 = .ok (.aload_n 0, 1) := by decide +kernel
theorem d_Mod_step_26 : decode prog_13_method_5_code 26 = .ok (.getfield 3, 3) := by decide +kernel
theorem d_Mod_step_29 : decode prog_13_method_5_code 29 = .ok (.baload, 1) := by decide +kernel
theorem d_Mod_step_30 : decode prog_13_method_5_code 30 = .ok (.bipush 32, 2) := by decide +kernel
theorem d_Mod_step_32 : decode prog_13_method_5_code 32 = .ok (.if_icmp .eq 17, 3) := by decide +kernel
theorem d_Mod_step_49 : decode prog_13_method_5_code 49 = .ok (.aload_n 0, 1) := by decide +kernel
theorem d_Mod_step_50 : decode prog_13_method_5_code 50 = .ok (.dup, 1) := by decide +kernel
theorem d_Mod_step_51 : decode prog_13_method_5_code 51 = .ok (.getfield 3, 3) := by decide +kernel
theorem d_Mod_step_54 : decode prog_13_method_5_code 54 = .ok (.iconst 1, 1) := by decide +kernel
theorem d_Mod_step_55 : decode prog_13_method_5_code 55 = .ok (.iadd, 1) := by decide +kernel
theorem d_Mod_step_56 : decode prog_13_method_5_code 56 = .ok (.putfield 3, 3) := by decide +kernel
theorem d_Mod_step_59 : decode prog_13_method_5_code 59 = .ok (.goto (-49), 3) := by decide +kernel
theorem d_Mod_step_35 : decode prog_13_method_5_code 35 = .ok (.aload_n 0, 1) := by decide +kernel
theorem d_Mod_step_36 : decode prog_13_method_5_code 36 = .ok (.getfield 22, 3) := by decide +kernel
theorem d_Mod_step_39 : decode prog_13_method_5_code 39 = .ok (.aload_n 0, 1) := by decide +kernel
theorem d_Mod_step_40 : decode prog_13_method_5_code 40 = .ok (.getfield 3, 3) := by decide +kernel
theorem d_Mod_step_43 : decode prog_13_method_5_code 43 = .ok (.baload, 1) := by decide +kernel
theorem d_Mod_step_44 : decode prog_13_method_5_code 44 = .ok (.bipush 10, 2) := by decide +kernel
theorem d_Mod_step_46 : decode prog_13_method_5_code 46 = .ok (.if_icmp .ne 16, 3) := by decide +kernel
