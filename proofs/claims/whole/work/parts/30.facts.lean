set_option maxRecDepth 100000 in
abbrev m_Mod_init : am_M := (⟨"StowTongueModel", "<init>", "()V"⟩, prog_13_method_35_code, 2, none)
set_option maxRecDepth 100000 in
theorem d_Mod_init_287 : decode prog_13_method_35_code 287 = .ok (.iload_n 1, 1) := by decide +kernel
set_option maxRecDepth 100000 in
theorem d_Mod_init_288 : decode prog_13_method_35_code 288 = .ok (.bipush 8, 2) := by decide +kernel
set_option maxRecDepth 100000 in
theorem d_Mod_init_290 : decode prog_13_method_35_code 290 = .ok (.if_icmp .ge 22, 3) := by decide +kernel
set_option maxRecDepth 100000 in
theorem d_Mod_init_293 : decode prog_13_method_35_code 293 = .ok (.aload_n 0, 1) := by decide +kernel
set_option maxRecDepth 100000 in
theorem d_Mod_init_294 : decode prog_13_method_35_code 294 = .ok (.getfield 359, 3) := by decide +kernel
set_option maxRecDepth 100000 in
theorem cl_14 : am_Cl ("StowTongueModel", TC14, 53) := ⟨am_in_r [1675, 1677, 1679, 1681, 1683, 1685, 1687, 1689, 1691, 1693, 1695, 1697, 1699, 1701, 1703, 1705, 1707, 1709, 1711, 1713, 1715, 1717, 1719, 1721, 1723, 1725, 1727, 1729, 1731, 1733, 1735, 1737, 1739, 1741, 1743, 1745, 1747, 1749, 1751, 1753, 1755, 1757, 1759, 1761, 1763, 1765, 1767, 1769, 1771, 1773, 1775, 1777, 1779] (by decide +kernel) (by decide +kernel), by decide +kernel, by decide +kernel⟩
set_option maxRecDepth 100000 in
theorem w_1655 : (Cond.fieldLink "StowTongueModel" 359 "StowTongueModel" "waiting" "[LStowTongueModel$State;" : Cond) ∈ am_tbl := am_w 1655 (by decide +kernel) (by decide +kernel)
set_option maxRecDepth 100000 in
theorem f_Mod_359 : am_F "StowTongueModel" 359 14 33 := ⟨_, rfl, cl_14, by decide, Or.inl w_1655⟩
set_option maxRecDepth 100000 in
theorem d_Mod_init_297 : decode prog_13_method_35_code 297 = .ok (.iload_n 1, 1) := by decide +kernel
set_option maxRecDepth 100000 in
theorem d_Mod_init_298 : decode prog_13_method_35_code 298 = .ok (.new 346, 3) := by decide +kernel
set_option maxRecDepth 100000 in
theorem w_1561 : (Cond.classLink "StowTongueModel" 346 "StowTongueModel$State" : Cond) ∈ am_tbl := am_w 1561 (by decide +kernel) (by decide +kernel)
set_option maxRecDepth 100000 in
theorem w_1562 : (Cond.instantiable "StowTongueModel$State" 12 : Cond) ∈ am_tbl := am_w 1562 (by decide +kernel) (by decide +kernel)
set_option maxRecDepth 100000 in
theorem w_163 : (Cond.initialized "StowTongueModel$State" : Cond) ∈ am_tbl := am_w 163 (by decide +kernel) (by decide +kernel)
set_option maxRecDepth 100000 in
theorem n_Mod_346 : am_N "StowTongueModel" 346 13 12 [.null, .null, .null, .null, .null, .null, .null, .null, .int 0, .int 0, .int 0, .int 0] := ⟨_, rfl, cl_13, rfl, by decide +kernel, w_1561, w_1562, w_163⟩
set_option maxRecDepth 100000 in
theorem d_Mod_init_301 : decode prog_13_method_35_code 301 = .ok (.dup, 1) := by decide +kernel
set_option maxRecDepth 100000 in
theorem d_Mod_init_302 : decode prog_13_method_35_code 302 = .ok (.invokespecial 348, 3) := by decide +kernel
set_option maxRecDepth 100000 in
theorem w_1565 : (Cond.code ⟨"StowTongueModel$State", "<init>", "()V"⟩ prog_15_method_1_code 1 none : Cond) ∈ am_tbl := am_w 1565 rfl rfl
set_option maxRecDepth 100000 in
theorem l_Mod_348 : am_L "StowTongueModel" 348 0 m_State_init := ⟨Or.inr ⟨"StowTongueModel", List.mem_of_getElem? (i := 1563) (by decide +kernel)⟩, w_163, w_1565, ⟨by decide, by decide⟩, by decide +kernel, by decide⟩
set_option maxRecDepth 100000 in
theorem w_1564 : (Cond.instanceMethod ⟨"StowTongueModel$State", "<init>", "()V"⟩ : Cond) ∈ am_tbl := am_w 1564 (by decide +kernel) (by decide +kernel)
set_option maxRecDepth 100000 in
theorem d_Mod_init_305 : decode prog_13_method_35_code 305 = .ok (.aastore, 1) := by decide +kernel
set_option maxRecDepth 100000 in
theorem d_Mod_init_306 : decode prog_13_method_35_code 306 = .ok (.iinc 1 1, 3) := by decide +kernel
set_option maxRecDepth 100000 in
theorem d_Mod_init_309 : decode prog_13_method_35_code 309 = .ok (.goto (-22), 3) := by decide +kernel
set_option maxRecDepth 100000 in
theorem d_Mod_init_314 : decode prog_13_method_35_code 314 = .ok (.iload_n 1, 1) := by decide +kernel
set_option maxRecDepth 100000 in
theorem d_Mod_init_315 : decode prog_13_method_35_code 315 = .ok (.aload_n 0, 1) := by decide +kernel
set_option maxRecDepth 100000 in
theorem d_Mod_init_316 : decode prog_13_method_35_code 316 = .ok (.getfield 363, 3) := by decide +kernel
set_option maxRecDepth 100000 in
theorem w_1658 : (Cond.fieldLink "StowTongueModel" 363 "StowTongueModel" "pool" "[LStowTongueModel$Code;" : Cond) ∈ am_tbl := am_w 1658 (by decide +kernel) (by decide +kernel)
set_option maxRecDepth 100000 in
theorem f_Mod_363 : am_F "StowTongueModel" 363 14 36 := ⟨_, rfl, cl_14, by decide, Or.inl w_1658⟩
set_option maxRecDepth 100000 in
theorem d_Mod_init_319 : decode prog_13_method_35_code 319 = .ok (.arraylength, 1) := by decide +kernel
set_option maxRecDepth 100000 in
theorem d_Mod_init_320 : decode prog_13_method_35_code 320 = .ok (.if_icmp .ge 25, 3) := by decide +kernel
set_option maxRecDepth 100000 in
theorem d_Mod_init_323 : decode prog_13_method_35_code 323 = .ok (.aload_n 0, 1) := by decide +kernel
set_option maxRecDepth 100000 in
theorem d_Mod_init_324 : decode prog_13_method_35_code 324 = .ok (.getfield 363, 3) := by decide +kernel
set_option maxRecDepth 100000 in
theorem d_Mod_init_327 : decode prog_13_method_35_code 327 = .ok (.iload_n 1, 1) := by decide +kernel
set_option maxRecDepth 100000 in
theorem d_Mod_init_328 : decode prog_13_method_35_code 328 = .ok (.new 96, 3) := by decide +kernel
set_option maxRecDepth 100000 in
theorem w_1489 : (Cond.classLink "StowTongueModel" 96 "StowTongueModel$Code" : Cond) ∈ am_tbl := am_w 1489 (by decide +kernel) (by decide +kernel)
set_option maxRecDepth 100000 in
theorem w_1490 : (Cond.instantiable "StowTongueModel$Code" 10 : Cond) ∈ am_tbl := am_w 1490 (by decide +kernel) (by decide +kernel)
set_option maxRecDepth 100000 in
theorem w_161 : (Cond.initialized "StowTongueModel$Code" : Cond) ∈ am_tbl := am_w 161 (by decide +kernel) (by decide +kernel)
set_option maxRecDepth 100000 in
theorem n_Mod_96 : am_N "StowTongueModel" 96 12 10 [.null, .null, .int 0, .int 0, .int 0, .int 0, .int 0, .int 0, .int 0, .int 0] := ⟨_, rfl, cl_12, rfl, by decide +kernel, w_1489, w_1490, w_161⟩
set_option maxRecDepth 100000 in
theorem d_Mod_init_331 : decode prog_13_method_35_code 331 = .ok (.dup, 1) := by decide +kernel
set_option maxRecDepth 100000 in
theorem d_Mod_init_332 : decode prog_13_method_35_code 332 = .ok (.sipush 400, 3) := by decide +kernel
set_option maxRecDepth 100000 in
theorem d_Mod_init_335 : decode prog_13_method_35_code 335 = .ok (.invokespecial 343, 3) := by decide +kernel
set_option maxRecDepth 100000 in
theorem w_1491 : (Cond.methodLink "StowTongueModel" 343 ⟨"StowTongueModel$Code", "<init>", "(I)V"⟩ : Cond) ∈ am_tbl := am_w 1491 (by decide +kernel) (by decide +kernel)
set_option maxRecDepth 100000 in
theorem w_1493 : (Cond.code ⟨"StowTongueModel$Code", "<init>", "(I)V"⟩ prog_14_method_1_code 2 none : Cond) ∈ am_tbl := am_w 1493 rfl rfl
set_option maxRecDepth 100000 in
theorem l_Mod_343 : am_L "StowTongueModel" 343 1 m_Code_init := ⟨Or.inl w_1491, w_161, w_1493, ⟨by decide, by decide⟩, by decide +kernel, by decide⟩
set_option maxRecDepth 100000 in
theorem w_1492 : (Cond.instanceMethod ⟨"StowTongueModel$Code", "<init>", "(I)V"⟩ : Cond) ∈ am_tbl := am_w 1492 (by decide +kernel) (by decide +kernel)
set_option maxRecDepth 100000 in
theorem d_Mod_init_338 : decode prog_13_method_35_code 338 = .ok (.aastore, 1) := by decide +kernel
set_option maxRecDepth 100000 in
theorem d_Mod_init_339 : decode prog_13_method_35_code 339 = .ok (.iinc 1 1, 3) := by decide +kernel
set_option maxRecDepth 100000 in
theorem d_Mod_init_342 : decode prog_13_method_35_code 342 = .ok (.goto (-28), 3) := by decide +kernel
set_option maxRecDepth 100000 in
theorem d_Mod_init_0 : decode prog_13_method_35_code 0 = .ok (.aload_n 0, 1) := by decide +kernel
set_option maxRecDepth 100000 in
theorem d_Mod_init_1 : decode prog_13_method_35_code 1 = .ok (.invokespecial 335, 3) := by decide +kernel
set_option maxRecDepth 100000 in
theorem w_1488 : (Cond.methodLink "StowTongueModel" 335 ⟨"java/lang/Object", "<init>", "()V"⟩ : Cond) ∈ am_tbl := am_w 1488 (by decide +kernel) (by decide +kernel)
set_option maxRecDepth 100000 in
theorem d_Mod_init_4 : decode prog_13_method_35_code 4 = .ok (.aload_n 0, 1) := by decide +kernel
set_option maxRecDepth 100000 in
theorem d_Mod_init_5 : decode prog_13_method_35_code 5 = .ok (.sipush 1500, 3) := by decide +kernel
set_option maxRecDepth 100000 in
theorem d_Mod_init_8 : decode prog_13_method_35_code 8 = .ok (.newarray .byte, 2) := by decide +kernel
set_option maxRecDepth 100000 in
theorem w_1622 : (Cond.fieldLink "StowTongueModel" 22 "StowTongueModel" "tape" "[B" : Cond) ∈ am_tbl := am_w 1622 (by decide +kernel) (by decide +kernel)
set_option maxRecDepth 100000 in
theorem f_Mod_22 : am_F "StowTongueModel" 22 14 0 := ⟨_, rfl, cl_14, by decide, Or.inl w_1622⟩
set_option maxRecDepth 100000 in
theorem d_Mod_init_10 : decode prog_13_method_35_code 10 = .ok (.putfield 22, 3) := by decide +kernel
set_option maxRecDepth 100000 in
theorem d_Mod_init_13 : decode prog_13_method_35_code 13 = .ok (.aload_n 0, 1) := by decide +kernel
set_option maxRecDepth 100000 in
theorem d_Mod_init_14 : decode prog_13_method_35_code 14 = .ok (.sipush 600, 3) := by decide +kernel
set_option maxRecDepth 100000 in
theorem d_Mod_init_17 : decode prog_13_method_35_code 17 = .ok (.newarray .byte, 2) := by decide +kernel
set_option maxRecDepth 100000 in
theorem w_1623 : (Cond.fieldLink "StowTongueModel" 340 "StowTongueModel" "out" "[B" : Cond) ∈ am_tbl := am_w 1623 (by decide +kernel) (by decide +kernel)
set_option maxRecDepth 100000 in
theorem f_Mod_340 : am_F "StowTongueModel" 340 14 1 := ⟨_, rfl, cl_14, by decide, Or.inl w_1623⟩
set_option maxRecDepth 100000 in
theorem d_Mod_init_19 : decode prog_13_method_35_code 19 = .ok (.putfield 340, 3) := by decide +kernel
set_option maxRecDepth 100000 in
theorem d_Mod_init_22 : decode prog_13_method_35_code 22 = .ok (.aload_n 0, 1) := by decide +kernel
set_option maxRecDepth 100000 in
theorem d_Mod_init_23 : decode prog_13_method_35_code 23 = .ok (.new 96, 3) := by decide +kernel
set_option maxRecDepth 100000 in
theorem d_Mod_init_26 : decode prog_13_method_35_code 26 = .ok (.dup, 1) := by decide +kernel
set_option maxRecDepth 100000 in
theorem d_Mod_init_27 : decode prog_13_method_35_code 27 = .ok (.sipush 1500, 3) := by decide +kernel
set_option maxRecDepth 100000 in
theorem d_Mod_init_30 : decode prog_13_method_35_code 30 = .ok (.invokespecial 343, 3) := by decide +kernel
set_option maxRecDepth 100000 in
theorem w_1634 : (Cond.fieldLink "StowTongueModel" 143 "StowTongueModel" "program" "LStowTongueModel$Code;" : Cond) ∈ am_tbl := am_w 1634 (by decide +kernel) (by decide +kernel)
set_option maxRecDepth 100000 in
theorem f_Mod_143 : am_F "StowTongueModel" 143 14 12 := ⟨_, rfl, cl_14, by decide, Or.inl w_1634⟩
set_option maxRecDepth 100000 in
theorem d_Mod_init_33 : decode prog_13_method_35_code 33 = .ok (.putfield 143, 3) := by decide +kernel
set_option maxRecDepth 100000 in
theorem d_Mod_init_36 : decode prog_13_method_35_code 36 = .ok (.aload_n 0, 1) := by decide +kernel
set_option maxRecDepth 100000 in
theorem d_Mod_init_37 : decode prog_13_method_35_code 37 = .ok (.sipush 200, 3) := by decide +kernel
set_option maxRecDepth 100000 in
theorem d_Mod_init_40 : decode prog_13_method_35_code 40 = .ok (.newarray .long, 2) := by decide +kernel
set_option maxRecDepth 100000 in
theorem w_1635 : (Cond.fieldLink "StowTongueModel" 161 "StowTongueModel" "toldName" "[J" : Cond) ∈ am_tbl := am_w 1635 (by decide +kernel) (by decide +kernel)
set_option maxRecDepth 100000 in
theorem f_Mod_161 : am_F "StowTongueModel" 161 14 13 := ⟨_, rfl, cl_14, by decide, Or.inl w_1635⟩
set_option maxRecDepth 100000 in
theorem d_Mod_init_42 : decode prog_13_method_35_code 42 = .ok (.putfield 161, 3) := by decide +kernel
set_option maxRecDepth 100000 in
theorem d_Mod_init_45 : decode prog_13_method_35_code 45 = .ok (.aload_n 0, 1) := by decide +kernel
set_option maxRecDepth 100000 in
theorem d_Mod_init_46 : decode prog_13_method_35_code 46 = .ok (.sipush 200, 3) := by decide +kernel
set_option maxRecDepth 100000 in
theorem d_Mod_init_49 : decode prog_13_method_35_code 49 = .ok (.newarray .int, 2) := by decide +kernel
set_option maxRecDepth 100000 in
theorem w_1636 : (Cond.fieldLink "StowTongueModel" 192 "StowTongueModel" "toldFrom" "[I" : Cond) ∈ am_tbl := am_w 1636 (by decide +kernel) (by decide +kernel)
set_option maxRecDepth 100000 in
theorem f_Mod_192 : am_F "StowTongueModel" 192 14 14 := ⟨_, rfl, cl_14, by decide, Or.inl w_1636⟩
set_option maxRecDepth 100000 in
theorem d_Mod_init_51 : decode prog_13_method_35_code 51 = .ok (.putfield 192, 3) := by decide +kernel
set_option maxRecDepth 100000 in
theorem d_Mod_init_54 : decode prog_13_method_35_code 54 = .ok (.aload_n 0, 1) := by decide +kernel
set_option maxRecDepth 100000 in
theorem d_Mod_init_55 : decode prog_13_method_35_code 55 = .ok (.sipush 200, 3) := by decide +kernel
set_option maxRecDepth 100000 in
theorem d_Mod_init_58 : decode prog_13_method_35_code 58 = .ok (.newarray .int, 2) := by decide +kernel
set_option maxRecDepth 100000 in
theorem w_1637 : (Cond.fieldLink "StowTongueModel" 195 "StowTongueModel" "toldValue" "[I" : Cond) ∈ am_tbl := am_w 1637 (by decide +kernel) (by decide +kernel)
set_option maxRecDepth 100000 in
theorem f_Mod_195 : am_F "StowTongueModel" 195 14 15 := ⟨_, rfl, cl_14, by decide, Or.inl w_1637⟩
set_option maxRecDepth 100000 in
theorem d_Mod_init_60 : decode prog_13_method_35_code 60 = .ok (.putfield 195, 3) := by decide +kernel
set_option maxRecDepth 100000 in
theorem d_Mod_init_63 : decode prog_13_method_35_code 63 = .ok (.aload_n 0, 1) := by decide +kernel
set_option maxRecDepth 100000 in
theorem d_Mod_init_64 : decode prog_13_method_35_code 64 = .ok (.sipush 200, 3) := by decide +kernel
set_option maxRecDepth 100000 in
theorem d_Mod_init_67 : decode prog_13_method_35_code 67 = .ok (.newarray .int, 2) := by decide +kernel
set_option maxRecDepth 100000 in
theorem w_1638 : (Cond.fieldLink "StowTongueModel" 201 "StowTongueModel" "toldEnd" "[I" : Cond) ∈ am_tbl := am_w 1638 (by decide +kernel) (by decide +kernel)
set_option maxRecDepth 100000 in
theorem f_Mod_201 : am_F "StowTongueModel" 201 14 16 := ⟨_, rfl, cl_14, by decide, Or.inl w_1638⟩
set_option maxRecDepth 100000 in
theorem d_Mod_init_69 : decode prog_13_method_35_code 69 = .ok (.putfield 201, 3) := by decide +kernel
set_option maxRecDepth 100000 in
theorem d_Mod_init_72 : decode prog_13_method_35_code 72 = .ok (.aload_n 0, 1) := by decide +kernel
set_option maxRecDepth 100000 in
theorem d_Mod_init_73 : decode prog_13_method_35_code 73 = .ok (.sipush 200, 3) := by decide +kernel
set_option maxRecDepth 100000 in
theorem d_Mod_init_76 : decode prog_13_method_35_code 76 = .ok (.newarray .int, 2) := by decide +kernel
set_option maxRecDepth 100000 in
theorem w_1639 : (Cond.fieldLink "StowTongueModel" 204 "StowTongueModel" "toldTokens" "[I" : Cond) ∈ am_tbl := am_w 1639 (by decide +kernel) (by decide +kernel)
set_option maxRecDepth 100000 in
theorem f_Mod_204 : am_F "StowTongueModel" 204 14 17 := ⟨_, rfl, cl_14, by decide, Or.inl w_1639⟩
set_option maxRecDepth 100000 in
theorem d_Mod_init_78 : decode prog_13_method_35_code 78 = .ok (.putfield 204, 3) := by decide +kernel
set_option maxRecDepth 100000 in
theorem d_Mod_init_81 : decode prog_13_method_35_code 81 = .ok (.aload_n 0, 1) := by decide +kernel
set_option maxRecDepth 100000 in
theorem d_Mod_init_82 : decode prog_13_method_35_code 82 = .ok (.sipush 200, 3) := by decide +kernel
set_option maxRecDepth 100000 in
theorem d_Mod_init_85 : decode prog_13_method_35_code 85 = .ok (.newarray .int, 2) := by decide +kernel
set_option maxRecDepth 100000 in
theorem w_1640 : (Cond.fieldLink "StowTongueModel" 189 "StowTongueModel" "toldParameters" "[I" : Cond) ∈ am_tbl := am_w 1640 (by decide +kernel) (by decide +kernel)
set_option maxRecDepth 100000 in
theorem f_Mod_189 : am_F "StowTongueModel" 189 14 18 := ⟨_, rfl, cl_14, by decide, Or.inl w_1640⟩
set_option maxRecDepth 100000 in
theorem d_Mod_init_87 : decode prog_13_method_35_code 87 = .ok (.putfield 189, 3) := by decide +kernel
set_option maxRecDepth 100000 in
theorem d_Mod_init_90 : decode prog_13_method_35_code 90 = .ok (.aload_n 0, 1) := by decide +kernel
set_option maxRecDepth 100000 in
theorem d_Mod_init_91 : decode prog_13_method_35_code 91 = .ok (.sipush 200, 3) := by decide +kernel
set_option maxRecDepth 100000 in
theorem d_Mod_init_94 : decode prog_13_method_35_code 94 = .ok (.newarray .int, 2) := by decide +kernel
set_option maxRecDepth 100000 in
theorem w_1641 : (Cond.fieldLink "StowTongueModel" 207 "StowTongueModel" "toldLocals" "[I" : Cond) ∈ am_tbl := am_w 1641 (by decide +kernel) (by decide +kernel)
set_option maxRecDepth 100000 in
theorem f_Mod_207 : am_F "StowTongueModel" 207 14 19 := ⟨_, rfl, cl_14, by decide, Or.inl w_1641⟩
set_option maxRecDepth 100000 in
theorem d_Mod_init_96 : decode prog_13_method_35_code 96 = .ok (.putfield 207, 3) := by decide +kernel
set_option maxRecDepth 100000 in
theorem d_Mod_init_99 : decode prog_13_method_35_code 99 = .ok (.aload_n 0, 1) := by decide +kernel
set_option maxRecDepth 100000 in
theorem d_Mod_init_100 : decode prog_13_method_35_code 100 = .ok (.new 96, 3) := by decide +kernel
set_option maxRecDepth 100000 in
theorem d_Mod_init_103 : decode prog_13_method_35_code 103 = .ok (.dup, 1) := by decide +kernel
set_option maxRecDepth 100000 in
theorem d_Mod_init_104 : decode prog_13_method_35_code 104 = .ok (.sipush 1500, 3) := by decide +kernel
set_option maxRecDepth 100000 in
theorem d_Mod_init_107 : decode prog_13_method_35_code 107 = .ok (.invokespecial 343, 3) := by decide +kernel
set_option maxRecDepth 100000 in
theorem w_1643 : (Cond.fieldLink "StowTongueModel" 149 "StowTongueModel" "all" "LStowTongueModel$Code;" : Cond) ∈ am_tbl := am_w 1643 (by decide +kernel) (by decide +kernel)
set_option maxRecDepth 100000 in
theorem f_Mod_149 : am_F "StowTongueModel" 149 14 21 := ⟨_, rfl, cl_14, by decide, Or.inl w_1643⟩
set_option maxRecDepth 100000 in
theorem d_Mod_init_110 : decode prog_13_method_35_code 110 = .ok (.putfield 149, 3) := by decide +kernel
set_option maxRecDepth 100000 in
theorem d_Mod_init_113 : decode prog_13_method_35_code 113 = .ok (.aload_n 0, 1) := by decide +kernel
set_option maxRecDepth 100000 in
theorem d_Mod_init_114 : decode prog_13_method_35_code 114 = .ok (.sipush 1500, 3) := by decide +kernel
set_option maxRecDepth 100000 in
theorem d_Mod_init_117 : decode prog_13_method_35_code 117 = .ok (.newarray .long, 2) := by decide +kernel
set_option maxRecDepth 100000 in
theorem w_1645 : (Cond.fieldLink "StowTongueModel" 126 "StowTongueModel" "local" "[J" : Cond) ∈ am_tbl := am_w 1645 (by decide +kernel) (by decide +kernel)
set_option maxRecDepth 100000 in
theorem f_Mod_126 : am_F "StowTongueModel" 126 14 23 := ⟨_, rfl, cl_14, by decide, Or.inl w_1645⟩
set_option maxRecDepth 100000 in
theorem d_Mod_init_119 : decode prog_13_method_35_code 119 = .ok (.putfield 126, 3) := by decide +kernel
set_option maxRecDepth 100000 in
theorem d_Mod_init_122 : decode prog_13_method_35_code 122 = .ok (.aload_n 0, 1) := by decide +kernel
set_option maxRecDepth 100000 in
theorem d_Mod_init_123 : decode prog_13_method_35_code 123 = .ok (.sipush 1500, 3) := by decide +kernel
set_option maxRecDepth 100000 in
theorem d_Mod_init_126 : decode prog_13_method_35_code 126 = .ok (.newarray .long, 2) := by decide +kernel
set_option maxRecDepth 100000 in
theorem w_1648 : (Cond.fieldLink "StowTongueModel" 168 "StowTongueModel" "own" "[J" : Cond) ∈ am_tbl := am_w 1648 (by decide +kernel) (by decide +kernel)
set_option maxRecDepth 100000 in
theorem f_Mod_168 : am_F "StowTongueModel" 168 14 26 := ⟨_, rfl, cl_14, by decide, Or.inl w_1648⟩
set_option maxRecDepth 100000 in
theorem d_Mod_init_128 : decode prog_13_method_35_code 128 = .ok (.putfield 168, 3) := by decide +kernel
set_option maxRecDepth 100000 in
theorem d_Mod_init_131 : decode prog_13_method_35_code 131 = .ok (.aload_n 0, 1) := by decide +kernel
set_option maxRecDepth 100000 in
theorem d_Mod_init_132 : decode prog_13_method_35_code 132 = .ok (.sipush 1500, 3) := by decide +kernel
set_option maxRecDepth 100000 in
theorem d_Mod_init_135 : decode prog_13_method_35_code 135 = .ok (.newarray .int, 2) := by decide +kernel
set_option maxRecDepth 100000 in
theorem w_1650 : (Cond.fieldLink "StowTongueModel" 330 "StowTongueModel" "pile" "[I" : Cond) ∈ am_tbl := am_w 1650 (by decide +kernel) (by decide +kernel)
set_option maxRecDepth 100000 in
theorem f_Mod_330 : am_F "StowTongueModel" 330 14 28 := ⟨_, rfl, cl_14, by decide, Or.inl w_1650⟩
set_option maxRecDepth 100000 in
theorem d_Mod_init_137 : decode prog_13_method_35_code 137 = .ok (.putfield 330, 3) := by decide +kernel
set_option maxRecDepth 100000 in
theorem d_Mod_init_140 : decode prog_13_method_35_code 140 = .ok (.aload_n 0, 1) := by decide +kernel
set_option maxRecDepth 100000 in
theorem d_Mod_init_141 : decode prog_13_method_35_code 141 = .ok (.new 346, 3) := by decide +kernel
set_option maxRecDepth 100000 in
theorem d_Mod_init_144 : decode prog_13_method_35_code 144 = .ok (.dup, 1) := by decide +kernel
set_option maxRecDepth 100000 in
theorem d_Mod_init_145 : decode prog_13_method_35_code 145 = .ok (.invokespecial 348, 3) := by decide +kernel
set_option maxRecDepth 100000 in
theorem w_1652 : (Cond.fieldLink "StowTongueModel" 349 "StowTongueModel" "now" "LStowTongueModel$State;" : Cond) ∈ am_tbl := am_w 1652 (by decide +kernel) (by decide +kernel)
set_option maxRecDepth 100000 in
theorem f_Mod_349 : am_F "StowTongueModel" 349 14 30 := ⟨_, rfl, cl_14, by decide, Or.inl w_1652⟩
set_option maxRecDepth 100000 in
theorem d_Mod_init_148 : decode prog_13_method_35_code 148 = .ok (.putfield 349, 3) := by decide +kernel
set_option maxRecDepth 100000 in
theorem d_Mod_init_151 : decode prog_13_method_35_code 151 = .ok (.aload_n 0, 1) := by decide +kernel
set_option maxRecDepth 100000 in
theorem d_Mod_init_152 : decode prog_13_method_35_code 152 = .ok (.new 346, 3) := by decide +kernel
set_option maxRecDepth 100000 in
theorem d_Mod_init_155 : decode prog_13_method_35_code 155 = .ok (.dup, 1) := by decide +kernel
set_option maxRecDepth 100000 in
theorem d_Mod_init_156 : decode prog_13_method_35_code 156 = .ok (.invokespecial 348, 3) := by decide +kernel
set_option maxRecDepth 100000 in
theorem w_1653 : (Cond.fieldLink "StowTongueModel" 353 "StowTongueModel" "work" "LStowTongueModel$State;" : Cond) ∈ am_tbl := am_w 1653 (by decide +kernel) (by decide +kernel)
set_option maxRecDepth 100000 in
theorem f_Mod_353 : am_F "StowTongueModel" 353 14 31 := ⟨_, rfl, cl_14, by decide, Or.inl w_1653⟩
set_option maxRecDepth 100000 in
theorem d_Mod_init_159 : decode prog_13_method_35_code 159 = .ok (.putfield 353, 3) := by decide +kernel
set_option maxRecDepth 100000 in
theorem d_Mod_init_162 : decode prog_13_method_35_code 162 = .ok (.aload_n 0, 1) := by decide +kernel
set_option maxRecDepth 100000 in
theorem d_Mod_init_163 : decode prog_13_method_35_code 163 = .ok (.new 346, 3) := by decide +kernel
set_option maxRecDepth 100000 in
theorem d_Mod_init_166 : decode prog_13_method_35_code 166 = .ok (.dup, 1) := by decide +kernel
set_option maxRecDepth 100000 in
theorem d_Mod_init_167 : decode prog_13_method_35_code 167 = .ok (.invokespecial 348, 3) := by decide +kernel
set_option maxRecDepth 100000 in
theorem w_1654 : (Cond.fieldLink "StowTongueModel" 356 "StowTongueModel" "safe" "LStowTongueModel$State;" : Cond) ∈ am_tbl := am_w 1654 (by decide +kernel) (by decide +kernel)
set_option maxRecDepth 100000 in
theorem f_Mod_356 : am_F "StowTongueModel" 356 14 32 := ⟨_, rfl, cl_14, by decide, Or.inl w_1654⟩
set_option maxRecDepth 100000 in
theorem d_Mod_init_170 : decode prog_13_method_35_code 170 = .ok (.putfield 356, 3) := by decide +kernel
set_option maxRecDepth 100000 in
theorem d_Mod_init_173 : decode prog_13_method_35_code 173 = .ok (.aload_n 0, 1) := by decide +kernel
set_option maxRecDepth 100000 in
theorem d_Mod_init_174 : decode prog_13_method_35_code 174 = .ok (.bipush 8, 2) := by decide +kernel
set_option maxRecDepth 100000 in
theorem d_Mod_init_176 : decode prog_13_method_35_code 176 = .ok (.anewarray 346, 3) := by decide +kernel
set_option maxRecDepth 100000 in
theorem x_1619 : (Cond.arrayOver (FieldType.object "StowTongueModel$State") : Cond) ∈ lw_tbl := List.mem_of_getElem? (i := 1619) (by decide +kernel)
set_option maxRecDepth 100000 in
theorem d_Mod_init_179 : decode prog_13_method_35_code 179 = .ok (.putfield 359, 3) := by decide +kernel
set_option maxRecDepth 100000 in
theorem d_Mod_init_182 : decode prog_13_method_35_code 182 = .ok (.aload_n 0, 1) := by decide +kernel
set_option maxRecDepth 100000 in
theorem d_Mod_init_183 : decode prog_13_method_35_code 183 = .ok (.sipush 130, 3) := by decide +kernel
set_option maxRecDepth 100000 in
theorem d_Mod_init_186 : decode prog_13_method_35_code 186 = .ok (.anewarray 96, 3) := by decide +kernel
set_option maxRecDepth 100000 in
theorem d_Mod_init_189 : decode prog_13_method_35_code 189 = .ok (.putfield 363, 3) := by decide +kernel
set_option maxRecDepth 100000 in
theorem d_Mod_init_192 : decode prog_13_method_35_code 192 = .ok (.aload_n 0, 1) := by decide +kernel
set_option maxRecDepth 100000 in
theorem d_Mod_init_193 : decode prog_13_method_35_code 193 = .ok (.new 115, 3) := by decide +kernel
set_option maxRecDepth 100000 in
theorem w_1620 : (Cond.classLink "StowTongueModel" 115 "StowTongueModel$Values" : Cond) ∈ am_tbl := am_w 1620 (by decide +kernel) (by decide +kernel)
set_option maxRecDepth 100000 in
theorem n_Mod_115 : am_N "StowTongueModel" 115 11 4 [.null, .null, .null, .null] := ⟨_, rfl, cl_11, rfl, by decide +kernel, w_1620, w_1496, w_162⟩
set_option maxRecDepth 100000 in
theorem d_Mod_init_196 : decode prog_13_method_35_code 196 = .ok (.dup, 1) := by decide +kernel
set_option maxRecDepth 100000 in
theorem d_Mod_init_197 : decode prog_13_method_35_code 197 = .ok (.sipush 8000, 3) := by decide +kernel
set_option maxRecDepth 100000 in
theorem d_Mod_init_200 : decode prog_13_method_35_code 200 = .ok (.invokespecial 367, 3) := by decide +kernel
set_option maxRecDepth 100000 in
theorem w_1621 : (Cond.methodLink "StowTongueModel" 367 ⟨"StowTongueModel$Values", "<init>", "(I)V"⟩ : Cond) ∈ am_tbl := am_w 1621 (by decide +kernel) (by decide +kernel)
set_option maxRecDepth 100000 in
theorem l_Mod_367 : am_L "StowTongueModel" 367 1 m_Vals_init := ⟨Or.inl w_1621, w_162, w_1499, ⟨by decide, by decide⟩, by decide +kernel, by decide⟩
set_option maxRecDepth 100000 in
theorem w_1659 : (Cond.fieldLink "StowTongueModel" 368 "StowTongueModel" "stack" "LStowTongueModel$Values;" : Cond) ∈ am_tbl := am_w 1659 (by decide +kernel) (by decide +kernel)
set_option maxRecDepth 100000 in
theorem f_Mod_368 : am_F "StowTongueModel" 368 14 37 := ⟨_, rfl, cl_14, by decide, Or.inl w_1659⟩
set_option maxRecDepth 100000 in
theorem d_Mod_init_203 : decode prog_13_method_35_code 203 = .ok (.putfield 368, 3) := by decide +kernel
set_option maxRecDepth 100000 in
theorem d_Mod_init_206 : decode prog_13_method_35_code 206 = .ok (.aload_n 0, 1) := by decide +kernel
set_option maxRecDepth 100000 in
theorem d_Mod_init_207 : decode prog_13_method_35_code 207 = .ok (.new 115, 3) := by decide +kernel
set_option maxRecDepth 100000 in
theorem d_Mod_init_210 : decode prog_13_method_35_code 210 = .ok (.dup, 1) := by decide +kernel
set_option maxRecDepth 100000 in
theorem d_Mod_init_211 : decode prog_13_method_35_code 211 = .ok (.sipush 4000, 3) := by decide +kernel
set_option maxRecDepth 100000 in
theorem d_Mod_init_214 : decode prog_13_method_35_code 214 = .ok (.invokespecial 367, 3) := by decide +kernel
set_option maxRecDepth 100000 in
theorem w_1660 : (Cond.fieldLink "StowTongueModel" 371 "StowTongueModel" "place" "LStowTongueModel$Values;" : Cond) ∈ am_tbl := am_w 1660 (by decide +kernel) (by decide +kernel)
set_option maxRecDepth 100000 in
theorem f_Mod_371 : am_F "StowTongueModel" 371 14 38 := ⟨_, rfl, cl_14, by decide, Or.inl w_1660⟩
set_option maxRecDepth 100000 in
theorem d_Mod_init_217 : decode prog_13_method_35_code 217 = .ok (.putfield 371, 3) := by decide +kernel
set_option maxRecDepth 100000 in
theorem d_Mod_init_220 : decode prog_13_method_35_code 220 = .ok (.aload_n 0, 1) := by decide +kernel
set_option maxRecDepth 100000 in
theorem d_Mod_init_221 : decode prog_13_method_35_code 221 = .ok (.new 115, 3) := by decide +kernel
set_option maxRecDepth 100000 in
theorem d_Mod_init_224 : decode prog_13_method_35_code 224 = .ok (.dup, 1) := by decide +kernel
set_option maxRecDepth 100000 in
theorem d_Mod_init_225 : decode prog_13_method_35_code 225 = .ok (.iconst 1, 1) := by decide +kernel
set_option maxRecDepth 100000 in
theorem d_Mod_init_226 : decode prog_13_method_35_code 226 = .ok (.invokespecial 367, 3) := by decide +kernel
set_option maxRecDepth 100000 in
theorem w_1661 : (Cond.fieldLink "StowTongueModel" 374 "StowTongueModel" "given0" "LStowTongueModel$Values;" : Cond) ∈ am_tbl := am_w 1661 (by decide +kernel) (by decide +kernel)
set_option maxRecDepth 100000 in
theorem f_Mod_374 : am_F "StowTongueModel" 374 14 39 := ⟨_, rfl, cl_14, by decide, Or.inl w_1661⟩
set_option maxRecDepth 100000 in
theorem d_Mod_init_229 : decode prog_13_method_35_code 229 = .ok (.putfield 374, 3) := by decide +kernel
set_option maxRecDepth 100000 in
theorem d_Mod_init_232 : decode prog_13_method_35_code 232 = .ok (.aload_n 0, 1) := by decide +kernel
set_option maxRecDepth 100000 in
theorem d_Mod_init_233 : decode prog_13_method_35_code 233 = .ok (.new 115, 3) := by decide +kernel
set_option maxRecDepth 100000 in
theorem d_Mod_init_236 : decode prog_13_method_35_code 236 = .ok (.dup, 1) := by decide +kernel
set_option maxRecDepth 100000 in
theorem d_Mod_init_237 : decode prog_13_method_35_code 237 = .ok (.iconst 4, 1) := by decide +kernel
set_option maxRecDepth 100000 in
theorem d_Mod_init_238 : decode prog_13_method_35_code 238 = .ok (.invokespecial 367, 3) := by decide +kernel
set_option maxRecDepth 100000 in
theorem w_1662 : (Cond.fieldLink "StowTongueModel" 377 "StowTongueModel" "held" "LStowTongueModel$Values;" : Cond) ∈ am_tbl := am_w 1662 (by decide +kernel) (by decide +kernel)
set_option maxRecDepth 100000 in
theorem f_Mod_377 : am_F "StowTongueModel" 377 14 40 := ⟨_, rfl, cl_14, by decide, Or.inl w_1662⟩
set_option maxRecDepth 100000 in
theorem d_Mod_init_241 : decode prog_13_method_35_code 241 = .ok (.putfield 377, 3) := by decide +kernel
set_option maxRecDepth 100000 in
theorem d_Mod_init_244 : decode prog_13_method_35_code 244 = .ok (.aload_n 0, 1) := by decide +kernel
set_option maxRecDepth 100000 in
theorem d_Mod_init_245 : decode prog_13_method_35_code 245 = .ok (.bipush 9, 2) := by decide +kernel
set_option maxRecDepth 100000 in
theorem d_Mod_init_247 : decode prog_13_method_35_code 247 = .ok (.anewarray 96, 3) := by decide +kernel
set_option maxRecDepth 100000 in
theorem w_1669 : (Cond.fieldLink "StowTongueModel" 380 "StowTongueModel" "codes" "[LStowTongueModel$Code;" : Cond) ∈ am_tbl := am_w 1669 (by decide +kernel) (by decide +kernel)
set_option maxRecDepth 100000 in
theorem f_Mod_380 : am_F "StowTongueModel" 380 14 47 := ⟨_, rfl, cl_14, by decide, Or.inl w_1669⟩
set_option maxRecDepth 100000 in
theorem d_Mod_init_250 : decode prog_13_method_35_code 250 = .ok (.putfield 380, 3) := by decide +kernel
set_option maxRecDepth 100000 in
theorem d_Mod_init_253 : decode prog_13_method_35_code 253 = .ok (.aload_n 0, 1) := by decide +kernel
set_option maxRecDepth 100000 in
theorem d_Mod_init_254 : decode prog_13_method_35_code 254 = .ok (.bipush 9, 2) := by decide +kernel
set_option maxRecDepth 100000 in
theorem d_Mod_init_256 : decode prog_13_method_35_code 256 = .ok (.newarray .int, 2) := by decide +kernel
set_option maxRecDepth 100000 in
theorem w_1670 : (Cond.fieldLink "StowTongueModel" 383 "StowTongueModel" "back" "[I" : Cond) ∈ am_tbl := am_w 1670 (by decide +kernel) (by decide +kernel)
set_option maxRecDepth 100000 in
theorem f_Mod_383 : am_F "StowTongueModel" 383 14 48 := ⟨_, rfl, cl_14, by decide, Or.inl w_1670⟩
set_option maxRecDepth 100000 in
theorem d_Mod_init_258 : decode prog_13_method_35_code 258 = .ok (.putfield 383, 3) := by decide +kernel
set_option maxRecDepth 100000 in
theorem d_Mod_init_261 : decode prog_13_method_35_code 261 = .ok (.aload_n 0, 1) := by decide +kernel
set_option maxRecDepth 100000 in
theorem d_Mod_init_262 : decode prog_13_method_35_code 262 = .ok (.bipush 9, 2) := by decide +kernel
set_option maxRecDepth 100000 in
theorem d_Mod_init_264 : decode prog_13_method_35_code 264 = .ok (.newarray .int, 2) := by decide +kernel
set_option maxRecDepth 100000 in
theorem w_1671 : (Cond.fieldLink "StowTongueModel" 386 "StowTongueModel" "base" "[I" : Cond) ∈ am_tbl := am_w 1671 (by decide +kernel) (by decide +kernel)
set_option maxRecDepth 100000 in
theorem f_Mod_386 : am_F "StowTongueModel" 386 14 49 := ⟨_, rfl, cl_14, by decide, Or.inl w_1671⟩
set_option maxRecDepth 100000 in
theorem d_Mod_init_266 : decode prog_13_method_35_code 266 = .ok (.putfield 386, 3) := by decide +kernel
set_option maxRecDepth 100000 in
theorem d_Mod_init_269 : decode prog_13_method_35_code 269 = .ok (.aload_n 0, 1) := by decide +kernel
set_option maxRecDepth 100000 in
theorem d_Mod_init_270 : decode prog_13_method_35_code 270 = .ok (.bipush 100, 2) := by decide +kernel
set_option maxRecDepth 100000 in
theorem d_Mod_init_272 : decode prog_13_method_35_code 272 = .ok (.newarray .boolean, 2) := by decide +kernel
set_option maxRecDepth 100000 in
theorem w_1672 : (Cond.fieldLink "StowTongueModel" 389 "StowTongueModel" "reached" "[Z" : Cond) ∈ am_tbl := am_w 1672 (by decide +kernel) (by decide +kernel)
set_option maxRecDepth 100000 in
theorem f_Mod_389 : am_F "StowTongueModel" 389 14 50 := ⟨_, rfl, cl_14, by decide, Or.inl w_1672⟩
set_option maxRecDepth 100000 in
theorem d_Mod_init_274 : decode prog_13_method_35_code 274 = .ok (.putfield 389, 3) := by decide +kernel
set_option maxRecDepth 100000 in
theorem d_Mod_init_277 : decode prog_13_method_35_code 277 = .ok (.aload_n 0, 1) := by decide +kernel
set_option maxRecDepth 100000 in
theorem d_Mod_init_278 : decode prog_13_method_35_code 278 = .ok (.bipush 100, 2) := by decide +kernel
set_option maxRecDepth 100000 in
theorem d_Mod_init_280 : decode prog_13_method_35_code 280 = .ok (.newarray .int, 2) := by decide +kernel
set_option maxRecDepth 100000 in
theorem w_1673 : (Cond.fieldLink "StowTongueModel" 393 "StowTongueModel" "path" "[I" : Cond) ∈ am_tbl := am_w 1673 (by decide +kernel) (by decide +kernel)
set_option maxRecDepth 100000 in
theorem f_Mod_393 : am_F "StowTongueModel" 393 14 51 := ⟨_, rfl, cl_14, by decide, Or.inl w_1673⟩
set_option maxRecDepth 100000 in
theorem d_Mod_init_282 : decode prog_13_method_35_code 282 = .ok (.putfield 393, 3) := by decide +kernel
set_option maxRecDepth 100000 in
theorem d_Mod_init_285 : decode prog_13_method_35_code 285 = .ok (.iconst 0, 1) := by decide +kernel
set_option maxRecDepth 100000 in
theorem d_Mod_init_286 : decode prog_13_method_35_code 286 = .ok (.istore_n 1, 1) := by decide +kernel
set_option maxRecDepth 100000 in
theorem d_Mod_init_312 : decode prog_13_method_35_code 312 = .ok (.iconst 0, 1) := by decide +kernel
set_option maxRecDepth 100000 in
theorem d_Mod_init_313 : decode prog_13_method_35_code 313 = .ok (.istore_n 1, 1) := by decide +kernel
set_option maxRecDepth 100000 in
theorem d_Mod_init_345 : decode prog_13_method_35_code 345 = .ok (.return_, 1) := by decide +kernel
