abbrev m_Mod_init : am_M := (⟨"StowTongueModel", "<init>", "()V"⟩, prog_13_method_35_code, 2, none)
theorem d_Mod_init_287 : decode prog_13_method_35_code 287 = .ok (.iload_n 1, 1) := by decide +kernel
theorem d_Mod_init_288 : decode prog_13_method_35_code 288 = .ok (.bipush 8, 2) := by decide +kernel
theorem d_Mod_init_290 : decode prog_13_method_35_code 290 = .ok (.if_icmp .ge 22, 3) := by decide +kernel
theorem d_Mod_init_293 : decode prog_13_method_35_code 293 = .ok (.aload_n 0, 1) := by decide +kernel
theorem d_Mod_init_294 : decode prog_13_method_35_code 294 = .ok (.getfield 359, 3) := by decide +kernel
theorem cl_14 : am_Cl ("StowTongueModel", TC14, 53) := ⟨am_in_r [1675, 1677, 1679, 1681, 1683, 1685, 1687, 1689, 1691, 1693, 1695, 1697, 1699, 1701, 1703, 1705, 1707, 1709, 1711, 1713, 1715, 1717, 1719, 1721, 1723, 1725, 1727, 1729, 1731, 1733, 1735, 1737, 1739, 1741, 1743, 1745, 1747, 1749, 1751, 1753, 1755, 1757, 1759, 1761, 1763, 1765, 1767, 1769, 1771, 1773, 1775, 1777, 1779] (by decide +kernel) (by decide +kernel), by decide +kernel, by decide +kernel⟩
theorem w_1655 : (Cond.fieldLink "StowTongueModel" 359 "StowTongueModel" "waiting" "[LStowTongueModel$State;" : Cond) ∈ am_tbl := am_w 1655 (by decide +kernel) (by decide +kernel)
theorem f_Mod_359 : am_F "StowTongueModel" 359 14 33 := ⟨_, rfl, cl_14, by decide, Or.inl w_1655⟩
theorem d_Mod_init_297 : decode prog_13_method_35_code 297 = .ok (.iload_n 1, 1) := by decide +kernel
theorem d_Mod_init_298 : decode prog_13_method_35_code 298 = .ok (.new 346, 3) := by decide +kernel
theorem w_1561 : (Cond.classLink "StowTongueModel" 346 "StowTongueModel$State" : Cond) ∈ am_tbl := am_w 1561 (by decide +kernel) (by decide +kernel)
theorem w_1562 : (Cond.instantiable "StowTongueModel$State" 12 : Cond) ∈ am_tbl := am_w 1562 (by decide +kernel) (by decide +kernel)
theorem w_163 : (Cond.initialized "StowTongueModel$State" : Cond) ∈ am_tbl := am_w 163 (by decide +kernel) (by decide +kernel)
theorem n_Mod_346 : am_N "StowTongueModel" 346 13 12 [.null, .null, .null, .null, .null, .null, .null, .null, .int 0, .int 0, .int 0, .int 0] := ⟨_, rfl, cl_13, rfl, by decide +kernel, w_1561, w_1562, w_163⟩
theorem d_Mod_init_301 : decode prog_13_method_35_code 301 = .ok (.dup, 1) := by decide +kernel
theorem d_Mod_init_302 : decode prog_13_method_35_code 302 = .ok (.invokespecial 348, 3) := by decide +kernel
theorem w_1565 : (Cond.code ⟨"StowTongueModel$State", "<init>", "()V"⟩ prog_15_method_1_code 1 none : Cond) ∈ am_tbl := am_w 1565 (by decide +kernel) (by decide +kernel)
theorem l_Mod_348 : am_L "StowTongueModel" 348 0 m_State_init := ⟨Or.inr ⟨"StowTongueModel", List.mem_of_getElem? (i := 1563) (by decide +kernel)⟩, w_163, w_1565, ⟨by decide, by decide⟩, by decide +kernel, by decide⟩
theorem w_1564 : (Cond.instanceMethod ⟨"StowTongueModel$State", "<init>", "()V"⟩ : Cond) ∈ am_tbl := am_w 1564 (by decide +kernel) (by decide +kernel)
theorem d_Mod_init_305 : decode prog_13_method_35_code 305 = .ok (.aastore, 1) := by decide +kernel
theorem d_Mod_init_306 : decode prog_13_method_35_code 306 = .ok (.iinc 1 1, 3) := by decide +kernel
theorem d_Mod_init_309 : decode prog_13_method_35_code 309 = .ok (.goto (-22), 3) := by decide +kernel
theorem d_Mod_init_314 : decode prog_13_method_35_code 314 = .ok (.iload_n 1, 1) := by decide +kernel
theorem d_Mod_init_315 : decode prog_13_method_35_code 315 = .ok (.aload_n 0, 1) := by decide +kernel
theorem d_Mod_init_316 : decode prog_13_method_35_code 316 = .ok (.getfield 363, 3) := by decide +kernel
theorem w_1658 : (Cond.fieldLink "StowTongueModel" 363 "StowTongueModel" "pool" "[LStowTongueModel$Code;" : Cond) ∈ am_tbl := am_w 1658 (by decide +kernel) (by decide +kernel)
theorem f_Mod_363 : am_F "StowTongueModel" 363 14 36 := ⟨_, rfl, cl_14, by decide, Or.inl w_1658⟩
theorem d_Mod_init_319 : decode prog_13_method_35_code 319 = .ok (.arraylength, 1) := by decide +kernel
theorem d_Mod_init_320 : decode prog_13_method_35_code 320 = .ok (.if_icmp .ge 25, 3) := by decide +kernel
theorem d_Mod_init_323 : decode prog_13_method_35_code 323 = .ok (.aload_n 0, 1) := by decide +kernel
theorem d_Mod_init_324 : decode prog_13_method_35_code 324 = .ok (.getfield 363, 3) := by decide +kernel
theorem d_Mod_init_327 : decode prog_13_method_35_code 327 = .ok (.iload_n 1, 1) := by decide +kernel
theorem d_Mod_init_328 : decode prog_13_method_35_code 328 = .ok (.new 96, 3) := by decide +kernel
theorem w_1489 : (Cond.classLink "StowTongueModel" 96 "StowTongueModel$Code" : Cond) ∈ am_tbl := am_w 1489 (by decide +kernel) (by decide +kernel)
theorem w_1490 : (Cond.instantiable "StowTongueModel$Code" 10 : Cond) ∈ am_tbl := am_w 1490 (by decide +kernel) (by decide +kernel)
theorem w_161 : (Cond.initialized "StowTongueModel$Code" : Cond) ∈ am_tbl := am_w 161 (by decide +kernel) (by decide +kernel)
theorem n_Mod_96 : am_N "StowTongueModel" 96 12 10 [.null, .null, .int 0, .int 0, .int 0, .int 0, .int 0, .int 0, .int 0, .int 0] := ⟨_, rfl, cl_12, rfl, by decide +kernel, w_1489, w_1490, w_161⟩
theorem d_Mod_init_331 : decode prog_13_method_35_code 331 = .ok (.dup, 1) := by decide +kernel
theorem d_Mod_init_332 : decode prog_13_method_35_code 332 = .ok (.sipush 400, 3) := by decide +kernel
theorem d_Mod_init_335 : decode prog_13_method_35_code 335 = .ok (.invokespecial 343, 3) := by decide +kernel
theorem w_1491 : (Cond.methodLink "StowTongueModel" 343 ⟨"StowTongueModel$Code", "<init>", "(I)V"⟩ : Cond) ∈ am_tbl := am_w 1491 (by decide +kernel) (by decide +kernel)
theorem w_1493 : (Cond.code ⟨"StowTongueModel$Code", "<init>", "(I)V"⟩ prog_14_method_1_code 2 none : Cond) ∈ am_tbl := am_w 1493 (by decide +kernel) (by decide +kernel)
theorem l_Mod_343 : am_L "StowTongueModel" 343 1 m_Code_init := ⟨Or.inl w_1491, w_161, w_1493, ⟨by decide, by decide⟩, by decide +kernel, by decide⟩
theorem w_1492 : (Cond.instanceMethod ⟨"StowTongueModel$Code", "<init>", "(I)V"⟩ : Cond) ∈ am_tbl := am_w 1492 (by decide +kernel) (by decide +kernel)
theorem d_Mod_init_338 : decode prog_13_method_35_code 338 = .ok (.aastore, 1) := by decide +kernel
theorem d_Mod_init_339 : decode prog_13_method_35_code 339 = .ok (.iinc 1 1, 3) := by decide +kernel
theorem d_Mod_init_342 : decode prog_13_method_35_code 342 = .ok (.goto (-28), 3) := by decide +kernel
