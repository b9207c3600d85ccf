set_option maxRecDepth 100000 in
abbrev m_Vals_init : am_M := (⟨"StowTongueModel$Values", "<init>", "(I)V"⟩, prog_16_method_1_code, 2, none)
set_option maxRecDepth 100000 in
theorem d_Vals_init_32 : decode prog_16_method_1_code 32 = .ok (.return_, 1) := by decide +kernel
set_option maxRecDepth 100000 in
theorem d_Vals_init_0 : decode prog_16_method_1_code 0 = .ok (.aload_n 0, 1) := by decide +kernel
set_option maxRecDepth 100000 in
theorem d_Vals_init_1 : decode prog_16_method_1_code 1 = .ok (.invokespecial 1, 3) := by decide +kernel
set_option maxRecDepth 100000 in
theorem w_1500 : (Cond.methodLink "StowTongueModel$Values" 1 ⟨"java/lang/Object", "<init>", "()V"⟩ : Cond) ∈ am_tbl := am_w 1500 (by decide +kernel) (by decide +kernel)
set_option maxRecDepth 100000 in
theorem w_177 : (Cond.instanceMethod ⟨"java/lang/Object", "<init>", "()V"⟩ : Cond) ∈ am_tbl := am_w 177 (by decide +kernel) (by decide +kernel)
set_option maxRecDepth 100000 in
theorem w_178 : (Cond.code ⟨"java/lang/Object", "<init>", "()V"⟩ object_method_1_code 1 none : Cond) ∈ am_tbl := am_w 178 rfl rfl
set_option maxRecDepth 100000 in
theorem d_Vals_init_4 : decode prog_16_method_1_code 4 = .ok (.aload_n 0, 1) := by decide +kernel
set_option maxRecDepth 100000 in
theorem d_Vals_init_5 : decode prog_16_method_1_code 5 = .ok (.iload_n 1, 1) := by decide +kernel
set_option maxRecDepth 100000 in
theorem d_Vals_init_6 : decode prog_16_method_1_code 6 = .ok (.newarray .int, 2) := by decide +kernel
set_option maxRecDepth 100000 in
theorem w_317 : (Cond.arrayClass FieldType.int : Cond) ∈ am_tbl := am_w 317 (by decide +kernel) (by decide +kernel)
set_option maxRecDepth 100000 in
theorem d_Vals_init_8 : decode prog_16_method_1_code 8 = .ok (.putfield 7, 3) := by decide +kernel
set_option maxRecDepth 100000 in
theorem cl_11 : am_Cl ("StowTongueModel$Values", TC11, 4) := ⟨am_in_r [1512, 1514, 1516, 1518] (by decide +kernel) (by decide +kernel), by decide +kernel, by decide +kernel⟩
set_option maxRecDepth 100000 in
theorem w_1501 : (Cond.fieldLink "StowTongueModel$Values" 7 "StowTongueModel$Values" "kind" "[I" : Cond) ∈ am_tbl := am_w 1501 (by decide +kernel) (by decide +kernel)
set_option maxRecDepth 100000 in
theorem f_Vals_7 : am_F "StowTongueModel$Values" 7 11 0 := ⟨_, rfl, cl_11, by decide, Or.inl w_1501⟩
set_option maxRecDepth 100000 in
theorem d_Vals_init_11 : decode prog_16_method_1_code 11 = .ok (.aload_n 0, 1) := by decide +kernel
set_option maxRecDepth 100000 in
theorem d_Vals_init_12 : decode prog_16_method_1_code 12 = .ok (.iload_n 1, 1) := by decide +kernel
set_option maxRecDepth 100000 in
theorem d_Vals_init_13 : decode prog_16_method_1_code 13 = .ok (.newarray .int, 2) := by decide +kernel
set_option maxRecDepth 100000 in
theorem d_Vals_init_15 : decode prog_16_method_1_code 15 = .ok (.putfield 13, 3) := by decide +kernel
set_option maxRecDepth 100000 in
theorem w_1504 : (Cond.fieldLink "StowTongueModel$Values" 13 "StowTongueModel$Values" "size" "[I" : Cond) ∈ am_tbl := am_w 1504 (by decide +kernel) (by decide +kernel)
set_option maxRecDepth 100000 in
theorem f_Vals_13 : am_F "StowTongueModel$Values" 13 11 1 := ⟨_, rfl, cl_11, by decide, Or.inl w_1504⟩
set_option maxRecDepth 100000 in
theorem d_Vals_init_18 : decode prog_16_method_1_code 18 = .ok (.aload_n 0, 1) := by decide +kernel
set_option maxRecDepth 100000 in
theorem d_Vals_init_19 : decode prog_16_method_1_code 19 = .ok (.iload_n 1, 1) := by decide +kernel
set_option maxRecDepth 100000 in
theorem d_Vals_init_20 : decode prog_16_method_1_code 20 = .ok (.newarray .long, 2) := by decide +kernel
set_option maxRecDepth 100000 in
theorem w_291 : (Cond.arrayClass FieldType.long : Cond) ∈ am_tbl := am_w 291 (by decide +kernel) (by decide +kernel)
set_option maxRecDepth 100000 in
theorem d_Vals_init_22 : decode prog_16_method_1_code 22 = .ok (.putfield 16, 3) := by decide +kernel
set_option maxRecDepth 100000 in
theorem w_1507 : (Cond.fieldLink "StowTongueModel$Values" 16 "StowTongueModel$Values" "one" "[J" : Cond) ∈ am_tbl := am_w 1507 (by decide +kernel) (by decide +kernel)
set_option maxRecDepth 100000 in
theorem f_Vals_16 : am_F "StowTongueModel$Values" 16 11 2 := ⟨_, rfl, cl_11, by decide, Or.inl w_1507⟩
set_option maxRecDepth 100000 in
theorem d_Vals_init_25 : decode prog_16_method_1_code 25 = .ok (.aload_n 0, 1) := by decide +kernel
set_option maxRecDepth 100000 in
theorem d_Vals_init_26 : decode prog_16_method_1_code 26 = .ok (.iload_n 1, 1) := by decide +kernel
set_option maxRecDepth 100000 in
theorem d_Vals_init_27 : decode prog_16_method_1_code 27 = .ok (.newarray .long, 2) := by decide +kernel
set_option maxRecDepth 100000 in
theorem d_Vals_init_29 : decode prog_16_method_1_code 29 = .ok (.putfield 20, 3) := by decide +kernel
set_option maxRecDepth 100000 in
theorem w_1510 : (Cond.fieldLink "StowTongueModel$Values" 20 "StowTongueModel$Values" "two" "[J" : Cond) ∈ am_tbl := am_w 1510 (by decide +kernel) (by decide +kernel)
set_option maxRecDepth 100000 in
theorem f_Vals_20 : am_F "StowTongueModel$Values" 20 11 3 := ⟨_, rfl, cl_11, by decide, Or.inl w_1510⟩
set_option maxRecDepth 100000 in
abbrev m_Code_init : am_M := (⟨"StowTongueModel$Code", "<init>", "(I)V"⟩, prog_14_method_1_code, 2, none)
set_option maxRecDepth 100000 in
theorem d_Code_init_0 : decode prog_14_method_1_code 0 = .ok (.aload_n 0, 1) := by decide +kernel
set_option maxRecDepth 100000 in
theorem d_Code_init_1 : decode prog_14_method_1_code 1 = .ok (.invokespecial 1, 3) := by decide +kernel
set_option maxRecDepth 100000 in
theorem w_1494 : (Cond.methodLink "StowTongueModel$Code" 1 ⟨"java/lang/Object", "<init>", "()V"⟩ : Cond) ∈ am_tbl := am_w 1494 (by decide +kernel) (by decide +kernel)
set_option maxRecDepth 100000 in
theorem d_Code_init_4 : decode prog_14_method_1_code 4 = .ok (.aload_n 0, 1) := by decide +kernel
set_option maxRecDepth 100000 in
theorem d_Code_init_5 : decode prog_14_method_1_code 5 = .ok (.iconst 4, 1) := by decide +kernel
set_option maxRecDepth 100000 in
theorem d_Code_init_6 : decode prog_14_method_1_code 6 = .ok (.iload_n 1, 1) := by decide +kernel
set_option maxRecDepth 100000 in
theorem d_Code_init_7 : decode prog_14_method_1_code 7 = .ok (.imul, 1) := by decide +kernel
set_option maxRecDepth 100000 in
theorem d_Code_init_8 : decode prog_14_method_1_code 8 = .ok (.newarray .int, 2) := by decide +kernel
set_option maxRecDepth 100000 in
theorem cl_12 : am_Cl ("StowTongueModel$Code", TC12, 10) := ⟨am_in_r [1540, 1542, 1544, 1546, 1548, 1550, 1552, 1554, 1556, 1558] (by decide +kernel) (by decide +kernel), by decide +kernel, by decide +kernel⟩
set_option maxRecDepth 100000 in
theorem w_1521 : (Cond.fieldLink "StowTongueModel$Code" 7 "StowTongueModel$Code" "step" "[I" : Cond) ∈ am_tbl := am_w 1521 (by decide +kernel) (by decide +kernel)
set_option maxRecDepth 100000 in
theorem f_Code_7 : am_F "StowTongueModel$Code" 7 12 0 := ⟨_, rfl, cl_12, by decide, Or.inl w_1521⟩
set_option maxRecDepth 100000 in
theorem d_Code_init_10 : decode prog_14_method_1_code 10 = .ok (.putfield 7, 3) := by decide +kernel
set_option maxRecDepth 100000 in
theorem d_Code_init_13 : decode prog_14_method_1_code 13 = .ok (.aload_n 0, 1) := by decide +kernel
set_option maxRecDepth 100000 in
theorem d_Code_init_14 : decode prog_14_method_1_code 14 = .ok (.new 13, 3) := by decide +kernel
set_option maxRecDepth 100000 in
theorem w_1495 : (Cond.classLink "StowTongueModel$Code" 13 "StowTongueModel$Values" : Cond) ∈ am_tbl := am_w 1495 (by decide +kernel) (by decide +kernel)
set_option maxRecDepth 100000 in
theorem w_1496 : (Cond.instantiable "StowTongueModel$Values" 4 : Cond) ∈ am_tbl := am_w 1496 (by decide +kernel) (by decide +kernel)
set_option maxRecDepth 100000 in
theorem w_162 : (Cond.initialized "StowTongueModel$Values" : Cond) ∈ am_tbl := am_w 162 (by decide +kernel) (by decide +kernel)
set_option maxRecDepth 100000 in
theorem n_Code_13 : am_N "StowTongueModel$Code" 13 11 4 [.null, .null, .null, .null] := ⟨_, rfl, cl_11, rfl, by decide +kernel, w_1495, w_1496, w_162⟩
set_option maxRecDepth 100000 in
theorem d_Code_init_17 : decode prog_14_method_1_code 17 = .ok (.dup, 1) := by decide +kernel
set_option maxRecDepth 100000 in
theorem d_Code_init_18 : decode prog_14_method_1_code 18 = .ok (.iload_n 1, 1) := by decide +kernel
set_option maxRecDepth 100000 in
theorem d_Code_init_19 : decode prog_14_method_1_code 19 = .ok (.invokespecial 15, 3) := by decide +kernel
set_option maxRecDepth 100000 in
theorem w_1497 : (Cond.methodLink "StowTongueModel$Code" 15 ⟨"StowTongueModel$Values", "<init>", "(I)V"⟩ : Cond) ∈ am_tbl := am_w 1497 (by decide +kernel) (by decide +kernel)
set_option maxRecDepth 100000 in
theorem w_1499 : (Cond.code ⟨"StowTongueModel$Values", "<init>", "(I)V"⟩ prog_16_method_1_code 2 none : Cond) ∈ am_tbl := am_w 1499 rfl rfl
set_option maxRecDepth 100000 in
theorem l_Code_15 : am_L "StowTongueModel$Code" 15 1 m_Vals_init := ⟨Or.inl w_1497, w_162, w_1499, ⟨by decide, by decide⟩, by decide +kernel, by decide⟩
set_option maxRecDepth 100000 in
theorem w_1498 : (Cond.instanceMethod ⟨"StowTongueModel$Values", "<init>", "(I)V"⟩ : Cond) ∈ am_tbl := am_w 1498 (by decide +kernel) (by decide +kernel)
set_option maxRecDepth 100000 in
theorem w_1523 : (Cond.fieldLink "StowTongueModel$Code" 18 "StowTongueModel$Code" "value" "LStowTongueModel$Values;" : Cond) ∈ am_tbl := am_w 1523 (by decide +kernel) (by decide +kernel)
set_option maxRecDepth 100000 in
theorem f_Code_18 : am_F "StowTongueModel$Code" 18 12 1 := ⟨_, rfl, cl_12, by decide, Or.inl w_1523⟩
set_option maxRecDepth 100000 in
theorem d_Code_init_22 : decode prog_14_method_1_code 22 = .ok (.putfield 18, 3) := by decide +kernel
set_option maxRecDepth 100000 in
theorem d_Code_init_25 : decode prog_14_method_1_code 25 = .ok (.return_, 1) := by decide +kernel
set_option maxRecDepth 100000 in
abbrev m_State_init : am_M := (⟨"StowTongueModel$State", "<init>", "()V"⟩, prog_15_method_1_code, 1, none)
set_option maxRecDepth 100000 in
theorem d_State_init_0 : decode prog_15_method_1_code 0 = .ok (.aload_n 0, 1) := by decide +kernel
set_option maxRecDepth 100000 in
theorem d_State_init_1 : decode prog_15_method_1_code 1 = .ok (.invokespecial 3, 3) := by decide +kernel
set_option maxRecDepth 100000 in
theorem w_1566 : (Cond.methodLink "StowTongueModel$State" 3 ⟨"java/lang/Object", "<init>", "()V"⟩ : Cond) ∈ am_tbl := am_w 1566 (by decide +kernel) (by decide +kernel)
set_option maxRecDepth 100000 in
theorem d_State_init_4 : decode prog_15_method_1_code 4 = .ok (.aload_n 0, 1) := by decide +kernel
set_option maxRecDepth 100000 in
theorem d_State_init_5 : decode prog_15_method_1_code 5 = .ok (.bipush 100, 2) := by decide +kernel
set_option maxRecDepth 100000 in
theorem d_State_init_7 : decode prog_15_method_1_code 7 = .ok (.newarray .int, 2) := by decide +kernel
set_option maxRecDepth 100000 in
theorem cl_13 : am_Cl ("StowTongueModel$State", TC13, 12) := ⟨am_in_r [1594, 1596, 1598, 1600, 1602, 1604, 1606, 1608, 1610, 1612, 1614, 1616] (by decide +kernel) (by decide +kernel), by decide +kernel, by decide +kernel⟩
set_option maxRecDepth 100000 in
theorem w_1571 : (Cond.fieldLink "StowTongueModel$State" 9 "StowTongueModel$State" "kind" "[I" : Cond) ∈ am_tbl := am_w 1571 (by decide +kernel) (by decide +kernel)
set_option maxRecDepth 100000 in
theorem f_State_9 : am_F "StowTongueModel$State" 9 13 0 := ⟨_, rfl, cl_13, by decide, Or.inl w_1571⟩
set_option maxRecDepth 100000 in
theorem d_State_init_9 : decode prog_15_method_1_code 9 = .ok (.putfield 9, 3) := by decide +kernel
set_option maxRecDepth 100000 in
theorem d_State_init_12 : decode prog_15_method_1_code 12 = .ok (.aload_n 0, 1) := by decide +kernel
set_option maxRecDepth 100000 in
theorem d_State_init_13 : decode prog_15_method_1_code 13 = .ok (.bipush 100, 2) := by decide +kernel
set_option maxRecDepth 100000 in
theorem d_State_init_15 : decode prog_15_method_1_code 15 = .ok (.newarray .int, 2) := by decide +kernel
set_option maxRecDepth 100000 in
theorem w_1573 : (Cond.fieldLink "StowTongueModel$State" 15 "StowTongueModel$State" "size" "[I" : Cond) ∈ am_tbl := am_w 1573 (by decide +kernel) (by decide +kernel)
set_option maxRecDepth 100000 in
theorem f_State_15 : am_F "StowTongueModel$State" 15 13 1 := ⟨_, rfl, cl_13, by decide, Or.inl w_1573⟩
set_option maxRecDepth 100000 in
theorem d_State_init_17 : decode prog_15_method_1_code 17 = .ok (.putfield 15, 3) := by decide +kernel
set_option maxRecDepth 100000 in
theorem d_State_init_20 : decode prog_15_method_1_code 20 = .ok (.aload_n 0, 1) := by decide +kernel
set_option maxRecDepth 100000 in
theorem d_State_init_21 : decode prog_15_method_1_code 21 = .ok (.sipush 800, 3) := by decide +kernel
set_option maxRecDepth 100000 in
theorem d_State_init_24 : decode prog_15_method_1_code 24 = .ok (.newarray .long, 2) := by decide +kernel
set_option maxRecDepth 100000 in
theorem w_1575 : (Cond.fieldLink "StowTongueModel$State" 18 "StowTongueModel$State" "name" "[J" : Cond) ∈ am_tbl := am_w 1575 (by decide +kernel) (by decide +kernel)
set_option maxRecDepth 100000 in
theorem f_State_18 : am_F "StowTongueModel$State" 18 13 2 := ⟨_, rfl, cl_13, by decide, Or.inl w_1575⟩
set_option maxRecDepth 100000 in
theorem d_State_init_26 : decode prog_15_method_1_code 26 = .ok (.putfield 18, 3) := by decide +kernel
set_option maxRecDepth 100000 in
theorem d_State_init_29 : decode prog_15_method_1_code 29 = .ok (.aload_n 0, 1) := by decide +kernel
set_option maxRecDepth 100000 in
theorem d_State_init_30 : decode prog_15_method_1_code 30 = .ok (.bipush 12, 2) := by decide +kernel
set_option maxRecDepth 100000 in
theorem d_State_init_32 : decode prog_15_method_1_code 32 = .ok (.newarray .long, 2) := by decide +kernel
set_option maxRecDepth 100000 in
theorem w_1577 : (Cond.fieldLink "StowTongueModel$State" 22 "StowTongueModel$State" "root" "[J" : Cond) ∈ am_tbl := am_w 1577 (by decide +kernel) (by decide +kernel)
set_option maxRecDepth 100000 in
theorem f_State_22 : am_F "StowTongueModel$State" 22 13 3 := ⟨_, rfl, cl_13, by decide, Or.inl w_1577⟩
set_option maxRecDepth 100000 in
theorem d_State_init_34 : decode prog_15_method_1_code 34 = .ok (.putfield 22, 3) := by decide +kernel
set_option maxRecDepth 100000 in
theorem d_State_init_37 : decode prog_15_method_1_code 37 = .ok (.aload_n 0, 1) := by decide +kernel
set_option maxRecDepth 100000 in
theorem d_State_init_38 : decode prog_15_method_1_code 38 = .ok (.bipush 10, 2) := by decide +kernel
set_option maxRecDepth 100000 in
theorem d_State_init_40 : decode prog_15_method_1_code 40 = .ok (.newarray .long, 2) := by decide +kernel
set_option maxRecDepth 100000 in
theorem w_1579 : (Cond.fieldLink "StowTongueModel$State" 25 "StowTongueModel$State" "function" "[J" : Cond) ∈ am_tbl := am_w 1579 (by decide +kernel) (by decide +kernel)
set_option maxRecDepth 100000 in
theorem f_State_25 : am_F "StowTongueModel$State" 25 13 4 := ⟨_, rfl, cl_13, by decide, Or.inl w_1579⟩
set_option maxRecDepth 100000 in
theorem d_State_init_42 : decode prog_15_method_1_code 42 = .ok (.putfield 25, 3) := by decide +kernel
set_option maxRecDepth 100000 in
theorem d_State_init_45 : decode prog_15_method_1_code 45 = .ok (.aload_n 0, 1) := by decide +kernel
set_option maxRecDepth 100000 in
theorem d_State_init_46 : decode prog_15_method_1_code 46 = .ok (.new 28, 3) := by decide +kernel
set_option maxRecDepth 100000 in
theorem w_1567 : (Cond.classLink "StowTongueModel$State" 28 "StowTongueModel$Values" : Cond) ∈ am_tbl := am_w 1567 (by decide +kernel) (by decide +kernel)
set_option maxRecDepth 100000 in
theorem n_State_28 : am_N "StowTongueModel$State" 28 11 4 [.null, .null, .null, .null] := ⟨_, rfl, cl_11, rfl, by decide +kernel, w_1567, w_1496, w_162⟩
set_option maxRecDepth 100000 in
theorem d_State_init_49 : decode prog_15_method_1_code 49 = .ok (.dup, 1) := by decide +kernel
set_option maxRecDepth 100000 in
theorem d_State_init_50 : decode prog_15_method_1_code 50 = .ok (.sipush 2000, 3) := by decide +kernel
set_option maxRecDepth 100000 in
theorem d_State_init_53 : decode prog_15_method_1_code 53 = .ok (.invokespecial 30, 3) := by decide +kernel
set_option maxRecDepth 100000 in
theorem w_1568 : (Cond.methodLink "StowTongueModel$State" 30 ⟨"StowTongueModel$Values", "<init>", "(I)V"⟩ : Cond) ∈ am_tbl := am_w 1568 (by decide +kernel) (by decide +kernel)
set_option maxRecDepth 100000 in
theorem l_State_30 : am_L "StowTongueModel$State" 30 1 m_Vals_init := ⟨Or.inl w_1568, w_162, w_1499, ⟨by decide, by decide⟩, by decide +kernel, by decide⟩
set_option maxRecDepth 100000 in
theorem w_1581 : (Cond.fieldLink "StowTongueModel$State" 33 "StowTongueModel$State" "item" "LStowTongueModel$Values;" : Cond) ∈ am_tbl := am_w 1581 (by decide +kernel) (by decide +kernel)
set_option maxRecDepth 100000 in
theorem f_State_33 : am_F "StowTongueModel$State" 33 13 5 := ⟨_, rfl, cl_13, by decide, Or.inl w_1581⟩
set_option maxRecDepth 100000 in
theorem d_State_init_56 : decode prog_15_method_1_code 56 = .ok (.putfield 33, 3) := by decide +kernel
set_option maxRecDepth 100000 in
theorem d_State_init_59 : decode prog_15_method_1_code 59 = .ok (.aload_n 0, 1) := by decide +kernel
set_option maxRecDepth 100000 in
theorem d_State_init_60 : decode prog_15_method_1_code 60 = .ok (.new 28, 3) := by decide +kernel
set_option maxRecDepth 100000 in
theorem d_State_init_63 : decode prog_15_method_1_code 63 = .ok (.dup, 1) := by decide +kernel
set_option maxRecDepth 100000 in
theorem d_State_init_64 : decode prog_15_method_1_code 64 = .ok (.bipush 12, 2) := by decide +kernel
set_option maxRecDepth 100000 in
theorem d_State_init_66 : decode prog_15_method_1_code 66 = .ok (.invokespecial 30, 3) := by decide +kernel
set_option maxRecDepth 100000 in
theorem w_1583 : (Cond.fieldLink "StowTongueModel$State" 37 "StowTongueModel$State" "value" "LStowTongueModel$Values;" : Cond) ∈ am_tbl := am_w 1583 (by decide +kernel) (by decide +kernel)
set_option maxRecDepth 100000 in
theorem f_State_37 : am_F "StowTongueModel$State" 37 13 6 := ⟨_, rfl, cl_13, by decide, Or.inl w_1583⟩
set_option maxRecDepth 100000 in
theorem d_State_init_69 : decode prog_15_method_1_code 69 = .ok (.putfield 37, 3) := by decide +kernel
set_option maxRecDepth 100000 in
theorem d_State_init_72 : decode prog_15_method_1_code 72 = .ok (.aload_n 0, 1) := by decide +kernel
set_option maxRecDepth 100000 in
theorem d_State_init_73 : decode prog_15_method_1_code 73 = .ok (.bipush 10, 2) := by decide +kernel
set_option maxRecDepth 100000 in
theorem d_State_init_75 : decode prog_15_method_1_code 75 = .ok (.anewarray 40, 3) := by decide +kernel
set_option maxRecDepth 100000 in
theorem w_1569 : (Cond.classLink "StowTongueModel$State" 40 "StowTongueModel$Code" : Cond) ∈ am_tbl := am_w 1569 (by decide +kernel) (by decide +kernel)
set_option maxRecDepth 100000 in
theorem x_1570 : (Cond.arrayOver (FieldType.object "StowTongueModel$Code") : Cond) ∈ lw_tbl := List.mem_of_getElem? (i := 1570) (by decide +kernel)
set_option maxRecDepth 100000 in
theorem w_1585 : (Cond.fieldLink "StowTongueModel$State" 42 "StowTongueModel$State" "code" "[LStowTongueModel$Code;" : Cond) ∈ am_tbl := am_w 1585 (by decide +kernel) (by decide +kernel)
set_option maxRecDepth 100000 in
theorem f_State_42 : am_F "StowTongueModel$State" 42 13 7 := ⟨_, rfl, cl_13, by decide, Or.inl w_1585⟩
set_option maxRecDepth 100000 in
theorem d_State_init_78 : decode prog_15_method_1_code 78 = .ok (.putfield 42, 3) := by decide +kernel
set_option maxRecDepth 100000 in
theorem d_State_init_81 : decode prog_15_method_1_code 81 = .ok (.return_, 1) := by decide +kernel
set_option maxRecDepth 100000 in
abbrev m_Out_init : am_M := (⟨"StowTongue$Out", "<init>", "()V"⟩, prog_7_method_1_code, 1, none)
set_option maxRecDepth 100000 in
theorem d_Out_init_0 : decode prog_7_method_1_code 0 = .ok (.aload_n 0, 1) := by decide +kernel
set_option maxRecDepth 100000 in
theorem d_Out_init_1 : decode prog_7_method_1_code 1 = .ok (.invokespecial 3, 3) := by decide +kernel
set_option maxRecDepth 100000 in
theorem w_184 : (Cond.methodLink "StowTongue$Out" 3 ⟨"java/lang/Object", "<init>", "()V"⟩ : Cond) ∈ am_tbl := am_w 184 (by decide +kernel) (by decide +kernel)
set_option maxRecDepth 100000 in
theorem d_Out_init_4 : decode prog_7_method_1_code 4 = .ok (.aload_n 0, 1) := by decide +kernel
set_option maxRecDepth 100000 in
theorem d_Out_init_5 : decode prog_7_method_1_code 5 = .ok (.sipush 600, 3) := by decide +kernel
set_option maxRecDepth 100000 in
theorem d_Out_init_8 : decode prog_7_method_1_code 8 = .ok (.newarray .byte, 2) := by decide +kernel
set_option maxRecDepth 100000 in
theorem w_195 : (Cond.arrayClass FieldType.byte : Cond) ∈ am_tbl := am_w 195 (by decide +kernel) (by decide +kernel)
set_option maxRecDepth 100000 in
theorem cl_0 : am_Cl ("StowTongue$Out", TC0, 3) := ⟨am_in_r [188, 190, 192] (by decide +kernel) (by decide +kernel), by decide +kernel, by decide +kernel⟩
set_option maxRecDepth 100000 in
theorem w_185 : (Cond.fieldLink "StowTongue$Out" 11 "StowTongue$Out" "bytes" "[B" : Cond) ∈ am_tbl := am_w 185 (by decide +kernel) (by decide +kernel)
set_option maxRecDepth 100000 in
theorem f_Out_11 : am_F "StowTongue$Out" 11 0 0 := ⟨_, rfl, cl_0, by decide, Or.inl w_185⟩
set_option maxRecDepth 100000 in
theorem d_Out_init_10 : decode prog_7_method_1_code 10 = .ok (.putfield 11, 3) := by decide +kernel
set_option maxRecDepth 100000 in
theorem d_Out_init_13 : decode prog_7_method_1_code 13 = .ok (.return_, 1) := by decide +kernel
set_option maxRecDepth 100000 in
abbrev m_Draft_init : am_M := (⟨"StowTongue$Draft", "<init>", "()V"⟩, prog_3_method_1_code, 1, none)
set_option maxRecDepth 100000 in
theorem d_Draft_init_0 : decode prog_3_method_1_code 0 = .ok (.aload_n 0, 1) := by decide +kernel
set_option maxRecDepth 100000 in
theorem d_Draft_init_1 : decode prog_3_method_1_code 1 = .ok (.invokespecial 1, 3) := by decide +kernel
set_option maxRecDepth 100000 in
theorem w_297 : (Cond.methodLink "StowTongue$Draft" 1 ⟨"java/lang/Object", "<init>", "()V"⟩ : Cond) ∈ am_tbl := am_w 297 (by decide +kernel) (by decide +kernel)
set_option maxRecDepth 100000 in
theorem d_Draft_init_4 : decode prog_3_method_1_code 4 = .ok (.aload_n 0, 1) := by decide +kernel
set_option maxRecDepth 100000 in
theorem d_Draft_init_5 : decode prog_3_method_1_code 5 = .ok (.sipush 128, 3) := by decide +kernel
set_option maxRecDepth 100000 in
theorem d_Draft_init_8 : decode prog_3_method_1_code 8 = .ok (.newarray .int, 2) := by decide +kernel
set_option maxRecDepth 100000 in
theorem cl_2 : am_Cl ("StowTongue$Draft", TC2, 6) := ⟨am_in_r [304, 306, 308, 310, 312, 314] (by decide +kernel) (by decide +kernel), by decide +kernel, by decide +kernel⟩
set_option maxRecDepth 100000 in
theorem w_298 : (Cond.fieldLink "StowTongue$Draft" 7 "StowTongue$Draft" "code" "[I" : Cond) ∈ am_tbl := am_w 298 (by decide +kernel) (by decide +kernel)
set_option maxRecDepth 100000 in
theorem f_Draft_7 : am_F "StowTongue$Draft" 7 2 0 := ⟨_, rfl, cl_2, by decide, Or.inl w_298⟩
set_option maxRecDepth 100000 in
theorem d_Draft_init_10 : decode prog_3_method_1_code 10 = .ok (.putfield 7, 3) := by decide +kernel
set_option maxRecDepth 100000 in
theorem d_Draft_init_13 : decode prog_3_method_1_code 13 = .ok (.aload_n 0, 1) := by decide +kernel
set_option maxRecDepth 100000 in
theorem d_Draft_init_14 : decode prog_3_method_1_code 14 = .ok (.bipush 32, 2) := by decide +kernel
set_option maxRecDepth 100000 in
theorem d_Draft_init_16 : decode prog_3_method_1_code 16 = .ok (.newarray .long, 2) := by decide +kernel
set_option maxRecDepth 100000 in
theorem w_300 : (Cond.fieldLink "StowTongue$Draft" 13 "StowTongue$Draft" "pool" "[J" : Cond) ∈ am_tbl := am_w 300 (by decide +kernel) (by decide +kernel)
set_option maxRecDepth 100000 in
theorem f_Draft_13 : am_F "StowTongue$Draft" 13 2 2 := ⟨_, rfl, cl_2, by decide, Or.inl w_300⟩
set_option maxRecDepth 100000 in
theorem d_Draft_init_18 : decode prog_3_method_1_code 18 = .ok (.putfield 13, 3) := by decide +kernel
set_option maxRecDepth 100000 in
theorem d_Draft_init_21 : decode prog_3_method_1_code 21 = .ok (.aload_n 0, 1) := by decide +kernel
set_option maxRecDepth 100000 in
theorem d_Draft_init_22 : decode prog_3_method_1_code 22 = .ok (.bipush 16, 2) := by decide +kernel
set_option maxRecDepth 100000 in
theorem d_Draft_init_24 : decode prog_3_method_1_code 24 = .ok (.newarray .long, 2) := by decide +kernel
set_option maxRecDepth 100000 in
theorem w_302 : (Cond.fieldLink "StowTongue$Draft" 17 "StowTongue$Draft" "locals" "[J" : Cond) ∈ am_tbl := am_w 302 (by decide +kernel) (by decide +kernel)
set_option maxRecDepth 100000 in
theorem f_Draft_17 : am_F "StowTongue$Draft" 17 2 4 := ⟨_, rfl, cl_2, by decide, Or.inl w_302⟩
set_option maxRecDepth 100000 in
theorem d_Draft_init_26 : decode prog_3_method_1_code 26 = .ok (.putfield 17, 3) := by decide +kernel
set_option maxRecDepth 100000 in
theorem d_Draft_init_29 : decode prog_3_method_1_code 29 = .ok (.return_, 1) := by decide +kernel
set_option maxRecDepth 100000 in
abbrev m_Sweep_init : am_M := (⟨"StowTongue$Sweeper", "<init>", "()V"⟩, prog_10_method_1_code, 1, none)
set_option maxRecDepth 100000 in
theorem d_Sweep_init_0 : decode prog_10_method_1_code 0 = .ok (.aload_n 0, 1) := by decide +kernel
set_option maxRecDepth 100000 in
theorem d_Sweep_init_1 : decode prog_10_method_1_code 1 = .ok (.invokespecial 1, 3) := by decide +kernel
set_option maxRecDepth 100000 in
theorem w_483 : (Cond.methodLink "StowTongue$Sweeper" 1 ⟨"java/lang/Object", "<init>", "()V"⟩ : Cond) ∈ am_tbl := am_w 483 (by decide +kernel) (by decide +kernel)
set_option maxRecDepth 100000 in
theorem d_Sweep_init_4 : decode prog_10_method_1_code 4 = .ok (.aload_n 0, 1) := by decide +kernel
set_option maxRecDepth 100000 in
theorem d_Sweep_init_5 : decode prog_10_method_1_code 5 = .ok (.bipush 100, 2) := by decide +kernel
set_option maxRecDepth 100000 in
theorem d_Sweep_init_7 : decode prog_10_method_1_code 7 = .ok (.newarray .boolean, 2) := by decide +kernel
set_option maxRecDepth 100000 in
theorem w_494 : (Cond.arrayClass FieldType.boolean : Cond) ∈ am_tbl := am_w 494 (by decide +kernel) (by decide +kernel)
set_option maxRecDepth 100000 in
theorem cl_8 : am_Cl ("StowTongue$Sweeper", TC8, 3) := ⟨am_in_r [487, 489, 491] (by decide +kernel) (by decide +kernel), by decide +kernel, by decide +kernel⟩
set_option maxRecDepth 100000 in
theorem w_484 : (Cond.fieldLink "StowTongue$Sweeper" 9 "StowTongue$Sweeper" "reached" "[Z" : Cond) ∈ am_tbl := am_w 484 (by decide +kernel) (by decide +kernel)
set_option maxRecDepth 100000 in
theorem f_Sweep_9 : am_F "StowTongue$Sweeper" 9 8 0 := ⟨_, rfl, cl_8, by decide, Or.inl w_484⟩
set_option maxRecDepth 100000 in
theorem d_Sweep_init_9 : decode prog_10_method_1_code 9 = .ok (.putfield 9, 3) := by decide +kernel
set_option maxRecDepth 100000 in
theorem d_Sweep_init_12 : decode prog_10_method_1_code 12 = .ok (.aload_n 0, 1) := by decide +kernel
set_option maxRecDepth 100000 in
theorem d_Sweep_init_13 : decode prog_10_method_1_code 13 = .ok (.bipush 100, 2) := by decide +kernel
set_option maxRecDepth 100000 in
theorem d_Sweep_init_15 : decode prog_10_method_1_code 15 = .ok (.newarray .int, 2) := by decide +kernel
set_option maxRecDepth 100000 in
theorem w_485 : (Cond.fieldLink "StowTongue$Sweeper" 15 "StowTongue$Sweeper" "queue" "[I" : Cond) ∈ am_tbl := am_w 485 (by decide +kernel) (by decide +kernel)
set_option maxRecDepth 100000 in
theorem f_Sweep_15 : am_F "StowTongue$Sweeper" 15 8 1 := ⟨_, rfl, cl_8, by decide, Or.inl w_485⟩
set_option maxRecDepth 100000 in
theorem d_Sweep_init_17 : decode prog_10_method_1_code 17 = .ok (.putfield 15, 3) := by decide +kernel
set_option maxRecDepth 100000 in
theorem d_Sweep_init_20 : decode prog_10_method_1_code 20 = .ok (.return_, 1) := by decide +kernel
set_option maxRecDepth 100000 in
abbrev m_Log_init : am_M := (⟨"StowTongue$Log", "<init>", "()V"⟩, prog_5_method_1_code, 1, none)
set_option maxRecDepth 100000 in
theorem d_Log_init_0 : decode prog_5_method_1_code 0 = .ok (.aload_n 0, 1) := by decide +kernel
set_option maxRecDepth 100000 in
theorem d_Log_init_1 : decode prog_5_method_1_code 1 = .ok (.invokespecial 3, 3) := by decide +kernel
set_option maxRecDepth 100000 in
theorem w_462 : (Cond.methodLink "StowTongue$Log" 3 ⟨"java/lang/Object", "<init>", "()V"⟩ : Cond) ∈ am_tbl := am_w 462 (by decide +kernel) (by decide +kernel)
set_option maxRecDepth 100000 in
theorem d_Log_init_4 : decode prog_5_method_1_code 4 = .ok (.aload_n 0, 1) := by decide +kernel
set_option maxRecDepth 100000 in
theorem d_Log_init_5 : decode prog_5_method_1_code 5 = .ok (.bipush 10, 2) := by decide +kernel
set_option maxRecDepth 100000 in
theorem d_Log_init_7 : decode prog_5_method_1_code 7 = .ok (.anewarray 9, 3) := by decide +kernel
set_option maxRecDepth 100000 in
theorem w_463 : (Cond.classLink "StowTongue$Log" 9 "StowTongue$Store" : Cond) ∈ am_tbl := am_w 463 (by decide +kernel) (by decide +kernel)
set_option maxRecDepth 100000 in
theorem x_464 : (Cond.arrayOver (FieldType.object "StowTongue$Store") : Cond) ∈ lw_tbl := List.mem_of_getElem? (i := 464) (by decide +kernel)
set_option maxRecDepth 100000 in
theorem cl_7 : am_Cl ("StowTongue$Log", TC7, 4) := ⟨am_in_r [469, 471, 473, 475] (by decide +kernel) (by decide +kernel), by decide +kernel, by decide +kernel⟩
set_option maxRecDepth 100000 in
theorem w_465 : (Cond.fieldLink "StowTongue$Log" 11 "StowTongue$Log" "stores" "[LStowTongue$Store;" : Cond) ∈ am_tbl := am_w 465 (by decide +kernel) (by decide +kernel)
set_option maxRecDepth 100000 in
theorem f_Log_11 : am_F "StowTongue$Log" 11 7 0 := ⟨_, rfl, cl_7, by decide, Or.inl w_465⟩
set_option maxRecDepth 100000 in
theorem d_Log_init_10 : decode prog_5_method_1_code 10 = .ok (.putfield 11, 3) := by decide +kernel
set_option maxRecDepth 100000 in
theorem d_Log_init_13 : decode prog_5_method_1_code 13 = .ok (.aload_n 0, 1) := by decide +kernel
set_option maxRecDepth 100000 in
theorem d_Log_init_14 : decode prog_5_method_1_code 14 = .ok (.bipush 10, 2) := by decide +kernel
set_option maxRecDepth 100000 in
theorem d_Log_init_16 : decode prog_5_method_1_code 16 = .ok (.newarray .int, 2) := by decide +kernel
set_option maxRecDepth 100000 in
theorem w_466 : (Cond.fieldLink "StowTongue$Log" 15 "StowTongue$Log" "bytes" "[I" : Cond) ∈ am_tbl := am_w 466 (by decide +kernel) (by decide +kernel)
set_option maxRecDepth 100000 in
theorem f_Log_15 : am_F "StowTongue$Log" 15 7 1 := ⟨_, rfl, cl_7, by decide, Or.inl w_466⟩
set_option maxRecDepth 100000 in
theorem d_Log_init_18 : decode prog_5_method_1_code 18 = .ok (.putfield 15, 3) := by decide +kernel
set_option maxRecDepth 100000 in
theorem d_Log_init_21 : decode prog_5_method_1_code 21 = .ok (.return_, 1) := by decide +kernel
set_option maxRecDepth 100000 in
abbrev m_Mach_init : am_M := (⟨"StowTongue$Machine", "<init>", "()V"⟩, prog_6_method_1_code, 1, none)
set_option maxRecDepth 100000 in
theorem d_Mach_init_0 : decode prog_6_method_1_code 0 = .ok (.aload_n 0, 1) := by decide +kernel
set_option maxRecDepth 100000 in
theorem d_Mach_init_1 : decode prog_6_method_1_code 1 = .ok (.invokespecial 1, 3) := by decide +kernel
set_option maxRecDepth 100000 in
theorem w_399 : (Cond.methodLink "StowTongue$Machine" 1 ⟨"java/lang/Object", "<init>", "()V"⟩ : Cond) ∈ am_tbl := am_w 399 (by decide +kernel) (by decide +kernel)
set_option maxRecDepth 100000 in
theorem d_Mach_init_4 : decode prog_6_method_1_code 4 = .ok (.aload_n 0, 1) := by decide +kernel
set_option maxRecDepth 100000 in
theorem d_Mach_init_5 : decode prog_6_method_1_code 5 = .ok (.bipush 64, 2) := by decide +kernel
set_option maxRecDepth 100000 in
theorem d_Mach_init_7 : decode prog_6_method_1_code 7 = .ok (.newarray .long, 2) := by decide +kernel
set_option maxRecDepth 100000 in
theorem cl_6 : am_Cl ("StowTongue$Machine", TC6, 18) := ⟨am_in_r [420, 422, 424, 426, 428, 430, 432, 434, 436, 438, 440, 442, 444, 446, 448, 450, 452, 454] (by decide +kernel) (by decide +kernel), by decide +kernel, by decide +kernel⟩
set_option maxRecDepth 100000 in
theorem w_402 : (Cond.fieldLink "StowTongue$Machine" 7 "StowTongue$Machine" "head" "[J" : Cond) ∈ am_tbl := am_w 402 (by decide +kernel) (by decide +kernel)
set_option maxRecDepth 100000 in
theorem f_Mach_7 : am_F "StowTongue$Machine" 7 6 0 := ⟨_, rfl, cl_6, by decide, Or.inl w_402⟩
set_option maxRecDepth 100000 in
theorem d_Mach_init_9 : decode prog_6_method_1_code 9 = .ok (.putfield 7, 3) := by decide +kernel
set_option maxRecDepth 100000 in
theorem d_Mach_init_12 : decode prog_6_method_1_code 12 = .ok (.aload_n 0, 1) := by decide +kernel
set_option maxRecDepth 100000 in
theorem d_Mach_init_13 : decode prog_6_method_1_code 13 = .ok (.bipush 64, 2) := by decide +kernel
set_option maxRecDepth 100000 in
theorem d_Mach_init_15 : decode prog_6_method_1_code 15 = .ok (.newarray .long, 2) := by decide +kernel
set_option maxRecDepth 100000 in
theorem w_403 : (Cond.fieldLink "StowTongue$Machine" 13 "StowTongue$Machine" "tail" "[J" : Cond) ∈ am_tbl := am_w 403 (by decide +kernel) (by decide +kernel)
set_option maxRecDepth 100000 in
theorem f_Mach_13 : am_F "StowTongue$Machine" 13 6 1 := ⟨_, rfl, cl_6, by decide, Or.inl w_403⟩
set_option maxRecDepth 100000 in
theorem d_Mach_init_17 : decode prog_6_method_1_code 17 = .ok (.putfield 13, 3) := by decide +kernel
set_option maxRecDepth 100000 in
theorem d_Mach_init_20 : decode prog_6_method_1_code 20 = .ok (.aload_n 0, 1) := by decide +kernel
set_option maxRecDepth 100000 in
theorem d_Mach_init_21 : decode prog_6_method_1_code 21 = .ok (.bipush 8, 2) := by decide +kernel
set_option maxRecDepth 100000 in
theorem d_Mach_init_23 : decode prog_6_method_1_code 23 = .ok (.anewarray 16, 3) := by decide +kernel
set_option maxRecDepth 100000 in
theorem w_400 : (Cond.classLink "StowTongue$Machine" 16 "StowTongue$Unit" : Cond) ∈ am_tbl := am_w 400 (by decide +kernel) (by decide +kernel)
set_option maxRecDepth 100000 in
theorem x_401 : (Cond.arrayOver (FieldType.object "StowTongue$Unit") : Cond) ∈ lw_tbl := List.mem_of_getElem? (i := 401) (by decide +kernel)
set_option maxRecDepth 100000 in
theorem w_408 : (Cond.fieldLink "StowTongue$Machine" 18 "StowTongue$Machine" "callers" "[LStowTongue$Unit;" : Cond) ∈ am_tbl := am_w 408 (by decide +kernel) (by decide +kernel)
set_option maxRecDepth 100000 in
theorem f_Mach_18 : am_F "StowTongue$Machine" 18 6 6 := ⟨_, rfl, cl_6, by decide, Or.inl w_408⟩
set_option maxRecDepth 100000 in
theorem d_Mach_init_26 : decode prog_6_method_1_code 26 = .ok (.putfield 18, 3) := by decide +kernel
set_option maxRecDepth 100000 in
theorem d_Mach_init_29 : decode prog_6_method_1_code 29 = .ok (.aload_n 0, 1) := by decide +kernel
set_option maxRecDepth 100000 in
theorem d_Mach_init_30 : decode prog_6_method_1_code 30 = .ok (.bipush 8, 2) := by decide +kernel
set_option maxRecDepth 100000 in
theorem d_Mach_init_32 : decode prog_6_method_1_code 32 = .ok (.newarray .int, 2) := by decide +kernel
set_option maxRecDepth 100000 in
theorem w_409 : (Cond.fieldLink "StowTongue$Machine" 22 "StowTongue$Machine" "callerNext" "[I" : Cond) ∈ am_tbl := am_w 409 (by decide +kernel) (by decide +kernel)
set_option maxRecDepth 100000 in
theorem f_Mach_22 : am_F "StowTongue$Machine" 22 6 7 := ⟨_, rfl, cl_6, by decide, Or.inl w_409⟩
set_option maxRecDepth 100000 in
theorem d_Mach_init_34 : decode prog_6_method_1_code 34 = .ok (.putfield 22, 3) := by decide +kernel
set_option maxRecDepth 100000 in
theorem d_Mach_init_37 : decode prog_6_method_1_code 37 = .ok (.aload_n 0, 1) := by decide +kernel
set_option maxRecDepth 100000 in
theorem d_Mach_init_38 : decode prog_6_method_1_code 38 = .ok (.bipush 8, 2) := by decide +kernel
set_option maxRecDepth 100000 in
theorem d_Mach_init_40 : decode prog_6_method_1_code 40 = .ok (.newarray .int, 2) := by decide +kernel
set_option maxRecDepth 100000 in
theorem w_410 : (Cond.fieldLink "StowTongue$Machine" 26 "StowTongue$Machine" "callerBase" "[I" : Cond) ∈ am_tbl := am_w 410 (by decide +kernel) (by decide +kernel)
set_option maxRecDepth 100000 in
theorem f_Mach_26 : am_F "StowTongue$Machine" 26 6 8 := ⟨_, rfl, cl_6, by decide, Or.inl w_410⟩
set_option maxRecDepth 100000 in
theorem d_Mach_init_42 : decode prog_6_method_1_code 42 = .ok (.putfield 26, 3) := by decide +kernel
set_option maxRecDepth 100000 in
theorem d_Mach_init_45 : decode prog_6_method_1_code 45 = .ok (.return_, 1) := by decide +kernel
set_option maxRecDepth 100000 in
abbrev m_Str_coder : am_M := (⟨"java/lang/String", "coder", "()B"⟩, prog_22_method_152_code, 1, (some FieldType.byte))
set_option maxRecDepth 100000 in
theorem w_217 : (Cond.fieldLink "java/lang/String" 38 "java/lang/String" "COMPACT_STRINGS" "Z" : Cond) ∈ am_tbl := am_w 217 (by decide +kernel) (by decide +kernel)
set_option maxRecDepth 100000 in
theorem d_Str_coder_0 : decode prog_22_method_152_code 0 = .ok (.getstatic 38, 3) := by decide +kernel
set_option maxRecDepth 100000 in
theorem d_Str_coder_3 : decode prog_22_method_152_code 3 = .ok (.ifCond .eq 10, 3) := by decide +kernel
set_option maxRecDepth 100000 in
theorem d_Str_coder_6 : decode prog_22_method_152_code 6 = .ok (.aload_n 0, 1) := by decide +kernel
set_option maxRecDepth 100000 in
theorem w_2201 : (Cond.fieldLink "java/lang/String" 15 "java/lang/String" "coder" "B" : Cond) ∈ am_tbl := am_w 2201 (by decide +kernel) (by decide +kernel)
set_option maxRecDepth 100000 in
theorem d_Str_coder_7 : decode prog_22_method_152_code 7 = .ok (.getfield 15, 3) := by decide +kernel
set_option maxRecDepth 100000 in
theorem d_Str_coder_10 : decode prog_22_method_152_code 10 = .ok (.goto 4, 3) := by decide +kernel
set_option maxRecDepth 100000 in
theorem d_Str_coder_14 : decode prog_22_method_152_code 14 = .ok (.ireturn, 1) := by decide +kernel
set_option maxRecDepth 100000 in
abbrev m_Str_isLatin1 : am_M := (⟨"java/lang/String", "isLatin1", "()Z"⟩, prog_22_method_154_code, 1, (some FieldType.boolean))
set_option maxRecDepth 100000 in
theorem d_Str_isLatin1_0 : decode prog_22_method_154_code 0 = .ok (.getstatic 38, 3) := by decide +kernel
set_option maxRecDepth 100000 in
theorem d_Str_isLatin1_3 : decode prog_22_method_154_code 3 = .ok (.ifCond .eq 14, 3) := by decide +kernel
set_option maxRecDepth 100000 in
theorem d_Str_isLatin1_6 : decode prog_22_method_154_code 6 = .ok (.aload_n 0, 1) := by decide +kernel
set_option maxRecDepth 100000 in
theorem d_Str_isLatin1_7 : decode prog_22_method_154_code 7 = .ok (.getfield 15, 3) := by decide +kernel
set_option maxRecDepth 100000 in
theorem d_Str_isLatin1_10 : decode prog_22_method_154_code 10 = .ok (.ifCond .ne 7, 3) := by decide +kernel
set_option maxRecDepth 100000 in
theorem d_Str_isLatin1_13 : decode prog_22_method_154_code 13 = .ok (.iconst 1, 1) := by decide +kernel
set_option maxRecDepth 100000 in
theorem d_Str_isLatin1_14 : decode prog_22_method_154_code 14 = .ok (.goto 4, 3) := by decide +kernel
set_option maxRecDepth 100000 in
theorem d_Str_isLatin1_18 : decode prog_22_method_154_code 18 = .ok (.ireturn, 1) := by decide +kernel
set_option maxRecDepth 100000 in
abbrev m_Str_length : am_M := (⟨"java/lang/String", "length", "()I"⟩, prog_22_method_54_code, 1, (some FieldType.int))
set_option maxRecDepth 100000 in
theorem d_Str_length_0 : decode prog_22_method_54_code 0 = .ok (.aload_n 0, 1) := by decide +kernel
set_option maxRecDepth 100000 in
theorem w_2200 : (Cond.fieldLink "java/lang/String" 9 "java/lang/String" "value" "[B" : Cond) ∈ am_tbl := am_w 2200 (by decide +kernel) (by decide +kernel)
set_option maxRecDepth 100000 in
theorem d_Str_length_1 : decode prog_22_method_54_code 1 = .ok (.getfield 9, 3) := by decide +kernel
set_option maxRecDepth 100000 in
theorem d_Str_length_4 : decode prog_22_method_54_code 4 = .ok (.arraylength, 1) := by decide +kernel
set_option maxRecDepth 100000 in
theorem d_Str_length_5 : decode prog_22_method_54_code 5 = .ok (.aload_n 0, 1) := by decide +kernel
set_option maxRecDepth 100000 in
theorem w_213 : (Cond.methodLink "java/lang/String" 335 ⟨"java/lang/String", "coder", "()B"⟩ : Cond) ∈ am_tbl := am_w 213 (by decide +kernel) (by decide +kernel)
set_option maxRecDepth 100000 in
theorem w_147 : (Cond.initialized "java/lang/String" : Cond) ∈ am_tbl := am_w 147 (by decide +kernel) (by decide +kernel)
set_option maxRecDepth 100000 in
theorem w_216 : (Cond.code ⟨"java/lang/String", "coder", "()B"⟩ prog_22_method_152_code 1 (some FieldType.byte) : Cond) ∈ am_tbl := am_w 216 rfl rfl
set_option maxRecDepth 100000 in
theorem l_Str_335 : am_L "java/lang/String" 335 0 m_Str_coder := ⟨Or.inl w_213, w_147, w_216, ⟨by decide, by decide⟩, by decide +kernel, by decide⟩
set_option maxRecDepth 100000 in
theorem w_214 : (Cond.instanceMethod ⟨"java/lang/String", "coder", "()B"⟩ : Cond) ∈ am_tbl := am_w 214 (by decide +kernel) (by decide +kernel)
set_option maxRecDepth 100000 in
theorem w_215 : (Cond.selects "java/lang/String" ⟨"java/lang/String", "coder", "()B"⟩ ⟨"java/lang/String", "coder", "()B"⟩ : Cond) ∈ am_tbl := am_w 215 (by decide +kernel) (by decide +kernel)
set_option maxRecDepth 100000 in
theorem d_Str_length_6 : decode prog_22_method_54_code 6 = .ok (.invokevirtual 335, 3) := by decide +kernel
set_option maxRecDepth 100000 in
theorem d_Str_length_9 : decode prog_22_method_54_code 9 = .ok (.ishr, 1) := by decide +kernel
set_option maxRecDepth 100000 in
theorem d_Str_length_10 : decode prog_22_method_54_code 10 = .ok (.ireturn, 1) := by decide +kernel
set_option maxRecDepth 100000 in
abbrev m_Pre_checkIndex : am_M := (⟨"jdk/internal/util/Preconditions", "checkIndex", "(IILjava/util/function/BiFunction;)I"⟩, prog_36_method_11_code, 3, (some FieldType.int))
set_option maxRecDepth 100000 in
theorem d_Pre_checkIndex_0 : decode prog_36_method_11_code 0 = .ok (.iload_n 0, 1) := by decide +kernel
set_option maxRecDepth 100000 in
theorem d_Pre_checkIndex_1 : decode prog_36_method_11_code 1 = .ok (.ifCond .lt 8, 3) := by decide +kernel
set_option maxRecDepth 100000 in
theorem d_Pre_checkIndex_4 : decode prog_36_method_11_code 4 = .ok (.iload_n 0, 1) := by decide +kernel
set_option maxRecDepth 100000 in
theorem d_Pre_checkIndex_5 : decode prog_36_method_11_code 5 = .ok (.iload_n 1, 1) := by decide +kernel
set_option maxRecDepth 100000 in
theorem d_Pre_checkIndex_6 : decode prog_36_method_11_code 6 = .ok (.if_icmp .lt 10, 3) := by decide +kernel
set_option maxRecDepth 100000 in
theorem d_Pre_checkIndex_16 : decode prog_36_method_11_code 16 = .ok (.iload_n 0, 1) := by decide +kernel
set_option maxRecDepth 100000 in
theorem d_Pre_checkIndex_17 : decode prog_36_method_11_code 17 = .ok (.ireturn, 1) := by decide +kernel
set_option maxRecDepth 100000 in
abbrev m_Str_checkIndex : am_M := (⟨"java/lang/String", "checkIndex", "(II)V"⟩, prog_22_method_155_code, 2, none)
set_option maxRecDepth 100000 in
theorem d_Str_checkIndex_0 : decode prog_22_method_155_code 0 = .ok (.iload_n 0, 1) := by decide +kernel
set_option maxRecDepth 100000 in
theorem d_Str_checkIndex_1 : decode prog_22_method_155_code 1 = .ok (.iload_n 1, 1) := by decide +kernel
set_option maxRecDepth 100000 in
theorem w_233 : (Cond.fieldLink "java/lang/String" 1053 "jdk/internal/util/Preconditions" "SIOOBE_FORMATTER" "Ljava/util/function/BiFunction;" : Cond) ∈ am_tbl := am_w 233 (by decide +kernel) (by decide +kernel)
set_option maxRecDepth 100000 in
theorem d_Str_checkIndex_2 : decode prog_22_method_155_code 2 = .ok (.getstatic 1053, 3) := by decide +kernel
set_option maxRecDepth 100000 in
theorem d_Str_checkIndex_5 : decode prog_22_method_155_code 5 = .ok (.invokestatic 1059, 3) := by decide +kernel
set_option maxRecDepth 100000 in
theorem w_235 : (Cond.methodLink "java/lang/String" 1059 ⟨"jdk/internal/util/Preconditions", "checkIndex", "(IILjava/util/function/BiFunction;)I"⟩ : Cond) ∈ am_tbl := am_w 235 (by decide +kernel) (by decide +kernel)
set_option maxRecDepth 100000 in
theorem w_149 : (Cond.initialized "jdk/internal/util/Preconditions" : Cond) ∈ am_tbl := am_w 149 (by decide +kernel) (by decide +kernel)
set_option maxRecDepth 100000 in
theorem w_237 : (Cond.code ⟨"jdk/internal/util/Preconditions", "checkIndex", "(IILjava/util/function/BiFunction;)I"⟩ prog_36_method_11_code 3 (some FieldType.int) : Cond) ∈ am_tbl := am_w 237 rfl rfl
set_option maxRecDepth 100000 in
theorem l_Str_1059 : am_L "java/lang/String" 1059 3 m_Pre_checkIndex := ⟨Or.inl w_235, w_149, w_237, ⟨by decide, by decide⟩, by decide +kernel, by decide⟩
set_option maxRecDepth 100000 in
theorem w_236 : (Cond.static ⟨"jdk/internal/util/Preconditions", "checkIndex", "(IILjava/util/function/BiFunction;)I"⟩ : Cond) ∈ am_tbl := am_w 236 (by decide +kernel) (by decide +kernel)
set_option maxRecDepth 100000 in
theorem d_Str_checkIndex_8 : decode prog_22_method_155_code 8 = .ok (.pop, 1) := by decide +kernel
set_option maxRecDepth 100000 in
theorem d_Str_checkIndex_9 : decode prog_22_method_155_code 9 = .ok (.return_, 1) := by decide +kernel
set_option maxRecDepth 100000 in
abbrev m_SL1_charAt : am_M := (⟨"java/lang/StringLatin1", "charAt", "([BI)C"⟩, prog_23_method_2_code, 2, (some FieldType.char))
set_option maxRecDepth 100000 in
theorem d_SL1_charAt_0 : decode prog_23_method_2_code 0 = .ok (.iload_n 1, 1) := by decide +kernel
set_option maxRecDepth 100000 in
theorem d_SL1_charAt_1 : decode prog_23_method_2_code 1 = .ok (.aload_n 0, 1) := by decide +kernel
set_option maxRecDepth 100000 in
theorem d_SL1_charAt_2 : decode prog_23_method_2_code 2 = .ok (.arraylength, 1) := by decide +kernel
set_option maxRecDepth 100000 in
theorem d_SL1_charAt_3 : decode prog_23_method_2_code 3 = .ok (.invokestatic 9, 3) := by decide +kernel
set_option maxRecDepth 100000 in
theorem w_230 : (Cond.methodLink "java/lang/StringLatin1" 9 ⟨"java/lang/String", "checkIndex", "(II)V"⟩ : Cond) ∈ am_tbl := am_w 230 (by decide +kernel) (by decide +kernel)
set_option maxRecDepth 100000 in
theorem w_232 : (Cond.code ⟨"java/lang/String", "checkIndex", "(II)V"⟩ prog_22_method_155_code 2 none : Cond) ∈ am_tbl := am_w 232 rfl rfl
set_option maxRecDepth 100000 in
theorem l_SL1_9 : am_L "java/lang/StringLatin1" 9 2 m_Str_checkIndex := ⟨Or.inl w_230, w_147, w_232, ⟨by decide, by decide⟩, by decide +kernel, by decide⟩
set_option maxRecDepth 100000 in
theorem w_231 : (Cond.static ⟨"java/lang/String", "checkIndex", "(II)V"⟩ : Cond) ∈ am_tbl := am_w 231 (by decide +kernel) (by decide +kernel)
set_option maxRecDepth 100000 in
theorem d_SL1_charAt_6 : decode prog_23_method_2_code 6 = .ok (.aload_n 0, 1) := by decide +kernel
set_option maxRecDepth 100000 in
theorem d_SL1_charAt_7 : decode prog_23_method_2_code 7 = .ok (.iload_n 1, 1) := by decide +kernel
set_option maxRecDepth 100000 in
theorem d_SL1_charAt_8 : decode prog_23_method_2_code 8 = .ok (.baload, 1) := by decide +kernel
set_option maxRecDepth 100000 in
theorem d_SL1_charAt_9 : decode prog_23_method_2_code 9 = .ok (.sipush 255, 3) := by decide +kernel
set_option maxRecDepth 100000 in
theorem d_SL1_charAt_12 : decode prog_23_method_2_code 12 = .ok (.iand, 1) := by decide +kernel
set_option maxRecDepth 100000 in
theorem d_SL1_charAt_13 : decode prog_23_method_2_code 13 = .ok (.i2c, 1) := by decide +kernel
set_option maxRecDepth 100000 in
theorem d_SL1_charAt_14 : decode prog_23_method_2_code 14 = .ok (.ireturn, 1) := by decide +kernel
set_option maxRecDepth 100000 in
abbrev m_Str_charAt : am_M := (⟨"java/lang/String", "charAt", "(I)C"⟩, prog_22_method_56_code, 2, (some FieldType.char))
set_option maxRecDepth 100000 in
theorem d_Str_charAt_0 : decode prog_22_method_56_code 0 = .ok (.aload_n 0, 1) := by decide +kernel
set_option maxRecDepth 100000 in
theorem w_223 : (Cond.methodLink "java/lang/String" 492 ⟨"java/lang/String", "isLatin1", "()Z"⟩ : Cond) ∈ am_tbl := am_w 223 (by decide +kernel) (by decide +kernel)
set_option maxRecDepth 100000 in
theorem w_226 : (Cond.code ⟨"java/lang/String", "isLatin1", "()Z"⟩ prog_22_method_154_code 1 (some FieldType.boolean) : Cond) ∈ am_tbl := am_w 226 rfl rfl
set_option maxRecDepth 100000 in
theorem l_Str_492 : am_L "java/lang/String" 492 0 m_Str_isLatin1 := ⟨Or.inl w_223, w_147, w_226, ⟨by decide, by decide⟩, by decide +kernel, by decide⟩
set_option maxRecDepth 100000 in
theorem w_224 : (Cond.instanceMethod ⟨"java/lang/String", "isLatin1", "()Z"⟩ : Cond) ∈ am_tbl := am_w 224 (by decide +kernel) (by decide +kernel)
set_option maxRecDepth 100000 in
theorem w_225 : (Cond.selects "java/lang/String" ⟨"java/lang/String", "isLatin1", "()Z"⟩ ⟨"java/lang/String", "isLatin1", "()Z"⟩ : Cond) ∈ am_tbl := am_w 225 (by decide +kernel) (by decide +kernel)
set_option maxRecDepth 100000 in
theorem d_Str_charAt_1 : decode prog_22_method_56_code 1 = .ok (.invokevirtual 492, 3) := by decide +kernel
set_option maxRecDepth 100000 in
theorem d_Str_charAt_4 : decode prog_22_method_56_code 4 = .ok (.ifCond .eq 12, 3) := by decide +kernel
set_option maxRecDepth 100000 in
theorem d_Str_charAt_7 : decode prog_22_method_56_code 7 = .ok (.aload_n 0, 1) := by decide +kernel
set_option maxRecDepth 100000 in
theorem d_Str_charAt_8 : decode prog_22_method_56_code 8 = .ok (.getfield 9, 3) := by decide +kernel
set_option maxRecDepth 100000 in
theorem d_Str_charAt_11 : decode prog_22_method_56_code 11 = .ok (.iload_n 1, 1) := by decide +kernel
set_option maxRecDepth 100000 in
theorem d_Str_charAt_12 : decode prog_22_method_56_code 12 = .ok (.invokestatic 495, 3) := by decide +kernel
set_option maxRecDepth 100000 in
theorem w_227 : (Cond.methodLink "java/lang/String" 495 ⟨"java/lang/StringLatin1", "charAt", "([BI)C"⟩ : Cond) ∈ am_tbl := am_w 227 (by decide +kernel) (by decide +kernel)
set_option maxRecDepth 100000 in
theorem w_148 : (Cond.initialized "java/lang/StringLatin1" : Cond) ∈ am_tbl := am_w 148 (by decide +kernel) (by decide +kernel)
set_option maxRecDepth 100000 in
theorem w_229 : (Cond.code ⟨"java/lang/StringLatin1", "charAt", "([BI)C"⟩ prog_23_method_2_code 2 (some FieldType.char) : Cond) ∈ am_tbl := am_w 229 rfl rfl
set_option maxRecDepth 100000 in
theorem l_Str_495 : am_L "java/lang/String" 495 2 m_SL1_charAt := ⟨Or.inl w_227, w_148, w_229, ⟨by decide, by decide⟩, by decide +kernel, by decide⟩
set_option maxRecDepth 100000 in
theorem w_228 : (Cond.static ⟨"java/lang/StringLatin1", "charAt", "([BI)C"⟩ : Cond) ∈ am_tbl := am_w 228 (by decide +kernel) (by decide +kernel)
set_option maxRecDepth 100000 in
theorem d_Str_charAt_15 : decode prog_22_method_56_code 15 = .ok (.ireturn, 1) := by decide +kernel
set_option maxRecDepth 100000 in
abbrev m_Cell_placed : am_M := (⟨"StowTongue$Cell", "placed", "(II)J"⟩, prog_2_method_6_code, 2, (some FieldType.long))
set_option maxRecDepth 100000 in
theorem d_Cell_placed_0 : decode prog_2_method_6_code 0 = .ok (.iload_n 0, 1) := by decide +kernel
set_option maxRecDepth 100000 in
theorem d_Cell_placed_1 : decode prog_2_method_6_code 1 = .ok (.i2l, 1) := by decide +kernel
set_option maxRecDepth 100000 in
theorem d_Cell_placed_2 : decode prog_2_method_6_code 2 = .ok (.bipush 7, 2) := by decide +kernel
set_option maxRecDepth 100000 in
theorem d_Cell_placed_4 : decode prog_2_method_6_code 4 = .ok (.bipush 7, 2) := by decide +kernel
set_option maxRecDepth 100000 in
theorem d_Cell_placed_6 : decode prog_2_method_6_code 6 = .ok (.iload_n 1, 1) := by decide +kernel
set_option maxRecDepth 100000 in
theorem d_Cell_placed_7 : decode prog_2_method_6_code 7 = .ok (.bipush 7, 2) := by decide +kernel
set_option maxRecDepth 100000 in
theorem d_Cell_placed_9 : decode prog_2_method_6_code 9 = .ok (.iand, 1) := by decide +kernel
set_option maxRecDepth 100000 in
theorem d_Cell_placed_10 : decode prog_2_method_6_code 10 = .ok (.isub, 1) := by decide +kernel
set_option maxRecDepth 100000 in
theorem d_Cell_placed_11 : decode prog_2_method_6_code 11 = .ok (.imul, 1) := by decide +kernel
set_option maxRecDepth 100000 in
theorem d_Cell_placed_12 : decode prog_2_method_6_code 12 = .ok (.lshl, 1) := by decide +kernel
set_option maxRecDepth 100000 in
theorem d_Cell_placed_13 : decode prog_2_method_6_code 13 = .ok (.lreturn, 1) := by decide +kernel
set_option maxRecDepth 100000 in
abbrev m_ACo_init : am_M := (⟨"java/util/AbstractCollection", "<init>", "()V"⟩, prog_26_method_1_code, 1, none)
set_option maxRecDepth 100000 in
theorem d_ACo_init_0 : decode prog_26_method_1_code 0 = .ok (.aload_n 0, 1) := by decide +kernel
set_option maxRecDepth 100000 in
theorem d_ACo_init_1 : decode prog_26_method_1_code 1 = .ok (.invokespecial 1, 3) := by decide +kernel
set_option maxRecDepth 100000 in
theorem w_329 : (Cond.methodLink "java/util/AbstractCollection" 1 ⟨"java/lang/Object", "<init>", "()V"⟩ : Cond) ∈ am_tbl := am_w 329 (by decide +kernel) (by decide +kernel)
set_option maxRecDepth 100000 in
theorem d_ACo_init_4 : decode prog_26_method_1_code 4 = .ok (.return_, 1) := by decide +kernel
set_option maxRecDepth 100000 in
abbrev m_ALs_init : am_M := (⟨"java/util/AbstractList", "<init>", "()V"⟩, prog_27_method_1_code, 1, none)
set_option maxRecDepth 100000 in
theorem d_ALs_init_0 : decode prog_27_method_1_code 0 = .ok (.aload_n 0, 1) := by decide +kernel
set_option maxRecDepth 100000 in
theorem d_ALs_init_1 : decode prog_27_method_1_code 1 = .ok (.invokespecial 1, 3) := by decide +kernel
set_option maxRecDepth 100000 in
theorem w_326 : (Cond.methodLink "java/util/AbstractList" 1 ⟨"java/util/AbstractCollection", "<init>", "()V"⟩ : Cond) ∈ am_tbl := am_w 326 (by decide +kernel) (by decide +kernel)
set_option maxRecDepth 100000 in
theorem w_153 : (Cond.initialized "java/util/AbstractCollection" : Cond) ∈ am_tbl := am_w 153 (by decide +kernel) (by decide +kernel)
set_option maxRecDepth 100000 in
theorem w_328 : (Cond.code ⟨"java/util/AbstractCollection", "<init>", "()V"⟩ prog_26_method_1_code 1 none : Cond) ∈ am_tbl := am_w 328 rfl rfl
set_option maxRecDepth 100000 in
theorem l_ALs_1 : am_L "java/util/AbstractList" 1 0 m_ACo_init := ⟨Or.inl w_326, w_153, w_328, ⟨by decide, by decide⟩, by decide +kernel, by decide⟩
set_option maxRecDepth 100000 in
theorem w_327 : (Cond.instanceMethod ⟨"java/util/AbstractCollection", "<init>", "()V"⟩ : Cond) ∈ am_tbl := am_w 327 (by decide +kernel) (by decide +kernel)
set_option maxRecDepth 100000 in
theorem d_ALs_init_4 : decode prog_27_method_1_code 4 = .ok (.aload_n 0, 1) := by decide +kernel
set_option maxRecDepth 100000 in
theorem d_ALs_init_5 : decode prog_27_method_1_code 5 = .ok (.iconst 0, 1) := by decide +kernel
set_option maxRecDepth 100000 in
theorem d_ALs_init_6 : decode prog_27_method_1_code 6 = .ok (.putfield 7, 3) := by decide +kernel
set_option maxRecDepth 100000 in
theorem cl_3 : am_Cl ("java/util/ArrayList", TC3, 3) := ⟨am_in_r [337, 339, 341] (by decide +kernel) (by decide +kernel), by decide +kernel, by decide +kernel⟩
set_option maxRecDepth 100000 in
theorem w_334 : (Cond.fieldLink "java/util/AbstractList" 7 "java/util/AbstractList" "modCount" "I" : Cond) ∈ am_tbl := am_w 334 (by decide +kernel) (by decide +kernel)
set_option maxRecDepth 100000 in
theorem f_ALs_7 : am_F "java/util/AbstractList" 7 3 2 := ⟨_, rfl, cl_3, by decide, Or.inl w_334⟩
set_option maxRecDepth 100000 in
theorem d_ALs_init_9 : decode prog_27_method_1_code 9 = .ok (.return_, 1) := by decide +kernel
set_option maxRecDepth 100000 in
abbrev m_AL_init : am_M := (⟨"java/util/ArrayList", "<init>", "()V"⟩, prog_28_method_2_code, 1, none)
set_option maxRecDepth 100000 in
theorem d_AL_init_0 : decode prog_28_method_2_code 0 = .ok (.aload_n 0, 1) := by decide +kernel
set_option maxRecDepth 100000 in
theorem d_AL_init_1 : decode prog_28_method_2_code 1 = .ok (.invokespecial 1, 3) := by decide +kernel
set_option maxRecDepth 100000 in
theorem w_323 : (Cond.methodLink "java/util/ArrayList" 1 ⟨"java/util/AbstractList", "<init>", "()V"⟩ : Cond) ∈ am_tbl := am_w 323 (by decide +kernel) (by decide +kernel)
set_option maxRecDepth 100000 in
theorem w_154 : (Cond.initialized "java/util/AbstractList" : Cond) ∈ am_tbl := am_w 154 (by decide +kernel) (by decide +kernel)
set_option maxRecDepth 100000 in
theorem w_325 : (Cond.code ⟨"java/util/AbstractList", "<init>", "()V"⟩ prog_27_method_1_code 1 none : Cond) ∈ am_tbl := am_w 325 rfl rfl
set_option maxRecDepth 100000 in
theorem l_AL_1 : am_L "java/util/ArrayList" 1 0 m_ALs_init := ⟨Or.inl w_323, w_154, w_325, ⟨by decide, by decide⟩, by decide +kernel, by decide⟩
set_option maxRecDepth 100000 in
theorem w_324 : (Cond.instanceMethod ⟨"java/util/AbstractList", "<init>", "()V"⟩ : Cond) ∈ am_tbl := am_w 324 (by decide +kernel) (by decide +kernel)
set_option maxRecDepth 100000 in
theorem d_AL_init_4 : decode prog_28_method_2_code 4 = .ok (.aload_n 0, 1) := by decide +kernel
set_option maxRecDepth 100000 in
theorem w_330 : (Cond.fieldLink "java/util/ArrayList" 39 "java/util/ArrayList" "DEFAULTCAPACITY_EMPTY_ELEMENTDATA" "[Ljava/lang/Object;" : Cond) ∈ am_tbl := am_w 330 (by decide +kernel) (by decide +kernel)
set_option maxRecDepth 100000 in
theorem d_AL_init_5 : decode prog_28_method_2_code 5 = .ok (.getstatic 39, 3) := by decide +kernel
set_option maxRecDepth 100000 in
theorem d_AL_init_8 : decode prog_28_method_2_code 8 = .ok (.putfield 9, 3) := by decide +kernel
set_option maxRecDepth 100000 in
theorem w_332 : (Cond.fieldLink "java/util/ArrayList" 9 "java/util/ArrayList" "elementData" "[Ljava/lang/Object;" : Cond) ∈ am_tbl := am_w 332 (by decide +kernel) (by decide +kernel)
set_option maxRecDepth 100000 in
theorem f_AL_9 : am_F "java/util/ArrayList" 9 3 0 := ⟨_, rfl, cl_3, by decide, Or.inl w_332⟩
set_option maxRecDepth 100000 in
theorem d_AL_init_11 : decode prog_28_method_2_code 11 = .ok (.return_, 1) := by decide +kernel
set_option maxRecDepth 100000 in
abbrev m_Unit_init : am_M := (⟨"StowTongue$Unit", "<init>", "(JIII[I[J)V"⟩, prog_11_method_1_code, 8, none)
set_option maxRecDepth 100000 in
theorem d_Unit_init_0 : decode prog_11_method_1_code 0 = .ok (.aload_n 0, 1) := by decide +kernel
set_option maxRecDepth 100000 in
theorem d_Unit_init_1 : decode prog_11_method_1_code 1 = .ok (.invokespecial 1, 3) := by decide +kernel
set_option maxRecDepth 100000 in
theorem w_349 : (Cond.methodLink "StowTongue$Unit" 1 ⟨"java/lang/Object", "<init>", "()V"⟩ : Cond) ∈ am_tbl := am_w 349 (by decide +kernel) (by decide +kernel)
set_option maxRecDepth 100000 in
theorem d_Unit_init_4 : decode prog_11_method_1_code 4 = .ok (.aload_n 0, 1) := by decide +kernel
set_option maxRecDepth 100000 in
theorem d_Unit_init_5 : decode prog_11_method_1_code 5 = .ok (.lload_n 1, 1) := by decide +kernel
set_option maxRecDepth 100000 in
theorem d_Unit_init_6 : decode prog_11_method_1_code 6 = .ok (.putfield 7, 3) := by decide +kernel
set_option maxRecDepth 100000 in
theorem cl_4 : am_Cl ("StowTongue$Unit", TC4, 6) := ⟨am_in_r [356, 358, 360, 362, 364, 366] (by decide +kernel) (by decide +kernel), by decide +kernel, by decide +kernel⟩
set_option maxRecDepth 100000 in
theorem w_350 : (Cond.fieldLink "StowTongue$Unit" 7 "StowTongue$Unit" "name" "J" : Cond) ∈ am_tbl := am_w 350 (by decide +kernel) (by decide +kernel)
set_option maxRecDepth 100000 in
theorem f_Unit_7 : am_F "StowTongue$Unit" 7 4 0 := ⟨_, rfl, cl_4, by decide, Or.inl w_350⟩
set_option maxRecDepth 100000 in
theorem d_Unit_init_9 : decode prog_11_method_1_code 9 = .ok (.aload_n 0, 1) := by decide +kernel
set_option maxRecDepth 100000 in
theorem d_Unit_init_10 : decode prog_11_method_1_code 10 = .ok (.iload_n 3, 1) := by decide +kernel
set_option maxRecDepth 100000 in
theorem d_Unit_init_11 : decode prog_11_method_1_code 11 = .ok (.putfield 13, 3) := by decide +kernel
set_option maxRecDepth 100000 in
theorem w_351 : (Cond.fieldLink "StowTongue$Unit" 13 "StowTongue$Unit" "names" "I" : Cond) ∈ am_tbl := am_w 351 (by decide +kernel) (by decide +kernel)
set_option maxRecDepth 100000 in
theorem f_Unit_13 : am_F "StowTongue$Unit" 13 4 1 := ⟨_, rfl, cl_4, by decide, Or.inl w_351⟩
set_option maxRecDepth 100000 in
theorem d_Unit_init_14 : decode prog_11_method_1_code 14 = .ok (.aload_n 0, 1) := by decide +kernel
set_option maxRecDepth 100000 in
theorem d_Unit_init_15 : decode prog_11_method_1_code 15 = .ok (.iload 4, 2) := by decide +kernel
set_option maxRecDepth 100000 in
theorem d_Unit_init_17 : decode prog_11_method_1_code 17 = .ok (.putfield 17, 3) := by decide +kernel
set_option maxRecDepth 100000 in
theorem w_352 : (Cond.fieldLink "StowTongue$Unit" 17 "StowTongue$Unit" "locals" "I" : Cond) ∈ am_tbl := am_w 352 (by decide +kernel) (by decide +kernel)
set_option maxRecDepth 100000 in
theorem f_Unit_17 : am_F "StowTongue$Unit" 17 4 2 := ⟨_, rfl, cl_4, by decide, Or.inl w_352⟩
set_option maxRecDepth 100000 in
theorem d_Unit_init_20 : decode prog_11_method_1_code 20 = .ok (.aload_n 0, 1) := by decide +kernel
set_option maxRecDepth 100000 in
theorem d_Unit_init_21 : decode prog_11_method_1_code 21 = .ok (.iload 5, 2) := by decide +kernel
