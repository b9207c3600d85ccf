abbrev m_Vals_add : am_M := (⟨"StowTongueModel$Values", "add", "(II)V"⟩, prog_16_method_6_code, 5, none)
theorem d_Vals_add_0 : decode prog_16_method_6_code 0 = .ok (.iload_n 2, 1) := by decide +kernel
theorem d_Vals_add_1 : decode prog_16_method_6_code 1 = .ok (.i2l, 1) := by decide +kernel
theorem d_Vals_add_2 : decode prog_16_method_6_code 2 = .ok (.bipush 8, 2) := by decide +kernel
theorem d_Vals_add_4 : decode prog_16_method_6_code 4 = .ok (.aload_n 0, 1) := by decide +kernel
theorem d_Vals_add_5 : decode prog_16_method_6_code 5 = .ok (.getfield 13, 3) := by decide +kernel
theorem d_Vals_add_8 : decode prog_16_method_6_code 8 = .ok (.iload_n 1, 1) := by decide +kernel
theorem d_Vals_add_9 : decode prog_16_method_6_code 9 = .ok (.iaload, 1) := by decide +kernel
theorem d_Vals_add_10 : decode prog_16_method_6_code 10 = .ok (.bipush 7, 2) := by decide +kernel
theorem d_Vals_add_12 : decode prog_16_method_6_code 12 = .ok (.iand, 1) := by decide +kernel
theorem d_Vals_add_13 : decode prog_16_method_6_code 13 = .ok (.imul, 1) := by decide +kernel
theorem d_Vals_add_14 : decode prog_16_method_6_code 14 = .ok (.lshl, 1) := by decide +kernel
theorem d_Vals_add_15 : decode prog_16_method_6_code 15 = .ok (.lstore_n 3, 1) := by decide +kernel
theorem d_Vals_add_16 : decode prog_16_method_6_code 16 = .ok (.aload_n 0, 1) := by decide +kernel
theorem d_Vals_add_17 : decode prog_16_method_6_code 17 = .ok (.getfield 13, 3) := by decide +kernel
theorem d_Vals_add_20 : decode prog_16_method_6_code 20 = .ok (.iload_n 1, 1) := by decide +kernel
theorem d_Vals_add_21 : decode prog_16_method_6_code 21 = .ok (.iaload, 1) := by decide +kernel
theorem d_Vals_add_22 : decode prog_16_method_6_code 22 = .ok (.bipush 8, 2) := by decide +kernel
theorem d_Vals_add_24 : decode prog_16_method_6_code 24 = .ok (.if_icmp .ge 16, 3) := by decide +kernel
theorem d_Vals_add_40 : decode prog_16_method_6_code 40 = .ok (.aload_n 0, 1) := by decide +kernel
theorem d_Vals_add_41 : decode prog_16_method_6_code 41 = .ok (.getfield 20, 3) := by decide +kernel
theorem d_Vals_add_44 : decode prog_16_method_6_code 44 = .ok (.iload_n 1, 1) := by decide +kernel
theorem d_Vals_add_45 : decode prog_16_method_6_code 45 = .ok (.dup2, 1) := by decide +kernel
theorem d_Vals_add_46 : decode prog_16_method_6_code 46 = .ok (.laload, 1) := by decide +kernel
theorem d_Vals_add_47 : decode prog_16_method_6_code 47 = .ok (.lload_n 3, 1) := by decide +kernel
theorem d_Vals_add_48 : decode prog_16_method_6_code 48 = .ok (.lor, 1) := by decide +kernel
theorem d_Vals_add_49 : decode prog_16_method_6_code 49 = .ok (.lastore, 1) := by decide +kernel
theorem d_Vals_add_50 : decode prog_16_method_6_code 50 = .ok (.aload_n 0, 1) := by decide +kernel
theorem d_Vals_add_51 : decode prog_16_method_6_code 51 = .ok (.getfield 13, 3) := by decide +kernel
theorem d_Vals_add_54 : decode prog_16_method_6_code 54 = .ok (.iload_n 1, 1) := by decide +kernel
theorem d_Vals_add_55 : decode prog_16_method_6_code 55 = .ok (.dup2, 1) := by decide +kernel
theorem d_Vals_add_56 : decode prog_16_method_6_code 56 = .ok (.iaload, 1) := by decide +kernel
theorem d_Vals_add_57 : decode prog_16_method_6_code 57 = .ok (.iconst 1, 1) := by decide +kernel
theorem d_Vals_add_58 : decode prog_16_method_6_code 58 = .ok (.iadd, 1) := by decide +kernel
theorem d_Vals_add_59 : decode prog_16_method_6_code 59 = .ok (.iastore, 1) := by decide +kernel
theorem d_Vals_add_60 : decode prog_16_method_6_code 60 = .ok (.return_, 1) := by decide +kernel
theorem d_Vals_add_27 : decode prog_16_method_6_code 27 = .ok (.aload_n 0, 1) := by decide +kernel
theorem d_Vals_add_28 : decode prog_16_method_6_code 28 = .ok (.getfield 16, 3) := by decide +kernel
theorem d_Vals_add_31 : decode prog_16_method_6_code 31 = .ok (.iload_n 1, 1) := by decide +kernel
theorem d_Vals_add_32 : decode prog_16_method_6_code 32 = .ok (.dup2, 1) := by decide +kernel
theorem d_Vals_add_33 : decode prog_16_method_6_code 33 = .ok (.laload, 1) := by decide +kernel
theorem d_Vals_add_34 : decode prog_16_method_6_code 34 = .ok (.lload_n 3, 1) := by decide +kernel
theorem d_Vals_add_35 : decode prog_16_method_6_code 35 = .ok (.lor, 1) := by decide +kernel
theorem d_Vals_add_36 : decode prog_16_method_6_code 36 = .ok (.lastore, 1) := by decide +kernel
theorem d_Vals_add_37 : decode prog_16_method_6_code 37 = .ok (.goto 13, 3) := by decide +kernel
abbrev m_Vals_isLike : am_M := (⟨"StowTongueModel$Values", "isLike", "(ILStowTongueModel$Values;I)Z"⟩, prog_16_method_4_code, 4, (some FieldType.boolean))
theorem d_Vals_isLike_0 : decode prog_16_method_4_code 0 = .ok (.aload_n 0, 1) := by decide +kernel
theorem d_Vals_isLike_1 : decode prog_16_method_4_code 1 = .ok (.getfield 7, 3) := by decide +kernel
theorem d_Vals_isLike_4 : decode prog_16_method_4_code 4 = .ok (.iload_n 1, 1) := by decide +kernel
theorem d_Vals_isLike_5 : decode prog_16_method_4_code 5 = .ok (.iaload, 1) := by decide +kernel
theorem d_Vals_isLike_6 : decode prog_16_method_4_code 6 = .ok (.aload_n 2, 1) := by decide +kernel
theorem d_Vals_isLike_7 : decode prog_16_method_4_code 7 = .ok (.getfield 7, 3) := by decide +kernel
theorem d_Vals_isLike_10 : decode prog_16_method_4_code 10 = .ok (.iload_n 3, 1) := by decide +kernel
theorem d_Vals_isLike_11 : decode prog_16_method_4_code 11 = .ok (.iaload, 1) := by decide +kernel
theorem d_Vals_isLike_12 : decode prog_16_method_4_code 12 = .ok (.if_icmp .ne 54, 3) := by decide +kernel
theorem d_Vals_isLike_66 : decode prog_16_method_4_code 66 = .ok (.iconst 0, 1) := by decide +kernel
theorem d_Vals_isLike_67 : decode prog_16_method_4_code 67 = .ok (.ireturn, 1) := by decide +kernel
theorem d_Vals_isLike_15 : decode prog_16_method_4_code 15 = .ok (.aload_n 0, 1) := by decide +kernel
theorem d_Vals_isLike_16 : decode prog_16_method_4_code 16 = .ok (.getfield 13, 3) := by decide +kernel
theorem d_Vals_isLike_19 : decode prog_16_method_4_code 19 = .ok (.iload_n 1, 1) := by decide +kernel
theorem d_Vals_isLike_20 : decode prog_16_method_4_code 20 = .ok (.iaload, 1) := by decide +kernel
theorem d_Vals_isLike_21 : decode prog_16_method_4_code 21 = .ok (.aload_n 2, 1) := by decide +kernel
theorem d_Vals_isLike_22 : decode prog_16_method_4_code 22 = .ok (.getfield 13, 3) := by decide +kernel
theorem d_Vals_isLike_25 : decode prog_16_method_4_code 25 = .ok (.iload_n 3, 1) := by decide +kernel
theorem d_Vals_isLike_26 : decode prog_16_method_4_code 26 = .ok (.iaload, 1) := by decide +kernel
theorem d_Vals_isLike_27 : decode prog_16_method_4_code 27 = .ok (.if_icmp .ne 39, 3) := by decide +kernel
theorem d_Vals_isLike_30 : decode prog_16_method_4_code 30 = .ok (.aload_n 0, 1) := by decide +kernel
theorem d_Vals_isLike_31 : decode prog_16_method_4_code 31 = .ok (.getfield 16, 3) := by decide +kernel
theorem d_Vals_isLike_34 : decode prog_16_method_4_code 34 = .ok (.iload_n 1, 1) := by decide +kernel
theorem d_Vals_isLike_35 : decode prog_16_method_4_code 35 = .ok (.laload, 1) := by decide +kernel
theorem d_Vals_isLike_36 : decode prog_16_method_4_code 36 = .ok (.aload_n 2, 1) := by decide +kernel
theorem d_Vals_isLike_37 : decode prog_16_method_4_code 37 = .ok (.getfield 16, 3) := by decide +kernel
theorem d_Vals_isLike_40 : decode prog_16_method_4_code 40 = .ok (.iload_n 3, 1) := by decide +kernel
theorem d_Vals_isLike_41 : decode prog_16_method_4_code 41 = .ok (.laload, 1) := by decide +kernel
theorem d_Vals_isLike_42 : decode prog_16_method_4_code 42 = .ok (.lcmp, 1) := by decide +kernel
theorem d_Vals_isLike_43 : decode prog_16_method_4_code 43 = .ok (.ifCond .ne 23, 3) := by decide +kernel
theorem d_Vals_isLike_46 : decode prog_16_method_4_code 46 = .ok (.aload_n 0, 1) := by decide +kernel
theorem d_Vals_isLike_47 : decode prog_16_method_4_code 47 = .ok (.getfield 20, 3) := by decide +kernel
theorem d_Vals_isLike_50 : decode prog_16_method_4_code 50 = .ok (.iload_n 1, 1) := by decide +kernel
theorem d_Vals_isLike_51 : decode prog_16_method_4_code 51 = .ok (.laload, 1) := by decide +kernel
theorem d_Vals_isLike_52 : decode prog_16_method_4_code 52 = .ok (.aload_n 2, 1) := by decide +kernel
theorem d_Vals_isLike_53 : decode prog_16_method_4_code 53 = .ok (.getfield 20, 3) := by decide +kernel
theorem d_Vals_isLike_56 : decode prog_16_method_4_code 56 = .ok (.iload_n 3, 1) := by decide +kernel
theorem d_Vals_isLike_57 : decode prog_16_method_4_code 57 = .ok (.laload, 1) := by decide +kernel
theorem d_Vals_isLike_58 : decode prog_16_method_4_code 58 = .ok (.lcmp, 1) := by decide +kernel
theorem d_Vals_isLike_59 : decode prog_16_method_4_code 59 = .ok (.ifCond .ne 7, 3) := by decide +kernel
theorem d_Vals_isLike_62 : decode prog_16_method_4_code 62 = .ok (.iconst 1, 1) := by decide +kernel
theorem d_Vals_isLike_63 : decode prog_16_method_4_code 63 = .ok (.goto 4, 3) := by decide +kernel
