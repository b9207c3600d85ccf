abbrev m_Mach_layNumber : am_M := (⟨"StowTongue$Machine", "layNumber", "(J)V"⟩, prog_6_method_10_code, 3, none)
theorem d_Mach_layNumber_0 : decode prog_6_method_10_code 0 = .ok (.aload_n 0, 1) := by decide +kernel
theorem d_Mach_layNumber_1 : decode prog_6_method_10_code 1 = .ok (.iconst 1, 1) := by decide +kernel
theorem d_Mach_layNumber_2 : decode prog_6_method_10_code 2 = .ok (.invokestatic 117, 3) := by decide +kernel
theorem w_1180 : (Cond.methodLink "StowTongue$Machine" 117 ⟨"StowTongue$Cell", "headOf", "(I)J"⟩ : Cond) ∈ am_tbl := am_w 1180 (by decide +kernel) (by decide +kernel)
theorem l_Mach_117 : am_L "StowTongue$Machine" 117 1 m_Cell_headOf := ⟨Or.inl w_1180, w_151, w_595, ⟨by decide, by decide⟩, by decide +kernel, by decide⟩
theorem d_Mach_layNumber_5 : decode prog_6_method_10_code 5 = .ok (.lload_n 1, 1) := by decide +kernel
theorem d_Mach_layNumber_6 : decode prog_6_method_10_code 6 = .ok (.invokevirtual 121, 3) := by decide +kernel
theorem d_Mach_layNumber_9 : decode prog_6_method_10_code 9 = .ok (.return_, 1) := by decide +kernel
abbrev m_Mach_loadRoot : am_M := (⟨"StowTongue$Machine", "loadRoot", "(I)V"⟩, prog_6_method_24_code, 2, none)
theorem d_Mach_loadRoot_0 : decode prog_6_method_24_code 0 = .ok (.iload_n 1, 1) := by decide +kernel
theorem d_Mach_loadRoot_1 : decode prog_6_method_24_code 1 = .ok (.ifCond .ge 12, 3) := by decide +kernel
theorem d_Mach_loadRoot_13 : decode prog_6_method_24_code 13 = .ok (.aload_n 0, 1) := by decide +kernel
theorem d_Mach_loadRoot_14 : decode prog_6_method_24_code 14 = .ok (.aload_n 0, 1) := by decide +kernel
theorem d_Mach_loadRoot_15 : decode prog_6_method_24_code 15 = .ok (.getfield 29, 3) := by decide +kernel
theorem d_Mach_loadRoot_18 : decode prog_6_method_24_code 18 = .ok (.getfield 219, 3) := by decide +kernel
theorem w_981 : (Cond.fieldLink "StowTongue$Machine" 219 "StowTongue$Store" "rootHead" "[J" : Cond) ∈ am_tbl := am_w 981 (by decide +kernel) (by decide +kernel)
theorem f_Mach_219 : am_F "StowTongue$Machine" 219 10 4 := ⟨_, rfl, cl_10, by decide, Or.inl w_981⟩
theorem d_Mach_loadRoot_21 : decode prog_6_method_24_code 21 = .ok (.iload_n 1, 1) := by decide +kernel
theorem d_Mach_loadRoot_22 : decode prog_6_method_24_code 22 = .ok (.laload, 1) := by decide +kernel
theorem d_Mach_loadRoot_23 : decode prog_6_method_24_code 23 = .ok (.aload_n 0, 1) := by decide +kernel
theorem d_Mach_loadRoot_24 : decode prog_6_method_24_code 24 = .ok (.getfield 29, 3) := by decide +kernel
theorem d_Mach_loadRoot_27 : decode prog_6_method_24_code 27 = .ok (.getfield 222, 3) := by decide +kernel
theorem w_985 : (Cond.fieldLink "StowTongue$Machine" 222 "StowTongue$Store" "rootTail" "[J" : Cond) ∈ am_tbl := am_w 985 (by decide +kernel) (by decide +kernel)
theorem f_Mach_222 : am_F "StowTongue$Machine" 222 10 5 := ⟨_, rfl, cl_10, by decide, Or.inl w_985⟩
theorem d_Mach_loadRoot_30 : decode prog_6_method_24_code 30 = .ok (.iload_n 1, 1) := by decide +kernel
theorem d_Mach_loadRoot_31 : decode prog_6_method_24_code 31 = .ok (.laload, 1) := by decide +kernel
theorem d_Mach_loadRoot_32 : decode prog_6_method_24_code 32 = .ok (.invokevirtual 121, 3) := by decide +kernel
theorem d_Mach_loadRoot_35 : decode prog_6_method_24_code 35 = .ok (.return_, 1) := by decide +kernel
theorem d_Mach_loadRoot_4 : decode prog_6_method_24_code 4 = .ok (.aload_n 0, 1) := by decide +kernel
theorem d_Mach_loadRoot_5 : decode prog_6_method_24_code 5 = .ok (.lconst 0, 1) := by decide +kernel
theorem d_Mach_loadRoot_6 : decode prog_6_method_24_code 6 = .ok (.lconst 0, 1) := by decide +kernel
theorem d_Mach_loadRoot_7 : decode prog_6_method_24_code 7 = .ok (.invokevirtual 121, 3) := by decide +kernel
theorem d_Mach_loadRoot_10 : decode prog_6_method_24_code 10 = .ok (.goto 25, 3) := by decide +kernel
abbrev m_Store_setRoot : am_M := (⟨"StowTongue$Store", "setRoot", "(JJJ)Z"⟩, prog_9_method_16_code, 8, (some FieldType.boolean))
theorem d_Store_setRoot_0 : decode prog_9_method_16_code 0 = .ok (.aload_n 0, 1) := by decide +kernel
theorem d_Store_setRoot_1 : decode prog_9_method_16_code 1 = .ok (.lload_n 1, 1) := by decide +kernel
theorem d_Store_setRoot_2 : decode prog_9_method_16_code 2 = .ok (.invokevirtual 83, 3) := by decide +kernel
theorem d_Store_setRoot_5 : decode prog_9_method_16_code 5 = .ok (.istore 7, 2) := by decide +kernel
theorem d_Store_setRoot_7 : decode prog_9_method_16_code 7 = .ok (.lload_n 3, 1) := by decide +kernel
theorem d_Store_setRoot_8 : decode prog_9_method_16_code 8 = .ok (.invokestatic 69, 3) := by decide +kernel
theorem w_1202 : (Cond.methodLink "StowTongue$Store" 69 ⟨"StowTongue$Cell", "sortOf", "(J)I"⟩ : Cond) ∈ am_tbl := am_w 1202 (by decide +kernel) (by decide +kernel)
theorem l_Store_69 : am_L "StowTongue$Store" 69 1 m_Cell_sortOf := ⟨Or.inl w_1202, w_151, w_1105, ⟨by decide, by decide⟩, by decide +kernel, by decide⟩
theorem d_Store_setRoot_11 : decode prog_9_method_16_code 11 = .ok (.ifCond .ne 11, 3) := by decide +kernel
theorem d_Store_setRoot_14 : decode prog_9_method_16_code 14 = .ok (.aload_n 0, 1) := by decide +kernel
theorem d_Store_setRoot_15 : decode prog_9_method_16_code 15 = .ok (.iload 7, 2) := by decide +kernel
theorem d_Store_setRoot_17 : decode prog_9_method_16_code 17 = .ok (.invokevirtual 86, 3) := by decide +kernel
theorem w_1203 : (Cond.methodLink "StowTongue$Store" 86 ⟨"StowTongue$Store", "dropRoot", "(I)V"⟩ : Cond) ∈ am_tbl := am_w 1203 (by decide +kernel) (by decide +kernel)
set_option maxRecDepth 100000 in
theorem w_1206 : (Cond.code ⟨"StowTongue$Store", "dropRoot", "(I)V"⟩ prog_9_method_17_code 2 none : Cond) ∈ am_tbl := am_w 1206 rfl rfl
theorem l_Store_86 : am_L "StowTongue$Store" 86 1 m_Store_dropRoot := ⟨Or.inl w_1203, w_169, w_1206, ⟨by decide, by decide⟩, by decide +kernel, by decide⟩
theorem w_1205 : (Cond.instanceMethod ⟨"StowTongue$Store", "dropRoot", "(I)V"⟩ : Cond) ∈ am_tbl := am_w 1205 (by decide +kernel) (by decide +kernel)
theorem w_58 : (Cond.selects "StowTongue$Store" ⟨"StowTongue$Store", "dropRoot", "(I)V"⟩ ⟨"StowTongue$Store", "dropRoot", "(I)V"⟩ : Cond) ∈ am_tbl := am_w 58 (by decide +kernel) (by decide +kernel)
theorem d_Store_setRoot_20 : decode prog_9_method_16_code 20 = .ok (.iconst 1, 1) := by decide +kernel
theorem d_Store_setRoot_21 : decode prog_9_method_16_code 21 = .ok (.ireturn, 1) := by decide +kernel
theorem d_Store_setRoot_22 : decode prog_9_method_16_code 22 = .ok (.iload 7, 2) := by decide +kernel
theorem d_Store_setRoot_24 : decode prog_9_method_16_code 24 = .ok (.ifCond .ge 30, 3) := by decide +kernel
theorem d_Store_setRoot_54 : decode prog_9_method_16_code 54 = .ok (.aload_n 0, 1) := by decide +kernel
theorem d_Store_setRoot_55 : decode prog_9_method_16_code 55 = .ok (.getfield 20, 3) := by decide +kernel
theorem d_Store_setRoot_58 : decode prog_9_method_16_code 58 = .ok (.iload 7, 2) := by decide +kernel
theorem d_Store_setRoot_60 : decode prog_9_method_16_code 60 = .ok (.lload_n 1, 1) := by decide +kernel
theorem d_Store_setRoot_61 : decode prog_9_method_16_code 61 = .ok (.lastore, 1) := by decide +kernel
theorem d_Store_setRoot_62 : decode prog_9_method_16_code 62 = .ok (.aload_n 0, 1) := by decide +kernel
theorem d_Store_setRoot_63 : decode prog_9_method_16_code 63 = .ok (.getfield 23, 3) := by decide +kernel
theorem d_Store_setRoot_66 : decode prog_9_method_16_code 66 = .ok (.iload 7, 2) := by decide +kernel
theorem d_Store_setRoot_68 : decode prog_9_method_16_code 68 = .ok (.lload_n 3, 1) := by decide +kernel
theorem d_Store_setRoot_69 : decode prog_9_method_16_code 69 = .ok (.lastore, 1) := by decide +kernel
theorem d_Store_setRoot_70 : decode prog_9_method_16_code 70 = .ok (.aload_n 0, 1) := by decide +kernel
theorem d_Store_setRoot_71 : decode prog_9_method_16_code 71 = .ok (.getfield 26, 3) := by decide +kernel
theorem d_Store_setRoot_74 : decode prog_9_method_16_code 74 = .ok (.iload 7, 2) := by decide +kernel
theorem d_Store_setRoot_76 : decode prog_9_method_16_code 76 = .ok (.lload 5, 2) := by decide +kernel
theorem d_Store_setRoot_78 : decode prog_9_method_16_code 78 = .ok (.lastore, 1) := by decide +kernel
theorem d_Store_setRoot_79 : decode prog_9_method_16_code 79 = .ok (.iconst 1, 1) := by decide +kernel
theorem d_Store_setRoot_80 : decode prog_9_method_16_code 80 = .ok (.ireturn, 1) := by decide +kernel
theorem d_Store_setRoot_27 : decode prog_9_method_16_code 27 = .ok (.aload_n 0, 1) := by decide +kernel
theorem d_Store_setRoot_28 : decode prog_9_method_16_code 28 = .ok (.getfield 47, 3) := by decide +kernel
theorem d_Store_setRoot_31 : decode prog_9_method_16_code 31 = .ok (.bipush 12, 2) := by decide +kernel
theorem d_Store_setRoot_33 : decode prog_9_method_16_code 33 = .ok (.if_icmp .lt 5, 3) := by decide +kernel
theorem d_Store_setRoot_38 : decode prog_9_method_16_code 38 = .ok (.aload_n 0, 1) := by decide +kernel
theorem d_Store_setRoot_39 : decode prog_9_method_16_code 39 = .ok (.getfield 47, 3) := by decide +kernel
theorem d_Store_setRoot_42 : decode prog_9_method_16_code 42 = .ok (.istore 7, 2) := by decide +kernel
theorem d_Store_setRoot_44 : decode prog_9_method_16_code 44 = .ok (.aload_n 0, 1) := by decide +kernel
theorem d_Store_setRoot_45 : decode prog_9_method_16_code 45 = .ok (.dup, 1) := by decide +kernel
theorem d_Store_setRoot_46 : decode prog_9_method_16_code 46 = .ok (.getfield 47, 3) := by decide +kernel
theorem d_Store_setRoot_49 : decode prog_9_method_16_code 49 = .ok (.iconst 1, 1) := by decide +kernel
theorem d_Store_setRoot_50 : decode prog_9_method_16_code 50 = .ok (.iadd, 1) := by decide +kernel
theorem d_Store_setRoot_51 : decode prog_9_method_16_code 51 = .ok (.putfield 47, 3) := by decide +kernel
theorem d_Store_setRoot_36 : decode prog_9_method_16_code 36 = .ok (.iconst 0, 1) := by decide +kernel
theorem d_Store_setRoot_37 : decode prog_9_method_16_code 37 = .ok (.ireturn, 1) := by decide +kernel
abbrev m_Store_fieldCell : am_M := (⟨"StowTongue$Store", "fieldCell", "(IJ)I"⟩, prog_9_method_11_code, 7, (some FieldType.int))
theorem d_Store_fieldCell_0 : decode prog_9_method_11_code 0 = .ok (.aload_n 0, 1) := by decide +kernel
theorem d_Store_fieldCell_1 : decode prog_9_method_11_code 1 = .ok (.iload_n 1, 1) := by decide +kernel
theorem d_Store_fieldCell_2 : decode prog_9_method_11_code 2 = .ok (.invokevirtual 62, 3) := by decide +kernel
theorem d_Store_fieldCell_5 : decode prog_9_method_11_code 5 = .ok (.istore 4, 2) := by decide +kernel
theorem d_Store_fieldCell_7 : decode prog_9_method_11_code 7 = .ok (.iload 4, 2) := by decide +kernel
theorem d_Store_fieldCell_9 : decode prog_9_method_11_code 9 = .ok (.aload_n 0, 1) := by decide +kernel
theorem d_Store_fieldCell_10 : decode prog_9_method_11_code 10 = .ok (.iload_n 1, 1) := by decide +kernel
theorem d_Store_fieldCell_11 : decode prog_9_method_11_code 11 = .ok (.invokevirtual 58, 3) := by decide +kernel
theorem d_Store_fieldCell_14 : decode prog_9_method_11_code 14 = .ok (.iadd, 1) := by decide +kernel
theorem d_Store_fieldCell_15 : decode prog_9_method_11_code 15 = .ok (.istore 5, 2) := by decide +kernel
theorem d_Store_fieldCell_17 : decode prog_9_method_11_code 17 = .ok (.iload 4, 2) := by decide +kernel
theorem d_Store_fieldCell_19 : decode prog_9_method_11_code 19 = .ok (.istore 6, 2) := by decide +kernel
theorem d_Store_fieldCell_21 : decode prog_9_method_11_code 21 = .ok (.iload 6, 2) := by decide +kernel
theorem d_Store_fieldCell_23 : decode prog_9_method_11_code 23 = .ok (.iconst 1, 1) := by decide +kernel
theorem d_Store_fieldCell_24 : decode prog_9_method_11_code 24 = .ok (.iadd, 1) := by decide +kernel
theorem d_Store_fieldCell_25 : decode prog_9_method_11_code 25 = .ok (.iload 5, 2) := by decide +kernel
theorem d_Store_fieldCell_27 : decode prog_9_method_11_code 27 = .ok (.if_icmp .ge 26, 3) := by decide +kernel
theorem d_Store_fieldCell_53 : decode prog_9_method_11_code 53 = .ok (.iconst (-1), 1) := by decide +kernel
theorem d_Store_fieldCell_54 : decode prog_9_method_11_code 54 = .ok (.ireturn, 1) := by decide +kernel
theorem d_Store_fieldCell_30 : decode prog_9_method_11_code 30 = .ok (.aload_n 0, 1) := by decide +kernel
theorem d_Store_fieldCell_31 : decode prog_9_method_11_code 31 = .ok (.getfield 9, 3) := by decide +kernel
theorem d_Store_fieldCell_34 : decode prog_9_method_11_code 34 = .ok (.iload 6, 2) := by decide +kernel
theorem d_Store_fieldCell_36 : decode prog_9_method_11_code 36 = .ok (.laload, 1) := by decide +kernel
theorem d_Store_fieldCell_37 : decode prog_9_method_11_code 37 = .ok (.lload_n 2, 1) := by decide +kernel
theorem d_Store_fieldCell_38 : decode prog_9_method_11_code 38 = .ok (.lcmp, 1) := by decide +kernel
theorem d_Store_fieldCell_39 : decode prog_9_method_11_code 39 = .ok (.ifCond .ne 8, 3) := by decide +kernel
theorem d_Store_fieldCell_42 : decode prog_9_method_11_code 42 = .ok (.iload 6, 2) := by decide +kernel
theorem d_Store_fieldCell_44 : decode prog_9_method_11_code 44 = .ok (.iconst 1, 1) := by decide +kernel
theorem d_Store_fieldCell_45 : decode prog_9_method_11_code 45 = .ok (.iadd, 1) := by decide +kernel
theorem d_Store_fieldCell_46 : decode prog_9_method_11_code 46 = .ok (.ireturn, 1) := by decide +kernel
theorem d_Store_fieldCell_47 : decode prog_9_method_11_code 47 = .ok (.iinc 6 2, 3) := by decide +kernel
theorem d_Store_fieldCell_50 : decode prog_9_method_11_code 50 = .ok (.goto (-29), 3) := by decide +kernel
abbrev m_Store_append : am_M := (⟨"StowTongue$Store", "append", "(IJJ)Z"⟩, prog_9_method_9_code, 8, (some FieldType.boolean))
theorem d_Store_append_0 : decode prog_9_method_9_code 0 = .ok (.aload_n 0, 1) := by decide +kernel
theorem d_Store_append_1 : decode prog_9_method_9_code 1 = .ok (.iload_n 1, 1) := by decide +kernel
theorem d_Store_append_2 : decode prog_9_method_9_code 2 = .ok (.invokevirtual 58, 3) := by decide +kernel
theorem d_Store_append_5 : decode prog_9_method_9_code 5 = .ok (.istore 6, 2) := by decide +kernel
theorem d_Store_append_7 : decode prog_9_method_9_code 7 = .ok (.aload_n 0, 1) := by decide +kernel
theorem d_Store_append_8 : decode prog_9_method_9_code 8 = .ok (.iload_n 1, 1) := by decide +kernel
theorem d_Store_append_9 : decode prog_9_method_9_code 9 = .ok (.invokevirtual 54, 3) := by decide +kernel
theorem d_Store_append_12 : decode prog_9_method_9_code 12 = .ok (.ifCond .eq 10, 3) := by decide +kernel
theorem d_Store_append_22 : decode prog_9_method_9_code 22 = .ok (.iconst 0, 1) := by decide +kernel
theorem d_Store_append_23 : decode prog_9_method_9_code 23 = .ok (.ireturn, 1) := by decide +kernel
theorem d_Store_append_15 : decode prog_9_method_9_code 15 = .ok (.iload 6, 2) := by decide +kernel
theorem d_Store_append_17 : decode prog_9_method_9_code 17 = .ok (.bipush 20, 2) := by decide +kernel
theorem d_Store_append_19 : decode prog_9_method_9_code 19 = .ok (.if_icmp .lt 5, 3) := by decide +kernel
theorem d_Store_append_24 : decode prog_9_method_9_code 24 = .ok (.aload_n 0, 1) := by decide +kernel
theorem d_Store_append_25 : decode prog_9_method_9_code 25 = .ok (.iload_n 1, 1) := by decide +kernel
theorem d_Store_append_26 : decode prog_9_method_9_code 26 = .ok (.invokevirtual 62, 3) := by decide +kernel
theorem d_Store_append_29 : decode prog_9_method_9_code 29 = .ok (.iload 6, 2) := by decide +kernel
theorem d_Store_append_31 : decode prog_9_method_9_code 31 = .ok (.iadd, 1) := by decide +kernel
theorem d_Store_append_32 : decode prog_9_method_9_code 32 = .ok (.istore 7, 2) := by decide +kernel
theorem d_Store_append_34 : decode prog_9_method_9_code 34 = .ok (.aload_n 0, 1) := by decide +kernel
theorem d_Store_append_35 : decode prog_9_method_9_code 35 = .ok (.getfield 9, 3) := by decide +kernel
theorem d_Store_append_38 : decode prog_9_method_9_code 38 = .ok (.iload 7, 2) := by decide +kernel
theorem d_Store_append_40 : decode prog_9_method_9_code 40 = .ok (.lload_n 2, 1) := by decide +kernel
theorem d_Store_append_41 : decode prog_9_method_9_code 41 = .ok (.lastore, 1) := by decide +kernel
theorem d_Store_append_42 : decode prog_9_method_9_code 42 = .ok (.aload_n 0, 1) := by decide +kernel
theorem d_Store_append_43 : decode prog_9_method_9_code 43 = .ok (.getfield 13, 3) := by decide +kernel
theorem d_Store_append_46 : decode prog_9_method_9_code 46 = .ok (.iload 7, 2) := by decide +kernel
theorem d_Store_append_48 : decode prog_9_method_9_code 48 = .ok (.lload 4, 2) := by decide +kernel
theorem d_Store_append_50 : decode prog_9_method_9_code 50 = .ok (.lastore, 1) := by decide +kernel
theorem d_Store_append_51 : decode prog_9_method_9_code 51 = .ok (.aload_n 0, 1) := by decide +kernel
theorem d_Store_append_52 : decode prog_9_method_9_code 52 = .ok (.getfield 16, 3) := by decide +kernel
theorem d_Store_append_55 : decode prog_9_method_9_code 55 = .ok (.iload_n 1, 1) := by decide +kernel
theorem d_Store_append_56 : decode prog_9_method_9_code 56 = .ok (.iload 6, 2) := by decide +kernel
theorem d_Store_append_58 : decode prog_9_method_9_code 58 = .ok (.iconst 1, 1) := by decide +kernel
theorem d_Store_append_59 : decode prog_9_method_9_code 59 = .ok (.iadd, 1) := by decide +kernel
theorem d_Store_append_60 : decode prog_9_method_9_code 60 = .ok (.iastore, 1) := by decide +kernel
theorem d_Store_append_61 : decode prog_9_method_9_code 61 = .ok (.iconst 1, 1) := by decide +kernel
theorem d_Store_append_62 : decode prog_9_method_9_code 62 = .ok (.ireturn, 1) := by decide +kernel
abbrev m_Mach_loadItem : am_M := (⟨"StowTongue$Machine", "loadItem", "()V"⟩, prog_6_method_28_code, 4, none)
theorem d_Mach_loadItem_0 : decode prog_6_method_28_code 0 = .ok (.aload_n 0, 1) := by decide +kernel
theorem d_Mach_loadItem_1 : decode prog_6_method_28_code 1 = .ok (.iconst 2, 1) := by decide +kernel
theorem d_Mach_loadItem_2 : decode prog_6_method_28_code 2 = .ok (.invokevirtual 133, 3) := by decide +kernel
theorem d_Mach_loadItem_5 : decode prog_6_method_28_code 5 = .ok (.istore_n 1, 1) := by decide +kernel
theorem d_Mach_loadItem_6 : decode prog_6_method_28_code 6 = .ok (.aload_n 0, 1) := by decide +kernel
theorem d_Mach_loadItem_7 : decode prog_6_method_28_code 7 = .ok (.iconst 1, 1) := by decide +kernel
theorem d_Mach_loadItem_8 : decode prog_6_method_28_code 8 = .ok (.invokevirtual 133, 3) := by decide +kernel
theorem d_Mach_loadItem_11 : decode prog_6_method_28_code 11 = .ok (.istore_n 2, 1) := by decide +kernel
theorem d_Mach_loadItem_12 : decode prog_6_method_28_code 12 = .ok (.aload_n 0, 1) := by decide +kernel
theorem d_Mach_loadItem_13 : decode prog_6_method_28_code 13 = .ok (.iload_n 1, 1) := by decide +kernel
theorem d_Mach_loadItem_14 : decode prog_6_method_28_code 14 = .ok (.putfield 54, 3) := by decide +kernel
theorem d_Mach_loadItem_17 : decode prog_6_method_28_code 17 = .ok (.aload_n 0, 1) := by decide +kernel
theorem d_Mach_loadItem_18 : decode prog_6_method_28_code 18 = .ok (.iload_n 1, 1) := by decide +kernel
theorem d_Mach_loadItem_19 : decode prog_6_method_28_code 19 = .ok (.invokevirtual 177, 3) := by decide +kernel
theorem d_Mach_loadItem_22 : decode prog_6_method_28_code 22 = .ok (.iconst 4, 1) := by decide +kernel
theorem d_Mach_loadItem_23 : decode prog_6_method_28_code 23 = .ok (.if_icmp .ne 69, 3) := by decide +kernel
theorem d_Mach_loadItem_26 : decode prog_6_method_28_code 26 = .ok (.aload_n 0, 1) := by decide +kernel
theorem d_Mach_loadItem_27 : decode prog_6_method_28_code 27 = .ok (.iload_n 2, 1) := by decide +kernel
theorem d_Mach_loadItem_28 : decode prog_6_method_28_code 28 = .ok (.aload_n 0, 1) := by decide +kernel
theorem d_Mach_loadItem_29 : decode prog_6_method_28_code 29 = .ok (.getfield 29, 3) := by decide +kernel
theorem d_Mach_loadItem_32 : decode prog_6_method_28_code 32 = .ok (.aload_n 0, 1) := by decide +kernel
theorem d_Mach_loadItem_33 : decode prog_6_method_28_code 33 = .ok (.iload_n 1, 1) := by decide +kernel
theorem d_Mach_loadItem_34 : decode prog_6_method_28_code 34 = .ok (.invokevirtual 225, 3) := by decide +kernel
theorem d_Mach_loadItem_37 : decode prog_6_method_28_code 37 = .ok (.invokevirtual 238, 3) := by decide +kernel
theorem d_Mach_loadItem_40 : decode prog_6_method_28_code 40 = .ok (.invokevirtual 241, 3) := by decide +kernel
theorem d_Mach_loadItem_43 : decode prog_6_method_28_code 43 = .ok (.ifCond .eq 127, 3) := by decide +kernel
theorem d_Mach_loadItem_170 : decode prog_6_method_28_code 170 = .ok (.return_, 1) := by decide +kernel
theorem d_Mach_loadItem_46 : decode prog_6_method_28_code 46 = .ok (.aload_n 0, 1) := by decide +kernel
theorem d_Mach_loadItem_47 : decode prog_6_method_28_code 47 = .ok (.getfield 29, 3) := by decide +kernel
theorem d_Mach_loadItem_50 : decode prog_6_method_28_code 50 = .ok (.aload_n 0, 1) := by decide +kernel
theorem d_Mach_loadItem_51 : decode prog_6_method_28_code 51 = .ok (.iload_n 1, 1) := by decide +kernel
theorem d_Mach_loadItem_52 : decode prog_6_method_28_code 52 = .ok (.invokevirtual 225, 3) := by decide +kernel
theorem d_Mach_loadItem_55 : decode prog_6_method_28_code 55 = .ok (.invokevirtual 245, 3) := by decide +kernel
theorem d_Mach_loadItem_58 : decode prog_6_method_28_code 58 = .ok (.aload_n 0, 1) := by decide +kernel
theorem d_Mach_loadItem_59 : decode prog_6_method_28_code 59 = .ok (.getfield 13, 3) := by decide +kernel
theorem d_Mach_loadItem_62 : decode prog_6_method_28_code 62 = .ok (.iload_n 2, 1) := by decide +kernel
theorem d_Mach_loadItem_63 : decode prog_6_method_28_code 63 = .ok (.laload, 1) := by decide +kernel
theorem d_Mach_loadItem_64 : decode prog_6_method_28_code 64 = .ok (.l2i, 1) := by decide +kernel
theorem d_Mach_loadItem_65 : decode prog_6_method_28_code 65 = .ok (.iadd, 1) := by decide +kernel
theorem d_Mach_loadItem_66 : decode prog_6_method_28_code 66 = .ok (.istore_n 3, 1) := by decide +kernel
theorem d_Mach_loadItem_67 : decode prog_6_method_28_code 67 = .ok (.aload_n 0, 1) := by decide +kernel
theorem d_Mach_loadItem_68 : decode prog_6_method_28_code 68 = .ok (.aload_n 0, 1) := by decide +kernel
theorem d_Mach_loadItem_69 : decode prog_6_method_28_code 69 = .ok (.getfield 29, 3) := by decide +kernel
theorem d_Mach_loadItem_72 : decode prog_6_method_28_code 72 = .ok (.getfield 232, 3) := by decide +kernel
theorem d_Mach_loadItem_75 : decode prog_6_method_28_code 75 = .ok (.iload_n 3, 1) := by decide +kernel
theorem d_Mach_loadItem_76 : decode prog_6_method_28_code 76 = .ok (.laload, 1) := by decide +kernel
theorem d_Mach_loadItem_77 : decode prog_6_method_28_code 77 = .ok (.aload_n 0, 1) := by decide +kernel
theorem d_Mach_loadItem_78 : decode prog_6_method_28_code 78 = .ok (.getfield 29, 3) := by decide +kernel
theorem d_Mach_loadItem_81 : decode prog_6_method_28_code 81 = .ok (.getfield 233, 3) := by decide +kernel
theorem d_Mach_loadItem_84 : decode prog_6_method_28_code 84 = .ok (.iload_n 3, 1) := by decide +kernel
theorem d_Mach_loadItem_85 : decode prog_6_method_28_code 85 = .ok (.laload, 1) := by decide +kernel
theorem d_Mach_loadItem_86 : decode prog_6_method_28_code 86 = .ok (.invokevirtual 121, 3) := by decide +kernel
theorem d_Mach_loadItem_89 : decode prog_6_method_28_code 89 = .ok (.goto 81, 3) := by decide +kernel
theorem d_Mach_loadItem_92 : decode prog_6_method_28_code 92 = .ok (.aload_n 0, 1) := by decide +kernel
theorem d_Mach_loadItem_93 : decode prog_6_method_28_code 93 = .ok (.iload_n 1, 1) := by decide +kernel
theorem d_Mach_loadItem_94 : decode prog_6_method_28_code 94 = .ok (.invokevirtual 177, 3) := by decide +kernel
theorem d_Mach_loadItem_97 : decode prog_6_method_28_code 97 = .ok (.iconst 2, 1) := by decide +kernel
theorem d_Mach_loadItem_98 : decode prog_6_method_28_code 98 = .ok (.if_icmp .ne 67, 3) := by decide +kernel
theorem d_Mach_loadItem_101 : decode prog_6_method_28_code 101 = .ok (.aload_n 0, 1) := by decide +kernel
theorem d_Mach_loadItem_102 : decode prog_6_method_28_code 102 = .ok (.iload_n 2, 1) := by decide +kernel
theorem d_Mach_loadItem_103 : decode prog_6_method_28_code 103 = .ok (.aload_n 0, 1) := by decide +kernel
theorem d_Mach_loadItem_104 : decode prog_6_method_28_code 104 = .ok (.getfield 7, 3) := by decide +kernel
theorem d_Mach_loadItem_107 : decode prog_6_method_28_code 107 = .ok (.iload_n 1, 1) := by decide +kernel
theorem d_Mach_loadItem_108 : decode prog_6_method_28_code 108 = .ok (.laload, 1) := by decide +kernel
theorem d_Mach_loadItem_109 : decode prog_6_method_28_code 109 = .ok (.aload_n 0, 1) := by decide +kernel
theorem d_Mach_loadItem_110 : decode prog_6_method_28_code 110 = .ok (.getfield 13, 3) := by decide +kernel
theorem d_Mach_loadItem_113 : decode prog_6_method_28_code 113 = .ok (.iload_n 1, 1) := by decide +kernel
theorem d_Mach_loadItem_114 : decode prog_6_method_28_code 114 = .ok (.laload, 1) := by decide +kernel
theorem d_Mach_loadItem_115 : decode prog_6_method_28_code 115 = .ok (.invokestatic 248, 3) := by decide +kernel
theorem w_1258 : (Cond.methodLink "StowTongue$Machine" 248 ⟨"StowTongue$Cell", "signsOf", "(JJ)I"⟩ : Cond) ∈ am_tbl := am_w 1258 (by decide +kernel) (by decide +kernel)
theorem l_Mach_248 : am_L "StowTongue$Machine" 248 2 m_Cell_signsOf := ⟨Or.inl w_1258, w_151, w_1162, ⟨by decide, by decide⟩, by decide +kernel, by decide⟩
theorem d_Mach_loadItem_118 : decode prog_6_method_28_code 118 = .ok (.invokevirtual 241, 3) := by decide +kernel
theorem d_Mach_loadItem_121 : decode prog_6_method_28_code 121 = .ok (.ifCond .eq 49, 3) := by decide +kernel
theorem d_Mach_loadItem_124 : decode prog_6_method_28_code 124 = .ok (.aload_n 0, 1) := by decide +kernel
theorem d_Mach_loadItem_125 : decode prog_6_method_28_code 125 = .ok (.getfield 7, 3) := by decide +kernel
theorem d_Mach_loadItem_128 : decode prog_6_method_28_code 128 = .ok (.iload_n 1, 1) := by decide +kernel
theorem d_Mach_loadItem_129 : decode prog_6_method_28_code 129 = .ok (.laload, 1) := by decide +kernel
theorem d_Mach_loadItem_130 : decode prog_6_method_28_code 130 = .ok (.aload_n 0, 1) := by decide +kernel
theorem d_Mach_loadItem_131 : decode prog_6_method_28_code 131 = .ok (.getfield 13, 3) := by decide +kernel
theorem d_Mach_loadItem_134 : decode prog_6_method_28_code 134 = .ok (.iload_n 1, 1) := by decide +kernel
theorem d_Mach_loadItem_135 : decode prog_6_method_28_code 135 = .ok (.laload, 1) := by decide +kernel
theorem d_Mach_loadItem_136 : decode prog_6_method_28_code 136 = .ok (.aload_n 0, 1) := by decide +kernel
theorem d_Mach_loadItem_137 : decode prog_6_method_28_code 137 = .ok (.getfield 13, 3) := by decide +kernel
theorem d_Mach_loadItem_140 : decode prog_6_method_28_code 140 = .ok (.iload_n 2, 1) := by decide +kernel
theorem d_Mach_loadItem_141 : decode prog_6_method_28_code 141 = .ok (.laload, 1) := by decide +kernel
theorem d_Mach_loadItem_142 : decode prog_6_method_28_code 142 = .ok (.l2i, 1) := by decide +kernel
theorem d_Mach_loadItem_143 : decode prog_6_method_28_code 143 = .ok (.invokestatic 252, 3) := by decide +kernel
theorem w_1259 : (Cond.methodLink "StowTongue$Machine" 252 ⟨"StowTongue$Cell", "signAt", "(JJI)I"⟩ : Cond) ∈ am_tbl := am_w 1259 (by decide +kernel) (by decide +kernel)
theorem l_Mach_252 : am_L "StowTongue$Machine" 252 3 m_Cell_signAt := ⟨Or.inl w_1259, w_151, w_1165, ⟨by decide, by decide⟩, by decide +kernel, by decide⟩
theorem d_Mach_loadItem_146 : decode prog_6_method_28_code 146 = .ok (.istore_n 3, 1) := by decide +kernel
theorem d_Mach_loadItem_147 : decode prog_6_method_28_code 147 = .ok (.aload_n 0, 1) := by decide +kernel
theorem d_Mach_loadItem_148 : decode prog_6_method_28_code 148 = .ok (.iconst 2, 1) := by decide +kernel
theorem d_Mach_loadItem_149 : decode prog_6_method_28_code 149 = .ok (.invokestatic 117, 3) := by decide +kernel
theorem d_Mach_loadItem_152 : decode prog_6_method_28_code 152 = .ok (.iload_n 3, 1) := by decide +kernel
theorem d_Mach_loadItem_153 : decode prog_6_method_28_code 153 = .ok (.iconst 0, 1) := by decide +kernel
theorem d_Mach_loadItem_154 : decode prog_6_method_28_code 154 = .ok (.invokestatic 256, 3) := by decide +kernel
theorem w_1260 : (Cond.methodLink "StowTongue$Machine" 256 ⟨"StowTongue$Cell", "placed", "(II)J"⟩ : Cond) ∈ am_tbl := am_w 1260 (by decide +kernel) (by decide +kernel)
theorem l_Mach_256 : am_L "StowTongue$Machine" 256 2 m_Cell_placed := ⟨Or.inl w_1260, w_151, w_259, ⟨by decide, by decide⟩, by decide +kernel, by decide⟩
theorem d_Mach_loadItem_157 : decode prog_6_method_28_code 157 = .ok (.lor, 1) := by decide +kernel
theorem d_Mach_loadItem_158 : decode prog_6_method_28_code 158 = .ok (.lconst 0, 1) := by decide +kernel
theorem d_Mach_loadItem_159 : decode prog_6_method_28_code 159 = .ok (.invokevirtual 121, 3) := by decide +kernel
theorem d_Mach_loadItem_162 : decode prog_6_method_28_code 162 = .ok (.goto 8, 3) := by decide +kernel
theorem d_Mach_loadItem_165 : decode prog_6_method_28_code 165 = .ok (.aload_n 0, 1) := by decide +kernel
theorem d_Mach_loadItem_166 : decode prog_6_method_28_code 166 = .ok (.iconst 2, 1) := by decide +kernel
theorem d_Mach_loadItem_167 : decode prog_6_method_28_code 167 = .ok (.invokevirtual 106, 3) := by decide +kernel
abbrev m_Mach_makeRow : am_M := (⟨"StowTongue$Machine", "makeRow", "(I)V"⟩, prog_6_method_32_code, 5, none)
theorem d_Mach_makeRow_0 : decode prog_6_method_32_code 0 = .ok (.aload_n 0, 1) := by decide +kernel
theorem d_Mach_makeRow_1 : decode prog_6_method_32_code 1 = .ok (.iload_n 1, 1) := by decide +kernel
theorem d_Mach_makeRow_2 : decode prog_6_method_32_code 2 = .ok (.invokevirtual 133, 3) := by decide +kernel
theorem d_Mach_makeRow_5 : decode prog_6_method_32_code 5 = .ok (.istore_n 2, 1) := by decide +kernel
theorem d_Mach_makeRow_6 : decode prog_6_method_32_code 6 = .ok (.aload_n 0, 1) := by decide +kernel
theorem d_Mach_makeRow_7 : decode prog_6_method_32_code 7 = .ok (.getfield 29, 3) := by decide +kernel
theorem d_Mach_makeRow_10 : decode prog_6_method_32_code 10 = .ok (.invokevirtual 275, 3) := by decide +kernel
theorem w_1273 : (Cond.methodLink "StowTongue$Machine" 275 ⟨"StowTongue$Store", "make", "()I"⟩ : Cond) ∈ am_tbl := am_w 1273 (by decide +kernel) (by decide +kernel)
set_option maxRecDepth 100000 in
theorem w_1276 : (Cond.code ⟨"StowTongue$Store", "make", "()I"⟩ prog_9_method_5_code 2 (some FieldType.int) : Cond) ∈ am_tbl := am_w 1276 rfl rfl
theorem l_Mach_275 : am_L "StowTongue$Machine" 275 0 m_Store_make := ⟨Or.inl w_1273, w_169, w_1276, ⟨by decide, by decide⟩, by decide +kernel, by decide⟩
theorem w_1274 : (Cond.instanceMethod ⟨"StowTongue$Store", "make", "()I"⟩ : Cond) ∈ am_tbl := am_w 1274 (by decide +kernel) (by decide +kernel)
theorem w_1275 : (Cond.selects "StowTongue$Store" ⟨"StowTongue$Store", "make", "()I"⟩ ⟨"StowTongue$Store", "make", "()I"⟩ : Cond) ∈ am_tbl := am_w 1275 (by decide +kernel) (by decide +kernel)
theorem d_Mach_makeRow_13 : decode prog_6_method_32_code 13 = .ok (.istore_n 3, 1) := by decide +kernel
theorem d_Mach_makeRow_14 : decode prog_6_method_32_code 14 = .ok (.iload_n 3, 1) := by decide +kernel
theorem d_Mach_makeRow_15 : decode prog_6_method_32_code 15 = .ok (.ifCond .ge 10, 3) := by decide +kernel
theorem d_Mach_makeRow_25 : decode prog_6_method_32_code 25 = .ok (.iload_n 2, 1) := by decide +kernel
theorem d_Mach_makeRow_26 : decode prog_6_method_32_code 26 = .ok (.istore 4, 2) := by decide +kernel
theorem d_Mach_makeRow_28 : decode prog_6_method_32_code 28 = .ok (.iload 4, 2) := by decide +kernel
theorem d_Mach_makeRow_30 : decode prog_6_method_32_code 30 = .ok (.aload_n 0, 1) := by decide +kernel
theorem d_Mach_makeRow_31 : decode prog_6_method_32_code 31 = .ok (.getfield 54, 3) := by decide +kernel
theorem d_Mach_makeRow_34 : decode prog_6_method_32_code 34 = .ok (.if_icmp .ge 40, 3) := by decide +kernel
theorem d_Mach_makeRow_74 : decode prog_6_method_32_code 74 = .ok (.aload_n 0, 1) := by decide +kernel
theorem d_Mach_makeRow_75 : decode prog_6_method_32_code 75 = .ok (.iload_n 2, 1) := by decide +kernel
theorem d_Mach_makeRow_76 : decode prog_6_method_32_code 76 = .ok (.putfield 54, 3) := by decide +kernel
theorem d_Mach_makeRow_79 : decode prog_6_method_32_code 79 = .ok (.aload_n 0, 1) := by decide +kernel
theorem d_Mach_makeRow_80 : decode prog_6_method_32_code 80 = .ok (.iconst 4, 1) := by decide +kernel
theorem d_Mach_makeRow_81 : decode prog_6_method_32_code 81 = .ok (.invokestatic 117, 3) := by decide +kernel
theorem d_Mach_makeRow_84 : decode prog_6_method_32_code 84 = .ok (.iload_n 3, 1) := by decide +kernel
theorem d_Mach_makeRow_85 : decode prog_6_method_32_code 85 = .ok (.i2l, 1) := by decide +kernel
theorem d_Mach_makeRow_86 : decode prog_6_method_32_code 86 = .ok (.invokevirtual 121, 3) := by decide +kernel
theorem d_Mach_makeRow_89 : decode prog_6_method_32_code 89 = .ok (.return_, 1) := by decide +kernel
theorem d_Mach_makeRow_37 : decode prog_6_method_32_code 37 = .ok (.aload_n 0, 1) := by decide +kernel
theorem d_Mach_makeRow_38 : decode prog_6_method_32_code 38 = .ok (.getfield 29, 3) := by decide +kernel
theorem d_Mach_makeRow_41 : decode prog_6_method_32_code 41 = .ok (.iload_n 3, 1) := by decide +kernel
theorem d_Mach_makeRow_42 : decode prog_6_method_32_code 42 = .ok (.aload_n 0, 1) := by decide +kernel
theorem d_Mach_makeRow_43 : decode prog_6_method_32_code 43 = .ok (.getfield 7, 3) := by decide +kernel
theorem d_Mach_makeRow_46 : decode prog_6_method_32_code 46 = .ok (.iload 4, 2) := by decide +kernel
theorem d_Mach_makeRow_48 : decode prog_6_method_32_code 48 = .ok (.laload, 1) := by decide +kernel
theorem d_Mach_makeRow_49 : decode prog_6_method_32_code 49 = .ok (.aload_n 0, 1) := by decide +kernel
theorem d_Mach_makeRow_50 : decode prog_6_method_32_code 50 = .ok (.getfield 13, 3) := by decide +kernel
theorem d_Mach_makeRow_53 : decode prog_6_method_32_code 53 = .ok (.iload 4, 2) := by decide +kernel
theorem d_Mach_makeRow_55 : decode prog_6_method_32_code 55 = .ok (.laload, 1) := by decide +kernel
theorem d_Mach_makeRow_56 : decode prog_6_method_32_code 56 = .ok (.invokevirtual 278, 3) := by decide +kernel
theorem w_1281 : (Cond.methodLink "StowTongue$Machine" 278 ⟨"StowTongue$Store", "append", "(IJJ)Z"⟩ : Cond) ∈ am_tbl := am_w 1281 (by decide +kernel) (by decide +kernel)
set_option maxRecDepth 100000 in
theorem w_1243 : (Cond.code ⟨"StowTongue$Store", "append", "(IJJ)Z"⟩ prog_9_method_9_code 8 (some FieldType.boolean) : Cond) ∈ am_tbl := am_w 1243 rfl rfl
theorem l_Mach_278 : am_L "StowTongue$Machine" 278 3 m_Store_append := ⟨Or.inl w_1281, w_169, w_1243, ⟨by decide, by decide⟩, by decide +kernel, by decide⟩
theorem w_1241 : (Cond.instanceMethod ⟨"StowTongue$Store", "append", "(IJJ)Z"⟩ : Cond) ∈ am_tbl := am_w 1241 (by decide +kernel) (by decide +kernel)
theorem w_1242 : (Cond.selects "StowTongue$Store" ⟨"StowTongue$Store", "append", "(IJJ)Z"⟩ ⟨"StowTongue$Store", "append", "(IJJ)Z"⟩ : Cond) ∈ am_tbl := am_w 1242 (by decide +kernel) (by decide +kernel)
theorem d_Mach_makeRow_59 : decode prog_6_method_32_code 59 = .ok (.ifCond .ne 9, 3) := by decide +kernel
theorem d_Mach_makeRow_62 : decode prog_6_method_32_code 62 = .ok (.aload_n 0, 1) := by decide +kernel
theorem d_Mach_makeRow_63 : decode prog_6_method_32_code 63 = .ok (.iconst 4, 1) := by decide +kernel
theorem d_Mach_makeRow_64 : decode prog_6_method_32_code 64 = .ok (.invokevirtual 106, 3) := by decide +kernel
theorem d_Mach_makeRow_67 : decode prog_6_method_32_code 67 = .ok (.return_, 1) := by decide +kernel
theorem d_Mach_makeRow_68 : decode prog_6_method_32_code 68 = .ok (.iinc 4 1, 3) := by decide +kernel
theorem d_Mach_makeRow_71 : decode prog_6_method_32_code 71 = .ok (.goto (-43), 3) := by decide +kernel
theorem d_Mach_makeRow_18 : decode prog_6_method_32_code 18 = .ok (.aload_n 0, 1) := by decide +kernel
theorem d_Mach_makeRow_19 : decode prog_6_method_32_code 19 = .ok (.bipush 8, 2) := by decide +kernel
theorem d_Mach_makeRow_21 : decode prog_6_method_32_code 21 = .ok (.invokevirtual 106, 3) := by decide +kernel
theorem d_Mach_makeRow_24 : decode prog_6_method_32_code 24 = .ok (.return_, 1) := by decide +kernel
abbrev m_Mach_size : am_M := (⟨"StowTongue$Machine", "size", "()V"⟩, prog_6_method_33_code, 2, none)
theorem d_Mach_size_0 : decode prog_6_method_33_code 0 = .ok (.aload_n 0, 1) := by decide +kernel
theorem d_Mach_size_1 : decode prog_6_method_33_code 1 = .ok (.iconst 1, 1) := by decide +kernel
theorem d_Mach_size_2 : decode prog_6_method_33_code 2 = .ok (.invokevirtual 133, 3) := by decide +kernel
theorem d_Mach_size_5 : decode prog_6_method_33_code 5 = .ok (.istore_n 1, 1) := by decide +kernel
theorem d_Mach_size_6 : decode prog_6_method_33_code 6 = .ok (.aload_n 0, 1) := by decide +kernel
theorem d_Mach_size_7 : decode prog_6_method_33_code 7 = .ok (.iload_n 1, 1) := by decide +kernel
theorem d_Mach_size_8 : decode prog_6_method_33_code 8 = .ok (.putfield 54, 3) := by decide +kernel
theorem d_Mach_size_11 : decode prog_6_method_33_code 11 = .ok (.aload_n 0, 1) := by decide +kernel
theorem d_Mach_size_12 : decode prog_6_method_33_code 12 = .ok (.iload_n 1, 1) := by decide +kernel
theorem d_Mach_size_13 : decode prog_6_method_33_code 13 = .ok (.invokevirtual 177, 3) := by decide +kernel
theorem d_Mach_size_16 : decode prog_6_method_33_code 16 = .ok (.tableswitch 93 2 4 #[28, 51, 73], 28) := by decide +kernel
theorem d_Mach_size_44 : decode prog_6_method_33_code 44 = .ok (.aload_n 0, 1) := by decide +kernel
theorem d_Mach_size_45 : decode prog_6_method_33_code 45 = .ok (.aload_n 0, 1) := by decide +kernel
theorem d_Mach_size_46 : decode prog_6_method_33_code 46 = .ok (.getfield 7, 3) := by decide +kernel
theorem d_Mach_size_49 : decode prog_6_method_33_code 49 = .ok (.iload_n 1, 1) := by decide +kernel
theorem d_Mach_size_50 : decode prog_6_method_33_code 50 = .ok (.laload, 1) := by decide +kernel
theorem d_Mach_size_51 : decode prog_6_method_33_code 51 = .ok (.aload_n 0, 1) := by decide +kernel
theorem d_Mach_size_52 : decode prog_6_method_33_code 52 = .ok (.getfield 13, 3) := by decide +kernel
theorem d_Mach_size_55 : decode prog_6_method_33_code 55 = .ok (.iload_n 1, 1) := by decide +kernel
theorem d_Mach_size_56 : decode prog_6_method_33_code 56 = .ok (.laload, 1) := by decide +kernel
theorem d_Mach_size_57 : decode prog_6_method_33_code 57 = .ok (.invokestatic 248, 3) := by decide +kernel
theorem d_Mach_size_60 : decode prog_6_method_33_code 60 = .ok (.i2l, 1) := by decide +kernel
theorem d_Mach_size_61 : decode prog_6_method_33_code 61 = .ok (.invokevirtual 125, 3) := by decide +kernel
theorem w_1176 : (Cond.methodLink "StowTongue$Machine" 125 ⟨"StowTongue$Machine", "layNumber", "(J)V"⟩ : Cond) ∈ am_tbl := am_w 1176 (by decide +kernel) (by decide +kernel)
set_option maxRecDepth 100000 in
theorem w_1179 : (Cond.code ⟨"StowTongue$Machine", "layNumber", "(J)V"⟩ prog_6_method_10_code 3 none : Cond) ∈ am_tbl := am_w 1179 rfl rfl
theorem l_Mach_125 : am_L "StowTongue$Machine" 125 1 m_Mach_layNumber := ⟨Or.inl w_1176, w_157, w_1179, ⟨by decide, by decide⟩, by decide +kernel, by decide⟩
theorem w_1178 : (Cond.instanceMethod ⟨"StowTongue$Machine", "layNumber", "(J)V"⟩ : Cond) ∈ am_tbl := am_w 1178 (by decide +kernel) (by decide +kernel)
theorem w_54 : (Cond.selects "StowTongue$Machine" ⟨"StowTongue$Machine", "layNumber", "(J)V"⟩ ⟨"StowTongue$Machine", "layNumber", "(J)V"⟩ : Cond) ∈ am_tbl := am_w 54 (by decide +kernel) (by decide +kernel)
theorem d_Mach_size_64 : decode prog_6_method_33_code 64 = .ok (.goto 50, 3) := by decide +kernel
theorem d_Mach_size_114 : decode prog_6_method_33_code 114 = .ok (.return_, 1) := by decide +kernel
theorem d_Mach_size_67 : decode prog_6_method_33_code 67 = .ok (.aload_n 0, 1) := by decide +kernel
theorem d_Mach_size_68 : decode prog_6_method_33_code 68 = .ok (.aload_n 0, 1) := by decide +kernel
theorem d_Mach_size_69 : decode prog_6_method_33_code 69 = .ok (.getfield 29, 3) := by decide +kernel
theorem d_Mach_size_72 : decode prog_6_method_33_code 72 = .ok (.aload_n 0, 1) := by decide +kernel
theorem d_Mach_size_73 : decode prog_6_method_33_code 73 = .ok (.iload_n 1, 1) := by decide +kernel
theorem d_Mach_size_74 : decode prog_6_method_33_code 74 = .ok (.invokevirtual 225, 3) := by decide +kernel
theorem d_Mach_size_77 : decode prog_6_method_33_code 77 = .ok (.invokevirtual 238, 3) := by decide +kernel
theorem d_Mach_size_80 : decode prog_6_method_33_code 80 = .ok (.iconst 2, 1) := by decide +kernel
theorem d_Mach_size_81 : decode prog_6_method_33_code 81 = .ok (.idiv, 1) := by decide +kernel
theorem d_Mach_size_82 : decode prog_6_method_33_code 82 = .ok (.i2l, 1) := by decide +kernel
theorem d_Mach_size_83 : decode prog_6_method_33_code 83 = .ok (.invokevirtual 125, 3) := by decide +kernel
theorem d_Mach_size_86 : decode prog_6_method_33_code 86 = .ok (.goto 28, 3) := by decide +kernel
theorem d_Mach_size_89 : decode prog_6_method_33_code 89 = .ok (.aload_n 0, 1) := by decide +kernel
theorem d_Mach_size_90 : decode prog_6_method_33_code 90 = .ok (.aload_n 0, 1) := by decide +kernel
theorem d_Mach_size_91 : decode prog_6_method_33_code 91 = .ok (.getfield 29, 3) := by decide +kernel
theorem d_Mach_size_94 : decode prog_6_method_33_code 94 = .ok (.aload_n 0, 1) := by decide +kernel
theorem d_Mach_size_95 : decode prog_6_method_33_code 95 = .ok (.iload_n 1, 1) := by decide +kernel
theorem d_Mach_size_96 : decode prog_6_method_33_code 96 = .ok (.invokevirtual 225, 3) := by decide +kernel
theorem d_Mach_size_99 : decode prog_6_method_33_code 99 = .ok (.invokevirtual 238, 3) := by decide +kernel
theorem d_Mach_size_102 : decode prog_6_method_33_code 102 = .ok (.i2l, 1) := by decide +kernel
theorem d_Mach_size_103 : decode prog_6_method_33_code 103 = .ok (.invokevirtual 125, 3) := by decide +kernel
theorem d_Mach_size_106 : decode prog_6_method_33_code 106 = .ok (.goto 8, 3) := by decide +kernel
theorem d_Mach_size_109 : decode prog_6_method_33_code 109 = .ok (.aload_n 0, 1) := by decide +kernel
theorem d_Mach_size_110 : decode prog_6_method_33_code 110 = .ok (.iconst 2, 1) := by decide +kernel
theorem d_Mach_size_111 : decode prog_6_method_33_code 111 = .ok (.invokevirtual 106, 3) := by decide +kernel
abbrev m_Mach_push : am_M := (⟨"StowTongue$Machine", "push", "()V"⟩, prog_6_method_34_code, 3, none)
theorem d_Mach_push_0 : decode prog_6_method_34_code 0 = .ok (.aload_n 0, 1) := by decide +kernel
theorem d_Mach_push_1 : decode prog_6_method_34_code 1 = .ok (.iconst 2, 1) := by decide +kernel
theorem d_Mach_push_2 : decode prog_6_method_34_code 2 = .ok (.invokevirtual 133, 3) := by decide +kernel
theorem d_Mach_push_5 : decode prog_6_method_34_code 5 = .ok (.istore_n 1, 1) := by decide +kernel
theorem d_Mach_push_6 : decode prog_6_method_34_code 6 = .ok (.aload_n 0, 1) := by decide +kernel
theorem d_Mach_push_7 : decode prog_6_method_34_code 7 = .ok (.iconst 1, 1) := by decide +kernel
theorem d_Mach_push_8 : decode prog_6_method_34_code 8 = .ok (.invokevirtual 133, 3) := by decide +kernel
theorem d_Mach_push_11 : decode prog_6_method_34_code 11 = .ok (.istore_n 2, 1) := by decide +kernel
theorem d_Mach_push_12 : decode prog_6_method_34_code 12 = .ok (.aload_n 0, 1) := by decide +kernel
theorem d_Mach_push_13 : decode prog_6_method_34_code 13 = .ok (.iload_n 2, 1) := by decide +kernel
theorem d_Mach_push_14 : decode prog_6_method_34_code 14 = .ok (.putfield 54, 3) := by decide +kernel
theorem d_Mach_push_17 : decode prog_6_method_34_code 17 = .ok (.aload_n 0, 1) := by decide +kernel
theorem d_Mach_push_18 : decode prog_6_method_34_code 18 = .ok (.iload_n 1, 1) := by decide +kernel
theorem d_Mach_push_19 : decode prog_6_method_34_code 19 = .ok (.invokevirtual 177, 3) := by decide +kernel
theorem d_Mach_push_22 : decode prog_6_method_34_code 22 = .ok (.iconst 4, 1) := by decide +kernel
theorem d_Mach_push_23 : decode prog_6_method_34_code 23 = .ok (.if_icmp .eq 11, 3) := by decide +kernel
theorem d_Mach_push_34 : decode prog_6_method_34_code 34 = .ok (.aload_n 0, 1) := by decide +kernel
theorem d_Mach_push_35 : decode prog_6_method_34_code 35 = .ok (.getfield 29, 3) := by decide +kernel
theorem d_Mach_push_38 : decode prog_6_method_34_code 38 = .ok (.aload_n 0, 1) := by decide +kernel
theorem d_Mach_push_39 : decode prog_6_method_34_code 39 = .ok (.iload_n 1, 1) := by decide +kernel
theorem d_Mach_push_40 : decode prog_6_method_34_code 40 = .ok (.invokevirtual 225, 3) := by decide +kernel
theorem d_Mach_push_43 : decode prog_6_method_34_code 43 = .ok (.aload_n 0, 1) := by decide +kernel
theorem d_Mach_push_44 : decode prog_6_method_34_code 44 = .ok (.getfield 7, 3) := by decide +kernel
theorem d_Mach_push_47 : decode prog_6_method_34_code 47 = .ok (.iload_n 2, 1) := by decide +kernel
theorem d_Mach_push_48 : decode prog_6_method_34_code 48 = .ok (.laload, 1) := by decide +kernel
theorem d_Mach_push_49 : decode prog_6_method_34_code 49 = .ok (.aload_n 0, 1) := by decide +kernel
theorem d_Mach_push_50 : decode prog_6_method_34_code 50 = .ok (.getfield 13, 3) := by decide +kernel
theorem d_Mach_push_53 : decode prog_6_method_34_code 53 = .ok (.iload_n 2, 1) := by decide +kernel
theorem d_Mach_push_54 : decode prog_6_method_34_code 54 = .ok (.laload, 1) := by decide +kernel
theorem d_Mach_push_55 : decode prog_6_method_34_code 55 = .ok (.invokevirtual 278, 3) := by decide +kernel
theorem d_Mach_push_58 : decode prog_6_method_34_code 58 = .ok (.ifCond .ne 8, 3) := by decide +kernel
theorem d_Mach_push_61 : decode prog_6_method_34_code 61 = .ok (.aload_n 0, 1) := by decide +kernel
theorem d_Mach_push_62 : decode prog_6_method_34_code 62 = .ok (.iconst 4, 1) := by decide +kernel
theorem d_Mach_push_63 : decode prog_6_method_34_code 63 = .ok (.invokevirtual 106, 3) := by decide +kernel
theorem d_Mach_push_66 : decode prog_6_method_34_code 66 = .ok (.return_, 1) := by decide +kernel
theorem d_Mach_push_26 : decode prog_6_method_34_code 26 = .ok (.aload_n 0, 1) := by decide +kernel
theorem d_Mach_push_27 : decode prog_6_method_34_code 27 = .ok (.iconst 2, 1) := by decide +kernel
theorem d_Mach_push_28 : decode prog_6_method_34_code 28 = .ok (.invokevirtual 106, 3) := by decide +kernel
theorem d_Mach_push_31 : decode prog_6_method_34_code 31 = .ok (.goto 35, 3) := by decide +kernel
abbrev m_Mach_pop : am_M := (⟨"StowTongue$Machine", "pop", "()V"⟩, prog_6_method_35_code, 5, none)
theorem d_Mach_pop_0 : decode prog_6_method_35_code 0 = .ok (.aload_n 0, 1) := by decide +kernel
theorem d_Mach_pop_1 : decode prog_6_method_35_code 1 = .ok (.iconst 1, 1) := by decide +kernel
theorem d_Mach_pop_2 : decode prog_6_method_35_code 2 = .ok (.invokevirtual 133, 3) := by decide +kernel
theorem d_Mach_pop_5 : decode prog_6_method_35_code 5 = .ok (.istore_n 1, 1) := by decide +kernel
theorem d_Mach_pop_6 : decode prog_6_method_35_code 6 = .ok (.aload_n 0, 1) := by decide +kernel
theorem d_Mach_pop_7 : decode prog_6_method_35_code 7 = .ok (.iload_n 1, 1) := by decide +kernel
theorem d_Mach_pop_8 : decode prog_6_method_35_code 8 = .ok (.invokevirtual 177, 3) := by decide +kernel
theorem d_Mach_pop_11 : decode prog_6_method_35_code 11 = .ok (.iconst 4, 1) := by decide +kernel
theorem d_Mach_pop_12 : decode prog_6_method_35_code 12 = .ok (.if_icmp .eq 9, 3) := by decide +kernel
theorem d_Mach_pop_21 : decode prog_6_method_35_code 21 = .ok (.aload_n 0, 1) := by decide +kernel
theorem d_Mach_pop_22 : decode prog_6_method_35_code 22 = .ok (.iload_n 1, 1) := by decide +kernel
theorem d_Mach_pop_23 : decode prog_6_method_35_code 23 = .ok (.invokevirtual 225, 3) := by decide +kernel
theorem d_Mach_pop_26 : decode prog_6_method_35_code 26 = .ok (.istore_n 2, 1) := by decide +kernel
theorem d_Mach_pop_27 : decode prog_6_method_35_code 27 = .ok (.aload_n 0, 1) := by decide +kernel
theorem d_Mach_pop_28 : decode prog_6_method_35_code 28 = .ok (.getfield 29, 3) := by decide +kernel
theorem d_Mach_pop_31 : decode prog_6_method_35_code 31 = .ok (.iload_n 2, 1) := by decide +kernel
theorem d_Mach_pop_32 : decode prog_6_method_35_code 32 = .ok (.invokevirtual 238, 3) := by decide +kernel
theorem d_Mach_pop_35 : decode prog_6_method_35_code 35 = .ok (.istore_n 3, 1) := by decide +kernel
theorem d_Mach_pop_36 : decode prog_6_method_35_code 36 = .ok (.iload_n 3, 1) := by decide +kernel
theorem d_Mach_pop_37 : decode prog_6_method_35_code 37 = .ok (.ifCond .ne 9, 3) := by decide +kernel
theorem d_Mach_pop_40 : decode prog_6_method_35_code 40 = .ok (.aload_n 0, 1) := by decide +kernel
theorem d_Mach_pop_41 : decode prog_6_method_35_code 41 = .ok (.iconst 3, 1) := by decide +kernel
theorem d_Mach_pop_42 : decode prog_6_method_35_code 42 = .ok (.invokevirtual 106, 3) := by decide +kernel
theorem d_Mach_pop_45 : decode prog_6_method_35_code 45 = .ok (.return_, 1) := by decide +kernel
theorem d_Mach_pop_46 : decode prog_6_method_35_code 46 = .ok (.aload_n 0, 1) := by decide +kernel
theorem d_Mach_pop_47 : decode prog_6_method_35_code 47 = .ok (.getfield 29, 3) := by decide +kernel
theorem d_Mach_pop_50 : decode prog_6_method_35_code 50 = .ok (.iload_n 2, 1) := by decide +kernel
theorem d_Mach_pop_51 : decode prog_6_method_35_code 51 = .ok (.invokevirtual 245, 3) := by decide +kernel
theorem d_Mach_pop_54 : decode prog_6_method_35_code 54 = .ok (.iload_n 3, 1) := by decide +kernel
theorem d_Mach_pop_55 : decode prog_6_method_35_code 55 = .ok (.iadd, 1) := by decide +kernel
theorem d_Mach_pop_56 : decode prog_6_method_35_code 56 = .ok (.iconst 1, 1) := by decide +kernel
theorem d_Mach_pop_57 : decode prog_6_method_35_code 57 = .ok (.isub, 1) := by decide +kernel
theorem d_Mach_pop_58 : decode prog_6_method_35_code 58 = .ok (.istore 4, 2) := by decide +kernel
theorem d_Mach_pop_60 : decode prog_6_method_35_code 60 = .ok (.aload_n 0, 1) := by decide +kernel
theorem d_Mach_pop_61 : decode prog_6_method_35_code 61 = .ok (.iload_n 1, 1) := by decide +kernel
theorem d_Mach_pop_62 : decode prog_6_method_35_code 62 = .ok (.putfield 54, 3) := by decide +kernel
theorem d_Mach_pop_65 : decode prog_6_method_35_code 65 = .ok (.aload_n 0, 1) := by decide +kernel
theorem d_Mach_pop_66 : decode prog_6_method_35_code 66 = .ok (.aload_n 0, 1) := by decide +kernel
theorem d_Mach_pop_67 : decode prog_6_method_35_code 67 = .ok (.getfield 29, 3) := by decide +kernel
theorem d_Mach_pop_70 : decode prog_6_method_35_code 70 = .ok (.getfield 232, 3) := by decide +kernel
theorem d_Mach_pop_73 : decode prog_6_method_35_code 73 = .ok (.iload 4, 2) := by decide +kernel
theorem d_Mach_pop_75 : decode prog_6_method_35_code 75 = .ok (.laload, 1) := by decide +kernel
theorem d_Mach_pop_76 : decode prog_6_method_35_code 76 = .ok (.aload_n 0, 1) := by decide +kernel
theorem d_Mach_pop_77 : decode prog_6_method_35_code 77 = .ok (.getfield 29, 3) := by decide +kernel
theorem d_Mach_pop_80 : decode prog_6_method_35_code 80 = .ok (.getfield 233, 3) := by decide +kernel
theorem d_Mach_pop_83 : decode prog_6_method_35_code 83 = .ok (.iload 4, 2) := by decide +kernel
theorem d_Mach_pop_85 : decode prog_6_method_35_code 85 = .ok (.laload, 1) := by decide +kernel
theorem d_Mach_pop_86 : decode prog_6_method_35_code 86 = .ok (.invokevirtual 121, 3) := by decide +kernel
theorem d_Mach_pop_89 : decode prog_6_method_35_code 89 = .ok (.aload_n 0, 1) := by decide +kernel
theorem d_Mach_pop_90 : decode prog_6_method_35_code 90 = .ok (.getfield 29, 3) := by decide +kernel
theorem d_Mach_pop_93 : decode prog_6_method_35_code 93 = .ok (.iload_n 2, 1) := by decide +kernel
theorem d_Mach_pop_94 : decode prog_6_method_35_code 94 = .ok (.invokevirtual 282, 3) := by decide +kernel
theorem w_1294 : (Cond.methodLink "StowTongue$Machine" 282 ⟨"StowTongue$Store", "dropLast", "(I)V"⟩ : Cond) ∈ am_tbl := am_w 1294 (by decide +kernel) (by decide +kernel)
set_option maxRecDepth 100000 in
theorem w_1297 : (Cond.code ⟨"StowTongue$Store", "dropLast", "(I)V"⟩ prog_9_method_10_code 2 none : Cond) ∈ am_tbl := am_w 1297 rfl rfl
theorem l_Mach_282 : am_L "StowTongue$Machine" 282 1 m_Store_dropLast := ⟨Or.inl w_1294, w_169, w_1297, ⟨by decide, by decide⟩, by decide +kernel, by decide⟩
theorem w_1295 : (Cond.instanceMethod ⟨"StowTongue$Store", "dropLast", "(I)V"⟩ : Cond) ∈ am_tbl := am_w 1295 (by decide +kernel) (by decide +kernel)
theorem w_1296 : (Cond.selects "StowTongue$Store" ⟨"StowTongue$Store", "dropLast", "(I)V"⟩ ⟨"StowTongue$Store", "dropLast", "(I)V"⟩ : Cond) ∈ am_tbl := am_w 1296 (by decide +kernel) (by decide +kernel)
theorem d_Mach_pop_97 : decode prog_6_method_35_code 97 = .ok (.return_, 1) := by decide +kernel
theorem d_Mach_pop_15 : decode prog_6_method_35_code 15 = .ok (.aload_n 0, 1) := by decide +kernel
theorem d_Mach_pop_16 : decode prog_6_method_35_code 16 = .ok (.iconst 2, 1) := by decide +kernel
theorem d_Mach_pop_17 : decode prog_6_method_35_code 17 = .ok (.invokevirtual 106, 3) := by decide +kernel
theorem d_Mach_pop_20 : decode prog_6_method_35_code 20 = .ok (.return_, 1) := by decide +kernel
abbrev m_Mach_minus : am_M := (⟨"StowTongue$Machine", "minus", "(I)V"⟩, prog_6_method_37_code, 2, none)
theorem d_Mach_minus_0 : decode prog_6_method_37_code 0 = .ok (.aload_n 0, 1) := by decide +kernel
theorem d_Mach_minus_1 : decode prog_6_method_37_code 1 = .ok (.iload_n 1, 1) := by decide +kernel
theorem d_Mach_minus_2 : decode prog_6_method_37_code 2 = .ok (.putfield 54, 3) := by decide +kernel
theorem d_Mach_minus_5 : decode prog_6_method_37_code 5 = .ok (.aload_n 0, 1) := by decide +kernel
theorem d_Mach_minus_6 : decode prog_6_method_37_code 6 = .ok (.iload_n 1, 1) := by decide +kernel
theorem d_Mach_minus_7 : decode prog_6_method_37_code 7 = .ok (.invokevirtual 177, 3) := by decide +kernel
theorem d_Mach_minus_10 : decode prog_6_method_37_code 10 = .ok (.iconst 1, 1) := by decide +kernel
theorem d_Mach_minus_11 : decode prog_6_method_37_code 11 = .ok (.if_icmp .ne 19, 3) := by decide +kernel
theorem d_Mach_minus_14 : decode prog_6_method_37_code 14 = .ok (.aload_n 0, 1) := by decide +kernel
theorem d_Mach_minus_15 : decode prog_6_method_37_code 15 = .ok (.aload_n 0, 1) := by decide +kernel
theorem d_Mach_minus_16 : decode prog_6_method_37_code 16 = .ok (.getfield 13, 3) := by decide +kernel
theorem d_Mach_minus_19 : decode prog_6_method_37_code 19 = .ok (.iload_n 1, 1) := by decide +kernel
theorem d_Mach_minus_20 : decode prog_6_method_37_code 20 = .ok (.laload, 1) := by decide +kernel
theorem d_Mach_minus_21 : decode prog_6_method_37_code 21 = .ok (.l2i, 1) := by decide +kernel
theorem d_Mach_minus_22 : decode prog_6_method_37_code 22 = .ok (.ineg, 1) := by decide +kernel
theorem d_Mach_minus_23 : decode prog_6_method_37_code 23 = .ok (.i2l, 1) := by decide +kernel
theorem d_Mach_minus_24 : decode prog_6_method_37_code 24 = .ok (.invokevirtual 125, 3) := by decide +kernel
theorem d_Mach_minus_27 : decode prog_6_method_37_code 27 = .ok (.goto 8, 3) := by decide +kernel
theorem d_Mach_minus_35 : decode prog_6_method_37_code 35 = .ok (.return_, 1) := by decide +kernel
theorem d_Mach_minus_30 : decode prog_6_method_37_code 30 = .ok (.aload_n 0, 1) := by decide +kernel
theorem d_Mach_minus_31 : decode prog_6_method_37_code 31 = .ok (.iconst 2, 1) := by decide +kernel
theorem d_Mach_minus_32 : decode prog_6_method_37_code 32 = .ok (.invokevirtual 106, 3) := by decide +kernel
abbrev m_Mach_layTruth : am_M := (⟨"StowTongue$Machine", "layTruth", "(Z)V"⟩, prog_6_method_11_code, 2, none)
theorem d_Mach_layTruth_0 : decode prog_6_method_11_code 0 = .ok (.aload_n 0, 1) := by decide +kernel
theorem d_Mach_layTruth_1 : decode prog_6_method_11_code 1 = .ok (.iload_n 1, 1) := by decide +kernel
theorem d_Mach_layTruth_2 : decode prog_6_method_11_code 2 = .ok (.ifCond .eq 7, 3) := by decide +kernel
theorem d_Mach_layTruth_9 : decode prog_6_method_11_code 9 = .ok (.lconst 0, 1) := by decide +kernel
theorem d_Mach_layTruth_10 : decode prog_6_method_11_code 10 = .ok (.invokevirtual 125, 3) := by decide +kernel
theorem d_Mach_layTruth_13 : decode prog_6_method_11_code 13 = .ok (.return_, 1) := by decide +kernel
theorem d_Mach_layTruth_5 : decode prog_6_method_11_code 5 = .ok (.lconst 1, 1) := by decide +kernel
theorem d_Mach_layTruth_6 : decode prog_6_method_11_code 6 = .ok (.goto 4, 3) := by decide +kernel
abbrev m_Mach_compare : am_M := (⟨"StowTongue$Machine", "compare", "(IIZ)V"⟩, prog_6_method_38_code, 6, none)
theorem d_Mach_compare_0 : decode prog_6_method_38_code 0 = .ok (.aload_n 0, 1) := by decide +kernel
theorem d_Mach_compare_1 : decode prog_6_method_38_code 1 = .ok (.iload_n 1, 1) := by decide +kernel
theorem d_Mach_compare_2 : decode prog_6_method_38_code 2 = .ok (.invokevirtual 177, 3) := by decide +kernel
theorem d_Mach_compare_5 : decode prog_6_method_38_code 5 = .ok (.istore 4, 2) := by decide +kernel
theorem d_Mach_compare_7 : decode prog_6_method_38_code 7 = .ok (.aload_n 0, 1) := by decide +kernel
theorem d_Mach_compare_8 : decode prog_6_method_38_code 8 = .ok (.iload_n 1, 1) := by decide +kernel
theorem d_Mach_compare_9 : decode prog_6_method_38_code 9 = .ok (.putfield 54, 3) := by decide +kernel
theorem d_Mach_compare_12 : decode prog_6_method_38_code 12 = .ok (.iload 4, 2) := by decide +kernel
theorem d_Mach_compare_14 : decode prog_6_method_38_code 14 = .ok (.aload_n 0, 1) := by decide +kernel
theorem d_Mach_compare_15 : decode prog_6_method_38_code 15 = .ok (.iload_n 2, 1) := by decide +kernel
theorem d_Mach_compare_16 : decode prog_6_method_38_code 16 = .ok (.invokevirtual 177, 3) := by decide +kernel
theorem d_Mach_compare_19 : decode prog_6_method_38_code 19 = .ok (.if_icmp .ne 15, 3) := by decide +kernel
theorem d_Mach_compare_22 : decode prog_6_method_38_code 22 = .ok (.iload 4, 2) := by decide +kernel
theorem d_Mach_compare_24 : decode prog_6_method_38_code 24 = .ok (.iconst 1, 1) := by decide +kernel
theorem d_Mach_compare_25 : decode prog_6_method_38_code 25 = .ok (.if_icmp .eq 15, 3) := by decide +kernel
theorem d_Mach_compare_40 : decode prog_6_method_38_code 40 = .ok (.aload_n 0, 1) := by decide +kernel
theorem d_Mach_compare_41 : decode prog_6_method_38_code 41 = .ok (.getfield 7, 3) := by decide +kernel
theorem d_Mach_compare_44 : decode prog_6_method_38_code 44 = .ok (.iload_n 1, 1) := by decide +kernel
theorem d_Mach_compare_45 : decode prog_6_method_38_code 45 = .ok (.laload, 1) := by decide +kernel
theorem d_Mach_compare_46 : decode prog_6_method_38_code 46 = .ok (.aload_n 0, 1) := by decide +kernel
theorem d_Mach_compare_47 : decode prog_6_method_38_code 47 = .ok (.getfield 7, 3) := by decide +kernel
theorem d_Mach_compare_50 : decode prog_6_method_38_code 50 = .ok (.iload_n 2, 1) := by decide +kernel
theorem d_Mach_compare_51 : decode prog_6_method_38_code 51 = .ok (.laload, 1) := by decide +kernel
theorem d_Mach_compare_52 : decode prog_6_method_38_code 52 = .ok (.lcmp, 1) := by decide +kernel
theorem d_Mach_compare_53 : decode prog_6_method_38_code 53 = .ok (.ifCond .lt 35, 3) := by decide +kernel
theorem d_Mach_compare_88 : decode prog_6_method_38_code 88 = .ok (.iconst 1, 1) := by decide +kernel
theorem d_Mach_compare_89 : decode prog_6_method_38_code 89 = .ok (.goto 4, 3) := by decide +kernel
theorem d_Mach_compare_93 : decode prog_6_method_38_code 93 = .ok (.istore 5, 2) := by decide +kernel
theorem d_Mach_compare_95 : decode prog_6_method_38_code 95 = .ok (.aload_n 0, 1) := by decide +kernel
theorem d_Mach_compare_96 : decode prog_6_method_38_code 96 = .ok (.iload_n 3, 1) := by decide +kernel
theorem d_Mach_compare_97 : decode prog_6_method_38_code 97 = .ok (.ifCond .ne 8, 3) := by decide +kernel
theorem d_Mach_compare_100 : decode prog_6_method_38_code 100 = .ok (.iload 5, 2) := by decide +kernel
theorem d_Mach_compare_102 : decode prog_6_method_38_code 102 = .ok (.ifCond .eq 7, 3) := by decide +kernel
theorem d_Mach_compare_109 : decode prog_6_method_38_code 109 = .ok (.iconst 0, 1) := by decide +kernel
theorem d_Mach_compare_110 : decode prog_6_method_38_code 110 = .ok (.invokevirtual 288, 3) := by decide +kernel
theorem w_1306 : (Cond.methodLink "StowTongue$Machine" 288 ⟨"StowTongue$Machine", "layTruth", "(Z)V"⟩ : Cond) ∈ am_tbl := am_w 1306 (by decide +kernel) (by decide +kernel)
set_option maxRecDepth 100000 in
theorem w_1309 : (Cond.code ⟨"StowTongue$Machine", "layTruth", "(Z)V"⟩ prog_6_method_11_code 2 none : Cond) ∈ am_tbl := am_w 1309 rfl rfl
theorem l_Mach_288 : am_L "StowTongue$Machine" 288 1 m_Mach_layTruth := ⟨Or.inl w_1306, w_157, w_1309, ⟨by decide, by decide⟩, by decide +kernel, by decide⟩
theorem w_1308 : (Cond.instanceMethod ⟨"StowTongue$Machine", "layTruth", "(Z)V"⟩ : Cond) ∈ am_tbl := am_w 1308 (by decide +kernel) (by decide +kernel)
theorem w_74 : (Cond.selects "StowTongue$Machine" ⟨"StowTongue$Machine", "layTruth", "(Z)V"⟩ ⟨"StowTongue$Machine", "layTruth", "(Z)V"⟩ : Cond) ∈ am_tbl := am_w 74 (by decide +kernel) (by decide +kernel)
theorem d_Mach_compare_113 : decode prog_6_method_38_code 113 = .ok (.return_, 1) := by decide +kernel
theorem d_Mach_compare_105 : decode prog_6_method_38_code 105 = .ok (.iconst 1, 1) := by decide +kernel
theorem d_Mach_compare_106 : decode prog_6_method_38_code 106 = .ok (.goto 4, 3) := by decide +kernel
theorem d_Mach_compare_56 : decode prog_6_method_38_code 56 = .ok (.aload_n 0, 1) := by decide +kernel
theorem d_Mach_compare_57 : decode prog_6_method_38_code 57 = .ok (.getfield 7, 3) := by decide +kernel
theorem d_Mach_compare_60 : decode prog_6_method_38_code 60 = .ok (.iload_n 1, 1) := by decide +kernel
theorem d_Mach_compare_61 : decode prog_6_method_38_code 61 = .ok (.laload, 1) := by decide +kernel
theorem d_Mach_compare_62 : decode prog_6_method_38_code 62 = .ok (.aload_n 0, 1) := by decide +kernel
theorem d_Mach_compare_63 : decode prog_6_method_38_code 63 = .ok (.getfield 7, 3) := by decide +kernel
theorem d_Mach_compare_66 : decode prog_6_method_38_code 66 = .ok (.iload_n 2, 1) := by decide +kernel
theorem d_Mach_compare_67 : decode prog_6_method_38_code 67 = .ok (.laload, 1) := by decide +kernel
theorem d_Mach_compare_68 : decode prog_6_method_38_code 68 = .ok (.lcmp, 1) := by decide +kernel
theorem d_Mach_compare_69 : decode prog_6_method_38_code 69 = .ok (.ifCond .ne 23, 3) := by decide +kernel
theorem d_Mach_compare_72 : decode prog_6_method_38_code 72 = .ok (.aload_n 0, 1) := by decide +kernel
theorem d_Mach_compare_73 : decode prog_6_method_38_code 73 = .ok (.getfield 13, 3) := by decide +kernel
theorem d_Mach_compare_76 : decode prog_6_method_38_code 76 = .ok (.iload_n 1, 1) := by decide +kernel
theorem d_Mach_compare_77 : decode prog_6_method_38_code 77 = .ok (.laload, 1) := by decide +kernel
theorem d_Mach_compare_78 : decode prog_6_method_38_code 78 = .ok (.aload_n 0, 1) := by decide +kernel
theorem d_Mach_compare_79 : decode prog_6_method_38_code 79 = .ok (.getfield 13, 3) := by decide +kernel
theorem d_Mach_compare_82 : decode prog_6_method_38_code 82 = .ok (.iload_n 2, 1) := by decide +kernel
theorem d_Mach_compare_83 : decode prog_6_method_38_code 83 = .ok (.laload, 1) := by decide +kernel
theorem d_Mach_compare_84 : decode prog_6_method_38_code 84 = .ok (.lcmp, 1) := by decide +kernel
theorem d_Mach_compare_85 : decode prog_6_method_38_code 85 = .ok (.ifCond .ge 7, 3) := by decide +kernel
theorem d_Mach_compare_92 : decode prog_6_method_38_code 92 = .ok (.iconst 0, 1) := by decide +kernel
theorem d_Mach_compare_28 : decode prog_6_method_38_code 28 = .ok (.iload 4, 2) := by decide +kernel
theorem d_Mach_compare_30 : decode prog_6_method_38_code 30 = .ok (.iconst 2, 1) := by decide +kernel
theorem d_Mach_compare_31 : decode prog_6_method_38_code 31 = .ok (.if_icmp .eq 9, 3) := by decide +kernel
theorem d_Mach_compare_34 : decode prog_6_method_38_code 34 = .ok (.aload_n 0, 1) := by decide +kernel
theorem d_Mach_compare_35 : decode prog_6_method_38_code 35 = .ok (.iconst 2, 1) := by decide +kernel
theorem d_Mach_compare_36 : decode prog_6_method_38_code 36 = .ok (.invokevirtual 106, 3) := by decide +kernel
theorem d_Mach_compare_39 : decode prog_6_method_38_code 39 = .ok (.return_, 1) := by decide +kernel
abbrev m_Mach_join : am_M := (⟨"StowTongue$Machine", "join", "(II)V"⟩, prog_6_method_41_code, 7, none)
theorem d_Mach_join_0 : decode prog_6_method_41_code 0 = .ok (.aload_n 0, 1) := by decide +kernel
theorem d_Mach_join_1 : decode prog_6_method_41_code 1 = .ok (.getfield 7, 3) := by decide +kernel
theorem d_Mach_join_4 : decode prog_6_method_41_code 4 = .ok (.iload_n 1, 1) := by decide +kernel
theorem d_Mach_join_5 : decode prog_6_method_41_code 5 = .ok (.laload, 1) := by decide +kernel
theorem d_Mach_join_6 : decode prog_6_method_41_code 6 = .ok (.aload_n 0, 1) := by decide +kernel
theorem d_Mach_join_7 : decode prog_6_method_41_code 7 = .ok (.getfield 13, 3) := by decide +kernel
theorem d_Mach_join_10 : decode prog_6_method_41_code 10 = .ok (.iload_n 1, 1) := by decide +kernel
theorem d_Mach_join_11 : decode prog_6_method_41_code 11 = .ok (.laload, 1) := by decide +kernel
theorem d_Mach_join_12 : decode prog_6_method_41_code 12 = .ok (.invokestatic 248, 3) := by decide +kernel
theorem d_Mach_join_15 : decode prog_6_method_41_code 15 = .ok (.istore_n 3, 1) := by decide +kernel
theorem d_Mach_join_16 : decode prog_6_method_41_code 16 = .ok (.aload_n 0, 1) := by decide +kernel
theorem d_Mach_join_17 : decode prog_6_method_41_code 17 = .ok (.getfield 7, 3) := by decide +kernel
theorem d_Mach_join_20 : decode prog_6_method_41_code 20 = .ok (.iload_n 2, 1) := by decide +kernel
theorem d_Mach_join_21 : decode prog_6_method_41_code 21 = .ok (.laload, 1) := by decide +kernel
theorem d_Mach_join_22 : decode prog_6_method_41_code 22 = .ok (.aload_n 0, 1) := by decide +kernel
theorem d_Mach_join_23 : decode prog_6_method_41_code 23 = .ok (.getfield 13, 3) := by decide +kernel
theorem d_Mach_join_26 : decode prog_6_method_41_code 26 = .ok (.iload_n 2, 1) := by decide +kernel
theorem d_Mach_join_27 : decode prog_6_method_41_code 27 = .ok (.laload, 1) := by decide +kernel
theorem d_Mach_join_28 : decode prog_6_method_41_code 28 = .ok (.invokestatic 248, 3) := by decide +kernel
theorem d_Mach_join_31 : decode prog_6_method_41_code 31 = .ok (.istore 4, 2) := by decide +kernel
theorem d_Mach_join_33 : decode prog_6_method_41_code 33 = .ok (.iload_n 3, 1) := by decide +kernel
theorem d_Mach_join_34 : decode prog_6_method_41_code 34 = .ok (.iload 4, 2) := by decide +kernel
theorem d_Mach_join_36 : decode prog_6_method_41_code 36 = .ok (.iadd, 1) := by decide +kernel
theorem d_Mach_join_37 : decode prog_6_method_41_code 37 = .ok (.bipush 16, 2) := by decide +kernel
theorem d_Mach_join_39 : decode prog_6_method_41_code 39 = .ok (.if_icmp .le 9, 3) := by decide +kernel
theorem d_Mach_join_48 : decode prog_6_method_41_code 48 = .ok (.iconst 0, 1) := by decide +kernel
theorem d_Mach_join_49 : decode prog_6_method_41_code 49 = .ok (.istore 5, 2) := by decide +kernel
theorem d_Mach_join_51 : decode prog_6_method_41_code 51 = .ok (.iload 5, 2) := by decide +kernel
theorem d_Mach_join_53 : decode prog_6_method_41_code 53 = .ok (.iload 4, 2) := by decide +kernel
theorem d_Mach_join_55 : decode prog_6_method_41_code 55 = .ok (.if_icmp .ge 76, 3) := by decide +kernel
theorem d_Mach_join_131 : decode prog_6_method_41_code 131 = .ok (.return_, 1) := by decide +kernel
theorem d_Mach_join_58 : decode prog_6_method_41_code 58 = .ok (.aload_n 0, 1) := by decide +kernel
theorem d_Mach_join_59 : decode prog_6_method_41_code 59 = .ok (.getfield 7, 3) := by decide +kernel
theorem d_Mach_join_62 : decode prog_6_method_41_code 62 = .ok (.iload_n 2, 1) := by decide +kernel
theorem d_Mach_join_63 : decode prog_6_method_41_code 63 = .ok (.laload, 1) := by decide +kernel
theorem d_Mach_join_64 : decode prog_6_method_41_code 64 = .ok (.aload_n 0, 1) := by decide +kernel
theorem d_Mach_join_65 : decode prog_6_method_41_code 65 = .ok (.getfield 13, 3) := by decide +kernel
theorem d_Mach_join_68 : decode prog_6_method_41_code 68 = .ok (.iload_n 2, 1) := by decide +kernel
theorem d_Mach_join_69 : decode prog_6_method_41_code 69 = .ok (.laload, 1) := by decide +kernel
theorem d_Mach_join_70 : decode prog_6_method_41_code 70 = .ok (.iload 5, 2) := by decide +kernel
theorem d_Mach_join_72 : decode prog_6_method_41_code 72 = .ok (.invokestatic 252, 3) := by decide +kernel
theorem d_Mach_join_75 : decode prog_6_method_41_code 75 = .ok (.istore 6, 2) := by decide +kernel
theorem d_Mach_join_77 : decode prog_6_method_41_code 77 = .ok (.iload_n 3, 1) := by decide +kernel
theorem d_Mach_join_78 : decode prog_6_method_41_code 78 = .ok (.iload 5, 2) := by decide +kernel
theorem d_Mach_join_80 : decode prog_6_method_41_code 80 = .ok (.iadd, 1) := by decide +kernel
theorem d_Mach_join_81 : decode prog_6_method_41_code 81 = .ok (.bipush 8, 2) := by decide +kernel
theorem d_Mach_join_83 : decode prog_6_method_41_code 83 = .ok (.if_icmp .ge 24, 3) := by decide +kernel
theorem d_Mach_join_107 : decode prog_6_method_41_code 107 = .ok (.aload_n 0, 1) := by decide +kernel
theorem d_Mach_join_108 : decode prog_6_method_41_code 108 = .ok (.getfield 13, 3) := by decide +kernel
theorem d_Mach_join_111 : decode prog_6_method_41_code 111 = .ok (.iload_n 1, 1) := by decide +kernel
theorem d_Mach_join_112 : decode prog_6_method_41_code 112 = .ok (.dup2, 1) := by decide +kernel
theorem d_Mach_join_113 : decode prog_6_method_41_code 113 = .ok (.laload, 1) := by decide +kernel
theorem d_Mach_join_114 : decode prog_6_method_41_code 114 = .ok (.iload 6, 2) := by decide +kernel
theorem d_Mach_join_116 : decode prog_6_method_41_code 116 = .ok (.iload_n 3, 1) := by decide +kernel
theorem d_Mach_join_117 : decode prog_6_method_41_code 117 = .ok (.iload 5, 2) := by decide +kernel
theorem d_Mach_join_119 : decode prog_6_method_41_code 119 = .ok (.iadd, 1) := by decide +kernel
theorem d_Mach_join_120 : decode prog_6_method_41_code 120 = .ok (.invokestatic 256, 3) := by decide +kernel
theorem d_Mach_join_123 : decode prog_6_method_41_code 123 = .ok (.lor, 1) := by decide +kernel
theorem d_Mach_join_124 : decode prog_6_method_41_code 124 = .ok (.lastore, 1) := by decide +kernel
theorem d_Mach_join_125 : decode prog_6_method_41_code 125 = .ok (.iinc 5 1, 3) := by decide +kernel
theorem d_Mach_join_128 : decode prog_6_method_41_code 128 = .ok (.goto (-77), 3) := by decide +kernel
theorem d_Mach_join_86 : decode prog_6_method_41_code 86 = .ok (.aload_n 0, 1) := by decide +kernel
theorem d_Mach_join_87 : decode prog_6_method_41_code 87 = .ok (.getfield 7, 3) := by decide +kernel
theorem d_Mach_join_90 : decode prog_6_method_41_code 90 = .ok (.iload_n 1, 1) := by decide +kernel
theorem d_Mach_join_91 : decode prog_6_method_41_code 91 = .ok (.dup2, 1) := by decide +kernel
theorem d_Mach_join_92 : decode prog_6_method_41_code 92 = .ok (.laload, 1) := by decide +kernel
theorem d_Mach_join_93 : decode prog_6_method_41_code 93 = .ok (.iload 6, 2) := by decide +kernel
theorem d_Mach_join_95 : decode prog_6_method_41_code 95 = .ok (.iload_n 3, 1) := by decide +kernel
theorem d_Mach_join_96 : decode prog_6_method_41_code 96 = .ok (.iload 5, 2) := by decide +kernel
theorem d_Mach_join_98 : decode prog_6_method_41_code 98 = .ok (.iadd, 1) := by decide +kernel
theorem d_Mach_join_99 : decode prog_6_method_41_code 99 = .ok (.invokestatic 256, 3) := by decide +kernel
theorem d_Mach_join_102 : decode prog_6_method_41_code 102 = .ok (.lor, 1) := by decide +kernel
theorem d_Mach_join_103 : decode prog_6_method_41_code 103 = .ok (.lastore, 1) := by decide +kernel
theorem d_Mach_join_104 : decode prog_6_method_41_code 104 = .ok (.goto 21, 3) := by decide +kernel
theorem d_Mach_join_42 : decode prog_6_method_41_code 42 = .ok (.aload_n 0, 1) := by decide +kernel
theorem d_Mach_join_43 : decode prog_6_method_41_code 43 = .ok (.iconst 4, 1) := by decide +kernel
theorem d_Mach_join_44 : decode prog_6_method_41_code 44 = .ok (.invokevirtual 106, 3) := by decide +kernel
theorem d_Mach_join_47 : decode prog_6_method_41_code 47 = .ok (.return_, 1) := by decide +kernel
theorem d_Store_objectsChangedSince_18 : decode prog_9_method_23_code 18 = .ok (.aload_n 0, 1) := by decide +kernel
theorem d_Store_objectsChangedSince_19 : decode prog_9_method_23_code 19 = .ok (.aload_n 1, 1) := by decide +kernel
theorem d_Store_objectsChangedSince_20 : decode prog_9_method_23_code 20 = .ok (.iload_n 3, 1) := by decide +kernel
theorem d_Store_objectsChangedSince_21 : decode prog_9_method_23_code 21 = .ok (.invokevirtual 104, 3) := by decide +kernel
theorem w_1350 : (Cond.methodLink "StowTongue$Store" 104 ⟨"StowTongue$Store", "sameObject", "(LStowTongue$Store;I)Z"⟩ : Cond) ∈ am_tbl := am_w 1350 (by decide +kernel) (by decide +kernel)
set_option maxRecDepth 100000 in
theorem w_1353 : (Cond.code ⟨"StowTongue$Store", "sameObject", "(LStowTongue$Store;I)Z"⟩ prog_9_method_24_code 5 (some FieldType.boolean) : Cond) ∈ am_tbl := am_w 1353 rfl rfl
theorem l_Store_104 : am_L "StowTongue$Store" 104 2 m_Store_sameObject := ⟨Or.inl w_1350, w_169, w_1353, ⟨by decide, by decide⟩, by decide +kernel, by decide⟩
theorem w_1352 : (Cond.instanceMethod ⟨"StowTongue$Store", "sameObject", "(LStowTongue$Store;I)Z"⟩ : Cond) ∈ am_tbl := am_w 1352 (by decide +kernel) (by decide +kernel)
theorem w_78 : (Cond.selects "StowTongue$Store" ⟨"StowTongue$Store", "sameObject", "(LStowTongue$Store;I)Z"⟩ ⟨"StowTongue$Store", "sameObject", "(LStowTongue$Store;I)Z"⟩ : Cond) ∈ am_tbl := am_w 78 (by decide +kernel) (by decide +kernel)
theorem d_Store_objectsChangedSince_24 : decode prog_9_method_23_code 24 = .ok (.ifCond .ne 6, 3) := by decide +kernel
theorem d_Store_objectsChangedSince_27 : decode prog_9_method_23_code 27 = .ok (.iinc 2 1, 3) := by decide +kernel
