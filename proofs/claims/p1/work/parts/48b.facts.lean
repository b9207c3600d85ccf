set_option maxRecDepth 100000 in
theorem d_Pars_read_98 : decode prog_8_method_2_code 98 = .ok (.aload_n 0, 1) := by decide +kernel
set_option maxRecDepth 100000 in
theorem d_Pars_read_99 : decode prog_8_method_2_code 99 = .ok (.aload_n 0, 1) := by decide +kernel
set_option maxRecDepth 100000 in
theorem d_Pars_read_100 : decode prog_8_method_2_code 100 = .ok (.getfield 21, 3) := by decide +kernel
set_option maxRecDepth 100000 in
theorem d_Pars_read_103 : decode prog_8_method_2_code 103 = .ok (.lconst 0, 1) := by decide +kernel
set_option maxRecDepth 100000 in
theorem d_Pars_read_104 : decode prog_8_method_2_code 104 = .ok (.iconst 0, 1) := by decide +kernel
set_option maxRecDepth 100000 in
theorem d_Pars_read_105 : decode prog_8_method_2_code 105 = .ok (.iconst 0, 1) := by decide +kernel
set_option maxRecDepth 100000 in
abbrev m_Draft_finish : am_M := (⟨"StowTongue$Draft", "finish", "(JII)LStowTongue$Unit;"⟩, prog_3_method_12_code, 5, (some (FieldType.object "StowTongue$Unit")))
set_option maxRecDepth 100000 in
theorem d_Draft_finish_0 : decode prog_3_method_12_code 0 = .ok (.aload_n 0, 1) := by decide +kernel
set_option maxRecDepth 100000 in
theorem d_Draft_finish_1 : decode prog_3_method_12_code 1 = .ok (.bipush 10, 2) := by decide +kernel
set_option maxRecDepth 100000 in
theorem d_Draft_finish_3 : decode prog_3_method_12_code 3 = .ok (.iconst 0, 1) := by decide +kernel
set_option maxRecDepth 100000 in
abbrev m_Draft_add : am_M := (⟨"StowTongue$Draft", "add", "(II)V"⟩, prog_3_method_3_code, 3, none)
set_option maxRecDepth 100000 in
theorem d_Draft_add_0 : decode prog_3_method_3_code 0 = .ok (.aload_n 0, 1) := by decide +kernel
set_option maxRecDepth 100000 in
theorem d_Draft_add_1 : decode prog_3_method_3_code 1 = .ok (.getfield 20, 3) := by decide +kernel
set_option maxRecDepth 100000 in
theorem d_Draft_add_4 : decode prog_3_method_3_code 4 = .ok (.iconst 2, 1) := by decide +kernel
set_option maxRecDepth 100000 in
theorem d_Draft_add_5 : decode prog_3_method_3_code 5 = .ok (.iadd, 1) := by decide +kernel
set_option maxRecDepth 100000 in
theorem d_Draft_add_6 : decode prog_3_method_3_code 6 = .ok (.aload_n 0, 1) := by decide +kernel
set_option maxRecDepth 100000 in
theorem d_Draft_add_7 : decode prog_3_method_3_code 7 = .ok (.getfield 7, 3) := by decide +kernel
set_option maxRecDepth 100000 in
theorem d_Draft_add_10 : decode prog_3_method_3_code 10 = .ok (.arraylength, 1) := by decide +kernel
set_option maxRecDepth 100000 in
theorem d_Draft_add_11 : decode prog_3_method_3_code 11 = .ok (.if_icmp .le 21, 3) := by decide +kernel
set_option maxRecDepth 100000 in
theorem d_Draft_add_32 : decode prog_3_method_3_code 32 = .ok (.aload_n 0, 1) := by decide +kernel
set_option maxRecDepth 100000 in
theorem d_Draft_add_33 : decode prog_3_method_3_code 33 = .ok (.getfield 7, 3) := by decide +kernel
set_option maxRecDepth 100000 in
theorem d_Draft_add_36 : decode prog_3_method_3_code 36 = .ok (.aload_n 0, 1) := by decide +kernel
set_option maxRecDepth 100000 in
theorem d_Draft_add_37 : decode prog_3_method_3_code 37 = .ok (.getfield 20, 3) := by decide +kernel
set_option maxRecDepth 100000 in
theorem d_Draft_add_40 : decode prog_3_method_3_code 40 = .ok (.iload_n 1, 1) := by decide +kernel
set_option maxRecDepth 100000 in
theorem d_Draft_add_41 : decode prog_3_method_3_code 41 = .ok (.iastore, 1) := by decide +kernel
set_option maxRecDepth 100000 in
theorem d_Draft_add_42 : decode prog_3_method_3_code 42 = .ok (.aload_n 0, 1) := by decide +kernel
set_option maxRecDepth 100000 in
theorem d_Draft_add_43 : decode prog_3_method_3_code 43 = .ok (.getfield 7, 3) := by decide +kernel
set_option maxRecDepth 100000 in
theorem d_Draft_add_46 : decode prog_3_method_3_code 46 = .ok (.aload_n 0, 1) := by decide +kernel
set_option maxRecDepth 100000 in
theorem d_Draft_add_47 : decode prog_3_method_3_code 47 = .ok (.getfield 20, 3) := by decide +kernel
set_option maxRecDepth 100000 in
theorem d_Draft_add_50 : decode prog_3_method_3_code 50 = .ok (.iconst 1, 1) := by decide +kernel
set_option maxRecDepth 100000 in
theorem d_Draft_add_51 : decode prog_3_method_3_code 51 = .ok (.iadd, 1) := by decide +kernel
set_option maxRecDepth 100000 in
theorem d_Draft_add_52 : decode prog_3_method_3_code 52 = .ok (.iload_n 2, 1) := by decide +kernel
set_option maxRecDepth 100000 in
theorem d_Draft_add_53 : decode prog_3_method_3_code 53 = .ok (.iastore, 1) := by decide +kernel
set_option maxRecDepth 100000 in
theorem d_Draft_add_54 : decode prog_3_method_3_code 54 = .ok (.aload_n 0, 1) := by decide +kernel
set_option maxRecDepth 100000 in
theorem d_Draft_add_55 : decode prog_3_method_3_code 55 = .ok (.dup, 1) := by decide +kernel
set_option maxRecDepth 100000 in
theorem d_Draft_add_56 : decode prog_3_method_3_code 56 = .ok (.getfield 20, 3) := by decide +kernel
set_option maxRecDepth 100000 in
theorem d_Draft_add_59 : decode prog_3_method_3_code 59 = .ok (.iconst 2, 1) := by decide +kernel
set_option maxRecDepth 100000 in
theorem d_Draft_add_60 : decode prog_3_method_3_code 60 = .ok (.iadd, 1) := by decide +kernel
set_option maxRecDepth 100000 in
theorem d_Draft_add_61 : decode prog_3_method_3_code 61 = .ok (.putfield 20, 3) := by decide +kernel
set_option maxRecDepth 100000 in
theorem d_Draft_add_64 : decode prog_3_method_3_code 64 = .ok (.return_, 1) := by decide +kernel
set_option maxRecDepth 100000 in
theorem w_888 : (Cond.methodLink "StowTongue$Draft" 55 ⟨"StowTongue$Draft", "add", "(II)V"⟩ : Cond) ∈ am_tbl := am_w 888 (by decide +kernel) (by decide +kernel)
set_option maxRecDepth 100000 in
theorem w_755 : (Cond.code ⟨"StowTongue$Draft", "add", "(II)V"⟩ prog_3_method_3_code 3 none : Cond) ∈ am_tbl := am_w 755 rfl rfl
set_option maxRecDepth 100000 in
theorem l_Draft_55 : am_L "StowTongue$Draft" 55 2 m_Draft_add := ⟨Or.inl w_888, w_152, w_755, ⟨by decide, by decide⟩, by decide +kernel, by decide⟩
set_option maxRecDepth 100000 in
theorem w_753 : (Cond.instanceMethod ⟨"StowTongue$Draft", "add", "(II)V"⟩ : Cond) ∈ am_tbl := am_w 753 (by decide +kernel) (by decide +kernel)
set_option maxRecDepth 100000 in
theorem w_754 : (Cond.selects "StowTongue$Draft" ⟨"StowTongue$Draft", "add", "(II)V"⟩ ⟨"StowTongue$Draft", "add", "(II)V"⟩ : Cond) ∈ am_tbl := am_w 754 (by decide +kernel) (by decide +kernel)
set_option maxRecDepth 100000 in
theorem d_Draft_finish_4 : decode prog_3_method_12_code 4 = .ok (.invokevirtual 55, 3) := by decide +kernel
set_option maxRecDepth 100000 in
theorem d_Draft_finish_7 : decode prog_3_method_12_code 7 = .ok (.aload_n 0, 1) := by decide +kernel
set_option maxRecDepth 100000 in
theorem d_Draft_finish_8 : decode prog_3_method_12_code 8 = .ok (.bipush 6, 2) := by decide +kernel
set_option maxRecDepth 100000 in
theorem d_Draft_finish_10 : decode prog_3_method_12_code 10 = .ok (.iconst 0, 1) := by decide +kernel
set_option maxRecDepth 100000 in
theorem d_Draft_finish_11 : decode prog_3_method_12_code 11 = .ok (.invokevirtual 55, 3) := by decide +kernel
set_option maxRecDepth 100000 in
theorem w_889 : (Cond.classLink "StowTongue$Draft" 59 "StowTongue$Unit" : Cond) ∈ am_tbl := am_w 889 (by decide +kernel) (by decide +kernel)
set_option maxRecDepth 100000 in
theorem n_Draft_59 : am_N "StowTongue$Draft" 59 4 6 [.long 0, .int 0, .int 0, .int 0, .null, .null] := ⟨_, rfl, cl_4, rfl, by decide +kernel, w_889, w_345, w_156⟩
set_option maxRecDepth 100000 in
theorem d_Draft_finish_14 : decode prog_3_method_12_code 14 = .ok (.new 59, 3) := by decide +kernel
set_option maxRecDepth 100000 in
theorem d_Draft_finish_17 : decode prog_3_method_12_code 17 = .ok (.dup, 1) := by decide +kernel
set_option maxRecDepth 100000 in
theorem d_Draft_finish_18 : decode prog_3_method_12_code 18 = .ok (.lload_n 1, 1) := by decide +kernel
set_option maxRecDepth 100000 in
theorem d_Draft_finish_19 : decode prog_3_method_12_code 19 = .ok (.iload_n 3, 1) := by decide +kernel
set_option maxRecDepth 100000 in
theorem d_Draft_finish_20 : decode prog_3_method_12_code 20 = .ok (.aload_n 0, 1) := by decide +kernel
set_option maxRecDepth 100000 in
theorem d_Draft_finish_21 : decode prog_3_method_12_code 21 = .ok (.getfield 27, 3) := by decide +kernel
set_option maxRecDepth 100000 in
theorem d_Draft_finish_24 : decode prog_3_method_12_code 24 = .ok (.iload 4, 2) := by decide +kernel
set_option maxRecDepth 100000 in
theorem d_Draft_finish_26 : decode prog_3_method_12_code 26 = .ok (.aload_n 0, 1) := by decide +kernel
set_option maxRecDepth 100000 in
theorem d_Draft_finish_27 : decode prog_3_method_12_code 27 = .ok (.getfield 7, 3) := by decide +kernel
set_option maxRecDepth 100000 in
theorem d_Draft_finish_30 : decode prog_3_method_12_code 30 = .ok (.aload_n 0, 1) := by decide +kernel
set_option maxRecDepth 100000 in
theorem d_Draft_finish_31 : decode prog_3_method_12_code 31 = .ok (.getfield 20, 3) := by decide +kernel
set_option maxRecDepth 100000 in
abbrev m_Arr_copyOf_aII : am_M := (⟨"java/util/Arrays", "copyOf", "([II)[I"⟩, prog_29_method_123_code, 3, (some (FieldType.array FieldType.int)))
set_option maxRecDepth 100000 in
theorem d_Arr_copyOf_aII_0 : decode prog_29_method_123_code 0 = .ok (.iload_n 1, 1) := by decide +kernel
set_option maxRecDepth 100000 in
theorem d_Arr_copyOf_aII_1 : decode prog_29_method_123_code 1 = .ok (.aload_n 0, 1) := by decide +kernel
set_option maxRecDepth 100000 in
theorem d_Arr_copyOf_aII_2 : decode prog_29_method_123_code 2 = .ok (.arraylength, 1) := by decide +kernel
set_option maxRecDepth 100000 in
theorem d_Arr_copyOf_aII_3 : decode prog_29_method_123_code 3 = .ok (.if_icmp .ne 11, 3) := by decide +kernel
set_option maxRecDepth 100000 in
theorem d_Arr_copyOf_aII_14 : decode prog_29_method_123_code 14 = .ok (.iload_n 1, 1) := by decide +kernel
set_option maxRecDepth 100000 in
theorem d_Arr_copyOf_aII_15 : decode prog_29_method_123_code 15 = .ok (.newarray .int, 2) := by decide +kernel
set_option maxRecDepth 100000 in
theorem d_Arr_copyOf_aII_17 : decode prog_29_method_123_code 17 = .ok (.astore_n 2, 1) := by decide +kernel
set_option maxRecDepth 100000 in
theorem d_Arr_copyOf_aII_18 : decode prog_29_method_123_code 18 = .ok (.aload_n 0, 1) := by decide +kernel
set_option maxRecDepth 100000 in
theorem d_Arr_copyOf_aII_19 : decode prog_29_method_123_code 19 = .ok (.iconst 0, 1) := by decide +kernel
set_option maxRecDepth 100000 in
theorem d_Arr_copyOf_aII_20 : decode prog_29_method_123_code 20 = .ok (.aload_n 2, 1) := by decide +kernel
set_option maxRecDepth 100000 in
theorem d_Arr_copyOf_aII_21 : decode prog_29_method_123_code 21 = .ok (.iconst 0, 1) := by decide +kernel
set_option maxRecDepth 100000 in
theorem d_Arr_copyOf_aII_22 : decode prog_29_method_123_code 22 = .ok (.aload_n 0, 1) := by decide +kernel
set_option maxRecDepth 100000 in
theorem d_Arr_copyOf_aII_23 : decode prog_29_method_123_code 23 = .ok (.arraylength, 1) := by decide +kernel
set_option maxRecDepth 100000 in
theorem d_Arr_copyOf_aII_24 : decode prog_29_method_123_code 24 = .ok (.iload_n 1, 1) := by decide +kernel
set_option maxRecDepth 100000 in
theorem w_732 : (Cond.methodLink "java/util/Arrays" 304 ⟨"java/lang/Math", "min", "(II)I"⟩ : Cond) ∈ am_tbl := am_w 732 (by decide +kernel) (by decide +kernel)
set_option maxRecDepth 100000 in
theorem d_Arr_copyOf_aII_25 : decode prog_29_method_123_code 25 = .ok (.invokestatic 304, 3) := by decide +kernel
set_option maxRecDepth 100000 in
theorem w_733 : (Cond.methodLink "java/util/Arrays" 150 ⟨"java/lang/System", "arraycopy", "(Ljava/lang/Object;ILjava/lang/Object;II)V"⟩ : Cond) ∈ am_tbl := am_w 733 (by decide +kernel) (by decide +kernel)
set_option maxRecDepth 100000 in
theorem d_Arr_copyOf_aII_28 : decode prog_29_method_123_code 28 = .ok (.invokestatic 150, 3) := by decide +kernel
set_option maxRecDepth 100000 in
theorem d_Arr_copyOf_aII_31 : decode prog_29_method_123_code 31 = .ok (.aload_n 2, 1) := by decide +kernel
set_option maxRecDepth 100000 in
theorem d_Arr_copyOf_aII_32 : decode prog_29_method_123_code 32 = .ok (.areturn, 1) := by decide +kernel
set_option maxRecDepth 100000 in
theorem w_756 : (Cond.methodLink "StowTongue$Draft" 30 ⟨"java/util/Arrays", "copyOf", "([II)[I"⟩ : Cond) ∈ am_tbl := am_w 756 (by decide +kernel) (by decide +kernel)
set_option maxRecDepth 100000 in
theorem w_758 : (Cond.code ⟨"java/util/Arrays", "copyOf", "([II)[I"⟩ prog_29_method_123_code 3 (some (FieldType.array FieldType.int)) : Cond) ∈ am_tbl := am_w 758 rfl rfl
set_option maxRecDepth 100000 in
theorem l_Draft_30 : am_L "StowTongue$Draft" 30 2 m_Arr_copyOf_aII := ⟨Or.inl w_756, w_166, w_758, ⟨by decide, by decide⟩, by decide +kernel, by decide⟩
set_option maxRecDepth 100000 in
theorem w_757 : (Cond.static ⟨"java/util/Arrays", "copyOf", "([II)[I"⟩ : Cond) ∈ am_tbl := am_w 757 (by decide +kernel) (by decide +kernel)
set_option maxRecDepth 100000 in
theorem d_Draft_finish_34 : decode prog_3_method_12_code 34 = .ok (.invokestatic 30, 3) := by decide +kernel
set_option maxRecDepth 100000 in
theorem d_Draft_finish_37 : decode prog_3_method_12_code 37 = .ok (.aload_n 0, 1) := by decide +kernel
set_option maxRecDepth 100000 in
theorem d_Draft_finish_38 : decode prog_3_method_12_code 38 = .ok (.getfield 13, 3) := by decide +kernel
set_option maxRecDepth 100000 in
theorem d_Draft_finish_41 : decode prog_3_method_12_code 41 = .ok (.aload_n 0, 1) := by decide +kernel
set_option maxRecDepth 100000 in
theorem d_Draft_finish_42 : decode prog_3_method_12_code 42 = .ok (.getfield 24, 3) := by decide +kernel
set_option maxRecDepth 100000 in
abbrev m_Arr_copyOf_aJI : am_M := (⟨"java/util/Arrays", "copyOf", "([JI)[J"⟩, prog_29_method_124_code, 3, (some (FieldType.array FieldType.long)))
set_option maxRecDepth 100000 in
theorem d_Arr_copyOf_aJI_0 : decode prog_29_method_124_code 0 = .ok (.iload_n 1, 1) := by decide +kernel
set_option maxRecDepth 100000 in
theorem d_Arr_copyOf_aJI_1 : decode prog_29_method_124_code 1 = .ok (.aload_n 0, 1) := by decide +kernel
set_option maxRecDepth 100000 in
theorem d_Arr_copyOf_aJI_2 : decode prog_29_method_124_code 2 = .ok (.arraylength, 1) := by decide +kernel
set_option maxRecDepth 100000 in
theorem d_Arr_copyOf_aJI_3 : decode prog_29_method_124_code 3 = .ok (.if_icmp .ne 11, 3) := by decide +kernel
set_option maxRecDepth 100000 in
theorem d_Arr_copyOf_aJI_14 : decode prog_29_method_124_code 14 = .ok (.iload_n 1, 1) := by decide +kernel
set_option maxRecDepth 100000 in
theorem d_Arr_copyOf_aJI_15 : decode prog_29_method_124_code 15 = .ok (.newarray .long, 2) := by decide +kernel
set_option maxRecDepth 100000 in
theorem d_Arr_copyOf_aJI_17 : decode prog_29_method_124_code 17 = .ok (.astore_n 2, 1) := by decide +kernel
set_option maxRecDepth 100000 in
theorem d_Arr_copyOf_aJI_18 : decode prog_29_method_124_code 18 = .ok (.aload_n 0, 1) := by decide +kernel
set_option maxRecDepth 100000 in
theorem d_Arr_copyOf_aJI_19 : decode prog_29_method_124_code 19 = .ok (.iconst 0, 1) := by decide +kernel
set_option maxRecDepth 100000 in
theorem d_Arr_copyOf_aJI_20 : decode prog_29_method_124_code 20 = .ok (.aload_n 2, 1) := by decide +kernel
set_option maxRecDepth 100000 in
theorem d_Arr_copyOf_aJI_21 : decode prog_29_method_124_code 21 = .ok (.iconst 0, 1) := by decide +kernel
set_option maxRecDepth 100000 in
theorem d_Arr_copyOf_aJI_22 : decode prog_29_method_124_code 22 = .ok (.aload_n 0, 1) := by decide +kernel
set_option maxRecDepth 100000 in
theorem d_Arr_copyOf_aJI_23 : decode prog_29_method_124_code 23 = .ok (.arraylength, 1) := by decide +kernel
set_option maxRecDepth 100000 in
theorem d_Arr_copyOf_aJI_24 : decode prog_29_method_124_code 24 = .ok (.iload_n 1, 1) := by decide +kernel
set_option maxRecDepth 100000 in
theorem d_Arr_copyOf_aJI_25 : decode prog_29_method_124_code 25 = .ok (.invokestatic 304, 3) := by decide +kernel
set_option maxRecDepth 100000 in
theorem d_Arr_copyOf_aJI_28 : decode prog_29_method_124_code 28 = .ok (.invokestatic 150, 3) := by decide +kernel
set_option maxRecDepth 100000 in
theorem d_Arr_copyOf_aJI_31 : decode prog_29_method_124_code 31 = .ok (.aload_n 2, 1) := by decide +kernel
set_option maxRecDepth 100000 in
theorem d_Arr_copyOf_aJI_32 : decode prog_29_method_124_code 32 = .ok (.areturn, 1) := by decide +kernel
set_option maxRecDepth 100000 in
theorem w_722 : (Cond.methodLink "StowTongue$Draft" 46 ⟨"java/util/Arrays", "copyOf", "([JI)[J"⟩ : Cond) ∈ am_tbl := am_w 722 (by decide +kernel) (by decide +kernel)
set_option maxRecDepth 100000 in
theorem w_724 : (Cond.code ⟨"java/util/Arrays", "copyOf", "([JI)[J"⟩ prog_29_method_124_code 3 (some (FieldType.array FieldType.long)) : Cond) ∈ am_tbl := am_w 724 rfl rfl
set_option maxRecDepth 100000 in
theorem l_Draft_46 : am_L "StowTongue$Draft" 46 2 m_Arr_copyOf_aJI := ⟨Or.inl w_722, w_166, w_724, ⟨by decide, by decide⟩, by decide +kernel, by decide⟩
set_option maxRecDepth 100000 in
theorem w_723 : (Cond.static ⟨"java/util/Arrays", "copyOf", "([JI)[J"⟩ : Cond) ∈ am_tbl := am_w 723 (by decide +kernel) (by decide +kernel)
set_option maxRecDepth 100000 in
theorem d_Draft_finish_45 : decode prog_3_method_12_code 45 = .ok (.invokestatic 46, 3) := by decide +kernel
set_option maxRecDepth 100000 in
theorem w_890 : (Cond.methodLink "StowTongue$Draft" 61 ⟨"StowTongue$Unit", "<init>", "(JIII[I[J)V"⟩ : Cond) ∈ am_tbl := am_w 890 (by decide +kernel) (by decide +kernel)
set_option maxRecDepth 100000 in
theorem l_Draft_61 : am_L "StowTongue$Draft" 61 6 m_Unit_init := ⟨Or.inl w_890, w_156, w_348, ⟨by decide, by decide⟩, by decide +kernel, by decide⟩
set_option maxRecDepth 100000 in
theorem d_Draft_finish_48 : decode prog_3_method_12_code 48 = .ok (.invokespecial 61, 3) := by decide +kernel
set_option maxRecDepth 100000 in
theorem d_Draft_finish_51 : decode prog_3_method_12_code 51 = .ok (.areturn, 1) := by decide +kernel
set_option maxRecDepth 100000 in
theorem w_884 : (Cond.methodLink "StowTongue$Parser" 70 ⟨"StowTongue$Draft", "finish", "(JII)LStowTongue$Unit;"⟩ : Cond) ∈ am_tbl := am_w 884 (by decide +kernel) (by decide +kernel)
set_option maxRecDepth 100000 in
theorem w_887 : (Cond.code ⟨"StowTongue$Draft", "finish", "(JII)LStowTongue$Unit;"⟩ prog_3_method_12_code 5 (some (FieldType.object "StowTongue$Unit")) : Cond) ∈ am_tbl := am_w 887 rfl rfl
set_option maxRecDepth 100000 in
theorem l_Pars_70 : am_L "StowTongue$Parser" 70 3 m_Draft_finish := ⟨Or.inl w_884, w_152, w_887, ⟨by decide, by decide⟩, by decide +kernel, by decide⟩
set_option maxRecDepth 100000 in
theorem w_885 : (Cond.instanceMethod ⟨"StowTongue$Draft", "finish", "(JII)LStowTongue$Unit;"⟩ : Cond) ∈ am_tbl := am_w 885 (by decide +kernel) (by decide +kernel)
set_option maxRecDepth 100000 in
theorem w_886 : (Cond.selects "StowTongue$Draft" ⟨"StowTongue$Draft", "finish", "(JII)LStowTongue$Unit;"⟩ ⟨"StowTongue$Draft", "finish", "(JII)LStowTongue$Unit;"⟩ : Cond) ∈ am_tbl := am_w 886 (by decide +kernel) (by decide +kernel)
set_option maxRecDepth 100000 in
theorem d_Pars_read_106 : decode prog_8_method_2_code 106 = .ok (.invokevirtual 70, 3) := by decide +kernel
set_option maxRecDepth 100000 in
theorem d_Pars_read_109 : decode prog_8_method_2_code 109 = .ok (.putfield 43, 3) := by decide +kernel
set_option maxRecDepth 100000 in
theorem d_Pars_read_112 : decode prog_8_method_2_code 112 = .ok (.aload_n 0, 1) := by decide +kernel
set_option maxRecDepth 100000 in
theorem d_Pars_read_113 : decode prog_8_method_2_code 113 = .ok (.getfield 51, 3) := by decide +kernel
set_option maxRecDepth 100000 in
theorem d_Pars_read_116 : decode prog_8_method_2_code 116 = .ok (.ireturn, 1) := by decide +kernel
set_option maxRecDepth 100000 in
theorem w_542 : (Cond.methodLink "StowTongue" 56 ⟨"StowTongue$Parser", "read", "([BI)I"⟩ : Cond) ∈ am_tbl := am_w 542 (by decide +kernel) (by decide +kernel)
set_option maxRecDepth 100000 in
theorem w_545 : (Cond.code ⟨"StowTongue$Parser", "read", "([BI)I"⟩ prog_8_method_2_code 4 (some FieldType.int) : Cond) ∈ am_tbl := am_w 545 rfl rfl
set_option maxRecDepth 100000 in
theorem l_Stow_56 : am_L "StowTongue" 56 2 m_Pars_read := ⟨Or.inl w_542, w_145, w_545, ⟨by decide, by decide⟩, by decide +kernel, by decide⟩
set_option maxRecDepth 100000 in
theorem w_543 : (Cond.instanceMethod ⟨"StowTongue$Parser", "read", "([BI)I"⟩ : Cond) ∈ am_tbl := am_w 543 (by decide +kernel) (by decide +kernel)
set_option maxRecDepth 100000 in
theorem w_544 : (Cond.selects "StowTongue$Parser" ⟨"StowTongue$Parser", "read", "([BI)I"⟩ ⟨"StowTongue$Parser", "read", "([BI)I"⟩ : Cond) ∈ am_tbl := am_w 544 (by decide +kernel) (by decide +kernel)
set_option maxRecDepth 100000 in
theorem d_Stow_run_25 : decode prog_1_method_5_code 25 = .ok (.invokevirtual 56, 3) := by decide +kernel
set_option maxRecDepth 100000 in
theorem d_Stow_run_28 : decode prog_1_method_5_code 28 = .ok (.istore_n 2, 1) := by decide +kernel
set_option maxRecDepth 100000 in
theorem d_Stow_run_29 : decode prog_1_method_5_code 29 = .ok (.aload_n 0, 1) := by decide +kernel
set_option maxRecDepth 100000 in
theorem d_Stow_run_30 : decode prog_1_method_5_code 30 = .ok (.iconst 0, 1) := by decide +kernel
set_option maxRecDepth 100000 in
theorem d_Stow_run_31 : decode prog_1_method_5_code 31 = .ok (.putfield 48, 3) := by decide +kernel
set_option maxRecDepth 100000 in
theorem d_Stow_run_34 : decode prog_1_method_5_code 34 = .ok (.iload_n 2, 1) := by decide +kernel
set_option maxRecDepth 100000 in
theorem d_Stow_run_35 : decode prog_1_method_5_code 35 = .ok (.ifCond .lt 8, 3) := by decide +kernel
set_option maxRecDepth 100000 in
theorem d_Stow_run_43 : decode prog_1_method_5_code 43 = .ok (.aload_n 0, 1) := by decide +kernel
set_option maxRecDepth 100000 in
theorem d_Stow_run_44 : decode prog_1_method_5_code 44 = .ok (.getfield 16, 3) := by decide +kernel
set_option maxRecDepth 100000 in
abbrev m_Out_clear : am_M := (⟨"StowTongue$Out", "clear", "()V"⟩, prog_7_method_2_code, 1, none)
set_option maxRecDepth 100000 in
theorem d_Out_clear_0 : decode prog_7_method_2_code 0 = .ok (.aload_n 0, 1) := by decide +kernel
set_option maxRecDepth 100000 in
theorem d_Out_clear_1 : decode prog_7_method_2_code 1 = .ok (.iconst 0, 1) := by decide +kernel
set_option maxRecDepth 100000 in
theorem d_Out_clear_2 : decode prog_7_method_2_code 2 = .ok (.putfield 15, 3) := by decide +kernel
set_option maxRecDepth 100000 in
theorem d_Out_clear_5 : decode prog_7_method_2_code 5 = .ok (.aload_n 0, 1) := by decide +kernel
set_option maxRecDepth 100000 in
theorem d_Out_clear_6 : decode prog_7_method_2_code 6 = .ok (.iconst 0, 1) := by decide +kernel
set_option maxRecDepth 100000 in
theorem w_187 : (Cond.fieldLink "StowTongue$Out" 19 "StowTongue$Out" "spilled" "Z" : Cond) ∈ am_tbl := am_w 187 (by decide +kernel) (by decide +kernel)
set_option maxRecDepth 100000 in
theorem f_Out_19 : am_F "StowTongue$Out" 19 0 2 := ⟨_, rfl, cl_0, by decide, Or.inl w_187⟩
set_option maxRecDepth 100000 in
theorem d_Out_clear_7 : decode prog_7_method_2_code 7 = .ok (.putfield 19, 3) := by decide +kernel
set_option maxRecDepth 100000 in
theorem d_Out_clear_10 : decode prog_7_method_2_code 10 = .ok (.return_, 1) := by decide +kernel
set_option maxRecDepth 100000 in
theorem w_945 : (Cond.methodLink "StowTongue" 60 ⟨"StowTongue$Out", "clear", "()V"⟩ : Cond) ∈ am_tbl := am_w 945 (by decide +kernel) (by decide +kernel)
set_option maxRecDepth 100000 in
theorem w_948 : (Cond.code ⟨"StowTongue$Out", "clear", "()V"⟩ prog_7_method_2_code 1 none : Cond) ∈ am_tbl := am_w 948 rfl rfl
set_option maxRecDepth 100000 in
theorem l_Stow_60 : am_L "StowTongue" 60 0 m_Out_clear := ⟨Or.inl w_945, w_144, w_948, ⟨by decide, by decide⟩, by decide +kernel, by decide⟩
set_option maxRecDepth 100000 in
theorem w_946 : (Cond.instanceMethod ⟨"StowTongue$Out", "clear", "()V"⟩ : Cond) ∈ am_tbl := am_w 946 (by decide +kernel) (by decide +kernel)
set_option maxRecDepth 100000 in
theorem w_947 : (Cond.selects "StowTongue$Out" ⟨"StowTongue$Out", "clear", "()V"⟩ ⟨"StowTongue$Out", "clear", "()V"⟩ : Cond) ∈ am_tbl := am_w 947 (by decide +kernel) (by decide +kernel)
set_option maxRecDepth 100000 in
theorem d_Stow_run_47 : decode prog_1_method_5_code 47 = .ok (.invokevirtual 60, 3) := by decide +kernel
set_option maxRecDepth 100000 in
theorem d_Stow_run_50 : decode prog_1_method_5_code 50 = .ok (.aload_n 0, 1) := by decide +kernel
set_option maxRecDepth 100000 in
abbrev m_Stow_forgetLatestRun : am_M := (⟨"StowTongue", "forgetLatestRun", "()V"⟩, prog_1_method_6_code, 1, none)
set_option maxRecDepth 100000 in
theorem d_Stow_forgetLatestRun_0 : decode prog_1_method_6_code 0 = .ok (.aload_n 0, 1) := by decide +kernel
set_option maxRecDepth 100000 in
theorem d_Stow_forgetLatestRun_1 : decode prog_1_method_6_code 1 = .ok (.iconst 0, 1) := by decide +kernel
set_option maxRecDepth 100000 in
theorem d_Stow_forgetLatestRun_2 : decode prog_1_method_6_code 2 = .ok (.putfield 86, 3) := by decide +kernel
set_option maxRecDepth 100000 in
theorem d_Stow_forgetLatestRun_5 : decode prog_1_method_6_code 5 = .ok (.aload_n 0, 1) := by decide +kernel
set_option maxRecDepth 100000 in
theorem d_Stow_forgetLatestRun_6 : decode prog_1_method_6_code 6 = .ok (.lconst 0, 1) := by decide +kernel
set_option maxRecDepth 100000 in
theorem d_Stow_forgetLatestRun_7 : decode prog_1_method_6_code 7 = .ok (.putfield 93, 3) := by decide +kernel
set_option maxRecDepth 100000 in
theorem d_Stow_forgetLatestRun_10 : decode prog_1_method_6_code 10 = .ok (.aload_n 0, 1) := by decide +kernel
set_option maxRecDepth 100000 in
theorem d_Stow_forgetLatestRun_11 : decode prog_1_method_6_code 11 = .ok (.lconst 0, 1) := by decide +kernel
set_option maxRecDepth 100000 in
theorem d_Stow_forgetLatestRun_12 : decode prog_1_method_6_code 12 = .ok (.putfield 100, 3) := by decide +kernel
set_option maxRecDepth 100000 in
theorem d_Stow_forgetLatestRun_15 : decode prog_1_method_6_code 15 = .ok (.return_, 1) := by decide +kernel
set_option maxRecDepth 100000 in
theorem w_949 : (Cond.methodLink "StowTongue" 63 ⟨"StowTongue", "forgetLatestRun", "()V"⟩ : Cond) ∈ am_tbl := am_w 949 (by decide +kernel) (by decide +kernel)
set_option maxRecDepth 100000 in
theorem w_952 : (Cond.code ⟨"StowTongue", "forgetLatestRun", "()V"⟩ prog_1_method_6_code 1 none : Cond) ∈ am_tbl := am_w 952 rfl rfl
set_option maxRecDepth 100000 in
theorem l_Stow_63 : am_L "StowTongue" 63 0 m_Stow_forgetLatestRun := ⟨Or.inl w_949, w_143, w_952, ⟨by decide, by decide⟩, by decide +kernel, by decide⟩
set_option maxRecDepth 100000 in
theorem w_951 : (Cond.instanceMethod ⟨"StowTongue", "forgetLatestRun", "()V"⟩ : Cond) ∈ am_tbl := am_w 951 (by decide +kernel) (by decide +kernel)
set_option maxRecDepth 100000 in
theorem w_39 : (Cond.selects "StowTongue" ⟨"StowTongue", "forgetLatestRun", "()V"⟩ ⟨"StowTongue", "forgetLatestRun", "()V"⟩ : Cond) ∈ am_tbl := am_w 39 (by decide +kernel) (by decide +kernel)
set_option maxRecDepth 100000 in
theorem d_Stow_run_51 : decode prog_1_method_5_code 51 = .ok (.invokevirtual 63, 3) := by decide +kernel
set_option maxRecDepth 100000 in
theorem d_Stow_run_54 : decode prog_1_method_5_code 54 = .ok (.aload_n 0, 1) := by decide +kernel
set_option maxRecDepth 100000 in
theorem d_Stow_run_55 : decode prog_1_method_5_code 55 = .ok (.getfield 37, 3) := by decide +kernel
set_option maxRecDepth 100000 in
theorem d_Stow_run_58 : decode prog_1_method_5_code 58 = .ok (.invokevirtual 66, 3) := by decide +kernel
set_option maxRecDepth 100000 in
theorem d_Stow_run_61 : decode prog_1_method_5_code 61 = .ok (.astore_n 3, 1) := by decide +kernel
set_option maxRecDepth 100000 in
theorem d_Stow_run_62 : decode prog_1_method_5_code 62 = .ok (.aload_n 0, 1) := by decide +kernel
set_option maxRecDepth 100000 in
theorem d_Stow_run_63 : decode prog_1_method_5_code 63 = .ok (.getfield 23, 3) := by decide +kernel
set_option maxRecDepth 100000 in
theorem d_Stow_run_66 : decode prog_1_method_5_code 66 = .ok (.aload_n 3, 1) := by decide +kernel
set_option maxRecDepth 100000 in
abbrev m_Pars_tellInto : am_M := (⟨"StowTongue$Parser", "tellInto", "(LStowTongue$Store;)Z"⟩, prog_8_method_4_code, 3, (some FieldType.boolean))
set_option maxRecDepth 100000 in
theorem d_Pars_tellInto_0 : decode prog_8_method_4_code 0 = .ok (.iconst 0, 1) := by decide +kernel
set_option maxRecDepth 100000 in
theorem d_Pars_tellInto_1 : decode prog_8_method_4_code 1 = .ok (.istore_n 2, 1) := by decide +kernel
set_option maxRecDepth 100000 in
theorem d_Pars_tellInto_2 : decode prog_8_method_4_code 2 = .ok (.iload_n 2, 1) := by decide +kernel
set_option maxRecDepth 100000 in
theorem d_Pars_tellInto_3 : decode prog_8_method_4_code 3 = .ok (.aload_n 0, 1) := by decide +kernel
set_option maxRecDepth 100000 in
theorem d_Pars_tellInto_4 : decode prog_8_method_4_code 4 = .ok (.getfield 34, 3) := by decide +kernel
set_option maxRecDepth 100000 in
abbrev m_AL_size : am_M := (⟨"java/util/ArrayList", "size", "()I"⟩, prog_28_method_8_code, 1, (some FieldType.int))
set_option maxRecDepth 100000 in
theorem d_AL_size_0 : decode prog_28_method_8_code 0 = .ok (.aload_n 0, 1) := by decide +kernel
set_option maxRecDepth 100000 in
theorem d_AL_size_1 : decode prog_28_method_8_code 1 = .ok (.getfield 48, 3) := by decide +kernel
set_option maxRecDepth 100000 in
theorem d_AL_size_4 : decode prog_28_method_8_code 4 = .ok (.ireturn, 1) := by decide +kernel
set_option maxRecDepth 100000 in
theorem w_1021 : (Cond.methodLink "StowTongue$Parser" 74 ⟨"java/util/ArrayList", "size", "()I"⟩ : Cond) ∈ am_tbl := am_w 1021 (by decide +kernel) (by decide +kernel)
set_option maxRecDepth 100000 in
theorem w_1024 : (Cond.code ⟨"java/util/ArrayList", "size", "()I"⟩ prog_28_method_8_code 1 (some FieldType.int) : Cond) ∈ am_tbl := am_w 1024 rfl rfl
set_option maxRecDepth 100000 in
theorem l_Pars_74 : am_L "StowTongue$Parser" 74 0 m_AL_size := ⟨Or.inl w_1021, w_155, w_1024, ⟨by decide, by decide⟩, by decide +kernel, by decide⟩
set_option maxRecDepth 100000 in
theorem w_1022 : (Cond.instanceMethod ⟨"java/util/ArrayList", "size", "()I"⟩ : Cond) ∈ am_tbl := am_w 1022 (by decide +kernel) (by decide +kernel)
set_option maxRecDepth 100000 in
theorem w_1023 : (Cond.selects "java/util/ArrayList" ⟨"java/util/ArrayList", "size", "()I"⟩ ⟨"java/util/ArrayList", "size", "()I"⟩ : Cond) ∈ am_tbl := am_w 1023 (by decide +kernel) (by decide +kernel)
set_option maxRecDepth 100000 in
theorem d_Pars_tellInto_7 : decode prog_8_method_4_code 7 = .ok (.invokevirtual 74, 3) := by decide +kernel
set_option maxRecDepth 100000 in
theorem d_Pars_tellInto_10 : decode prog_8_method_4_code 10 = .ok (.if_icmp .ge 29, 3) := by decide +kernel
set_option maxRecDepth 100000 in
theorem d_Pars_tellInto_39 : decode prog_8_method_4_code 39 = .ok (.iconst 1, 1) := by decide +kernel
set_option maxRecDepth 100000 in
theorem d_Pars_tellInto_40 : decode prog_8_method_4_code 40 = .ok (.ireturn, 1) := by decide +kernel
set_option maxRecDepth 100000 in
theorem w_1017 : (Cond.methodLink "StowTongue" 70 ⟨"StowTongue$Parser", "tellInto", "(LStowTongue$Store;)Z"⟩ : Cond) ∈ am_tbl := am_w 1017 (by decide +kernel) (by decide +kernel)
set_option maxRecDepth 100000 in
theorem w_1020 : (Cond.code ⟨"StowTongue$Parser", "tellInto", "(LStowTongue$Store;)Z"⟩ prog_8_method_4_code 3 (some FieldType.boolean) : Cond) ∈ am_tbl := am_w 1020 rfl rfl
set_option maxRecDepth 100000 in
theorem l_Stow_70 : am_L "StowTongue" 70 1 m_Pars_tellInto := ⟨Or.inl w_1017, w_145, w_1020, ⟨by decide, by decide⟩, by decide +kernel, by decide⟩
set_option maxRecDepth 100000 in
theorem w_1018 : (Cond.instanceMethod ⟨"StowTongue$Parser", "tellInto", "(LStowTongue$Store;)Z"⟩ : Cond) ∈ am_tbl := am_w 1018 (by decide +kernel) (by decide +kernel)
set_option maxRecDepth 100000 in
theorem w_1019 : (Cond.selects "StowTongue$Parser" ⟨"StowTongue$Parser", "tellInto", "(LStowTongue$Store;)Z"⟩ ⟨"StowTongue$Parser", "tellInto", "(LStowTongue$Store;)Z"⟩ : Cond) ∈ am_tbl := am_w 1019 (by decide +kernel) (by decide +kernel)
set_option maxRecDepth 100000 in
theorem d_Stow_run_67 : decode prog_1_method_5_code 67 = .ok (.invokevirtual 70, 3) := by decide +kernel
set_option maxRecDepth 100000 in
theorem d_Stow_run_70 : decode prog_1_method_5_code 70 = .ok (.ifCond .ne 6, 3) := by decide +kernel
set_option maxRecDepth 100000 in
theorem d_Stow_run_76 : decode prog_1_method_5_code 76 = .ok (.aload_n 0, 1) := by decide +kernel
set_option maxRecDepth 100000 in
theorem d_Stow_run_77 : decode prog_1_method_5_code 77 = .ok (.getfield 30, 3) := by decide +kernel
set_option maxRecDepth 100000 in
theorem d_Stow_run_80 : decode prog_1_method_5_code 80 = .ok (.aload_n 0, 1) := by decide +kernel
set_option maxRecDepth 100000 in
theorem d_Stow_run_81 : decode prog_1_method_5_code 81 = .ok (.getfield 23, 3) := by decide +kernel
set_option maxRecDepth 100000 in
abbrev m_Pars_program : am_M := (⟨"StowTongue$Parser", "program", "()LStowTongue$Unit;"⟩, prog_8_method_3_code, 1, (some (FieldType.object "StowTongue$Unit")))
set_option maxRecDepth 100000 in
theorem d_Pars_program_0 : decode prog_8_method_3_code 0 = .ok (.aload_n 0, 1) := by decide +kernel
set_option maxRecDepth 100000 in
theorem d_Pars_program_1 : decode prog_8_method_3_code 1 = .ok (.getfield 43, 3) := by decide +kernel
set_option maxRecDepth 100000 in
theorem d_Pars_program_4 : decode prog_8_method_3_code 4 = .ok (.areturn, 1) := by decide +kernel
set_option maxRecDepth 100000 in
theorem w_1057 : (Cond.methodLink "StowTongue" 74 ⟨"StowTongue$Parser", "program", "()LStowTongue$Unit;"⟩ : Cond) ∈ am_tbl := am_w 1057 (by decide +kernel) (by decide +kernel)
set_option maxRecDepth 100000 in
theorem w_1060 : (Cond.code ⟨"StowTongue$Parser", "program", "()LStowTongue$Unit;"⟩ prog_8_method_3_code 1 (some (FieldType.object "StowTongue$Unit")) : Cond) ∈ am_tbl := am_w 1060 rfl rfl
set_option maxRecDepth 100000 in
theorem l_Stow_74 : am_L "StowTongue" 74 0 m_Pars_program := ⟨Or.inl w_1057, w_145, w_1060, ⟨by decide, by decide⟩, by decide +kernel, by decide⟩
set_option maxRecDepth 100000 in
theorem w_1058 : (Cond.instanceMethod ⟨"StowTongue$Parser", "program", "()LStowTongue$Unit;"⟩ : Cond) ∈ am_tbl := am_w 1058 (by decide +kernel) (by decide +kernel)
set_option maxRecDepth 100000 in
theorem w_1059 : (Cond.selects "StowTongue$Parser" ⟨"StowTongue$Parser", "program", "()LStowTongue$Unit;"⟩ ⟨"StowTongue$Parser", "program", "()LStowTongue$Unit;"⟩ : Cond) ∈ am_tbl := am_w 1059 (by decide +kernel) (by decide +kernel)
set_option maxRecDepth 100000 in
theorem d_Stow_run_84 : decode prog_1_method_5_code 84 = .ok (.invokevirtual 74, 3) := by decide +kernel
set_option maxRecDepth 100000 in
theorem d_Stow_run_87 : decode prog_1_method_5_code 87 = .ok (.aload_n 3, 1) := by decide +kernel
set_option maxRecDepth 100000 in
theorem d_Stow_run_88 : decode prog_1_method_5_code 88 = .ok (.aload_n 0, 1) := by decide +kernel
set_option maxRecDepth 100000 in
theorem d_Stow_run_89 : decode prog_1_method_5_code 89 = .ok (.getfield 16, 3) := by decide +kernel
set_option maxRecDepth 100000 in
theorem d_Stow_run_92 : decode prog_1_method_5_code 92 = .ok (.iload_n 1, 1) := by decide +kernel
set_option maxRecDepth 100000 in
abbrev m_Mach_perform : am_M := (⟨"StowTongue$Machine", "perform", "(LStowTongue$Unit;LStowTongue$Store;LStowTongue$Out;I)I"⟩, prog_6_method_3_code, 8, (some FieldType.int))
set_option maxRecDepth 100000 in
theorem d_Mach_perform_0 : decode prog_6_method_3_code 0 = .ok (.aload_n 0, 1) := by decide +kernel
set_option maxRecDepth 100000 in
theorem d_Mach_perform_1 : decode prog_6_method_3_code 1 = .ok (.aload_n 2, 1) := by decide +kernel
set_option maxRecDepth 100000 in
theorem w_412 : (Cond.fieldLink "StowTongue$Machine" 29 "StowTongue$Machine" "store" "LStowTongue$Store;" : Cond) ∈ am_tbl := am_w 412 (by decide +kernel) (by decide +kernel)
set_option maxRecDepth 100000 in
theorem f_Mach_29 : am_F "StowTongue$Machine" 29 6 10 := ⟨_, rfl, cl_6, by decide, Or.inl w_412⟩
set_option maxRecDepth 100000 in
theorem d_Mach_perform_2 : decode prog_6_method_3_code 2 = .ok (.putfield 29, 3) := by decide +kernel
set_option maxRecDepth 100000 in
theorem d_Mach_perform_5 : decode prog_6_method_3_code 5 = .ok (.aload_n 0, 1) := by decide +kernel
set_option maxRecDepth 100000 in
theorem d_Mach_perform_6 : decode prog_6_method_3_code 6 = .ok (.aload_n 3, 1) := by decide +kernel
set_option maxRecDepth 100000 in
theorem w_413 : (Cond.fieldLink "StowTongue$Machine" 33 "StowTongue$Machine" "out" "LStowTongue$Out;" : Cond) ∈ am_tbl := am_w 413 (by decide +kernel) (by decide +kernel)
set_option maxRecDepth 100000 in
theorem f_Mach_33 : am_F "StowTongue$Machine" 33 6 11 := ⟨_, rfl, cl_6, by decide, Or.inl w_413⟩
set_option maxRecDepth 100000 in
theorem d_Mach_perform_7 : decode prog_6_method_3_code 7 = .ok (.putfield 33, 3) := by decide +kernel
set_option maxRecDepth 100000 in
theorem d_Mach_perform_10 : decode prog_6_method_3_code 10 = .ok (.aload_n 0, 1) := by decide +kernel
set_option maxRecDepth 100000 in
theorem d_Mach_perform_11 : decode prog_6_method_3_code 11 = .ok (.iload 4, 2) := by decide +kernel
set_option maxRecDepth 100000 in
theorem w_414 : (Cond.fieldLink "StowTongue$Machine" 37 "StowTongue$Machine" "fuel" "I" : Cond) ∈ am_tbl := am_w 414 (by decide +kernel) (by decide +kernel)
set_option maxRecDepth 100000 in
theorem f_Mach_37 : am_F "StowTongue$Machine" 37 6 12 := ⟨_, rfl, cl_6, by decide, Or.inl w_414⟩
set_option maxRecDepth 100000 in
theorem d_Mach_perform_13 : decode prog_6_method_3_code 13 = .ok (.putfield 37, 3) := by decide +kernel
set_option maxRecDepth 100000 in
theorem d_Mach_perform_16 : decode prog_6_method_3_code 16 = .ok (.aload_n 0, 1) := by decide +kernel
set_option maxRecDepth 100000 in
theorem d_Mach_perform_17 : decode prog_6_method_3_code 17 = .ok (.iconst 0, 1) := by decide +kernel
set_option maxRecDepth 100000 in
theorem w_415 : (Cond.fieldLink "StowTongue$Machine" 41 "StowTongue$Machine" "taken" "I" : Cond) ∈ am_tbl := am_w 415 (by decide +kernel) (by decide +kernel)
set_option maxRecDepth 100000 in
theorem f_Mach_41 : am_F "StowTongue$Machine" 41 6 13 := ⟨_, rfl, cl_6, by decide, Or.inl w_415⟩
set_option maxRecDepth 100000 in
theorem d_Mach_perform_18 : decode prog_6_method_3_code 18 = .ok (.putfield 41, 3) := by decide +kernel
set_option maxRecDepth 100000 in
theorem d_Mach_perform_21 : decode prog_6_method_3_code 21 = .ok (.aload_n 0, 1) := by decide +kernel
set_option maxRecDepth 100000 in
theorem d_Mach_perform_22 : decode prog_6_method_3_code 22 = .ok (.iconst 0, 1) := by decide +kernel
set_option maxRecDepth 100000 in
theorem w_416 : (Cond.fieldLink "StowTongue$Machine" 44 "StowTongue$Machine" "error" "I" : Cond) ∈ am_tbl := am_w 416 (by decide +kernel) (by decide +kernel)
set_option maxRecDepth 100000 in
theorem f_Mach_44 : am_F "StowTongue$Machine" 44 6 14 := ⟨_, rfl, cl_6, by decide, Or.inl w_416⟩
set_option maxRecDepth 100000 in
theorem d_Mach_perform_23 : decode prog_6_method_3_code 23 = .ok (.putfield 44, 3) := by decide +kernel
set_option maxRecDepth 100000 in
theorem d_Mach_perform_26 : decode prog_6_method_3_code 26 = .ok (.aload_n 0, 1) := by decide +kernel
set_option maxRecDepth 100000 in
theorem d_Mach_perform_27 : decode prog_6_method_3_code 27 = .ok (.iconst 0, 1) := by decide +kernel
set_option maxRecDepth 100000 in
theorem w_417 : (Cond.fieldLink "StowTongue$Machine" 47 "StowTongue$Machine" "done" "Z" : Cond) ∈ am_tbl := am_w 417 (by decide +kernel) (by decide +kernel)
set_option maxRecDepth 100000 in
theorem f_Mach_47 : am_F "StowTongue$Machine" 47 6 15 := ⟨_, rfl, cl_6, by decide, Or.inl w_417⟩
set_option maxRecDepth 100000 in
theorem d_Mach_perform_28 : decode prog_6_method_3_code 28 = .ok (.putfield 47, 3) := by decide +kernel
set_option maxRecDepth 100000 in
theorem d_Mach_perform_31 : decode prog_6_method_3_code 31 = .ok (.aload_n 0, 1) := by decide +kernel
set_option maxRecDepth 100000 in
theorem d_Mach_perform_32 : decode prog_6_method_3_code 32 = .ok (.iconst 0, 1) := by decide +kernel
set_option maxRecDepth 100000 in
theorem w_411 : (Cond.fieldLink "StowTongue$Machine" 51 "StowTongue$Machine" "calls" "I" : Cond) ∈ am_tbl := am_w 411 (by decide +kernel) (by decide +kernel)
set_option maxRecDepth 100000 in
theorem f_Mach_51 : am_F "StowTongue$Machine" 51 6 9 := ⟨_, rfl, cl_6, by decide, Or.inl w_411⟩
set_option maxRecDepth 100000 in
theorem d_Mach_perform_33 : decode prog_6_method_3_code 33 = .ok (.putfield 51, 3) := by decide +kernel
set_option maxRecDepth 100000 in
theorem d_Mach_perform_36 : decode prog_6_method_3_code 36 = .ok (.aload_n 0, 1) := by decide +kernel
set_option maxRecDepth 100000 in
theorem d_Mach_perform_37 : decode prog_6_method_3_code 37 = .ok (.iconst 0, 1) := by decide +kernel
set_option maxRecDepth 100000 in
theorem w_404 : (Cond.fieldLink "StowTongue$Machine" 54 "StowTongue$Machine" "top" "I" : Cond) ∈ am_tbl := am_w 404 (by decide +kernel) (by decide +kernel)
set_option maxRecDepth 100000 in
theorem f_Mach_54 : am_F "StowTongue$Machine" 54 6 2 := ⟨_, rfl, cl_6, by decide, Or.inl w_404⟩
set_option maxRecDepth 100000 in
theorem d_Mach_perform_38 : decode prog_6_method_3_code 38 = .ok (.putfield 54, 3) := by decide +kernel
set_option maxRecDepth 100000 in
theorem d_Mach_perform_41 : decode prog_6_method_3_code 41 = .ok (.aload_n 0, 1) := by decide +kernel
set_option maxRecDepth 100000 in
theorem d_Mach_perform_42 : decode prog_6_method_3_code 42 = .ok (.aload_n 1, 1) := by decide +kernel
set_option maxRecDepth 100000 in
theorem d_Mach_perform_43 : decode prog_6_method_3_code 43 = .ok (.iconst 0, 1) := by decide +kernel
set_option maxRecDepth 100000 in
abbrev m_Mach_enter : am_M := (⟨"StowTongue$Machine", "enter", "(LStowTongue$Unit;I)V"⟩, prog_6_method_18_code, 4, none)
set_option maxRecDepth 100000 in
theorem d_Mach_enter_0 : decode prog_6_method_18_code 0 = .ok (.aload_n 0, 1) := by decide +kernel
set_option maxRecDepth 100000 in
theorem d_Mach_enter_1 : decode prog_6_method_18_code 1 = .ok (.aload_n 0, 1) := by decide +kernel
set_option maxRecDepth 100000 in
theorem d_Mach_enter_2 : decode prog_6_method_18_code 2 = .ok (.iload_n 2, 1) := by decide +kernel
set_option maxRecDepth 100000 in
abbrev m_Mach_below : am_M := (⟨"StowTongue$Machine", "below", "(I)I"⟩, prog_6_method_8_code, 2, (some FieldType.int))
set_option maxRecDepth 100000 in
theorem d_Mach_below_0 : decode prog_6_method_8_code 0 = .ok (.iconst 0, 1) := by decide +kernel
set_option maxRecDepth 100000 in
theorem d_Mach_below_1 : decode prog_6_method_8_code 1 = .ok (.aload_n 0, 1) := by decide +kernel
set_option maxRecDepth 100000 in
theorem d_Mach_below_2 : decode prog_6_method_8_code 2 = .ok (.getfield 54, 3) := by decide +kernel
set_option maxRecDepth 100000 in
theorem d_Mach_below_5 : decode prog_6_method_8_code 5 = .ok (.iload_n 1, 1) := by decide +kernel
set_option maxRecDepth 100000 in
theorem d_Mach_below_6 : decode prog_6_method_8_code 6 = .ok (.isub, 1) := by decide +kernel
set_option maxRecDepth 100000 in
theorem w_1073 : (Cond.methodLink "StowTongue$Machine" 100 ⟨"java/lang/Math", "max", "(II)I"⟩ : Cond) ∈ am_tbl := am_w 1073 (by decide +kernel) (by decide +kernel)
set_option maxRecDepth 100000 in
theorem w_623 : (Cond.static ⟨"java/lang/Math", "max", "(II)I"⟩ : Cond) ∈ am_tbl := am_w 623 (by decide +kernel) (by decide +kernel)
set_option maxRecDepth 100000 in
theorem w_624 : (Cond.code ⟨"java/lang/Math", "max", "(II)I"⟩ prog_21_method_65_code 2 (some FieldType.int) : Cond) ∈ am_tbl := am_w 624 rfl rfl
set_option maxRecDepth 100000 in
theorem d_Mach_below_7 : decode prog_6_method_8_code 7 = .ok (.invokestatic 100, 3) := by decide +kernel
set_option maxRecDepth 100000 in
theorem d_Mach_below_10 : decode prog_6_method_8_code 10 = .ok (.ireturn, 1) := by decide +kernel
set_option maxRecDepth 100000 in
theorem w_1069 : (Cond.methodLink "StowTongue$Machine" 133 ⟨"StowTongue$Machine", "below", "(I)I"⟩ : Cond) ∈ am_tbl := am_w 1069 (by decide +kernel) (by decide +kernel)
set_option maxRecDepth 100000 in
theorem w_1072 : (Cond.code ⟨"StowTongue$Machine", "below", "(I)I"⟩ prog_6_method_8_code 2 (some FieldType.int) : Cond) ∈ am_tbl := am_w 1072 rfl rfl
set_option maxRecDepth 100000 in
theorem l_Mach_133 : am_L "StowTongue$Machine" 133 1 m_Mach_below := ⟨Or.inl w_1069, w_157, w_1072, ⟨by decide, by decide⟩, by decide +kernel, by decide⟩
set_option maxRecDepth 100000 in
theorem w_1071 : (Cond.instanceMethod ⟨"StowTongue$Machine", "below", "(I)I"⟩ : Cond) ∈ am_tbl := am_w 1071 (by decide +kernel) (by decide +kernel)
set_option maxRecDepth 100000 in
theorem w_43 : (Cond.selects "StowTongue$Machine" ⟨"StowTongue$Machine", "below", "(I)I"⟩ ⟨"StowTongue$Machine", "below", "(I)I"⟩ : Cond) ∈ am_tbl := am_w 43 (by decide +kernel) (by decide +kernel)
set_option maxRecDepth 100000 in
theorem d_Mach_enter_3 : decode prog_6_method_18_code 3 = .ok (.invokevirtual 133, 3) := by decide +kernel
set_option maxRecDepth 100000 in
theorem w_405 : (Cond.fieldLink "StowTongue$Machine" 171 "StowTongue$Machine" "base" "I" : Cond) ∈ am_tbl := am_w 405 (by decide +kernel) (by decide +kernel)
set_option maxRecDepth 100000 in
theorem f_Mach_171 : am_F "StowTongue$Machine" 171 6 3 := ⟨_, rfl, cl_6, by decide, Or.inl w_405⟩
set_option maxRecDepth 100000 in
theorem d_Mach_enter_6 : decode prog_6_method_18_code 6 = .ok (.putfield 171, 3) := by decide +kernel
set_option maxRecDepth 100000 in
theorem d_Mach_enter_9 : decode prog_6_method_18_code 9 = .ok (.aload_n 0, 1) := by decide +kernel
set_option maxRecDepth 100000 in
theorem d_Mach_enter_10 : decode prog_6_method_18_code 10 = .ok (.aload_n 1, 1) := by decide +kernel
set_option maxRecDepth 100000 in
theorem w_406 : (Cond.fieldLink "StowTongue$Machine" 62 "StowTongue$Machine" "unit" "LStowTongue$Unit;" : Cond) ∈ am_tbl := am_w 406 (by decide +kernel) (by decide +kernel)
set_option maxRecDepth 100000 in
theorem f_Mach_62 : am_F "StowTongue$Machine" 62 6 4 := ⟨_, rfl, cl_6, by decide, Or.inl w_406⟩
set_option maxRecDepth 100000 in
theorem d_Mach_enter_11 : decode prog_6_method_18_code 11 = .ok (.putfield 62, 3) := by decide +kernel
set_option maxRecDepth 100000 in
theorem d_Mach_enter_14 : decode prog_6_method_18_code 14 = .ok (.aload_n 0, 1) := by decide +kernel
set_option maxRecDepth 100000 in
theorem d_Mach_enter_15 : decode prog_6_method_18_code 15 = .ok (.iconst 0, 1) := by decide +kernel
set_option maxRecDepth 100000 in
theorem w_407 : (Cond.fieldLink "StowTongue$Machine" 66 "StowTongue$Machine" "next" "I" : Cond) ∈ am_tbl := am_w 407 (by decide +kernel) (by decide +kernel)
set_option maxRecDepth 100000 in
theorem f_Mach_66 : am_F "StowTongue$Machine" 66 6 5 := ⟨_, rfl, cl_6, by decide, Or.inl w_407⟩
set_option maxRecDepth 100000 in
theorem d_Mach_enter_16 : decode prog_6_method_18_code 16 = .ok (.putfield 66, 3) := by decide +kernel
set_option maxRecDepth 100000 in
theorem d_Mach_enter_19 : decode prog_6_method_18_code 19 = .ok (.iload_n 2, 1) := by decide +kernel
set_option maxRecDepth 100000 in
theorem d_Mach_enter_20 : decode prog_6_method_18_code 20 = .ok (.istore_n 3, 1) := by decide +kernel
set_option maxRecDepth 100000 in
theorem d_Mach_enter_21 : decode prog_6_method_18_code 21 = .ok (.iload_n 3, 1) := by decide +kernel
set_option maxRecDepth 100000 in
theorem d_Mach_enter_22 : decode prog_6_method_18_code 22 = .ok (.aload_n 1, 1) := by decide +kernel
set_option maxRecDepth 100000 in
abbrev m_Unit_locals : am_M := (⟨"StowTongue$Unit", "locals", "()I"⟩, prog_11_method_4_code, 1, (some FieldType.int))
set_option maxRecDepth 100000 in
theorem d_Unit_locals_0 : decode prog_11_method_4_code 0 = .ok (.aload_n 0, 1) := by decide +kernel
set_option maxRecDepth 100000 in
theorem d_Unit_locals_1 : decode prog_11_method_4_code 1 = .ok (.getfield 17, 3) := by decide +kernel
set_option maxRecDepth 100000 in
theorem d_Unit_locals_4 : decode prog_11_method_4_code 4 = .ok (.ireturn, 1) := by decide +kernel
set_option maxRecDepth 100000 in
theorem w_1074 : (Cond.methodLink "StowTongue$Machine" 174 ⟨"StowTongue$Unit", "locals", "()I"⟩ : Cond) ∈ am_tbl := am_w 1074 (by decide +kernel) (by decide +kernel)
set_option maxRecDepth 100000 in
theorem w_1077 : (Cond.code ⟨"StowTongue$Unit", "locals", "()I"⟩ prog_11_method_4_code 1 (some FieldType.int) : Cond) ∈ am_tbl := am_w 1077 rfl rfl
set_option maxRecDepth 100000 in
theorem l_Mach_174 : am_L "StowTongue$Machine" 174 0 m_Unit_locals := ⟨Or.inl w_1074, w_156, w_1077, ⟨by decide, by decide⟩, by decide +kernel, by decide⟩
set_option maxRecDepth 100000 in
theorem w_1075 : (Cond.instanceMethod ⟨"StowTongue$Unit", "locals", "()I"⟩ : Cond) ∈ am_tbl := am_w 1075 (by decide +kernel) (by decide +kernel)
set_option maxRecDepth 100000 in
theorem w_1076 : (Cond.selects "StowTongue$Unit" ⟨"StowTongue$Unit", "locals", "()I"⟩ ⟨"StowTongue$Unit", "locals", "()I"⟩ : Cond) ∈ am_tbl := am_w 1076 (by decide +kernel) (by decide +kernel)
set_option maxRecDepth 100000 in
theorem d_Mach_enter_23 : decode prog_6_method_18_code 23 = .ok (.invokevirtual 174, 3) := by decide +kernel
set_option maxRecDepth 100000 in
theorem d_Mach_enter_26 : decode prog_6_method_18_code 26 = .ok (.if_icmp .ge 15, 3) := by decide +kernel
set_option maxRecDepth 100000 in
theorem d_Mach_enter_41 : decode prog_6_method_18_code 41 = .ok (.return_, 1) := by decide +kernel
set_option maxRecDepth 100000 in
theorem w_1065 : (Cond.methodLink "StowTongue$Machine" 57 ⟨"StowTongue$Machine", "enter", "(LStowTongue$Unit;I)V"⟩ : Cond) ∈ am_tbl := am_w 1065 (by decide +kernel) (by decide +kernel)
set_option maxRecDepth 100000 in
theorem w_1068 : (Cond.code ⟨"StowTongue$Machine", "enter", "(LStowTongue$Unit;I)V"⟩ prog_6_method_18_code 4 none : Cond) ∈ am_tbl := am_w 1068 rfl rfl
set_option maxRecDepth 100000 in
theorem l_Mach_57 : am_L "StowTongue$Machine" 57 2 m_Mach_enter := ⟨Or.inl w_1065, w_157, w_1068, ⟨by decide, by decide⟩, by decide +kernel, by decide⟩
set_option maxRecDepth 100000 in
theorem w_1067 : (Cond.instanceMethod ⟨"StowTongue$Machine", "enter", "(LStowTongue$Unit;I)V"⟩ : Cond) ∈ am_tbl := am_w 1067 (by decide +kernel) (by decide +kernel)
set_option maxRecDepth 100000 in
theorem w_42 : (Cond.selects "StowTongue$Machine" ⟨"StowTongue$Machine", "enter", "(LStowTongue$Unit;I)V"⟩ ⟨"StowTongue$Machine", "enter", "(LStowTongue$Unit;I)V"⟩ : Cond) ∈ am_tbl := am_w 42 (by decide +kernel) (by decide +kernel)
set_option maxRecDepth 100000 in
theorem d_Mach_perform_44 : decode prog_6_method_3_code 44 = .ok (.invokevirtual 57, 3) := by decide +kernel
set_option maxRecDepth 100000 in
theorem d_Mach_perform_47 : decode prog_6_method_3_code 47 = .ok (.iconst 0, 1) := by decide +kernel
set_option maxRecDepth 100000 in
theorem d_Mach_perform_48 : decode prog_6_method_3_code 48 = .ok (.istore 5, 2) := by decide +kernel
set_option maxRecDepth 100000 in
theorem d_Mach_perform_50 : decode prog_6_method_3_code 50 = .ok (.iload 5, 2) := by decide +kernel
set_option maxRecDepth 100000 in
theorem d_Mach_perform_52 : decode prog_6_method_3_code 52 = .ok (.ldc 61, 2) := by decide +kernel
set_option maxRecDepth 100000 in
theorem w_1087 : (Cond.constant "StowTongue$Machine" 61 100000000 : Cond) ∈ am_tbl := am_w 1087 (by decide +kernel) (by decide +kernel)
set_option maxRecDepth 100000 in
theorem d_Mach_perform_54 : decode prog_6_method_3_code 54 = .ok (.if_icmp .ge 137, 3) := by decide +kernel
set_option maxRecDepth 100000 in
theorem d_Mach_perform_57 : decode prog_6_method_3_code 57 = .ok (.aload_n 0, 1) := by decide +kernel
set_option maxRecDepth 100000 in
theorem d_Mach_perform_58 : decode prog_6_method_3_code 58 = .ok (.getfield 47, 3) := by decide +kernel
set_option maxRecDepth 100000 in
theorem d_Mach_perform_61 : decode prog_6_method_3_code 61 = .ok (.ifCond .ne 130, 3) := by decide +kernel
set_option maxRecDepth 100000 in
theorem d_Mach_perform_64 : decode prog_6_method_3_code 64 = .ok (.aload_n 0, 1) := by decide +kernel
set_option maxRecDepth 100000 in
theorem d_Mach_perform_65 : decode prog_6_method_3_code 65 = .ok (.getfield 62, 3) := by decide +kernel
set_option maxRecDepth 100000 in
theorem d_Mach_perform_68 : decode prog_6_method_3_code 68 = .ok (.ifnull 123, 3) := by decide +kernel
set_option maxRecDepth 100000 in
theorem d_Mach_perform_71 : decode prog_6_method_3_code 71 = .ok (.aload_n 0, 1) := by decide +kernel
set_option maxRecDepth 100000 in
theorem d_Mach_perform_72 : decode prog_6_method_3_code 72 = .ok (.getfield 62, 3) := by decide +kernel
set_option maxRecDepth 100000 in
theorem d_Mach_perform_75 : decode prog_6_method_3_code 75 = .ok (.aload_n 0, 1) := by decide +kernel
set_option maxRecDepth 100000 in
theorem d_Mach_perform_76 : decode prog_6_method_3_code 76 = .ok (.getfield 66, 3) := by decide +kernel
set_option maxRecDepth 100000 in
abbrev m_Unit_op : am_M := (⟨"StowTongue$Unit", "op", "(I)I"⟩, prog_11_method_6_code, 3, (some FieldType.int))
set_option maxRecDepth 100000 in
theorem d_Unit_op_0 : decode prog_11_method_6_code 0 = .ok (.iconst 2, 1) := by decide +kernel
set_option maxRecDepth 100000 in
theorem d_Unit_op_1 : decode prog_11_method_6_code 1 = .ok (.iload_n 1, 1) := by decide +kernel
set_option maxRecDepth 100000 in
theorem d_Unit_op_2 : decode prog_11_method_6_code 2 = .ok (.imul, 1) := by decide +kernel
set_option maxRecDepth 100000 in
theorem d_Unit_op_3 : decode prog_11_method_6_code 3 = .ok (.istore_n 2, 1) := by decide +kernel
set_option maxRecDepth 100000 in
theorem d_Unit_op_4 : decode prog_11_method_6_code 4 = .ok (.iload_n 2, 1) := by decide +kernel
set_option maxRecDepth 100000 in
theorem d_Unit_op_5 : decode prog_11_method_6_code 5 = .ok (.ifCond .lt 21, 3) := by decide +kernel
set_option maxRecDepth 100000 in
theorem d_Unit_op_8 : decode prog_11_method_6_code 8 = .ok (.iload_n 2, 1) := by decide +kernel
set_option maxRecDepth 100000 in
theorem d_Unit_op_9 : decode prog_11_method_6_code 9 = .ok (.aload_n 0, 1) := by decide +kernel
set_option maxRecDepth 100000 in
theorem d_Unit_op_10 : decode prog_11_method_6_code 10 = .ok (.getfield 23, 3) := by decide +kernel
set_option maxRecDepth 100000 in
theorem d_Unit_op_13 : decode prog_11_method_6_code 13 = .ok (.arraylength, 1) := by decide +kernel
set_option maxRecDepth 100000 in
theorem d_Unit_op_14 : decode prog_11_method_6_code 14 = .ok (.if_icmp .ge 12, 3) := by decide +kernel
set_option maxRecDepth 100000 in
theorem d_Unit_op_17 : decode prog_11_method_6_code 17 = .ok (.aload_n 0, 1) := by decide +kernel
set_option maxRecDepth 100000 in
theorem d_Unit_op_18 : decode prog_11_method_6_code 18 = .ok (.getfield 23, 3) := by decide +kernel
set_option maxRecDepth 100000 in
theorem d_Unit_op_21 : decode prog_11_method_6_code 21 = .ok (.iload_n 2, 1) := by decide +kernel
set_option maxRecDepth 100000 in
theorem d_Unit_op_22 : decode prog_11_method_6_code 22 = .ok (.iaload, 1) := by decide +kernel
set_option maxRecDepth 100000 in
theorem d_Unit_op_23 : decode prog_11_method_6_code 23 = .ok (.goto 5, 3) := by decide +kernel
set_option maxRecDepth 100000 in
theorem d_Unit_op_28 : decode prog_11_method_6_code 28 = .ok (.ireturn, 1) := by decide +kernel
set_option maxRecDepth 100000 in
theorem w_1088 : (Cond.methodLink "StowTongue$Machine" 69 ⟨"StowTongue$Unit", "op", "(I)I"⟩ : Cond) ∈ am_tbl := am_w 1088 (by decide +kernel) (by decide +kernel)
set_option maxRecDepth 100000 in
theorem w_1091 : (Cond.code ⟨"StowTongue$Unit", "op", "(I)I"⟩ prog_11_method_6_code 3 (some FieldType.int) : Cond) ∈ am_tbl := am_w 1091 rfl rfl
set_option maxRecDepth 100000 in
theorem l_Mach_69 : am_L "StowTongue$Machine" 69 1 m_Unit_op := ⟨Or.inl w_1088, w_156, w_1091, ⟨by decide, by decide⟩, by decide +kernel, by decide⟩
set_option maxRecDepth 100000 in
theorem w_1089 : (Cond.instanceMethod ⟨"StowTongue$Unit", "op", "(I)I"⟩ : Cond) ∈ am_tbl := am_w 1089 (by decide +kernel) (by decide +kernel)
set_option maxRecDepth 100000 in
theorem w_1090 : (Cond.selects "StowTongue$Unit" ⟨"StowTongue$Unit", "op", "(I)I"⟩ ⟨"StowTongue$Unit", "op", "(I)I"⟩ : Cond) ∈ am_tbl := am_w 1090 (by decide +kernel) (by decide +kernel)
set_option maxRecDepth 100000 in
theorem d_Mach_perform_79 : decode prog_6_method_3_code 79 = .ok (.invokevirtual 69, 3) := by decide +kernel
set_option maxRecDepth 100000 in
theorem d_Mach_perform_82 : decode prog_6_method_3_code 82 = .ok (.istore 6, 2) := by decide +kernel
set_option maxRecDepth 100000 in
theorem d_Mach_perform_84 : decode prog_6_method_3_code 84 = .ok (.aload_n 0, 1) := by decide +kernel
set_option maxRecDepth 100000 in
theorem d_Mach_perform_85 : decode prog_6_method_3_code 85 = .ok (.getfield 62, 3) := by decide +kernel
set_option maxRecDepth 100000 in
theorem d_Mach_perform_88 : decode prog_6_method_3_code 88 = .ok (.aload_n 0, 1) := by decide +kernel
set_option maxRecDepth 100000 in
theorem d_Mach_perform_89 : decode prog_6_method_3_code 89 = .ok (.getfield 66, 3) := by decide +kernel
set_option maxRecDepth 100000 in
abbrev m_Unit_argument : am_M := (⟨"StowTongue$Unit", "argument", "(I)I"⟩, prog_11_method_7_code, 3, (some FieldType.int))
set_option maxRecDepth 100000 in
theorem d_Unit_argument_0 : decode prog_11_method_7_code 0 = .ok (.iconst 2, 1) := by decide +kernel
set_option maxRecDepth 100000 in
theorem d_Unit_argument_1 : decode prog_11_method_7_code 1 = .ok (.iload_n 1, 1) := by decide +kernel
set_option maxRecDepth 100000 in
theorem d_Unit_argument_2 : decode prog_11_method_7_code 2 = .ok (.imul, 1) := by decide +kernel
set_option maxRecDepth 100000 in
theorem d_Unit_argument_3 : decode prog_11_method_7_code 3 = .ok (.iconst 1, 1) := by decide +kernel
set_option maxRecDepth 100000 in
theorem d_Unit_argument_4 : decode prog_11_method_7_code 4 = .ok (.iadd, 1) := by decide +kernel
set_option maxRecDepth 100000 in
theorem d_Unit_argument_5 : decode prog_11_method_7_code 5 = .ok (.istore_n 2, 1) := by decide +kernel
set_option maxRecDepth 100000 in
theorem d_Unit_argument_6 : decode prog_11_method_7_code 6 = .ok (.iload_n 2, 1) := by decide +kernel
set_option maxRecDepth 100000 in
theorem d_Unit_argument_7 : decode prog_11_method_7_code 7 = .ok (.iconst 1, 1) := by decide +kernel
set_option maxRecDepth 100000 in
theorem d_Unit_argument_8 : decode prog_11_method_7_code 8 = .ok (.if_icmp .lt 21, 3) := by decide +kernel
set_option maxRecDepth 100000 in
theorem d_Unit_argument_11 : decode prog_11_method_7_code 11 = .ok (.iload_n 2, 1) := by decide +kernel
set_option maxRecDepth 100000 in
theorem d_Unit_argument_12 : decode prog_11_method_7_code 12 = .ok (.aload_n 0, 1) := by decide +kernel
set_option maxRecDepth 100000 in
theorem d_Unit_argument_13 : decode prog_11_method_7_code 13 = .ok (.getfield 23, 3) := by decide +kernel
set_option maxRecDepth 100000 in
theorem d_Unit_argument_16 : decode prog_11_method_7_code 16 = .ok (.arraylength, 1) := by decide +kernel
set_option maxRecDepth 100000 in
theorem d_Unit_argument_17 : decode prog_11_method_7_code 17 = .ok (.if_icmp .ge 12, 3) := by decide +kernel
set_option maxRecDepth 100000 in
theorem d_Unit_argument_20 : decode prog_11_method_7_code 20 = .ok (.aload_n 0, 1) := by decide +kernel
set_option maxRecDepth 100000 in
theorem d_Unit_argument_21 : decode prog_11_method_7_code 21 = .ok (.getfield 23, 3) := by decide +kernel
set_option maxRecDepth 100000 in
theorem d_Unit_argument_24 : decode prog_11_method_7_code 24 = .ok (.iload_n 2, 1) := by decide +kernel
set_option maxRecDepth 100000 in
theorem d_Unit_argument_25 : decode prog_11_method_7_code 25 = .ok (.iaload, 1) := by decide +kernel
set_option maxRecDepth 100000 in
theorem d_Unit_argument_26 : decode prog_11_method_7_code 26 = .ok (.goto 4, 3) := by decide +kernel
set_option maxRecDepth 100000 in
theorem d_Unit_argument_30 : decode prog_11_method_7_code 30 = .ok (.ireturn, 1) := by decide +kernel
set_option maxRecDepth 100000 in
theorem w_1092 : (Cond.methodLink "StowTongue$Machine" 73 ⟨"StowTongue$Unit", "argument", "(I)I"⟩ : Cond) ∈ am_tbl := am_w 1092 (by decide +kernel) (by decide +kernel)
set_option maxRecDepth 100000 in
theorem w_1095 : (Cond.code ⟨"StowTongue$Unit", "argument", "(I)I"⟩ prog_11_method_7_code 3 (some FieldType.int) : Cond) ∈ am_tbl := am_w 1095 rfl rfl
set_option maxRecDepth 100000 in
theorem l_Mach_73 : am_L "StowTongue$Machine" 73 1 m_Unit_argument := ⟨Or.inl w_1092, w_156, w_1095, ⟨by decide, by decide⟩, by decide +kernel, by decide⟩
set_option maxRecDepth 100000 in
theorem w_1093 : (Cond.instanceMethod ⟨"StowTongue$Unit", "argument", "(I)I"⟩ : Cond) ∈ am_tbl := am_w 1093 (by decide +kernel) (by decide +kernel)
