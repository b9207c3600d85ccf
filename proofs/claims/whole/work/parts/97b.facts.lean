abbrev m_Objs_checkIndex : am_M := (⟨"java/util/Objects", "checkIndex", "(II)I"⟩, prog_32_method_17_code, 2, (some FieldType.int))
theorem d_Objs_checkIndex_0 : decode prog_32_method_17_code 0 = .ok (.iload_n 0, 1) := by decide +kernel
theorem d_Objs_checkIndex_1 : decode prog_32_method_17_code 1 = .ok (.iload_n 1, 1) := by decide +kernel
theorem d_Objs_checkIndex_2 : decode prog_32_method_17_code 2 = .ok (.aconst_null, 1) := by decide +kernel
theorem d_Objs_checkIndex_3 : decode prog_32_method_17_code 3 = .ok (.invokestatic 105, 3) := by decide +kernel
theorem w_1032 : (Cond.methodLink "java/util/Objects" 105 ⟨"jdk/internal/util/Preconditions", "checkIndex", "(IILjava/util/function/BiFunction;)I"⟩ : Cond) ∈ am_tbl := am_w 1032 (by decide +kernel) (by decide +kernel)
theorem l_Objs_105 : am_L "java/util/Objects" 105 3 m_Pre_checkIndex := ⟨Or.inl w_1032, w_149, w_237, ⟨by decide, by decide⟩, by decide +kernel, by decide⟩
theorem d_Objs_checkIndex_6 : decode prog_32_method_17_code 6 = .ok (.ireturn, 1) := by decide +kernel
abbrev m_AL_size : am_M := (⟨"java/util/ArrayList", "size", "()I"⟩, prog_28_method_8_code, 1, (some FieldType.int))
theorem d_AL_size_0 : decode prog_28_method_8_code 0 = .ok (.aload_n 0, 1) := by decide +kernel
theorem d_AL_size_1 : decode prog_28_method_8_code 1 = .ok (.getfield 48, 3) := by decide +kernel
theorem w_333 : (Cond.fieldLink "java/util/ArrayList" 48 "java/util/ArrayList" "size" "I" : Cond) ∈ am_tbl := am_w 333 (by decide +kernel) (by decide +kernel)
theorem f_AL_48 : am_F "java/util/ArrayList" 48 3 1 := ⟨_, rfl, cl_3, by decide, Or.inl w_333⟩
theorem d_AL_size_4 : decode prog_28_method_8_code 4 = .ok (.ireturn, 1) := by decide +kernel
abbrev m_AL_elementData : am_M := (⟨"java/util/ArrayList", "elementData", "(I)Ljava/lang/Object;"⟩, prog_28_method_18_code, 2, (some (FieldType.object "java/lang/Object")))
theorem d_AL_elementData_0 : decode prog_28_method_18_code 0 = .ok (.aload_n 0, 1) := by decide +kernel
theorem d_AL_elementData_1 : decode prog_28_method_18_code 1 = .ok (.getfield 9, 3) := by decide +kernel
theorem d_AL_elementData_4 : decode prog_28_method_18_code 4 = .ok (.iload_n 1, 1) := by decide +kernel
theorem d_AL_elementData_5 : decode prog_28_method_18_code 5 = .ok (.aaload, 1) := by decide +kernel
theorem d_AL_elementData_6 : decode prog_28_method_18_code 6 = .ok (.areturn, 1) := by decide +kernel
abbrev m_AL_get : am_M := (⟨"java/util/ArrayList", "get", "(I)Ljava/lang/Object;"⟩, prog_28_method_20_code, 2, (some (FieldType.object "java/lang/Object")))
theorem d_AL_get_0 : decode prog_28_method_20_code 0 = .ok (.iload_n 1, 1) := by decide +kernel
theorem d_AL_get_1 : decode prog_28_method_20_code 1 = .ok (.aload_n 0, 1) := by decide +kernel
theorem d_AL_get_2 : decode prog_28_method_20_code 2 = .ok (.getfield 48, 3) := by decide +kernel
theorem d_AL_get_5 : decode prog_28_method_20_code 5 = .ok (.invokestatic 118, 3) := by decide +kernel
theorem w_1029 : (Cond.methodLink "java/util/ArrayList" 118 ⟨"java/util/Objects", "checkIndex", "(II)I"⟩ : Cond) ∈ am_tbl := am_w 1029 (by decide +kernel) (by decide +kernel)
theorem w_170 : (Cond.initialized "java/util/Objects" : Cond) ∈ am_tbl := am_w 170 (by decide +kernel) (by decide +kernel)
set_option maxRecDepth 100000 in
theorem w_1031 : (Cond.code ⟨"java/util/Objects", "checkIndex", "(II)I"⟩ prog_32_method_17_code 2 (some FieldType.int) : Cond) ∈ am_tbl := am_w 1031 rfl rfl
theorem l_AL_118 : am_L "java/util/ArrayList" 118 2 m_Objs_checkIndex := ⟨Or.inl w_1029, w_170, w_1031, ⟨by decide, by decide⟩, by decide +kernel, by decide⟩
theorem w_1030 : (Cond.static ⟨"java/util/Objects", "checkIndex", "(II)I"⟩ : Cond) ∈ am_tbl := am_w 1030 (by decide +kernel) (by decide +kernel)
theorem d_AL_get_8 : decode prog_28_method_20_code 8 = .ok (.pop, 1) := by decide +kernel
theorem d_AL_get_9 : decode prog_28_method_20_code 9 = .ok (.aload_n 0, 1) := by decide +kernel
theorem d_AL_get_10 : decode prog_28_method_20_code 10 = .ok (.iload_n 1, 1) := by decide +kernel
theorem d_AL_get_11 : decode prog_28_method_20_code 11 = .ok (.invokevirtual 123, 3) := by decide +kernel
theorem w_1033 : (Cond.methodLink "java/util/ArrayList" 123 ⟨"java/util/ArrayList", "elementData", "(I)Ljava/lang/Object;"⟩ : Cond) ∈ am_tbl := am_w 1033 (by decide +kernel) (by decide +kernel)
set_option maxRecDepth 100000 in
theorem w_1036 : (Cond.code ⟨"java/util/ArrayList", "elementData", "(I)Ljava/lang/Object;"⟩ prog_28_method_18_code 2 (some (FieldType.object "java/lang/Object")) : Cond) ∈ am_tbl := am_w 1036 rfl rfl
theorem l_AL_123 : am_L "java/util/ArrayList" 123 1 m_AL_elementData := ⟨Or.inl w_1033, w_155, w_1036, ⟨by decide, by decide⟩, by decide +kernel, by decide⟩
theorem w_1034 : (Cond.instanceMethod ⟨"java/util/ArrayList", "elementData", "(I)Ljava/lang/Object;"⟩ : Cond) ∈ am_tbl := am_w 1034 (by decide +kernel) (by decide +kernel)
theorem w_1035 : (Cond.selects "java/util/ArrayList" ⟨"java/util/ArrayList", "elementData", "(I)Ljava/lang/Object;"⟩ ⟨"java/util/ArrayList", "elementData", "(I)Ljava/lang/Object;"⟩ : Cond) ∈ am_tbl := am_w 1035 (by decide +kernel) (by decide +kernel)
theorem d_AL_get_14 : decode prog_28_method_20_code 14 = .ok (.areturn, 1) := by decide +kernel
abbrev m_AL_clear : am_M := (⟨"java/util/ArrayList", "clear", "()V"⟩, prog_28_method_40_code, 4, none)
theorem d_AL_clear_0 : decode prog_28_method_40_code 0 = .ok (.aload_n 0, 1) := by decide +kernel
theorem d_AL_clear_1 : decode prog_28_method_40_code 1 = .ok (.dup, 1) := by decide +kernel
theorem d_AL_clear_2 : decode prog_28_method_40_code 2 = .ok (.getfield 63, 3) := by decide +kernel
theorem w_335 : (Cond.fieldLink "java/util/ArrayList" 63 "java/util/ArrayList" "modCount" "I" : Cond) ∈ am_tbl := am_w 335 (by decide +kernel) (by decide +kernel)
theorem w_336 : (Cond.sameField "java/util/ArrayList" "java/util/AbstractList" "modCount" "I" : Cond) ∈ am_tbl := am_w 336 (by decide +kernel) (by decide +kernel)
theorem fS_AL_63 : am_FS "java/util/ArrayList" 63 3 2 := ⟨_, "java/util/ArrayList", rfl, cl_3, by decide, w_335, w_336⟩
theorem d_AL_clear_5 : decode prog_28_method_40_code 5 = .ok (.iconst 1, 1) := by decide +kernel
theorem d_AL_clear_6 : decode prog_28_method_40_code 6 = .ok (.iadd, 1) := by decide +kernel
theorem d_AL_clear_7 : decode prog_28_method_40_code 7 = .ok (.putfield 63, 3) := by decide +kernel
theorem d_AL_clear_10 : decode prog_28_method_40_code 10 = .ok (.aload_n 0, 1) := by decide +kernel
theorem d_AL_clear_11 : decode prog_28_method_40_code 11 = .ok (.getfield 9, 3) := by decide +kernel
theorem d_AL_clear_14 : decode prog_28_method_40_code 14 = .ok (.astore_n 1, 1) := by decide +kernel
theorem d_AL_clear_15 : decode prog_28_method_40_code 15 = .ok (.aload_n 0, 1) := by decide +kernel
theorem d_AL_clear_16 : decode prog_28_method_40_code 16 = .ok (.getfield 48, 3) := by decide +kernel
theorem d_AL_clear_19 : decode prog_28_method_40_code 19 = .ok (.istore_n 2, 1) := by decide +kernel
theorem d_AL_clear_20 : decode prog_28_method_40_code 20 = .ok (.aload_n 0, 1) := by decide +kernel
theorem d_AL_clear_21 : decode prog_28_method_40_code 21 = .ok (.iconst 0, 1) := by decide +kernel
theorem d_AL_clear_22 : decode prog_28_method_40_code 22 = .ok (.dup_x1, 1) := by decide +kernel
theorem d_AL_clear_23 : decode prog_28_method_40_code 23 = .ok (.putfield 48, 3) := by decide +kernel
theorem d_AL_clear_26 : decode prog_28_method_40_code 26 = .ok (.istore_n 3, 1) := by decide +kernel
theorem d_AL_clear_27 : decode prog_28_method_40_code 27 = .ok (.iload_n 3, 1) := by decide +kernel
theorem d_AL_clear_28 : decode prog_28_method_40_code 28 = .ok (.iload_n 2, 1) := by decide +kernel
theorem d_AL_clear_29 : decode prog_28_method_40_code 29 = .ok (.if_icmp .ge 13, 3) := by decide +kernel
theorem d_AL_clear_42 : decode prog_28_method_40_code 42 = .ok (.return_, 1) := by decide +kernel
theorem d_AL_clear_32 : decode prog_28_method_40_code 32 = .ok (.aload_n 1, 1) := by decide +kernel
theorem d_AL_clear_33 : decode prog_28_method_40_code 33 = .ok (.iload_n 3, 1) := by decide +kernel
theorem d_AL_clear_34 : decode prog_28_method_40_code 34 = .ok (.aconst_null, 1) := by decide +kernel
theorem d_AL_clear_35 : decode prog_28_method_40_code 35 = .ok (.aastore, 1) := by decide +kernel
theorem d_AL_clear_36 : decode prog_28_method_40_code 36 = .ok (.iinc 3 1, 3) := by decide +kernel
theorem d_AL_clear_39 : decode prog_28_method_40_code 39 = .ok (.goto (-12), 3) := by decide +kernel
abbrev m_AS_newLength : am_M := (⟨"jdk/internal/util/ArraysSupport", "newLength", "(III)I"⟩, prog_35_method_27_code, 4, (some FieldType.int))
theorem d_AS_newLength_0 : decode prog_35_method_27_code 0 = .ok (.iload_n 0, 1) := by decide +kernel
theorem d_AS_newLength_1 : decode prog_35_method_27_code 1 = .ok (.iload_n 1, 1) := by decide +kernel
theorem d_AS_newLength_2 : decode prog_35_method_27_code 2 = .ok (.iload_n 2, 1) := by decide +kernel
theorem d_AS_newLength_3 : decode prog_35_method_27_code 3 = .ok (.invokestatic 194, 3) := by decide +kernel
theorem w_910 : (Cond.methodLink "jdk/internal/util/ArraysSupport" 194 ⟨"java/lang/Math", "max", "(II)I"⟩ : Cond) ∈ am_tbl := am_w 910 (by decide +kernel) (by decide +kernel)
theorem d_AS_newLength_6 : decode prog_35_method_27_code 6 = .ok (.iadd, 1) := by decide +kernel
theorem d_AS_newLength_7 : decode prog_35_method_27_code 7 = .ok (.istore_n 3, 1) := by decide +kernel
theorem d_AS_newLength_8 : decode prog_35_method_27_code 8 = .ok (.iconst 0, 1) := by decide +kernel
theorem d_AS_newLength_9 : decode prog_35_method_27_code 9 = .ok (.iload_n 3, 1) := by decide +kernel
theorem d_AS_newLength_10 : decode prog_35_method_27_code 10 = .ok (.if_icmp .ge 11, 3) := by decide +kernel
theorem d_AS_newLength_21 : decode prog_35_method_27_code 21 = .ok (.iload_n 0, 1) := by decide +kernel
theorem d_AS_newLength_22 : decode prog_35_method_27_code 22 = .ok (.iload_n 1, 1) := by decide +kernel
theorem d_AS_newLength_23 : decode prog_35_method_27_code 23 = .ok (.invokestatic 201, 3) := by decide +kernel
theorem d_AS_newLength_13 : decode prog_35_method_27_code 13 = .ok (.iload_n 3, 1) := by decide +kernel
theorem d_AS_newLength_14 : decode prog_35_method_27_code 14 = .ok (.ldc 200, 2) := by decide +kernel
theorem w_911 : (Cond.constant "jdk/internal/util/ArraysSupport" 200 2147483639 : Cond) ∈ am_tbl := am_w 911 (by decide +kernel) (by decide +kernel)
theorem d_AS_newLength_16 : decode prog_35_method_27_code 16 = .ok (.if_icmp .gt 5, 3) := by decide +kernel
theorem d_AS_newLength_19 : decode prog_35_method_27_code 19 = .ok (.iload_n 3, 1) := by decide +kernel
theorem d_AS_newLength_20 : decode prog_35_method_27_code 20 = .ok (.ireturn, 1) := by decide +kernel
abbrev m_Arr_copyOf_aLObjectILClass : am_M := (⟨"java/util/Arrays", "copyOf", "([Ljava/lang/Object;ILjava/lang/Class;)[Ljava/lang/Object;"⟩, prog_29_method_120_code, 4, (some (FieldType.array (FieldType.object "java/lang/Object"))))
theorem d_Arr_copyOf_aLObjectILClass_0 : decode prog_29_method_120_code 0 = .ok (.aload_n 2, 1) := by decide +kernel
theorem d_Arr_copyOf_aLObjectILClass_1 : decode prog_29_method_120_code 1 = .ok (.ldc 110, 2) := by decide +kernel
theorem w_940 : (Cond.classLink "java/util/Arrays" 110 "[Ljava/lang/Object;" : Cond) ∈ am_tbl := am_w 940 (by decide +kernel) (by decide +kernel)
theorem d_Arr_copyOf_aLObjectILClass_3 : decode prog_29_method_120_code 3 = .ok (.if_acmp .ne 10, 3) := by decide +kernel
theorem d_Arr_copyOf_aLObjectILClass_6 : decode prog_29_method_120_code 6 = .ok (.iload_n 1, 1) := by decide +kernel
theorem d_Arr_copyOf_aLObjectILClass_7 : decode prog_29_method_120_code 7 = .ok (.anewarray 2, 3) := by decide +kernel
theorem w_942 : (Cond.classLink "java/util/Arrays" 2 "java/lang/Object" : Cond) ∈ am_tbl := am_w 942 (by decide +kernel) (by decide +kernel)
theorem x_941 : (Cond.arrayOver (FieldType.object "java/lang/Object") : Cond) ∈ lw_tbl := List.mem_of_getElem? (i := 941) (by decide +kernel)
theorem d_Arr_copyOf_aLObjectILClass_10 : decode prog_29_method_120_code 10 = .ok (.goto 14, 3) := by decide +kernel
theorem d_Arr_copyOf_aLObjectILClass_24 : decode prog_29_method_120_code 24 = .ok (.astore_n 3, 1) := by decide +kernel
theorem d_Arr_copyOf_aLObjectILClass_25 : decode prog_29_method_120_code 25 = .ok (.aload_n 0, 1) := by decide +kernel
theorem d_Arr_copyOf_aLObjectILClass_26 : decode prog_29_method_120_code 26 = .ok (.iconst 0, 1) := by decide +kernel
theorem d_Arr_copyOf_aLObjectILClass_27 : decode prog_29_method_120_code 27 = .ok (.aload_n 3, 1) := by decide +kernel
theorem d_Arr_copyOf_aLObjectILClass_28 : decode prog_29_method_120_code 28 = .ok (.iconst 0, 1) := by decide +kernel
theorem d_Arr_copyOf_aLObjectILClass_29 : decode prog_29_method_120_code 29 = .ok (.aload_n 0, 1) := by decide +kernel
theorem d_Arr_copyOf_aLObjectILClass_30 : decode prog_29_method_120_code 30 = .ok (.arraylength, 1) := by decide +kernel
theorem d_Arr_copyOf_aLObjectILClass_31 : decode prog_29_method_120_code 31 = .ok (.iload_n 1, 1) := by decide +kernel
theorem d_Arr_copyOf_aLObjectILClass_32 : decode prog_29_method_120_code 32 = .ok (.invokestatic 304, 3) := by decide +kernel
theorem d_Arr_copyOf_aLObjectILClass_35 : decode prog_29_method_120_code 35 = .ok (.invokestatic 150, 3) := by decide +kernel
theorem x_2190 : (Cond.castable "StowTongue$Unit" "java/lang/Object" : Cond) ∈ lw_tbl := List.mem_of_getElem? (i := 2190) (by decide +kernel)
theorem d_Arr_copyOf_aLObjectILClass_38 : decode prog_29_method_120_code 38 = .ok (.aload_n 3, 1) := by decide +kernel
theorem d_Arr_copyOf_aLObjectILClass_39 : decode prog_29_method_120_code 39 = .ok (.areturn, 1) := by decide +kernel
abbrev m_Arr_copyOf_aLObjectI : am_M := (⟨"java/util/Arrays", "copyOf", "([Ljava/lang/Object;I)[Ljava/lang/Object;"⟩, prog_29_method_119_code, 2, (some (FieldType.array (FieldType.object "java/lang/Object"))))
theorem d_Arr_copyOf_aLObjectI_0 : decode prog_29_method_119_code 0 = .ok (.aload_n 0, 1) := by decide +kernel
theorem d_Arr_copyOf_aLObjectI_1 : decode prog_29_method_119_code 1 = .ok (.iload_n 1, 1) := by decide +kernel
theorem d_Arr_copyOf_aLObjectI_2 : decode prog_29_method_119_code 2 = .ok (.aload_n 0, 1) := by decide +kernel
theorem d_Arr_copyOf_aLObjectI_3 : decode prog_29_method_119_code 3 = .ok (.invokevirtual 86, 3) := by decide +kernel
theorem w_918 : (Cond.methodLink "java/util/Arrays" 86 ⟨"java/lang/Object", "getClass", "()Ljava/lang/Class;"⟩ : Cond) ∈ am_tbl := am_w 918 (by decide +kernel) (by decide +kernel)
theorem x_2184 : (Cond.declares ⟨"java/lang/Object", "getClass", "()Ljava/lang/Class;"⟩ : Cond) ∈ lw_tbl := List.mem_of_getElem? (i := 2184) (by decide +kernel)
theorem w_2183 : (Cond.selects "[Ljava/lang/Object;" ⟨"java/lang/Object", "getClass", "()Ljava/lang/Class;"⟩ ⟨"java/lang/Object", "getClass", "()Ljava/lang/Class;"⟩ : Cond) ∈ am_tbl := am_w 2183 (by decide +kernel) (by decide +kernel)
theorem w_919 : (Cond.instanceMethod ⟨"java/lang/Object", "getClass", "()Ljava/lang/Class;"⟩ : Cond) ∈ am_tbl := am_w 919 (by decide +kernel) (by decide +kernel)
theorem w_936 : (Cond.native ⟨"java/lang/Object", "getClass", "()Ljava/lang/Class;"⟩ : Cond) ∈ am_tbl := am_w 936 (by decide +kernel) (by decide +kernel)
theorem d_Arr_copyOf_aLObjectI_6 : decode prog_29_method_119_code 6 = .ok (.invokestatic 300, 3) := by decide +kernel
theorem w_937 : (Cond.methodLink "java/util/Arrays" 300 ⟨"java/util/Arrays", "copyOf", "([Ljava/lang/Object;ILjava/lang/Class;)[Ljava/lang/Object;"⟩ : Cond) ∈ am_tbl := am_w 937 (by decide +kernel) (by decide +kernel)
set_option maxRecDepth 100000 in
theorem w_939 : (Cond.code ⟨"java/util/Arrays", "copyOf", "([Ljava/lang/Object;ILjava/lang/Class;)[Ljava/lang/Object;"⟩ prog_29_method_120_code 4 (some (FieldType.array (FieldType.object "java/lang/Object"))) : Cond) ∈ am_tbl := am_w 939 rfl rfl
theorem l_Arr_300 : am_L "java/util/Arrays" 300 3 m_Arr_copyOf_aLObjectILClass := ⟨Or.inl w_937, w_166, w_939, ⟨by decide, by decide⟩, by decide +kernel, by decide⟩
theorem w_938 : (Cond.static ⟨"java/util/Arrays", "copyOf", "([Ljava/lang/Object;ILjava/lang/Class;)[Ljava/lang/Object;"⟩ : Cond) ∈ am_tbl := am_w 938 (by decide +kernel) (by decide +kernel)
theorem d_Arr_copyOf_aLObjectI_9 : decode prog_29_method_119_code 9 = .ok (.areturn, 1) := by decide +kernel
abbrev m_AL_grow_I : am_M := (⟨"java/util/ArrayList", "grow", "(I)[Ljava/lang/Object;"⟩, prog_28_method_6_code, 4, (some (FieldType.array (FieldType.object "java/lang/Object"))))
theorem d_AL_grow_I_0 : decode prog_28_method_6_code 0 = .ok (.aload_n 0, 1) := by decide +kernel
theorem d_AL_grow_I_1 : decode prog_28_method_6_code 1 = .ok (.getfield 9, 3) := by decide +kernel
theorem d_AL_grow_I_4 : decode prog_28_method_6_code 4 = .ok (.arraylength, 1) := by decide +kernel
theorem d_AL_grow_I_5 : decode prog_28_method_6_code 5 = .ok (.istore_n 2, 1) := by decide +kernel
theorem d_AL_grow_I_6 : decode prog_28_method_6_code 6 = .ok (.iload_n 2, 1) := by decide +kernel
theorem d_AL_grow_I_7 : decode prog_28_method_6_code 7 = .ok (.ifCond .gt 13, 3) := by decide +kernel
theorem d_AL_grow_I_20 : decode prog_28_method_6_code 20 = .ok (.iload_n 2, 1) := by decide +kernel
theorem d_AL_grow_I_21 : decode prog_28_method_6_code 21 = .ok (.iload_n 1, 1) := by decide +kernel
theorem d_AL_grow_I_22 : decode prog_28_method_6_code 22 = .ok (.iload_n 2, 1) := by decide +kernel
theorem d_AL_grow_I_23 : decode prog_28_method_6_code 23 = .ok (.isub, 1) := by decide +kernel
theorem d_AL_grow_I_24 : decode prog_28_method_6_code 24 = .ok (.iload_n 2, 1) := by decide +kernel
theorem d_AL_grow_I_25 : decode prog_28_method_6_code 25 = .ok (.iconst 1, 1) := by decide +kernel
theorem d_AL_grow_I_26 : decode prog_28_method_6_code 26 = .ok (.ishr, 1) := by decide +kernel
theorem d_AL_grow_I_27 : decode prog_28_method_6_code 27 = .ok (.invokestatic 73, 3) := by decide +kernel
theorem w_907 : (Cond.methodLink "java/util/ArrayList" 73 ⟨"jdk/internal/util/ArraysSupport", "newLength", "(III)I"⟩ : Cond) ∈ am_tbl := am_w 907 (by decide +kernel) (by decide +kernel)
theorem w_168 : (Cond.initialized "jdk/internal/util/ArraysSupport" : Cond) ∈ am_tbl := am_w 168 (by decide +kernel) (by decide +kernel)
set_option maxRecDepth 100000 in
theorem w_909 : (Cond.code ⟨"jdk/internal/util/ArraysSupport", "newLength", "(III)I"⟩ prog_35_method_27_code 4 (some FieldType.int) : Cond) ∈ am_tbl := am_w 909 rfl rfl
theorem l_AL_73 : am_L "java/util/ArrayList" 73 3 m_AS_newLength := ⟨Or.inl w_907, w_168, w_909, ⟨by decide, by decide⟩, by decide +kernel, by decide⟩
theorem w_908 : (Cond.static ⟨"jdk/internal/util/ArraysSupport", "newLength", "(III)I"⟩ : Cond) ∈ am_tbl := am_w 908 (by decide +kernel) (by decide +kernel)
theorem d_AL_grow_I_30 : decode prog_28_method_6_code 30 = .ok (.istore_n 3, 1) := by decide +kernel
theorem d_AL_grow_I_31 : decode prog_28_method_6_code 31 = .ok (.aload_n 0, 1) := by decide +kernel
theorem d_AL_grow_I_32 : decode prog_28_method_6_code 32 = .ok (.aload_n 0, 1) := by decide +kernel
theorem d_AL_grow_I_33 : decode prog_28_method_6_code 33 = .ok (.getfield 9, 3) := by decide +kernel
theorem d_AL_grow_I_36 : decode prog_28_method_6_code 36 = .ok (.iload_n 3, 1) := by decide +kernel
theorem d_AL_grow_I_37 : decode prog_28_method_6_code 37 = .ok (.invokestatic 66, 3) := by decide +kernel
theorem w_915 : (Cond.methodLink "java/util/ArrayList" 66 ⟨"java/util/Arrays", "copyOf", "([Ljava/lang/Object;I)[Ljava/lang/Object;"⟩ : Cond) ∈ am_tbl := am_w 915 (by decide +kernel) (by decide +kernel)
set_option maxRecDepth 100000 in
theorem w_917 : (Cond.code ⟨"java/util/Arrays", "copyOf", "([Ljava/lang/Object;I)[Ljava/lang/Object;"⟩ prog_29_method_119_code 2 (some (FieldType.array (FieldType.object "java/lang/Object"))) : Cond) ∈ am_tbl := am_w 917 rfl rfl
theorem l_AL_66 : am_L "java/util/ArrayList" 66 2 m_Arr_copyOf_aLObjectI := ⟨Or.inl w_915, w_166, w_917, ⟨by decide, by decide⟩, by decide +kernel, by decide⟩
theorem w_916 : (Cond.static ⟨"java/util/Arrays", "copyOf", "([Ljava/lang/Object;I)[Ljava/lang/Object;"⟩ : Cond) ∈ am_tbl := am_w 916 (by decide +kernel) (by decide +kernel)
theorem d_AL_grow_I_40 : decode prog_28_method_6_code 40 = .ok (.dup_x1, 1) := by decide +kernel
theorem d_AL_grow_I_41 : decode prog_28_method_6_code 41 = .ok (.putfield 9, 3) := by decide +kernel
theorem d_AL_grow_I_44 : decode prog_28_method_6_code 44 = .ok (.areturn, 1) := by decide +kernel
theorem d_AL_grow_I_10 : decode prog_28_method_6_code 10 = .ok (.aload_n 0, 1) := by decide +kernel
theorem d_AL_grow_I_11 : decode prog_28_method_6_code 11 = .ok (.getfield 9, 3) := by decide +kernel
theorem d_AL_grow_I_14 : decode prog_28_method_6_code 14 = .ok (.getstatic 39, 3) := by decide +kernel
theorem d_AL_grow_I_17 : decode prog_28_method_6_code 17 = .ok (.if_acmp .eq 28, 3) := by decide +kernel
theorem d_AL_grow_I_45 : decode prog_28_method_6_code 45 = .ok (.aload_n 0, 1) := by decide +kernel
theorem d_AL_grow_I_46 : decode prog_28_method_6_code 46 = .ok (.bipush 10, 2) := by decide +kernel
theorem d_AL_grow_I_48 : decode prog_28_method_6_code 48 = .ok (.iload_n 1, 1) := by decide +kernel
theorem d_AL_grow_I_49 : decode prog_28_method_6_code 49 = .ok (.invokestatic 79, 3) := by decide +kernel
theorem w_943 : (Cond.methodLink "java/util/ArrayList" 79 ⟨"java/lang/Math", "max", "(II)I"⟩ : Cond) ∈ am_tbl := am_w 943 (by decide +kernel) (by decide +kernel)
theorem d_AL_grow_I_52 : decode prog_28_method_6_code 52 = .ok (.anewarray 7, 3) := by decide +kernel
theorem w_944 : (Cond.classLink "java/util/ArrayList" 7 "java/lang/Object" : Cond) ∈ am_tbl := am_w 944 (by decide +kernel) (by decide +kernel)
theorem d_AL_grow_I_55 : decode prog_28_method_6_code 55 = .ok (.dup_x1, 1) := by decide +kernel
theorem d_AL_grow_I_56 : decode prog_28_method_6_code 56 = .ok (.putfield 9, 3) := by decide +kernel
theorem d_AL_grow_I_59 : decode prog_28_method_6_code 59 = .ok (.areturn, 1) := by decide +kernel
abbrev m_AL_grow_ : am_M := (⟨"java/util/ArrayList", "grow", "()[Ljava/lang/Object;"⟩, prog_28_method_7_code, 1, (some (FieldType.array (FieldType.object "java/lang/Object"))))
theorem d_AL_grow__0 : decode prog_28_method_7_code 0 = .ok (.aload_n 0, 1) := by decide +kernel
theorem d_AL_grow__1 : decode prog_28_method_7_code 1 = .ok (.aload_n 0, 1) := by decide +kernel
theorem d_AL_grow__2 : decode prog_28_method_7_code 2 = .ok (.getfield 48, 3) := by decide +kernel
theorem d_AL_grow__5 : decode prog_28_method_7_code 5 = .ok (.iconst 1, 1) := by decide +kernel
theorem d_AL_grow__6 : decode prog_28_method_7_code 6 = .ok (.iadd, 1) := by decide +kernel
theorem d_AL_grow__7 : decode prog_28_method_7_code 7 = .ok (.invokevirtual 69, 3) := by decide +kernel
theorem w_903 : (Cond.methodLink "java/util/ArrayList" 69 ⟨"java/util/ArrayList", "grow", "(I)[Ljava/lang/Object;"⟩ : Cond) ∈ am_tbl := am_w 903 (by decide +kernel) (by decide +kernel)
set_option maxRecDepth 100000 in
theorem w_906 : (Cond.code ⟨"java/util/ArrayList", "grow", "(I)[Ljava/lang/Object;"⟩ prog_28_method_6_code 4 (some (FieldType.array (FieldType.object "java/lang/Object"))) : Cond) ∈ am_tbl := am_w 906 rfl rfl
theorem l_AL_69 : am_L "java/util/ArrayList" 69 1 m_AL_grow_I := ⟨Or.inl w_903, w_155, w_906, ⟨by decide, by decide⟩, by decide +kernel, by decide⟩
theorem w_905 : (Cond.instanceMethod ⟨"java/util/ArrayList", "grow", "(I)[Ljava/lang/Object;"⟩ : Cond) ∈ am_tbl := am_w 905 (by decide +kernel) (by decide +kernel)
theorem w_38 : (Cond.selects "java/util/ArrayList" ⟨"java/util/ArrayList", "grow", "(I)[Ljava/lang/Object;"⟩ ⟨"java/util/ArrayList", "grow", "(I)[Ljava/lang/Object;"⟩ : Cond) ∈ am_tbl := am_w 38 (by decide +kernel) (by decide +kernel)
theorem d_AL_grow__10 : decode prog_28_method_7_code 10 = .ok (.areturn, 1) := by decide +kernel
abbrev m_AL_add_LObjectaLObjectI : am_M := (⟨"java/util/ArrayList", "add", "(Ljava/lang/Object;[Ljava/lang/Object;I)V"⟩, prog_28_method_24_code, 4, none)
theorem d_AL_add_LObjectaLObjectI_0 : decode prog_28_method_24_code 0 = .ok (.iload_n 3, 1) := by decide +kernel
theorem d_AL_add_LObjectaLObjectI_1 : decode prog_28_method_24_code 1 = .ok (.aload_n 2, 1) := by decide +kernel
theorem d_AL_add_LObjectaLObjectI_2 : decode prog_28_method_24_code 2 = .ok (.arraylength, 1) := by decide +kernel
theorem d_AL_add_LObjectaLObjectI_3 : decode prog_28_method_24_code 3 = .ok (.if_icmp .ne 8, 3) := by decide +kernel
theorem d_AL_add_LObjectaLObjectI_6 : decode prog_28_method_24_code 6 = .ok (.aload_n 0, 1) := by decide +kernel
theorem d_AL_add_LObjectaLObjectI_7 : decode prog_28_method_24_code 7 = .ok (.invokevirtual 129, 3) := by decide +kernel
theorem w_899 : (Cond.methodLink "java/util/ArrayList" 129 ⟨"java/util/ArrayList", "grow", "()[Ljava/lang/Object;"⟩ : Cond) ∈ am_tbl := am_w 899 (by decide +kernel) (by decide +kernel)
set_option maxRecDepth 100000 in
theorem w_902 : (Cond.code ⟨"java/util/ArrayList", "grow", "()[Ljava/lang/Object;"⟩ prog_28_method_7_code 1 (some (FieldType.array (FieldType.object "java/lang/Object"))) : Cond) ∈ am_tbl := am_w 902 rfl rfl
theorem l_AL_129 : am_L "java/util/ArrayList" 129 0 m_AL_grow_ := ⟨Or.inl w_899, w_155, w_902, ⟨by decide, by decide⟩, by decide +kernel, by decide⟩
theorem w_901 : (Cond.instanceMethod ⟨"java/util/ArrayList", "grow", "()[Ljava/lang/Object;"⟩ : Cond) ∈ am_tbl := am_w 901 (by decide +kernel) (by decide +kernel)
theorem w_37 : (Cond.selects "java/util/ArrayList" ⟨"java/util/ArrayList", "grow", "()[Ljava/lang/Object;"⟩ ⟨"java/util/ArrayList", "grow", "()[Ljava/lang/Object;"⟩ : Cond) ∈ am_tbl := am_w 37 (by decide +kernel) (by decide +kernel)
theorem d_AL_add_LObjectaLObjectI_10 : decode prog_28_method_24_code 10 = .ok (.astore_n 2, 1) := by decide +kernel
theorem d_AL_add_LObjectaLObjectI_11 : decode prog_28_method_24_code 11 = .ok (.aload_n 2, 1) := by decide +kernel
theorem d_AL_add_LObjectaLObjectI_12 : decode prog_28_method_24_code 12 = .ok (.iload_n 3, 1) := by decide +kernel
theorem d_AL_add_LObjectaLObjectI_13 : decode prog_28_method_24_code 13 = .ok (.aload_n 1, 1) := by decide +kernel
theorem d_AL_add_LObjectaLObjectI_14 : decode prog_28_method_24_code 14 = .ok (.aastore, 1) := by decide +kernel
theorem d_AL_add_LObjectaLObjectI_15 : decode prog_28_method_24_code 15 = .ok (.aload_n 0, 1) := by decide +kernel
theorem d_AL_add_LObjectaLObjectI_16 : decode prog_28_method_24_code 16 = .ok (.iload_n 3, 1) := by decide +kernel
theorem d_AL_add_LObjectaLObjectI_17 : decode prog_28_method_24_code 17 = .ok (.iconst 1, 1) := by decide +kernel
theorem d_AL_add_LObjectaLObjectI_18 : decode prog_28_method_24_code 18 = .ok (.iadd, 1) := by decide +kernel
theorem d_AL_add_LObjectaLObjectI_19 : decode prog_28_method_24_code 19 = .ok (.putfield 48, 3) := by decide +kernel
theorem d_AL_add_LObjectaLObjectI_22 : decode prog_28_method_24_code 22 = .ok (.return_, 1) := by decide +kernel
abbrev m_AL_add_LObject : am_M := (⟨"java/util/ArrayList", "add", "(Ljava/lang/Object;)Z"⟩, prog_28_method_25_code, 2, (some FieldType.boolean))
theorem d_AL_add_LObject_0 : decode prog_28_method_25_code 0 = .ok (.aload_n 0, 1) := by decide +kernel
theorem d_AL_add_LObject_1 : decode prog_28_method_25_code 1 = .ok (.dup, 1) := by decide +kernel
theorem d_AL_add_LObject_2 : decode prog_28_method_25_code 2 = .ok (.getfield 63, 3) := by decide +kernel
theorem d_AL_add_LObject_5 : decode prog_28_method_25_code 5 = .ok (.iconst 1, 1) := by decide +kernel
theorem d_AL_add_LObject_6 : decode prog_28_method_25_code 6 = .ok (.iadd, 1) := by decide +kernel
theorem d_AL_add_LObject_7 : decode prog_28_method_25_code 7 = .ok (.putfield 63, 3) := by decide +kernel
theorem d_AL_add_LObject_10 : decode prog_28_method_25_code 10 = .ok (.aload_n 0, 1) := by decide +kernel
theorem d_AL_add_LObject_11 : decode prog_28_method_25_code 11 = .ok (.aload_n 1, 1) := by decide +kernel
theorem d_AL_add_LObject_12 : decode prog_28_method_25_code 12 = .ok (.aload_n 0, 1) := by decide +kernel
theorem d_AL_add_LObject_13 : decode prog_28_method_25_code 13 = .ok (.getfield 9, 3) := by decide +kernel
theorem d_AL_add_LObject_16 : decode prog_28_method_25_code 16 = .ok (.aload_n 0, 1) := by decide +kernel
theorem d_AL_add_LObject_17 : decode prog_28_method_25_code 17 = .ok (.getfield 48, 3) := by decide +kernel
theorem d_AL_add_LObject_20 : decode prog_28_method_25_code 20 = .ok (.invokevirtual 131, 3) := by decide +kernel
theorem w_895 : (Cond.methodLink "java/util/ArrayList" 131 ⟨"java/util/ArrayList", "add", "(Ljava/lang/Object;[Ljava/lang/Object;I)V"⟩ : Cond) ∈ am_tbl := am_w 895 (by decide +kernel) (by decide +kernel)
set_option maxRecDepth 100000 in
theorem w_898 : (Cond.code ⟨"java/util/ArrayList", "add", "(Ljava/lang/Object;[Ljava/lang/Object;I)V"⟩ prog_28_method_24_code 4 none : Cond) ∈ am_tbl := am_w 898 rfl rfl
theorem l_AL_131 : am_L "java/util/ArrayList" 131 3 m_AL_add_LObjectaLObjectI := ⟨Or.inl w_895, w_155, w_898, ⟨by decide, by decide⟩, by decide +kernel, by decide⟩
theorem w_897 : (Cond.instanceMethod ⟨"java/util/ArrayList", "add", "(Ljava/lang/Object;[Ljava/lang/Object;I)V"⟩ : Cond) ∈ am_tbl := am_w 897 (by decide +kernel) (by decide +kernel)
theorem w_36 : (Cond.selects "java/util/ArrayList" ⟨"java/util/ArrayList", "add", "(Ljava/lang/Object;[Ljava/lang/Object;I)V"⟩ ⟨"java/util/ArrayList", "add", "(Ljava/lang/Object;[Ljava/lang/Object;I)V"⟩ : Cond) ∈ am_tbl := am_w 36 (by decide +kernel) (by decide +kernel)
theorem d_AL_add_LObject_23 : decode prog_28_method_25_code 23 = .ok (.iconst 1, 1) := by decide +kernel
theorem d_AL_add_LObject_24 : decode prog_28_method_25_code 24 = .ok (.ireturn, 1) := by decide +kernel
