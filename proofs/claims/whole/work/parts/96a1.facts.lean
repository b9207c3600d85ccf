abbrev m_Arr_copyOf_aII : am_M := (⟨"java/util/Arrays", "copyOf", "([II)[I"⟩, prog_29_method_123_code, 3, (some (FieldType.array FieldType.int)))
theorem d_Arr_copyOf_aII_0 : decode prog_29_method_123_code 0 = .ok (.iload_n 1, 1) := by decide +kernel
theorem d_Arr_copyOf_aII_1 : decode prog_29_method_123_code 1 = .ok (.aload_n 0, 1) := by decide +kernel
theorem d_Arr_copyOf_aII_2 : decode prog_29_method_123_code 2 = .ok (.arraylength, 1) := by decide +kernel
theorem d_Arr_copyOf_aII_3 : decode prog_29_method_123_code 3 = .ok (.if_icmp .ne 11, 3) := by decide +kernel
theorem d_Arr_copyOf_aII_6 : decode prog_29_method_123_code 6 = .ok (.aload_n 0, 1) := by decide +kernel
theorem d_Arr_copyOf_aII_7 : decode prog_29_method_123_code 7 = .ok (.invokevirtual 316, 3) := by decide +kernel
theorem w_759 : (Cond.methodLink "java/util/Arrays" 316 ⟨"[I", "clone", "()Ljava/lang/Object;"⟩ : Cond) ∈ am_tbl := am_w 759 (by decide +kernel) (by decide +kernel)
theorem w_760 : (Cond.sameMethod "[I" "java/lang/Object" "clone" "()Ljava/lang/Object;" : Cond) ∈ am_tbl := am_w 760 (by decide +kernel) (by decide +kernel)
theorem w_727 : (Cond.native ⟨"java/lang/Object", "clone", "()Ljava/lang/Object;"⟩ : Cond) ∈ am_tbl := am_w 727 (by decide +kernel) (by decide +kernel)
theorem w_728 : (Cond.instanceMethod ⟨"java/lang/Object", "clone", "()Ljava/lang/Object;"⟩ : Cond) ∈ am_tbl := am_w 728 (by decide +kernel) (by decide +kernel)
theorem w_761 : (Cond.selects "[I" ⟨"[I", "clone", "()Ljava/lang/Object;"⟩ ⟨"java/lang/Object", "clone", "()Ljava/lang/Object;"⟩ : Cond) ∈ am_tbl := am_w 761 (by decide +kernel) (by decide +kernel)
theorem x_762 : (Cond.castable "[I" "java/lang/Cloneable" : Cond) ∈ lw_tbl := List.mem_of_getElem? (i := 762) (by decide +kernel)
theorem w_763 : (Cond.classLink "java/util/Arrays" 317 "[I" : Cond) ∈ am_tbl := am_w 763 (by decide +kernel) (by decide +kernel)
theorem d_Arr_copyOf_aII_10 : decode prog_29_method_123_code 10 = .ok (.checkcast 317, 3) := by decide +kernel
theorem d_Arr_copyOf_aII_13 : decode prog_29_method_123_code 13 = .ok (.areturn, 1) := by decide +kernel
theorem d_Arr_copyOf_aII_14 : decode prog_29_method_123_code 14 = .ok (.iload_n 1, 1) := by decide +kernel
theorem d_Arr_copyOf_aII_15 : decode prog_29_method_123_code 15 = .ok (.newarray .int, 2) := by decide +kernel
theorem d_Arr_copyOf_aII_17 : decode prog_29_method_123_code 17 = .ok (.astore_n 2, 1) := by decide +kernel
theorem d_Arr_copyOf_aII_18 : decode prog_29_method_123_code 18 = .ok (.aload_n 0, 1) := by decide +kernel
theorem d_Arr_copyOf_aII_19 : decode prog_29_method_123_code 19 = .ok (.iconst 0, 1) := by decide +kernel
theorem d_Arr_copyOf_aII_20 : decode prog_29_method_123_code 20 = .ok (.aload_n 2, 1) := by decide +kernel
theorem d_Arr_copyOf_aII_21 : decode prog_29_method_123_code 21 = .ok (.iconst 0, 1) := by decide +kernel
theorem d_Arr_copyOf_aII_22 : decode prog_29_method_123_code 22 = .ok (.aload_n 0, 1) := by decide +kernel
theorem d_Arr_copyOf_aII_23 : decode prog_29_method_123_code 23 = .ok (.arraylength, 1) := by decide +kernel
theorem d_Arr_copyOf_aII_24 : decode prog_29_method_123_code 24 = .ok (.iload_n 1, 1) := by decide +kernel
theorem d_Arr_copyOf_aII_25 : decode prog_29_method_123_code 25 = .ok (.invokestatic 304, 3) := by decide +kernel
theorem w_732 : (Cond.methodLink "java/util/Arrays" 304 ⟨"java/lang/Math", "min", "(II)I"⟩ : Cond) ∈ am_tbl := am_w 732 (by decide +kernel) (by decide +kernel)
theorem d_Arr_copyOf_aII_28 : decode prog_29_method_123_code 28 = .ok (.invokestatic 150, 3) := by decide +kernel
theorem w_733 : (Cond.methodLink "java/util/Arrays" 150 ⟨"java/lang/System", "arraycopy", "(Ljava/lang/Object;ILjava/lang/Object;II)V"⟩ : Cond) ∈ am_tbl := am_w 733 (by decide +kernel) (by decide +kernel)
theorem d_Arr_copyOf_aII_31 : decode prog_29_method_123_code 31 = .ok (.aload_n 2, 1) := by decide +kernel
theorem d_Arr_copyOf_aII_32 : decode prog_29_method_123_code 32 = .ok (.areturn, 1) := by decide +kernel
abbrev m_Arr_copyOf_aJI : am_M := (⟨"java/util/Arrays", "copyOf", "([JI)[J"⟩, prog_29_method_124_code, 3, (some (FieldType.array FieldType.long)))
theorem d_Arr_copyOf_aJI_0 : decode prog_29_method_124_code 0 = .ok (.iload_n 1, 1) := by decide +kernel
theorem d_Arr_copyOf_aJI_1 : decode prog_29_method_124_code 1 = .ok (.aload_n 0, 1) := by decide +kernel
theorem d_Arr_copyOf_aJI_2 : decode prog_29_method_124_code 2 = .ok (.arraylength, 1) := by decide +kernel
theorem d_Arr_copyOf_aJI_3 : decode prog_29_method_124_code 3 = .ok (.if_icmp .ne 11, 3) := by decide +kernel
theorem d_Arr_copyOf_aJI_6 : decode prog_29_method_124_code 6 = .ok (.aload_n 0, 1) := by decide +kernel
theorem d_Arr_copyOf_aJI_7 : decode prog_29_method_124_code 7 = .ok (.invokevirtual 319, 3) := by decide +kernel
theorem w_725 : (Cond.methodLink "java/util/Arrays" 319 ⟨"[J", "clone", "()Ljava/lang/Object;"⟩ : Cond) ∈ am_tbl := am_w 725 (by decide +kernel) (by decide +kernel)
theorem w_726 : (Cond.sameMethod "[J" "java/lang/Object" "clone" "()Ljava/lang/Object;" : Cond) ∈ am_tbl := am_w 726 (by decide +kernel) (by decide +kernel)
theorem w_729 : (Cond.selects "[J" ⟨"[J", "clone", "()Ljava/lang/Object;"⟩ ⟨"java/lang/Object", "clone", "()Ljava/lang/Object;"⟩ : Cond) ∈ am_tbl := am_w 729 (by decide +kernel) (by decide +kernel)
theorem x_730 : (Cond.castable "[J" "java/lang/Cloneable" : Cond) ∈ lw_tbl := List.mem_of_getElem? (i := 730) (by decide +kernel)
theorem w_731 : (Cond.classLink "java/util/Arrays" 320 "[J" : Cond) ∈ am_tbl := am_w 731 (by decide +kernel) (by decide +kernel)
theorem d_Arr_copyOf_aJI_10 : decode prog_29_method_124_code 10 = .ok (.checkcast 320, 3) := by decide +kernel
theorem d_Arr_copyOf_aJI_13 : decode prog_29_method_124_code 13 = .ok (.areturn, 1) := by decide +kernel
theorem d_Arr_copyOf_aJI_14 : decode prog_29_method_124_code 14 = .ok (.iload_n 1, 1) := by decide +kernel
theorem d_Arr_copyOf_aJI_15 : decode prog_29_method_124_code 15 = .ok (.newarray .long, 2) := by decide +kernel
theorem d_Arr_copyOf_aJI_17 : decode prog_29_method_124_code 17 = .ok (.astore_n 2, 1) := by decide +kernel
theorem d_Arr_copyOf_aJI_18 : decode prog_29_method_124_code 18 = .ok (.aload_n 0, 1) := by decide +kernel
theorem d_Arr_copyOf_aJI_19 : decode prog_29_method_124_code 19 = .ok (.iconst 0, 1) := by decide +kernel
theorem d_Arr_copyOf_aJI_20 : decode prog_29_method_124_code 20 = .ok (.aload_n 2, 1) := by decide +kernel
theorem d_Arr_copyOf_aJI_21 : decode prog_29_method_124_code 21 = .ok (.iconst 0, 1) := by decide +kernel
theorem d_Arr_copyOf_aJI_22 : decode prog_29_method_124_code 22 = .ok (.aload_n 0, 1) := by decide +kernel
theorem d_Arr_copyOf_aJI_23 : decode prog_29_method_124_code 23 = .ok (.arraylength, 1) := by decide +kernel
theorem d_Arr_copyOf_aJI_24 : decode prog_29_method_124_code 24 = .ok (.iload_n 1, 1) := by decide +kernel
theorem d_Arr_copyOf_aJI_25 : decode prog_29_method_124_code 25 = .ok (.invokestatic 304, 3) := by decide +kernel
theorem d_Arr_copyOf_aJI_28 : decode prog_29_method_124_code 28 = .ok (.invokestatic 150, 3) := by decide +kernel
theorem d_Arr_copyOf_aJI_31 : decode prog_29_method_124_code 31 = .ok (.aload_n 2, 1) := by decide +kernel
theorem d_Arr_copyOf_aJI_32 : decode prog_29_method_124_code 32 = .ok (.areturn, 1) := by decide +kernel
abbrev m_Stow_addFour : am_M := (⟨"StowTongue", "addFour", "(I)V"⟩, prog_1_method_3_code, 3, none)
theorem d_Stow_addFour_0 : decode prog_1_method_3_code 0 = .ok (.bipush 24, 2) := by decide +kernel
theorem d_Stow_addFour_2 : decode prog_1_method_3_code 2 = .ok (.istore_n 2, 1) := by decide +kernel
theorem d_Stow_addFour_3 : decode prog_1_method_3_code 3 = .ok (.iload_n 2, 1) := by decide +kernel
theorem d_Stow_addFour_4 : decode prog_1_method_3_code 4 = .ok (.ifCond .lt 42, 3) := by decide +kernel
theorem d_Stow_addFour_46 : decode prog_1_method_3_code 46 = .ok (.return_, 1) := by decide +kernel
theorem d_Stow_addFour_7 : decode prog_1_method_3_code 7 = .ok (.aload_n 0, 1) := by decide +kernel
theorem d_Stow_addFour_8 : decode prog_1_method_3_code 8 = .ok (.getfield 48, 3) := by decide +kernel
theorem d_Stow_addFour_11 : decode prog_1_method_3_code 11 = .ok (.sipush 1500, 3) := by decide +kernel
theorem d_Stow_addFour_14 : decode prog_1_method_3_code 14 = .ok (.if_icmp .ge 32, 3) := by decide +kernel
theorem d_Stow_addFour_17 : decode prog_1_method_3_code 17 = .ok (.aload_n 0, 1) := by decide +kernel
theorem d_Stow_addFour_18 : decode prog_1_method_3_code 18 = .ok (.getfield 9, 3) := by decide +kernel
theorem d_Stow_addFour_21 : decode prog_1_method_3_code 21 = .ok (.aload_n 0, 1) := by decide +kernel
theorem d_Stow_addFour_22 : decode prog_1_method_3_code 22 = .ok (.getfield 48, 3) := by decide +kernel
theorem d_Stow_addFour_25 : decode prog_1_method_3_code 25 = .ok (.iload_n 1, 1) := by decide +kernel
theorem d_Stow_addFour_26 : decode prog_1_method_3_code 26 = .ok (.iload_n 2, 1) := by decide +kernel
theorem d_Stow_addFour_27 : decode prog_1_method_3_code 27 = .ok (.ishr, 1) := by decide +kernel
theorem d_Stow_addFour_28 : decode prog_1_method_3_code 28 = .ok (.i2b, 1) := by decide +kernel
theorem d_Stow_addFour_29 : decode prog_1_method_3_code 29 = .ok (.bastore, 1) := by decide +kernel
theorem d_Stow_addFour_30 : decode prog_1_method_3_code 30 = .ok (.aload_n 0, 1) := by decide +kernel
theorem d_Stow_addFour_31 : decode prog_1_method_3_code 31 = .ok (.dup, 1) := by decide +kernel
theorem d_Stow_addFour_32 : decode prog_1_method_3_code 32 = .ok (.getfield 48, 3) := by decide +kernel
theorem d_Stow_addFour_35 : decode prog_1_method_3_code 35 = .ok (.iconst 1, 1) := by decide +kernel
theorem d_Stow_addFour_36 : decode prog_1_method_3_code 36 = .ok (.iadd, 1) := by decide +kernel
theorem d_Stow_addFour_37 : decode prog_1_method_3_code 37 = .ok (.putfield 48, 3) := by decide +kernel
theorem d_Stow_addFour_40 : decode prog_1_method_3_code 40 = .ok (.iinc 2 (-8), 3) := by decide +kernel
theorem d_Stow_addFour_43 : decode prog_1_method_3_code 43 = .ok (.goto (-40), 3) := by decide +kernel
abbrev m_Stow_end : am_M := (⟨"StowTongue", "end", "(I)I"⟩, prog_1_method_4_code, 2, (some FieldType.int))
theorem d_Stow_end_0 : decode prog_1_method_4_code 0 = .ok (.iload_n 1, 1) := by decide +kernel
theorem d_Stow_end_1 : decode prog_1_method_4_code 1 = .ok (.ifCond .lt 11, 3) := by decide +kernel
theorem d_Stow_end_12 : decode prog_1_method_4_code 12 = .ok (.iconst (-1), 1) := by decide +kernel
theorem d_Stow_end_13 : decode prog_1_method_4_code 13 = .ok (.ireturn, 1) := by decide +kernel
theorem d_Stow_end_4 : decode prog_1_method_4_code 4 = .ok (.iload_n 1, 1) := by decide +kernel
theorem d_Stow_end_5 : decode prog_1_method_4_code 5 = .ok (.aload_n 0, 1) := by decide +kernel
theorem d_Stow_end_6 : decode prog_1_method_4_code 6 = .ok (.getfield 48, 3) := by decide +kernel
theorem d_Stow_end_9 : decode prog_1_method_4_code 9 = .ok (.if_icmp .le 5, 3) := by decide +kernel
theorem d_Stow_end_14 : decode prog_1_method_4_code 14 = .ok (.aload_n 0, 1) := by decide +kernel
theorem d_Stow_end_15 : decode prog_1_method_4_code 15 = .ok (.iload_n 1, 1) := by decide +kernel
theorem d_Stow_end_16 : decode prog_1_method_4_code 16 = .ok (.putfield 48, 3) := by decide +kernel
theorem d_Stow_end_19 : decode prog_1_method_4_code 19 = .ok (.iload_n 1, 1) := by decide +kernel
theorem d_Stow_end_20 : decode prog_1_method_4_code 20 = .ok (.ireturn, 1) := by decide +kernel
abbrev m_Lexer_scanNumber : am_M := (⟨"StowTongue$Lexer", "scanNumber", "()V"⟩, prog_4_method_19_code, 3, none)
theorem d_Lexer_scanNumber_0 : decode prog_4_method_19_code 0 = .ok (.lconst 0, 1) := by decide +kernel
theorem d_Lexer_scanNumber_1 : decode prog_4_method_19_code 1 = .ok (.lstore_n 1, 1) := by decide +kernel
theorem d_Lexer_scanNumber_2 : decode prog_4_method_19_code 2 = .ok (.aload_n 0, 1) := by decide +kernel
theorem d_Lexer_scanNumber_3 : decode prog_4_method_19_code 3 = .ok (.getfield 46, 3) := by decide +kernel
theorem d_Lexer_scanNumber_6 : decode prog_4_method_19_code 6 = .ok (.aload_n 0, 1) := by decide +kernel
theorem d_Lexer_scanNumber_7 : decode prog_4_method_19_code 7 = .ok (.getfield 43, 3) := by decide +kernel
theorem d_Lexer_scanNumber_10 : decode prog_4_method_19_code 10 = .ok (.if_icmp .ge 56, 3) := by decide +kernel
theorem d_Lexer_scanNumber_66 : decode prog_4_method_19_code 66 = .ok (.aload_n 0, 1) := by decide +kernel
theorem d_Lexer_scanNumber_67 : decode prog_4_method_19_code 67 = .ok (.lload_n 1, 1) := by decide +kernel
theorem d_Lexer_scanNumber_68 : decode prog_4_method_19_code 68 = .ok (.l2i, 1) := by decide +kernel
theorem d_Lexer_scanNumber_69 : decode prog_4_method_19_code 69 = .ok (.putfield 88, 3) := by decide +kernel
theorem d_Lexer_scanNumber_72 : decode prog_4_method_19_code 72 = .ok (.aload_n 0, 1) := by decide +kernel
theorem d_Lexer_scanNumber_73 : decode prog_4_method_19_code 73 = .ok (.lload_n 1, 1) := by decide +kernel
theorem d_Lexer_scanNumber_74 : decode prog_4_method_19_code 74 = .ok (.ldc2_w 106, 3) := by decide +kernel
theorem w_585 : (Cond.constantLong "StowTongue$Lexer" 106 2147483648 : Cond) ∈ am_tbl := am_w 585 (by decide +kernel) (by decide +kernel)
theorem d_Lexer_scanNumber_77 : decode prog_4_method_19_code 77 = .ok (.lcmp, 1) := by decide +kernel
theorem d_Lexer_scanNumber_78 : decode prog_4_method_19_code 78 = .ok (.ifCond .ne 7, 3) := by decide +kernel
theorem d_Lexer_scanNumber_81 : decode prog_4_method_19_code 81 = .ok (.iconst 1, 1) := by decide +kernel
theorem d_Lexer_scanNumber_82 : decode prog_4_method_19_code 82 = .ok (.goto 4, 3) := by decide +kernel
theorem d_Lexer_scanNumber_86 : decode prog_4_method_19_code 86 = .ok (.putfield 65, 3) := by decide +kernel
theorem d_Lexer_scanNumber_89 : decode prog_4_method_19_code 89 = .ok (.return_, 1) := by decide +kernel
theorem d_Lexer_scanNumber_85 : decode prog_4_method_19_code 85 = .ok (.iconst 3, 1) := by decide +kernel
theorem d_Lexer_scanNumber_13 : decode prog_4_method_19_code 13 = .ok (.aload_n 0, 1) := by decide +kernel
theorem d_Lexer_scanNumber_14 : decode prog_4_method_19_code 14 = .ok (.aload_n 0, 1) := by decide +kernel
theorem d_Lexer_scanNumber_15 : decode prog_4_method_19_code 15 = .ok (.getfield 46, 3) := by decide +kernel
theorem d_Lexer_scanNumber_18 : decode prog_4_method_19_code 18 = .ok (.invokevirtual 61, 3) := by decide +kernel
theorem d_Lexer_scanNumber_21 : decode prog_4_method_19_code 21 = .ok (.invokestatic 75, 3) := by decide +kernel
theorem d_Lexer_scanNumber_24 : decode prog_4_method_19_code 24 = .ok (.ifCond .eq 42, 3) := by decide +kernel
theorem d_Lexer_scanNumber_27 : decode prog_4_method_19_code 27 = .ok (.lload_n 1, 1) := by decide +kernel
theorem d_Lexer_scanNumber_28 : decode prog_4_method_19_code 28 = .ok (.ldc2_w 102, 3) := by decide +kernel
theorem w_583 : (Cond.constantLong "StowTongue$Lexer" 102 10 : Cond) ∈ am_tbl := am_w 583 (by decide +kernel) (by decide +kernel)
theorem d_Lexer_scanNumber_31 : decode prog_4_method_19_code 31 = .ok (.lmul, 1) := by decide +kernel
theorem d_Lexer_scanNumber_32 : decode prog_4_method_19_code 32 = .ok (.aload_n 0, 1) := by decide +kernel
theorem d_Lexer_scanNumber_33 : decode prog_4_method_19_code 33 = .ok (.aload_n 0, 1) := by decide +kernel
theorem d_Lexer_scanNumber_34 : decode prog_4_method_19_code 34 = .ok (.getfield 46, 3) := by decide +kernel
theorem d_Lexer_scanNumber_37 : decode prog_4_method_19_code 37 = .ok (.invokevirtual 61, 3) := by decide +kernel
theorem d_Lexer_scanNumber_40 : decode prog_4_method_19_code 40 = .ok (.i2l, 1) := by decide +kernel
theorem d_Lexer_scanNumber_41 : decode prog_4_method_19_code 41 = .ok (.ladd, 1) := by decide +kernel
theorem d_Lexer_scanNumber_42 : decode prog_4_method_19_code 42 = .ok (.ldc2_w 104, 3) := by decide +kernel
theorem w_584 : (Cond.constantLong "StowTongue$Lexer" 104 48 : Cond) ∈ am_tbl := am_w 584 (by decide +kernel) (by decide +kernel)
theorem d_Lexer_scanNumber_45 : decode prog_4_method_19_code 45 = .ok (.lsub, 1) := by decide +kernel
theorem d_Lexer_scanNumber_46 : decode prog_4_method_19_code 46 = .ok (.ldc2_w 106, 3) := by decide +kernel
theorem d_Lexer_scanNumber_49 : decode prog_4_method_19_code 49 = .ok (.invokestatic 108, 3) := by decide +kernel
theorem w_586 : (Cond.methodLink "StowTongue$Lexer" 108 ⟨"java/lang/Math", "min", "(JJ)J"⟩ : Cond) ∈ am_tbl := am_w 586 (by decide +kernel) (by decide +kernel)
theorem w_587 : (Cond.static ⟨"java/lang/Math", "min", "(JJ)J"⟩ : Cond) ∈ am_tbl := am_w 587 (by decide +kernel) (by decide +kernel)
set_option maxRecDepth 100000 in
theorem w_588 : (Cond.code ⟨"java/lang/Math", "min", "(JJ)J"⟩ prog_21_method_70_code 4 (some FieldType.long) : Cond) ∈ am_tbl := am_w 588 rfl rfl
theorem d_Lexer_scanNumber_52 : decode prog_4_method_19_code 52 = .ok (.lstore_n 1, 1) := by decide +kernel
theorem d_Lexer_scanNumber_53 : decode prog_4_method_19_code 53 = .ok (.aload_n 0, 1) := by decide +kernel
theorem d_Lexer_scanNumber_54 : decode prog_4_method_19_code 54 = .ok (.dup, 1) := by decide +kernel
theorem d_Lexer_scanNumber_55 : decode prog_4_method_19_code 55 = .ok (.getfield 46, 3) := by decide +kernel
theorem d_Lexer_scanNumber_58 : decode prog_4_method_19_code 58 = .ok (.iconst 1, 1) := by decide +kernel
theorem d_Lexer_scanNumber_59 : decode prog_4_method_19_code 59 = .ok (.iadd, 1) := by decide +kernel
theorem d_Lexer_scanNumber_60 : decode prog_4_method_19_code 60 = .ok (.putfield 46, 3) := by decide +kernel
theorem d_Lexer_scanNumber_63 : decode prog_4_method_19_code 63 = .ok (.goto (-61), 3) := by decide +kernel
abbrev m_Lexer_stop : am_M := (⟨"StowTongue$Lexer", "stop", "()V"⟩, prog_4_method_4_code, 1, none)
theorem d_Lexer_stop_0 : decode prog_4_method_4_code 0 = .ok (.aload_n 0, 1) := by decide +kernel
theorem d_Lexer_stop_1 : decode prog_4_method_4_code 1 = .ok (.iconst 1, 1) := by decide +kernel
theorem d_Lexer_stop_2 : decode prog_4_method_4_code 2 = .ok (.putfield 65, 3) := by decide +kernel
theorem d_Lexer_stop_5 : decode prog_4_method_4_code 5 = .ok (.return_, 1) := by decide +kernel
abbrev m_Draft_makeLocal : am_M := (⟨"StowTongue$Draft", "makeLocal", "(J)I"⟩, prog_3_method_11_code, 4, (some FieldType.int))
theorem d_Draft_makeLocal_0 : decode prog_3_method_11_code 0 = .ok (.aload_n 0, 1) := by decide +kernel
theorem d_Draft_makeLocal_1 : decode prog_3_method_11_code 1 = .ok (.lload_n 1, 1) := by decide +kernel
theorem d_Draft_makeLocal_2 : decode prog_3_method_11_code 2 = .ok (.invokevirtual 49, 3) := by decide +kernel
theorem w_721 : (Cond.methodLink "StowTongue$Draft" 49 ⟨"StowTongue$Draft", "localOf", "(J)I"⟩ : Cond) ∈ am_tbl := am_w 721 (by decide +kernel) (by decide +kernel)
set_option maxRecDepth 100000 in
theorem w_716 : (Cond.code ⟨"StowTongue$Draft", "localOf", "(J)I"⟩ prog_3_method_10_code 4 (some FieldType.int) : Cond) ∈ am_tbl := am_w 716 rfl rfl
theorem l_Draft_49 : am_L "StowTongue$Draft" 49 1 m_Draft_localOf := ⟨Or.inl w_721, w_152, w_716, ⟨by decide, by decide⟩, by decide +kernel, by decide⟩
theorem w_714 : (Cond.instanceMethod ⟨"StowTongue$Draft", "localOf", "(J)I"⟩ : Cond) ∈ am_tbl := am_w 714 (by decide +kernel) (by decide +kernel)
theorem w_715 : (Cond.selects "StowTongue$Draft" ⟨"StowTongue$Draft", "localOf", "(J)I"⟩ ⟨"StowTongue$Draft", "localOf", "(J)I"⟩ : Cond) ∈ am_tbl := am_w 715 (by decide +kernel) (by decide +kernel)
theorem d_Draft_makeLocal_5 : decode prog_3_method_11_code 5 = .ok (.istore_n 3, 1) := by decide +kernel
theorem d_Draft_makeLocal_6 : decode prog_3_method_11_code 6 = .ok (.iload_n 3, 1) := by decide +kernel
theorem d_Draft_makeLocal_7 : decode prog_3_method_11_code 7 = .ok (.ifCond .lt 5, 3) := by decide +kernel
theorem d_Draft_makeLocal_12 : decode prog_3_method_11_code 12 = .ok (.aload_n 0, 1) := by decide +kernel
theorem d_Draft_makeLocal_13 : decode prog_3_method_11_code 13 = .ok (.getfield 27, 3) := by decide +kernel
theorem d_Draft_makeLocal_16 : decode prog_3_method_11_code 16 = .ok (.aload_n 0, 1) := by decide +kernel
theorem d_Draft_makeLocal_17 : decode prog_3_method_11_code 17 = .ok (.getfield 17, 3) := by decide +kernel
theorem d_Draft_makeLocal_20 : decode prog_3_method_11_code 20 = .ok (.arraylength, 1) := by decide +kernel
theorem d_Draft_makeLocal_21 : decode prog_3_method_11_code 21 = .ok (.if_icmp .ne 21, 3) := by decide +kernel
theorem d_Draft_makeLocal_24 : decode prog_3_method_11_code 24 = .ok (.aload_n 0, 1) := by decide +kernel
theorem d_Draft_makeLocal_25 : decode prog_3_method_11_code 25 = .ok (.aload_n 0, 1) := by decide +kernel
theorem d_Draft_makeLocal_26 : decode prog_3_method_11_code 26 = .ok (.getfield 17, 3) := by decide +kernel
theorem d_Draft_makeLocal_29 : decode prog_3_method_11_code 29 = .ok (.iconst 2, 1) := by decide +kernel
theorem d_Draft_makeLocal_30 : decode prog_3_method_11_code 30 = .ok (.aload_n 0, 1) := by decide +kernel
theorem d_Draft_makeLocal_31 : decode prog_3_method_11_code 31 = .ok (.getfield 17, 3) := by decide +kernel
theorem d_Draft_makeLocal_34 : decode prog_3_method_11_code 34 = .ok (.arraylength, 1) := by decide +kernel
theorem d_Draft_makeLocal_35 : decode prog_3_method_11_code 35 = .ok (.imul, 1) := by decide +kernel
theorem d_Draft_makeLocal_36 : decode prog_3_method_11_code 36 = .ok (.invokestatic 46, 3) := by decide +kernel
theorem w_722 : (Cond.methodLink "StowTongue$Draft" 46 ⟨"java/util/Arrays", "copyOf", "([JI)[J"⟩ : Cond) ∈ am_tbl := am_w 722 (by decide +kernel) (by decide +kernel)
set_option maxRecDepth 100000 in
theorem w_724 : (Cond.code ⟨"java/util/Arrays", "copyOf", "([JI)[J"⟩ prog_29_method_124_code 3 (some (FieldType.array FieldType.long)) : Cond) ∈ am_tbl := am_w 724 rfl rfl
theorem l_Draft_46 : am_L "StowTongue$Draft" 46 2 m_Arr_copyOf_aJI := ⟨Or.inl w_722, w_166, w_724, ⟨by decide, by decide⟩, by decide +kernel, by decide⟩
theorem w_723 : (Cond.static ⟨"java/util/Arrays", "copyOf", "([JI)[J"⟩ : Cond) ∈ am_tbl := am_w 723 (by decide +kernel) (by decide +kernel)
theorem d_Draft_makeLocal_39 : decode prog_3_method_11_code 39 = .ok (.putfield 17, 3) := by decide +kernel
theorem d_Draft_makeLocal_42 : decode prog_3_method_11_code 42 = .ok (.aload_n 0, 1) := by decide +kernel
theorem d_Draft_makeLocal_43 : decode prog_3_method_11_code 43 = .ok (.getfield 17, 3) := by decide +kernel
theorem d_Draft_makeLocal_46 : decode prog_3_method_11_code 46 = .ok (.aload_n 0, 1) := by decide +kernel
theorem d_Draft_makeLocal_47 : decode prog_3_method_11_code 47 = .ok (.getfield 27, 3) := by decide +kernel
theorem d_Draft_makeLocal_50 : decode prog_3_method_11_code 50 = .ok (.lload_n 1, 1) := by decide +kernel
theorem d_Draft_makeLocal_51 : decode prog_3_method_11_code 51 = .ok (.lastore, 1) := by decide +kernel
theorem d_Draft_makeLocal_52 : decode prog_3_method_11_code 52 = .ok (.aload_n 0, 1) := by decide +kernel
theorem d_Draft_makeLocal_53 : decode prog_3_method_11_code 53 = .ok (.dup, 1) := by decide +kernel
theorem d_Draft_makeLocal_54 : decode prog_3_method_11_code 54 = .ok (.getfield 27, 3) := by decide +kernel
theorem d_Draft_makeLocal_57 : decode prog_3_method_11_code 57 = .ok (.iconst 1, 1) := by decide +kernel
theorem d_Draft_makeLocal_58 : decode prog_3_method_11_code 58 = .ok (.iadd, 1) := by decide +kernel
theorem d_Draft_makeLocal_59 : decode prog_3_method_11_code 59 = .ok (.putfield 27, 3) := by decide +kernel
theorem d_Draft_makeLocal_62 : decode prog_3_method_11_code 62 = .ok (.aload_n 0, 1) := by decide +kernel
theorem d_Draft_makeLocal_63 : decode prog_3_method_11_code 63 = .ok (.getfield 27, 3) := by decide +kernel
theorem d_Draft_makeLocal_66 : decode prog_3_method_11_code 66 = .ok (.iconst 1, 1) := by decide +kernel
theorem d_Draft_makeLocal_67 : decode prog_3_method_11_code 67 = .ok (.isub, 1) := by decide +kernel
theorem d_Draft_makeLocal_68 : decode prog_3_method_11_code 68 = .ok (.ireturn, 1) := by decide +kernel
theorem d_Draft_makeLocal_10 : decode prog_3_method_11_code 10 = .ok (.iload_n 3, 1) := by decide +kernel
theorem d_Draft_makeLocal_11 : decode prog_3_method_11_code 11 = .ok (.ireturn, 1) := by decide +kernel
abbrev m_Draft_add : am_M := (⟨"StowTongue$Draft", "add", "(II)V"⟩, prog_3_method_3_code, 3, none)
theorem d_Draft_add_0 : decode prog_3_method_3_code 0 = .ok (.aload_n 0, 1) := by decide +kernel
theorem d_Draft_add_1 : decode prog_3_method_3_code 1 = .ok (.getfield 20, 3) := by decide +kernel
theorem d_Draft_add_4 : decode prog_3_method_3_code 4 = .ok (.iconst 2, 1) := by decide +kernel
theorem d_Draft_add_5 : decode prog_3_method_3_code 5 = .ok (.iadd, 1) := by decide +kernel
theorem d_Draft_add_6 : decode prog_3_method_3_code 6 = .ok (.aload_n 0, 1) := by decide +kernel
theorem d_Draft_add_7 : decode prog_3_method_3_code 7 = .ok (.getfield 7, 3) := by decide +kernel
theorem d_Draft_add_10 : decode prog_3_method_3_code 10 = .ok (.arraylength, 1) := by decide +kernel
theorem d_Draft_add_11 : decode prog_3_method_3_code 11 = .ok (.if_icmp .le 21, 3) := by decide +kernel
theorem d_Draft_add_32 : decode prog_3_method_3_code 32 = .ok (.aload_n 0, 1) := by decide +kernel
theorem d_Draft_add_33 : decode prog_3_method_3_code 33 = .ok (.getfield 7, 3) := by decide +kernel
theorem d_Draft_add_36 : decode prog_3_method_3_code 36 = .ok (.aload_n 0, 1) := by decide +kernel
theorem d_Draft_add_37 : decode prog_3_method_3_code 37 = .ok (.getfield 20, 3) := by decide +kernel
theorem d_Draft_add_40 : decode prog_3_method_3_code 40 = .ok (.iload_n 1, 1) := by decide +kernel
theorem d_Draft_add_41 : decode prog_3_method_3_code 41 = .ok (.iastore, 1) := by decide +kernel
theorem d_Draft_add_42 : decode prog_3_method_3_code 42 = .ok (.aload_n 0, 1) := by decide +kernel
theorem d_Draft_add_43 : decode prog_3_method_3_code 43 = .ok (.getfield 7, 3) := by decide +kernel
theorem d_Draft_add_46 : decode prog_3_method_3_code 46 = .ok (.aload_n 0, 1) := by decide +kernel
theorem d_Draft_add_47 : decode prog_3_method_3_code 47 = .ok (.getfield 20, 3) := by decide +kernel
theorem d_Draft_add_50 : decode prog_3_method_3_code 50 = .ok (.iconst 1, 1) := by decide +kernel
theorem d_Draft_add_51 : decode prog_3_method_3_code 51 = .ok (.iadd, 1) := by decide +kernel
theorem d_Draft_add_52 : decode prog_3_method_3_code 52 = .ok (.iload_n 2, 1) := by decide +kernel
theorem d_Draft_add_53 : decode prog_3_method_3_code 53 = .ok (.iastore, 1) := by decide +kernel
theorem d_Draft_add_54 : decode prog_3_method_3_code 54 = .ok (.aload_n 0, 1) := by decide +kernel
theorem d_Draft_add_55 : decode prog_3_method_3_code 55 = .ok (.dup, 1) := by decide +kernel
theorem d_Draft_add_56 : decode prog_3_method_3_code 56 = .ok (.getfield 20, 3) := by decide +kernel
theorem d_Draft_add_59 : decode prog_3_method_3_code 59 = .ok (.iconst 2, 1) := by decide +kernel
theorem d_Draft_add_60 : decode prog_3_method_3_code 60 = .ok (.iadd, 1) := by decide +kernel
theorem d_Draft_add_61 : decode prog_3_method_3_code 61 = .ok (.putfield 20, 3) := by decide +kernel
theorem d_Draft_add_64 : decode prog_3_method_3_code 64 = .ok (.return_, 1) := by decide +kernel
theorem d_Draft_add_14 : decode prog_3_method_3_code 14 = .ok (.aload_n 0, 1) := by decide +kernel
theorem d_Draft_add_15 : decode prog_3_method_3_code 15 = .ok (.aload_n 0, 1) := by decide +kernel
theorem d_Draft_add_16 : decode prog_3_method_3_code 16 = .ok (.getfield 7, 3) := by decide +kernel
theorem d_Draft_add_19 : decode prog_3_method_3_code 19 = .ok (.iconst 2, 1) := by decide +kernel
theorem d_Draft_add_20 : decode prog_3_method_3_code 20 = .ok (.aload_n 0, 1) := by decide +kernel
theorem d_Draft_add_21 : decode prog_3_method_3_code 21 = .ok (.getfield 7, 3) := by decide +kernel
theorem d_Draft_add_24 : decode prog_3_method_3_code 24 = .ok (.arraylength, 1) := by decide +kernel
theorem d_Draft_add_25 : decode prog_3_method_3_code 25 = .ok (.imul, 1) := by decide +kernel
theorem d_Draft_add_26 : decode prog_3_method_3_code 26 = .ok (.invokestatic 30, 3) := by decide +kernel
theorem w_756 : (Cond.methodLink "StowTongue$Draft" 30 ⟨"java/util/Arrays", "copyOf", "([II)[I"⟩ : Cond) ∈ am_tbl := am_w 756 (by decide +kernel) (by decide +kernel)
set_option maxRecDepth 100000 in
theorem w_758 : (Cond.code ⟨"java/util/Arrays", "copyOf", "([II)[I"⟩ prog_29_method_123_code 3 (some (FieldType.array FieldType.int)) : Cond) ∈ am_tbl := am_w 758 rfl rfl
theorem l_Draft_30 : am_L "StowTongue$Draft" 30 2 m_Arr_copyOf_aII := ⟨Or.inl w_756, w_166, w_758, ⟨by decide, by decide⟩, by decide +kernel, by decide⟩
theorem w_757 : (Cond.static ⟨"java/util/Arrays", "copyOf", "([II)[I"⟩ : Cond) ∈ am_tbl := am_w 757 (by decide +kernel) (by decide +kernel)
theorem d_Draft_add_29 : decode prog_3_method_3_code 29 = .ok (.putfield 7, 3) := by decide +kernel
abbrev m_Draft_keep : am_M := (⟨"StowTongue$Draft", "keep", "(JJ)I"⟩, prog_3_method_9_code, 5, (some FieldType.int))
theorem d_Draft_keep_0 : decode prog_3_method_9_code 0 = .ok (.aload_n 0, 1) := by decide +kernel
theorem d_Draft_keep_1 : decode prog_3_method_9_code 1 = .ok (.getfield 24, 3) := by decide +kernel
theorem d_Draft_keep_4 : decode prog_3_method_9_code 4 = .ok (.iconst 2, 1) := by decide +kernel
theorem d_Draft_keep_5 : decode prog_3_method_9_code 5 = .ok (.iadd, 1) := by decide +kernel
theorem d_Draft_keep_6 : decode prog_3_method_9_code 6 = .ok (.aload_n 0, 1) := by decide +kernel
theorem d_Draft_keep_7 : decode prog_3_method_9_code 7 = .ok (.getfield 13, 3) := by decide +kernel
theorem d_Draft_keep_10 : decode prog_3_method_9_code 10 = .ok (.arraylength, 1) := by decide +kernel
theorem d_Draft_keep_11 : decode prog_3_method_9_code 11 = .ok (.if_icmp .le 21, 3) := by decide +kernel
theorem d_Draft_keep_32 : decode prog_3_method_9_code 32 = .ok (.aload_n 0, 1) := by decide +kernel
theorem d_Draft_keep_33 : decode prog_3_method_9_code 33 = .ok (.getfield 13, 3) := by decide +kernel
theorem d_Draft_keep_36 : decode prog_3_method_9_code 36 = .ok (.aload_n 0, 1) := by decide +kernel
theorem d_Draft_keep_37 : decode prog_3_method_9_code 37 = .ok (.getfield 24, 3) := by decide +kernel
theorem d_Draft_keep_40 : decode prog_3_method_9_code 40 = .ok (.lload_n 1, 1) := by decide +kernel
theorem d_Draft_keep_41 : decode prog_3_method_9_code 41 = .ok (.lastore, 1) := by decide +kernel
theorem d_Draft_keep_42 : decode prog_3_method_9_code 42 = .ok (.aload_n 0, 1) := by decide +kernel
theorem d_Draft_keep_43 : decode prog_3_method_9_code 43 = .ok (.getfield 13, 3) := by decide +kernel
theorem d_Draft_keep_46 : decode prog_3_method_9_code 46 = .ok (.aload_n 0, 1) := by decide +kernel
theorem d_Draft_keep_47 : decode prog_3_method_9_code 47 = .ok (.getfield 24, 3) := by decide +kernel
theorem d_Draft_keep_50 : decode prog_3_method_9_code 50 = .ok (.iconst 1, 1) := by decide +kernel
theorem d_Draft_keep_51 : decode prog_3_method_9_code 51 = .ok (.iadd, 1) := by decide +kernel
theorem d_Draft_keep_52 : decode prog_3_method_9_code 52 = .ok (.lload_n 3, 1) := by decide +kernel
theorem d_Draft_keep_53 : decode prog_3_method_9_code 53 = .ok (.lastore, 1) := by decide +kernel
theorem d_Draft_keep_54 : decode prog_3_method_9_code 54 = .ok (.aload_n 0, 1) := by decide +kernel
theorem d_Draft_keep_55 : decode prog_3_method_9_code 55 = .ok (.dup, 1) := by decide +kernel
theorem d_Draft_keep_56 : decode prog_3_method_9_code 56 = .ok (.getfield 24, 3) := by decide +kernel
theorem d_Draft_keep_59 : decode prog_3_method_9_code 59 = .ok (.iconst 2, 1) := by decide +kernel
theorem d_Draft_keep_60 : decode prog_3_method_9_code 60 = .ok (.iadd, 1) := by decide +kernel
theorem d_Draft_keep_61 : decode prog_3_method_9_code 61 = .ok (.putfield 24, 3) := by decide +kernel
theorem d_Draft_keep_64 : decode prog_3_method_9_code 64 = .ok (.aload_n 0, 1) := by decide +kernel
theorem d_Draft_keep_65 : decode prog_3_method_9_code 65 = .ok (.getfield 24, 3) := by decide +kernel
theorem d_Draft_keep_68 : decode prog_3_method_9_code 68 = .ok (.iconst 2, 1) := by decide +kernel
theorem d_Draft_keep_69 : decode prog_3_method_9_code 69 = .ok (.isub, 1) := by decide +kernel
theorem d_Draft_keep_70 : decode prog_3_method_9_code 70 = .ok (.ireturn, 1) := by decide +kernel
theorem d_Draft_keep_14 : decode prog_3_method_9_code 14 = .ok (.aload_n 0, 1) := by decide +kernel
theorem d_Draft_keep_15 : decode prog_3_method_9_code 15 = .ok (.aload_n 0, 1) := by decide +kernel
theorem d_Draft_keep_16 : decode prog_3_method_9_code 16 = .ok (.getfield 13, 3) := by decide +kernel
theorem d_Draft_keep_19 : decode prog_3_method_9_code 19 = .ok (.iconst 2, 1) := by decide +kernel
theorem d_Draft_keep_20 : decode prog_3_method_9_code 20 = .ok (.aload_n 0, 1) := by decide +kernel
theorem d_Draft_keep_21 : decode prog_3_method_9_code 21 = .ok (.getfield 13, 3) := by decide +kernel
theorem d_Draft_keep_24 : decode prog_3_method_9_code 24 = .ok (.arraylength, 1) := by decide +kernel
theorem d_Draft_keep_25 : decode prog_3_method_9_code 25 = .ok (.imul, 1) := by decide +kernel
theorem d_Draft_keep_26 : decode prog_3_method_9_code 26 = .ok (.invokestatic 46, 3) := by decide +kernel
theorem d_Draft_keep_29 : decode prog_3_method_9_code 29 = .ok (.putfield 13, 3) := by decide +kernel
abbrev m_Pars_keepName : am_M := (⟨"StowTongue$Parser", "keepName", "(J)I"⟩, prog_8_method_27_code, 3, (some FieldType.int))
theorem d_Pars_keepName_0 : decode prog_8_method_27_code 0 = .ok (.aload_n 0, 1) := by decide +kernel
theorem d_Pars_keepName_1 : decode prog_8_method_27_code 1 = .ok (.getfield 28, 3) := by decide +kernel
theorem d_Pars_keepName_4 : decode prog_8_method_27_code 4 = .ok (.iconst 2, 1) := by decide +kernel
theorem d_Pars_keepName_5 : decode prog_8_method_27_code 5 = .ok (.invokestatic 211, 3) := by decide +kernel
theorem w_832 : (Cond.methodLink "StowTongue$Parser" 211 ⟨"StowTongue$Cell", "headOf", "(I)J"⟩ : Cond) ∈ am_tbl := am_w 832 (by decide +kernel) (by decide +kernel)
set_option maxRecDepth 100000 in
theorem w_595 : (Cond.code ⟨"StowTongue$Cell", "headOf", "(I)J"⟩ prog_2_method_2_code 1 (some FieldType.long) : Cond) ∈ am_tbl := am_w 595 rfl rfl
theorem l_Pars_211 : am_L "StowTongue$Parser" 211 1 m_Cell_headOf := ⟨Or.inl w_832, w_151, w_595, ⟨by decide, by decide⟩, by decide +kernel, by decide⟩
theorem w_594 : (Cond.static ⟨"StowTongue$Cell", "headOf", "(I)J"⟩ : Cond) ∈ am_tbl := am_w 594 (by decide +kernel) (by decide +kernel)
theorem d_Pars_keepName_8 : decode prog_8_method_27_code 8 = .ok (.lload_n 1, 1) := by decide +kernel
theorem d_Pars_keepName_9 : decode prog_8_method_27_code 9 = .ok (.lor, 1) := by decide +kernel
theorem d_Pars_keepName_10 : decode prog_8_method_27_code 10 = .ok (.lconst 0, 1) := by decide +kernel
theorem d_Pars_keepName_11 : decode prog_8_method_27_code 11 = .ok (.invokevirtual 215, 3) := by decide +kernel
theorem w_796 : (Cond.methodLink "StowTongue$Parser" 215 ⟨"StowTongue$Draft", "keep", "(JJ)I"⟩ : Cond) ∈ am_tbl := am_w 796 (by decide +kernel) (by decide +kernel)
set_option maxRecDepth 100000 in
theorem w_799 : (Cond.code ⟨"StowTongue$Draft", "keep", "(JJ)I"⟩ prog_3_method_9_code 5 (some FieldType.int) : Cond) ∈ am_tbl := am_w 799 rfl rfl
theorem l_Pars_215 : am_L "StowTongue$Parser" 215 2 m_Draft_keep := ⟨Or.inl w_796, w_152, w_799, ⟨by decide, by decide⟩, by decide +kernel, by decide⟩
theorem w_797 : (Cond.instanceMethod ⟨"StowTongue$Draft", "keep", "(JJ)I"⟩ : Cond) ∈ am_tbl := am_w 797 (by decide +kernel) (by decide +kernel)
theorem w_798 : (Cond.selects "StowTongue$Draft" ⟨"StowTongue$Draft", "keep", "(JJ)I"⟩ ⟨"StowTongue$Draft", "keep", "(JJ)I"⟩ : Cond) ∈ am_tbl := am_w 798 (by decide +kernel) (by decide +kernel)
theorem d_Pars_keepName_14 : decode prog_8_method_27_code 14 = .ok (.ireturn, 1) := by decide +kernel
abbrev m_Draft_aimHere : am_M := (⟨"StowTongue$Draft", "aimHere", "(I)V"⟩, prog_3_method_5_code, 3, none)
theorem d_Draft_aimHere_0 : decode prog_3_method_5_code 0 = .ok (.iconst 2, 1) := by decide +kernel
theorem d_Draft_aimHere_1 : decode prog_3_method_5_code 1 = .ok (.iload_n 1, 1) := by decide +kernel
theorem d_Draft_aimHere_2 : decode prog_3_method_5_code 2 = .ok (.imul, 1) := by decide +kernel
theorem d_Draft_aimHere_3 : decode prog_3_method_5_code 3 = .ok (.iconst 1, 1) := by decide +kernel
theorem d_Draft_aimHere_4 : decode prog_3_method_5_code 4 = .ok (.iadd, 1) := by decide +kernel
theorem d_Draft_aimHere_5 : decode prog_3_method_5_code 5 = .ok (.istore_n 2, 1) := by decide +kernel
theorem d_Draft_aimHere_6 : decode prog_3_method_5_code 6 = .ok (.iload_n 2, 1) := by decide +kernel
theorem d_Draft_aimHere_7 : decode prog_3_method_5_code 7 = .ok (.iconst 1, 1) := by decide +kernel
theorem d_Draft_aimHere_8 : decode prog_3_method_5_code 8 = .ok (.if_icmp .lt 21, 3) := by decide +kernel
theorem d_Draft_aimHere_29 : decode prog_3_method_5_code 29 = .ok (.return_, 1) := by decide +kernel
theorem d_Draft_aimHere_11 : decode prog_3_method_5_code 11 = .ok (.iload_n 2, 1) := by decide +kernel
theorem d_Draft_aimHere_12 : decode prog_3_method_5_code 12 = .ok (.aload_n 0, 1) := by decide +kernel
theorem d_Draft_aimHere_13 : decode prog_3_method_5_code 13 = .ok (.getfield 20, 3) := by decide +kernel
theorem d_Draft_aimHere_16 : decode prog_3_method_5_code 16 = .ok (.if_icmp .ge 13, 3) := by decide +kernel
theorem d_Draft_aimHere_19 : decode prog_3_method_5_code 19 = .ok (.aload_n 0, 1) := by decide +kernel
theorem d_Draft_aimHere_20 : decode prog_3_method_5_code 20 = .ok (.getfield 7, 3) := by decide +kernel
theorem d_Draft_aimHere_23 : decode prog_3_method_5_code 23 = .ok (.iload_n 2, 1) := by decide +kernel
theorem d_Draft_aimHere_24 : decode prog_3_method_5_code 24 = .ok (.aload_n 0, 1) := by decide +kernel
theorem d_Draft_aimHere_25 : decode prog_3_method_5_code 25 = .ok (.invokevirtual 36, 3) := by decide +kernel
theorem w_844 : (Cond.methodLink "StowTongue$Draft" 36 ⟨"StowTongue$Draft", "here", "()I"⟩ : Cond) ∈ am_tbl := am_w 844 (by decide +kernel) (by decide +kernel)
set_option maxRecDepth 100000 in
theorem w_839 : (Cond.code ⟨"StowTongue$Draft", "here", "()I"⟩ prog_3_method_4_code 1 (some FieldType.int) : Cond) ∈ am_tbl := am_w 839 rfl rfl
theorem l_Draft_36 : am_L "StowTongue$Draft" 36 0 m_Draft_here := ⟨Or.inl w_844, w_152, w_839, ⟨by decide, by decide⟩, by decide +kernel, by decide⟩
theorem w_837 : (Cond.instanceMethod ⟨"StowTongue$Draft", "here", "()I"⟩ : Cond) ∈ am_tbl := am_w 837 (by decide +kernel) (by decide +kernel)
theorem w_838 : (Cond.selects "StowTongue$Draft" ⟨"StowTongue$Draft", "here", "()I"⟩ ⟨"StowTongue$Draft", "here", "()I"⟩ : Cond) ∈ am_tbl := am_w 838 (by decide +kernel) (by decide +kernel)
theorem d_Draft_aimHere_28 : decode prog_3_method_5_code 28 = .ok (.iastore, 1) := by decide +kernel
abbrev m_Draft_lastOp : am_M := (⟨"StowTongue$Draft", "lastOp", "()I"⟩, prog_3_method_6_code, 1, (some FieldType.int))
theorem d_Draft_lastOp_0 : decode prog_3_method_6_code 0 = .ok (.aload_n 0, 1) := by decide +kernel
theorem d_Draft_lastOp_1 : decode prog_3_method_6_code 1 = .ok (.getfield 20, 3) := by decide +kernel
theorem d_Draft_lastOp_4 : decode prog_3_method_6_code 4 = .ok (.iconst 2, 1) := by decide +kernel
theorem d_Draft_lastOp_5 : decode prog_3_method_6_code 5 = .ok (.if_icmp .lt 17, 3) := by decide +kernel
theorem d_Draft_lastOp_22 : decode prog_3_method_6_code 22 = .ok (.iconst 0, 1) := by decide +kernel
theorem d_Draft_lastOp_23 : decode prog_3_method_6_code 23 = .ok (.ireturn, 1) := by decide +kernel
theorem d_Draft_lastOp_8 : decode prog_3_method_6_code 8 = .ok (.aload_n 0, 1) := by decide +kernel
theorem d_Draft_lastOp_9 : decode prog_3_method_6_code 9 = .ok (.getfield 7, 3) := by decide +kernel
theorem d_Draft_lastOp_12 : decode prog_3_method_6_code 12 = .ok (.aload_n 0, 1) := by decide +kernel
theorem d_Draft_lastOp_13 : decode prog_3_method_6_code 13 = .ok (.getfield 20, 3) := by decide +kernel
theorem d_Draft_lastOp_16 : decode prog_3_method_6_code 16 = .ok (.iconst 2, 1) := by decide +kernel
theorem d_Draft_lastOp_17 : decode prog_3_method_6_code 17 = .ok (.isub, 1) := by decide +kernel
theorem d_Draft_lastOp_18 : decode prog_3_method_6_code 18 = .ok (.iaload, 1) := by decide +kernel
theorem d_Draft_lastOp_19 : decode prog_3_method_6_code 19 = .ok (.goto 4, 3) := by decide +kernel
abbrev m_Draft_lastArgument : am_M := (⟨"StowTongue$Draft", "lastArgument", "()I"⟩, prog_3_method_7_code, 1, (some FieldType.int))
theorem d_Draft_lastArgument_0 : decode prog_3_method_7_code 0 = .ok (.aload_n 0, 1) := by decide +kernel
theorem d_Draft_lastArgument_1 : decode prog_3_method_7_code 1 = .ok (.getfield 20, 3) := by decide +kernel
theorem d_Draft_lastArgument_4 : decode prog_3_method_7_code 4 = .ok (.iconst 2, 1) := by decide +kernel
theorem d_Draft_lastArgument_5 : decode prog_3_method_7_code 5 = .ok (.if_icmp .lt 17, 3) := by decide +kernel
theorem d_Draft_lastArgument_22 : decode prog_3_method_7_code 22 = .ok (.iconst 0, 1) := by decide +kernel
theorem d_Draft_lastArgument_23 : decode prog_3_method_7_code 23 = .ok (.ireturn, 1) := by decide +kernel
theorem d_Draft_lastArgument_8 : decode prog_3_method_7_code 8 = .ok (.aload_n 0, 1) := by decide +kernel
theorem d_Draft_lastArgument_9 : decode prog_3_method_7_code 9 = .ok (.getfield 7, 3) := by decide +kernel
theorem d_Draft_lastArgument_12 : decode prog_3_method_7_code 12 = .ok (.aload_n 0, 1) := by decide +kernel
theorem d_Draft_lastArgument_13 : decode prog_3_method_7_code 13 = .ok (.getfield 20, 3) := by decide +kernel
theorem d_Draft_lastArgument_16 : decode prog_3_method_7_code 16 = .ok (.iconst 1, 1) := by decide +kernel
theorem d_Draft_lastArgument_17 : decode prog_3_method_7_code 17 = .ok (.isub, 1) := by decide +kernel
theorem d_Draft_lastArgument_18 : decode prog_3_method_7_code 18 = .ok (.iaload, 1) := by decide +kernel
theorem d_Draft_lastArgument_19 : decode prog_3_method_7_code 19 = .ok (.goto 4, 3) := by decide +kernel
abbrev m_Draft_dropLast : am_M := (⟨"StowTongue$Draft", "dropLast", "()V"⟩, prog_3_method_8_code, 1, none)
theorem d_Draft_dropLast_0 : decode prog_3_method_8_code 0 = .ok (.aload_n 0, 1) := by decide +kernel
theorem d_Draft_dropLast_1 : decode prog_3_method_8_code 1 = .ok (.iconst 0, 1) := by decide +kernel
theorem d_Draft_dropLast_2 : decode prog_3_method_8_code 2 = .ok (.aload_n 0, 1) := by decide +kernel
theorem d_Draft_dropLast_3 : decode prog_3_method_8_code 3 = .ok (.getfield 20, 3) := by decide +kernel
theorem d_Draft_dropLast_6 : decode prog_3_method_8_code 6 = .ok (.iconst 2, 1) := by decide +kernel
theorem d_Draft_dropLast_7 : decode prog_3_method_8_code 7 = .ok (.isub, 1) := by decide +kernel
theorem d_Draft_dropLast_8 : decode prog_3_method_8_code 8 = .ok (.invokestatic 40, 3) := by decide +kernel
theorem w_880 : (Cond.methodLink "StowTongue$Draft" 40 ⟨"java/lang/Math", "max", "(II)I"⟩ : Cond) ∈ am_tbl := am_w 880 (by decide +kernel) (by decide +kernel)
theorem d_Draft_dropLast_11 : decode prog_3_method_8_code 11 = .ok (.putfield 20, 3) := by decide +kernel
theorem d_Draft_dropLast_14 : decode prog_3_method_8_code 14 = .ok (.return_, 1) := by decide +kernel
abbrev m_Draft_finish : am_M := (⟨"StowTongue$Draft", "finish", "(JII)LStowTongue$Unit;"⟩, prog_3_method_12_code, 5, (some (FieldType.object "StowTongue$Unit")))
theorem d_Draft_finish_0 : decode prog_3_method_12_code 0 = .ok (.aload_n 0, 1) := by decide +kernel
theorem d_Draft_finish_1 : decode prog_3_method_12_code 1 = .ok (.bipush 10, 2) := by decide +kernel
theorem d_Draft_finish_3 : decode prog_3_method_12_code 3 = .ok (.iconst 0, 1) := by decide +kernel
theorem d_Draft_finish_4 : decode prog_3_method_12_code 4 = .ok (.invokevirtual 55, 3) := by decide +kernel
theorem w_888 : (Cond.methodLink "StowTongue$Draft" 55 ⟨"StowTongue$Draft", "add", "(II)V"⟩ : Cond) ∈ am_tbl := am_w 888 (by decide +kernel) (by decide +kernel)
set_option maxRecDepth 100000 in
theorem w_755 : (Cond.code ⟨"StowTongue$Draft", "add", "(II)V"⟩ prog_3_method_3_code 3 none : Cond) ∈ am_tbl := am_w 755 rfl rfl
theorem l_Draft_55 : am_L "StowTongue$Draft" 55 2 m_Draft_add := ⟨Or.inl w_888, w_152, w_755, ⟨by decide, by decide⟩, by decide +kernel, by decide⟩
theorem w_753 : (Cond.instanceMethod ⟨"StowTongue$Draft", "add", "(II)V"⟩ : Cond) ∈ am_tbl := am_w 753 (by decide +kernel) (by decide +kernel)
theorem w_754 : (Cond.selects "StowTongue$Draft" ⟨"StowTongue$Draft", "add", "(II)V"⟩ ⟨"StowTongue$Draft", "add", "(II)V"⟩ : Cond) ∈ am_tbl := am_w 754 (by decide +kernel) (by decide +kernel)
theorem d_Draft_finish_7 : decode prog_3_method_12_code 7 = .ok (.aload_n 0, 1) := by decide +kernel
theorem d_Draft_finish_8 : decode prog_3_method_12_code 8 = .ok (.bipush 6, 2) := by decide +kernel
theorem d_Draft_finish_10 : decode prog_3_method_12_code 10 = .ok (.iconst 0, 1) := by decide +kernel
theorem d_Draft_finish_11 : decode prog_3_method_12_code 11 = .ok (.invokevirtual 55, 3) := by decide +kernel
theorem d_Draft_finish_14 : decode prog_3_method_12_code 14 = .ok (.new 59, 3) := by decide +kernel
theorem w_889 : (Cond.classLink "StowTongue$Draft" 59 "StowTongue$Unit" : Cond) ∈ am_tbl := am_w 889 (by decide +kernel) (by decide +kernel)
theorem n_Draft_59 : am_N "StowTongue$Draft" 59 4 6 [.long 0, .int 0, .int 0, .int 0, .null, .null] := ⟨_, rfl, cl_4, rfl, by decide +kernel, w_889, w_345, w_156⟩
theorem d_Draft_finish_17 : decode prog_3_method_12_code 17 = .ok (.dup, 1) := by decide +kernel
theorem d_Draft_finish_18 : decode prog_3_method_12_code 18 = .ok (.lload_n 1, 1) := by decide +kernel
theorem d_Draft_finish_19 : decode prog_3_method_12_code 19 = .ok (.iload_n 3, 1) := by decide +kernel
theorem d_Draft_finish_20 : decode prog_3_method_12_code 20 = .ok (.aload_n 0, 1) := by decide +kernel
theorem d_Draft_finish_21 : decode prog_3_method_12_code 21 = .ok (.getfield 27, 3) := by decide +kernel
theorem d_Draft_finish_24 : decode prog_3_method_12_code 24 = .ok (.iload 4, 2) := by decide +kernel
theorem d_Draft_finish_26 : decode prog_3_method_12_code 26 = .ok (.aload_n 0, 1) := by decide +kernel
theorem d_Draft_finish_27 : decode prog_3_method_12_code 27 = .ok (.getfield 7, 3) := by decide +kernel
theorem d_Draft_finish_30 : decode prog_3_method_12_code 30 = .ok (.aload_n 0, 1) := by decide +kernel
theorem d_Draft_finish_31 : decode prog_3_method_12_code 31 = .ok (.getfield 20, 3) := by decide +kernel
theorem d_Draft_finish_34 : decode prog_3_method_12_code 34 = .ok (.invokestatic 30, 3) := by decide +kernel
theorem d_Draft_finish_37 : decode prog_3_method_12_code 37 = .ok (.aload_n 0, 1) := by decide +kernel
theorem d_Draft_finish_38 : decode prog_3_method_12_code 38 = .ok (.getfield 13, 3) := by decide +kernel
theorem d_Draft_finish_41 : decode prog_3_method_12_code 41 = .ok (.aload_n 0, 1) := by decide +kernel
theorem d_Draft_finish_42 : decode prog_3_method_12_code 42 = .ok (.getfield 24, 3) := by decide +kernel
theorem d_Draft_finish_45 : decode prog_3_method_12_code 45 = .ok (.invokestatic 46, 3) := by decide +kernel
theorem d_Draft_finish_48 : decode prog_3_method_12_code 48 = .ok (.invokespecial 61, 3) := by decide +kernel
theorem w_890 : (Cond.methodLink "StowTongue$Draft" 61 ⟨"StowTongue$Unit", "<init>", "(JIII[I[J)V"⟩ : Cond) ∈ am_tbl := am_w 890 (by decide +kernel) (by decide +kernel)
theorem l_Draft_61 : am_L "StowTongue$Draft" 61 6 m_Unit_init := ⟨Or.inl w_890, w_156, w_348, ⟨by decide, by decide⟩, by decide +kernel, by decide⟩
theorem d_Draft_finish_51 : decode prog_3_method_12_code 51 = .ok (.areturn, 1) := by decide +kernel
abbrev m_Stow_forgetLatestRun : am_M := (⟨"StowTongue", "forgetLatestRun", "()V"⟩, prog_1_method_6_code, 1, none)
theorem d_Stow_forgetLatestRun_0 : decode prog_1_method_6_code 0 = .ok (.aload_n 0, 1) := by decide +kernel
theorem d_Stow_forgetLatestRun_1 : decode prog_1_method_6_code 1 = .ok (.iconst 0, 1) := by decide +kernel
theorem d_Stow_forgetLatestRun_2 : decode prog_1_method_6_code 2 = .ok (.putfield 86, 3) := by decide +kernel
theorem d_Stow_forgetLatestRun_5 : decode prog_1_method_6_code 5 = .ok (.aload_n 0, 1) := by decide +kernel
theorem d_Stow_forgetLatestRun_6 : decode prog_1_method_6_code 6 = .ok (.lconst 0, 1) := by decide +kernel
theorem d_Stow_forgetLatestRun_7 : decode prog_1_method_6_code 7 = .ok (.putfield 93, 3) := by decide +kernel
theorem d_Stow_forgetLatestRun_10 : decode prog_1_method_6_code 10 = .ok (.aload_n 0, 1) := by decide +kernel
theorem d_Stow_forgetLatestRun_11 : decode prog_1_method_6_code 11 = .ok (.lconst 0, 1) := by decide +kernel
theorem d_Stow_forgetLatestRun_12 : decode prog_1_method_6_code 12 = .ok (.putfield 100, 3) := by decide +kernel
theorem d_Stow_forgetLatestRun_15 : decode prog_1_method_6_code 15 = .ok (.return_, 1) := by decide +kernel
