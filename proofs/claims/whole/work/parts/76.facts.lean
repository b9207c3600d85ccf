theorem d_State_findRoot_10 : decode prog_15_method_3_code 10 = .ok (.aload_n 0, 1) := by decide +kernel
theorem d_State_findRoot_11 : decode prog_15_method_3_code 11 = .ok (.getfield 22, 3) := by decide +kernel
theorem d_State_findRoot_14 : decode prog_15_method_3_code 14 = .ok (.iload_n 3, 1) := by decide +kernel
theorem d_State_findRoot_15 : decode prog_15_method_3_code 15 = .ok (.laload, 1) := by decide +kernel
theorem d_State_findRoot_16 : decode prog_15_method_3_code 16 = .ok (.lload_n 1, 1) := by decide +kernel
theorem d_State_findRoot_17 : decode prog_15_method_3_code 17 = .ok (.lcmp, 1) := by decide +kernel
theorem d_State_findRoot_18 : decode prog_15_method_3_code 18 = .ok (.ifCond .ne 5, 3) := by decide +kernel
theorem d_State_findRoot_23 : decode prog_15_method_3_code 23 = .ok (.iinc 3 1, 3) := by decide +kernel
theorem d_State_findRoot_26 : decode prog_15_method_3_code 26 = .ok (.goto (-24), 3) := by decide +kernel
theorem d_State_findRoot_21 : decode prog_15_method_3_code 21 = .ok (.iload_n 3, 1) := by decide +kernel
theorem d_State_findRoot_22 : decode prog_15_method_3_code 22 = .ok (.ireturn, 1) := by decide +kernel
abbrev m_State_findFunction : am_M := (⟨"StowTongueModel$State", "findFunction", "(J)I"⟩, prog_15_method_4_code, 4, (some FieldType.int))
theorem d_State_findFunction_0 : decode prog_15_method_4_code 0 = .ok (.iconst 0, 1) := by decide +kernel
theorem d_State_findFunction_1 : decode prog_15_method_4_code 1 = .ok (.istore_n 3, 1) := by decide +kernel
theorem d_State_findFunction_2 : decode prog_15_method_4_code 2 = .ok (.iload_n 3, 1) := by decide +kernel
theorem d_State_findFunction_3 : decode prog_15_method_4_code 3 = .ok (.aload_n 0, 1) := by decide +kernel
theorem d_State_findFunction_4 : decode prog_15_method_4_code 4 = .ok (.getfield 71, 3) := by decide +kernel
theorem d_State_findFunction_7 : decode prog_15_method_4_code 7 = .ok (.if_icmp .ge 22, 3) := by decide +kernel
theorem d_State_findFunction_29 : decode prog_15_method_4_code 29 = .ok (.iconst (-1), 1) := by decide +kernel
theorem d_State_findFunction_30 : decode prog_15_method_4_code 30 = .ok (.ireturn, 1) := by decide +kernel
theorem d_State_findFunction_10 : decode prog_15_method_4_code 10 = .ok (.aload_n 0, 1) := by decide +kernel
theorem d_State_findFunction_11 : decode prog_15_method_4_code 11 = .ok (.getfield 25, 3) := by decide +kernel
theorem d_State_findFunction_14 : decode prog_15_method_4_code 14 = .ok (.iload_n 3, 1) := by decide +kernel
theorem d_State_findFunction_15 : decode prog_15_method_4_code 15 = .ok (.laload, 1) := by decide +kernel
theorem d_State_findFunction_16 : decode prog_15_method_4_code 16 = .ok (.lload_n 1, 1) := by decide +kernel
theorem d_State_findFunction_17 : decode prog_15_method_4_code 17 = .ok (.lcmp, 1) := by decide +kernel
theorem d_State_findFunction_18 : decode prog_15_method_4_code 18 = .ok (.ifCond .ne 5, 3) := by decide +kernel
theorem d_State_findFunction_23 : decode prog_15_method_4_code 23 = .ok (.iinc 3 1, 3) := by decide +kernel
theorem d_State_findFunction_26 : decode prog_15_method_4_code 26 = .ok (.goto (-24), 3) := by decide +kernel
theorem d_State_findFunction_21 : decode prog_15_method_4_code 21 = .ok (.iload_n 3, 1) := by decide +kernel
theorem d_State_findFunction_22 : decode prog_15_method_4_code 22 = .ok (.ireturn, 1) := by decide +kernel
abbrev m_Store_rootAt : am_M := (⟨"StowTongue$Store", "rootAt", "(J)I"⟩, prog_9_method_15_code, 4, (some FieldType.int))
theorem d_Store_rootAt_0 : decode prog_9_method_15_code 0 = .ok (.iconst 0, 1) := by decide +kernel
theorem d_Store_rootAt_1 : decode prog_9_method_15_code 1 = .ok (.istore_n 3, 1) := by decide +kernel
theorem d_Store_rootAt_2 : decode prog_9_method_15_code 2 = .ok (.iload_n 3, 1) := by decide +kernel
theorem d_Store_rootAt_3 : decode prog_9_method_15_code 3 = .ok (.aload_n 0, 1) := by decide +kernel
theorem d_Store_rootAt_4 : decode prog_9_method_15_code 4 = .ok (.getfield 47, 3) := by decide +kernel
theorem d_Store_rootAt_7 : decode prog_9_method_15_code 7 = .ok (.if_icmp .ge 22, 3) := by decide +kernel
theorem d_Store_rootAt_29 : decode prog_9_method_15_code 29 = .ok (.iconst (-1), 1) := by decide +kernel
theorem d_Store_rootAt_30 : decode prog_9_method_15_code 30 = .ok (.ireturn, 1) := by decide +kernel
theorem d_Store_rootAt_10 : decode prog_9_method_15_code 10 = .ok (.aload_n 0, 1) := by decide +kernel
theorem d_Store_rootAt_11 : decode prog_9_method_15_code 11 = .ok (.getfield 20, 3) := by decide +kernel
theorem d_Store_rootAt_14 : decode prog_9_method_15_code 14 = .ok (.iload_n 3, 1) := by decide +kernel
theorem d_Store_rootAt_15 : decode prog_9_method_15_code 15 = .ok (.laload, 1) := by decide +kernel
theorem d_Store_rootAt_16 : decode prog_9_method_15_code 16 = .ok (.lload_n 1, 1) := by decide +kernel
theorem d_Store_rootAt_17 : decode prog_9_method_15_code 17 = .ok (.lcmp, 1) := by decide +kernel
theorem d_Store_rootAt_18 : decode prog_9_method_15_code 18 = .ok (.ifCond .ne 5, 3) := by decide +kernel
theorem d_Store_rootAt_23 : decode prog_9_method_15_code 23 = .ok (.iinc 3 1, 3) := by decide +kernel
theorem d_Store_rootAt_26 : decode prog_9_method_15_code 26 = .ok (.goto (-24), 3) := by decide +kernel
theorem d_Store_rootAt_21 : decode prog_9_method_15_code 21 = .ok (.iload_n 3, 1) := by decide +kernel
theorem d_Store_rootAt_22 : decode prog_9_method_15_code 22 = .ok (.ireturn, 1) := by decide +kernel
abbrev m_Draft_localOf : am_M := (⟨"StowTongue$Draft", "localOf", "(J)I"⟩, prog_3_method_10_code, 4, (some FieldType.int))
theorem w_303 : (Cond.fieldLink "StowTongue$Draft" 27 "StowTongue$Draft" "localCount" "I" : Cond) ∈ am_tbl := am_w 303 (by decide +kernel) (by decide +kernel)
theorem f_Draft_27 : am_F "StowTongue$Draft" 27 2 5 := ⟨_, rfl, cl_2, by decide, Or.inl w_303⟩
theorem d_Draft_localOf_0 : decode prog_3_method_10_code 0 = .ok (.iconst 0, 1) := by decide +kernel
theorem d_Draft_localOf_1 : decode prog_3_method_10_code 1 = .ok (.istore_n 3, 1) := by decide +kernel
theorem d_Draft_localOf_2 : decode prog_3_method_10_code 2 = .ok (.iload_n 3, 1) := by decide +kernel
theorem d_Draft_localOf_3 : decode prog_3_method_10_code 3 = .ok (.aload_n 0, 1) := by decide +kernel
theorem d_Draft_localOf_4 : decode prog_3_method_10_code 4 = .ok (.getfield 27, 3) := by decide +kernel
theorem d_Draft_localOf_7 : decode prog_3_method_10_code 7 = .ok (.if_icmp .ge 22, 3) := by decide +kernel
theorem d_Draft_localOf_29 : decode prog_3_method_10_code 29 = .ok (.iconst (-1), 1) := by decide +kernel
theorem d_Draft_localOf_30 : decode prog_3_method_10_code 30 = .ok (.ireturn, 1) := by decide +kernel
theorem d_Draft_localOf_10 : decode prog_3_method_10_code 10 = .ok (.aload_n 0, 1) := by decide +kernel
theorem d_Draft_localOf_11 : decode prog_3_method_10_code 11 = .ok (.getfield 17, 3) := by decide +kernel
theorem d_Draft_localOf_14 : decode prog_3_method_10_code 14 = .ok (.iload_n 3, 1) := by decide +kernel
theorem d_Draft_localOf_15 : decode prog_3_method_10_code 15 = .ok (.laload, 1) := by decide +kernel
theorem d_Draft_localOf_16 : decode prog_3_method_10_code 16 = .ok (.lload_n 1, 1) := by decide +kernel
theorem d_Draft_localOf_17 : decode prog_3_method_10_code 17 = .ok (.lcmp, 1) := by decide +kernel
theorem d_Draft_localOf_18 : decode prog_3_method_10_code 18 = .ok (.ifCond .ne 5, 3) := by decide +kernel
theorem d_Draft_localOf_23 : decode prog_3_method_10_code 23 = .ok (.iinc 3 1, 3) := by decide +kernel
theorem d_Draft_localOf_26 : decode prog_3_method_10_code 26 = .ok (.goto (-24), 3) := by decide +kernel
theorem d_Draft_localOf_21 : decode prog_3_method_10_code 21 = .ok (.iload_n 3, 1) := by decide +kernel
theorem d_Draft_localOf_22 : decode prog_3_method_10_code 22 = .ok (.ireturn, 1) := by decide +kernel
