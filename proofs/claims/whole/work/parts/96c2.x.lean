section
variable {K : am_K} {X : Nat → am_C}
set_option maxRecDepth 100000 in
def x_Store_rootsChangedSince (d : Nat) (x0 : Nat) (x1 : Nat) (s : HS) : Option (Int32 × HS) := match d with
  | 0 => none
  | d + 1 => gd s x0 10 (loopK (fun (again4 : Int32 × Int32 × HS → Option (Int32 × HS)) (z4 : Int32 × Int32 × HS) => ((gI z4.2.2 x0 10 6).bind fun v1 => (if v1 ≤ z4.2.1 then (loopK (fun (again74 : Int32 × Int32 × HS → Option (Int32 × HS)) (z74 : Int32 × Int32 × HS) => ((gI z74.2.2 x1 10 6).bind fun v2 => (if v2 ≤ z74.2.1 then (some (z74.1, z74.2.2)) else ((gR z74.2.2 x1 10 3).bind fun v3 => ((aL z74.2.2 v3 z74.2.1).bind fun v4 => (bnd (x_Store_rootAt d x0 v4 z74.2.2) fun v6 s5 => (if 0 ≤ v6 then (again74 (z74.1, (z74.2.1 + 1), s5)) else (again74 ((z74.1 + 1), (z74.2.1 + 1), s5))))))))) FU (z4.1, 0, z4.2.2)) else ((gR z4.2.2 x0 10 3).bind fun v7 => ((aL z4.2.2 v7 z4.2.1).bind fun v8 => (bnd (x_Store_rootAt d x1 v8 z4.2.2) fun v10 s9 => (if v10 < 0 then (again4 ((z4.1 + 1), (z4.2.1 + 1), s9)) else ((gR s9 x1 10 4).bind fun v11 => ((aL s9 v11 v10).bind fun v12 => ((gR s9 x0 10 4).bind fun v13 => ((aL s9 v13 z4.2.1).bind fun v14 => (if (lg_cmp v12 v14) = 0 then ((gR s9 x1 10 5).bind fun v15 => ((aL s9 v15 v10).bind fun v16 => ((gR s9 x0 10 5).bind fun v17 => ((aL s9 v17 z4.2.1).bind fun v18 => (if (lg_cmp v16 v18) = 0 then (again4 (z4.1, (z4.2.1 + 1), s9)) else (again4 ((z4.1 + 1), (z4.2.1 + 1), s9))))))) else (again4 ((z4.1 + 1), (z4.2.1 + 1), s9)))))))))))))) FU (0, 0, s))

set_option maxRecDepth 100000 in
set_option maxHeartbeats 4000000 in
theorem dx_Store_rootsChangedSince (O : am_ok K X) (T : am_T K) {d : Nat} {x0 : Nat} {x1 : Nat} {s : HS} : xM cvI K X m_Store_rootsChangedSince d [.ref x0, .ref x1] s (x_Store_rootsChangedSince d x0 x1 s) := by
  cases d with
  | zero => exact xM_none
  | succ d =>
    unfold x_Store_rootsChangedSince
    refine xM_enter (by decide +kernel) (Nat.le_of_ble_eq_true rfl) ?_
    refine xW_gd (fun _ => ?_)
    refine xW_pure (fun _ _ _ _ _ => am_iconst (v := 0) d_Store_rootsChangedSince_0 (by decide)) ?_
    refine xW_pure (fun _ _ _ _ _ => am_istore_n d_Store_rootsChangedSince_1 rfl (Nat.le_of_ble_eq_true rfl)) ?_
    refine xW_pure (fun _ _ _ _ _ => am_iconst (v := 0) d_Store_rootsChangedSince_2 (by decide)) ?_
    refine xW_pure (fun _ _ _ _ _ => am_istore_n d_Store_rootsChangedSince_3 rfl (Nat.le_of_ble_eq_true rfl)) ?_
    refine xW_locs (lv' := [(0, .ref x0), (1, .ref x1), (2, .int 0), (3, .int 0)]) rfl ?_
    refine xW_loop (lvf := fun (z4 : Int32 × Int32 × HS) => [(0, .ref x0), (1, .ref x1), (2, .int z4.1), (3, .int z4.2.1)]) (hsf := fun (z4 : Int32 × Int32 × HS) => z4.2.2) (fun again4 ih4 z4 => ?_) FU (0, 0, s)
    refine xW_pure (fun _ _ _ _ _ => am_iload_n d_Store_rootsChangedSince_4 rfl rfl) ?_
    refine xW_pure (fun _ _ _ _ _ => am_aload_n d_Store_rootsChangedSince_5 rfl rfl) ?_
    refine xW_gI O f_Store_47 d_Store_rootsChangedSince_6 (fun v1 _ => ?_)
    refine xW_ite (fun _ _ _ _ _ => am_icmp_ge (tgt := 72) d_Store_rootsChangedSince_9 (by decide)) (fun _ => ?_) (fun _ => ?_)
    · refine xW_pure (fun _ _ _ _ _ => am_iconst (v := 0) d_Store_rootsChangedSince_72 (by decide)) ?_
      refine xW_pure (fun _ _ _ _ _ => am_istore_n d_Store_rootsChangedSince_73 rfl (Nat.le_of_ble_eq_true rfl)) ?_
      refine xW_locs (lv' := [(0, .ref x0), (1, .ref x1), (2, .int z4.1), (3, .int 0)]) rfl ?_
      refine xW_loop (lvf := fun (z74 : Int32 × Int32 × HS) => [(0, .ref x0), (1, .ref x1), (2, .int z74.1), (3, .int z74.2.1)]) (hsf := fun (z74 : Int32 × Int32 × HS) => z74.2.2) (fun again74 ih74 z74 => ?_) FU (z4.1, 0, z4.2.2)
      refine xW_pure (fun _ _ _ _ _ => am_iload_n d_Store_rootsChangedSince_74 rfl rfl) ?_
      refine xW_pure (fun _ _ _ _ _ => am_aload_n d_Store_rootsChangedSince_75 rfl rfl) ?_
      refine xW_gI O f_Store_47 d_Store_rootsChangedSince_76 (fun v2 _ => ?_)
      refine xW_ite (fun _ _ _ _ _ => am_icmp_ge (tgt := 104) d_Store_rootsChangedSince_79 (by decide)) (fun _ => ?_) (fun _ => ?_)
      · refine xW_pure (fun _ _ _ _ _ => am_iload_n d_Store_rootsChangedSince_104 rfl rfl) ?_
        exact xW_ret (fun _ _ _ _ _ => am_iret rfl d_Store_rootsChangedSince_105)
      · refine xW_pure (fun _ _ _ _ _ => am_aload_n d_Store_rootsChangedSince_82 rfl rfl) ?_
        refine xW_pure (fun _ _ _ _ _ => am_aload_n d_Store_rootsChangedSince_83 rfl rfl) ?_
        refine xW_gR O f_Store_20 d_Store_rootsChangedSince_84 (fun v3 _ => ?_)
        refine xW_pure (fun _ _ _ _ _ => am_iload_n d_Store_rootsChangedSince_87 rfl rfl) ?_
        refine xW_aL O d_Store_rootsChangedSince_88 (fun v4 _ => ?_)
        refine xW_callV O (dx_Store_rootAt O T) (fun _ e => ob_Store_rootAt e) rfl rfl rfl l_Store_83 ⟨w_1190, w_1191⟩ rfl (Nat.le_of_ble_eq_true rfl) d_Store_rootsChangedSince_89 (fun v6 s5 _ => ?_)
        refine xW_ite (fun _ _ _ _ _ => am_if_ge (tgt := 98) d_Store_rootsChangedSince_92 (by decide)) (fun _ => ?_) (fun _ => ?_)
        · refine xW_pure (fun _ _ _ _ _ => am_iinc (v := 1) d_Store_rootsChangedSince_98 rfl (by decide) (Nat.le_of_ble_eq_true rfl)) ?_
          refine xW_pure (fun _ _ _ _ _ => am_goto (tgt := 74) d_Store_rootsChangedSince_101 (by decide)) ?_
          refine xW_locs (lv' := [(0, .ref x0), (1, .ref x1), (2, .int z74.1), (3, .int (z74.2.1 + 1))]) rfl ?_
          exact ih74 (z74.1, (z74.2.1 + 1), s5)
        · refine xW_pure (fun _ _ _ _ _ => am_iinc (v := 1) d_Store_rootsChangedSince_95 rfl (by decide) (Nat.le_of_ble_eq_true rfl)) ?_
          refine xW_pure (fun _ _ _ _ _ => am_iinc (v := 1) d_Store_rootsChangedSince_98 rfl (by decide) (Nat.le_of_ble_eq_true rfl)) ?_
          refine xW_pure (fun _ _ _ _ _ => am_goto (tgt := 74) d_Store_rootsChangedSince_101 (by decide)) ?_
          refine xW_locs (lv' := [(0, .ref x0), (1, .ref x1), (2, .int (z74.1 + 1)), (3, .int (z74.2.1 + 1))]) rfl ?_
          exact ih74 ((z74.1 + 1), (z74.2.1 + 1), s5)
    · refine xW_pure (fun _ _ _ _ _ => am_aload_n d_Store_rootsChangedSince_12 rfl rfl) ?_
      refine xW_pure (fun _ _ _ _ _ => am_aload_n d_Store_rootsChangedSince_13 rfl rfl) ?_
      refine xW_gR O f_Store_20 d_Store_rootsChangedSince_14 (fun v7 _ => ?_)
      refine xW_pure (fun _ _ _ _ _ => am_iload_n d_Store_rootsChangedSince_17 rfl rfl) ?_
      refine xW_aL O d_Store_rootsChangedSince_18 (fun v8 _ => ?_)
      refine xW_callV O (dx_Store_rootAt O T) (fun _ e => ob_Store_rootAt e) rfl rfl rfl l_Store_83 ⟨w_1190, w_1191⟩ rfl (Nat.le_of_ble_eq_true rfl) d_Store_rootsChangedSince_19 (fun v10 s9 _ => ?_)
      refine xW_pure (fun _ _ _ _ _ => am_istore d_Store_rootsChangedSince_22 (Nat.le_of_ble_eq_true rfl)) ?_
      refine xW_pure (fun _ _ _ _ _ => am_iload d_Store_rootsChangedSince_24 rfl) ?_
      refine xW_ite (fun _ _ _ _ _ => am_if_lt (tgt := 63) d_Store_rootsChangedSince_26 (by decide)) (fun _ => ?_) (fun _ => ?_)
      · refine xW_pure (fun _ _ _ _ _ => am_iinc (v := 1) d_Store_rootsChangedSince_63 rfl (by decide) (Nat.le_of_ble_eq_true rfl)) ?_
        refine xW_pure (fun _ _ _ _ _ => am_iinc (v := 1) d_Store_rootsChangedSince_66 rfl (by decide) (Nat.le_of_ble_eq_true rfl)) ?_
        refine xW_pure (fun _ _ _ _ _ => am_goto (tgt := 4) d_Store_rootsChangedSince_69 (by decide)) ?_
        refine xW_locs (lv' := [(0, .ref x0), (1, .ref x1), (2, .int (z4.1 + 1)), (3, .int (z4.2.1 + 1))]) rfl ?_
        exact ih4 ((z4.1 + 1), (z4.2.1 + 1), s9)
      · refine xW_pure (fun _ _ _ _ _ => am_aload_n d_Store_rootsChangedSince_29 rfl rfl) ?_
        refine xW_gR O f_Store_23 d_Store_rootsChangedSince_30 (fun v11 _ => ?_)
        refine xW_pure (fun _ _ _ _ _ => am_iload d_Store_rootsChangedSince_33 rfl) ?_
        refine xW_aL O d_Store_rootsChangedSince_35 (fun v12 _ => ?_)
        refine xW_pure (fun _ _ _ _ _ => am_aload_n d_Store_rootsChangedSince_36 rfl rfl) ?_
        refine xW_gR O f_Store_23 d_Store_rootsChangedSince_37 (fun v13 _ => ?_)
        refine xW_pure (fun _ _ _ _ _ => am_iload_n d_Store_rootsChangedSince_40 rfl rfl) ?_
        refine xW_aL O d_Store_rootsChangedSince_41 (fun v14 _ => ?_)
        refine xW_pure (fun _ _ _ _ _ => am_lcmp d_Store_rootsChangedSince_42) ?_
        refine xW_ite (fun _ _ _ _ _ k1 k2 => am_if_ne (tgt := 63) d_Store_rootsChangedSince_43 (by decide) k2 k1) (fun _ => ?_) (fun _ => ?_)
        · refine xW_pure (fun _ _ _ _ _ => am_aload_n d_Store_rootsChangedSince_46 rfl rfl) ?_
          refine xW_gR O f_Store_26 d_Store_rootsChangedSince_47 (fun v15 _ => ?_)
          refine xW_pure (fun _ _ _ _ _ => am_iload d_Store_rootsChangedSince_50 rfl) ?_
          refine xW_aL O d_Store_rootsChangedSince_52 (fun v16 _ => ?_)
          refine xW_pure (fun _ _ _ _ _ => am_aload_n d_Store_rootsChangedSince_53 rfl rfl) ?_
          refine xW_gR O f_Store_26 d_Store_rootsChangedSince_54 (fun v17 _ => ?_)
          refine xW_pure (fun _ _ _ _ _ => am_iload_n d_Store_rootsChangedSince_57 rfl rfl) ?_
          refine xW_aL O d_Store_rootsChangedSince_58 (fun v18 _ => ?_)
          refine xW_pure (fun _ _ _ _ _ => am_lcmp d_Store_rootsChangedSince_59) ?_
          refine xW_ite (fun _ _ _ _ _ => am_if_eq (tgt := 66) d_Store_rootsChangedSince_60 (by decide)) (fun _ => ?_) (fun _ => ?_)
          · refine xW_pure (fun _ _ _ _ _ => am_iinc (v := 1) d_Store_rootsChangedSince_66 rfl (by decide) (Nat.le_of_ble_eq_true rfl)) ?_
            refine xW_pure (fun _ _ _ _ _ => am_goto (tgt := 4) d_Store_rootsChangedSince_69 (by decide)) ?_
            refine xW_locs (lv' := [(0, .ref x0), (1, .ref x1), (2, .int z4.1), (3, .int (z4.2.1 + 1))]) rfl ?_
            exact ih4 (z4.1, (z4.2.1 + 1), s9)
          · refine xW_pure (fun _ _ _ _ _ => am_iinc (v := 1) d_Store_rootsChangedSince_63 rfl (by decide) (Nat.le_of_ble_eq_true rfl)) ?_
            refine xW_pure (fun _ _ _ _ _ => am_iinc (v := 1) d_Store_rootsChangedSince_66 rfl (by decide) (Nat.le_of_ble_eq_true rfl)) ?_
            refine xW_pure (fun _ _ _ _ _ => am_goto (tgt := 4) d_Store_rootsChangedSince_69 (by decide)) ?_
            refine xW_locs (lv' := [(0, .ref x0), (1, .ref x1), (2, .int (z4.1 + 1)), (3, .int (z4.2.1 + 1))]) rfl ?_
            exact ih4 ((z4.1 + 1), (z4.2.1 + 1), s9)
        · refine xW_pure (fun _ _ _ _ _ => am_iinc (v := 1) d_Store_rootsChangedSince_63 rfl (by decide) (Nat.le_of_ble_eq_true rfl)) ?_
          refine xW_pure (fun _ _ _ _ _ => am_iinc (v := 1) d_Store_rootsChangedSince_66 rfl (by decide) (Nat.le_of_ble_eq_true rfl)) ?_
          refine xW_pure (fun _ _ _ _ _ => am_goto (tgt := 4) d_Store_rootsChangedSince_69 (by decide)) ?_
          refine xW_locs (lv' := [(0, .ref x0), (1, .ref x1), (2, .int (z4.1 + 1)), (3, .int (z4.2.1 + 1))]) rfl ?_
          exact ih4 ((z4.1 + 1), (z4.2.1 + 1), s9)

theorem ob_Store_rootsChangedSince {d : Nat} {x0 : Nat} {x1 : Nat} {s : HS} {y : Int32 × HS} (h : x_Store_rootsChangedSince d x0 x1 s = some y) : isO s x0 10 = true := by
  cases d with
  | zero => cases h
  | succ d => exact (gd_spec h).1

set_option maxRecDepth 100000 in
def x_Log_settleOldest (d : Nat) (x0 : Nat) (s : HS) : Option (Unit × HS) := gd s x0 7 ((gR s x0 7 0).bind fun v1 => ((aR "StowTongue$Store" s v1 0).bind fun v2 => ((gI s x0 7 3).bind fun v3 => ((gR s x0 7 1).bind fun v4 => ((aI s v4 1).bind fun v5 => ((pV s x0 7 3 (.int (v3 + v5))).bind fun s6 => (loopK (fun (again24 : Int32 × HS → Option (Unit × HS)) (z24 : Int32 × HS) => (if 10 ≤ (z24.1 + 1) then ((gR z24.2 x0 7 0).bind fun v7 => ((sR "StowTongue$Store" 10 z24.2 v7 9 v2).bind fun s8 => ((gI s8 x0 7 2).bind fun v9 => ((pV s8 x0 7 2 (.int (v9 - 1))).bind fun s10 => (some ((), s10)))))) else ((gR z24.2 x0 7 0).bind fun v11 => ((gR z24.2 x0 7 0).bind fun v12 => ((aN "StowTongue$Store" z24.2 v12 (z24.1 + 1)).bind fun y => y.elim ((sV z24.2 (.object "StowTongue$Store") v11 z24.1 .null).bind fun s14 => ((gR s14 x0 7 1).bind fun v15 => ((gR s14 x0 7 1).bind fun v16 => ((aI s14 v16 (z24.1 + 1)).bind fun v17 => ((sV s14 .int v15 z24.1 (.int v17)).bind fun s18 => (again24 ((z24.1 + 1), s18))))))) (fun v13 => (sR "StowTongue$Store" 10 z24.2 v11 z24.1 v13).bind fun s19 => ((gR s19 x0 7 1).bind fun v20 => ((gR s19 x0 7 1).bind fun v21 => ((aI s19 v21 (z24.1 + 1)).bind fun v22 => ((sV s19 .int v20 z24.1 (.int v22)).bind fun s23 => (again24 ((z24.1 + 1), s23)))))))))))) FU (0, s6))))))))

set_option maxRecDepth 100000 in
set_option maxHeartbeats 4000000 in
theorem dx_Log_settleOldest (O : am_ok K X) (T : am_T K) {d : Nat} {x0 : Nat} {s : HS} : xM cvU K X m_Log_settleOldest d [.ref x0] s (x_Log_settleOldest d x0 s) := by
  unfold x_Log_settleOldest
  refine xM_enter (by decide +kernel) (Nat.le_of_ble_eq_true rfl) ?_
  refine xW_gd (fun _ => ?_)
  refine xW_pure (fun _ _ _ _ _ => am_aload_n d_Log_settleOldest_0 rfl rfl) ?_
  refine xW_gR O f_Log_11 d_Log_settleOldest_1 (fun v1 _ => ?_)
  refine xW_pure (fun _ _ _ _ _ => am_iconst (v := 0) d_Log_settleOldest_4 (by decide)) ?_
  refine xW_aR O (by decide) d_Log_settleOldest_5 (fun v2 _ => ?_)
  refine xW_pure (fun _ _ _ _ _ => am_astore_n d_Log_settleOldest_6 rfl (Nat.le_of_ble_eq_true rfl)) ?_
  refine xW_pure (fun _ _ _ _ _ => am_aload_n d_Log_settleOldest_7 rfl rfl) ?_
  refine xW_pure (fun _ _ _ _ _ => am_dup d_Log_settleOldest_8 rfl) ?_
  refine xW_gI O f_Log_50 d_Log_settleOldest_9 (fun v3 _ => ?_)
  refine xW_pure (fun _ _ _ _ _ => am_aload_n d_Log_settleOldest_12 rfl rfl) ?_
  refine xW_gR O f_Log_15 d_Log_settleOldest_13 (fun v4 _ => ?_)
  refine xW_pure (fun _ _ _ _ _ => am_iconst (v := 1) d_Log_settleOldest_16 (by decide)) ?_
  refine xW_aI O d_Log_settleOldest_17 (fun v5 _ => ?_)
  refine xW_pure (fun _ _ _ _ _ => am_iadd d_Log_settleOldest_18) ?_
  refine xW_put O f_Log_50 d_Log_settleOldest_19 (fun q hq => by cases hq; exact ⟨rfl, rfl, rfl⟩) (fun s6 _ => ?_)
  refine xW_pure (fun _ _ _ _ _ => am_iconst (v := 0) d_Log_settleOldest_22 (by decide)) ?_
  refine xW_pure (fun _ _ _ _ _ => am_istore_n d_Log_settleOldest_23 rfl (Nat.le_of_ble_eq_true rfl)) ?_
  refine xW_locs (lv' := [(0, .ref x0), (1, .ref v2), (2, .int 0)]) rfl ?_
  refine xW_loop (lvf := fun (z24 : Int32 × HS) => [(0, .ref x0), (1, .ref v2), (2, .int z24.1)]) (hsf := fun (z24 : Int32 × HS) => z24.2) (fun again24 ih24 z24 => ?_) FU (0, s6)
  refine xW_pure (fun _ _ _ _ _ => am_iload_n d_Log_settleOldest_24 rfl rfl) ?_
  refine xW_pure (fun _ _ _ _ _ => am_iconst (v := 1) d_Log_settleOldest_25 (by decide)) ?_
  refine xW_pure (fun _ _ _ _ _ => am_iadd d_Log_settleOldest_26) ?_
  refine xW_pure (fun _ _ _ _ _ => am_bipush (v := 10) d_Log_settleOldest_27 (by decide)) ?_
  refine xW_ite (fun _ _ _ _ _ => am_icmp_ge (tgt := 66) d_Log_settleOldest_29 (by decide)) (fun _ => ?_) (fun _ => ?_)
  · refine xW_pure (fun _ _ _ _ _ => am_aload_n d_Log_settleOldest_66 rfl rfl) ?_
    refine xW_gR O f_Log_11 d_Log_settleOldest_67 (fun v7 _ => ?_)
    refine xW_pure (fun _ _ _ _ _ => am_bipush (v := 9) d_Log_settleOldest_70 (by decide)) ?_
    refine xW_pure (fun _ _ _ _ _ => am_aload_n d_Log_settleOldest_72 rfl rfl) ?_
    refine xW_sR O (ci := 10) (by rfl) (by rfl) (by decide) d_Log_settleOldest_73 (fun s8 _ => ?_)
    refine xW_pure (fun _ _ _ _ _ => am_aload_n d_Log_settleOldest_74 rfl rfl) ?_
    refine xW_pure (fun _ _ _ _ _ => am_dup d_Log_settleOldest_75 rfl) ?_
    refine xW_gI O f_Log_27 d_Log_settleOldest_76 (fun v9 _ => ?_)
    refine xW_pure (fun _ _ _ _ _ => am_iconst (v := 1) d_Log_settleOldest_79 (by decide)) ?_
    refine xW_pure (fun _ _ _ _ _ => am_isub d_Log_settleOldest_80) ?_
    refine xW_put O f_Log_27 d_Log_settleOldest_81 (fun q hq => by cases hq; exact ⟨rfl, rfl, rfl⟩) (fun s10 _ => ?_)
    exact xW_ret (fun _ _ _ _ _ => am_vret rfl d_Log_settleOldest_84)
  · refine xW_pure (fun _ _ _ _ _ => am_aload_n d_Log_settleOldest_32 rfl rfl) ?_
    refine xW_gR O f_Log_11 d_Log_settleOldest_33 (fun v11 _ => ?_)
    refine xW_pure (fun _ _ _ _ _ => am_iload_n d_Log_settleOldest_36 rfl rfl) ?_
    refine xW_pure (fun _ _ _ _ _ => am_aload_n d_Log_settleOldest_37 rfl rfl) ?_
    refine xW_gR O f_Log_11 d_Log_settleOldest_38 (fun v12 _ => ?_)
    refine xW_pure (fun _ _ _ _ _ => am_iload_n d_Log_settleOldest_41 rfl rfl) ?_
    refine xW_pure (fun _ _ _ _ _ => am_iconst (v := 1) d_Log_settleOldest_42 (by decide)) ?_
    refine xW_pure (fun _ _ _ _ _ => am_iadd d_Log_settleOldest_43) ?_
    refine xW_aN O (by decide) d_Log_settleOldest_44 (fun _ => ?_) (fun v13 _ => ?_)
    · refine xW_sN O (by decide) d_Log_settleOldest_45 (fun s14 _ => ?_)
      refine xW_pure (fun _ _ _ _ _ => am_aload_n d_Log_settleOldest_46 rfl rfl) ?_
      refine xW_gR O f_Log_15 d_Log_settleOldest_47 (fun v15 _ => ?_)
      refine xW_pure (fun _ _ _ _ _ => am_iload_n d_Log_settleOldest_50 rfl rfl) ?_
      refine xW_pure (fun _ _ _ _ _ => am_aload_n d_Log_settleOldest_51 rfl rfl) ?_
      refine xW_gR O f_Log_15 d_Log_settleOldest_52 (fun v16 _ => ?_)
      refine xW_pure (fun _ _ _ _ _ => am_iload_n d_Log_settleOldest_55 rfl rfl) ?_
      refine xW_pure (fun _ _ _ _ _ => am_iconst (v := 1) d_Log_settleOldest_56 (by decide)) ?_
      refine xW_pure (fun _ _ _ _ _ => am_iadd d_Log_settleOldest_57) ?_
      refine xW_aI O d_Log_settleOldest_58 (fun v17 _ => ?_)
      refine xW_sI O d_Log_settleOldest_59 (fun s18 _ => ?_)
      refine xW_pure (fun _ _ _ _ _ => am_iinc (v := 1) d_Log_settleOldest_60 rfl (by decide) (Nat.le_of_ble_eq_true rfl)) ?_
      refine xW_pure (fun _ _ _ _ _ => am_goto (tgt := 24) d_Log_settleOldest_63 (by decide)) ?_
      refine xW_locs (lv' := [(0, .ref x0), (1, .ref v2), (2, .int (z24.1 + 1))]) rfl ?_
      exact ih24 ((z24.1 + 1), s18)
    · refine xW_sR O (ci := 10) (by rfl) (by rfl) (by decide) d_Log_settleOldest_45 (fun s19 _ => ?_)
      refine xW_pure (fun _ _ _ _ _ => am_aload_n d_Log_settleOldest_46 rfl rfl) ?_
      refine xW_gR O f_Log_15 d_Log_settleOldest_47 (fun v20 _ => ?_)
      refine xW_pure (fun _ _ _ _ _ => am_iload_n d_Log_settleOldest_50 rfl rfl) ?_
      refine xW_pure (fun _ _ _ _ _ => am_aload_n d_Log_settleOldest_51 rfl rfl) ?_
      refine xW_gR O f_Log_15 d_Log_settleOldest_52 (fun v21 _ => ?_)
      refine xW_pure (fun _ _ _ _ _ => am_iload_n d_Log_settleOldest_55 rfl rfl) ?_
      refine xW_pure (fun _ _ _ _ _ => am_iconst (v := 1) d_Log_settleOldest_56 (by decide)) ?_
      refine xW_pure (fun _ _ _ _ _ => am_iadd d_Log_settleOldest_57) ?_
      refine xW_aI O d_Log_settleOldest_58 (fun v22 _ => ?_)
      refine xW_sI O d_Log_settleOldest_59 (fun s23 _ => ?_)
      refine xW_pure (fun _ _ _ _ _ => am_iinc (v := 1) d_Log_settleOldest_60 rfl (by decide) (Nat.le_of_ble_eq_true rfl)) ?_
      refine xW_pure (fun _ _ _ _ _ => am_goto (tgt := 24) d_Log_settleOldest_63 (by decide)) ?_
      refine xW_locs (lv' := [(0, .ref x0), (1, .ref v2), (2, .int (z24.1 + 1))]) rfl ?_
      exact ih24 ((z24.1 + 1), s23)

theorem ob_Log_settleOldest {d : Nat} {x0 : Nat} {s : HS} {y : Unit × HS} (h : x_Log_settleOldest d x0 s = some y) : isO s x0 7 = true := (gd_spec h).1

set_option maxRecDepth 100000 in
def x_Stow_asAnswer (d : Nat) (x1 : Int64) (x2 : Int64) (s : HS) : Option (Int64 × HS) := match d with
  | 0 => none
  | d + 1 => bnd (x_Cell_sortOf d x1 s) fun v2 s1 => (if v2 = 1 then (some (x2, s1)) else (if v2 = 2 then (some (1099511627777, s1)) else (if v2 = 3 then (some (1099511627778, s1)) else (if v2 = 4 then (some (1099511627779, s1)) else (some (1099511627776, s1))))))

set_option maxRecDepth 100000 in
set_option maxHeartbeats 4000000 in
theorem dx_Stow_asAnswer (O : am_ok K X) (T : am_T K) {d : Nat} {x1 : Int64} {x2 : Int64} {s : HS} : xM cvL K X m_Stow_asAnswer d [.long x1, .long x2] s (x_Stow_asAnswer d x1 x2 s) := by
  cases d with
  | zero => exact xM_none
  | succ d =>
    unfold x_Stow_asAnswer
    refine xM_enter (by decide +kernel) (Nat.le_of_ble_eq_true rfl) ?_
    refine xW_pure (fun _ _ _ _ _ => am_lload_n d_Stow_asAnswer_0 rfl rfl) ?_
    refine xW_callS O (dx_Cell_sortOf O T) rfl l_Stow_116 w_1104 rfl (Nat.le_of_ble_eq_true rfl) d_Stow_asAnswer_1 (fun v2 s1 _ => ?_)
    refine xW_by (fun c4_0 => ?_) (fun c4_0 => ?_)
    · refine xW_pure (fun _ _ _ _ _ => am_tableIn (off := 32) (tgt := 36) d_Stow_asAnswer_4 (by rw [c4_0]; decide) (by rw [c4_0]; decide) (by rw [c4_0]; rfl) (by decide)) ?_
      refine xW_pure (fun _ _ _ _ _ => am_lload_n d_Stow_asAnswer_36 rfl rfl) ?_
      exact xW_ret (fun _ _ _ _ _ => am_lret rfl d_Stow_asAnswer_37)
    · refine xW_by (fun c4_1 => ?_) (fun c4_1 => ?_)
      · refine xW_pure (fun _ _ _ _ _ => am_tableIn (off := 34) (tgt := 38) d_Stow_asAnswer_4 (by rw [c4_1]; decide) (by rw [c4_1]; decide) (by rw [c4_1]; rfl) (by decide)) ?_
        refine xW_pure (fun _ _ _ _ _ => am_ldc2 (v := 1099511627777) w_1379 d_Stow_asAnswer_38) ?_
        exact xW_ret (fun _ _ _ _ _ => am_lret rfl d_Stow_asAnswer_41)
      · refine xW_by (fun c4_2 => ?_) (fun c4_2 => ?_)
        · refine xW_pure (fun _ _ _ _ _ => am_tableIn (off := 38) (tgt := 42) d_Stow_asAnswer_4 (by rw [c4_2]; decide) (by rw [c4_2]; decide) (by rw [c4_2]; rfl) (by decide)) ?_
          refine xW_pure (fun _ _ _ _ _ => am_ldc2 (v := 1099511627778) w_1380 d_Stow_asAnswer_42) ?_
          exact xW_ret (fun _ _ _ _ _ => am_lret rfl d_Stow_asAnswer_45)
        · refine xW_by (fun c4_3 => ?_) (fun c4_3 => ?_)
          · refine xW_pure (fun _ _ _ _ _ => am_tableIn (off := 42) (tgt := 46) d_Stow_asAnswer_4 (by rw [c4_3]; decide) (by rw [c4_3]; decide) (by rw [c4_3]; rfl) (by decide)) ?_
            refine xW_pure (fun _ _ _ _ _ => am_ldc2 (v := 1099511627779) w_1381 d_Stow_asAnswer_46) ?_
            exact xW_ret (fun _ _ _ _ _ => am_lret rfl d_Stow_asAnswer_49)
          · have e4_0 := lk_ne c4_0 (show (1 : Int32).toInt = 1 by decide)
            have e4_1 := lk_ne c4_1 (show (2 : Int32).toInt = 2 by decide)
            have e4_2 := lk_ne c4_2 (show (3 : Int32).toInt = 3 by decide)
            have e4_3 := lk_ne c4_3 (show (4 : Int32).toInt = 4 by decide)
            refine xW_pure (fun _ _ _ _ _ => am_tableOut (tgt := 50) d_Stow_asAnswer_4 (by omega) (by decide)) ?_
            refine xW_pure (fun _ _ _ _ _ => am_ldc2 (v := 1099511627776) w_1382 d_Stow_asAnswer_50) ?_
            exact xW_ret (fun _ _ _ _ _ => am_lret rfl d_Stow_asAnswer_53)

set_option maxRecDepth 100000 in
def x_Out_size (d : Nat) (x0 : Nat) (s : HS) : Option (Int32 × HS) := gd s x0 0 ((gI s x0 0 1).bind fun v1 => (some (v1, s)))

set_option maxRecDepth 100000 in
set_option maxHeartbeats 4000000 in
theorem dx_Out_size (O : am_ok K X) (T : am_T K) {d : Nat} {x0 : Nat} {s : HS} : xM cvI K X m_Out_size d [.ref x0] s (x_Out_size d x0 s) := by
  unfold x_Out_size
  refine xM_enter (by decide +kernel) (Nat.le_of_ble_eq_true rfl) ?_
  refine xW_gd (fun _ => ?_)
  refine xW_pure (fun _ _ _ _ _ => am_aload_n d_Out_size_0 rfl rfl) ?_
  refine xW_gI O f_Out_15 d_Out_size_1 (fun v1 _ => ?_)
  exact xW_ret (fun _ _ _ _ _ => am_iret rfl d_Out_size_4)

theorem ob_Out_size {d : Nat} {x0 : Nat} {s : HS} {y : Int32 × HS} (h : x_Out_size d x0 s = some y) : isO s x0 0 = true := (gd_spec h).1

set_option maxRecDepth 100000 in
def x_Out_byteAt (d : Nat) (x0 : Nat) (x1 : Int32) (s : HS) : Option (Int32 × HS) := gd s x0 0 (if x1 < 0 then (some ((-2), s)) else ((gI s x0 0 1).bind fun v1 => (if v1 ≤ x1 then (some ((-2), s)) else ((gR s x0 0 0).bind fun v2 => ((aB s v2 x1).bind fun v3 => (some (v3, s)))))))

set_option maxRecDepth 100000 in
set_option maxHeartbeats 4000000 in
theorem dx_Out_byteAt (O : am_ok K X) (T : am_T K) {d : Nat} {x0 : Nat} {x1 : Int32} {s : HS} : xM cvI K X m_Out_byteAt d [.ref x0, .int x1] s (x_Out_byteAt d x0 x1 s) := by
  unfold x_Out_byteAt
  refine xM_enter (by decide +kernel) (Nat.le_of_ble_eq_true rfl) ?_
  refine xW_gd (fun _ => ?_)
  refine xW_pure (fun _ _ _ _ _ => am_iload_n d_Out_byteAt_0 rfl rfl) ?_
  refine xW_ite (fun _ _ _ _ _ => am_if_lt (tgt := 21) d_Out_byteAt_1 (by decide)) (fun _ => ?_) (fun _ => ?_)
  · refine xW_pure (fun _ _ _ _ _ => am_bipush (v := (-2)) d_Out_byteAt_21 (by decide)) ?_
    exact xW_ret (fun _ _ _ _ _ => am_iret rfl d_Out_byteAt_23)
  · refine xW_pure (fun _ _ _ _ _ => am_iload_n d_Out_byteAt_4 rfl rfl) ?_
    refine xW_pure (fun _ _ _ _ _ => am_aload_n d_Out_byteAt_5 rfl rfl) ?_
    refine xW_gI O f_Out_15 d_Out_byteAt_6 (fun v1 _ => ?_)
    refine xW_ite (fun _ _ _ _ _ => am_icmp_ge (tgt := 21) d_Out_byteAt_9 (by decide)) (fun _ => ?_) (fun _ => ?_)
    · refine xW_pure (fun _ _ _ _ _ => am_bipush (v := (-2)) d_Out_byteAt_21 (by decide)) ?_
      exact xW_ret (fun _ _ _ _ _ => am_iret rfl d_Out_byteAt_23)
    · refine xW_pure (fun _ _ _ _ _ => am_aload_n d_Out_byteAt_12 rfl rfl) ?_
      refine xW_gR O f_Out_11 d_Out_byteAt_13 (fun v2 _ => ?_)
      refine xW_pure (fun _ _ _ _ _ => am_iload_n d_Out_byteAt_16 rfl rfl) ?_
      refine xW_aB O d_Out_byteAt_17 (fun v3 _ => ?_)
      refine xW_pure (fun _ _ _ _ _ => am_goto (tgt := 23) d_Out_byteAt_18 (by decide)) ?_
      exact xW_ret (fun _ _ _ _ _ => am_iret rfl d_Out_byteAt_23)

theorem ob_Out_byteAt {d : Nat} {x0 : Nat} {x1 : Int32} {s : HS} {y : Int32 × HS} (h : x_Out_byteAt d x0 x1 s = some y) : isO s x0 0 = true := (gd_spec h).1

set_option maxRecDepth 100000 in
def x_Lexer_wholeName (d : Nat) (x1 : Nat) (x2 : Int32) (s : HS) : Option (Int64 × HS) := match d with
  | 0 => none
  | d + 1 => if x2 < 1 then (some (0, s)) else (if 8 < x2 then (some (0, s)) else ((lenA s x1).bind fun v1 => (if v1 < x2 then (some (0, s)) else ((aB s x1 0).bind fun v2 => (bnd (x_Lexer_isLetter d v2 s) fun v4 s3 => (if v4 = 0 then (some (0, s3)) else (loopK (fun (again33 : Int64 × Int32 × HS → Option (Int64 × HS)) (z33 : Int64 × Int32 × HS) => (if x2 ≤ z33.2.1 then (some (z33.1, z33.2.2)) else ((aB z33.2.2 x1 z33.2.1).bind fun v5 => (bnd (x_Lexer_isLetter d v5 z33.2.2) fun v7 s6 => (if v7 = 0 then ((aB s6 x1 z33.2.1).bind fun v8 => (bnd (x_Lexer_isDigit d v8 s6) fun v10 s9 => (if v10 = 0 then (some (0, s9)) else ((aB s9 x1 z33.2.1).bind fun v11 => (bnd (x_Cell_placed d v11 z33.2.1 s9) fun v13 s12 => (again33 ((z33.1 ||| v13), (z33.2.1 + 1), s12))))))) else ((aB s6 x1 z33.2.1).bind fun v14 => (bnd (x_Cell_placed d v14 z33.2.1 s6) fun v16 s15 => (again33 ((z33.1 ||| v16), (z33.2.1 + 1), s15))))))))) FU (0, 0, s3))))))))

set_option maxRecDepth 100000 in
set_option maxHeartbeats 4000000 in
theorem dx_Lexer_wholeName (O : am_ok K X) (T : am_T K) {d : Nat} {x1 : Nat} {x2 : Int32} {s : HS} : xM cvL K X m_Lexer_wholeName d [.ref x1, .int x2] s (x_Lexer_wholeName d x1 x2 s) := by
  cases d with
  | zero => exact xM_none
  | succ d =>
    unfold x_Lexer_wholeName
    refine xM_enter (by decide +kernel) (Nat.le_of_ble_eq_true rfl) ?_
    refine xW_pure (fun _ _ _ _ _ => am_iload_n d_Lexer_wholeName_0 rfl rfl) ?_
    refine xW_pure (fun _ _ _ _ _ => am_iconst (v := 1) d_Lexer_wholeName_1 (by decide)) ?_
    refine xW_ite (fun _ _ _ _ _ => am_icmp_lt (tgt := 26) d_Lexer_wholeName_2 (by decide)) (fun _ => ?_) (fun _ => ?_)
    · refine xW_pure (fun _ _ _ _ _ => am_lconst (v := 0) d_Lexer_wholeName_26 (by decide)) ?_
      exact xW_ret (fun _ _ _ _ _ => am_lret rfl d_Lexer_wholeName_27)
    · refine xW_pure (fun _ _ _ _ _ => am_iload_n d_Lexer_wholeName_5 rfl rfl) ?_
      refine xW_pure (fun _ _ _ _ _ => am_bipush (v := 8) d_Lexer_wholeName_6 (by decide)) ?_
      refine xW_ite (fun _ _ _ _ _ => am_icmp_gt (tgt := 26) d_Lexer_wholeName_8 (by decide)) (fun _ => ?_) (fun _ => ?_)
      · refine xW_pure (fun _ _ _ _ _ => am_lconst (v := 0) d_Lexer_wholeName_26 (by decide)) ?_
        exact xW_ret (fun _ _ _ _ _ => am_lret rfl d_Lexer_wholeName_27)
      · refine xW_pure (fun _ _ _ _ _ => am_iload_n d_Lexer_wholeName_11 rfl rfl) ?_
        refine xW_pure (fun _ _ _ _ _ => am_aload_n d_Lexer_wholeName_12 rfl rfl) ?_
        refine xW_len O d_Lexer_wholeName_13 (fun v1 _ => ?_)
        refine xW_ite (fun _ _ _ _ _ => am_icmp_gt (tgt := 26) d_Lexer_wholeName_14 (by decide)) (fun _ => ?_) (fun _ => ?_)
        · refine xW_pure (fun _ _ _ _ _ => am_lconst (v := 0) d_Lexer_wholeName_26 (by decide)) ?_
          exact xW_ret (fun _ _ _ _ _ => am_lret rfl d_Lexer_wholeName_27)
        · refine xW_pure (fun _ _ _ _ _ => am_aload_n d_Lexer_wholeName_17 rfl rfl) ?_
          refine xW_pure (fun _ _ _ _ _ => am_iconst (v := 0) d_Lexer_wholeName_18 (by decide)) ?_
          refine xW_aB O d_Lexer_wholeName_19 (fun v2 _ => ?_)
          refine xW_callS O (dx_Lexer_isLetter O T) rfl l_Lexer_68 w_566 rfl (Nat.le_of_ble_eq_true rfl) d_Lexer_wholeName_20 (fun v4 s3 _ => ?_)
          refine xW_ite (fun _ _ _ _ _ k1 k2 => am_if_ne (tgt := 28) d_Lexer_wholeName_23 (by decide) k2 k1) (fun _ => ?_) (fun _ => ?_)
          · refine xW_pure (fun _ _ _ _ _ => am_lconst (v := 0) d_Lexer_wholeName_26 (by decide)) ?_
            exact xW_ret (fun _ _ _ _ _ => am_lret rfl d_Lexer_wholeName_27)
          · refine xW_pure (fun _ _ _ _ _ => am_lconst (v := 0) d_Lexer_wholeName_28 (by decide)) ?_
            refine xW_pure (fun _ _ _ _ _ => am_lstore_n d_Lexer_wholeName_29 rfl (Nat.le_of_ble_eq_true rfl)) ?_
            refine xW_pure (fun _ _ _ _ _ => am_iconst (v := 0) d_Lexer_wholeName_30 (by decide)) ?_
            refine xW_pure (fun _ _ _ _ _ => am_istore d_Lexer_wholeName_31 (Nat.le_of_ble_eq_true rfl)) ?_
            refine xW_locs (lv' := [(0, .ref x1), (1, .int x2), (2, .long 0), (4, .int 0)]) rfl ?_
            refine xW_loop (lvf := fun (z33 : Int64 × Int32 × HS) => [(0, .ref x1), (1, .int x2), (2, .long z33.1), (4, .int z33.2.1)]) (hsf := fun (z33 : Int64 × Int32 × HS) => z33.2.2) (fun again33 ih33 z33 => ?_) FU (0, 0, s3)
            refine xW_pure (fun _ _ _ _ _ => am_iload d_Lexer_wholeName_33 rfl) ?_
            refine xW_pure (fun _ _ _ _ _ => am_iload_n d_Lexer_wholeName_35 rfl rfl) ?_
            refine xW_ite (fun _ _ _ _ _ => am_icmp_ge (tgt := 79) d_Lexer_wholeName_36 (by decide)) (fun _ => ?_) (fun _ => ?_)
            · refine xW_pure (fun _ _ _ _ _ => am_lload_n d_Lexer_wholeName_79 rfl rfl) ?_
              exact xW_ret (fun _ _ _ _ _ => am_lret rfl d_Lexer_wholeName_80)
            · refine xW_pure (fun _ _ _ _ _ => am_aload_n d_Lexer_wholeName_39 rfl rfl) ?_
              refine xW_pure (fun _ _ _ _ _ => am_iload d_Lexer_wholeName_40 rfl) ?_
              refine xW_aB O d_Lexer_wholeName_42 (fun v5 _ => ?_)
              refine xW_callS O (dx_Lexer_isLetter O T) rfl l_Lexer_68 w_566 rfl (Nat.le_of_ble_eq_true rfl) d_Lexer_wholeName_43 (fun v7 s6 _ => ?_)
              refine xW_ite (fun _ _ _ _ _ k1 k2 => am_if_ne (tgt := 61) d_Lexer_wholeName_46 (by decide) k2 k1) (fun _ => ?_) (fun _ => ?_)
              · refine xW_pure (fun _ _ _ _ _ => am_aload_n d_Lexer_wholeName_49 rfl rfl) ?_
                refine xW_pure (fun _ _ _ _ _ => am_iload d_Lexer_wholeName_50 rfl) ?_
                refine xW_aB O d_Lexer_wholeName_52 (fun v8 _ => ?_)
                refine xW_callS O (dx_Lexer_isDigit O T) rfl l_Lexer_75 w_573 rfl (Nat.le_of_ble_eq_true rfl) d_Lexer_wholeName_53 (fun v10 s9 _ => ?_)
                refine xW_ite (fun _ _ _ _ _ k1 k2 => am_if_ne (tgt := 61) d_Lexer_wholeName_56 (by decide) k2 k1) (fun _ => ?_) (fun _ => ?_)
                · refine xW_pure (fun _ _ _ _ _ => am_lconst (v := 0) d_Lexer_wholeName_59 (by decide)) ?_
                  exact xW_ret (fun _ _ _ _ _ => am_lret rfl d_Lexer_wholeName_60)
                · refine xW_pure (fun _ _ _ _ _ => am_lload_n d_Lexer_wholeName_61 rfl rfl) ?_
                  refine xW_pure (fun _ _ _ _ _ => am_aload_n d_Lexer_wholeName_62 rfl rfl) ?_
                  refine xW_pure (fun _ _ _ _ _ => am_iload d_Lexer_wholeName_63 rfl) ?_
                  refine xW_aB O d_Lexer_wholeName_65 (fun v11 _ => ?_)
                  refine xW_pure (fun _ _ _ _ _ => am_iload d_Lexer_wholeName_66 rfl) ?_
                  refine xW_callS O (dx_Cell_placed O T) rfl l_Lexer_31 w_258 rfl (Nat.le_of_ble_eq_true rfl) d_Lexer_wholeName_68 (fun v13 s12 _ => ?_)
                  refine xW_pure (fun _ _ _ _ _ => am_lor d_Lexer_wholeName_71) ?_
                  refine xW_pure (fun _ _ _ _ _ => am_lstore_n d_Lexer_wholeName_72 rfl (Nat.le_of_ble_eq_true rfl)) ?_
                  refine xW_pure (fun _ _ _ _ _ => am_iinc (v := 1) d_Lexer_wholeName_73 rfl (by decide) (Nat.le_of_ble_eq_true rfl)) ?_
                  refine xW_pure (fun _ _ _ _ _ => am_goto (tgt := 33) d_Lexer_wholeName_76 (by decide)) ?_
                  refine xW_locs (lv' := [(0, .ref x1), (1, .int x2), (2, .long (z33.1 ||| v13)), (4, .int (z33.2.1 + 1))]) rfl ?_
                  exact ih33 ((z33.1 ||| v13), (z33.2.1 + 1), s12)
              · refine xW_pure (fun _ _ _ _ _ => am_lload_n d_Lexer_wholeName_61 rfl rfl) ?_
                refine xW_pure (fun _ _ _ _ _ => am_aload_n d_Lexer_wholeName_62 rfl rfl) ?_
                refine xW_pure (fun _ _ _ _ _ => am_iload d_Lexer_wholeName_63 rfl) ?_
                refine xW_aB O d_Lexer_wholeName_65 (fun v14 _ => ?_)
                refine xW_pure (fun _ _ _ _ _ => am_iload d_Lexer_wholeName_66 rfl) ?_
                refine xW_callS O (dx_Cell_placed O T) rfl l_Lexer_31 w_258 rfl (Nat.le_of_ble_eq_true rfl) d_Lexer_wholeName_68 (fun v16 s15 _ => ?_)
                refine xW_pure (fun _ _ _ _ _ => am_lor d_Lexer_wholeName_71) ?_
                refine xW_pure (fun _ _ _ _ _ => am_lstore_n d_Lexer_wholeName_72 rfl (Nat.le_of_ble_eq_true rfl)) ?_
                refine xW_pure (fun _ _ _ _ _ => am_iinc (v := 1) d_Lexer_wholeName_73 rfl (by decide) (Nat.le_of_ble_eq_true rfl)) ?_
                refine xW_pure (fun _ _ _ _ _ => am_goto (tgt := 33) d_Lexer_wholeName_76 (by decide)) ?_
                refine xW_locs (lv' := [(0, .ref x1), (1, .int x2), (2, .long (z33.1 ||| v16)), (4, .int (z33.2.1 + 1))]) rfl ?_
                exact ih33 ((z33.1 ||| v16), (z33.2.1 + 1), s15)

set_option maxRecDepth 100000 in
def x_Log_waiting (d : Nat) (x0 : Nat) (s : HS) : Option (Int32 × HS) := gd s x0 7 ((gI s x0 7 2).bind fun v1 => (some (v1, s)))

set_option maxRecDepth 100000 in
set_option maxHeartbeats 4000000 in
theorem dx_Log_waiting (O : am_ok K X) (T : am_T K) {d : Nat} {x0 : Nat} {s : HS} : xM cvI K X m_Log_waiting d [.ref x0] s (x_Log_waiting d x0 s) := by
  unfold x_Log_waiting
  refine xM_enter (by decide +kernel) (Nat.le_of_ble_eq_true rfl) ?_
  refine xW_gd (fun _ => ?_)
  refine xW_pure (fun _ _ _ _ _ => am_aload_n d_Log_waiting_0 rfl rfl) ?_
  refine xW_gI O f_Log_27 d_Log_waiting_1 (fun v1 _ => ?_)
  exact xW_ret (fun _ _ _ _ _ => am_iret rfl d_Log_waiting_4)

theorem ob_Log_waiting {d : Nat} {x0 : Nat} {s : HS} {y : Int32 × HS} (h : x_Log_waiting d x0 s = some y) : isO s x0 7 = true := (gd_spec h).1

set_option maxRecDepth 100000 in
def x_Log_wholeWithin (d : Nat) (x0 : Nat) (x1 : Int32) (s : HS) : Option (Int32 × HS) := gd s x0 7 (loopK (fun (again4 : Int32 × Int32 × HS → Option (Int32 × HS)) (z4 : Int32 × Int32 × HS) => ((gI z4.2.2 x0 7 2).bind fun v1 => (if v1 < z4.2.1 then ((gI z4.2.2 x0 7 2).bind fun v2 => (some (v2, z4.2.2))) else ((gR z4.2.2 x0 7 1).bind fun v3 => ((aI z4.2.2 v3 z4.2.1).bind fun v4 => (if v4 ≤ z4.1 then ((gR z4.2.2 x0 7 1).bind fun v5 => ((aI z4.2.2 v5 z4.2.1).bind fun v6 => (again4 ((z4.1 - v6), (z4.2.1 + 1), z4.2.2)))) else (some ((z4.2.1 - 1), z4.2.2)))))))) FU (x1, 1, s))

set_option maxRecDepth 100000 in
set_option maxHeartbeats 4000000 in
theorem dx_Log_wholeWithin (O : am_ok K X) (T : am_T K) {d : Nat} {x0 : Nat} {x1 : Int32} {s : HS} : xM cvI K X m_Log_wholeWithin d [.ref x0, .int x1] s (x_Log_wholeWithin d x0 x1 s) := by
  unfold x_Log_wholeWithin
  refine xM_enter (by decide +kernel) (Nat.le_of_ble_eq_true rfl) ?_
  refine xW_gd (fun _ => ?_)
  refine xW_pure (fun _ _ _ _ _ => am_iload_n d_Log_wholeWithin_0 rfl rfl) ?_
  refine xW_pure (fun _ _ _ _ _ => am_istore_n d_Log_wholeWithin_1 rfl (Nat.le_of_ble_eq_true rfl)) ?_
  refine xW_pure (fun _ _ _ _ _ => am_iconst (v := 1) d_Log_wholeWithin_2 (by decide)) ?_
  refine xW_pure (fun _ _ _ _ _ => am_istore_n d_Log_wholeWithin_3 rfl (Nat.le_of_ble_eq_true rfl)) ?_
  refine xW_locs (lv' := [(0, .ref x0), (2, .int x1), (3, .int 1)]) rfl ?_
  refine xW_loop (lvf := fun (z4 : Int32 × Int32 × HS) => [(0, .ref x0), (2, .int z4.1), (3, .int z4.2.1)]) (hsf := fun (z4 : Int32 × Int32 × HS) => z4.2.2) (fun again4 ih4 z4 => ?_) FU (x1, 1, s)
  refine xW_pure (fun _ _ _ _ _ => am_iload_n d_Log_wholeWithin_4 rfl rfl) ?_
  refine xW_pure (fun _ _ _ _ _ => am_aload_n d_Log_wholeWithin_5 rfl rfl) ?_
  refine xW_gI O f_Log_27 d_Log_wholeWithin_6 (fun v1 _ => ?_)
  refine xW_ite (fun _ _ _ _ _ => am_icmp_gt (tgt := 41) d_Log_wholeWithin_9 (by decide)) (fun _ => ?_) (fun _ => ?_)
  · refine xW_pure (fun _ _ _ _ _ => am_aload_n d_Log_wholeWithin_41 rfl rfl) ?_
    refine xW_gI O f_Log_27 d_Log_wholeWithin_42 (fun v2 _ => ?_)
    exact xW_ret (fun _ _ _ _ _ => am_iret rfl d_Log_wholeWithin_45)
  · refine xW_pure (fun _ _ _ _ _ => am_aload_n d_Log_wholeWithin_12 rfl rfl) ?_
    refine xW_gR O f_Log_15 d_Log_wholeWithin_13 (fun v3 _ => ?_)
    refine xW_pure (fun _ _ _ _ _ => am_iload_n d_Log_wholeWithin_16 rfl rfl) ?_
    refine xW_aI O d_Log_wholeWithin_17 (fun v4 _ => ?_)
    refine xW_pure (fun _ _ _ _ _ => am_iload_n d_Log_wholeWithin_18 rfl rfl) ?_
    refine xW_ite (fun _ _ _ _ _ => am_icmp_le (tgt := 26) d_Log_wholeWithin_19 (by decide)) (fun _ => ?_) (fun _ => ?_)
    · refine xW_pure (fun _ _ _ _ _ => am_iload_n d_Log_wholeWithin_26 rfl rfl) ?_
      refine xW_pure (fun _ _ _ _ _ => am_aload_n d_Log_wholeWithin_27 rfl rfl) ?_
      refine xW_gR O f_Log_15 d_Log_wholeWithin_28 (fun v5 _ => ?_)
      refine xW_pure (fun _ _ _ _ _ => am_iload_n d_Log_wholeWithin_31 rfl rfl) ?_
      refine xW_aI O d_Log_wholeWithin_32 (fun v6 _ => ?_)
      refine xW_pure (fun _ _ _ _ _ => am_isub d_Log_wholeWithin_33) ?_
      refine xW_pure (fun _ _ _ _ _ => am_istore_n d_Log_wholeWithin_34 rfl (Nat.le_of_ble_eq_true rfl)) ?_
      refine xW_pure (fun _ _ _ _ _ => am_iinc (v := 1) d_Log_wholeWithin_35 rfl (by decide) (Nat.le_of_ble_eq_true rfl)) ?_
      refine xW_pure (fun _ _ _ _ _ => am_goto (tgt := 4) d_Log_wholeWithin_38 (by decide)) ?_
      refine xW_locs (lv' := [(0, .ref x0), (2, .int (z4.1 - v6)), (3, .int (z4.2.1 + 1))]) rfl ?_
      exact ih4 ((z4.1 - v6), (z4.2.1 + 1), z4.2.2)
    · refine xW_pure (fun _ _ _ _ _ => am_iload_n d_Log_wholeWithin_22 rfl rfl) ?_
      refine xW_pure (fun _ _ _ _ _ => am_iconst (v := 1) d_Log_wholeWithin_23 (by decide)) ?_
      refine xW_pure (fun _ _ _ _ _ => am_isub d_Log_wholeWithin_24) ?_
      exact xW_ret (fun _ _ _ _ _ => am_iret rfl d_Log_wholeWithin_25)

theorem ob_Log_wholeWithin {d : Nat} {x0 : Nat} {x1 : Int32} {s : HS} {y : Int32 × HS} (h : x_Log_wholeWithin d x0 x1 s = some y) : isO s x0 7 = true := (gd_spec h).1

set_option maxRecDepth 100000 in
def x_Log_loseWaiting (d : Nat) (x0 : Nat) (s : HS) : Option (Unit × HS) := gd s x0 7 ((pV s x0 7 2 (.int 0)).bind fun s1 => (some ((), s1)))

set_option maxRecDepth 100000 in
set_option maxHeartbeats 4000000 in
theorem dx_Log_loseWaiting (O : am_ok K X) (T : am_T K) {d : Nat} {x0 : Nat} {s : HS} : xM cvU K X m_Log_loseWaiting d [.ref x0] s (x_Log_loseWaiting d x0 s) := by
  unfold x_Log_loseWaiting
  refine xM_enter (by decide +kernel) (Nat.le_of_ble_eq_true rfl) ?_
  refine xW_gd (fun _ => ?_)
  refine xW_pure (fun _ _ _ _ _ => am_aload_n d_Log_loseWaiting_0 rfl rfl) ?_
  refine xW_pure (fun _ _ _ _ _ => am_iconst (v := 0) d_Log_loseWaiting_1 (by decide)) ?_
  refine xW_put O f_Log_27 d_Log_loseWaiting_2 (fun q hq => by cases hq; exact ⟨rfl, rfl, rfl⟩) (fun s1 _ => ?_)
  exact xW_ret (fun _ _ _ _ _ => am_vret rfl d_Log_loseWaiting_5)

theorem ob_Log_loseWaiting {d : Nat} {x0 : Nat} {s : HS} {y : Unit × HS} (h : x_Log_loseWaiting d x0 s = some y) : isO s x0 7 = true := (gd_spec h).1

set_option maxRecDepth 100000 in
def x_Store_roots (d : Nat) (x0 : Nat) (s : HS) : Option (Int32 × HS) := gd s x0 10 ((gI s x0 10 6).bind fun v1 => (some (v1, s)))

set_option maxRecDepth 100000 in
set_option maxHeartbeats 4000000 in
theorem dx_Store_roots (O : am_ok K X) (T : am_T K) {d : Nat} {x0 : Nat} {s : HS} : xM cvI K X m_Store_roots d [.ref x0] s (x_Store_roots d x0 s) := by
  unfold x_Store_roots
  refine xM_enter (by decide +kernel) (Nat.le_of_ble_eq_true rfl) ?_
  refine xW_gd (fun _ => ?_)
  refine xW_pure (fun _ _ _ _ _ => am_aload_n d_Store_roots_0 rfl rfl) ?_
  refine xW_gI O f_Store_47 d_Store_roots_1 (fun v1 _ => ?_)
  exact xW_ret (fun _ _ _ _ _ => am_iret rfl d_Store_roots_4)

theorem ob_Store_roots {d : Nat} {x0 : Nat} {s : HS} {y : Int32 × HS} (h : x_Store_roots d x0 s = some y) : isO s x0 10 = true := (gd_spec h).1

set_option maxRecDepth 100000 in
def x_Cell_isObject (d : Nat) (x1 : Int64) (s : HS) : Option (Int32 × HS) := match d with
  | 0 => none
  | d + 1 => bnd (x_Cell_sortOf d x1 s) fun v2 s1 => (if v2 = 3 then (some (1, s1)) else (if v2 = 4 then (some (1, s1)) else (some (0, s1))))

set_option maxRecDepth 100000 in
set_option maxHeartbeats 4000000 in
theorem dx_Cell_isObject (O : am_ok K X) (T : am_T K) {d : Nat} {x1 : Int64} {s : HS} : xM cvI K X m_Cell_isObject d [.long x1] s (x_Cell_isObject d x1 s) := by
  cases d with
  | zero => exact xM_none
  | succ d =>
    unfold x_Cell_isObject
    refine xM_enter (by decide +kernel) (Nat.le_of_ble_eq_true rfl) ?_
    refine xW_pure (fun _ _ _ _ _ => am_lload_n d_Cell_isObject_0 rfl rfl) ?_
    refine xW_callS O (dx_Cell_sortOf O T) rfl l_Cell_9 w_1104 rfl (Nat.le_of_ble_eq_true rfl) d_Cell_isObject_1 (fun v2 s1 _ => ?_)
    refine xW_pure (fun _ _ _ _ _ => am_istore_n d_Cell_isObject_4 rfl (Nat.le_of_ble_eq_true rfl)) ?_
    refine xW_pure (fun _ _ _ _ _ => am_iload_n d_Cell_isObject_5 rfl rfl) ?_
    refine xW_pure (fun _ _ _ _ _ => am_iconst (v := 3) d_Cell_isObject_6 (by decide)) ?_
    refine xW_ite (fun _ _ _ _ _ => am_icmp_eq (tgt := 15) d_Cell_isObject_7 (by decide)) (fun _ => ?_) (fun _ => ?_)
    · refine xW_pure (fun _ _ _ _ _ => am_iconst (v := 1) d_Cell_isObject_15 (by decide)) ?_
      refine xW_pure (fun _ _ _ _ _ => am_goto (tgt := 20) d_Cell_isObject_16 (by decide)) ?_
      exact xW_ret (fun _ _ _ _ _ => am_zret (ty := .boolean) rfl rfl d_Cell_isObject_20)
    · refine xW_pure (fun _ _ _ _ _ => am_iload_n d_Cell_isObject_10 rfl rfl) ?_
      refine xW_pure (fun _ _ _ _ _ => am_iconst (v := 4) d_Cell_isObject_11 (by decide)) ?_
      refine xW_ite (fun _ _ _ _ _ k1 k2 => am_icmp_ne (tgt := 19) d_Cell_isObject_12 (by decide) k2 k1) (fun _ => ?_) (fun _ => ?_)
      · refine xW_pure (fun _ _ _ _ _ => am_iconst (v := 1) d_Cell_isObject_15 (by decide)) ?_
        refine xW_pure (fun _ _ _ _ _ => am_goto (tgt := 20) d_Cell_isObject_16 (by decide)) ?_
        exact xW_ret (fun _ _ _ _ _ => am_zret (ty := .boolean) rfl rfl d_Cell_isObject_20)
      · refine xW_pure (fun _ _ _ _ _ => am_iconst (v := 0) d_Cell_isObject_19 (by decide)) ?_
        exact xW_ret (fun _ _ _ _ _ => am_zret (ty := .boolean) rfl rfl d_Cell_isObject_20)

set_option maxRecDepth 100000 in
def x_Store_takeAway (d : Nat) (x0 : Nat) (x1 : Int32) (s : HS) : Option (Unit × HS) := match d with
  | 0 => none
  | d + 1 => gd s x0 10 (bnd (x_Store_isThere d x0 x1 s) fun v2 s1 => (if v2 = 0 then (some ((), s1)) else ((gR s1 x0 10 2).bind fun v3 => ((sV s1 .int v3 x1 (.int (-1))).bind fun s4 => (some ((), s4))))))

set_option maxRecDepth 100000 in
set_option maxHeartbeats 4000000 in
theorem dx_Store_takeAway (O : am_ok K X) (T : am_T K) {d : Nat} {x0 : Nat} {x1 : Int32} {s : HS} : xM cvU K X m_Store_takeAway d [.ref x0, .int x1] s (x_Store_takeAway d x0 x1 s) := by
  cases d with
  | zero => exact xM_none
  | succ d =>
    unfold x_Store_takeAway
    refine xM_enter (by decide +kernel) (Nat.le_of_ble_eq_true rfl) ?_
    refine xW_gd (fun _ => ?_)
    refine xW_pure (fun _ _ _ _ _ => am_aload_n d_Store_takeAway_0 rfl rfl) ?_
    refine xW_pure (fun _ _ _ _ _ => am_iload_n d_Store_takeAway_1 rfl rfl) ?_
    refine xW_callV O (dx_Store_isThere O T) (fun _ e => ob_Store_isThere e) rfl rfl rfl l_Store_54 ⟨w_1245, w_1246⟩ rfl (Nat.le_of_ble_eq_true rfl) d_Store_takeAway_2 (fun v2 s1 _ => ?_)
    refine xW_ite (fun _ _ _ _ _ => am_if_eq (tgt := 15) d_Store_takeAway_5 (by decide)) (fun _ => ?_) (fun _ => ?_)
    · exact xW_ret (fun _ _ _ _ _ => am_vret rfl d_Store_takeAway_15)
    · refine xW_pure (fun _ _ _ _ _ => am_aload_n d_Store_takeAway_8 rfl rfl) ?_
      refine xW_gR O f_Store_16 d_Store_takeAway_9 (fun v3 _ => ?_)
      refine xW_pure (fun _ _ _ _ _ => am_iload_n d_Store_takeAway_12 rfl rfl) ?_
      refine xW_pure (fun _ _ _ _ _ => am_iconst (v := (-1)) d_Store_takeAway_13 (by decide)) ?_
      refine xW_sI O d_Store_takeAway_14 (fun s4 _ => ?_)
      exact xW_ret (fun _ _ _ _ _ => am_vret rfl d_Store_takeAway_15)

theorem ob_Store_takeAway {d : Nat} {x0 : Nat} {x1 : Int32} {s : HS} {y : Unit × HS} (h : x_Store_takeAway d x0 x1 s = some y) : isO s x0 10 = true := by
  cases d with
  | zero => cases h
  | succ d => exact (gd_spec h).1

set_option maxRecDepth 100000 in
def x_Store_objects (d : Nat) (x0 : Nat) (s : HS) : Option (Int32 × HS) := match d with
  | 0 => none
  | d + 1 => gd s x0 10 (loopK (fun (again4 : Int32 × Int32 × HS → Option (Int32 × HS)) (z4 : Int32 × Int32 × HS) => (if 100 ≤ z4.2.1 then (some (z4.1, z4.2.2)) else (bnd (x_Store_isThere d x0 z4.2.1 z4.2.2) fun v2 s1 => (if v2 = 0 then (again4 (z4.1, (z4.2.1 + 1), s1)) else (again4 ((z4.1 + 1), (z4.2.1 + 1), s1)))))) FU (0, 0, s))

set_option maxRecDepth 100000 in
set_option maxHeartbeats 4000000 in
theorem dx_Store_objects (O : am_ok K X) (T : am_T K) {d : Nat} {x0 : Nat} {s : HS} : xM cvI K X m_Store_objects d [.ref x0] s (x_Store_objects d x0 s) := by
  cases d with
  | zero => exact xM_none
  | succ d =>
    unfold x_Store_objects
    refine xM_enter (by decide +kernel) (Nat.le_of_ble_eq_true rfl) ?_
    refine xW_gd (fun _ => ?_)
    refine xW_pure (fun _ _ _ _ _ => am_iconst (v := 0) d_Store_objects_0 (by decide)) ?_
    refine xW_pure (fun _ _ _ _ _ => am_istore_n d_Store_objects_1 rfl (Nat.le_of_ble_eq_true rfl)) ?_
    refine xW_pure (fun _ _ _ _ _ => am_iconst (v := 0) d_Store_objects_2 (by decide)) ?_
    refine xW_pure (fun _ _ _ _ _ => am_istore_n d_Store_objects_3 rfl (Nat.le_of_ble_eq_true rfl)) ?_
    refine xW_locs (lv' := [(0, .ref x0), (1, .int 0), (2, .int 0)]) rfl ?_
    refine xW_loop (lvf := fun (z4 : Int32 × Int32 × HS) => [(0, .ref x0), (1, .int z4.1), (2, .int z4.2.1)]) (hsf := fun (z4 : Int32 × Int32 × HS) => z4.2.2) (fun again4 ih4 z4 => ?_) FU (0, 0, s)
    refine xW_pure (fun _ _ _ _ _ => am_iload_n d_Store_objects_4 rfl rfl) ?_
    refine xW_pure (fun _ _ _ _ _ => am_bipush (v := 100) d_Store_objects_5 (by decide)) ?_
    refine xW_ite (fun _ _ _ _ _ => am_icmp_ge (tgt := 27) d_Store_objects_7 (by decide)) (fun _ => ?_) (fun _ => ?_)
    · refine xW_pure (fun _ _ _ _ _ => am_iload_n d_Store_objects_27 rfl rfl) ?_
      exact xW_ret (fun _ _ _ _ _ => am_iret rfl d_Store_objects_28)
    · refine xW_pure (fun _ _ _ _ _ => am_aload_n d_Store_objects_10 rfl rfl) ?_
      refine xW_pure (fun _ _ _ _ _ => am_iload_n d_Store_objects_11 rfl rfl) ?_
      refine xW_callV O (dx_Store_isThere O T) (fun _ e => ob_Store_isThere e) rfl rfl rfl l_Store_54 ⟨w_1245, w_1246⟩ rfl (Nat.le_of_ble_eq_true rfl) d_Store_objects_12 (fun v2 s1 _ => ?_)
      refine xW_ite (fun _ _ _ _ _ => am_if_eq (tgt := 21) d_Store_objects_15 (by decide)) (fun _ => ?_) (fun _ => ?_)
      · refine xW_pure (fun _ _ _ _ _ => am_iinc (v := 1) d_Store_objects_21 rfl (by decide) (Nat.le_of_ble_eq_true rfl)) ?_
        refine xW_pure (fun _ _ _ _ _ => am_goto (tgt := 4) d_Store_objects_24 (by decide)) ?_
        refine xW_locs (lv' := [(0, .ref x0), (1, .int z4.1), (2, .int (z4.2.1 + 1))]) rfl ?_
        exact ih4 (z4.1, (z4.2.1 + 1), s1)
      · refine xW_pure (fun _ _ _ _ _ => am_iinc (v := 1) d_Store_objects_18 rfl (by decide) (Nat.le_of_ble_eq_true rfl)) ?_
        refine xW_pure (fun _ _ _ _ _ => am_iinc (v := 1) d_Store_objects_21 rfl (by decide) (Nat.le_of_ble_eq_true rfl)) ?_
        refine xW_pure (fun _ _ _ _ _ => am_goto (tgt := 4) d_Store_objects_24 (by decide)) ?_
        refine xW_locs (lv' := [(0, .ref x0), (1, .int (z4.1 + 1)), (2, .int (z4.2.1 + 1))]) rfl ?_
        exact ih4 ((z4.1 + 1), (z4.2.1 + 1), s1)

theorem ob_Store_objects {d : Nat} {x0 : Nat} {s : HS} {y : Int32 × HS} (h : x_Store_objects d x0 s = some y) : isO s x0 10 = true := by
  cases d with
  | zero => cases h
  | succ d => exact (gd_spec h).1

set_option maxRecDepth 100000 in
def x_Store_functions (d : Nat) (x0 : Nat) (s : HS) : Option (Int32 × HS) := gd s x0 10 ((gI s x0 10 8).bind fun v1 => (some (v1, s)))

set_option maxRecDepth 100000 in
set_option maxHeartbeats 4000000 in
theorem dx_Store_functions (O : am_ok K X) (T : am_T K) {d : Nat} {x0 : Nat} {s : HS} : xM cvI K X m_Store_functions d [.ref x0] s (x_Store_functions d x0 s) := by
  unfold x_Store_functions
  refine xM_enter (by decide +kernel) (Nat.le_of_ble_eq_true rfl) ?_
  refine xW_gd (fun _ => ?_)
  refine xW_pure (fun _ _ _ _ _ => am_aload_n d_Store_functions_0 rfl rfl) ?_
  refine xW_gI O f_Store_51 d_Store_functions_1 (fun v1 _ => ?_)
  exact xW_ret (fun _ _ _ _ _ => am_iret rfl d_Store_functions_4)

theorem ob_Store_functions {d : Nat} {x0 : Nat} {s : HS} {y : Int32 × HS} (h : x_Store_functions d x0 s = some y) : isO s x0 10 = true := (gd_spec h).1

set_option maxRecDepth 100000 in
def x_Log_safeBytes (d : Nat) (x0 : Nat) (s : HS) : Option (Int32 × HS) := gd s x0 7 ((gI s x0 7 3).bind fun v1 => (some (v1, s)))

set_option maxRecDepth 100000 in
set_option maxHeartbeats 4000000 in
theorem dx_Log_safeBytes (O : am_ok K X) (T : am_T K) {d : Nat} {x0 : Nat} {s : HS} : xM cvI K X m_Log_safeBytes d [.ref x0] s (x_Log_safeBytes d x0 s) := by
  unfold x_Log_safeBytes
  refine xM_enter (by decide +kernel) (Nat.le_of_ble_eq_true rfl) ?_
  refine xW_gd (fun _ => ?_)
  refine xW_pure (fun _ _ _ _ _ => am_aload_n d_Log_safeBytes_0 rfl rfl) ?_
  refine xW_gI O f_Log_50 d_Log_safeBytes_1 (fun v1 _ => ?_)
  exact xW_ret (fun _ _ _ _ _ => am_iret rfl d_Log_safeBytes_4)

theorem ob_Log_safeBytes {d : Nat} {x0 : Nat} {s : HS} {y : Int32 × HS} (h : x_Log_safeBytes d x0 s = some y) : isO s x0 7 = true := (gd_spec h).1

set_option maxRecDepth 100000 in
def x_Log_waitingBytes (d : Nat) (x0 : Nat) (s : HS) : Option (Int32 × HS) := gd s x0 7 (loopK (fun (again4 : Int32 × Int32 × HS → Option (Int32 × HS)) (z4 : Int32 × Int32 × HS) => ((gI z4.2.2 x0 7 2).bind fun v1 => (if v1 < z4.2.1 then (some (z4.1, z4.2.2)) else ((gR z4.2.2 x0 7 1).bind fun v2 => ((aI z4.2.2 v2 z4.2.1).bind fun v3 => (again4 ((z4.1 + v3), (z4.2.1 + 1), z4.2.2))))))) FU (0, 1, s))

set_option maxRecDepth 100000 in
set_option maxHeartbeats 4000000 in
theorem dx_Log_waitingBytes (O : am_ok K X) (T : am_T K) {d : Nat} {x0 : Nat} {s : HS} : xM cvI K X m_Log_waitingBytes d [.ref x0] s (x_Log_waitingBytes d x0 s) := by
  unfold x_Log_waitingBytes
  refine xM_enter (by decide +kernel) (Nat.le_of_ble_eq_true rfl) ?_
  refine xW_gd (fun _ => ?_)
  refine xW_pure (fun _ _ _ _ _ => am_iconst (v := 0) d_Log_waitingBytes_0 (by decide)) ?_
  refine xW_pure (fun _ _ _ _ _ => am_istore_n d_Log_waitingBytes_1 rfl (Nat.le_of_ble_eq_true rfl)) ?_
  refine xW_pure (fun _ _ _ _ _ => am_iconst (v := 1) d_Log_waitingBytes_2 (by decide)) ?_
  refine xW_pure (fun _ _ _ _ _ => am_istore_n d_Log_waitingBytes_3 rfl (Nat.le_of_ble_eq_true rfl)) ?_
  refine xW_locs (lv' := [(0, .ref x0), (1, .int 0), (2, .int 1)]) rfl ?_
  refine xW_loop (lvf := fun (z4 : Int32 × Int32 × HS) => [(0, .ref x0), (1, .int z4.1), (2, .int z4.2.1)]) (hsf := fun (z4 : Int32 × Int32 × HS) => z4.2.2) (fun again4 ih4 z4 => ?_) FU (0, 1, s)
  refine xW_pure (fun _ _ _ _ _ => am_iload_n d_Log_waitingBytes_4 rfl rfl) ?_
  refine xW_pure (fun _ _ _ _ _ => am_aload_n d_Log_waitingBytes_5 rfl rfl) ?_
  refine xW_gI O f_Log_27 d_Log_waitingBytes_6 (fun v1 _ => ?_)
  refine xW_ite (fun _ _ _ _ _ => am_icmp_gt (tgt := 27) d_Log_waitingBytes_9 (by decide)) (fun _ => ?_) (fun _ => ?_)
  · refine xW_pure (fun _ _ _ _ _ => am_iload_n d_Log_waitingBytes_27 rfl rfl) ?_
    exact xW_ret (fun _ _ _ _ _ => am_iret rfl d_Log_waitingBytes_28)
  · refine xW_pure (fun _ _ _ _ _ => am_iload_n d_Log_waitingBytes_12 rfl rfl) ?_
    refine xW_pure (fun _ _ _ _ _ => am_aload_n d_Log_waitingBytes_13 rfl rfl) ?_
    refine xW_gR O f_Log_15 d_Log_waitingBytes_14 (fun v2 _ => ?_)
    refine xW_pure (fun _ _ _ _ _ => am_iload_n d_Log_waitingBytes_17 rfl rfl) ?_
    refine xW_aI O d_Log_waitingBytes_18 (fun v3 _ => ?_)
    refine xW_pure (fun _ _ _ _ _ => am_iadd d_Log_waitingBytes_19) ?_
    refine xW_pure (fun _ _ _ _ _ => am_istore_n d_Log_waitingBytes_20 rfl (Nat.le_of_ble_eq_true rfl)) ?_
    refine xW_pure (fun _ _ _ _ _ => am_iinc (v := 1) d_Log_waitingBytes_21 rfl (by decide) (Nat.le_of_ble_eq_true rfl)) ?_
    refine xW_pure (fun _ _ _ _ _ => am_goto (tgt := 4) d_Log_waitingBytes_24 (by decide)) ?_
    refine xW_locs (lv' := [(0, .ref x0), (1, .int (z4.1 + v3)), (2, .int (z4.2.1 + 1))]) rfl ?_
    exact ih4 ((z4.1 + v3), (z4.2.1 + 1), z4.2.2)

theorem ob_Log_waitingBytes {d : Nat} {x0 : Nat} {s : HS} {y : Int32 × HS} (h : x_Log_waitingBytes d x0 s = some y) : isO s x0 7 = true := (gd_spec h).1

set_option maxRecDepth 100000 in
def x_Mod_feed (d : Nat) (x0 : Nat) (x1 : Int32) (x2 : Int32) (x3 : Int32) (x4 : Int32) (x5 : Int32) (s : HS) : Option (Int32 × HS) := gd s x0 14 ((gI s x0 14 2).bind fun v1 => (if (v1 + 20) ≤ 1500 then ((newA s .int 5).bind fun s2 => ((sV s2 .int s.1 0 (.int x1)).bind fun s3 => ((sV s3 .int s.1 1 (.int x2)).bind fun s4 => ((sV s4 .int s.1 2 (.int x3)).bind fun s5 => ((sV s5 .int s.1 3 (.int x4)).bind fun s6 => ((sV s6 .int s.1 4 (.int x5)).bind fun s7 => (loopK (fun (again46 : Int32 × HS → Option (Int32 × HS)) (z46 : Int32 × HS) => (if 20 ≤ z46.1 then ((gI z46.2 x0 14 2).bind fun v8 => ((pV z46.2 x0 14 2 (.int (v8 + 20))).bind fun s9 => ((gI s9 x0 14 2).bind fun v10 => (some (v10, s9))))) else ((gR z46.2 x0 14 0).bind fun v11 => ((gI z46.2 x0 14 2).bind fun v12 => ((aI z46.2 s.1 (z46.1 / 4)).bind fun v13 => ((sV z46.2 .byte v11 (v12 + z46.1) (.int ((((v13 : Int32) >>> (((24 - (8 * (z46.1 - z46.1 / 4 * 4))) : Int32) &&& 31)) : Int32).toInt8.toInt32 : Int32).toInt8.toInt32)).bind fun s14 => (again46 ((z46.1 + 1), s14)))))))) FU (0, s7)))))))) else (some ((-3), s))))

set_option maxRecDepth 100000 in
set_option maxHeartbeats 4000000 in
theorem dx_Mod_feed (O : am_ok K X) (T : am_T K) {d : Nat} {x0 : Nat} {x1 : Int32} {x2 : Int32} {x3 : Int32} {x4 : Int32} {x5 : Int32} {s : HS} : xM cvI K X m_Mod_feed d [.ref x0, .int x1, .int x2, .int x3, .int x4, .int x5] s (x_Mod_feed d x0 x1 x2 x3 x4 x5 s) := by
  unfold x_Mod_feed
  refine xM_enter (by decide +kernel) (Nat.le_of_ble_eq_true rfl) ?_
  refine xW_gd (fun _ => ?_)
  refine xW_pure (fun _ _ _ _ _ => am_aload_n d_Mod_feed_0 rfl rfl) ?_
  refine xW_gI O f_Mod_134 d_Mod_feed_1 (fun v1 _ => ?_)
  refine xW_pure (fun _ _ _ _ _ => am_bipush (v := 20) d_Mod_feed_4 (by decide)) ?_
  refine xW_pure (fun _ _ _ _ _ => am_iadd d_Mod_feed_6) ?_
  refine xW_pure (fun _ _ _ _ _ => am_sipush (v := 1500) d_Mod_feed_7 (by decide)) ?_
  refine xW_ite (fun _ _ _ _ _ => am_icmp_le (tgt := 16) d_Mod_feed_10 (by decide)) (fun _ => ?_) (fun _ => ?_)
  · refine xW_pure (fun _ _ _ _ _ => am_iconst (v := 5) d_Mod_feed_16 (by decide)) ?_
    refine xW_newA (at_ := .int) (ty := .int) O rfl (by decide) w_317 d_Mod_feed_17 (fun s2 _ => ?_)
    refine xW_pure (fun _ _ _ _ _ => am_dup d_Mod_feed_19 rfl) ?_
    refine xW_pure (fun _ _ _ _ _ => am_iconst (v := 0) d_Mod_feed_20 (by decide)) ?_
    refine xW_pure (fun _ _ _ _ _ => am_iload_n d_Mod_feed_21 rfl rfl) ?_
    refine xW_sI O d_Mod_feed_22 (fun s3 _ => ?_)
    refine xW_pure (fun _ _ _ _ _ => am_dup d_Mod_feed_23 rfl) ?_
    refine xW_pure (fun _ _ _ _ _ => am_iconst (v := 1) d_Mod_feed_24 (by decide)) ?_
    refine xW_pure (fun _ _ _ _ _ => am_iload_n d_Mod_feed_25 rfl rfl) ?_
    refine xW_sI O d_Mod_feed_26 (fun s4 _ => ?_)
    refine xW_pure (fun _ _ _ _ _ => am_dup d_Mod_feed_27 rfl) ?_
    refine xW_pure (fun _ _ _ _ _ => am_iconst (v := 2) d_Mod_feed_28 (by decide)) ?_
    refine xW_pure (fun _ _ _ _ _ => am_iload_n d_Mod_feed_29 rfl rfl) ?_
    refine xW_sI O d_Mod_feed_30 (fun s5 _ => ?_)
    refine xW_pure (fun _ _ _ _ _ => am_dup d_Mod_feed_31 rfl) ?_
    refine xW_pure (fun _ _ _ _ _ => am_iconst (v := 3) d_Mod_feed_32 (by decide)) ?_
    refine xW_pure (fun _ _ _ _ _ => am_iload d_Mod_feed_33 rfl) ?_
    refine xW_sI O d_Mod_feed_35 (fun s6 _ => ?_)
    refine xW_pure (fun _ _ _ _ _ => am_dup d_Mod_feed_36 rfl) ?_
    refine xW_pure (fun _ _ _ _ _ => am_iconst (v := 4) d_Mod_feed_37 (by decide)) ?_
    refine xW_pure (fun _ _ _ _ _ => am_iload d_Mod_feed_38 rfl) ?_
    refine xW_sI O d_Mod_feed_40 (fun s7 _ => ?_)
    refine xW_pure (fun _ _ _ _ _ => am_astore d_Mod_feed_41 (Nat.le_of_ble_eq_true rfl)) ?_
    refine xW_pure (fun _ _ _ _ _ => am_iconst (v := 0) d_Mod_feed_43 (by decide)) ?_
    refine xW_pure (fun _ _ _ _ _ => am_istore d_Mod_feed_44 (Nat.le_of_ble_eq_true rfl)) ?_
    refine xW_locs (lv' := [(0, .ref x0), (6, .ref s.1), (7, .int 0)]) rfl ?_
    refine xW_loop (lvf := fun (z46 : Int32 × HS) => [(0, .ref x0), (6, .ref s.1), (7, .int z46.1)]) (hsf := fun (z46 : Int32 × HS) => z46.2) (fun again46 ih46 z46 => ?_) FU (0, s7)
    refine xW_pure (fun _ _ _ _ _ => am_iload d_Mod_feed_46 rfl) ?_
    refine xW_pure (fun _ _ _ _ _ => am_bipush (v := 20) d_Mod_feed_48 (by decide)) ?_
    refine xW_ite (fun _ _ _ _ _ => am_icmp_ge (tgt := 90) d_Mod_feed_50 (by decide)) (fun _ => ?_) (fun _ => ?_)
    · refine xW_pure (fun _ _ _ _ _ => am_aload_n d_Mod_feed_90 rfl rfl) ?_
      refine xW_pure (fun _ _ _ _ _ => am_dup d_Mod_feed_91 rfl) ?_
      refine xW_gI O f_Mod_134 d_Mod_feed_92 (fun v8 _ => ?_)
      refine xW_pure (fun _ _ _ _ _ => am_bipush (v := 20) d_Mod_feed_95 (by decide)) ?_
      refine xW_pure (fun _ _ _ _ _ => am_iadd d_Mod_feed_97) ?_
      refine xW_put O f_Mod_134 d_Mod_feed_98 (fun q hq => by cases hq; exact ⟨rfl, rfl, rfl⟩) (fun s9 _ => ?_)
      refine xW_pure (fun _ _ _ _ _ => am_aload_n d_Mod_feed_101 rfl rfl) ?_
      refine xW_gI O f_Mod_134 d_Mod_feed_102 (fun v10 _ => ?_)
      exact xW_ret (fun _ _ _ _ _ => am_iret rfl d_Mod_feed_105)
    · refine xW_pure (fun _ _ _ _ _ => am_aload_n d_Mod_feed_53 rfl rfl) ?_
      refine xW_gR O f_Mod_22 d_Mod_feed_54 (fun v11 _ => ?_)
      refine xW_pure (fun _ _ _ _ _ => am_aload_n d_Mod_feed_57 rfl rfl) ?_
      refine xW_gI O f_Mod_134 d_Mod_feed_58 (fun v12 _ => ?_)
      refine xW_pure (fun _ _ _ _ _ => am_iload d_Mod_feed_61 rfl) ?_
      refine xW_pure (fun _ _ _ _ _ => am_iadd d_Mod_feed_63) ?_
      refine xW_pure (fun _ _ _ _ _ => am_aload d_Mod_feed_64 rfl) ?_
      refine xW_pure (fun _ _ _ _ _ => am_iload d_Mod_feed_66 rfl) ?_
      refine xW_pure (fun _ _ _ _ _ => am_iconst (v := 4) d_Mod_feed_68 (by decide)) ?_
      refine xW_pure (fun _ _ _ _ _ => am_idiv d_Mod_feed_69 (by decide)) ?_
      refine xW_aI O d_Mod_feed_70 (fun v13 _ => ?_)
      refine xW_pure (fun _ _ _ _ _ => am_bipush (v := 24) d_Mod_feed_71 (by decide)) ?_
      refine xW_pure (fun _ _ _ _ _ => am_bipush (v := 8) d_Mod_feed_73 (by decide)) ?_
      refine xW_pure (fun _ _ _ _ _ => am_iload d_Mod_feed_75 rfl) ?_
      refine xW_pure (fun _ _ _ _ _ => am_iconst (v := 4) d_Mod_feed_77 (by decide)) ?_
      refine xW_pure (fun _ _ _ _ _ => am_irem d_Mod_feed_78 (by decide)) ?_
      refine xW_pure (fun _ _ _ _ _ => am_imul d_Mod_feed_79) ?_
      refine xW_pure (fun _ _ _ _ _ => am_isub d_Mod_feed_80) ?_
      refine xW_pure (fun _ _ _ _ _ => am_ishr d_Mod_feed_81) ?_
      refine xW_pure (fun _ _ _ _ _ => am_i2b d_Mod_feed_82 rfl) ?_
      refine xW_sB O d_Mod_feed_83 (fun s14 _ => ?_)
      refine xW_pure (fun _ _ _ _ _ => am_iinc (v := 1) d_Mod_feed_84 rfl (by decide) (Nat.le_of_ble_eq_true rfl)) ?_
      refine xW_pure (fun _ _ _ _ _ => am_goto (tgt := 46) d_Mod_feed_87 (by decide)) ?_
      refine xW_locs (lv' := [(0, .ref x0), (6, .ref s.1), (7, .int (z46.1 + 1))]) rfl ?_
      exact ih46 ((z46.1 + 1), s14)
  · refine xW_pure (fun _ _ _ _ _ => am_bipush (v := (-3)) d_Mod_feed_13 (by decide)) ?_
    exact xW_ret (fun _ _ _ _ _ => am_iret rfl d_Mod_feed_15)

theorem ob_Mod_feed {d : Nat} {x0 : Nat} {x1 : Int32} {x2 : Int32} {x3 : Int32} {x4 : Int32} {x5 : Int32} {s : HS} {y : Int32 × HS} (h : x_Mod_feed d x0 x1 x2 x3 x4 x5 s = some y) : isO s x0 14 = true := (gd_spec h).1

set_option maxRecDepth 100000 in
def x_Mod_in (d : Nat) (x1 : Int64) (x2 : Int64) (x3 : Int64) (s : HS) : Option (Int32 × HS) := if (lg_cmp x1 x2) < 0 then (some (0, s)) else (if 0 < (lg_cmp x1 x3) then (some (0, s)) else (some (1, s)))

set_option maxRecDepth 100000 in
set_option maxHeartbeats 4000000 in
theorem dx_Mod_in (O : am_ok K X) (T : am_T K) {d : Nat} {x1 : Int64} {x2 : Int64} {x3 : Int64} {s : HS} : xM cvI K X m_Mod_in d [.long x1, .long x2, .long x3] s (x_Mod_in d x1 x2 x3 s) := by
  unfold x_Mod_in
  refine xM_enter (by decide +kernel) (Nat.le_of_ble_eq_true rfl) ?_
  refine xW_pure (fun _ _ _ _ _ => am_lload_n d_Mod_in_0 rfl rfl) ?_
  refine xW_pure (fun _ _ _ _ _ => am_lload_n d_Mod_in_1 rfl rfl) ?_
  refine xW_pure (fun _ _ _ _ _ => am_lcmp d_Mod_in_2) ?_
  refine xW_ite (fun _ _ _ _ _ => am_if_lt (tgt := 17) d_Mod_in_3 (by decide)) (fun _ => ?_) (fun _ => ?_)
  · refine xW_pure (fun _ _ _ _ _ => am_iconst (v := 0) d_Mod_in_17 (by decide)) ?_
    exact xW_ret (fun _ _ _ _ _ => am_zret (ty := .boolean) rfl rfl d_Mod_in_18)
  · refine xW_pure (fun _ _ _ _ _ => am_lload_n d_Mod_in_6 rfl rfl) ?_
    refine xW_pure (fun _ _ _ _ _ => am_lload d_Mod_in_7 rfl) ?_
    refine xW_pure (fun _ _ _ _ _ => am_lcmp d_Mod_in_9) ?_
    refine xW_ite (fun _ _ _ _ _ => am_if_gt (tgt := 17) d_Mod_in_10 (by decide)) (fun _ => ?_) (fun _ => ?_)
    · refine xW_pure (fun _ _ _ _ _ => am_iconst (v := 0) d_Mod_in_17 (by decide)) ?_
      exact xW_ret (fun _ _ _ _ _ => am_zret (ty := .boolean) rfl rfl d_Mod_in_18)
    · refine xW_pure (fun _ _ _ _ _ => am_iconst (v := 1) d_Mod_in_13 (by decide)) ?_
      refine xW_pure (fun _ _ _ _ _ => am_goto (tgt := 18) d_Mod_in_14 (by decide)) ?_
      exact xW_ret (fun _ _ _ _ _ => am_zret (ty := .boolean) rfl rfl d_Mod_in_18)

set_option maxRecDepth 100000 in
def x_Code_clear (d : Nat) (x0 : Nat) (s : HS) : Option (Unit × HS) := gd s x0 12 ((pV s x0 12 2 (.int 0)).bind fun s1 => ((pV s1 x0 12 3 (.int 0)).bind fun s2 => ((pV s2 x0 12 4 (.int 0)).bind fun s3 => ((pV s3 x0 12 5 (.int 0)).bind fun s4 => ((pV s4 x0 12 6 (.int 0)).bind fun s5 => (some ((), s5)))))))

set_option maxRecDepth 100000 in
set_option maxHeartbeats 4000000 in
theorem dx_Code_clear (O : am_ok K X) (T : am_T K) {d : Nat} {x0 : Nat} {s : HS} : xM cvU K X m_Code_clear d [.ref x0] s (x_Code_clear d x0 s) := by
  unfold x_Code_clear
  refine xM_enter (by decide +kernel) (Nat.le_of_ble_eq_true rfl) ?_
  refine xW_gd (fun _ => ?_)
  refine xW_pure (fun _ _ _ _ _ => am_aload_n d_Code_clear_0 rfl rfl) ?_
  refine xW_pure (fun _ _ _ _ _ => am_iconst (v := 0) d_Code_clear_1 (by decide)) ?_
  refine xW_put O f_Code_22 d_Code_clear_2 (fun q hq => by cases hq; exact ⟨rfl, rfl, rfl⟩) (fun s1 _ => ?_)
  refine xW_pure (fun _ _ _ _ _ => am_aload_n d_Code_clear_5 rfl rfl) ?_
  refine xW_pure (fun _ _ _ _ _ => am_iconst (v := 0) d_Code_clear_6 (by decide)) ?_
  refine xW_put O f_Code_26 d_Code_clear_7 (fun q hq => by cases hq; exact ⟨rfl, rfl, rfl⟩) (fun s2 _ => ?_)
  refine xW_pure (fun _ _ _ _ _ => am_aload_n d_Code_clear_10 rfl rfl) ?_
  refine xW_pure (fun _ _ _ _ _ => am_iconst (v := 0) d_Code_clear_11 (by decide)) ?_
  refine xW_put O f_Code_29 d_Code_clear_12 (fun q hq => by cases hq; exact ⟨rfl, rfl, rfl⟩) (fun s3 _ => ?_)
  refine xW_pure (fun _ _ _ _ _ => am_aload_n d_Code_clear_15 rfl rfl) ?_
  refine xW_pure (fun _ _ _ _ _ => am_iconst (v := 0) d_Code_clear_16 (by decide)) ?_
  refine xW_put O f_Code_32 d_Code_clear_17 (fun q hq => by cases hq; exact ⟨rfl, rfl, rfl⟩) (fun s4 _ => ?_)
  refine xW_pure (fun _ _ _ _ _ => am_aload_n d_Code_clear_20 rfl rfl) ?_
  refine xW_pure (fun _ _ _ _ _ => am_iconst (v := 0) d_Code_clear_21 (by decide)) ?_
  refine xW_put O f_Code_35 d_Code_clear_22 (fun q hq => by cases hq; exact ⟨rfl, rfl, rfl⟩) (fun s5 _ => ?_)
  exact xW_ret (fun _ _ _ _ _ => am_vret rfl d_Code_clear_25)

theorem ob_Code_clear {d : Nat} {x0 : Nat} {s : HS} {y : Unit × HS} (h : x_Code_clear d x0 s = some y) : isO s x0 12 = true := (gd_spec h).1

set_option maxRecDepth 100000 in
def x_Mod_isSmall (d : Nat) (x1 : Int32) (s : HS) : Option (Int32 × HS) := if x1 < 97 then (some (0, s)) else (if 122 < x1 then (some (0, s)) else (some (1, s)))

set_option maxRecDepth 100000 in
set_option maxHeartbeats 4000000 in
theorem dx_Mod_isSmall (O : am_ok K X) (T : am_T K) {d : Nat} {x1 : Int32} {s : HS} : xM cvI K X m_Mod_isSmall d [.int x1] s (x_Mod_isSmall d x1 s) := by
  unfold x_Mod_isSmall
  refine xM_enter (by decide +kernel) (Nat.le_of_ble_eq_true rfl) ?_
  refine xW_pure (fun _ _ _ _ _ => am_iload_n d_Mod_isSmall_0 rfl rfl) ?_
  refine xW_pure (fun _ _ _ _ _ => am_bipush (v := 97) d_Mod_isSmall_1 (by decide)) ?_
  refine xW_ite (fun _ _ _ _ _ => am_icmp_lt (tgt := 16) d_Mod_isSmall_3 (by decide)) (fun _ => ?_) (fun _ => ?_)
  · refine xW_pure (fun _ _ _ _ _ => am_iconst (v := 0) d_Mod_isSmall_16 (by decide)) ?_
    exact xW_ret (fun _ _ _ _ _ => am_zret (ty := .boolean) rfl rfl d_Mod_isSmall_17)
  · refine xW_pure (fun _ _ _ _ _ => am_iload_n d_Mod_isSmall_6 rfl rfl) ?_
    refine xW_pure (fun _ _ _ _ _ => am_bipush (v := 122) d_Mod_isSmall_7 (by decide)) ?_
    refine xW_ite (fun _ _ _ _ _ => am_icmp_gt (tgt := 16) d_Mod_isSmall_9 (by decide)) (fun _ => ?_) (fun _ => ?_)
    · refine xW_pure (fun _ _ _ _ _ => am_iconst (v := 0) d_Mod_isSmall_16 (by decide)) ?_
      exact xW_ret (fun _ _ _ _ _ => am_zret (ty := .boolean) rfl rfl d_Mod_isSmall_17)
    · refine xW_pure (fun _ _ _ _ _ => am_iconst (v := 1) d_Mod_isSmall_12 (by decide)) ?_
      refine xW_pure (fun _ _ _ _ _ => am_goto (tgt := 17) d_Mod_isSmall_13 (by decide)) ?_
      exact xW_ret (fun _ _ _ _ _ => am_zret (ty := .boolean) rfl rfl d_Mod_isSmall_17)

set_option maxRecDepth 100000 in
def x_Mod_isDigit (d : Nat) (x1 : Int32) (s : HS) : Option (Int32 × HS) := if x1 < 48 then (some (0, s)) else (if 57 < x1 then (some (0, s)) else (some (1, s)))

set_option maxRecDepth 100000 in
set_option maxHeartbeats 4000000 in
theorem dx_Mod_isDigit (O : am_ok K X) (T : am_T K) {d : Nat} {x1 : Int32} {s : HS} : xM cvI K X m_Mod_isDigit d [.int x1] s (x_Mod_isDigit d x1 s) := by
  unfold x_Mod_isDigit
  refine xM_enter (by decide +kernel) (Nat.le_of_ble_eq_true rfl) ?_
  refine xW_pure (fun _ _ _ _ _ => am_iload_n d_Mod_isDigit_0 rfl rfl) ?_
  refine xW_pure (fun _ _ _ _ _ => am_bipush (v := 48) d_Mod_isDigit_1 (by decide)) ?_
  refine xW_ite (fun _ _ _ _ _ => am_icmp_lt (tgt := 16) d_Mod_isDigit_3 (by decide)) (fun _ => ?_) (fun _ => ?_)
  · refine xW_pure (fun _ _ _ _ _ => am_iconst (v := 0) d_Mod_isDigit_16 (by decide)) ?_
    exact xW_ret (fun _ _ _ _ _ => am_zret (ty := .boolean) rfl rfl d_Mod_isDigit_17)
  · refine xW_pure (fun _ _ _ _ _ => am_iload_n d_Mod_isDigit_6 rfl rfl) ?_
    refine xW_pure (fun _ _ _ _ _ => am_bipush (v := 57) d_Mod_isDigit_7 (by decide)) ?_
    refine xW_ite (fun _ _ _ _ _ => am_icmp_gt (tgt := 16) d_Mod_isDigit_9 (by decide)) (fun _ => ?_) (fun _ => ?_)
    · refine xW_pure (fun _ _ _ _ _ => am_iconst (v := 0) d_Mod_isDigit_16 (by decide)) ?_
      exact xW_ret (fun _ _ _ _ _ => am_zret (ty := .boolean) rfl rfl d_Mod_isDigit_17)
    · refine xW_pure (fun _ _ _ _ _ => am_iconst (v := 1) d_Mod_isDigit_12 (by decide)) ?_
      refine xW_pure (fun _ _ _ _ _ => am_goto (tgt := 17) d_Mod_isDigit_13 (by decide)) ?_
      exact xW_ret (fun _ _ _ _ _ => am_zret (ty := .boolean) rfl rfl d_Mod_isDigit_17)

set_option maxRecDepth 100000 in
def x_Mod_isReserved (d : Nat) (x0 : Nat) (s : HS) : Option (Int32 × HS) := match d with
  | 0 => none
  | d + 1 => gd s x0 14 ((gI s x0 14 5).bind fun v1 => ((gI s x0 14 7).bind fun v2 => (loopK (fun (again15 : Int32 × HS → Option (Int32 × HS)) (z15 : Int32 × HS) => (dp 1 d <| (strLen 10).bind fun v3 => (if v3 ≤ ((z15.1 + (v1 - v2)) + 1) then (some (0, z15.2)) else (dp 3 d <| (strAt 10 z15.1).bind fun v4 => (if v4 = 32 then (dp 3 d <| (strAt 10 ((z15.1 + (v1 - v2)) + 1)).bind fun v5 => (if v5 = 32 then (loopK (fun (again61 : Int32 × Int32 × HS → Option (Int32 × HS)) (z61 : Int32 × Int32 × HS) => (if (v1 - v2) ≤ z61.2.1 then (if z61.1 = 0 then (again15 ((z15.1 + 1), z61.2.2)) else (some (1, z61.2.2))) else (if z61.1 = 0 then (if z61.1 = 0 then (again15 ((z15.1 + 1), z61.2.2)) else (some (1, z61.2.2))) else (dp 3 d <| (strAt 10 ((z15.1 + 1) + z61.2.1)).bind fun v6 => ((gR z61.2.2 x0 14 0).bind fun v7 => ((gI z61.2.2 x0 14 7).bind fun v8 => ((aB z61.2.2 v7 (v8 + z61.2.1)).bind fun v9 => (if v6 = v9 then (again61 (1, (z61.2.1 + 1), z61.2.2)) else (again61 (0, (z61.2.1 + 1), z61.2.2)))))))))) FU (1, 0, z15.2)) else (loopK (fun (again61 : Int32 × Int32 × HS → Option (Int32 × HS)) (z61 : Int32 × Int32 × HS) => (if (v1 - v2) ≤ z61.2.1 then (if z61.1 = 0 then (again15 ((z15.1 + 1), z61.2.2)) else (some (1, z61.2.2))) else (if z61.1 = 0 then (if z61.1 = 0 then (again15 ((z15.1 + 1), z61.2.2)) else (some (1, z61.2.2))) else (dp 3 d <| (strAt 10 ((z15.1 + 1) + z61.2.1)).bind fun v10 => ((gR z61.2.2 x0 14 0).bind fun v11 => ((gI z61.2.2 x0 14 7).bind fun v12 => ((aB z61.2.2 v11 (v12 + z61.2.1)).bind fun v13 => (if v10 = v13 then (again61 (1, (z61.2.1 + 1), z61.2.2)) else (again61 (0, (z61.2.1 + 1), z61.2.2)))))))))) FU (0, 0, z15.2)))) else (loopK (fun (again61 : Int32 × Int32 × HS → Option (Int32 × HS)) (z61 : Int32 × Int32 × HS) => (if (v1 - v2) ≤ z61.2.1 then (if z61.1 = 0 then (again15 ((z15.1 + 1), z61.2.2)) else (some (1, z61.2.2))) else (if z61.1 = 0 then (if z61.1 = 0 then (again15 ((z15.1 + 1), z61.2.2)) else (some (1, z61.2.2))) else (dp 3 d <| (strAt 10 ((z15.1 + 1) + z61.2.1)).bind fun v14 => ((gR z61.2.2 x0 14 0).bind fun v15 => ((gI z61.2.2 x0 14 7).bind fun v16 => ((aB z61.2.2 v15 (v16 + z61.2.1)).bind fun v17 => (if v14 = v17 then (again61 (1, (z61.2.1 + 1), z61.2.2)) else (again61 (0, (z61.2.1 + 1), z61.2.2)))))))))) FU (0, 0, z15.2))))))) FU (0, s))))

set_option maxRecDepth 100000 in
set_option maxHeartbeats 4000000 in
theorem dx_Mod_isReserved (O : am_ok K X) (T : am_T K) {d : Nat} {x0 : Nat} {s : HS} : xM cvI K X m_Mod_isReserved d [.ref x0] s (x_Mod_isReserved d x0 s) := by
  cases d with
  | zero => exact xM_none
  | succ d =>
    unfold x_Mod_isReserved
    refine xM_enter (by decide +kernel) (Nat.le_of_ble_eq_true rfl) ?_
    refine xW_gd (fun _ => ?_)
    refine xW_pure (fun _ _ _ _ _ => am_ldcS (T.2.2 2 ("StowTongueModel", 1, " fun let if else while return abort print nil size push pop ") rfl) d_Mod_isReserved_0) ?_
    refine xW_pure (fun _ _ _ _ _ => am_astore_n d_Mod_isReserved_2 rfl (Nat.le_of_ble_eq_true rfl)) ?_
    refine xW_pure (fun _ _ _ _ _ => am_aload_n d_Mod_isReserved_3 rfl rfl) ?_
    refine xW_gI O f_Mod_3 d_Mod_isReserved_4 (fun v1 _ => ?_)
    refine xW_pure (fun _ _ _ _ _ => am_aload_n d_Mod_isReserved_7 rfl rfl) ?_
    refine xW_gI O f_Mod_9 d_Mod_isReserved_8 (fun v2 _ => ?_)
    refine xW_pure (fun _ _ _ _ _ => am_isub d_Mod_isReserved_11) ?_
    refine xW_pure (fun _ _ _ _ _ => am_istore_n d_Mod_isReserved_12 rfl (Nat.le_of_ble_eq_true rfl)) ?_
    refine xW_pure (fun _ _ _ _ _ => am_iconst (v := 0) d_Mod_isReserved_13 (by decide)) ?_
    refine xW_pure (fun _ _ _ _ _ => am_istore_n d_Mod_isReserved_14 rfl (Nat.le_of_ble_eq_true rfl)) ?_
    refine xW_locs (lv' := [(0, .ref x0), (1, .ref 10), (2, .int (v1 - v2)), (3, .int 0)]) rfl ?_
    refine xW_loop (lvf := fun (z15 : Int32 × HS) => [(0, .ref x0), (1, .ref 10), (2, .int (v1 - v2)), (3, .int z15.1)]) (hsf := fun (z15 : Int32 × HS) => z15.2) (fun again15 ih15 z15 => ?_) FU (0, s)
    refine xW_pure (fun _ _ _ _ _ => am_iload_n d_Mod_isReserved_15 rfl rfl) ?_
    refine xW_pure (fun _ _ _ _ _ => am_iload_n d_Mod_isReserved_16 rfl rfl) ?_
    refine xW_pure (fun _ _ _ _ _ => am_iadd d_Mod_isReserved_17) ?_
    refine xW_pure (fun _ _ _ _ _ => am_iconst (v := 1) d_Mod_isReserved_18 (by decide)) ?_
    refine xW_pure (fun _ _ _ _ _ => am_iadd d_Mod_isReserved_19) ?_
    refine xW_pure (fun _ _ _ _ _ => am_aload_n d_Mod_isReserved_20 rfl rfl) ?_
    refine xW_strLen O T l_Mod_12 ⟨w_210, w_211⟩ rfl (Nat.le_of_ble_eq_true rfl) d_Mod_isReserved_21 (fun v3 _ => ?_)
    refine xW_ite (fun _ _ _ _ _ => am_icmp_ge (tgt := 123) d_Mod_isReserved_24 (by decide)) (fun _ => ?_) (fun _ => ?_)
    · refine xW_pure (fun _ _ _ _ _ => am_iconst (v := 0) d_Mod_isReserved_123 (by decide)) ?_
      exact xW_ret (fun _ _ _ _ _ => am_zret (ty := .boolean) rfl rfl d_Mod_isReserved_124)
    · refine xW_pure (fun _ _ _ _ _ => am_aload_n d_Mod_isReserved_27 rfl rfl) ?_
      refine xW_pure (fun _ _ _ _ _ => am_iload_n d_Mod_isReserved_28 rfl rfl) ?_
      refine xW_strAt O T l_Mod_18 ⟨w_220, w_221⟩ rfl (Nat.le_of_ble_eq_true rfl) d_Mod_isReserved_29 (fun v4 _ => ?_)
      refine xW_pure (fun _ _ _ _ _ => am_bipush (v := 32) d_Mod_isReserved_32 (by decide)) ?_
      refine xW_ite (fun _ _ _ _ _ k1 k2 => am_icmp_ne (tgt := 55) d_Mod_isReserved_34 (by decide) k2 k1) (fun _ => ?_) (fun _ => ?_)
      · refine xW_pure (fun _ _ _ _ _ => am_aload_n d_Mod_isReserved_37 rfl rfl) ?_
        refine xW_pure (fun _ _ _ _ _ => am_iload_n d_Mod_isReserved_38 rfl rfl) ?_
        refine xW_pure (fun _ _ _ _ _ => am_iload_n d_Mod_isReserved_39 rfl rfl) ?_
        refine xW_pure (fun _ _ _ _ _ => am_iadd d_Mod_isReserved_40) ?_
        refine xW_pure (fun _ _ _ _ _ => am_iconst (v := 1) d_Mod_isReserved_41 (by decide)) ?_
        refine xW_pure (fun _ _ _ _ _ => am_iadd d_Mod_isReserved_42) ?_
        refine xW_strAt O T l_Mod_18 ⟨w_220, w_221⟩ rfl (Nat.le_of_ble_eq_true rfl) d_Mod_isReserved_43 (fun v5 _ => ?_)
        refine xW_pure (fun _ _ _ _ _ => am_bipush (v := 32) d_Mod_isReserved_46 (by decide)) ?_
        refine xW_ite (fun _ _ _ _ _ k1 k2 => am_icmp_ne (tgt := 55) d_Mod_isReserved_48 (by decide) k2 k1) (fun _ => ?_) (fun _ => ?_)
        · refine xW_pure (fun _ _ _ _ _ => am_iconst (v := 1) d_Mod_isReserved_51 (by decide)) ?_
          refine xW_pure (fun _ _ _ _ _ => am_goto (tgt := 56) d_Mod_isReserved_52 (by decide)) ?_
          refine xW_pure (fun _ _ _ _ _ => am_istore d_Mod_isReserved_56 (Nat.le_of_ble_eq_true rfl)) ?_
          refine xW_pure (fun _ _ _ _ _ => am_iconst (v := 0) d_Mod_isReserved_58 (by decide)) ?_
          refine xW_pure (fun _ _ _ _ _ => am_istore d_Mod_isReserved_59 (Nat.le_of_ble_eq_true rfl)) ?_
          refine xW_locs (lv' := [(0, .ref x0), (1, .ref 10), (2, .int (v1 - v2)), (3, .int z15.1), (4, .int 1), (5, .int 0)]) rfl ?_
          refine xW_loop (lvf := fun (z61 : Int32 × Int32 × HS) => [(0, .ref x0), (1, .ref 10), (2, .int (v1 - v2)), (3, .int z15.1), (4, .int z61.1), (5, .int z61.2.1)]) (hsf := fun (z61 : Int32 × Int32 × HS) => z61.2.2) (fun again61 ih61 z61 => ?_) FU (1, 0, z15.2)
          refine xW_pure (fun _ _ _ _ _ => am_iload d_Mod_isReserved_61 rfl) ?_
          refine xW_pure (fun _ _ _ _ _ => am_iload_n d_Mod_isReserved_63 rfl rfl) ?_
          refine xW_ite (fun _ _ _ _ _ => am_icmp_ge (tgt := 110) d_Mod_isReserved_64 (by decide)) (fun _ => ?_) (fun _ => ?_)
          · refine xW_pure (fun _ _ _ _ _ => am_iload d_Mod_isReserved_110 rfl) ?_
            refine xW_ite (fun _ _ _ _ _ => am_if_eq (tgt := 117) d_Mod_isReserved_112 (by decide)) (fun _ => ?_) (fun _ => ?_)
            · refine xW_pure (fun _ _ _ _ _ => am_iinc (v := 1) d_Mod_isReserved_117 rfl (by decide) (Nat.le_of_ble_eq_true rfl)) ?_
              refine xW_pure (fun _ _ _ _ _ => am_goto (tgt := 15) d_Mod_isReserved_120 (by decide)) ?_
              refine xW_locs (lv' := [(0, .ref x0), (1, .ref 10), (2, .int (v1 - v2)), (3, .int (z15.1 + 1))]) rfl ?_
              exact ih15 ((z15.1 + 1), z61.2.2)
            · refine xW_pure (fun _ _ _ _ _ => am_iconst (v := 1) d_Mod_isReserved_115 (by decide)) ?_
              exact xW_ret (fun _ _ _ _ _ => am_zret (ty := .boolean) rfl rfl d_Mod_isReserved_116)
          · refine xW_pure (fun _ _ _ _ _ => am_iload d_Mod_isReserved_67 rfl) ?_
            refine xW_ite (fun _ _ _ _ _ => am_if_eq (tgt := 110) d_Mod_isReserved_69 (by decide)) (fun _ => ?_) (fun _ => ?_)
            · refine xW_pure (fun _ _ _ _ _ => am_iload d_Mod_isReserved_110 rfl) ?_
              refine xW_ite (fun _ _ _ _ _ => am_if_eq (tgt := 117) d_Mod_isReserved_112 (by decide)) (fun _ => ?_) (fun _ => ?_)
              · refine xW_pure (fun _ _ _ _ _ => am_iinc (v := 1) d_Mod_isReserved_117 rfl (by decide) (Nat.le_of_ble_eq_true rfl)) ?_
                refine xW_pure (fun _ _ _ _ _ => am_goto (tgt := 15) d_Mod_isReserved_120 (by decide)) ?_
                refine xW_locs (lv' := [(0, .ref x0), (1, .ref 10), (2, .int (v1 - v2)), (3, .int (z15.1 + 1))]) rfl ?_
                exact ih15 ((z15.1 + 1), z61.2.2)
              · refine xW_pure (fun _ _ _ _ _ => am_iconst (v := 1) d_Mod_isReserved_115 (by decide)) ?_
                exact xW_ret (fun _ _ _ _ _ => am_zret (ty := .boolean) rfl rfl d_Mod_isReserved_116)
            · refine xW_pure (fun _ _ _ _ _ => am_aload_n d_Mod_isReserved_72 rfl rfl) ?_
              refine xW_pure (fun _ _ _ _ _ => am_iload_n d_Mod_isReserved_73 rfl rfl) ?_
              refine xW_pure (fun _ _ _ _ _ => am_iconst (v := 1) d_Mod_isReserved_74 (by decide)) ?_
              refine xW_pure (fun _ _ _ _ _ => am_iadd d_Mod_isReserved_75) ?_
              refine xW_pure (fun _ _ _ _ _ => am_iload d_Mod_isReserved_76 rfl) ?_
              refine xW_pure (fun _ _ _ _ _ => am_iadd d_Mod_isReserved_78) ?_
              refine xW_strAt O T l_Mod_18 ⟨w_220, w_221⟩ rfl (Nat.le_of_ble_eq_true rfl) d_Mod_isReserved_79 (fun v6 _ => ?_)
              refine xW_pure (fun _ _ _ _ _ => am_aload_n d_Mod_isReserved_82 rfl rfl) ?_
              refine xW_gR O f_Mod_22 d_Mod_isReserved_83 (fun v7 _ => ?_)
              refine xW_pure (fun _ _ _ _ _ => am_aload_n d_Mod_isReserved_86 rfl rfl) ?_
              refine xW_gI O f_Mod_9 d_Mod_isReserved_87 (fun v8 _ => ?_)
              refine xW_pure (fun _ _ _ _ _ => am_iload d_Mod_isReserved_90 rfl) ?_
              refine xW_pure (fun _ _ _ _ _ => am_iadd d_Mod_isReserved_92) ?_
              refine xW_aB O d_Mod_isReserved_93 (fun v9 _ => ?_)
              refine xW_ite (fun _ _ _ _ _ k1 k2 => am_icmp_ne (tgt := 101) d_Mod_isReserved_94 (by decide) k2 k1) (fun _ => ?_) (fun _ => ?_)
              · refine xW_pure (fun _ _ _ _ _ => am_iconst (v := 1) d_Mod_isReserved_97 (by decide)) ?_
                refine xW_pure (fun _ _ _ _ _ => am_goto (tgt := 102) d_Mod_isReserved_98 (by decide)) ?_
                refine xW_pure (fun _ _ _ _ _ => am_istore d_Mod_isReserved_102 (Nat.le_of_ble_eq_true rfl)) ?_
                refine xW_pure (fun _ _ _ _ _ => am_iinc (v := 1) d_Mod_isReserved_104 rfl (by decide) (Nat.le_of_ble_eq_true rfl)) ?_
                refine xW_pure (fun _ _ _ _ _ => am_goto (tgt := 61) d_Mod_isReserved_107 (by decide)) ?_
                refine xW_locs (lv' := [(0, .ref x0), (1, .ref 10), (2, .int (v1 - v2)), (3, .int z15.1), (4, .int 1), (5, .int (z61.2.1 + 1))]) rfl ?_
                exact ih61 (1, (z61.2.1 + 1), z61.2.2)
              · refine xW_pure (fun _ _ _ _ _ => am_iconst (v := 0) d_Mod_isReserved_101 (by decide)) ?_
                refine xW_pure (fun _ _ _ _ _ => am_istore d_Mod_isReserved_102 (Nat.le_of_ble_eq_true rfl)) ?_
                refine xW_pure (fun _ _ _ _ _ => am_iinc (v := 1) d_Mod_isReserved_104 rfl (by decide) (Nat.le_of_ble_eq_true rfl)) ?_
                refine xW_pure (fun _ _ _ _ _ => am_goto (tgt := 61) d_Mod_isReserved_107 (by decide)) ?_
                refine xW_locs (lv' := [(0, .ref x0), (1, .ref 10), (2, .int (v1 - v2)), (3, .int z15.1), (4, .int 0), (5, .int (z61.2.1 + 1))]) rfl ?_
                exact ih61 (0, (z61.2.1 + 1), z61.2.2)
        · refine xW_pure (fun _ _ _ _ _ => am_iconst (v := 0) d_Mod_isReserved_55 (by decide)) ?_
          refine xW_pure (fun _ _ _ _ _ => am_istore d_Mod_isReserved_56 (Nat.le_of_ble_eq_true rfl)) ?_
          refine xW_pure (fun _ _ _ _ _ => am_iconst (v := 0) d_Mod_isReserved_58 (by decide)) ?_
          refine xW_pure (fun _ _ _ _ _ => am_istore d_Mod_isReserved_59 (Nat.le_of_ble_eq_true rfl)) ?_
          refine xW_locs (lv' := [(0, .ref x0), (1, .ref 10), (2, .int (v1 - v2)), (3, .int z15.1), (4, .int 0), (5, .int 0)]) rfl ?_
          refine xW_loop (lvf := fun (z61 : Int32 × Int32 × HS) => [(0, .ref x0), (1, .ref 10), (2, .int (v1 - v2)), (3, .int z15.1), (4, .int z61.1), (5, .int z61.2.1)]) (hsf := fun (z61 : Int32 × Int32 × HS) => z61.2.2) (fun again61 ih61 z61 => ?_) FU (0, 0, z15.2)
          refine xW_pure (fun _ _ _ _ _ => am_iload d_Mod_isReserved_61 rfl) ?_
          refine xW_pure (fun _ _ _ _ _ => am_iload_n d_Mod_isReserved_63 rfl rfl) ?_
          refine xW_ite (fun _ _ _ _ _ => am_icmp_ge (tgt := 110) d_Mod_isReserved_64 (by decide)) (fun _ => ?_) (fun _ => ?_)
          · refine xW_pure (fun _ _ _ _ _ => am_iload d_Mod_isReserved_110 rfl) ?_
            refine xW_ite (fun _ _ _ _ _ => am_if_eq (tgt := 117) d_Mod_isReserved_112 (by decide)) (fun _ => ?_) (fun _ => ?_)
            · refine xW_pure (fun _ _ _ _ _ => am_iinc (v := 1) d_Mod_isReserved_117 rfl (by decide) (Nat.le_of_ble_eq_true rfl)) ?_
              refine xW_pure (fun _ _ _ _ _ => am_goto (tgt := 15) d_Mod_isReserved_120 (by decide)) ?_
              refine xW_locs (lv' := [(0, .ref x0), (1, .ref 10), (2, .int (v1 - v2)), (3, .int (z15.1 + 1))]) rfl ?_
              exact ih15 ((z15.1 + 1), z61.2.2)
            · refine xW_pure (fun _ _ _ _ _ => am_iconst (v := 1) d_Mod_isReserved_115 (by decide)) ?_
              exact xW_ret (fun _ _ _ _ _ => am_zret (ty := .boolean) rfl rfl d_Mod_isReserved_116)
          · refine xW_pure (fun _ _ _ _ _ => am_iload d_Mod_isReserved_67 rfl) ?_
            refine xW_ite (fun _ _ _ _ _ => am_if_eq (tgt := 110) d_Mod_isReserved_69 (by decide)) (fun _ => ?_) (fun _ => ?_)
            · refine xW_pure (fun _ _ _ _ _ => am_iload d_Mod_isReserved_110 rfl) ?_
              refine xW_ite (fun _ _ _ _ _ => am_if_eq (tgt := 117) d_Mod_isReserved_112 (by decide)) (fun _ => ?_) (fun _ => ?_)
              · refine xW_pure (fun _ _ _ _ _ => am_iinc (v := 1) d_Mod_isReserved_117 rfl (by decide) (Nat.le_of_ble_eq_true rfl)) ?_
                refine xW_pure (fun _ _ _ _ _ => am_goto (tgt := 15) d_Mod_isReserved_120 (by decide)) ?_
                refine xW_locs (lv' := [(0, .ref x0), (1, .ref 10), (2, .int (v1 - v2)), (3, .int (z15.1 + 1))]) rfl ?_
                exact ih15 ((z15.1 + 1), z61.2.2)
              · refine xW_pure (fun _ _ _ _ _ => am_iconst (v := 1) d_Mod_isReserved_115 (by decide)) ?_
                exact xW_ret (fun _ _ _ _ _ => am_zret (ty := .boolean) rfl rfl d_Mod_isReserved_116)
            · refine xW_pure (fun _ _ _ _ _ => am_aload_n d_Mod_isReserved_72 rfl rfl) ?_
              refine xW_pure (fun _ _ _ _ _ => am_iload_n d_Mod_isReserved_73 rfl rfl) ?_
              refine xW_pure (fun _ _ _ _ _ => am_iconst (v := 1) d_Mod_isReserved_74 (by decide)) ?_
              refine xW_pure (fun _ _ _ _ _ => am_iadd d_Mod_isReserved_75) ?_
              refine xW_pure (fun _ _ _ _ _ => am_iload d_Mod_isReserved_76 rfl) ?_
              refine xW_pure (fun _ _ _ _ _ => am_iadd d_Mod_isReserved_78) ?_
              refine xW_strAt O T l_Mod_18 ⟨w_220, w_221⟩ rfl (Nat.le_of_ble_eq_true rfl) d_Mod_isReserved_79 (fun v10 _ => ?_)
              refine xW_pure (fun _ _ _ _ _ => am_aload_n d_Mod_isReserved_82 rfl rfl) ?_
              refine xW_gR O f_Mod_22 d_Mod_isReserved_83 (fun v11 _ => ?_)
              refine xW_pure (fun _ _ _ _ _ => am_aload_n d_Mod_isReserved_86 rfl rfl) ?_
              refine xW_gI O f_Mod_9 d_Mod_isReserved_87 (fun v12 _ => ?_)
              refine xW_pure (fun _ _ _ _ _ => am_iload d_Mod_isReserved_90 rfl) ?_
              refine xW_pure (fun _ _ _ _ _ => am_iadd d_Mod_isReserved_92) ?_
              refine xW_aB O d_Mod_isReserved_93 (fun v13 _ => ?_)
              refine xW_ite (fun _ _ _ _ _ k1 k2 => am_icmp_ne (tgt := 101) d_Mod_isReserved_94 (by decide) k2 k1) (fun _ => ?_) (fun _ => ?_)
              · refine xW_pure (fun _ _ _ _ _ => am_iconst (v := 1) d_Mod_isReserved_97 (by decide)) ?_
                refine xW_pure (fun _ _ _ _ _ => am_goto (tgt := 102) d_Mod_isReserved_98 (by decide)) ?_
                refine xW_pure (fun _ _ _ _ _ => am_istore d_Mod_isReserved_102 (Nat.le_of_ble_eq_true rfl)) ?_
                refine xW_pure (fun _ _ _ _ _ => am_iinc (v := 1) d_Mod_isReserved_104 rfl (by decide) (Nat.le_of_ble_eq_true rfl)) ?_
                refine xW_pure (fun _ _ _ _ _ => am_goto (tgt := 61) d_Mod_isReserved_107 (by decide)) ?_
                refine xW_locs (lv' := [(0, .ref x0), (1, .ref 10), (2, .int (v1 - v2)), (3, .int z15.1), (4, .int 1), (5, .int (z61.2.1 + 1))]) rfl ?_
                exact ih61 (1, (z61.2.1 + 1), z61.2.2)
              · refine xW_pure (fun _ _ _ _ _ => am_iconst (v := 0) d_Mod_isReserved_101 (by decide)) ?_
                refine xW_pure (fun _ _ _ _ _ => am_istore d_Mod_isReserved_102 (Nat.le_of_ble_eq_true rfl)) ?_
                refine xW_pure (fun _ _ _ _ _ => am_iinc (v := 1) d_Mod_isReserved_104 rfl (by decide) (Nat.le_of_ble_eq_true rfl)) ?_
                refine xW_pure (fun _ _ _ _ _ => am_goto (tgt := 61) d_Mod_isReserved_107 (by decide)) ?_
                refine xW_locs (lv' := [(0, .ref x0), (1, .ref 10), (2, .int (v1 - v2)), (3, .int z15.1), (4, .int 0), (5, .int (z61.2.1 + 1))]) rfl ?_
                exact ih61 (0, (z61.2.1 + 1), z61.2.2)
      · refine xW_pure (fun _ _ _ _ _ => am_iconst (v := 0) d_Mod_isReserved_55 (by decide)) ?_
        refine xW_pure (fun _ _ _ _ _ => am_istore d_Mod_isReserved_56 (Nat.le_of_ble_eq_true rfl)) ?_
        refine xW_pure (fun _ _ _ _ _ => am_iconst (v := 0) d_Mod_isReserved_58 (by decide)) ?_
        refine xW_pure (fun _ _ _ _ _ => am_istore d_Mod_isReserved_59 (Nat.le_of_ble_eq_true rfl)) ?_
        refine xW_locs (lv' := [(0, .ref x0), (1, .ref 10), (2, .int (v1 - v2)), (3, .int z15.1), (4, .int 0), (5, .int 0)]) rfl ?_
        refine xW_loop (lvf := fun (z61 : Int32 × Int32 × HS) => [(0, .ref x0), (1, .ref 10), (2, .int (v1 - v2)), (3, .int z15.1), (4, .int z61.1), (5, .int z61.2.1)]) (hsf := fun (z61 : Int32 × Int32 × HS) => z61.2.2) (fun again61 ih61 z61 => ?_) FU (0, 0, z15.2)
        refine xW_pure (fun _ _ _ _ _ => am_iload d_Mod_isReserved_61 rfl) ?_
        refine xW_pure (fun _ _ _ _ _ => am_iload_n d_Mod_isReserved_63 rfl rfl) ?_
        refine xW_ite (fun _ _ _ _ _ => am_icmp_ge (tgt := 110) d_Mod_isReserved_64 (by decide)) (fun _ => ?_) (fun _ => ?_)
        · refine xW_pure (fun _ _ _ _ _ => am_iload d_Mod_isReserved_110 rfl) ?_
          refine xW_ite (fun _ _ _ _ _ => am_if_eq (tgt := 117) d_Mod_isReserved_112 (by decide)) (fun _ => ?_) (fun _ => ?_)
          · refine xW_pure (fun _ _ _ _ _ => am_iinc (v := 1) d_Mod_isReserved_117 rfl (by decide) (Nat.le_of_ble_eq_true rfl)) ?_
            refine xW_pure (fun _ _ _ _ _ => am_goto (tgt := 15) d_Mod_isReserved_120 (by decide)) ?_
            refine xW_locs (lv' := [(0, .ref x0), (1, .ref 10), (2, .int (v1 - v2)), (3, .int (z15.1 + 1))]) rfl ?_
            exact ih15 ((z15.1 + 1), z61.2.2)
          · refine xW_pure (fun _ _ _ _ _ => am_iconst (v := 1) d_Mod_isReserved_115 (by decide)) ?_
            exact xW_ret (fun _ _ _ _ _ => am_zret (ty := .boolean) rfl rfl d_Mod_isReserved_116)
        · refine xW_pure (fun _ _ _ _ _ => am_iload d_Mod_isReserved_67 rfl) ?_
          refine xW_ite (fun _ _ _ _ _ => am_if_eq (tgt := 110) d_Mod_isReserved_69 (by decide)) (fun _ => ?_) (fun _ => ?_)
          · refine xW_pure (fun _ _ _ _ _ => am_iload d_Mod_isReserved_110 rfl) ?_
            refine xW_ite (fun _ _ _ _ _ => am_if_eq (tgt := 117) d_Mod_isReserved_112 (by decide)) (fun _ => ?_) (fun _ => ?_)
            · refine xW_pure (fun _ _ _ _ _ => am_iinc (v := 1) d_Mod_isReserved_117 rfl (by decide) (Nat.le_of_ble_eq_true rfl)) ?_
              refine xW_pure (fun _ _ _ _ _ => am_goto (tgt := 15) d_Mod_isReserved_120 (by decide)) ?_
              refine xW_locs (lv' := [(0, .ref x0), (1, .ref 10), (2, .int (v1 - v2)), (3, .int (z15.1 + 1))]) rfl ?_
              exact ih15 ((z15.1 + 1), z61.2.2)
            · refine xW_pure (fun _ _ _ _ _ => am_iconst (v := 1) d_Mod_isReserved_115 (by decide)) ?_
              exact xW_ret (fun _ _ _ _ _ => am_zret (ty := .boolean) rfl rfl d_Mod_isReserved_116)
          · refine xW_pure (fun _ _ _ _ _ => am_aload_n d_Mod_isReserved_72 rfl rfl) ?_
            refine xW_pure (fun _ _ _ _ _ => am_iload_n d_Mod_isReserved_73 rfl rfl) ?_
            refine xW_pure (fun _ _ _ _ _ => am_iconst (v := 1) d_Mod_isReserved_74 (by decide)) ?_
            refine xW_pure (fun _ _ _ _ _ => am_iadd d_Mod_isReserved_75) ?_
            refine xW_pure (fun _ _ _ _ _ => am_iload d_Mod_isReserved_76 rfl) ?_
            refine xW_pure (fun _ _ _ _ _ => am_iadd d_Mod_isReserved_78) ?_
            refine xW_strAt O T l_Mod_18 ⟨w_220, w_221⟩ rfl (Nat.le_of_ble_eq_true rfl) d_Mod_isReserved_79 (fun v14 _ => ?_)
            refine xW_pure (fun _ _ _ _ _ => am_aload_n d_Mod_isReserved_82 rfl rfl) ?_
            refine xW_gR O f_Mod_22 d_Mod_isReserved_83 (fun v15 _ => ?_)
            refine xW_pure (fun _ _ _ _ _ => am_aload_n d_Mod_isReserved_86 rfl rfl) ?_
            refine xW_gI O f_Mod_9 d_Mod_isReserved_87 (fun v16 _ => ?_)
            refine xW_pure (fun _ _ _ _ _ => am_iload d_Mod_isReserved_90 rfl) ?_
            refine xW_pure (fun _ _ _ _ _ => am_iadd d_Mod_isReserved_92) ?_
            refine xW_aB O d_Mod_isReserved_93 (fun v17 _ => ?_)
            refine xW_ite (fun _ _ _ _ _ k1 k2 => am_icmp_ne (tgt := 101) d_Mod_isReserved_94 (by decide) k2 k1) (fun _ => ?_) (fun _ => ?_)
            · refine xW_pure (fun _ _ _ _ _ => am_iconst (v := 1) d_Mod_isReserved_97 (by decide)) ?_
              refine xW_pure (fun _ _ _ _ _ => am_goto (tgt := 102) d_Mod_isReserved_98 (by decide)) ?_
              refine xW_pure (fun _ _ _ _ _ => am_istore d_Mod_isReserved_102 (Nat.le_of_ble_eq_true rfl)) ?_
              refine xW_pure (fun _ _ _ _ _ => am_iinc (v := 1) d_Mod_isReserved_104 rfl (by decide) (Nat.le_of_ble_eq_true rfl)) ?_
              refine xW_pure (fun _ _ _ _ _ => am_goto (tgt := 61) d_Mod_isReserved_107 (by decide)) ?_
              refine xW_locs (lv' := [(0, .ref x0), (1, .ref 10), (2, .int (v1 - v2)), (3, .int z15.1), (4, .int 1), (5, .int (z61.2.1 + 1))]) rfl ?_
              exact ih61 (1, (z61.2.1 + 1), z61.2.2)
            · refine xW_pure (fun _ _ _ _ _ => am_iconst (v := 0) d_Mod_isReserved_101 (by decide)) ?_
              refine xW_pure (fun _ _ _ _ _ => am_istore d_Mod_isReserved_102 (Nat.le_of_ble_eq_true rfl)) ?_
              refine xW_pure (fun _ _ _ _ _ => am_iinc (v := 1) d_Mod_isReserved_104 rfl (by decide) (Nat.le_of_ble_eq_true rfl)) ?_
              refine xW_pure (fun _ _ _ _ _ => am_goto (tgt := 61) d_Mod_isReserved_107 (by decide)) ?_
              refine xW_locs (lv' := [(0, .ref x0), (1, .ref 10), (2, .int (v1 - v2)), (3, .int z15.1), (4, .int 0), (5, .int (z61.2.1 + 1))]) rfl ?_
              exact ih61 (0, (z61.2.1 + 1), z61.2.2)

theorem ob_Mod_isReserved {d : Nat} {x0 : Nat} {s : HS} {y : Int32 × HS} (h : x_Mod_isReserved d x0 s = some y) : isO s x0 14 = true := by
  cases d with
  | zero => cases h
  | succ d => exact (gd_spec h).1

set_option maxRecDepth 100000 in
def x_Mod_is_b16 (d : Nat) (l0 : Nat) (l1 : Nat) (s : HS) : Option (Int32 × HS) := (gI s l0 14 8).bind fun v2 => ((gI s l0 14 7).bind fun v3 => (dp 1 d <| (strLen l1).bind fun v4 => (if (v2 - v3) = v4 then (loopK (fun (again36 : Int32 × HS → Option (Int32 × HS)) (z36 : Int32 × HS) => (dp 1 d <| (strLen l1).bind fun v5 => (if v5 ≤ z36.1 then (some (1, z36.2)) else ((gR z36.2 l0 14 0).bind fun v6 => ((gI z36.2 l0 14 7).bind fun v7 => ((aB z36.2 v6 (v7 + z36.1)).bind fun v8 => (dp 3 d <| (strAt l1 z36.1).bind fun v9 => (if v8 = v9 then (again36 ((z36.1 + 1), z36.2)) else (some (0, z36.2)))))))))) FU (0, s)) else (some (0, s)))))

set_option maxRecDepth 100000 in
set_option maxHeartbeats 4000000 in
theorem dx_Mod_is_b16 (O : am_ok K X) (T : am_T K) {d : Nat} {l0 : Nat} {l1 : Nat} {s : HS} : xW cvI K X m_Mod_is (d + 1) 16 [(0, .ref l0), (1, .ref l1)] [] s (x_Mod_is_b16 d l0 l1 s) := by
  unfold x_Mod_is_b16
  refine xW_pure (fun _ _ _ _ _ => am_aload_n d_Mod_is_16 rfl rfl) ?_
  refine xW_gI O f_Mod_74 d_Mod_is_17 (fun v2 _ => ?_)
  refine xW_pure (fun _ _ _ _ _ => am_aload_n d_Mod_is_20 rfl rfl) ?_
  refine xW_gI O f_Mod_9 d_Mod_is_21 (fun v3 _ => ?_)
  refine xW_pure (fun _ _ _ _ _ => am_isub d_Mod_is_24) ?_
  refine xW_pure (fun _ _ _ _ _ => am_aload_n d_Mod_is_25 rfl rfl) ?_
  refine xW_strLen O T l_Mod_12 ⟨w_210, w_211⟩ rfl (Nat.le_of_ble_eq_true rfl) d_Mod_is_26 (fun v4 _ => ?_)
  refine xW_ite (fun _ _ _ _ _ => am_icmp_eq (tgt := 34) d_Mod_is_29 (by decide)) (fun _ => ?_) (fun _ => ?_)
  · refine xW_pure (fun _ _ _ _ _ => am_iconst (v := 0) d_Mod_is_34 (by decide)) ?_
    refine xW_pure (fun _ _ _ _ _ => am_istore_n d_Mod_is_35 rfl (Nat.le_of_ble_eq_true rfl)) ?_
    refine xW_locs (lv' := [(0, .ref l0), (1, .ref l1), (2, .int 0)]) rfl ?_
    refine xW_loop (lvf := fun (z36 : Int32 × HS) => [(0, .ref l0), (1, .ref l1), (2, .int z36.1)]) (hsf := fun (z36 : Int32 × HS) => z36.2) (fun again36 ih36 z36 => ?_) FU (0, s)
    refine xW_pure (fun _ _ _ _ _ => am_iload_n d_Mod_is_36 rfl rfl) ?_
    refine xW_pure (fun _ _ _ _ _ => am_aload_n d_Mod_is_37 rfl rfl) ?_
    refine xW_strLen O T l_Mod_12 ⟨w_210, w_211⟩ rfl (Nat.le_of_ble_eq_true rfl) d_Mod_is_38 (fun v5 _ => ?_)
    refine xW_ite (fun _ _ _ _ _ => am_icmp_ge (tgt := 71) d_Mod_is_41 (by decide)) (fun _ => ?_) (fun _ => ?_)
    · refine xW_pure (fun _ _ _ _ _ => am_iconst (v := 1) d_Mod_is_71 (by decide)) ?_
      exact xW_ret (fun _ _ _ _ _ => am_zret (ty := .boolean) rfl rfl d_Mod_is_72)
    · refine xW_pure (fun _ _ _ _ _ => am_aload_n d_Mod_is_44 rfl rfl) ?_
      refine xW_gR O f_Mod_22 d_Mod_is_45 (fun v6 _ => ?_)
      refine xW_pure (fun _ _ _ _ _ => am_aload_n d_Mod_is_48 rfl rfl) ?_
      refine xW_gI O f_Mod_9 d_Mod_is_49 (fun v7 _ => ?_)
      refine xW_pure (fun _ _ _ _ _ => am_iload_n d_Mod_is_52 rfl rfl) ?_
      refine xW_pure (fun _ _ _ _ _ => am_iadd d_Mod_is_53) ?_
      refine xW_aB O d_Mod_is_54 (fun v8 _ => ?_)
      refine xW_pure (fun _ _ _ _ _ => am_aload_n d_Mod_is_55 rfl rfl) ?_
      refine xW_pure (fun _ _ _ _ _ => am_iload_n d_Mod_is_56 rfl rfl) ?_
      refine xW_strAt O T l_Mod_18 ⟨w_220, w_221⟩ rfl (Nat.le_of_ble_eq_true rfl) d_Mod_is_57 (fun v9 _ => ?_)
      refine xW_ite (fun _ _ _ _ _ => am_icmp_eq (tgt := 65) d_Mod_is_60 (by decide)) (fun _ => ?_) (fun _ => ?_)
      · refine xW_pure (fun _ _ _ _ _ => am_iinc (v := 1) d_Mod_is_65 rfl (by decide) (Nat.le_of_ble_eq_true rfl)) ?_
        refine xW_pure (fun _ _ _ _ _ => am_goto (tgt := 36) d_Mod_is_68 (by decide)) ?_
        refine xW_locs (lv' := [(0, .ref l0), (1, .ref l1), (2, .int (z36.1 + 1))]) rfl ?_
        exact ih36 ((z36.1 + 1), z36.2)
      · refine xW_pure (fun _ _ _ _ _ => am_iconst (v := 0) d_Mod_is_63 (by decide)) ?_
        exact xW_ret (fun _ _ _ _ _ => am_zret (ty := .boolean) rfl rfl d_Mod_is_64)
  · refine xW_pure (fun _ _ _ _ _ => am_iconst (v := 0) d_Mod_is_32 (by decide)) ?_
    exact xW_ret (fun _ _ _ _ _ => am_zret (ty := .boolean) rfl rfl d_Mod_is_33)

set_option maxRecDepth 100000 in
def x_Mod_is (d : Nat) (x0 : Nat) (x1 : Nat) (s : HS) : Option (Int32 × HS) := match d with
  | 0 => none
  | d + 1 => gd s x0 14 ((gI s x0 14 6).bind fun v1 => (if v1 = 2 then (x_Mod_is_b16 d x0 x1 s) else ((gI s x0 14 6).bind fun v10 => (if v10 = 5 then (x_Mod_is_b16 d x0 x1 s) else (some (0, s))))))

set_option maxRecDepth 100000 in
set_option maxHeartbeats 4000000 in
theorem dx_Mod_is (O : am_ok K X) (T : am_T K) {d : Nat} {x0 : Nat} {x1 : Nat} {s : HS} : xM cvI K X m_Mod_is d [.ref x0, .ref x1] s (x_Mod_is d x0 x1 s) := by
  cases d with
  | zero => exact xM_none
  | succ d =>
    unfold x_Mod_is
    refine xM_enter (by decide +kernel) (Nat.le_of_ble_eq_true rfl) ?_
    refine xW_gd (fun _ => ?_)
    refine xW_pure (fun _ _ _ _ _ => am_aload_n d_Mod_is_0 rfl rfl) ?_
    refine xW_gI O f_Mod_32 d_Mod_is_1 (fun v1 _ => ?_)
    refine xW_pure (fun _ _ _ _ _ => am_iconst (v := 2) d_Mod_is_4 (by decide)) ?_
    refine xW_ite (fun _ _ _ _ _ => am_icmp_eq (tgt := 16) d_Mod_is_5 (by decide)) (fun _ => ?_) (fun _ => ?_)
    · refine xW_locs (lv' := [(0, .ref x0), (1, .ref x1)]) rfl ?_
      exact dx_Mod_is_b16 O T
    · refine xW_pure (fun _ _ _ _ _ => am_aload_n d_Mod_is_8 rfl rfl) ?_
      refine xW_gI O f_Mod_32 d_Mod_is_9 (fun v10 _ => ?_)
      refine xW_pure (fun _ _ _ _ _ => am_iconst (v := 5) d_Mod_is_12 (by decide)) ?_
      refine xW_ite (fun _ _ _ _ _ k1 k2 => am_icmp_ne (tgt := 32) d_Mod_is_13 (by decide) k2 k1) (fun _ => ?_) (fun _ => ?_)
      · refine xW_locs (lv' := [(0, .ref x0), (1, .ref x1)]) rfl ?_
        exact dx_Mod_is_b16 O T
      · refine xW_pure (fun _ _ _ _ _ => am_iconst (v := 0) d_Mod_is_32 (by decide)) ?_
        exact xW_ret (fun _ _ _ _ _ => am_zret (ty := .boolean) rfl rfl d_Mod_is_33)

theorem ob_Mod_is {d : Nat} {x0 : Nat} {x1 : Nat} {s : HS} {y : Int32 × HS} (h : x_Mod_is d x0 x1 s = some y) : isO s x0 14 = true := by
  cases d with
  | zero => cases h
  | succ d => exact (gd_spec h).1
end
