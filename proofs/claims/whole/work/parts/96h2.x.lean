section
variable {K : am_K} {X : Nat → am_C}
set_option maxRecDepth 100000 in
def x_Log_settle (d : Nat) (x0 : Nat) (x1 : Int32) (s : HS) : Option (Unit × HS) := match d with
  | 0 => none
  | d + 1 => gd s x0 7 (loopK (fun (again2 : Int32 × HS → Option (Unit × HS)) (z2 : Int32 × HS) => (if x1 ≤ z2.1 then (some ((), z2.2)) else ((gI z2.2 x0 7 2).bind fun v1 => (if v1 ≤ 0 then (some ((), z2.2)) else (bnd (x_Log_settleOldest d x0 z2.2) fun v3 s2 => (again2 ((z2.1 + 1), s2))))))) FU (0, s))

set_option maxRecDepth 100000 in
set_option maxHeartbeats 4000000 in
theorem dx_Log_settle (O : am_ok K X) (T : am_T K) {d : Nat} {x0 : Nat} {x1 : Int32} {s : HS} : xM cvU K X m_Log_settle d [.ref x0, .int x1] s (x_Log_settle d x0 x1 s) := by
  cases d with
  | zero => exact xM_none
  | succ d =>
    unfold x_Log_settle
    refine xM_enter (by decide +kernel) (Nat.le_of_ble_eq_true rfl) ?_
    refine xW_gd (fun _ => ?_)
    refine xW_pure (fun _ _ _ _ _ => am_iconst (v := 0) d_Log_settle_0 (by decide)) ?_
    refine xW_pure (fun _ _ _ _ _ => am_istore_n d_Log_settle_1 rfl (Nat.le_of_ble_eq_true rfl)) ?_
    refine xW_locs (lv' := [(0, .ref x0), (1, .int x1), (2, .int 0)]) rfl ?_
    refine xW_loop (lvf := fun (z2 : Int32 × HS) => [(0, .ref x0), (1, .int x1), (2, .int z2.1)]) (hsf := fun (z2 : Int32 × HS) => z2.2) (fun again2 ih2 z2 => ?_) FU (0, s)
    refine xW_pure (fun _ _ _ _ _ => am_iload_n d_Log_settle_2 rfl rfl) ?_
    refine xW_pure (fun _ _ _ _ _ => am_iload_n d_Log_settle_3 rfl rfl) ?_
    refine xW_ite (fun _ _ _ _ _ => am_icmp_ge (tgt := 24) d_Log_settle_4 (by decide)) (fun _ => ?_) (fun _ => ?_)
    · exact xW_ret (fun _ _ _ _ _ => am_vret rfl d_Log_settle_24)
    · refine xW_pure (fun _ _ _ _ _ => am_aload_n d_Log_settle_7 rfl rfl) ?_
      refine xW_gI O f_Log_27 d_Log_settle_8 (fun v1 _ => ?_)
      refine xW_ite (fun _ _ _ _ _ => am_if_le (tgt := 24) d_Log_settle_11 (by decide)) (fun _ => ?_) (fun _ => ?_)
      · exact xW_ret (fun _ _ _ _ _ => am_vret rfl d_Log_settle_24)
      · refine xW_pure (fun _ _ _ _ _ => am_aload_n d_Log_settle_14 rfl rfl) ?_
        refine xW_callV O (dx_Log_settleOldest O T) (fun _ e => ob_Log_settleOldest e) rfl rfl rfl l_Log_47 ⟨w_1368, w_79⟩ rfl (Nat.le_of_ble_eq_true rfl) d_Log_settle_15 (fun v3 s2 _ => ?_)
        refine xW_pure (fun _ _ _ _ _ => am_iinc (v := 1) d_Log_settle_18 rfl (by decide) (Nat.le_of_ble_eq_true rfl)) ?_
        refine xW_pure (fun _ _ _ _ _ => am_goto (tgt := 2) d_Log_settle_21 (by decide)) ?_
        refine xW_locs (lv' := [(0, .ref x0), (1, .int x1), (2, .int (z2.1 + 1))]) rfl ?_
        exact ih2 ((z2.1 + 1), s2)

theorem ob_Log_settle {d : Nat} {x0 : Nat} {x1 : Int32} {s : HS} {y : Unit × HS} (h : x_Log_settle d x0 x1 s = some y) : isO s x0 7 = true := by
  cases d with
  | zero => cases h
  | succ d => exact (gd_spec h).1

set_option maxRecDepth 100000 in
def x_Stow_octet (d : Nat) (x0 : Nat) (x1 : Int32) (s : HS) : Option (Int32 × HS) := match d with
  | 0 => none
  | d + 1 => gd s x0 9 (if x1 = (-1) then ((gR s x0 9 2).bind fun v1 => (bnd (x_Out_size d v1 s) fun v3 s2 => (some (v3, s2)))) else (if x1 < 0 then (some ((-2), s)) else ((gR s x0 9 2).bind fun v4 => (bnd (x_Out_size d v4 s) fun v6 s5 => (if v6 ≤ x1 then (some ((-2), s5)) else ((gR s5 x0 9 2).bind fun v7 => (bnd (x_Out_byteAt d v7 x1 s5) fun v9 s8 => (some (v9, s8)))))))))

set_option maxRecDepth 100000 in
set_option maxHeartbeats 4000000 in
theorem dx_Stow_octet (O : am_ok K X) (T : am_T K) {d : Nat} {x0 : Nat} {x1 : Int32} {s : HS} : xM cvI K X m_Stow_octet d [.ref x0, .int x1] s (x_Stow_octet d x0 x1 s) := by
  cases d with
  | zero => exact xM_none
  | succ d =>
    unfold x_Stow_octet
    refine xM_enter (by decide +kernel) (Nat.le_of_ble_eq_true rfl) ?_
    refine xW_gd (fun _ => ?_)
    refine xW_pure (fun _ _ _ _ _ => am_iload_n d_Stow_octet_0 rfl rfl) ?_
    refine xW_pure (fun _ _ _ _ _ => am_iconst (v := (-1)) d_Stow_octet_1 (by decide)) ?_
    refine xW_ite (fun _ _ _ _ _ k1 k2 => am_icmp_ne (tgt := 13) d_Stow_octet_2 (by decide) k2 k1) (fun _ => ?_) (fun _ => ?_)
    · refine xW_pure (fun _ _ _ _ _ => am_aload_n d_Stow_octet_5 rfl rfl) ?_
      refine xW_gR O f_Stow_16 d_Stow_octet_6 (fun v1 _ => ?_)
      refine xW_callV O (dx_Out_size O T) (fun _ e => ob_Out_size e) rfl rfl rfl l_Stow_138 ⟨w_1388, w_1389⟩ rfl (Nat.le_of_ble_eq_true rfl) d_Stow_octet_9 (fun v3 s2 _ => ?_)
      exact xW_ret (fun _ _ _ _ _ => am_iret rfl d_Stow_octet_12)
    · refine xW_pure (fun _ _ _ _ _ => am_iload_n d_Stow_octet_13 rfl rfl) ?_
      refine xW_ite (fun _ _ _ _ _ => am_if_lt (tgt := 39) d_Stow_octet_14 (by decide)) (fun _ => ?_) (fun _ => ?_)
      · refine xW_pure (fun _ _ _ _ _ => am_bipush (v := (-2)) d_Stow_octet_39 (by decide)) ?_
        exact xW_ret (fun _ _ _ _ _ => am_iret rfl d_Stow_octet_41)
      · refine xW_pure (fun _ _ _ _ _ => am_iload_n d_Stow_octet_17 rfl rfl) ?_
        refine xW_pure (fun _ _ _ _ _ => am_aload_n d_Stow_octet_18 rfl rfl) ?_
        refine xW_gR O f_Stow_16 d_Stow_octet_19 (fun v4 _ => ?_)
        refine xW_callV O (dx_Out_size O T) (fun _ e => ob_Out_size e) rfl rfl rfl l_Stow_138 ⟨w_1388, w_1389⟩ rfl (Nat.le_of_ble_eq_true rfl) d_Stow_octet_22 (fun v6 s5 _ => ?_)
        refine xW_ite (fun _ _ _ _ _ => am_icmp_ge (tgt := 39) d_Stow_octet_25 (by decide)) (fun _ => ?_) (fun _ => ?_)
        · refine xW_pure (fun _ _ _ _ _ => am_bipush (v := (-2)) d_Stow_octet_39 (by decide)) ?_
          exact xW_ret (fun _ _ _ _ _ => am_iret rfl d_Stow_octet_41)
        · refine xW_pure (fun _ _ _ _ _ => am_aload_n d_Stow_octet_28 rfl rfl) ?_
          refine xW_gR O f_Stow_16 d_Stow_octet_29 (fun v7 _ => ?_)
          refine xW_pure (fun _ _ _ _ _ => am_iload_n d_Stow_octet_32 rfl rfl) ?_
          refine xW_callV O (dx_Out_byteAt O T) (fun _ e => ob_Out_byteAt e) rfl rfl rfl l_Stow_141 ⟨w_1392, w_1393⟩ rfl (Nat.le_of_ble_eq_true rfl) d_Stow_octet_33 (fun v9 s8 _ => ?_)
          refine xW_pure (fun _ _ _ _ _ => am_goto (tgt := 41) d_Stow_octet_36 (by decide)) ?_
          exact xW_ret (fun _ _ _ _ _ => am_iret rfl d_Stow_octet_41)

theorem ob_Stow_octet {d : Nat} {x0 : Nat} {x1 : Int32} {s : HS} {y : Int32 × HS} (h : x_Stow_octet d x0 x1 s = some y) : isO s x0 9 = true := by
  cases d with
  | zero => cases h
  | succ d => exact (gd_spec h).1

set_option maxRecDepth 100000 in
def x_Stow_root_b90 (d : Nat) (l5 : Int64) (l7 : Int64) (t0 : Int64) (s : HS) : Option (Int64 × HS) := bnd (x_Stow_asAnswer d l5 l7 s) fun v18 s17 => (some ((v18 + (8 * t0)), s17))

set_option maxRecDepth 100000 in
set_option maxHeartbeats 4000000 in
theorem dx_Stow_root_b90 (O : am_ok K X) (T : am_T K) {d : Nat} {l5 : Int64} {l7 : Int64} {t0 : Int64} {s : HS} : xW cvL K X m_Stow_root (d + 1) 90 [(5, .long l5), (7, .long l7)] [.long t0] s (x_Stow_root_b90 d l5 l7 t0 s) := by
  unfold x_Stow_root_b90
  refine xW_pure (fun _ _ _ _ _ => am_lstore d_Stow_root_90 (Nat.le_of_ble_eq_true rfl)) ?_
  refine xW_pure (fun _ _ _ _ _ => am_lload d_Stow_root_92 rfl) ?_
  refine xW_pure (fun _ _ _ _ _ => am_lload d_Stow_root_94 rfl) ?_
  refine xW_callS O (dx_Stow_asAnswer O T) rfl l_Stow_126 w_1377 rfl (Nat.le_of_ble_eq_true rfl) d_Stow_root_96 (fun v18 s17 _ => ?_)
  refine xW_pure (fun _ _ _ _ _ => am_ldc2 (v := 8) w_1404 d_Stow_root_99) ?_
  refine xW_pure (fun _ _ _ _ _ => am_lload d_Stow_root_102 rfl) ?_
  refine xW_pure (fun _ _ _ _ _ => am_lmul d_Stow_root_104) ?_
  refine xW_pure (fun _ _ _ _ _ => am_ladd d_Stow_root_105) ?_
  exact xW_ret (fun _ _ _ _ _ => am_lret rfl d_Stow_root_106)

set_option maxRecDepth 100000 in
def x_Stow_root_b40 (d : Nat) (l3 : Nat) (t0 : Int32) (s : HS) : Option (Int64 × HS) := if 0 ≤ t0 then ((gR s l3 10 4).bind fun v9 => ((aL s v9 t0).bind fun v10 => ((gR s l3 10 5).bind fun v11 => ((aL s v11 t0).bind fun v12 => (bnd (x_Cell_sortOf d v10 s) fun v14 s13 => (if v14 = 2 then (bnd (x_Cell_signsOf d v10 v12 s13) fun v16 s15 => (x_Stow_root_b90 d v10 v12 (v16 : Int32).toInt64 s15)) else (x_Stow_root_b90 d v10 v12 0 s13))))))) else (some (1099511627776, s))

set_option maxRecDepth 100000 in
set_option maxHeartbeats 4000000 in
theorem dx_Stow_root_b40 (O : am_ok K X) (T : am_T K) {d : Nat} {l3 : Nat} {t0 : Int32} {s : HS} : xW cvL K X m_Stow_root (d + 1) 40 [(3, .ref l3)] [.int t0] s (x_Stow_root_b40 d l3 t0 s) := by
  unfold x_Stow_root_b40
  refine xW_pure (fun _ _ _ _ _ => am_istore d_Stow_root_40 (Nat.le_of_ble_eq_true rfl)) ?_
  refine xW_pure (fun _ _ _ _ _ => am_iload d_Stow_root_42 rfl) ?_
  refine xW_ite (fun _ _ _ _ _ => am_if_ge (tgt := 51) d_Stow_root_44 (by decide)) (fun _ => ?_) (fun _ => ?_)
  · refine xW_pure (fun _ _ _ _ _ => am_aload_n d_Stow_root_51 rfl rfl) ?_
    refine xW_gR O f_Stow_156 d_Stow_root_52 (fun v9 _ => ?_)
    refine xW_pure (fun _ _ _ _ _ => am_iload d_Stow_root_55 rfl) ?_
    refine xW_aL O d_Stow_root_57 (fun v10 _ => ?_)
    refine xW_pure (fun _ _ _ _ _ => am_lstore d_Stow_root_58 (Nat.le_of_ble_eq_true rfl)) ?_
    refine xW_pure (fun _ _ _ _ _ => am_aload_n d_Stow_root_60 rfl rfl) ?_
    refine xW_gR O f_Stow_160 d_Stow_root_61 (fun v11 _ => ?_)
    refine xW_pure (fun _ _ _ _ _ => am_iload d_Stow_root_64 rfl) ?_
    refine xW_aL O d_Stow_root_66 (fun v12 _ => ?_)
    refine xW_pure (fun _ _ _ _ _ => am_lstore d_Stow_root_67 (Nat.le_of_ble_eq_true rfl)) ?_
    refine xW_pure (fun _ _ _ _ _ => am_lload d_Stow_root_69 rfl) ?_
    refine xW_callS O (dx_Cell_sortOf O T) rfl l_Stow_116 w_1104 rfl (Nat.le_of_ble_eq_true rfl) d_Stow_root_71 (fun v14 s13 _ => ?_)
    refine xW_pure (fun _ _ _ _ _ => am_iconst (v := 2) d_Stow_root_74 (by decide)) ?_
    refine xW_ite (fun _ _ _ _ _ k1 k2 => am_icmp_ne (tgt := 89) d_Stow_root_75 (by decide) k2 k1) (fun _ => ?_) (fun _ => ?_)
    · refine xW_pure (fun _ _ _ _ _ => am_lload d_Stow_root_78 rfl) ?_
      refine xW_pure (fun _ _ _ _ _ => am_lload d_Stow_root_80 rfl) ?_
      refine xW_callS O (dx_Cell_signsOf O T) rfl l_Stow_163 w_1161 rfl (Nat.le_of_ble_eq_true rfl) d_Stow_root_82 (fun v16 s15 _ => ?_)
      refine xW_pure (fun _ _ _ _ _ => am_i2l d_Stow_root_85 rfl) ?_
      refine xW_pure (fun _ _ _ _ _ => am_goto (tgt := 90) d_Stow_root_86 (by decide)) ?_
      refine xW_locs (lv' := [(5, .long v10), (7, .long v12)]) rfl ?_
      exact dx_Stow_root_b90 O T
    · refine xW_pure (fun _ _ _ _ _ => am_lconst (v := 0) d_Stow_root_89 (by decide)) ?_
      refine xW_locs (lv' := [(5, .long v10), (7, .long v12)]) rfl ?_
      exact dx_Stow_root_b90 O T
  · refine xW_pure (fun _ _ _ _ _ => am_ldc2 (v := 1099511627776) w_1382 d_Stow_root_47) ?_
    exact xW_ret (fun _ _ _ _ _ => am_lret rfl d_Stow_root_50)

set_option maxRecDepth 100000 in
def x_Stow_root (d : Nat) (x0 : Nat) (s : HS) : Option (Int64 × HS) := match d with
  | 0 => none
  | d + 1 => gd s x0 9 ((gR s x0 9 0).bind fun v1 => ((gI s x0 9 1).bind fun v2 => (bnd (x_Lexer_wholeName d v1 v2 s) fun v4 s3 => ((pV s3 x0 9 1 (.int 0)).bind fun s5 => ((gR s5 x0 9 5).bind fun v6 => (bnd (x_Log_latest d v6 s5) fun v8 s7 => (if (lg_cmp v4 0) = 0 then (x_Stow_root_b40 d v8 (-1) s7) else (bnd (x_Store_rootAt d v8 v4 s7) fun v20 s19 => (x_Stow_root_b40 d v8 v20 s19)))))))))

set_option maxRecDepth 100000 in
set_option maxHeartbeats 4000000 in
theorem dx_Stow_root (O : am_ok K X) (T : am_T K) {d : Nat} {x0 : Nat} {s : HS} : xM cvL K X m_Stow_root d [.ref x0] s (x_Stow_root d x0 s) := by
  cases d with
  | zero => exact xM_none
  | succ d =>
    unfold x_Stow_root
    refine xM_enter (by decide +kernel) (Nat.le_of_ble_eq_true rfl) ?_
    refine xW_gd (fun _ => ?_)
    refine xW_pure (fun _ _ _ _ _ => am_aload_n d_Stow_root_0 rfl rfl) ?_
    refine xW_gR O f_Stow_9 d_Stow_root_1 (fun v1 _ => ?_)
    refine xW_pure (fun _ _ _ _ _ => am_aload_n d_Stow_root_4 rfl rfl) ?_
    refine xW_gI O f_Stow_48 d_Stow_root_5 (fun v2 _ => ?_)
    refine xW_callS O (dx_Lexer_wholeName O T) rfl l_Stow_145 w_1400 rfl (Nat.le_of_ble_eq_true rfl) d_Stow_root_8 (fun v4 s3 _ => ?_)
    refine xW_pure (fun _ _ _ _ _ => am_lstore_n d_Stow_root_11 rfl (Nat.le_of_ble_eq_true rfl)) ?_
    refine xW_pure (fun _ _ _ _ _ => am_aload_n d_Stow_root_12 rfl rfl) ?_
    refine xW_pure (fun _ _ _ _ _ => am_iconst (v := 0) d_Stow_root_13 (by decide)) ?_
    refine xW_put O f_Stow_48 d_Stow_root_14 (fun q hq => by cases hq; exact ⟨rfl, rfl, rfl⟩) (fun s5 _ => ?_)
    refine xW_pure (fun _ _ _ _ _ => am_aload_n d_Stow_root_17 rfl rfl) ?_
    refine xW_gR O f_Stow_37 d_Stow_root_18 (fun v6 _ => ?_)
    refine xW_callV O (dx_Log_latest O T) (fun _ e => ob_Log_latest e) rfl rfl rfl l_Stow_103 ⟨w_1009, w_1010⟩ rfl (Nat.le_of_ble_eq_true rfl) d_Stow_root_21 (fun v8 s7 _ => ?_)
    refine xW_pure (fun _ _ _ _ _ => am_astore_n d_Stow_root_24 rfl (Nat.le_of_ble_eq_true rfl)) ?_
    refine xW_pure (fun _ _ _ _ _ => am_lload_n d_Stow_root_25 rfl rfl) ?_
    refine xW_pure (fun _ _ _ _ _ => am_lconst (v := 0) d_Stow_root_26 (by decide)) ?_
    refine xW_pure (fun _ _ _ _ _ => am_lcmp d_Stow_root_27) ?_
    refine xW_ite (fun _ _ _ _ _ k1 k2 => am_if_ne (tgt := 35) d_Stow_root_28 (by decide) k2 k1) (fun _ => ?_) (fun _ => ?_)
    · refine xW_pure (fun _ _ _ _ _ => am_iconst (v := (-1)) d_Stow_root_31 (by decide)) ?_
      refine xW_pure (fun _ _ _ _ _ => am_goto (tgt := 40) d_Stow_root_32 (by decide)) ?_
      refine xW_locs (lv' := [(3, .ref v8)]) rfl ?_
      exact dx_Stow_root_b40 O T
    · refine xW_pure (fun _ _ _ _ _ => am_aload_n d_Stow_root_35 rfl rfl) ?_
      refine xW_pure (fun _ _ _ _ _ => am_lload_n d_Stow_root_36 rfl rfl) ?_
      refine xW_callV O (dx_Store_rootAt O T) (fun _ e => ob_Store_rootAt e) rfl rfl rfl l_Stow_151 ⟨w_1190, w_1191⟩ rfl (Nat.le_of_ble_eq_true rfl) d_Stow_root_37 (fun v20 s19 _ => ?_)
      refine xW_locs (lv' := [(3, .ref v8)]) rfl ?_
      exact dx_Stow_root_b40 O T

theorem ob_Stow_root {d : Nat} {x0 : Nat} {s : HS} {y : Int64 × HS} (h : x_Stow_root d x0 s = some y) : isO s x0 9 = true := by
  cases d with
  | zero => cases h
  | succ d => exact (gd_spec h).1

set_option maxRecDepth 100000 in
def x_Stow_sync (d : Nat) (x0 : Nat) (s : HS) : Option (Int32 × HS) := match d with
  | 0 => none
  | d + 1 => gd s x0 9 ((gR s x0 9 5).bind fun v1 => (bnd (x_Log_waiting d v1 s) fun v3 s2 => ((gR s2 x0 9 5).bind fun v4 => (bnd (x_Log_settle d v4 v3 s2) fun v6 s5 => (some (v3, s5))))))

set_option maxRecDepth 100000 in
set_option maxHeartbeats 4000000 in
theorem dx_Stow_sync (O : am_ok K X) (T : am_T K) {d : Nat} {x0 : Nat} {s : HS} : xM cvI K X m_Stow_sync d [.ref x0] s (x_Stow_sync d x0 s) := by
  cases d with
  | zero => exact xM_none
  | succ d =>
    unfold x_Stow_sync
    refine xM_enter (by decide +kernel) (Nat.le_of_ble_eq_true rfl) ?_
    refine xW_gd (fun _ => ?_)
    refine xW_pure (fun _ _ _ _ _ => am_aload_n d_Stow_sync_0 rfl rfl) ?_
    refine xW_gR O f_Stow_37 d_Stow_sync_1 (fun v1 _ => ?_)
    refine xW_callV O (dx_Log_waiting O T) (fun _ e => ob_Log_waiting e) rfl rfl rfl l_Stow_169 ⟨w_1410, w_1411⟩ rfl (Nat.le_of_ble_eq_true rfl) d_Stow_sync_4 (fun v3 s2 _ => ?_)
    refine xW_pure (fun _ _ _ _ _ => am_istore_n d_Stow_sync_7 rfl (Nat.le_of_ble_eq_true rfl)) ?_
    refine xW_pure (fun _ _ _ _ _ => am_aload_n d_Stow_sync_8 rfl rfl) ?_
    refine xW_gR O f_Stow_37 d_Stow_sync_9 (fun v4 _ => ?_)
    refine xW_pure (fun _ _ _ _ _ => am_iload_n d_Stow_sync_12 rfl rfl) ?_
    refine xW_callV O (dx_Log_settle O T) (fun _ e => ob_Log_settle e) rfl rfl rfl l_Stow_172 ⟨w_1363, w_1364⟩ rfl (Nat.le_of_ble_eq_true rfl) d_Stow_sync_13 (fun v6 s5 _ => ?_)
    refine xW_pure (fun _ _ _ _ _ => am_iload_n d_Stow_sync_16 rfl rfl) ?_
    exact xW_ret (fun _ _ _ _ _ => am_iret rfl d_Stow_sync_17)

theorem ob_Stow_sync {d : Nat} {x0 : Nat} {s : HS} {y : Int32 × HS} (h : x_Stow_sync d x0 s = some y) : isO s x0 9 = true := by
  cases d with
  | zero => cases h
  | succ d => exact (gd_spec h).1

set_option maxRecDepth 100000 in
def x_Stow_crash (d : Nat) (x0 : Nat) (x1 : Int32) (s : HS) : Option (Int32 × HS) := match d with
  | 0 => none
  | d + 1 => gd s x0 9 (if 0 ≤ x1 then ((gR s x0 9 5).bind fun v1 => (bnd (x_Log_wholeWithin d v1 x1 s) fun v3 s2 => ((gR s2 x0 9 5).bind fun v4 => (bnd (x_Log_settle d v4 v3 s2) fun v6 s5 => ((gR s5 x0 9 5).bind fun v7 => (bnd (x_Log_loseWaiting d v7 s5) fun v9 s8 => (some (v3, s8)))))))) else (some ((-1), s)))

set_option maxRecDepth 100000 in
set_option maxHeartbeats 4000000 in
theorem dx_Stow_crash (O : am_ok K X) (T : am_T K) {d : Nat} {x0 : Nat} {x1 : Int32} {s : HS} : xM cvI K X m_Stow_crash d [.ref x0, .int x1] s (x_Stow_crash d x0 x1 s) := by
  cases d with
  | zero => exact xM_none
  | succ d =>
    unfold x_Stow_crash
    refine xM_enter (by decide +kernel) (Nat.le_of_ble_eq_true rfl) ?_
    refine xW_gd (fun _ => ?_)
    refine xW_pure (fun _ _ _ _ _ => am_iload_n d_Stow_crash_0 rfl rfl) ?_
    refine xW_ite (fun _ _ _ _ _ => am_if_ge (tgt := 6) d_Stow_crash_1 (by decide)) (fun _ => ?_) (fun _ => ?_)
    · refine xW_pure (fun _ _ _ _ _ => am_aload_n d_Stow_crash_6 rfl rfl) ?_
      refine xW_gR O f_Stow_37 d_Stow_crash_7 (fun v1 _ => ?_)
      refine xW_pure (fun _ _ _ _ _ => am_iload_n d_Stow_crash_10 rfl rfl) ?_
      refine xW_callV O (dx_Log_wholeWithin O T) (fun _ e => ob_Log_wholeWithin e) rfl rfl rfl l_Stow_175 ⟨w_1419, w_1420⟩ rfl (Nat.le_of_ble_eq_true rfl) d_Stow_crash_11 (fun v3 s2 _ => ?_)
      refine xW_pure (fun _ _ _ _ _ => am_istore_n d_Stow_crash_14 rfl (Nat.le_of_ble_eq_true rfl)) ?_
      refine xW_pure (fun _ _ _ _ _ => am_aload_n d_Stow_crash_15 rfl rfl) ?_
      refine xW_gR O f_Stow_37 d_Stow_crash_16 (fun v4 _ => ?_)
      refine xW_pure (fun _ _ _ _ _ => am_iload_n d_Stow_crash_19 rfl rfl) ?_
      refine xW_callV O (dx_Log_settle O T) (fun _ e => ob_Log_settle e) rfl rfl rfl l_Stow_172 ⟨w_1363, w_1364⟩ rfl (Nat.le_of_ble_eq_true rfl) d_Stow_crash_20 (fun v6 s5 _ => ?_)
      refine xW_pure (fun _ _ _ _ _ => am_aload_n d_Stow_crash_23 rfl rfl) ?_
      refine xW_gR O f_Stow_37 d_Stow_crash_24 (fun v7 _ => ?_)
      refine xW_callV O (dx_Log_loseWaiting O T) (fun _ e => ob_Log_loseWaiting e) rfl rfl rfl l_Stow_178 ⟨w_1423, w_1424⟩ rfl (Nat.le_of_ble_eq_true rfl) d_Stow_crash_27 (fun v9 s8 _ => ?_)
      refine xW_pure (fun _ _ _ _ _ => am_iload_n d_Stow_crash_30 rfl rfl) ?_
      exact xW_ret (fun _ _ _ _ _ => am_iret rfl d_Stow_crash_31)
    · refine xW_pure (fun _ _ _ _ _ => am_iconst (v := (-1)) d_Stow_crash_4 (by decide)) ?_
      exact xW_ret (fun _ _ _ _ _ => am_iret rfl d_Stow_crash_5)

theorem ob_Stow_crash {d : Nat} {x0 : Nat} {x1 : Int32} {s : HS} {y : Int32 × HS} (h : x_Stow_crash d x0 x1 s = some y) : isO s x0 9 = true := by
  cases d with
  | zero => cases h
  | succ d => exact (gd_spec h).1

set_option maxRecDepth 100000 in
def x_Sweep_reach (d : Nat) (x0 : Nat) (x1 : Int64) (x2 : Int64) (s : HS) : Option (Unit × HS) := match d with
  | 0 => none
  | d + 1 => gd s x0 8 (bnd (x_Cell_isObject d x1 s) fun v2 s1 => (if v2 = 0 then (some ((), s1)) else (if (lg_cmp x2 0) < 0 then (some ((), s1)) else (if 0 ≤ (lg_cmp x2 100) then (some ((), s1)) else ((gR s1 x0 8 0).bind fun v3 => ((aZ s1 v3 (x2 : Int64).toInt32).bind fun v4 => (if v4 = 0 then ((gI s1 x0 8 2).bind fun v5 => (if 100 ≤ v5 then (some ((), s1)) else ((gR s1 x0 8 0).bind fun v6 => ((sV s1 .boolean v6 (x2 : Int64).toInt32 (narrow .boolean (.int 1))).bind fun s7 => ((gR s7 x0 8 1).bind fun v8 => ((gI s7 x0 8 2).bind fun v9 => ((sV s7 .int v8 v9 (.int (x2 : Int64).toInt32)).bind fun s10 => ((gI s10 x0 8 2).bind fun v11 => ((pV s10 x0 8 2 (.int (v11 + 1))).bind fun s12 => (some ((), s12))))))))))) else (some ((), s1)))))))))

set_option maxRecDepth 100000 in
set_option maxHeartbeats 4000000 in
theorem dx_Sweep_reach (O : am_ok K X) (T : am_T K) {d : Nat} {x0 : Nat} {x1 : Int64} {x2 : Int64} {s : HS} : xM cvU K X m_Sweep_reach d [.ref x0, .long x1, .long x2] s (x_Sweep_reach d x0 x1 x2 s) := by
  cases d with
  | zero => exact xM_none
  | succ d =>
    unfold x_Sweep_reach
    refine xM_enter (by decide +kernel) (Nat.le_of_ble_eq_true rfl) ?_
    refine xW_gd (fun _ => ?_)
    refine xW_pure (fun _ _ _ _ _ => am_lload_n d_Sweep_reach_0 rfl rfl) ?_
    refine xW_callS O (dx_Cell_isObject O T) rfl l_Sweep_46 w_1443 rfl (Nat.le_of_ble_eq_true rfl) d_Sweep_reach_1 (fun v2 s1 _ => ?_)
    refine xW_ite (fun _ _ _ _ _ => am_if_eq (tgt := 69) d_Sweep_reach_4 (by decide)) (fun _ => ?_) (fun _ => ?_)
    · exact xW_ret (fun _ _ _ _ _ => am_vret rfl d_Sweep_reach_69)
    · refine xW_pure (fun _ _ _ _ _ => am_lload_n d_Sweep_reach_7 rfl rfl) ?_
      refine xW_pure (fun _ _ _ _ _ => am_lconst (v := 0) d_Sweep_reach_8 (by decide)) ?_
      refine xW_pure (fun _ _ _ _ _ => am_lcmp d_Sweep_reach_9) ?_
      refine xW_ite (fun _ _ _ _ _ => am_if_lt (tgt := 69) d_Sweep_reach_10 (by decide)) (fun _ => ?_) (fun _ => ?_)
      · exact xW_ret (fun _ _ _ _ _ => am_vret rfl d_Sweep_reach_69)
      · refine xW_pure (fun _ _ _ _ _ => am_lload_n d_Sweep_reach_13 rfl rfl) ?_
        refine xW_pure (fun _ _ _ _ _ => am_ldc2 (v := 100) w_1445 d_Sweep_reach_14) ?_
        refine xW_pure (fun _ _ _ _ _ => am_lcmp d_Sweep_reach_17) ?_
        refine xW_ite (fun _ _ _ _ _ => am_if_ge (tgt := 69) d_Sweep_reach_18 (by decide)) (fun _ => ?_) (fun _ => ?_)
        · exact xW_ret (fun _ _ _ _ _ => am_vret rfl d_Sweep_reach_69)
        · refine xW_pure (fun _ _ _ _ _ => am_aload_n d_Sweep_reach_21 rfl rfl) ?_
          refine xW_gR O f_Sweep_9 d_Sweep_reach_22 (fun v3 _ => ?_)
          refine xW_pure (fun _ _ _ _ _ => am_lload_n d_Sweep_reach_25 rfl rfl) ?_
          refine xW_pure (fun _ _ _ _ _ => am_l2i d_Sweep_reach_26 rfl) ?_
          refine xW_aZ O d_Sweep_reach_27 (fun v4 _ => ?_)
          refine xW_ite (fun _ _ _ _ _ k1 k2 => am_if_ne (tgt := 69) d_Sweep_reach_28 (by decide) k2 k1) (fun _ => ?_) (fun _ => ?_)
          · refine xW_pure (fun _ _ _ _ _ => am_aload_n d_Sweep_reach_31 rfl rfl) ?_
            refine xW_gI O f_Sweep_19 d_Sweep_reach_32 (fun v5 _ => ?_)
            refine xW_pure (fun _ _ _ _ _ => am_bipush (v := 100) d_Sweep_reach_35 (by decide)) ?_
            refine xW_ite (fun _ _ _ _ _ => am_icmp_ge (tgt := 69) d_Sweep_reach_37 (by decide)) (fun _ => ?_) (fun _ => ?_)
            · exact xW_ret (fun _ _ _ _ _ => am_vret rfl d_Sweep_reach_69)
            · refine xW_pure (fun _ _ _ _ _ => am_aload_n d_Sweep_reach_40 rfl rfl) ?_
              refine xW_gR O f_Sweep_9 d_Sweep_reach_41 (fun v6 _ => ?_)
              refine xW_pure (fun _ _ _ _ _ => am_lload_n d_Sweep_reach_44 rfl rfl) ?_
              refine xW_pure (fun _ _ _ _ _ => am_l2i d_Sweep_reach_45 rfl) ?_
              refine xW_pure (fun _ _ _ _ _ => am_iconst (v := 1) d_Sweep_reach_46 (by decide)) ?_
              refine xW_sZ O d_Sweep_reach_47 (fun s7 _ => ?_)
              refine xW_pure (fun _ _ _ _ _ => am_aload_n d_Sweep_reach_48 rfl rfl) ?_
              refine xW_gR O f_Sweep_15 d_Sweep_reach_49 (fun v8 _ => ?_)
              refine xW_pure (fun _ _ _ _ _ => am_aload_n d_Sweep_reach_52 rfl rfl) ?_
              refine xW_gI O f_Sweep_19 d_Sweep_reach_53 (fun v9 _ => ?_)
              refine xW_pure (fun _ _ _ _ _ => am_lload_n d_Sweep_reach_56 rfl rfl) ?_
              refine xW_pure (fun _ _ _ _ _ => am_l2i d_Sweep_reach_57 rfl) ?_
              refine xW_sI O d_Sweep_reach_58 (fun s10 _ => ?_)
              refine xW_pure (fun _ _ _ _ _ => am_aload_n d_Sweep_reach_59 rfl rfl) ?_
              refine xW_pure (fun _ _ _ _ _ => am_dup d_Sweep_reach_60 rfl) ?_
              refine xW_gI O f_Sweep_19 d_Sweep_reach_61 (fun v11 _ => ?_)
              refine xW_pure (fun _ _ _ _ _ => am_iconst (v := 1) d_Sweep_reach_64 (by decide)) ?_
              refine xW_pure (fun _ _ _ _ _ => am_iadd d_Sweep_reach_65) ?_
              refine xW_put O f_Sweep_19 d_Sweep_reach_66 (fun q hq => by cases hq; exact ⟨rfl, rfl, rfl⟩) (fun s12 _ => ?_)
              exact xW_ret (fun _ _ _ _ _ => am_vret rfl d_Sweep_reach_69)
          · exact xW_ret (fun _ _ _ _ _ => am_vret rfl d_Sweep_reach_69)

theorem ob_Sweep_reach {d : Nat} {x0 : Nat} {x1 : Int64} {x2 : Int64} {s : HS} {y : Unit × HS} (h : x_Sweep_reach d x0 x1 x2 s = some y) : isO s x0 8 = true := by
  cases d with
  | zero => cases h
  | succ d => exact (gd_spec h).1

set_option maxRecDepth 100000 in
def x_Sweep_reachFrom (d : Nat) (x0 : Nat) (x1 : Nat) (x2 : Int32) (s : HS) : Option (Unit × HS) := match d with
  | 0 => none
  | d + 1 => gd s x0 8 (bnd (x_Store_firstCell d x1 x2 s) fun v2 s1 => (bnd (x_Store_cellsOf d x1 x2 s1) fun v4 s3 => (loopK (fun (again18 : Int32 × HS → Option (Unit × HS)) (z18 : Int32 × HS) => (if (v2 + v4) ≤ z18.1 then (some ((), z18.2)) else ((gR z18.2 x1 10 0).bind fun v5 => ((aL z18.2 v5 z18.1).bind fun v6 => ((gR z18.2 x1 10 1).bind fun v7 => ((aL z18.2 v7 z18.1).bind fun v8 => (bnd (x_Sweep_reach d x0 v6 v8 z18.2) fun v10 s9 => (again18 ((z18.1 + 1), s9))))))))) FU (v2, s3))))

set_option maxRecDepth 100000 in
set_option maxHeartbeats 4000000 in
theorem dx_Sweep_reachFrom (O : am_ok K X) (T : am_T K) {d : Nat} {x0 : Nat} {x1 : Nat} {x2 : Int32} {s : HS} : xM cvU K X m_Sweep_reachFrom d [.ref x0, .ref x1, .int x2] s (x_Sweep_reachFrom d x0 x1 x2 s) := by
  cases d with
  | zero => exact xM_none
  | succ d =>
    unfold x_Sweep_reachFrom
    refine xM_enter (by decide +kernel) (Nat.le_of_ble_eq_true rfl) ?_
    refine xW_gd (fun _ => ?_)
    refine xW_pure (fun _ _ _ _ _ => am_aload_n d_Sweep_reachFrom_0 rfl rfl) ?_
    refine xW_pure (fun _ _ _ _ _ => am_iload_n d_Sweep_reachFrom_1 rfl rfl) ?_
    refine xW_callV O (dx_Store_firstCell O T) (fun _ e => ob_Store_firstCell e) rfl rfl rfl l_Sweep_54 ⟨w_1220, w_1221⟩ rfl (Nat.le_of_ble_eq_true rfl) d_Sweep_reachFrom_2 (fun v2 s1 _ => ?_)
    refine xW_pure (fun _ _ _ _ _ => am_istore_n d_Sweep_reachFrom_5 rfl (Nat.le_of_ble_eq_true rfl)) ?_
    refine xW_pure (fun _ _ _ _ _ => am_iload_n d_Sweep_reachFrom_6 rfl rfl) ?_
    refine xW_pure (fun _ _ _ _ _ => am_aload_n d_Sweep_reachFrom_7 rfl rfl) ?_
    refine xW_pure (fun _ _ _ _ _ => am_iload_n d_Sweep_reachFrom_8 rfl rfl) ?_
    refine xW_callV O (dx_Store_cellsOf O T) (fun _ e => ob_Store_cellsOf e) rfl rfl rfl l_Sweep_58 ⟨w_1224, w_1225⟩ rfl (Nat.le_of_ble_eq_true rfl) d_Sweep_reachFrom_9 (fun v4 s3 _ => ?_)
    refine xW_pure (fun _ _ _ _ _ => am_iadd d_Sweep_reachFrom_12) ?_
    refine xW_pure (fun _ _ _ _ _ => am_istore d_Sweep_reachFrom_13 (Nat.le_of_ble_eq_true rfl)) ?_
    refine xW_pure (fun _ _ _ _ _ => am_iload_n d_Sweep_reachFrom_15 rfl rfl) ?_
    refine xW_pure (fun _ _ _ _ _ => am_istore d_Sweep_reachFrom_16 (Nat.le_of_ble_eq_true rfl)) ?_
    refine xW_locs (lv' := [(0, .ref x0), (1, .ref x1), (4, .int (v2 + v4)), (5, .int v2)]) rfl ?_
    refine xW_loop (lvf := fun (z18 : Int32 × HS) => [(0, .ref x0), (1, .ref x1), (4, .int (v2 + v4)), (5, .int z18.1)]) (hsf := fun (z18 : Int32 × HS) => z18.2) (fun again18 ih18 z18 => ?_) FU (v2, s3)
    refine xW_pure (fun _ _ _ _ _ => am_iload d_Sweep_reachFrom_18 rfl) ?_
    refine xW_pure (fun _ _ _ _ _ => am_iload d_Sweep_reachFrom_20 rfl) ?_
    refine xW_ite (fun _ _ _ _ _ => am_icmp_ge (tgt := 49) d_Sweep_reachFrom_22 (by decide)) (fun _ => ?_) (fun _ => ?_)
    · exact xW_ret (fun _ _ _ _ _ => am_vret rfl d_Sweep_reachFrom_49)
    · refine xW_pure (fun _ _ _ _ _ => am_aload_n d_Sweep_reachFrom_25 rfl rfl) ?_
      refine xW_pure (fun _ _ _ _ _ => am_aload_n d_Sweep_reachFrom_26 rfl rfl) ?_
      refine xW_gR O f_Sweep_61 d_Sweep_reachFrom_27 (fun v5 _ => ?_)
      refine xW_pure (fun _ _ _ _ _ => am_iload d_Sweep_reachFrom_30 rfl) ?_
      refine xW_aL O d_Sweep_reachFrom_32 (fun v6 _ => ?_)
      refine xW_pure (fun _ _ _ _ _ => am_aload_n d_Sweep_reachFrom_33 rfl rfl) ?_
      refine xW_gR O f_Sweep_64 d_Sweep_reachFrom_34 (fun v7 _ => ?_)
      refine xW_pure (fun _ _ _ _ _ => am_iload d_Sweep_reachFrom_37 rfl) ?_
      refine xW_aL O d_Sweep_reachFrom_39 (fun v8 _ => ?_)
      refine xW_callV O (dx_Sweep_reach O T) (fun _ e => ob_Sweep_reach e) rfl rfl rfl l_Sweep_34 ⟨w_1440, w_80⟩ rfl (Nat.le_of_ble_eq_true rfl) d_Sweep_reachFrom_40 (fun v10 s9 _ => ?_)
      refine xW_pure (fun _ _ _ _ _ => am_iinc (v := 1) d_Sweep_reachFrom_43 rfl (by decide) (Nat.le_of_ble_eq_true rfl)) ?_
      refine xW_pure (fun _ _ _ _ _ => am_goto (tgt := 18) d_Sweep_reachFrom_46 (by decide)) ?_
      refine xW_locs (lv' := [(0, .ref x0), (1, .ref x1), (4, .int (v2 + v4)), (5, .int (z18.1 + 1))]) rfl ?_
      exact ih18 ((z18.1 + 1), s9)

theorem ob_Sweep_reachFrom {d : Nat} {x0 : Nat} {x1 : Nat} {x2 : Int32} {s : HS} {y : Unit × HS} (h : x_Sweep_reachFrom d x0 x1 x2 s = some y) : isO s x0 8 = true := by
  cases d with
  | zero => cases h
  | succ d => exact (gd_spec h).1

set_option maxRecDepth 100000 in
def x_Sweep_takeUnreached (d : Nat) (x0 : Nat) (x1 : Nat) (s : HS) : Option (Int32 × HS) := match d with
  | 0 => none
  | d + 1 => gd s x0 8 (loopK (fun (again4 : Int32 × Int32 × HS → Option (Int32 × HS)) (z4 : Int32 × Int32 × HS) => (if 100 ≤ z4.2.1 then (some (z4.1, z4.2.2)) else ((gR z4.2.2 x0 8 0).bind fun v1 => ((aZ z4.2.2 v1 z4.2.1).bind fun v2 => (if v2 = 0 then (bnd (x_Store_isThere d x1 z4.2.1 z4.2.2) fun v4 s3 => (if v4 = 0 then (again4 (z4.1, (z4.2.1 + 1), s3)) else (bnd (x_Store_takeAway d x1 z4.2.1 s3) fun v6 s5 => (again4 ((z4.1 + 1), (z4.2.1 + 1), s5))))) else (again4 (z4.1, (z4.2.1 + 1), z4.2.2))))))) FU (0, 0, s))

set_option maxRecDepth 100000 in
set_option maxHeartbeats 4000000 in
theorem dx_Sweep_takeUnreached (O : am_ok K X) (T : am_T K) {d : Nat} {x0 : Nat} {x1 : Nat} {s : HS} : xM cvI K X m_Sweep_takeUnreached d [.ref x0, .ref x1] s (x_Sweep_takeUnreached d x0 x1 s) := by
  cases d with
  | zero => exact xM_none
  | succ d =>
    unfold x_Sweep_takeUnreached
    refine xM_enter (by decide +kernel) (Nat.le_of_ble_eq_true rfl) ?_
    refine xW_gd (fun _ => ?_)
    refine xW_pure (fun _ _ _ _ _ => am_iconst (v := 0) d_Sweep_takeUnreached_0 (by decide)) ?_
    refine xW_pure (fun _ _ _ _ _ => am_istore_n d_Sweep_takeUnreached_1 rfl (Nat.le_of_ble_eq_true rfl)) ?_
    refine xW_pure (fun _ _ _ _ _ => am_iconst (v := 0) d_Sweep_takeUnreached_2 (by decide)) ?_
    refine xW_pure (fun _ _ _ _ _ => am_istore_n d_Sweep_takeUnreached_3 rfl (Nat.le_of_ble_eq_true rfl)) ?_
    refine xW_locs (lv' := [(0, .ref x0), (1, .ref x1), (2, .int 0), (3, .int 0)]) rfl ?_
    refine xW_loop (lvf := fun (z4 : Int32 × Int32 × HS) => [(0, .ref x0), (1, .ref x1), (2, .int z4.1), (3, .int z4.2.1)]) (hsf := fun (z4 : Int32 × Int32 × HS) => z4.2.2) (fun again4 ih4 z4 => ?_) FU (0, 0, s)
    refine xW_pure (fun _ _ _ _ _ => am_iload_n d_Sweep_takeUnreached_4 rfl rfl) ?_
    refine xW_pure (fun _ _ _ _ _ => am_bipush (v := 100) d_Sweep_takeUnreached_5 (by decide)) ?_
    refine xW_ite (fun _ _ _ _ _ => am_icmp_ge (tgt := 41) d_Sweep_takeUnreached_7 (by decide)) (fun _ => ?_) (fun _ => ?_)
    · refine xW_pure (fun _ _ _ _ _ => am_iload_n d_Sweep_takeUnreached_41 rfl rfl) ?_
      exact xW_ret (fun _ _ _ _ _ => am_iret rfl d_Sweep_takeUnreached_42)
    · refine xW_pure (fun _ _ _ _ _ => am_aload_n d_Sweep_takeUnreached_10 rfl rfl) ?_
      refine xW_gR O f_Sweep_9 d_Sweep_takeUnreached_11 (fun v1 _ => ?_)
      refine xW_pure (fun _ _ _ _ _ => am_iload_n d_Sweep_takeUnreached_14 rfl rfl) ?_
      refine xW_aZ O d_Sweep_takeUnreached_15 (fun v2 _ => ?_)
      refine xW_ite (fun _ _ _ _ _ k1 k2 => am_if_ne (tgt := 35) d_Sweep_takeUnreached_16 (by decide) k2 k1) (fun _ => ?_) (fun _ => ?_)
      · refine xW_pure (fun _ _ _ _ _ => am_aload_n d_Sweep_takeUnreached_19 rfl rfl) ?_
        refine xW_pure (fun _ _ _ _ _ => am_iload_n d_Sweep_takeUnreached_20 rfl rfl) ?_
        refine xW_callV O (dx_Store_isThere O T) (fun _ e => ob_Store_isThere e) rfl rfl rfl l_Sweep_67 ⟨w_1245, w_1246⟩ rfl (Nat.le_of_ble_eq_true rfl) d_Sweep_takeUnreached_21 (fun v4 s3 _ => ?_)
        refine xW_ite (fun _ _ _ _ _ => am_if_eq (tgt := 35) d_Sweep_takeUnreached_24 (by decide)) (fun _ => ?_) (fun _ => ?_)
        · refine xW_pure (fun _ _ _ _ _ => am_iinc (v := 1) d_Sweep_takeUnreached_35 rfl (by decide) (Nat.le_of_ble_eq_true rfl)) ?_
          refine xW_pure (fun _ _ _ _ _ => am_goto (tgt := 4) d_Sweep_takeUnreached_38 (by decide)) ?_
          refine xW_locs (lv' := [(0, .ref x0), (1, .ref x1), (2, .int z4.1), (3, .int (z4.2.1 + 1))]) rfl ?_
          exact ih4 (z4.1, (z4.2.1 + 1), s3)
        · refine xW_pure (fun _ _ _ _ _ => am_aload_n d_Sweep_takeUnreached_27 rfl rfl) ?_
          refine xW_pure (fun _ _ _ _ _ => am_iload_n d_Sweep_takeUnreached_28 rfl rfl) ?_
          refine xW_callV O (dx_Store_takeAway O T) (fun _ e => ob_Store_takeAway e) rfl rfl rfl l_Sweep_71 ⟨w_1458, w_1459⟩ rfl (Nat.le_of_ble_eq_true rfl) d_Sweep_takeUnreached_29 (fun v6 s5 _ => ?_)
          refine xW_pure (fun _ _ _ _ _ => am_iinc (v := 1) d_Sweep_takeUnreached_32 rfl (by decide) (Nat.le_of_ble_eq_true rfl)) ?_
          refine xW_pure (fun _ _ _ _ _ => am_iinc (v := 1) d_Sweep_takeUnreached_35 rfl (by decide) (Nat.le_of_ble_eq_true rfl)) ?_
          refine xW_pure (fun _ _ _ _ _ => am_goto (tgt := 4) d_Sweep_takeUnreached_38 (by decide)) ?_
          refine xW_locs (lv' := [(0, .ref x0), (1, .ref x1), (2, .int (z4.1 + 1)), (3, .int (z4.2.1 + 1))]) rfl ?_
          exact ih4 ((z4.1 + 1), (z4.2.1 + 1), s5)
      · refine xW_pure (fun _ _ _ _ _ => am_iinc (v := 1) d_Sweep_takeUnreached_35 rfl (by decide) (Nat.le_of_ble_eq_true rfl)) ?_
        refine xW_pure (fun _ _ _ _ _ => am_goto (tgt := 4) d_Sweep_takeUnreached_38 (by decide)) ?_
        refine xW_locs (lv' := [(0, .ref x0), (1, .ref x1), (2, .int z4.1), (3, .int (z4.2.1 + 1))]) rfl ?_
        exact ih4 (z4.1, (z4.2.1 + 1), z4.2.2)

theorem ob_Sweep_takeUnreached {d : Nat} {x0 : Nat} {x1 : Nat} {s : HS} {y : Int32 × HS} (h : x_Sweep_takeUnreached d x0 x1 s = some y) : isO s x0 8 = true := by
  cases d with
  | zero => cases h
  | succ d => exact (gd_spec h).1

set_option maxRecDepth 100000 in
def x_Stow_count (d : Nat) (x0 : Nat) (x1 : Int32) (s : HS) : Option (Int32 × HS) := match d with
  | 0 => none
  | d + 1 => gd s x0 9 ((gR s x0 9 5).bind fun v1 => (bnd (x_Log_latest d v1 s) fun v3 s2 => (if x1 = 0 then (bnd (x_Store_objects d v3 s2) fun v5 s4 => (some (v5, s4))) else (if x1 = 1 then (bnd (x_Store_roots d v3 s2) fun v7 s6 => (some (v7, s6))) else (if x1 = 2 then (bnd (x_Store_functions d v3 s2) fun v9 s8 => (some (v9, s8))) else (if x1 = 3 then (bnd (x_Store_functionTokens d v3 s2) fun v11 s10 => (some (v11, s10))) else (if x1 = 4 then ((gR s2 x0 9 5).bind fun v12 => (bnd (x_Log_safeBytes d v12 s2) fun v14 s13 => ((gR s13 x0 9 5).bind fun v15 => (bnd (x_Log_waitingBytes d v15 s13) fun v17 s16 => (some ((v14 + v17), s16)))))) else (if x1 = 5 then ((gR s2 x0 9 5).bind fun v18 => (bnd (x_Log_waitingBytes d v18 s2) fun v20 s19 => (some (v20, s19)))) else (if x1 = 6 then ((gR s2 x0 9 5).bind fun v21 => (bnd (x_Log_waiting d v21 s2) fun v23 s22 => (some (v23, s22)))) else (if x1 = 7 then ((gI s2 x0 9 9).bind fun v24 => (some (v24, s2))) else (some ((-1), s2))))))))))))

set_option maxRecDepth 100000 in
set_option maxHeartbeats 4000000 in
theorem dx_Stow_count (O : am_ok K X) (T : am_T K) {d : Nat} {x0 : Nat} {x1 : Int32} {s : HS} : xM cvI K X m_Stow_count d [.ref x0, .int x1] s (x_Stow_count d x0 x1 s) := by
  cases d with
  | zero => exact xM_none
  | succ d =>
    unfold x_Stow_count
    refine xM_enter (by decide +kernel) (Nat.le_of_ble_eq_true rfl) ?_
    refine xW_gd (fun _ => ?_)
    refine xW_pure (fun _ _ _ _ _ => am_aload_n d_Stow_count_0 rfl rfl) ?_
    refine xW_gR O f_Stow_37 d_Stow_count_1 (fun v1 _ => ?_)
    refine xW_callV O (dx_Log_latest O T) (fun _ e => ob_Log_latest e) rfl rfl rfl l_Stow_103 ⟨w_1009, w_1010⟩ rfl (Nat.le_of_ble_eq_true rfl) d_Stow_count_4 (fun v3 s2 _ => ?_)
    refine xW_pure (fun _ _ _ _ _ => am_astore_n d_Stow_count_7 rfl (Nat.le_of_ble_eq_true rfl)) ?_
    refine xW_pure (fun _ _ _ _ _ => am_iload_n d_Stow_count_8 rfl rfl) ?_
    refine xW_by (fun c9_0 => ?_) (fun c9_0 => ?_)
    · refine xW_pure (fun _ _ _ _ _ => am_tableIn (off := 47) (tgt := 56) d_Stow_count_9 (by rw [c9_0]; decide) (by rw [c9_0]; decide) (by rw [c9_0]; rfl) (by decide)) ?_
      refine xW_pure (fun _ _ _ _ _ => am_aload_n d_Stow_count_56 rfl rfl) ?_
      refine xW_callV O (dx_Store_objects O T) (fun _ e => ob_Store_objects e) rfl rfl rfl l_Stow_185 ⟨w_1466, w_1467⟩ rfl (Nat.le_of_ble_eq_true rfl) d_Stow_count_57 (fun v5 s4 _ => ?_)
      exact xW_ret (fun _ _ _ _ _ => am_iret rfl d_Stow_count_60)
    · refine xW_by (fun c9_1 => ?_) (fun c9_1 => ?_)
      · refine xW_pure (fun _ _ _ _ _ => am_tableIn (off := 52) (tgt := 61) d_Stow_count_9 (by rw [c9_1]; decide) (by rw [c9_1]; decide) (by rw [c9_1]; rfl) (by decide)) ?_
        refine xW_pure (fun _ _ _ _ _ => am_aload_n d_Stow_count_61 rfl rfl) ?_
        refine xW_callV O (dx_Store_roots O T) (fun _ e => ob_Store_roots e) rfl rfl rfl l_Stow_188 ⟨w_1435, w_1436⟩ rfl (Nat.le_of_ble_eq_true rfl) d_Stow_count_62 (fun v7 s6 _ => ?_)
        exact xW_ret (fun _ _ _ _ _ => am_iret rfl d_Stow_count_65)
      · refine xW_by (fun c9_2 => ?_) (fun c9_2 => ?_)
        · refine xW_pure (fun _ _ _ _ _ => am_tableIn (off := 57) (tgt := 66) d_Stow_count_9 (by rw [c9_2]; decide) (by rw [c9_2]; decide) (by rw [c9_2]; rfl) (by decide)) ?_
          refine xW_pure (fun _ _ _ _ _ => am_aload_n d_Stow_count_66 rfl rfl) ?_
          refine xW_callV O (dx_Store_functions O T) (fun _ e => ob_Store_functions e) rfl rfl rfl l_Stow_191 ⟨w_1471, w_1472⟩ rfl (Nat.le_of_ble_eq_true rfl) d_Stow_count_67 (fun v9 s8 _ => ?_)
          exact xW_ret (fun _ _ _ _ _ => am_iret rfl d_Stow_count_70)
        · refine xW_by (fun c9_3 => ?_) (fun c9_3 => ?_)
          · refine xW_pure (fun _ _ _ _ _ => am_tableIn (off := 62) (tgt := 71) d_Stow_count_9 (by rw [c9_3]; decide) (by rw [c9_3]; decide) (by rw [c9_3]; rfl) (by decide)) ?_
            refine xW_pure (fun _ _ _ _ _ => am_aload_n d_Stow_count_71 rfl rfl) ?_
            refine xW_callV O (dx_Store_functionTokens O T) (fun _ e => ob_Store_functionTokens e) rfl rfl rfl l_Stow_194 ⟨w_1050, w_1051⟩ rfl (Nat.le_of_ble_eq_true rfl) d_Stow_count_72 (fun v11 s10 _ => ?_)
            exact xW_ret (fun _ _ _ _ _ => am_iret rfl d_Stow_count_75)
          · refine xW_by (fun c9_4 => ?_) (fun c9_4 => ?_)
            · refine xW_pure (fun _ _ _ _ _ => am_tableIn (off := 67) (tgt := 76) d_Stow_count_9 (by rw [c9_4]; decide) (by rw [c9_4]; decide) (by rw [c9_4]; rfl) (by decide)) ?_
              refine xW_pure (fun _ _ _ _ _ => am_aload_n d_Stow_count_76 rfl rfl) ?_
              refine xW_gR O f_Stow_37 d_Stow_count_77 (fun v12 _ => ?_)
              refine xW_callV O (dx_Log_safeBytes O T) (fun _ e => ob_Log_safeBytes e) rfl rfl rfl l_Stow_197 ⟨w_1476, w_1477⟩ rfl (Nat.le_of_ble_eq_true rfl) d_Stow_count_80 (fun v14 s13 _ => ?_)
              refine xW_pure (fun _ _ _ _ _ => am_aload_n d_Stow_count_83 rfl rfl) ?_
              refine xW_gR O f_Stow_37 d_Stow_count_84 (fun v15 _ => ?_)
              refine xW_callV O (dx_Log_waitingBytes O T) (fun _ e => ob_Log_waitingBytes e) rfl rfl rfl l_Stow_200 ⟨w_1480, w_1481⟩ rfl (Nat.le_of_ble_eq_true rfl) d_Stow_count_87 (fun v17 s16 _ => ?_)
              refine xW_pure (fun _ _ _ _ _ => am_iadd d_Stow_count_90) ?_
              exact xW_ret (fun _ _ _ _ _ => am_iret rfl d_Stow_count_91)
            · refine xW_by (fun c9_5 => ?_) (fun c9_5 => ?_)
              · refine xW_pure (fun _ _ _ _ _ => am_tableIn (off := 83) (tgt := 92) d_Stow_count_9 (by rw [c9_5]; decide) (by rw [c9_5]; decide) (by rw [c9_5]; rfl) (by decide)) ?_
                refine xW_pure (fun _ _ _ _ _ => am_aload_n d_Stow_count_92 rfl rfl) ?_
                refine xW_gR O f_Stow_37 d_Stow_count_93 (fun v18 _ => ?_)
                refine xW_callV O (dx_Log_waitingBytes O T) (fun _ e => ob_Log_waitingBytes e) rfl rfl rfl l_Stow_200 ⟨w_1480, w_1481⟩ rfl (Nat.le_of_ble_eq_true rfl) d_Stow_count_96 (fun v20 s19 _ => ?_)
                exact xW_ret (fun _ _ _ _ _ => am_iret rfl d_Stow_count_99)
              · refine xW_by (fun c9_6 => ?_) (fun c9_6 => ?_)
                · refine xW_pure (fun _ _ _ _ _ => am_tableIn (off := 91) (tgt := 100) d_Stow_count_9 (by rw [c9_6]; decide) (by rw [c9_6]; decide) (by rw [c9_6]; rfl) (by decide)) ?_
                  refine xW_pure (fun _ _ _ _ _ => am_aload_n d_Stow_count_100 rfl rfl) ?_
                  refine xW_gR O f_Stow_37 d_Stow_count_101 (fun v21 _ => ?_)
                  refine xW_callV O (dx_Log_waiting O T) (fun _ e => ob_Log_waiting e) rfl rfl rfl l_Stow_169 ⟨w_1410, w_1411⟩ rfl (Nat.le_of_ble_eq_true rfl) d_Stow_count_104 (fun v23 s22 _ => ?_)
                  exact xW_ret (fun _ _ _ _ _ => am_iret rfl d_Stow_count_107)
                · refine xW_by (fun c9_7 => ?_) (fun c9_7 => ?_)
                  · refine xW_pure (fun _ _ _ _ _ => am_tableIn (off := 99) (tgt := 108) d_Stow_count_9 (by rw [c9_7]; decide) (by rw [c9_7]; decide) (by rw [c9_7]; rfl) (by decide)) ?_
                    refine xW_pure (fun _ _ _ _ _ => am_aload_n d_Stow_count_108 rfl rfl) ?_
                    refine xW_gI O f_Stow_86 d_Stow_count_109 (fun v24 _ => ?_)
                    exact xW_ret (fun _ _ _ _ _ => am_iret rfl d_Stow_count_112)
                  · have e9_0 := lk_ne c9_0 (show (0 : Int32).toInt = 0 by decide)
                    have e9_1 := lk_ne c9_1 (show (1 : Int32).toInt = 1 by decide)
                    have e9_2 := lk_ne c9_2 (show (2 : Int32).toInt = 2 by decide)
                    have e9_3 := lk_ne c9_3 (show (3 : Int32).toInt = 3 by decide)
                    have e9_4 := lk_ne c9_4 (show (4 : Int32).toInt = 4 by decide)
                    have e9_5 := lk_ne c9_5 (show (5 : Int32).toInt = 5 by decide)
                    have e9_6 := lk_ne c9_6 (show (6 : Int32).toInt = 6 by decide)
                    have e9_7 := lk_ne c9_7 (show (7 : Int32).toInt = 7 by decide)
                    refine xW_pure (fun _ _ _ _ _ => am_tableOut (tgt := 113) d_Stow_count_9 (by omega) (by decide)) ?_
                    refine xW_pure (fun _ _ _ _ _ => am_iconst (v := (-1)) d_Stow_count_113 (by decide)) ?_
                    exact xW_ret (fun _ _ _ _ _ => am_iret rfl d_Stow_count_114)

theorem ob_Stow_count {d : Nat} {x0 : Nat} {x1 : Int32} {s : HS} {y : Int32 × HS} (h : x_Stow_count d x0 x1 s = some y) : isO s x0 9 = true := by
  cases d with
  | zero => cases h
  | succ d => exact (gd_spec h).1

set_option maxRecDepth 100000 in
def x_Mod_end (d : Nat) (x0 : Nat) (x1 : Int32) (s : HS) : Option (Int32 × HS) := match d with
  | 0 => none
  | d + 1 => gd s x0 14 ((gI s x0 14 2).bind fun v1 => (bnd (x_Mod_in d (x1 : Int32).toInt64 0 (v1 : Int32).toInt64 s) fun v3 s2 => (if v3 = 0 then (some ((-1), s2)) else ((pV s2 x0 14 2 (.int x1)).bind fun s4 => (some (x1, s4))))))

set_option maxRecDepth 100000 in
set_option maxHeartbeats 4000000 in
theorem dx_Mod_end (O : am_ok K X) (T : am_T K) {d : Nat} {x0 : Nat} {x1 : Int32} {s : HS} : xM cvI K X m_Mod_end d [.ref x0, .int x1] s (x_Mod_end d x0 x1 s) := by
  cases d with
  | zero => exact xM_none
  | succ d =>
    unfold x_Mod_end
    refine xM_enter (by decide +kernel) (Nat.le_of_ble_eq_true rfl) ?_
    refine xW_gd (fun _ => ?_)
    refine xW_pure (fun _ _ _ _ _ => am_iload_n d_Mod_end_0 rfl rfl) ?_
    refine xW_pure (fun _ _ _ _ _ => am_i2l d_Mod_end_1 rfl) ?_
    refine xW_pure (fun _ _ _ _ _ => am_lconst (v := 0) d_Mod_end_2 (by decide)) ?_
    refine xW_pure (fun _ _ _ _ _ => am_aload_n d_Mod_end_3 rfl rfl) ?_
    refine xW_gI O f_Mod_134 d_Mod_end_4 (fun v1 _ => ?_)
    refine xW_pure (fun _ _ _ _ _ => am_i2l d_Mod_end_7 rfl) ?_
    refine xW_callS O (dx_Mod_in O T) rfl l_Mod_70 w_1791 rfl (Nat.le_of_ble_eq_true rfl) d_Mod_end_8 (fun v3 s2 _ => ?_)
    refine xW_ite (fun _ _ _ _ _ k1 k2 => am_if_ne (tgt := 16) d_Mod_end_11 (by decide) k2 k1) (fun _ => ?_) (fun _ => ?_)
    · refine xW_pure (fun _ _ _ _ _ => am_iconst (v := (-1)) d_Mod_end_14 (by decide)) ?_
      exact xW_ret (fun _ _ _ _ _ => am_iret rfl d_Mod_end_15)
    · refine xW_pure (fun _ _ _ _ _ => am_aload_n d_Mod_end_16 rfl rfl) ?_
      refine xW_pure (fun _ _ _ _ _ => am_iload_n d_Mod_end_17 rfl rfl) ?_
      refine xW_put O f_Mod_134 d_Mod_end_18 (fun q hq => by cases hq; exact ⟨rfl, rfl, rfl⟩) (fun s4 _ => ?_)
      refine xW_pure (fun _ _ _ _ _ => am_iload_n d_Mod_end_21 rfl rfl) ?_
      exact xW_ret (fun _ _ _ _ _ => am_iret rfl d_Mod_end_22)

theorem ob_Mod_end {d : Nat} {x0 : Nat} {x1 : Int32} {s : HS} {y : Int32 × HS} (h : x_Mod_end d x0 x1 s = some y) : isO s x0 14 = true := by
  cases d with
  | zero => cases h
  | succ d => exact (gd_spec h).1

set_option maxRecDepth 100000 in
def x_Mod_step_b454 (d : Nat) (l0 : Nat) (l1 : Int32) (t0 : Nat) (t1 : Int32) (s : HS) : Option (Unit × HS) := (pV s t0 14 6 (.int t1)).bind fun s31 => (if l1 = 0 then ((gI s31 l0 14 5).bind fun v32 => ((pV s31 l0 14 8 (.int v32)).bind fun s33 => (some ((), s33)))) else ((gI s31 l0 14 5).bind fun v34 => ((pV s31 l0 14 5 (.int (v34 + 1))).bind fun s35 => ((gI s35 l0 14 5).bind fun v36 => ((pV s35 l0 14 8 (.int v36)).bind fun s37 => (some ((), s37)))))))

set_option maxRecDepth 100000 in
set_option maxHeartbeats 4000000 in
theorem dx_Mod_step_b454 (O : am_ok K X) (T : am_T K) {d : Nat} {l0 : Nat} {l1 : Int32} {t0 : Nat} {t1 : Int32} {s : HS} : xW cvU K X m_Mod_step (d + 1) 454 [(0, .ref l0), (1, .int l1)] [.int t1, .ref t0] s (x_Mod_step_b454 d l0 l1 t0 t1 s) := by
  unfold x_Mod_step_b454
  refine xW_put O f_Mod_32 d_Mod_step_454 (fun q hq => by cases hq; exact ⟨rfl, rfl, rfl⟩) (fun s31 _ => ?_)
  refine xW_pure (fun _ _ _ _ _ => am_iload_n d_Mod_step_457 rfl rfl) ?_
  refine xW_ite (fun _ _ _ _ _ => am_if_eq (tgt := 471) d_Mod_step_458 (by decide)) (fun _ => ?_) (fun _ => ?_)
  · refine xW_pure (fun _ _ _ _ _ => am_goto (tgt := 713) d_Mod_step_471 (by decide)) ?_
    refine xW_pure (fun _ _ _ _ _ => am_aload_n d_Mod_step_713 rfl rfl) ?_
    refine xW_pure (fun _ _ _ _ _ => am_aload_n d_Mod_step_714 rfl rfl) ?_
    refine xW_gI O f_Mod_3 d_Mod_step_715 (fun v32 _ => ?_)
    refine xW_put O f_Mod_74 d_Mod_step_718 (fun q hq => by cases hq; exact ⟨rfl, rfl, rfl⟩) (fun s33 _ => ?_)
    exact xW_ret (fun _ _ _ _ _ => am_vret rfl d_Mod_step_721)
  · refine xW_pure (fun _ _ _ _ _ => am_aload_n d_Mod_step_461 rfl rfl) ?_
    refine xW_pure (fun _ _ _ _ _ => am_dup d_Mod_step_462 rfl) ?_
    refine xW_gI O f_Mod_3 d_Mod_step_463 (fun v34 _ => ?_)
    refine xW_pure (fun _ _ _ _ _ => am_iconst (v := 1) d_Mod_step_466 (by decide)) ?_
    refine xW_pure (fun _ _ _ _ _ => am_iadd d_Mod_step_467) ?_
    refine xW_put O f_Mod_3 d_Mod_step_468 (fun q hq => by cases hq; exact ⟨rfl, rfl, rfl⟩) (fun s35 _ => ?_)
    refine xW_pure (fun _ _ _ _ _ => am_goto (tgt := 713) d_Mod_step_471 (by decide)) ?_
    refine xW_pure (fun _ _ _ _ _ => am_aload_n d_Mod_step_713 rfl rfl) ?_
    refine xW_pure (fun _ _ _ _ _ => am_aload_n d_Mod_step_714 rfl rfl) ?_
    refine xW_gI O f_Mod_3 d_Mod_step_715 (fun v36 _ => ?_)
    refine xW_put O f_Mod_74 d_Mod_step_718 (fun q hq => by cases hq; exact ⟨rfl, rfl, rfl⟩) (fun s37 _ => ?_)
    exact xW_ret (fun _ _ _ _ _ => am_vret rfl d_Mod_step_721)

set_option maxRecDepth 100000 in
def x_Mod_step_b452 (d : Nat) (l0 : Nat) (l1 : Int32) (t0 : Nat) (s : HS) : Option (Unit × HS) := x_Mod_step_b454 d l0 l1 t0 6 s

set_option maxRecDepth 100000 in
set_option maxHeartbeats 4000000 in
theorem dx_Mod_step_b452 (O : am_ok K X) (T : am_T K) {d : Nat} {l0 : Nat} {l1 : Int32} {t0 : Nat} {s : HS} : xW cvU K X m_Mod_step (d + 1) 452 [(0, .ref l0), (1, .int l1)] [.ref t0] s (x_Mod_step_b452 d l0 l1 t0 s) := by
  unfold x_Mod_step_b452
  refine xW_pure (fun _ _ _ _ _ => am_bipush (v := 6) d_Mod_step_452 (by decide)) ?_
  refine xW_locs (lv' := [(0, .ref l0), (1, .int l1)]) rfl ?_
  exact dx_Mod_step_b454 O T

set_option maxRecDepth 100000 in
def x_Mod_step_b426 (d : Nat) (l0 : Nat) (t0 : Int32) (s : HS) : Option (Unit × HS) := if t0 = 0 then (x_Mod_step_b452 d l0 t0 l0 s) else ((gI s l0 14 5).bind fun v38 => ((gI s l0 14 7).bind fun v39 => (if 16 < ((v38 - v39) - 1) then (x_Mod_step_b452 d l0 t0 l0 s) else (x_Mod_step_b454 d l0 t0 l0 4 s))))

set_option maxRecDepth 100000 in
set_option maxHeartbeats 4000000 in
theorem dx_Mod_step_b426 (O : am_ok K X) (T : am_T K) {d : Nat} {l0 : Nat} {t0 : Int32} {s : HS} : xW cvU K X m_Mod_step (d + 1) 426 [(0, .ref l0)] [.int t0] s (x_Mod_step_b426 d l0 t0 s) := by
  unfold x_Mod_step_b426
  refine xW_pure (fun _ _ _ _ _ => am_istore_n d_Mod_step_426 rfl (Nat.le_of_ble_eq_true rfl)) ?_
  refine xW_pure (fun _ _ _ _ _ => am_aload_n d_Mod_step_427 rfl rfl) ?_
  refine xW_pure (fun _ _ _ _ _ => am_iload_n d_Mod_step_428 rfl rfl) ?_
  refine xW_ite (fun _ _ _ _ _ => am_if_eq (tgt := 452) d_Mod_step_429 (by decide)) (fun _ => ?_) (fun _ => ?_)
  · refine xW_locs (lv' := [(0, .ref l0), (1, .int t0)]) rfl ?_
    exact dx_Mod_step_b452 O T
  · refine xW_pure (fun _ _ _ _ _ => am_aload_n d_Mod_step_432 rfl rfl) ?_
    refine xW_gI O f_Mod_3 d_Mod_step_433 (fun v38 _ => ?_)
    refine xW_pure (fun _ _ _ _ _ => am_aload_n d_Mod_step_436 rfl rfl) ?_
    refine xW_gI O f_Mod_9 d_Mod_step_437 (fun v39 _ => ?_)
    refine xW_pure (fun _ _ _ _ _ => am_isub d_Mod_step_440) ?_
    refine xW_pure (fun _ _ _ _ _ => am_iconst (v := 1) d_Mod_step_441 (by decide)) ?_
    refine xW_pure (fun _ _ _ _ _ => am_isub d_Mod_step_442) ?_
    refine xW_pure (fun _ _ _ _ _ => am_bipush (v := 16) d_Mod_step_443 (by decide)) ?_
    refine xW_ite (fun _ _ _ _ _ => am_icmp_gt (tgt := 452) d_Mod_step_445 (by decide)) (fun _ => ?_) (fun _ => ?_)
    · refine xW_locs (lv' := [(0, .ref l0), (1, .int t0)]) rfl ?_
      exact dx_Mod_step_b452 O T
    · refine xW_pure (fun _ _ _ _ _ => am_iconst (v := 4) d_Mod_step_448 (by decide)) ?_
      refine xW_pure (fun _ _ _ _ _ => am_goto (tgt := 454) d_Mod_step_449 (by decide)) ?_
      refine xW_locs (lv' := [(0, .ref l0), (1, .int t0)]) rfl ?_
      exact dx_Mod_step_b454 O T

set_option maxRecDepth 100000 in
def x_Mod_step_b425 (d : Nat) (l0 : Nat) (s : HS) : Option (Unit × HS) := x_Mod_step_b426 d l0 0 s

set_option maxRecDepth 100000 in
set_option maxHeartbeats 4000000 in
theorem dx_Mod_step_b425 (O : am_ok K X) (T : am_T K) {d : Nat} {l0 : Nat} {s : HS} : xW cvU K X m_Mod_step (d + 1) 425 [(0, .ref l0)] [] s (x_Mod_step_b425 d l0 s) := by
  unfold x_Mod_step_b425
  refine xW_pure (fun _ _ _ _ _ => am_iconst (v := 0) d_Mod_step_425 (by decide)) ?_
  refine xW_locs (lv' := [(0, .ref l0)]) rfl ?_
  exact dx_Mod_step_b426 O T

set_option maxRecDepth 100000 in
def x_Mod_step_b396 (d : Nat) (l0 : Nat) (s : HS) : Option (Unit × HS) := (gI s l0 14 5).bind fun v29 => ((gI s l0 14 4).bind fun v30 => (if v30 ≤ v29 then (x_Mod_step_b425 d l0 s) else ((gR s l0 14 0).bind fun v40 => ((gI s l0 14 5).bind fun v41 => ((aB s v40 v41).bind fun v42 => (if v42 = 34 then (x_Mod_step_b426 d l0 1 s) else (x_Mod_step_b425 d l0 s)))))))

set_option maxRecDepth 100000 in
set_option maxHeartbeats 4000000 in
theorem dx_Mod_step_b396 (O : am_ok K X) (T : am_T K) {d : Nat} {l0 : Nat} {s : HS} : xW cvU K X m_Mod_step (d + 1) 396 [(0, .ref l0)] [] s (x_Mod_step_b396 d l0 s) := by
  unfold x_Mod_step_b396
  refine xW_pure (fun _ _ _ _ _ => am_aload_n d_Mod_step_396 rfl rfl) ?_
  refine xW_gI O f_Mod_3 d_Mod_step_397 (fun v29 _ => ?_)
  refine xW_pure (fun _ _ _ _ _ => am_aload_n d_Mod_step_400 rfl rfl) ?_
  refine xW_gI O f_Mod_29 d_Mod_step_401 (fun v30 _ => ?_)
  refine xW_ite (fun _ _ _ _ _ => am_icmp_ge (tgt := 425) d_Mod_step_404 (by decide)) (fun _ => ?_) (fun _ => ?_)
  · refine xW_locs (lv' := [(0, .ref l0)]) rfl ?_
    exact dx_Mod_step_b425 O T
  · refine xW_pure (fun _ _ _ _ _ => am_aload_n d_Mod_step_407 rfl rfl) ?_
    refine xW_gR O f_Mod_22 d_Mod_step_408 (fun v40 _ => ?_)
    refine xW_pure (fun _ _ _ _ _ => am_aload_n d_Mod_step_411 rfl rfl) ?_
    refine xW_gI O f_Mod_3 d_Mod_step_412 (fun v41 _ => ?_)
    refine xW_aB O d_Mod_step_415 (fun v42 _ => ?_)
    refine xW_pure (fun _ _ _ _ _ => am_bipush (v := 34) d_Mod_step_416 (by decide)) ?_
    refine xW_ite (fun _ _ _ _ _ k1 k2 => am_icmp_ne (tgt := 425) d_Mod_step_418 (by decide) k2 k1) (fun _ => ?_) (fun _ => ?_)
    · refine xW_pure (fun _ _ _ _ _ => am_iconst (v := 1) d_Mod_step_421 (by decide)) ?_
      refine xW_pure (fun _ _ _ _ _ => am_goto (tgt := 426) d_Mod_step_422 (by decide)) ?_
      refine xW_locs (lv' := [(0, .ref l0)]) rfl ?_
      exact dx_Mod_step_b426 O T
    · refine xW_locs (lv' := [(0, .ref l0)]) rfl ?_
      exact dx_Mod_step_b425 O T

set_option maxRecDepth 100000 in
def x_Mod_step_b691 (d : Nat) (l0 : Nat) (l4 : Int32) (t0 : Nat) (t1 : Int32) (s : HS) : Option (Unit × HS) := (pV s t0 14 6 (.int t1)).bind fun s58 => ((gI s58 l0 14 5).bind fun v59 => (if l4 = 0 then ((pV s58 l0 14 5 (.int (v59 + 1))).bind fun s60 => ((gI s60 l0 14 5).bind fun v61 => ((pV s60 l0 14 8 (.int v61)).bind fun s62 => (some ((), s62))))) else ((pV s58 l0 14 5 (.int (v59 + 2))).bind fun s63 => ((gI s63 l0 14 5).bind fun v64 => ((pV s63 l0 14 8 (.int v64)).bind fun s65 => (some ((), s65)))))))

set_option maxRecDepth 100000 in
set_option maxHeartbeats 4000000 in
theorem dx_Mod_step_b691 (O : am_ok K X) (T : am_T K) {d : Nat} {l0 : Nat} {l4 : Int32} {t0 : Nat} {t1 : Int32} {s : HS} : xW cvU K X m_Mod_step (d + 1) 691 [(0, .ref l0), (4, .int l4)] [.int t1, .ref t0] s (x_Mod_step_b691 d l0 l4 t0 t1 s) := by
  unfold x_Mod_step_b691
  refine xW_put O f_Mod_32 d_Mod_step_691 (fun q hq => by cases hq; exact ⟨rfl, rfl, rfl⟩) (fun s58 _ => ?_)
  refine xW_pure (fun _ _ _ _ _ => am_aload_n d_Mod_step_694 rfl rfl) ?_
  refine xW_pure (fun _ _ _ _ _ => am_dup d_Mod_step_695 rfl) ?_
  refine xW_gI O f_Mod_3 d_Mod_step_696 (fun v59 _ => ?_)
  refine xW_pure (fun _ _ _ _ _ => am_iload d_Mod_step_699 rfl) ?_
  refine xW_ite (fun _ _ _ _ _ => am_if_eq (tgt := 708) d_Mod_step_701 (by decide)) (fun _ => ?_) (fun _ => ?_)
  · refine xW_pure (fun _ _ _ _ _ => am_iconst (v := 1) d_Mod_step_708 (by decide)) ?_
    refine xW_pure (fun _ _ _ _ _ => am_iadd d_Mod_step_709) ?_
    refine xW_put O f_Mod_3 d_Mod_step_710 (fun q hq => by cases hq; exact ⟨rfl, rfl, rfl⟩) (fun s60 _ => ?_)
    refine xW_pure (fun _ _ _ _ _ => am_aload_n d_Mod_step_713 rfl rfl) ?_
    refine xW_pure (fun _ _ _ _ _ => am_aload_n d_Mod_step_714 rfl rfl) ?_
    refine xW_gI O f_Mod_3 d_Mod_step_715 (fun v61 _ => ?_)
    refine xW_put O f_Mod_74 d_Mod_step_718 (fun q hq => by cases hq; exact ⟨rfl, rfl, rfl⟩) (fun s62 _ => ?_)
    exact xW_ret (fun _ _ _ _ _ => am_vret rfl d_Mod_step_721)
  · refine xW_pure (fun _ _ _ _ _ => am_iconst (v := 2) d_Mod_step_704 (by decide)) ?_
    refine xW_pure (fun _ _ _ _ _ => am_goto (tgt := 709) d_Mod_step_705 (by decide)) ?_
    refine xW_pure (fun _ _ _ _ _ => am_iadd d_Mod_step_709) ?_
    refine xW_put O f_Mod_3 d_Mod_step_710 (fun q hq => by cases hq; exact ⟨rfl, rfl, rfl⟩) (fun s63 _ => ?_)
    refine xW_pure (fun _ _ _ _ _ => am_aload_n d_Mod_step_713 rfl rfl) ?_
    refine xW_pure (fun _ _ _ _ _ => am_aload_n d_Mod_step_714 rfl rfl) ?_
    refine xW_gI O f_Mod_3 d_Mod_step_715 (fun v64 _ => ?_)
    refine xW_put O f_Mod_74 d_Mod_step_718 (fun q hq => by cases hq; exact ⟨rfl, rfl, rfl⟩) (fun s65 _ => ?_)
    exact xW_ret (fun _ _ _ _ _ => am_vret rfl d_Mod_step_721)

set_option maxRecDepth 100000 in
def x_Mod_step_b685 (d : Nat) (l0 : Nat) (l4 : Int32) (t0 : Nat) (s : HS) : Option (Unit × HS) := x_Mod_step_b691 d l0 l4 t0 5 s

set_option maxRecDepth 100000 in
set_option maxHeartbeats 4000000 in
theorem dx_Mod_step_b685 (O : am_ok K X) (T : am_T K) {d : Nat} {l0 : Nat} {l4 : Int32} {t0 : Nat} {s : HS} : xW cvU K X m_Mod_step (d + 1) 685 [(0, .ref l0), (4, .int l4)] [.ref t0] s (x_Mod_step_b685 d l0 l4 t0 s) := by
  unfold x_Mod_step_b685
  refine xW_pure (fun _ _ _ _ _ => am_iconst (v := 5) d_Mod_step_685 (by decide)) ?_
  refine xW_pure (fun _ _ _ _ _ => am_goto (tgt := 691) d_Mod_step_686 (by decide)) ?_
  refine xW_locs (lv' := [(0, .ref l0), (4, .int l4)]) rfl ?_
  exact dx_Mod_step_b691 O T

set_option maxRecDepth 100000 in
def x_Mod_step_b673 (d : Nat) (l0 : Nat) (l3 : Int32) (t0 : Int32) (s : HS) : Option (Unit × HS) := if l3 = 0 then (if t0 = 0 then (x_Mod_step_b691 d l0 t0 l0 6 s) else (x_Mod_step_b685 d l0 t0 l0 s)) else (x_Mod_step_b685 d l0 t0 l0 s)

set_option maxRecDepth 100000 in
set_option maxHeartbeats 4000000 in
theorem dx_Mod_step_b673 (O : am_ok K X) (T : am_T K) {d : Nat} {l0 : Nat} {l3 : Int32} {t0 : Int32} {s : HS} : xW cvU K X m_Mod_step (d + 1) 673 [(0, .ref l0), (3, .int l3)] [.int t0] s (x_Mod_step_b673 d l0 l3 t0 s) := by
  unfold x_Mod_step_b673
  refine xW_pure (fun _ _ _ _ _ => am_istore d_Mod_step_673 (Nat.le_of_ble_eq_true rfl)) ?_
  refine xW_pure (fun _ _ _ _ _ => am_aload_n d_Mod_step_675 rfl rfl) ?_
  refine xW_pure (fun _ _ _ _ _ => am_iload_n d_Mod_step_676 rfl rfl) ?_
  refine xW_ite (fun _ _ _ _ _ k1 k2 => am_if_ne (tgt := 685) d_Mod_step_677 (by decide) k2 k1) (fun _ => ?_) (fun _ => ?_)
  · refine xW_pure (fun _ _ _ _ _ => am_iload d_Mod_step_680 rfl) ?_
    refine xW_ite (fun _ _ _ _ _ => am_if_eq (tgt := 689) d_Mod_step_682 (by decide)) (fun _ => ?_) (fun _ => ?_)
    · refine xW_pure (fun _ _ _ _ _ => am_bipush (v := 6) d_Mod_step_689 (by decide)) ?_
      refine xW_locs (lv' := [(0, .ref l0), (4, .int t0)]) rfl ?_
      exact dx_Mod_step_b691 O T
    · refine xW_locs (lv' := [(0, .ref l0), (4, .int t0)]) rfl ?_
      exact dx_Mod_step_b685 O T
  · refine xW_locs (lv' := [(0, .ref l0), (4, .int t0)]) rfl ?_
    exact dx_Mod_step_b685 O T

set_option maxRecDepth 100000 in
def x_Mod_step_b668 (d : Nat) (l0 : Nat) (l3 : Int32) (s : HS) : Option (Unit × HS) := x_Mod_step_b673 d l0 l3 1 s

set_option maxRecDepth 100000 in
set_option maxHeartbeats 4000000 in
theorem dx_Mod_step_b668 (O : am_ok K X) (T : am_T K) {d : Nat} {l0 : Nat} {l3 : Int32} {s : HS} : xW cvU K X m_Mod_step (d + 1) 668 [(0, .ref l0), (3, .int l3)] [] s (x_Mod_step_b668 d l0 l3 s) := by
  unfold x_Mod_step_b668
  refine xW_pure (fun _ _ _ _ _ => am_iconst (v := 1) d_Mod_step_668 (by decide)) ?_
  refine xW_pure (fun _ _ _ _ _ => am_goto (tgt := 673) d_Mod_step_669 (by decide)) ?_
  refine xW_locs (lv' := [(0, .ref l0), (3, .int l3)]) rfl ?_
  exact dx_Mod_step_b673 O T

set_option maxRecDepth 100000 in
def x_Mod_step_b672 (d : Nat) (l0 : Nat) (l3 : Int32) (s : HS) : Option (Unit × HS) := x_Mod_step_b673 d l0 l3 0 s

set_option maxRecDepth 100000 in
set_option maxHeartbeats 4000000 in
theorem dx_Mod_step_b672 (O : am_ok K X) (T : am_T K) {d : Nat} {l0 : Nat} {l3 : Int32} {s : HS} : xW cvU K X m_Mod_step (d + 1) 672 [(0, .ref l0), (3, .int l3)] [] s (x_Mod_step_b672 d l0 l3 s) := by
  unfold x_Mod_step_b672
  refine xW_pure (fun _ _ _ _ _ => am_iconst (v := 0) d_Mod_step_672 (by decide)) ?_
  refine xW_locs (lv' := [(0, .ref l0), (3, .int l3)]) rfl ?_
  exact dx_Mod_step_b673 O T

set_option maxRecDepth 100000 in
def x_Mod_step_b651 (d : Nat) (l0 : Nat) (l1 : Int32) (l2 : Int32) (l3 : Int32) (s : HS) : Option (Unit × HS) := if l2 = l1 then (if l1 = 38 then (x_Mod_step_b668 d l0 l3 s) else (if l1 = 124 then (x_Mod_step_b668 d l0 l3 s) else (x_Mod_step_b672 d l0 l3 s))) else (x_Mod_step_b672 d l0 l3 s)

set_option maxRecDepth 100000 in
set_option maxHeartbeats 4000000 in
theorem dx_Mod_step_b651 (O : am_ok K X) (T : am_T K) {d : Nat} {l0 : Nat} {l1 : Int32} {l2 : Int32} {l3 : Int32} {s : HS} : xW cvU K X m_Mod_step (d + 1) 651 [(0, .ref l0), (1, .int l1), (2, .int l2), (3, .int l3)] [] s (x_Mod_step_b651 d l0 l1 l2 l3 s) := by
  unfold x_Mod_step_b651
  refine xW_pure (fun _ _ _ _ _ => am_iload_n d_Mod_step_651 rfl rfl) ?_
  refine xW_pure (fun _ _ _ _ _ => am_iload_n d_Mod_step_652 rfl rfl) ?_
  refine xW_ite (fun _ _ _ _ _ k1 k2 => am_icmp_ne (tgt := 672) d_Mod_step_653 (by decide) k2 k1) (fun _ => ?_) (fun _ => ?_)
  · refine xW_pure (fun _ _ _ _ _ => am_iload_n d_Mod_step_656 rfl rfl) ?_
    refine xW_pure (fun _ _ _ _ _ => am_bipush (v := 38) d_Mod_step_657 (by decide)) ?_
    refine xW_ite (fun _ _ _ _ _ => am_icmp_eq (tgt := 668) d_Mod_step_659 (by decide)) (fun _ => ?_) (fun _ => ?_)
    · refine xW_locs (lv' := [(0, .ref l0), (3, .int l3)]) rfl ?_
      exact dx_Mod_step_b668 O T
    · refine xW_pure (fun _ _ _ _ _ => am_iload_n d_Mod_step_662 rfl rfl) ?_
      refine xW_pure (fun _ _ _ _ _ => am_bipush (v := 124) d_Mod_step_663 (by decide)) ?_
      refine xW_ite (fun _ _ _ _ _ k1 k2 => am_icmp_ne (tgt := 672) d_Mod_step_665 (by decide) k2 k1) (fun _ => ?_) (fun _ => ?_)
      · refine xW_locs (lv' := [(0, .ref l0), (3, .int l3)]) rfl ?_
        exact dx_Mod_step_b668 O T
      · refine xW_locs (lv' := [(0, .ref l0), (3, .int l3)]) rfl ?_
        exact dx_Mod_step_b672 O T
  · refine xW_locs (lv' := [(0, .ref l0), (3, .int l3)]) rfl ?_
    exact dx_Mod_step_b672 O T

set_option maxRecDepth 100000 in
def x_Mod_step_b626 (d : Nat) (l0 : Nat) (l1 : Int32) (l2 : Int32) (t0 : Int32) (s : HS) : Option (Unit × HS) := if l2 = 61 then (if l1 = 61 then (x_Mod_step_b668 d l0 t0 s) else (if l1 = 33 then (x_Mod_step_b668 d l0 t0 s) else (if l1 = 60 then (x_Mod_step_b668 d l0 t0 s) else (x_Mod_step_b651 d l0 l1 l2 t0 s)))) else (x_Mod_step_b651 d l0 l1 l2 t0 s)

set_option maxRecDepth 100000 in
set_option maxHeartbeats 4000000 in
theorem dx_Mod_step_b626 (O : am_ok K X) (T : am_T K) {d : Nat} {l0 : Nat} {l1 : Int32} {l2 : Int32} {t0 : Int32} {s : HS} : xW cvU K X m_Mod_step (d + 1) 626 [(0, .ref l0), (1, .int l1), (2, .int l2)] [.int t0] s (x_Mod_step_b626 d l0 l1 l2 t0 s) := by
  unfold x_Mod_step_b626
  refine xW_pure (fun _ _ _ _ _ => am_istore_n d_Mod_step_626 rfl (Nat.le_of_ble_eq_true rfl)) ?_
  refine xW_pure (fun _ _ _ _ _ => am_iload_n d_Mod_step_627 rfl rfl) ?_
  refine xW_pure (fun _ _ _ _ _ => am_bipush (v := 61) d_Mod_step_628 (by decide)) ?_
  refine xW_ite (fun _ _ _ _ _ k1 k2 => am_icmp_ne (tgt := 651) d_Mod_step_630 (by decide) k2 k1) (fun _ => ?_) (fun _ => ?_)
  · refine xW_pure (fun _ _ _ _ _ => am_iload_n d_Mod_step_633 rfl rfl) ?_
    refine xW_pure (fun _ _ _ _ _ => am_bipush (v := 61) d_Mod_step_634 (by decide)) ?_
    refine xW_ite (fun _ _ _ _ _ => am_icmp_eq (tgt := 668) d_Mod_step_636 (by decide)) (fun _ => ?_) (fun _ => ?_)
    · refine xW_locs (lv' := [(0, .ref l0), (3, .int t0)]) rfl ?_
      exact dx_Mod_step_b668 O T
    · refine xW_pure (fun _ _ _ _ _ => am_iload_n d_Mod_step_639 rfl rfl) ?_
      refine xW_pure (fun _ _ _ _ _ => am_bipush (v := 33) d_Mod_step_640 (by decide)) ?_
      refine xW_ite (fun _ _ _ _ _ => am_icmp_eq (tgt := 668) d_Mod_step_642 (by decide)) (fun _ => ?_) (fun _ => ?_)
      · refine xW_locs (lv' := [(0, .ref l0), (3, .int t0)]) rfl ?_
        exact dx_Mod_step_b668 O T
      · refine xW_pure (fun _ _ _ _ _ => am_iload_n d_Mod_step_645 rfl rfl) ?_
        refine xW_pure (fun _ _ _ _ _ => am_bipush (v := 60) d_Mod_step_646 (by decide)) ?_
        refine xW_ite (fun _ _ _ _ _ => am_icmp_eq (tgt := 668) d_Mod_step_648 (by decide)) (fun _ => ?_) (fun _ => ?_)
        · refine xW_locs (lv' := [(0, .ref l0), (3, .int t0)]) rfl ?_
          exact dx_Mod_step_b668 O T
        · refine xW_locs (lv' := [(0, .ref l0), (1, .int l1), (2, .int l2), (3, .int t0)]) rfl ?_
          exact dx_Mod_step_b651 O T
  · refine xW_locs (lv' := [(0, .ref l0), (1, .int l1), (2, .int l2), (3, .int t0)]) rfl ?_
    exact dx_Mod_step_b651 O T

set_option maxRecDepth 100000 in
def x_Mod_step_b621 (d : Nat) (l0 : Nat) (l1 : Int32) (l2 : Int32) (s : HS) : Option (Unit × HS) := x_Mod_step_b626 d l0 l1 l2 1 s

set_option maxRecDepth 100000 in
set_option maxHeartbeats 4000000 in
theorem dx_Mod_step_b621 (O : am_ok K X) (T : am_T K) {d : Nat} {l0 : Nat} {l1 : Int32} {l2 : Int32} {s : HS} : xW cvU K X m_Mod_step (d + 1) 621 [(0, .ref l0), (1, .int l1), (2, .int l2)] [] s (x_Mod_step_b621 d l0 l1 l2 s) := by
  unfold x_Mod_step_b621
  refine xW_pure (fun _ _ _ _ _ => am_iconst (v := 1) d_Mod_step_621 (by decide)) ?_
  refine xW_pure (fun _ _ _ _ _ => am_goto (tgt := 626) d_Mod_step_622 (by decide)) ?_
  refine xW_locs (lv' := [(0, .ref l0), (1, .int l1), (2, .int l2)]) rfl ?_
  exact dx_Mod_step_b626 O T

set_option maxRecDepth 100000 in
def x_Mod_step_b512 (d : Nat) (l0 : Nat) (l1 : Int32) (t0 : Int32) (s : HS) : Option (Unit × HS) := if l1 = 123 then (x_Mod_step_b621 d l0 l1 t0 s) else (if l1 = 125 then (x_Mod_step_b621 d l0 l1 t0 s) else (if l1 = 40 then (x_Mod_step_b621 d l0 l1 t0 s) else (if l1 = 41 then (x_Mod_step_b621 d l0 l1 t0 s) else (if l1 = 91 then (x_Mod_step_b621 d l0 l1 t0 s) else (if l1 = 93 then (x_Mod_step_b621 d l0 l1 t0 s) else (if l1 = 44 then (x_Mod_step_b621 d l0 l1 t0 s) else (if l1 = 59 then (x_Mod_step_b621 d l0 l1 t0 s) else (if l1 = 58 then (x_Mod_step_b621 d l0 l1 t0 s) else (if l1 = 46 then (x_Mod_step_b621 d l0 l1 t0 s) else (if l1 = 61 then (x_Mod_step_b621 d l0 l1 t0 s) else (if l1 = 43 then (x_Mod_step_b621 d l0 l1 t0 s) else (if l1 = 45 then (x_Mod_step_b621 d l0 l1 t0 s) else (if l1 = 42 then (x_Mod_step_b621 d l0 l1 t0 s) else (if l1 = 47 then (x_Mod_step_b621 d l0 l1 t0 s) else (if l1 = 37 then (x_Mod_step_b621 d l0 l1 t0 s) else (if l1 = 60 then (x_Mod_step_b621 d l0 l1 t0 s) else (if l1 = 33 then (x_Mod_step_b621 d l0 l1 t0 s) else (x_Mod_step_b626 d l0 l1 t0 0 s))))))))))))))))))

set_option maxRecDepth 100000 in
set_option maxHeartbeats 4000000 in
theorem dx_Mod_step_b512 (O : am_ok K X) (T : am_T K) {d : Nat} {l0 : Nat} {l1 : Int32} {t0 : Int32} {s : HS} : xW cvU K X m_Mod_step (d + 1) 512 [(0, .ref l0), (1, .int l1)] [.int t0] s (x_Mod_step_b512 d l0 l1 t0 s) := by
  unfold x_Mod_step_b512
  refine xW_pure (fun _ _ _ _ _ => am_istore_n d_Mod_step_512 rfl (Nat.le_of_ble_eq_true rfl)) ?_
  refine xW_pure (fun _ _ _ _ _ => am_iload_n d_Mod_step_513 rfl rfl) ?_
  refine xW_pure (fun _ _ _ _ _ => am_bipush (v := 123) d_Mod_step_514 (by decide)) ?_
  refine xW_ite (fun _ _ _ _ _ => am_icmp_eq (tgt := 621) d_Mod_step_516 (by decide)) (fun _ => ?_) (fun _ => ?_)
  · refine xW_locs (lv' := [(0, .ref l0), (1, .int l1), (2, .int t0)]) rfl ?_
    exact dx_Mod_step_b621 O T
  · refine xW_pure (fun _ _ _ _ _ => am_iload_n d_Mod_step_519 rfl rfl) ?_
    refine xW_pure (fun _ _ _ _ _ => am_bipush (v := 125) d_Mod_step_520 (by decide)) ?_
    refine xW_ite (fun _ _ _ _ _ => am_icmp_eq (tgt := 621) d_Mod_step_522 (by decide)) (fun _ => ?_) (fun _ => ?_)
    · refine xW_locs (lv' := [(0, .ref l0), (1, .int l1), (2, .int t0)]) rfl ?_
      exact dx_Mod_step_b621 O T
    · refine xW_pure (fun _ _ _ _ _ => am_iload_n d_Mod_step_525 rfl rfl) ?_
      refine xW_pure (fun _ _ _ _ _ => am_bipush (v := 40) d_Mod_step_526 (by decide)) ?_
      refine xW_ite (fun _ _ _ _ _ => am_icmp_eq (tgt := 621) d_Mod_step_528 (by decide)) (fun _ => ?_) (fun _ => ?_)
      · refine xW_locs (lv' := [(0, .ref l0), (1, .int l1), (2, .int t0)]) rfl ?_
        exact dx_Mod_step_b621 O T
      · refine xW_pure (fun _ _ _ _ _ => am_iload_n d_Mod_step_531 rfl rfl) ?_
        refine xW_pure (fun _ _ _ _ _ => am_bipush (v := 41) d_Mod_step_532 (by decide)) ?_
        refine xW_ite (fun _ _ _ _ _ => am_icmp_eq (tgt := 621) d_Mod_step_534 (by decide)) (fun _ => ?_) (fun _ => ?_)
        · refine xW_locs (lv' := [(0, .ref l0), (1, .int l1), (2, .int t0)]) rfl ?_
          exact dx_Mod_step_b621 O T
        · refine xW_pure (fun _ _ _ _ _ => am_iload_n d_Mod_step_537 rfl rfl) ?_
          refine xW_pure (fun _ _ _ _ _ => am_bipush (v := 91) d_Mod_step_538 (by decide)) ?_
          refine xW_ite (fun _ _ _ _ _ => am_icmp_eq (tgt := 621) d_Mod_step_540 (by decide)) (fun _ => ?_) (fun _ => ?_)
          · refine xW_locs (lv' := [(0, .ref l0), (1, .int l1), (2, .int t0)]) rfl ?_
            exact dx_Mod_step_b621 O T
          · refine xW_pure (fun _ _ _ _ _ => am_iload_n d_Mod_step_543 rfl rfl) ?_
            refine xW_pure (fun _ _ _ _ _ => am_bipush (v := 93) d_Mod_step_544 (by decide)) ?_
            refine xW_ite (fun _ _ _ _ _ => am_icmp_eq (tgt := 621) d_Mod_step_546 (by decide)) (fun _ => ?_) (fun _ => ?_)
            · refine xW_locs (lv' := [(0, .ref l0), (1, .int l1), (2, .int t0)]) rfl ?_
              exact dx_Mod_step_b621 O T
            · refine xW_pure (fun _ _ _ _ _ => am_iload_n d_Mod_step_549 rfl rfl) ?_
              refine xW_pure (fun _ _ _ _ _ => am_bipush (v := 44) d_Mod_step_550 (by decide)) ?_
              refine xW_ite (fun _ _ _ _ _ => am_icmp_eq (tgt := 621) d_Mod_step_552 (by decide)) (fun _ => ?_) (fun _ => ?_)
              · refine xW_locs (lv' := [(0, .ref l0), (1, .int l1), (2, .int t0)]) rfl ?_
                exact dx_Mod_step_b621 O T
              · refine xW_pure (fun _ _ _ _ _ => am_iload_n d_Mod_step_555 rfl rfl) ?_
                refine xW_pure (fun _ _ _ _ _ => am_bipush (v := 59) d_Mod_step_556 (by decide)) ?_
                refine xW_ite (fun _ _ _ _ _ => am_icmp_eq (tgt := 621) d_Mod_step_558 (by decide)) (fun _ => ?_) (fun _ => ?_)
                · refine xW_locs (lv' := [(0, .ref l0), (1, .int l1), (2, .int t0)]) rfl ?_
                  exact dx_Mod_step_b621 O T
                · refine xW_pure (fun _ _ _ _ _ => am_iload_n d_Mod_step_561 rfl rfl) ?_
                  refine xW_pure (fun _ _ _ _ _ => am_bipush (v := 58) d_Mod_step_562 (by decide)) ?_
                  refine xW_ite (fun _ _ _ _ _ => am_icmp_eq (tgt := 621) d_Mod_step_564 (by decide)) (fun _ => ?_) (fun _ => ?_)
                  · refine xW_locs (lv' := [(0, .ref l0), (1, .int l1), (2, .int t0)]) rfl ?_
                    exact dx_Mod_step_b621 O T
                  · refine xW_pure (fun _ _ _ _ _ => am_iload_n d_Mod_step_567 rfl rfl) ?_
                    refine xW_pure (fun _ _ _ _ _ => am_bipush (v := 46) d_Mod_step_568 (by decide)) ?_
                    refine xW_ite (fun _ _ _ _ _ => am_icmp_eq (tgt := 621) d_Mod_step_570 (by decide)) (fun _ => ?_) (fun _ => ?_)
                    · refine xW_locs (lv' := [(0, .ref l0), (1, .int l1), (2, .int t0)]) rfl ?_
                      exact dx_Mod_step_b621 O T
                    · refine xW_pure (fun _ _ _ _ _ => am_iload_n d_Mod_step_573 rfl rfl) ?_
                      refine xW_pure (fun _ _ _ _ _ => am_bipush (v := 61) d_Mod_step_574 (by decide)) ?_
                      refine xW_ite (fun _ _ _ _ _ => am_icmp_eq (tgt := 621) d_Mod_step_576 (by decide)) (fun _ => ?_) (fun _ => ?_)
                      · refine xW_locs (lv' := [(0, .ref l0), (1, .int l1), (2, .int t0)]) rfl ?_
                        exact dx_Mod_step_b621 O T
                      · refine xW_pure (fun _ _ _ _ _ => am_iload_n d_Mod_step_579 rfl rfl) ?_
                        refine xW_pure (fun _ _ _ _ _ => am_bipush (v := 43) d_Mod_step_580 (by decide)) ?_
                        refine xW_ite (fun _ _ _ _ _ => am_icmp_eq (tgt := 621) d_Mod_step_582 (by decide)) (fun _ => ?_) (fun _ => ?_)
                        · refine xW_locs (lv' := [(0, .ref l0), (1, .int l1), (2, .int t0)]) rfl ?_
                          exact dx_Mod_step_b621 O T
                        · refine xW_pure (fun _ _ _ _ _ => am_iload_n d_Mod_step_585 rfl rfl) ?_
                          refine xW_pure (fun _ _ _ _ _ => am_bipush (v := 45) d_Mod_step_586 (by decide)) ?_
                          refine xW_ite (fun _ _ _ _ _ => am_icmp_eq (tgt := 621) d_Mod_step_588 (by decide)) (fun _ => ?_) (fun _ => ?_)
                          · refine xW_locs (lv' := [(0, .ref l0), (1, .int l1), (2, .int t0)]) rfl ?_
                            exact dx_Mod_step_b621 O T
                          · refine xW_pure (fun _ _ _ _ _ => am_iload_n d_Mod_step_591 rfl rfl) ?_
                            refine xW_pure (fun _ _ _ _ _ => am_bipush (v := 42) d_Mod_step_592 (by decide)) ?_
                            refine xW_ite (fun _ _ _ _ _ => am_icmp_eq (tgt := 621) d_Mod_step_594 (by decide)) (fun _ => ?_) (fun _ => ?_)
                            · refine xW_locs (lv' := [(0, .ref l0), (1, .int l1), (2, .int t0)]) rfl ?_
                              exact dx_Mod_step_b621 O T
                            · refine xW_pure (fun _ _ _ _ _ => am_iload_n d_Mod_step_597 rfl rfl) ?_
                              refine xW_pure (fun _ _ _ _ _ => am_bipush (v := 47) d_Mod_step_598 (by decide)) ?_
                              refine xW_ite (fun _ _ _ _ _ => am_icmp_eq (tgt := 621) d_Mod_step_600 (by decide)) (fun _ => ?_) (fun _ => ?_)
                              · refine xW_locs (lv' := [(0, .ref l0), (1, .int l1), (2, .int t0)]) rfl ?_
                                exact dx_Mod_step_b621 O T
                              · refine xW_pure (fun _ _ _ _ _ => am_iload_n d_Mod_step_603 rfl rfl) ?_
                                refine xW_pure (fun _ _ _ _ _ => am_bipush (v := 37) d_Mod_step_604 (by decide)) ?_
                                refine xW_ite (fun _ _ _ _ _ => am_icmp_eq (tgt := 621) d_Mod_step_606 (by decide)) (fun _ => ?_) (fun _ => ?_)
                                · refine xW_locs (lv' := [(0, .ref l0), (1, .int l1), (2, .int t0)]) rfl ?_
                                  exact dx_Mod_step_b621 O T
                                · refine xW_pure (fun _ _ _ _ _ => am_iload_n d_Mod_step_609 rfl rfl) ?_
                                  refine xW_pure (fun _ _ _ _ _ => am_bipush (v := 60) d_Mod_step_610 (by decide)) ?_
                                  refine xW_ite (fun _ _ _ _ _ => am_icmp_eq (tgt := 621) d_Mod_step_612 (by decide)) (fun _ => ?_) (fun _ => ?_)
                                  · refine xW_locs (lv' := [(0, .ref l0), (1, .int l1), (2, .int t0)]) rfl ?_
                                    exact dx_Mod_step_b621 O T
                                  · refine xW_pure (fun _ _ _ _ _ => am_iload_n d_Mod_step_615 rfl rfl) ?_
                                    refine xW_pure (fun _ _ _ _ _ => am_bipush (v := 33) d_Mod_step_616 (by decide)) ?_
                                    refine xW_ite (fun _ _ _ _ _ k1 k2 => am_icmp_ne (tgt := 625) d_Mod_step_618 (by decide) k2 k1) (fun _ => ?_) (fun _ => ?_)
                                    · refine xW_locs (lv' := [(0, .ref l0), (1, .int l1), (2, .int t0)]) rfl ?_
                                      exact dx_Mod_step_b621 O T
                                    · refine xW_pure (fun _ _ _ _ _ => am_iconst (v := 0) d_Mod_step_625 (by decide)) ?_
                                      refine xW_locs (lv' := [(0, .ref l0), (1, .int l1), (2, .int t0)]) rfl ?_
                                      exact dx_Mod_step_b626 O T

set_option maxRecDepth 100000 in
def x_Mod_step_b651_1 (d : Nat) (l0 : Nat) (l1 : Int32) (l2 : Int32) (l3 : Int32) (s : HS) : Option (Unit × HS) := if l2 = l1 then (if l1 = 38 then (x_Mod_step_b668 d l0 l3 s) else (if l1 = 124 then (x_Mod_step_b668 d l0 l3 s) else (x_Mod_step_b672 d l0 l3 s))) else (x_Mod_step_b672 d l0 l3 s)

set_option maxRecDepth 100000 in
set_option maxHeartbeats 4000000 in
theorem dx_Mod_step_b651_1 (O : am_ok K X) (T : am_T K) {d : Nat} {l0 : Nat} {l1 : Int32} {l2 : Int32} {l3 : Int32} {s : HS} : xW cvU K X m_Mod_step (d + 1) 651 [(0, .ref l0), (1, .int l1), (2, .int l2), (3, .int l3)] [] s (x_Mod_step_b651_1 d l0 l1 l2 l3 s) := by
  unfold x_Mod_step_b651_1
  refine xW_pure (fun _ _ _ _ _ => am_iload_n d_Mod_step_651 rfl rfl) ?_
  refine xW_pure (fun _ _ _ _ _ => am_iload_n d_Mod_step_652 rfl rfl) ?_
  refine xW_ite (fun _ _ _ _ _ k1 k2 => am_icmp_ne (tgt := 672) d_Mod_step_653 (by decide) k2 k1) (fun _ => ?_) (fun _ => ?_)
  · refine xW_pure (fun _ _ _ _ _ => am_iload_n d_Mod_step_656 rfl rfl) ?_
    refine xW_pure (fun _ _ _ _ _ => am_bipush (v := 38) d_Mod_step_657 (by decide)) ?_
    refine xW_ite (fun _ _ _ _ _ => am_icmp_eq (tgt := 668) d_Mod_step_659 (by decide)) (fun _ => ?_) (fun _ => ?_)
    · refine xW_locs (lv' := [(0, .ref l0), (3, .int l3)]) rfl ?_
      exact dx_Mod_step_b668 O T
    · refine xW_pure (fun _ _ _ _ _ => am_iload_n d_Mod_step_662 rfl rfl) ?_
      refine xW_pure (fun _ _ _ _ _ => am_bipush (v := 124) d_Mod_step_663 (by decide)) ?_
      refine xW_ite (fun _ _ _ _ _ k1 k2 => am_icmp_ne (tgt := 672) d_Mod_step_665 (by decide) k2 k1) (fun _ => ?_) (fun _ => ?_)
      · refine xW_locs (lv' := [(0, .ref l0), (3, .int l3)]) rfl ?_
        exact dx_Mod_step_b668 O T
      · refine xW_locs (lv' := [(0, .ref l0), (3, .int l3)]) rfl ?_
        exact dx_Mod_step_b672 O T
  · refine xW_locs (lv' := [(0, .ref l0), (3, .int l3)]) rfl ?_
    exact dx_Mod_step_b672 O T

set_option maxRecDepth 100000 in
def x_Mod_step_b626_1 (d : Nat) (l0 : Nat) (l1 : Int32) (l2 : Int32) (t0 : Int32) (s : HS) : Option (Unit × HS) := if l2 = 61 then (if l1 = 61 then (x_Mod_step_b668 d l0 t0 s) else (if l1 = 33 then (x_Mod_step_b668 d l0 t0 s) else (if l1 = 60 then (x_Mod_step_b668 d l0 t0 s) else (x_Mod_step_b651_1 d l0 l1 l2 t0 s)))) else (x_Mod_step_b651_1 d l0 l1 l2 t0 s)

set_option maxRecDepth 100000 in
set_option maxHeartbeats 4000000 in
theorem dx_Mod_step_b626_1 (O : am_ok K X) (T : am_T K) {d : Nat} {l0 : Nat} {l1 : Int32} {l2 : Int32} {t0 : Int32} {s : HS} : xW cvU K X m_Mod_step (d + 1) 626 [(0, .ref l0), (1, .int l1), (2, .int l2)] [.int t0] s (x_Mod_step_b626_1 d l0 l1 l2 t0 s) := by
  unfold x_Mod_step_b626_1
  refine xW_pure (fun _ _ _ _ _ => am_istore_n d_Mod_step_626 rfl (Nat.le_of_ble_eq_true rfl)) ?_
  refine xW_pure (fun _ _ _ _ _ => am_iload_n d_Mod_step_627 rfl rfl) ?_
  refine xW_pure (fun _ _ _ _ _ => am_bipush (v := 61) d_Mod_step_628 (by decide)) ?_
  refine xW_ite (fun _ _ _ _ _ k1 k2 => am_icmp_ne (tgt := 651) d_Mod_step_630 (by decide) k2 k1) (fun _ => ?_) (fun _ => ?_)
  · refine xW_pure (fun _ _ _ _ _ => am_iload_n d_Mod_step_633 rfl rfl) ?_
    refine xW_pure (fun _ _ _ _ _ => am_bipush (v := 61) d_Mod_step_634 (by decide)) ?_
    refine xW_ite (fun _ _ _ _ _ => am_icmp_eq (tgt := 668) d_Mod_step_636 (by decide)) (fun _ => ?_) (fun _ => ?_)
    · refine xW_locs (lv' := [(0, .ref l0), (3, .int t0)]) rfl ?_
      exact dx_Mod_step_b668 O T
    · refine xW_pure (fun _ _ _ _ _ => am_iload_n d_Mod_step_639 rfl rfl) ?_
      refine xW_pure (fun _ _ _ _ _ => am_bipush (v := 33) d_Mod_step_640 (by decide)) ?_
      refine xW_ite (fun _ _ _ _ _ => am_icmp_eq (tgt := 668) d_Mod_step_642 (by decide)) (fun _ => ?_) (fun _ => ?_)
      · refine xW_locs (lv' := [(0, .ref l0), (3, .int t0)]) rfl ?_
        exact dx_Mod_step_b668 O T
      · refine xW_pure (fun _ _ _ _ _ => am_iload_n d_Mod_step_645 rfl rfl) ?_
        refine xW_pure (fun _ _ _ _ _ => am_bipush (v := 60) d_Mod_step_646 (by decide)) ?_
        refine xW_ite (fun _ _ _ _ _ => am_icmp_eq (tgt := 668) d_Mod_step_648 (by decide)) (fun _ => ?_) (fun _ => ?_)
        · refine xW_locs (lv' := [(0, .ref l0), (3, .int t0)]) rfl ?_
          exact dx_Mod_step_b668 O T
        · refine xW_locs (lv' := [(0, .ref l0), (1, .int l1), (2, .int l2), (3, .int t0)]) rfl ?_
          exact dx_Mod_step_b651_1 O T
  · refine xW_locs (lv' := [(0, .ref l0), (1, .int l1), (2, .int l2), (3, .int t0)]) rfl ?_
    exact dx_Mod_step_b651_1 O T

set_option maxRecDepth 100000 in
def x_Mod_step_b621_1 (d : Nat) (l0 : Nat) (l1 : Int32) (l2 : Int32) (s : HS) : Option (Unit × HS) := x_Mod_step_b626_1 d l0 l1 l2 1 s

set_option maxRecDepth 100000 in
set_option maxHeartbeats 4000000 in
theorem dx_Mod_step_b621_1 (O : am_ok K X) (T : am_T K) {d : Nat} {l0 : Nat} {l1 : Int32} {l2 : Int32} {s : HS} : xW cvU K X m_Mod_step (d + 1) 621 [(0, .ref l0), (1, .int l1), (2, .int l2)] [] s (x_Mod_step_b621_1 d l0 l1 l2 s) := by
  unfold x_Mod_step_b621_1
  refine xW_pure (fun _ _ _ _ _ => am_iconst (v := 1) d_Mod_step_621 (by decide)) ?_
  refine xW_pure (fun _ _ _ _ _ => am_goto (tgt := 626) d_Mod_step_622 (by decide)) ?_
  refine xW_locs (lv' := [(0, .ref l0), (1, .int l1), (2, .int l2)]) rfl ?_
  exact dx_Mod_step_b626_1 O T

set_option maxRecDepth 100000 in
def x_Mod_step_b512_1 (d : Nat) (l0 : Nat) (l1 : Int32) (t0 : Int32) (s : HS) : Option (Unit × HS) := if l1 = 123 then (x_Mod_step_b621_1 d l0 l1 t0 s) else (if l1 = 125 then (x_Mod_step_b621_1 d l0 l1 t0 s) else (if l1 = 40 then (x_Mod_step_b621_1 d l0 l1 t0 s) else (if l1 = 41 then (x_Mod_step_b621_1 d l0 l1 t0 s) else (if l1 = 91 then (x_Mod_step_b621_1 d l0 l1 t0 s) else (if l1 = 93 then (x_Mod_step_b621_1 d l0 l1 t0 s) else (if l1 = 44 then (x_Mod_step_b621_1 d l0 l1 t0 s) else (if l1 = 59 then (x_Mod_step_b621_1 d l0 l1 t0 s) else (if l1 = 58 then (x_Mod_step_b621_1 d l0 l1 t0 s) else (if l1 = 46 then (x_Mod_step_b621_1 d l0 l1 t0 s) else (if l1 = 61 then (x_Mod_step_b621_1 d l0 l1 t0 s) else (if l1 = 43 then (x_Mod_step_b621_1 d l0 l1 t0 s) else (if l1 = 45 then (x_Mod_step_b621_1 d l0 l1 t0 s) else (if l1 = 42 then (x_Mod_step_b621_1 d l0 l1 t0 s) else (if l1 = 47 then (x_Mod_step_b621_1 d l0 l1 t0 s) else (if l1 = 37 then (x_Mod_step_b621_1 d l0 l1 t0 s) else (if l1 = 60 then (x_Mod_step_b621_1 d l0 l1 t0 s) else (if l1 = 33 then (x_Mod_step_b621_1 d l0 l1 t0 s) else (x_Mod_step_b626_1 d l0 l1 t0 0 s))))))))))))))))))

set_option maxRecDepth 100000 in
set_option maxHeartbeats 4000000 in
theorem dx_Mod_step_b512_1 (O : am_ok K X) (T : am_T K) {d : Nat} {l0 : Nat} {l1 : Int32} {t0 : Int32} {s : HS} : xW cvU K X m_Mod_step (d + 1) 512 [(0, .ref l0), (1, .int l1)] [.int t0] s (x_Mod_step_b512_1 d l0 l1 t0 s) := by
  unfold x_Mod_step_b512_1
  refine xW_pure (fun _ _ _ _ _ => am_istore_n d_Mod_step_512 rfl (Nat.le_of_ble_eq_true rfl)) ?_
  refine xW_pure (fun _ _ _ _ _ => am_iload_n d_Mod_step_513 rfl rfl) ?_
  refine xW_pure (fun _ _ _ _ _ => am_bipush (v := 123) d_Mod_step_514 (by decide)) ?_
  refine xW_ite (fun _ _ _ _ _ => am_icmp_eq (tgt := 621) d_Mod_step_516 (by decide)) (fun _ => ?_) (fun _ => ?_)
  · refine xW_locs (lv' := [(0, .ref l0), (1, .int l1), (2, .int t0)]) rfl ?_
    exact dx_Mod_step_b621_1 O T
  · refine xW_pure (fun _ _ _ _ _ => am_iload_n d_Mod_step_519 rfl rfl) ?_
    refine xW_pure (fun _ _ _ _ _ => am_bipush (v := 125) d_Mod_step_520 (by decide)) ?_
    refine xW_ite (fun _ _ _ _ _ => am_icmp_eq (tgt := 621) d_Mod_step_522 (by decide)) (fun _ => ?_) (fun _ => ?_)
    · refine xW_locs (lv' := [(0, .ref l0), (1, .int l1), (2, .int t0)]) rfl ?_
      exact dx_Mod_step_b621_1 O T
    · refine xW_pure (fun _ _ _ _ _ => am_iload_n d_Mod_step_525 rfl rfl) ?_
      refine xW_pure (fun _ _ _ _ _ => am_bipush (v := 40) d_Mod_step_526 (by decide)) ?_
      refine xW_ite (fun _ _ _ _ _ => am_icmp_eq (tgt := 621) d_Mod_step_528 (by decide)) (fun _ => ?_) (fun _ => ?_)
      · refine xW_locs (lv' := [(0, .ref l0), (1, .int l1), (2, .int t0)]) rfl ?_
        exact dx_Mod_step_b621_1 O T
      · refine xW_pure (fun _ _ _ _ _ => am_iload_n d_Mod_step_531 rfl rfl) ?_
        refine xW_pure (fun _ _ _ _ _ => am_bipush (v := 41) d_Mod_step_532 (by decide)) ?_
        refine xW_ite (fun _ _ _ _ _ => am_icmp_eq (tgt := 621) d_Mod_step_534 (by decide)) (fun _ => ?_) (fun _ => ?_)
        · refine xW_locs (lv' := [(0, .ref l0), (1, .int l1), (2, .int t0)]) rfl ?_
          exact dx_Mod_step_b621_1 O T
        · refine xW_pure (fun _ _ _ _ _ => am_iload_n d_Mod_step_537 rfl rfl) ?_
          refine xW_pure (fun _ _ _ _ _ => am_bipush (v := 91) d_Mod_step_538 (by decide)) ?_
          refine xW_ite (fun _ _ _ _ _ => am_icmp_eq (tgt := 621) d_Mod_step_540 (by decide)) (fun _ => ?_) (fun _ => ?_)
          · refine xW_locs (lv' := [(0, .ref l0), (1, .int l1), (2, .int t0)]) rfl ?_
            exact dx_Mod_step_b621_1 O T
          · refine xW_pure (fun _ _ _ _ _ => am_iload_n d_Mod_step_543 rfl rfl) ?_
            refine xW_pure (fun _ _ _ _ _ => am_bipush (v := 93) d_Mod_step_544 (by decide)) ?_
            refine xW_ite (fun _ _ _ _ _ => am_icmp_eq (tgt := 621) d_Mod_step_546 (by decide)) (fun _ => ?_) (fun _ => ?_)
            · refine xW_locs (lv' := [(0, .ref l0), (1, .int l1), (2, .int t0)]) rfl ?_
              exact dx_Mod_step_b621_1 O T
            · refine xW_pure (fun _ _ _ _ _ => am_iload_n d_Mod_step_549 rfl rfl) ?_
              refine xW_pure (fun _ _ _ _ _ => am_bipush (v := 44) d_Mod_step_550 (by decide)) ?_
              refine xW_ite (fun _ _ _ _ _ => am_icmp_eq (tgt := 621) d_Mod_step_552 (by decide)) (fun _ => ?_) (fun _ => ?_)
              · refine xW_locs (lv' := [(0, .ref l0), (1, .int l1), (2, .int t0)]) rfl ?_
                exact dx_Mod_step_b621_1 O T
              · refine xW_pure (fun _ _ _ _ _ => am_iload_n d_Mod_step_555 rfl rfl) ?_
                refine xW_pure (fun _ _ _ _ _ => am_bipush (v := 59) d_Mod_step_556 (by decide)) ?_
                refine xW_ite (fun _ _ _ _ _ => am_icmp_eq (tgt := 621) d_Mod_step_558 (by decide)) (fun _ => ?_) (fun _ => ?_)
                · refine xW_locs (lv' := [(0, .ref l0), (1, .int l1), (2, .int t0)]) rfl ?_
                  exact dx_Mod_step_b621_1 O T
                · refine xW_pure (fun _ _ _ _ _ => am_iload_n d_Mod_step_561 rfl rfl) ?_
                  refine xW_pure (fun _ _ _ _ _ => am_bipush (v := 58) d_Mod_step_562 (by decide)) ?_
                  refine xW_ite (fun _ _ _ _ _ => am_icmp_eq (tgt := 621) d_Mod_step_564 (by decide)) (fun _ => ?_) (fun _ => ?_)
                  · refine xW_locs (lv' := [(0, .ref l0), (1, .int l1), (2, .int t0)]) rfl ?_
                    exact dx_Mod_step_b621_1 O T
                  · refine xW_pure (fun _ _ _ _ _ => am_iload_n d_Mod_step_567 rfl rfl) ?_
                    refine xW_pure (fun _ _ _ _ _ => am_bipush (v := 46) d_Mod_step_568 (by decide)) ?_
                    refine xW_ite (fun _ _ _ _ _ => am_icmp_eq (tgt := 621) d_Mod_step_570 (by decide)) (fun _ => ?_) (fun _ => ?_)
                    · refine xW_locs (lv' := [(0, .ref l0), (1, .int l1), (2, .int t0)]) rfl ?_
                      exact dx_Mod_step_b621_1 O T
                    · refine xW_pure (fun _ _ _ _ _ => am_iload_n d_Mod_step_573 rfl rfl) ?_
                      refine xW_pure (fun _ _ _ _ _ => am_bipush (v := 61) d_Mod_step_574 (by decide)) ?_
                      refine xW_ite (fun _ _ _ _ _ => am_icmp_eq (tgt := 621) d_Mod_step_576 (by decide)) (fun _ => ?_) (fun _ => ?_)
                      · refine xW_locs (lv' := [(0, .ref l0), (1, .int l1), (2, .int t0)]) rfl ?_
                        exact dx_Mod_step_b621_1 O T
                      · refine xW_pure (fun _ _ _ _ _ => am_iload_n d_Mod_step_579 rfl rfl) ?_
                        refine xW_pure (fun _ _ _ _ _ => am_bipush (v := 43) d_Mod_step_580 (by decide)) ?_
                        refine xW_ite (fun _ _ _ _ _ => am_icmp_eq (tgt := 621) d_Mod_step_582 (by decide)) (fun _ => ?_) (fun _ => ?_)
                        · refine xW_locs (lv' := [(0, .ref l0), (1, .int l1), (2, .int t0)]) rfl ?_
                          exact dx_Mod_step_b621_1 O T
                        · refine xW_pure (fun _ _ _ _ _ => am_iload_n d_Mod_step_585 rfl rfl) ?_
                          refine xW_pure (fun _ _ _ _ _ => am_bipush (v := 45) d_Mod_step_586 (by decide)) ?_
                          refine xW_ite (fun _ _ _ _ _ => am_icmp_eq (tgt := 621) d_Mod_step_588 (by decide)) (fun _ => ?_) (fun _ => ?_)
                          · refine xW_locs (lv' := [(0, .ref l0), (1, .int l1), (2, .int t0)]) rfl ?_
                            exact dx_Mod_step_b621_1 O T
                          · refine xW_pure (fun _ _ _ _ _ => am_iload_n d_Mod_step_591 rfl rfl) ?_
                            refine xW_pure (fun _ _ _ _ _ => am_bipush (v := 42) d_Mod_step_592 (by decide)) ?_
                            refine xW_ite (fun _ _ _ _ _ => am_icmp_eq (tgt := 621) d_Mod_step_594 (by decide)) (fun _ => ?_) (fun _ => ?_)
                            · refine xW_locs (lv' := [(0, .ref l0), (1, .int l1), (2, .int t0)]) rfl ?_
                              exact dx_Mod_step_b621_1 O T
                            · refine xW_pure (fun _ _ _ _ _ => am_iload_n d_Mod_step_597 rfl rfl) ?_
                              refine xW_pure (fun _ _ _ _ _ => am_bipush (v := 47) d_Mod_step_598 (by decide)) ?_
                              refine xW_ite (fun _ _ _ _ _ => am_icmp_eq (tgt := 621) d_Mod_step_600 (by decide)) (fun _ => ?_) (fun _ => ?_)
                              · refine xW_locs (lv' := [(0, .ref l0), (1, .int l1), (2, .int t0)]) rfl ?_
                                exact dx_Mod_step_b621_1 O T
                              · refine xW_pure (fun _ _ _ _ _ => am_iload_n d_Mod_step_603 rfl rfl) ?_
                                refine xW_pure (fun _ _ _ _ _ => am_bipush (v := 37) d_Mod_step_604 (by decide)) ?_
                                refine xW_ite (fun _ _ _ _ _ => am_icmp_eq (tgt := 621) d_Mod_step_606 (by decide)) (fun _ => ?_) (fun _ => ?_)
                                · refine xW_locs (lv' := [(0, .ref l0), (1, .int l1), (2, .int t0)]) rfl ?_
                                  exact dx_Mod_step_b621_1 O T
                                · refine xW_pure (fun _ _ _ _ _ => am_iload_n d_Mod_step_609 rfl rfl) ?_
                                  refine xW_pure (fun _ _ _ _ _ => am_bipush (v := 60) d_Mod_step_610 (by decide)) ?_
                                  refine xW_ite (fun _ _ _ _ _ => am_icmp_eq (tgt := 621) d_Mod_step_612 (by decide)) (fun _ => ?_) (fun _ => ?_)
                                  · refine xW_locs (lv' := [(0, .ref l0), (1, .int l1), (2, .int t0)]) rfl ?_
                                    exact dx_Mod_step_b621_1 O T
                                  · refine xW_pure (fun _ _ _ _ _ => am_iload_n d_Mod_step_615 rfl rfl) ?_
                                    refine xW_pure (fun _ _ _ _ _ => am_bipush (v := 33) d_Mod_step_616 (by decide)) ?_
                                    refine xW_ite (fun _ _ _ _ _ k1 k2 => am_icmp_ne (tgt := 625) d_Mod_step_618 (by decide) k2 k1) (fun _ => ?_) (fun _ => ?_)
                                    · refine xW_locs (lv' := [(0, .ref l0), (1, .int l1), (2, .int t0)]) rfl ?_
                                      exact dx_Mod_step_b621_1 O T
                                    · refine xW_pure (fun _ _ _ _ _ => am_iconst (v := 0) d_Mod_step_625 (by decide)) ?_
                                      refine xW_locs (lv' := [(0, .ref l0), (1, .int l1), (2, .int t0)]) rfl ?_
                                      exact dx_Mod_step_b626_1 O T

set_option maxRecDepth 100000 in
def x_Mod_step_b288 (d : Nat) (l0 : Nat) (s : HS) : Option (Unit × HS) := (gL s l0 14 11).bind fun v72 => (if 0 < (lg_cmp v72 2147483647) then ((pV s l0 14 6 (.int 6)).bind fun s73 => ((gI s73 l0 14 5).bind fun v74 => ((pV s73 l0 14 8 (.int v74)).bind fun s75 => (some ((), s75))))) else ((pV s l0 14 6 (.int 3)).bind fun s76 => ((gI s76 l0 14 5).bind fun v77 => ((pV s76 l0 14 8 (.int v77)).bind fun s78 => (some ((), s78))))))

set_option maxRecDepth 100000 in
set_option maxHeartbeats 4000000 in
theorem dx_Mod_step_b288 (O : am_ok K X) (T : am_T K) {d : Nat} {l0 : Nat} {s : HS} : xW cvU K X m_Mod_step (d + 1) 288 [(0, .ref l0)] [] s (x_Mod_step_b288 d l0 s) := by
  unfold x_Mod_step_b288
  refine xW_pure (fun _ _ _ _ _ => am_aload_n d_Mod_step_288 rfl rfl) ?_
  refine xW_pure (fun _ _ _ _ _ => am_aload_n d_Mod_step_289 rfl rfl) ?_
  refine xW_gL O f_Mod_46 d_Mod_step_290 (fun v72 _ => ?_)
  refine xW_pure (fun _ _ _ _ _ => am_ldc2 (v := 2147483647) w_1827 d_Mod_step_293) ?_
  refine xW_pure (fun _ _ _ _ _ => am_lcmp d_Mod_step_296) ?_
  refine xW_ite (fun _ _ _ _ _ => am_if_gt (tgt := 304) d_Mod_step_297 (by decide)) (fun _ => ?_) (fun _ => ?_)
  · refine xW_pure (fun _ _ _ _ _ => am_bipush (v := 6) d_Mod_step_304 (by decide)) ?_
    refine xW_put O f_Mod_32 d_Mod_step_306 (fun q hq => by cases hq; exact ⟨rfl, rfl, rfl⟩) (fun s73 _ => ?_)
    refine xW_pure (fun _ _ _ _ _ => am_goto (tgt := 713) d_Mod_step_309 (by decide)) ?_
    refine xW_pure (fun _ _ _ _ _ => am_aload_n d_Mod_step_713 rfl rfl) ?_
    refine xW_pure (fun _ _ _ _ _ => am_aload_n d_Mod_step_714 rfl rfl) ?_
    refine xW_gI O f_Mod_3 d_Mod_step_715 (fun v74 _ => ?_)
    refine xW_put O f_Mod_74 d_Mod_step_718 (fun q hq => by cases hq; exact ⟨rfl, rfl, rfl⟩) (fun s75 _ => ?_)
    exact xW_ret (fun _ _ _ _ _ => am_vret rfl d_Mod_step_721)
  · refine xW_pure (fun _ _ _ _ _ => am_iconst (v := 3) d_Mod_step_300 (by decide)) ?_
    refine xW_pure (fun _ _ _ _ _ => am_goto (tgt := 306) d_Mod_step_301 (by decide)) ?_
    refine xW_put O f_Mod_32 d_Mod_step_306 (fun q hq => by cases hq; exact ⟨rfl, rfl, rfl⟩) (fun s76 _ => ?_)
    refine xW_pure (fun _ _ _ _ _ => am_goto (tgt := 713) d_Mod_step_309 (by decide)) ?_
    refine xW_pure (fun _ _ _ _ _ => am_aload_n d_Mod_step_713 rfl rfl) ?_
    refine xW_pure (fun _ _ _ _ _ => am_aload_n d_Mod_step_714 rfl rfl) ?_
    refine xW_gI O f_Mod_3 d_Mod_step_715 (fun v77 _ => ?_)
    refine xW_put O f_Mod_74 d_Mod_step_718 (fun q hq => by cases hq; exact ⟨rfl, rfl, rfl⟩) (fun s78 _ => ?_)
    exact xW_ret (fun _ _ _ _ _ => am_vret rfl d_Mod_step_721)

set_option maxRecDepth 100000 in
def x_Mod_step_b158 (d : Nat) (l0 : Nat) (s : HS) : Option (Unit × HS) := bnd (x_Mod_isReserved d l0 s) fun v94 s93 => (if v94 = 0 then ((gI s93 l0 14 5).bind fun v95 => ((gI s93 l0 14 7).bind fun v96 => (if 8 < (v95 - v96) then ((pV s93 l0 14 6 (.int 6)).bind fun s97 => ((gI s97 l0 14 5).bind fun v98 => ((pV s97 l0 14 8 (.int v98)).bind fun s99 => (some ((), s99))))) else ((pV s93 l0 14 6 (.int 1)).bind fun s100 => ((gI s100 l0 14 5).bind fun v101 => ((pV s100 l0 14 8 (.int v101)).bind fun s102 => (some ((), s102)))))))) else ((pV s93 l0 14 6 (.int 2)).bind fun s103 => ((gI s103 l0 14 5).bind fun v104 => ((pV s103 l0 14 8 (.int v104)).bind fun s105 => (some ((), s105))))))

set_option maxRecDepth 100000 in
set_option maxHeartbeats 4000000 in
theorem dx_Mod_step_b158 (O : am_ok K X) (T : am_T K) {d : Nat} {l0 : Nat} {s : HS} : xW cvU K X m_Mod_step (d + 1) 158 [(0, .ref l0)] [] s (x_Mod_step_b158 d l0 s) := by
  unfold x_Mod_step_b158
  refine xW_pure (fun _ _ _ _ _ => am_aload_n d_Mod_step_158 rfl rfl) ?_
  refine xW_pure (fun _ _ _ _ _ => am_aload_n d_Mod_step_159 rfl rfl) ?_
  refine xW_callV O (dx_Mod_isReserved O T) (fun _ e => ob_Mod_isReserved e) rfl rfl rfl l_Mod_42 ⟨w_1818, w_85⟩ rfl (Nat.le_of_ble_eq_true rfl) d_Mod_step_160 (fun v94 s93 _ => ?_)
  refine xW_ite (fun _ _ _ _ _ => am_if_eq (tgt := 170) d_Mod_step_163 (by decide)) (fun _ => ?_) (fun _ => ?_)
  · refine xW_pure (fun _ _ _ _ _ => am_aload_n d_Mod_step_170 rfl rfl) ?_
    refine xW_gI O f_Mod_3 d_Mod_step_171 (fun v95 _ => ?_)
    refine xW_pure (fun _ _ _ _ _ => am_aload_n d_Mod_step_174 rfl rfl) ?_
    refine xW_gI O f_Mod_9 d_Mod_step_175 (fun v96 _ => ?_)
    refine xW_pure (fun _ _ _ _ _ => am_isub d_Mod_step_178) ?_
    refine xW_pure (fun _ _ _ _ _ => am_bipush (v := 8) d_Mod_step_179 (by decide)) ?_
    refine xW_ite (fun _ _ _ _ _ => am_icmp_gt (tgt := 188) d_Mod_step_181 (by decide)) (fun _ => ?_) (fun _ => ?_)
    · refine xW_pure (fun _ _ _ _ _ => am_bipush (v := 6) d_Mod_step_188 (by decide)) ?_
      refine xW_put O f_Mod_32 d_Mod_step_190 (fun q hq => by cases hq; exact ⟨rfl, rfl, rfl⟩) (fun s97 _ => ?_)
      refine xW_pure (fun _ _ _ _ _ => am_goto (tgt := 713) d_Mod_step_193 (by decide)) ?_
      refine xW_pure (fun _ _ _ _ _ => am_aload_n d_Mod_step_713 rfl rfl) ?_
      refine xW_pure (fun _ _ _ _ _ => am_aload_n d_Mod_step_714 rfl rfl) ?_
      refine xW_gI O f_Mod_3 d_Mod_step_715 (fun v98 _ => ?_)
      refine xW_put O f_Mod_74 d_Mod_step_718 (fun q hq => by cases hq; exact ⟨rfl, rfl, rfl⟩) (fun s99 _ => ?_)
      exact xW_ret (fun _ _ _ _ _ => am_vret rfl d_Mod_step_721)
    · refine xW_pure (fun _ _ _ _ _ => am_iconst (v := 1) d_Mod_step_184 (by decide)) ?_
      refine xW_pure (fun _ _ _ _ _ => am_goto (tgt := 190) d_Mod_step_185 (by decide)) ?_
      refine xW_put O f_Mod_32 d_Mod_step_190 (fun q hq => by cases hq; exact ⟨rfl, rfl, rfl⟩) (fun s100 _ => ?_)
      refine xW_pure (fun _ _ _ _ _ => am_goto (tgt := 713) d_Mod_step_193 (by decide)) ?_
      refine xW_pure (fun _ _ _ _ _ => am_aload_n d_Mod_step_713 rfl rfl) ?_
      refine xW_pure (fun _ _ _ _ _ => am_aload_n d_Mod_step_714 rfl rfl) ?_
      refine xW_gI O f_Mod_3 d_Mod_step_715 (fun v101 _ => ?_)
      refine xW_put O f_Mod_74 d_Mod_step_718 (fun q hq => by cases hq; exact ⟨rfl, rfl, rfl⟩) (fun s102 _ => ?_)
      exact xW_ret (fun _ _ _ _ _ => am_vret rfl d_Mod_step_721)
  · refine xW_pure (fun _ _ _ _ _ => am_iconst (v := 2) d_Mod_step_166 (by decide)) ?_
    refine xW_pure (fun _ _ _ _ _ => am_goto (tgt := 190) d_Mod_step_167 (by decide)) ?_
    refine xW_put O f_Mod_32 d_Mod_step_190 (fun q hq => by cases hq; exact ⟨rfl, rfl, rfl⟩) (fun s103 _ => ?_)
    refine xW_pure (fun _ _ _ _ _ => am_goto (tgt := 713) d_Mod_step_193 (by decide)) ?_
    refine xW_pure (fun _ _ _ _ _ => am_aload_n d_Mod_step_713 rfl rfl) ?_
    refine xW_pure (fun _ _ _ _ _ => am_aload_n d_Mod_step_714 rfl rfl) ?_
    refine xW_gI O f_Mod_3 d_Mod_step_715 (fun v104 _ => ?_)
    refine xW_put O f_Mod_74 d_Mod_step_718 (fun q hq => by cases hq; exact ⟨rfl, rfl, rfl⟩) (fun s105 _ => ?_)
    exact xW_ret (fun _ _ _ _ _ => am_vret rfl d_Mod_step_721)

set_option maxRecDepth 100000 in
def x_Mod_step_b62 (d : Nat) (l0 : Nat) (s : HS) : Option (Unit × HS) := (gI s l0 14 5).bind fun v5 => ((pV s l0 14 7 (.int v5)).bind fun s6 => ((gI s6 l0 14 7).bind fun v7 => ((gI s6 l0 14 4).bind fun v8 => (if v7 = v8 then ((pV s6 l0 14 6 (.int 0)).bind fun s9 => ((gI s9 l0 14 5).bind fun v10 => ((pV s9 l0 14 8 (.int v10)).bind fun s11 => (some ((), s11))))) else ((gR s6 l0 14 0).bind fun v12 => ((gI s6 l0 14 7).bind fun v13 => ((aB s6 v12 v13).bind fun v14 => (bnd (x_Mod_isSmall d v14 s6) fun v16 s15 => (if v16 = 0 then ((gR s15 l0 14 0).bind fun v17 => ((gI s15 l0 14 7).bind fun v18 => ((aB s15 v17 v18).bind fun v19 => (bnd (x_Mod_isDigit d v19 s15) fun v21 s20 => (if v21 = 0 then ((gR s20 l0 14 0).bind fun v22 => ((gI s20 l0 14 7).bind fun v23 => ((aB s20 v22 v23).bind fun v24 => (if v24 = 34 then ((gI s20 l0 14 5).bind fun v25 => ((pV s20 l0 14 5 (.int (v25 + 1))).bind fun s26 => (loopK (fun (again336 : HS → Option (Unit × HS)) (z336 : HS) => ((gI z336 l0 14 5).bind fun v27 => ((gI z336 l0 14 4).bind fun v28 => (if v28 ≤ v27 then (x_Mod_step_b396 d l0 z336) else ((gR z336 l0 14 0).bind fun v43 => ((gI z336 l0 14 5).bind fun v44 => ((aB z336 v43 v44).bind fun v45 => (if v45 = 34 then (x_Mod_step_b396 d l0 z336) else ((gR z336 l0 14 0).bind fun v46 => ((gI z336 l0 14 5).bind fun v47 => ((aB z336 v46 v47).bind fun v48 => (bnd (x_Mod_in d (v48 : Int32).toInt64 32 126 z336) fun v50 s49 => (if v50 = 0 then (x_Mod_step_b396 d l0 s49) else ((gI s49 l0 14 5).bind fun v51 => ((pV s49 l0 14 5 (.int (v51 + 1))).bind fun s52 => (again336 s52)))))))))))))))) FU s26))) else ((gR s20 l0 14 0).bind fun v53 => ((gI s20 l0 14 5).bind fun v54 => ((aB s20 v53 v54).bind fun v55 => ((gI s20 l0 14 5).bind fun v56 => ((gI s20 l0 14 4).bind fun v57 => (if v57 ≤ (v56 + 1) then (x_Mod_step_b512 d l0 v55 0 s20) else ((gR s20 l0 14 0).bind fun v66 => ((gI s20 l0 14 5).bind fun v67 => ((aB s20 v66 (v67 + 1)).bind fun v68 => (x_Mod_step_b512_1 d l0 v55 v68 s20)))))))))))))) else ((pV s20 l0 14 11 (.long 0)).bind fun s69 => (loopK (fun (again216 : HS → Option (Unit × HS)) (z216 : HS) => ((gI z216 l0 14 5).bind fun v70 => ((gI z216 l0 14 4).bind fun v71 => (if v71 ≤ v70 then (x_Mod_step_b288 d l0 z216) else ((gR z216 l0 14 0).bind fun v79 => ((gI z216 l0 14 5).bind fun v80 => ((aB z216 v79 v80).bind fun v81 => (bnd (x_Mod_isDigit d v81 z216) fun v83 s82 => (if v83 = 0 then (x_Mod_step_b288 d l0 s82) else ((gL s82 l0 14 11).bind fun v84 => ((gR s82 l0 14 0).bind fun v85 => ((gI s82 l0 14 5).bind fun v86 => ((aB s82 v85 v86).bind fun v87 => ((pV s82 l0 14 11 (.long (if (((10 * v84) + (v87 : Int32).toInt64) - 48) < 1099511627776 then (((10 * v84) + (v87 : Int32).toInt64) - 48) else 1099511627776))).bind fun s88 => ((gI s88 l0 14 5).bind fun v89 => ((pV s88 l0 14 5 (.int (v89 + 1))).bind fun s90 => (again216 s90))))))))))))))))) FU s69))))))) else (loopK (fun (again104 : HS → Option (Unit × HS)) (z104 : HS) => ((gI z104 l0 14 5).bind fun v91 => ((gI z104 l0 14 4).bind fun v92 => (if v92 ≤ v91 then (x_Mod_step_b158 d l0 z104) else ((gR z104 l0 14 0).bind fun v106 => ((gI z104 l0 14 5).bind fun v107 => ((aB z104 v106 v107).bind fun v108 => (bnd (x_Mod_isSmall d v108 z104) fun v110 s109 => (if v110 = 0 then ((gR s109 l0 14 0).bind fun v111 => ((gI s109 l0 14 5).bind fun v112 => ((aB s109 v111 v112).bind fun v113 => (bnd (x_Mod_isDigit d v113 s109) fun v115 s114 => (if v115 = 0 then (x_Mod_step_b158 d l0 s114) else ((gI s114 l0 14 5).bind fun v116 => ((pV s114 l0 14 5 (.int (v116 + 1))).bind fun s117 => (again104 s117)))))))) else ((gI s109 l0 14 5).bind fun v118 => ((pV s109 l0 14 5 (.int (v118 + 1))).bind fun s119 => (again104 s119)))))))))))) FU s15))))))))))

set_option maxRecDepth 100000 in
set_option maxHeartbeats 4000000 in
theorem dx_Mod_step_b62 (O : am_ok K X) (T : am_T K) {d : Nat} {l0 : Nat} {s : HS} : xW cvU K X m_Mod_step (d + 1) 62 [(0, .ref l0)] [] s (x_Mod_step_b62 d l0 s) := by
  unfold x_Mod_step_b62
  refine xW_pure (fun _ _ _ _ _ => am_aload_n d_Mod_step_62 rfl rfl) ?_
  refine xW_pure (fun _ _ _ _ _ => am_aload_n d_Mod_step_63 rfl rfl) ?_
  refine xW_gI O f_Mod_3 d_Mod_step_64 (fun v5 _ => ?_)
  refine xW_put O f_Mod_9 d_Mod_step_67 (fun q hq => by cases hq; exact ⟨rfl, rfl, rfl⟩) (fun s6 _ => ?_)
  refine xW_pure (fun _ _ _ _ _ => am_aload_n d_Mod_step_70 rfl rfl) ?_
  refine xW_gI O f_Mod_9 d_Mod_step_71 (fun v7 _ => ?_)
  refine xW_pure (fun _ _ _ _ _ => am_aload_n d_Mod_step_74 rfl rfl) ?_
  refine xW_gI O f_Mod_29 d_Mod_step_75 (fun v8 _ => ?_)
  refine xW_ite (fun _ _ _ _ _ k1 k2 => am_icmp_ne (tgt := 89) d_Mod_step_78 (by decide) k2 k1) (fun _ => ?_) (fun _ => ?_)
  · refine xW_pure (fun _ _ _ _ _ => am_aload_n d_Mod_step_81 rfl rfl) ?_
    refine xW_pure (fun _ _ _ _ _ => am_iconst (v := 0) d_Mod_step_82 (by decide)) ?_
    refine xW_put O f_Mod_32 d_Mod_step_83 (fun q hq => by cases hq; exact ⟨rfl, rfl, rfl⟩) (fun s9 _ => ?_)
    refine xW_pure (fun _ _ _ _ _ => am_goto (tgt := 713) d_Mod_step_86 (by decide)) ?_
    refine xW_pure (fun _ _ _ _ _ => am_aload_n d_Mod_step_713 rfl rfl) ?_
    refine xW_pure (fun _ _ _ _ _ => am_aload_n d_Mod_step_714 rfl rfl) ?_
    refine xW_gI O f_Mod_3 d_Mod_step_715 (fun v10 _ => ?_)
    refine xW_put O f_Mod_74 d_Mod_step_718 (fun q hq => by cases hq; exact ⟨rfl, rfl, rfl⟩) (fun s11 _ => ?_)
    exact xW_ret (fun _ _ _ _ _ => am_vret rfl d_Mod_step_721)
  · refine xW_pure (fun _ _ _ _ _ => am_aload_n d_Mod_step_89 rfl rfl) ?_
    refine xW_gR O f_Mod_22 d_Mod_step_90 (fun v12 _ => ?_)
    refine xW_pure (fun _ _ _ _ _ => am_aload_n d_Mod_step_93 rfl rfl) ?_
    refine xW_gI O f_Mod_9 d_Mod_step_94 (fun v13 _ => ?_)
    refine xW_aB O d_Mod_step_97 (fun v14 _ => ?_)
    refine xW_callS O (dx_Mod_isSmall O T) rfl l_Mod_35 w_1811 rfl (Nat.le_of_ble_eq_true rfl) d_Mod_step_98 (fun v16 s15 _ => ?_)
    refine xW_ite (fun _ _ _ _ _ => am_if_eq (tgt := 196) d_Mod_step_101 (by decide)) (fun _ => ?_) (fun _ => ?_)
    · refine xW_pure (fun _ _ _ _ _ => am_aload_n d_Mod_step_196 rfl rfl) ?_
      refine xW_gR O f_Mod_22 d_Mod_step_197 (fun v17 _ => ?_)
      refine xW_pure (fun _ _ _ _ _ => am_aload_n d_Mod_step_200 rfl rfl) ?_
      refine xW_gI O f_Mod_9 d_Mod_step_201 (fun v18 _ => ?_)
      refine xW_aB O d_Mod_step_204 (fun v19 _ => ?_)
      refine xW_callS O (dx_Mod_isDigit O T) rfl l_Mod_39 w_1814 rfl (Nat.le_of_ble_eq_true rfl) d_Mod_step_205 (fun v21 s20 _ => ?_)
      refine xW_ite (fun _ _ _ _ _ => am_if_eq (tgt := 312) d_Mod_step_208 (by decide)) (fun _ => ?_) (fun _ => ?_)
      · refine xW_pure (fun _ _ _ _ _ => am_aload_n d_Mod_step_312 rfl rfl) ?_
        refine xW_gR O f_Mod_22 d_Mod_step_313 (fun v22 _ => ?_)
        refine xW_pure (fun _ _ _ _ _ => am_aload_n d_Mod_step_316 rfl rfl) ?_
        refine xW_gI O f_Mod_9 d_Mod_step_317 (fun v23 _ => ?_)
        refine xW_aB O d_Mod_step_320 (fun v24 _ => ?_)
        refine xW_pure (fun _ _ _ _ _ => am_bipush (v := 34) d_Mod_step_321 (by decide)) ?_
        refine xW_ite (fun _ _ _ _ _ k1 k2 => am_icmp_ne (tgt := 474) d_Mod_step_323 (by decide) k2 k1) (fun _ => ?_) (fun _ => ?_)
        · refine xW_pure (fun _ _ _ _ _ => am_aload_n d_Mod_step_326 rfl rfl) ?_
          refine xW_pure (fun _ _ _ _ _ => am_dup d_Mod_step_327 rfl) ?_
          refine xW_gI O f_Mod_3 d_Mod_step_328 (fun v25 _ => ?_)
          refine xW_pure (fun _ _ _ _ _ => am_iconst (v := 1) d_Mod_step_331 (by decide)) ?_
          refine xW_pure (fun _ _ _ _ _ => am_iadd d_Mod_step_332) ?_
          refine xW_put O f_Mod_3 d_Mod_step_333 (fun q hq => by cases hq; exact ⟨rfl, rfl, rfl⟩) (fun s26 _ => ?_)
          refine xW_locs (lv' := [(0, .ref l0)]) rfl ?_
          refine xW_loop (lvf := fun (z336 : HS) => [(0, .ref l0)]) (hsf := fun (z336 : HS) => z336) (fun again336 ih336 z336 => ?_) FU s26
          refine xW_pure (fun _ _ _ _ _ => am_aload_n d_Mod_step_336 rfl rfl) ?_
          refine xW_gI O f_Mod_3 d_Mod_step_337 (fun v27 _ => ?_)
          refine xW_pure (fun _ _ _ _ _ => am_aload_n d_Mod_step_340 rfl rfl) ?_
          refine xW_gI O f_Mod_29 d_Mod_step_341 (fun v28 _ => ?_)
          refine xW_ite (fun _ _ _ _ _ => am_icmp_ge (tgt := 396) d_Mod_step_344 (by decide)) (fun _ => ?_) (fun _ => ?_)
          · refine xW_locs (lv' := [(0, .ref l0)]) rfl ?_
            exact dx_Mod_step_b396 O T
          · refine xW_pure (fun _ _ _ _ _ => am_aload_n d_Mod_step_347 rfl rfl) ?_
            refine xW_gR O f_Mod_22 d_Mod_step_348 (fun v43 _ => ?_)
            refine xW_pure (fun _ _ _ _ _ => am_aload_n d_Mod_step_351 rfl rfl) ?_
            refine xW_gI O f_Mod_3 d_Mod_step_352 (fun v44 _ => ?_)
            refine xW_aB O d_Mod_step_355 (fun v45 _ => ?_)
            refine xW_pure (fun _ _ _ _ _ => am_bipush (v := 34) d_Mod_step_356 (by decide)) ?_
            refine xW_ite (fun _ _ _ _ _ => am_icmp_eq (tgt := 396) d_Mod_step_358 (by decide)) (fun _ => ?_) (fun _ => ?_)
            · refine xW_locs (lv' := [(0, .ref l0)]) rfl ?_
              exact dx_Mod_step_b396 O T
            · refine xW_pure (fun _ _ _ _ _ => am_aload_n d_Mod_step_361 rfl rfl) ?_
              refine xW_gR O f_Mod_22 d_Mod_step_362 (fun v46 _ => ?_)
              refine xW_pure (fun _ _ _ _ _ => am_aload_n d_Mod_step_365 rfl rfl) ?_
              refine xW_gI O f_Mod_3 d_Mod_step_366 (fun v47 _ => ?_)
              refine xW_aB O d_Mod_step_369 (fun v48 _ => ?_)
              refine xW_pure (fun _ _ _ _ _ => am_i2l d_Mod_step_370 rfl) ?_
              refine xW_pure (fun _ _ _ _ _ => am_ldc2 (v := 32) w_1828 d_Mod_step_371) ?_
              refine xW_pure (fun _ _ _ _ _ => am_ldc2 (v := 126) w_1829 d_Mod_step_374) ?_
              refine xW_callS O (dx_Mod_in O T) rfl l_Mod_70 w_1791 rfl (Nat.le_of_ble_eq_true rfl) d_Mod_step_377 (fun v50 s49 _ => ?_)
              refine xW_ite (fun _ _ _ _ _ => am_if_eq (tgt := 396) d_Mod_step_380 (by decide)) (fun _ => ?_) (fun _ => ?_)
              · refine xW_locs (lv' := [(0, .ref l0)]) rfl ?_
                exact dx_Mod_step_b396 O T
              · refine xW_pure (fun _ _ _ _ _ => am_aload_n d_Mod_step_383 rfl rfl) ?_
                refine xW_pure (fun _ _ _ _ _ => am_dup d_Mod_step_384 rfl) ?_
                refine xW_gI O f_Mod_3 d_Mod_step_385 (fun v51 _ => ?_)
                refine xW_pure (fun _ _ _ _ _ => am_iconst (v := 1) d_Mod_step_388 (by decide)) ?_
                refine xW_pure (fun _ _ _ _ _ => am_iadd d_Mod_step_389) ?_
                refine xW_put O f_Mod_3 d_Mod_step_390 (fun q hq => by cases hq; exact ⟨rfl, rfl, rfl⟩) (fun s52 _ => ?_)
                refine xW_pure (fun _ _ _ _ _ => am_goto (tgt := 336) d_Mod_step_393 (by decide)) ?_
                refine xW_locs (lv' := [(0, .ref l0)]) rfl ?_
                exact ih336 s52
        · refine xW_pure (fun _ _ _ _ _ => am_aload_n d_Mod_step_474 rfl rfl) ?_
          refine xW_gR O f_Mod_22 d_Mod_step_475 (fun v53 _ => ?_)
          refine xW_pure (fun _ _ _ _ _ => am_aload_n d_Mod_step_478 rfl rfl) ?_
          refine xW_gI O f_Mod_3 d_Mod_step_479 (fun v54 _ => ?_)
          refine xW_aB O d_Mod_step_482 (fun v55 _ => ?_)
          refine xW_pure (fun _ _ _ _ _ => am_istore_n d_Mod_step_483 rfl (Nat.le_of_ble_eq_true rfl)) ?_
          refine xW_pure (fun _ _ _ _ _ => am_aload_n d_Mod_step_484 rfl rfl) ?_
          refine xW_gI O f_Mod_3 d_Mod_step_485 (fun v56 _ => ?_)
          refine xW_pure (fun _ _ _ _ _ => am_iconst (v := 1) d_Mod_step_488 (by decide)) ?_
          refine xW_pure (fun _ _ _ _ _ => am_iadd d_Mod_step_489) ?_
          refine xW_pure (fun _ _ _ _ _ => am_aload_n d_Mod_step_490 rfl rfl) ?_
          refine xW_gI O f_Mod_29 d_Mod_step_491 (fun v57 _ => ?_)
          refine xW_ite (fun _ _ _ _ _ => am_icmp_ge (tgt := 511) d_Mod_step_494 (by decide)) (fun _ => ?_) (fun _ => ?_)
          · refine xW_pure (fun _ _ _ _ _ => am_iconst (v := 0) d_Mod_step_511 (by decide)) ?_
            refine xW_locs (lv' := [(0, .ref l0), (1, .int v55)]) rfl ?_
            exact dx_Mod_step_b512 O T
          · refine xW_pure (fun _ _ _ _ _ => am_aload_n d_Mod_step_497 rfl rfl) ?_
            refine xW_gR O f_Mod_22 d_Mod_step_498 (fun v66 _ => ?_)
            refine xW_pure (fun _ _ _ _ _ => am_aload_n d_Mod_step_501 rfl rfl) ?_
            refine xW_gI O f_Mod_3 d_Mod_step_502 (fun v67 _ => ?_)
            refine xW_pure (fun _ _ _ _ _ => am_iconst (v := 1) d_Mod_step_505 (by decide)) ?_
            refine xW_pure (fun _ _ _ _ _ => am_iadd d_Mod_step_506) ?_
            refine xW_aB O d_Mod_step_507 (fun v68 _ => ?_)
            refine xW_pure (fun _ _ _ _ _ => am_goto (tgt := 512) d_Mod_step_508 (by decide)) ?_
            refine xW_locs (lv' := [(0, .ref l0), (1, .int v55)]) rfl ?_
            exact dx_Mod_step_b512_1 O T
      · refine xW_pure (fun _ _ _ _ _ => am_aload_n d_Mod_step_211 rfl rfl) ?_
        refine xW_pure (fun _ _ _ _ _ => am_lconst (v := 0) d_Mod_step_212 (by decide)) ?_
        refine xW_put O f_Mod_46 d_Mod_step_213 (fun q hq => by cases hq; exact ⟨rfl, rfl, rfl⟩) (fun s69 _ => ?_)
        refine xW_locs (lv' := [(0, .ref l0)]) rfl ?_
        refine xW_loop (lvf := fun (z216 : HS) => [(0, .ref l0)]) (hsf := fun (z216 : HS) => z216) (fun again216 ih216 z216 => ?_) FU s69
        refine xW_pure (fun _ _ _ _ _ => am_aload_n d_Mod_step_216 rfl rfl) ?_
        refine xW_gI O f_Mod_3 d_Mod_step_217 (fun v70 _ => ?_)
        refine xW_pure (fun _ _ _ _ _ => am_aload_n d_Mod_step_220 rfl rfl) ?_
        refine xW_gI O f_Mod_29 d_Mod_step_221 (fun v71 _ => ?_)
        refine xW_ite (fun _ _ _ _ _ => am_icmp_ge (tgt := 288) d_Mod_step_224 (by decide)) (fun _ => ?_) (fun _ => ?_)
        · refine xW_locs (lv' := [(0, .ref l0)]) rfl ?_
          exact dx_Mod_step_b288 O T
        · refine xW_pure (fun _ _ _ _ _ => am_aload_n d_Mod_step_227 rfl rfl) ?_
          refine xW_gR O f_Mod_22 d_Mod_step_228 (fun v79 _ => ?_)
          refine xW_pure (fun _ _ _ _ _ => am_aload_n d_Mod_step_231 rfl rfl) ?_
          refine xW_gI O f_Mod_3 d_Mod_step_232 (fun v80 _ => ?_)
          refine xW_aB O d_Mod_step_235 (fun v81 _ => ?_)
          refine xW_callS O (dx_Mod_isDigit O T) rfl l_Mod_39 w_1814 rfl (Nat.le_of_ble_eq_true rfl) d_Mod_step_236 (fun v83 s82 _ => ?_)
          refine xW_ite (fun _ _ _ _ _ => am_if_eq (tgt := 288) d_Mod_step_239 (by decide)) (fun _ => ?_) (fun _ => ?_)
          · refine xW_locs (lv' := [(0, .ref l0)]) rfl ?_
            exact dx_Mod_step_b288 O T
          · refine xW_pure (fun _ _ _ _ _ => am_aload_n d_Mod_step_242 rfl rfl) ?_
            refine xW_pure (fun _ _ _ _ _ => am_ldc2 (v := 1099511627776) w_1823 d_Mod_step_243) ?_
            refine xW_pure (fun _ _ _ _ _ => am_ldc2 (v := 10) w_1824 d_Mod_step_246) ?_
            refine xW_pure (fun _ _ _ _ _ => am_aload_n d_Mod_step_249 rfl rfl) ?_
            refine xW_gL O f_Mod_46 d_Mod_step_250 (fun v84 _ => ?_)
            refine xW_pure (fun _ _ _ _ _ => am_lmul d_Mod_step_253) ?_
            refine xW_pure (fun _ _ _ _ _ => am_aload_n d_Mod_step_254 rfl rfl) ?_
            refine xW_gR O f_Mod_22 d_Mod_step_255 (fun v85 _ => ?_)
            refine xW_pure (fun _ _ _ _ _ => am_aload_n d_Mod_step_258 rfl rfl) ?_
            refine xW_gI O f_Mod_3 d_Mod_step_259 (fun v86 _ => ?_)
            refine xW_aB O d_Mod_step_262 (fun v87 _ => ?_)
            refine xW_pure (fun _ _ _ _ _ => am_i2l d_Mod_step_263 rfl) ?_
            refine xW_pure (fun _ _ _ _ _ => am_ladd d_Mod_step_264) ?_
            refine xW_pure (fun _ _ _ _ _ => am_ldc2 (v := 48) w_1825 d_Mod_step_265) ?_
            refine xW_pure (fun _ _ _ _ _ => am_lsub d_Mod_step_268) ?_
            refine xW_pure (fun _ _ _ _ _ => am_mminL w_1826 w_587 w_164 w_588 d_Mod_step_269 (Nat.le_of_ble_eq_true rfl) (by omega)) ?_
            refine xW_put O f_Mod_46 d_Mod_step_272 (fun q hq => by cases hq; exact ⟨rfl, rfl, rfl⟩) (fun s88 _ => ?_)
            refine xW_pure (fun _ _ _ _ _ => am_aload_n d_Mod_step_275 rfl rfl) ?_
            refine xW_pure (fun _ _ _ _ _ => am_dup d_Mod_step_276 rfl) ?_
            refine xW_gI O f_Mod_3 d_Mod_step_277 (fun v89 _ => ?_)
            refine xW_pure (fun _ _ _ _ _ => am_iconst (v := 1) d_Mod_step_280 (by decide)) ?_
            refine xW_pure (fun _ _ _ _ _ => am_iadd d_Mod_step_281) ?_
            refine xW_put O f_Mod_3 d_Mod_step_282 (fun q hq => by cases hq; exact ⟨rfl, rfl, rfl⟩) (fun s90 _ => ?_)
            refine xW_pure (fun _ _ _ _ _ => am_goto (tgt := 216) d_Mod_step_285 (by decide)) ?_
            refine xW_locs (lv' := [(0, .ref l0)]) rfl ?_
            exact ih216 s90
    · refine xW_locs (lv' := [(0, .ref l0)]) rfl ?_
      refine xW_loop (lvf := fun (z104 : HS) => [(0, .ref l0)]) (hsf := fun (z104 : HS) => z104) (fun again104 ih104 z104 => ?_) FU s15
      refine xW_pure (fun _ _ _ _ _ => am_aload_n d_Mod_step_104 rfl rfl) ?_
      refine xW_gI O f_Mod_3 d_Mod_step_105 (fun v91 _ => ?_)
      refine xW_pure (fun _ _ _ _ _ => am_aload_n d_Mod_step_108 rfl rfl) ?_
      refine xW_gI O f_Mod_29 d_Mod_step_109 (fun v92 _ => ?_)
      refine xW_ite (fun _ _ _ _ _ => am_icmp_ge (tgt := 158) d_Mod_step_112 (by decide)) (fun _ => ?_) (fun _ => ?_)
      · refine xW_locs (lv' := [(0, .ref l0)]) rfl ?_
        exact dx_Mod_step_b158 O T
      · refine xW_pure (fun _ _ _ _ _ => am_aload_n d_Mod_step_115 rfl rfl) ?_
        refine xW_gR O f_Mod_22 d_Mod_step_116 (fun v106 _ => ?_)
        refine xW_pure (fun _ _ _ _ _ => am_aload_n d_Mod_step_119 rfl rfl) ?_
        refine xW_gI O f_Mod_3 d_Mod_step_120 (fun v107 _ => ?_)
        refine xW_aB O d_Mod_step_123 (fun v108 _ => ?_)
        refine xW_callS O (dx_Mod_isSmall O T) rfl l_Mod_35 w_1811 rfl (Nat.le_of_ble_eq_true rfl) d_Mod_step_124 (fun v110 s109 _ => ?_)
        refine xW_ite (fun _ _ _ _ _ k1 k2 => am_if_ne (tgt := 145) d_Mod_step_127 (by decide) k2 k1) (fun _ => ?_) (fun _ => ?_)
        · refine xW_pure (fun _ _ _ _ _ => am_aload_n d_Mod_step_130 rfl rfl) ?_
          refine xW_gR O f_Mod_22 d_Mod_step_131 (fun v111 _ => ?_)
          refine xW_pure (fun _ _ _ _ _ => am_aload_n d_Mod_step_134 rfl rfl) ?_
          refine xW_gI O f_Mod_3 d_Mod_step_135 (fun v112 _ => ?_)
          refine xW_aB O d_Mod_step_138 (fun v113 _ => ?_)
          refine xW_callS O (dx_Mod_isDigit O T) rfl l_Mod_39 w_1814 rfl (Nat.le_of_ble_eq_true rfl) d_Mod_step_139 (fun v115 s114 _ => ?_)
          refine xW_ite (fun _ _ _ _ _ => am_if_eq (tgt := 158) d_Mod_step_142 (by decide)) (fun _ => ?_) (fun _ => ?_)
          · refine xW_locs (lv' := [(0, .ref l0)]) rfl ?_
            exact dx_Mod_step_b158 O T
          · refine xW_pure (fun _ _ _ _ _ => am_aload_n d_Mod_step_145 rfl rfl) ?_
            refine xW_pure (fun _ _ _ _ _ => am_dup d_Mod_step_146 rfl) ?_
            refine xW_gI O f_Mod_3 d_Mod_step_147 (fun v116 _ => ?_)
            refine xW_pure (fun _ _ _ _ _ => am_iconst (v := 1) d_Mod_step_150 (by decide)) ?_
            refine xW_pure (fun _ _ _ _ _ => am_iadd d_Mod_step_151) ?_
            refine xW_put O f_Mod_3 d_Mod_step_152 (fun q hq => by cases hq; exact ⟨rfl, rfl, rfl⟩) (fun s117 _ => ?_)
            refine xW_pure (fun _ _ _ _ _ => am_goto (tgt := 104) d_Mod_step_155 (by decide)) ?_
            refine xW_locs (lv' := [(0, .ref l0)]) rfl ?_
            exact ih104 s117
        · refine xW_pure (fun _ _ _ _ _ => am_aload_n d_Mod_step_145 rfl rfl) ?_
          refine xW_pure (fun _ _ _ _ _ => am_dup d_Mod_step_146 rfl) ?_
          refine xW_gI O f_Mod_3 d_Mod_step_147 (fun v118 _ => ?_)
          refine xW_pure (fun _ _ _ _ _ => am_iconst (v := 1) d_Mod_step_150 (by decide)) ?_
          refine xW_pure (fun _ _ _ _ _ => am_iadd d_Mod_step_151) ?_
          refine xW_put O f_Mod_3 d_Mod_step_152 (fun q hq => by cases hq; exact ⟨rfl, rfl, rfl⟩) (fun s119 _ => ?_)
          refine xW_pure (fun _ _ _ _ _ => am_goto (tgt := 104) d_Mod_step_155 (by decide)) ?_
          refine xW_locs (lv' := [(0, .ref l0)]) rfl ?_
          exact ih104 s119

set_option maxRecDepth 100000 in
def x_Mod_step (d : Nat) (x0 : Nat) (s : HS) : Option (Unit × HS) := match d with
  | 0 => none
  | d + 1 => gd s x0 14 ((gI s x0 14 10).bind fun v1 => ((pV s x0 14 10 (.int (v1 + 1))).bind fun s2 => (loopK (fun (again10 : HS → Option (Unit × HS)) (z10 : HS) => ((gI z10 x0 14 5).bind fun v3 => ((gI z10 x0 14 4).bind fun v4 => (if v4 ≤ v3 then (x_Mod_step_b62 d x0 z10) else ((gR z10 x0 14 0).bind fun v120 => ((gI z10 x0 14 5).bind fun v121 => ((aB z10 v120 v121).bind fun v122 => (if v122 = 32 then ((gI z10 x0 14 5).bind fun v123 => ((pV z10 x0 14 5 (.int (v123 + 1))).bind fun s124 => (again10 s124))) else ((gR z10 x0 14 0).bind fun v125 => ((gI z10 x0 14 5).bind fun v126 => ((aB z10 v125 v126).bind fun v127 => (if v127 = 10 then ((gI z10 x0 14 5).bind fun v128 => ((pV z10 x0 14 5 (.int (v128 + 1))).bind fun s129 => (again10 s129))) else (x_Mod_step_b62 d x0 z10))))))))))))) FU s2)))

set_option maxRecDepth 100000 in
set_option maxHeartbeats 4000000 in
theorem dx_Mod_step (O : am_ok K X) (T : am_T K) {d : Nat} {x0 : Nat} {s : HS} : xM cvU K X m_Mod_step d [.ref x0] s (x_Mod_step d x0 s) := by
  cases d with
  | zero => exact xM_none
  | succ d =>
    unfold x_Mod_step
    refine xM_enter (by decide +kernel) (Nat.le_of_ble_eq_true rfl) ?_
    refine xW_gd (fun _ => ?_)
    refine xW_pure (fun _ _ _ _ _ => am_aload_n d_Mod_step_0 rfl rfl) ?_
    refine xW_pure (fun _ _ _ _ _ => am_dup d_Mod_step_1 rfl) ?_
    refine xW_gI O f_Mod_26 d_Mod_step_2 (fun v1 _ => ?_)
    refine xW_pure (fun _ _ _ _ _ => am_iconst (v := 1) d_Mod_step_5 (by decide)) ?_
    refine xW_pure (fun _ _ _ _ _ => am_iadd d_Mod_step_6) ?_
    refine xW_put O f_Mod_26 d_Mod_step_7 (fun q hq => by cases hq; exact ⟨rfl, rfl, rfl⟩) (fun s2 _ => ?_)
    refine xW_locs (lv' := [(0, .ref x0)]) rfl ?_
    refine xW_loop (lvf := fun (z10 : HS) => [(0, .ref x0)]) (hsf := fun (z10 : HS) => z10) (fun again10 ih10 z10 => ?_) FU s2
    refine xW_pure (fun _ _ _ _ _ => am_aload_n d_Mod_step_10 rfl rfl) ?_
    refine xW_gI O f_Mod_3 d_Mod_step_11 (fun v3 _ => ?_)
    refine xW_pure (fun _ _ _ _ _ => am_aload_n d_Mod_step_14 rfl rfl) ?_
    refine xW_gI O f_Mod_29 d_Mod_step_15 (fun v4 _ => ?_)
    refine xW_ite (fun _ _ _ _ _ => am_icmp_ge (tgt := 62) d_Mod_step_18 (by decide)) (fun _ => ?_) (fun _ => ?_)
    · refine xW_locs (lv' := [(0, .ref x0)]) rfl ?_
      exact dx_Mod_step_b62 O T
    · refine xW_pure (fun _ _ _ _ _ => am_aload_n d_Mod_step_21 rfl rfl) ?_
      refine xW_gR O f_Mod_22 d_Mod_step_22 (fun v120 _ => ?_)
      refine xW_pure (fun _ _ _ _ _ => am_aload_n d_Mod_step_25 rfl rfl) ?_
      refine xW_gI O f_Mod_3 d_Mod_step_26 (fun v121 _ => ?_)
      refine xW_aB O d_Mod_step_29 (fun v122 _ => ?_)
      refine xW_pure (fun _ _ _ _ _ => am_bipush (v := 32) d_Mod_step_30 (by decide)) ?_
      refine xW_ite (fun _ _ _ _ _ => am_icmp_eq (tgt := 49) d_Mod_step_32 (by decide)) (fun _ => ?_) (fun _ => ?_)
      · refine xW_pure (fun _ _ _ _ _ => am_aload_n d_Mod_step_49 rfl rfl) ?_
        refine xW_pure (fun _ _ _ _ _ => am_dup d_Mod_step_50 rfl) ?_
        refine xW_gI O f_Mod_3 d_Mod_step_51 (fun v123 _ => ?_)
        refine xW_pure (fun _ _ _ _ _ => am_iconst (v := 1) d_Mod_step_54 (by decide)) ?_
        refine xW_pure (fun _ _ _ _ _ => am_iadd d_Mod_step_55) ?_
        refine xW_put O f_Mod_3 d_Mod_step_56 (fun q hq => by cases hq; exact ⟨rfl, rfl, rfl⟩) (fun s124 _ => ?_)
        refine xW_pure (fun _ _ _ _ _ => am_goto (tgt := 10) d_Mod_step_59 (by decide)) ?_
        refine xW_locs (lv' := [(0, .ref x0)]) rfl ?_
        exact ih10 s124
      · refine xW_pure (fun _ _ _ _ _ => am_aload_n d_Mod_step_35 rfl rfl) ?_
        refine xW_gR O f_Mod_22 d_Mod_step_36 (fun v125 _ => ?_)
        refine xW_pure (fun _ _ _ _ _ => am_aload_n d_Mod_step_39 rfl rfl) ?_
        refine xW_gI O f_Mod_3 d_Mod_step_40 (fun v126 _ => ?_)
        refine xW_aB O d_Mod_step_43 (fun v127 _ => ?_)
        refine xW_pure (fun _ _ _ _ _ => am_bipush (v := 10) d_Mod_step_44 (by decide)) ?_
        refine xW_ite (fun _ _ _ _ _ k1 k2 => am_icmp_ne (tgt := 62) d_Mod_step_46 (by decide) k2 k1) (fun _ => ?_) (fun _ => ?_)
        · refine xW_pure (fun _ _ _ _ _ => am_aload_n d_Mod_step_49 rfl rfl) ?_
          refine xW_pure (fun _ _ _ _ _ => am_dup d_Mod_step_50 rfl) ?_
          refine xW_gI O f_Mod_3 d_Mod_step_51 (fun v128 _ => ?_)
          refine xW_pure (fun _ _ _ _ _ => am_iconst (v := 1) d_Mod_step_54 (by decide)) ?_
          refine xW_pure (fun _ _ _ _ _ => am_iadd d_Mod_step_55) ?_
          refine xW_put O f_Mod_3 d_Mod_step_56 (fun q hq => by cases hq; exact ⟨rfl, rfl, rfl⟩) (fun s129 _ => ?_)
          refine xW_pure (fun _ _ _ _ _ => am_goto (tgt := 10) d_Mod_step_59 (by decide)) ?_
          refine xW_locs (lv' := [(0, .ref x0)]) rfl ?_
          exact ih10 s129
        · refine xW_locs (lv' := [(0, .ref x0)]) rfl ?_
          exact dx_Mod_step_b62 O T

theorem ob_Mod_step {d : Nat} {x0 : Nat} {s : HS} {y : Unit × HS} (h : x_Mod_step d x0 s = some y) : isO s x0 14 = true := by
  cases d with
  | zero => cases h
  | succ d => exact (gd_spec h).1
end
