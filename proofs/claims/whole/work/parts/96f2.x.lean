section
variable {K : am_K} {X : Nat → am_C}
set_option maxRecDepth 100000 in
def x_Mod_octet (d : Nat) (x0 : Nat) (x1 : Int32) (s : HS) : Option (Int32 × HS) := match d with
  | 0 => none
  | d + 1 => gd s x0 14 ((gI s x0 14 3).bind fun v1 => (bnd (x_Mod_in d (x1 : Int32).toInt64 (-1) ((v1 - 1) : Int32).toInt64 s) fun v3 s2 => (if v3 = 0 then (some ((-2), s2)) else (if 0 ≤ x1 then ((gR s2 x0 14 1).bind fun v4 => ((aB s2 v4 x1).bind fun v5 => (some ((v5 &&& 255), s2)))) else ((gI s2 x0 14 3).bind fun v6 => (some (v6, s2)))))))

set_option maxRecDepth 100000 in
set_option maxHeartbeats 4000000 in
theorem dx_Mod_octet (O : am_ok K X) (T : am_T K) {d : Nat} {x0 : Nat} {x1 : Int32} {s : HS} : xM cvI K X m_Mod_octet d [.ref x0, .int x1] s (x_Mod_octet d x0 x1 s) := by
  cases d with
  | zero => exact xM_none
  | succ d =>
    unfold x_Mod_octet
    refine xM_enter (by decide +kernel) (Nat.le_of_ble_eq_true rfl) ?_
    refine xW_gd (fun _ => ?_)
    refine xW_pure (fun _ _ _ _ _ => am_iload_n d_Mod_octet_0 rfl rfl) ?_
    refine xW_pure (fun _ _ _ _ _ => am_i2l d_Mod_octet_1 rfl) ?_
    refine xW_pure (fun _ _ _ _ _ => am_ldc2 (v := (-1)) w_2172 d_Mod_octet_2) ?_
    refine xW_pure (fun _ _ _ _ _ => am_aload_n d_Mod_octet_5 rfl rfl) ?_
    refine xW_gI O f_Mod_440 d_Mod_octet_6 (fun v1 _ => ?_)
    refine xW_pure (fun _ _ _ _ _ => am_iconst (v := 1) d_Mod_octet_9 (by decide)) ?_
    refine xW_pure (fun _ _ _ _ _ => am_isub d_Mod_octet_10) ?_
    refine xW_pure (fun _ _ _ _ _ => am_i2l d_Mod_octet_11 rfl) ?_
    refine xW_callS O (dx_Mod_in O T) rfl l_Mod_70 w_1791 rfl (Nat.le_of_ble_eq_true rfl) d_Mod_octet_12 (fun v3 s2 _ => ?_)
    refine xW_ite (fun _ _ _ _ _ k1 k2 => am_if_ne (tgt := 21) d_Mod_octet_15 (by decide) k2 k1) (fun _ => ?_) (fun _ => ?_)
    · refine xW_pure (fun _ _ _ _ _ => am_bipush (v := (-2)) d_Mod_octet_18 (by decide)) ?_
      exact xW_ret (fun _ _ _ _ _ => am_iret rfl d_Mod_octet_20)
    · refine xW_pure (fun _ _ _ _ _ => am_iload_n d_Mod_octet_21 rfl rfl) ?_
      refine xW_ite (fun _ _ _ _ _ => am_if_ge (tgt := 32) d_Mod_octet_22 (by decide)) (fun _ => ?_) (fun _ => ?_)
      · refine xW_pure (fun _ _ _ _ _ => am_aload_n d_Mod_octet_32 rfl rfl) ?_
        refine xW_gR O f_Mod_340 d_Mod_octet_33 (fun v4 _ => ?_)
        refine xW_pure (fun _ _ _ _ _ => am_iload_n d_Mod_octet_36 rfl rfl) ?_
        refine xW_aB O d_Mod_octet_37 (fun v5 _ => ?_)
        refine xW_pure (fun _ _ _ _ _ => am_sipush (v := 255) d_Mod_octet_38 (by decide)) ?_
        refine xW_pure (fun _ _ _ _ _ => am_iand d_Mod_octet_41) ?_
        exact xW_ret (fun _ _ _ _ _ => am_iret rfl d_Mod_octet_42)
      · refine xW_pure (fun _ _ _ _ _ => am_aload_n d_Mod_octet_25 rfl rfl) ?_
        refine xW_gI O f_Mod_440 d_Mod_octet_26 (fun v6 _ => ?_)
        refine xW_pure (fun _ _ _ _ _ => am_goto (tgt := 42) d_Mod_octet_29 (by decide)) ?_
        exact xW_ret (fun _ _ _ _ _ => am_iret rfl d_Mod_octet_42)

theorem ob_Mod_octet {d : Nat} {x0 : Nat} {x1 : Int32} {s : HS} {y : Int32 × HS} (h : x_Mod_octet d x0 x1 s = some y) : isO s x0 14 = true := by
  cases d with
  | zero => cases h
  | succ d => exact (gd_spec h).1

set_option maxRecDepth 100000 in
def x_Mod_root (d : Nat) (x0 : Nat) (s : HS) : Option (Int64 × HS) := match d with
  | 0 => none
  | d + 1 => gd s x0 14 ((gI s x0 14 2).bind fun v1 => ((pV s x0 14 2 (.int 0)).bind fun s2 => (loopK (fun (again15 : Int64 × Int32 × HS → Option (Int64 × HS)) (z15 : Int64 × Int32 × HS) => (if v1 ≤ z15.2.1 then ((gR z15.2.2 x0 14 30).bind fun v3 => (bnd (x_State_findRoot d v3 z15.1 z15.2.2) fun v5 s4 => (if 0 ≤ v5 then ((gR s4 x0 14 30).bind fun v6 => ((gR s4 v6 13 6).bind fun v7 => ((gR s4 v7 11 0).bind fun v8 => ((aI s4 v8 v5).bind fun v9 => (if v9 = 1 then ((gR s4 x0 14 30).bind fun v10 => ((gR s4 v10 13 6).bind fun v11 => ((gR s4 v11 11 2).bind fun v12 => ((aL s4 v12 v5).bind fun v13 => (some (v13, s4)))))) else (if v9 = 2 then ((gR s4 x0 14 30).bind fun v14 => ((gR s4 v14 13 6).bind fun v15 => ((gR s4 v15 11 1).bind fun v16 => ((aI s4 v16 v5).bind fun v17 => (some ((1099511627777 + ((8 * v17) : Int32).toInt64), s4)))))) else (some (((1099511627776 + (v9 : Int32).toInt64) - 1), s4)))))))) else (some (1099511627776, s4))))) else (if 8 < v1 then (some (1099511627776, z15.2.2)) else ((gR z15.2.2 x0 14 0).bind fun v18 => ((aB z15.2.2 v18 z15.2.1).bind fun v19 => (if v19 = 0 then (some (1099511627776, z15.2.2)) else ((gR z15.2.2 x0 14 0).bind fun v20 => ((aB z15.2.2 v20 z15.2.1).bind fun v21 => (again15 ((((z15.1 : Int64) <<< ((8 : Int32).toInt64 &&& 63)) ||| ((v21 &&& 255) : Int32).toInt64), (z15.2.1 + 1), z15.2.2)))))))))) FU (0, 0, s2))))

set_option maxRecDepth 100000 in
set_option maxHeartbeats 4000000 in
theorem dx_Mod_root (O : am_ok K X) (T : am_T K) {d : Nat} {x0 : Nat} {s : HS} : xM cvL K X m_Mod_root d [.ref x0] s (x_Mod_root d x0 s) := by
  cases d with
  | zero => exact xM_none
  | succ d =>
    unfold x_Mod_root
    refine xM_enter (by decide +kernel) (Nat.le_of_ble_eq_true rfl) ?_
    refine xW_gd (fun _ => ?_)
    refine xW_pure (fun _ _ _ _ _ => am_aload_n d_Mod_root_0 rfl rfl) ?_
    refine xW_gI O f_Mod_134 d_Mod_root_1 (fun v1 _ => ?_)
    refine xW_pure (fun _ _ _ _ _ => am_istore_n d_Mod_root_4 rfl (Nat.le_of_ble_eq_true rfl)) ?_
    refine xW_pure (fun _ _ _ _ _ => am_aload_n d_Mod_root_5 rfl rfl) ?_
    refine xW_pure (fun _ _ _ _ _ => am_iconst (v := 0) d_Mod_root_6 (by decide)) ?_
    refine xW_put O f_Mod_134 d_Mod_root_7 (fun q hq => by cases hq; exact ⟨rfl, rfl, rfl⟩) (fun s2 _ => ?_)
    refine xW_pure (fun _ _ _ _ _ => am_lconst (v := 0) d_Mod_root_10 (by decide)) ?_
    refine xW_pure (fun _ _ _ _ _ => am_lstore_n d_Mod_root_11 rfl (Nat.le_of_ble_eq_true rfl)) ?_
    refine xW_pure (fun _ _ _ _ _ => am_iconst (v := 0) d_Mod_root_12 (by decide)) ?_
    refine xW_pure (fun _ _ _ _ _ => am_istore d_Mod_root_13 (Nat.le_of_ble_eq_true rfl)) ?_
    refine xW_locs (lv' := [(0, .ref x0), (1, .int v1), (2, .long 0), (4, .int 0)]) rfl ?_
    refine xW_loop (lvf := fun (z15 : Int64 × Int32 × HS) => [(0, .ref x0), (1, .int v1), (2, .long z15.1), (4, .int z15.2.1)]) (hsf := fun (z15 : Int64 × Int32 × HS) => z15.2.2) (fun again15 ih15 z15 => ?_) FU (0, 0, s2)
    refine xW_pure (fun _ _ _ _ _ => am_iload d_Mod_root_15 rfl) ?_
    refine xW_pure (fun _ _ _ _ _ => am_iload_n d_Mod_root_17 rfl rfl) ?_
    refine xW_ite (fun _ _ _ _ _ => am_icmp_ge (tgt := 65) d_Mod_root_18 (by decide)) (fun _ => ?_) (fun _ => ?_)
    · refine xW_pure (fun _ _ _ _ _ => am_aload_n d_Mod_root_65 rfl rfl) ?_
      refine xW_gR O f_Mod_349 d_Mod_root_66 (fun v3 _ => ?_)
      refine xW_pure (fun _ _ _ _ _ => am_lload_n d_Mod_root_69 rfl rfl) ?_
      refine xW_callV O (dx_State_findRoot O T) (fun _ e => ob_State_findRoot e) rfl rfl rfl l_Mod_469 ⟨w_2043, w_2044⟩ rfl (Nat.le_of_ble_eq_true rfl) d_Mod_root_70 (fun v5 s4 _ => ?_)
      refine xW_pure (fun _ _ _ _ _ => am_istore d_Mod_root_73 (Nat.le_of_ble_eq_true rfl)) ?_
      refine xW_pure (fun _ _ _ _ _ => am_iload d_Mod_root_75 rfl) ?_
      refine xW_ite (fun _ _ _ _ _ => am_if_ge (tgt := 84) d_Mod_root_77 (by decide)) (fun _ => ?_) (fun _ => ?_)
      · refine xW_pure (fun _ _ _ _ _ => am_aload_n d_Mod_root_84 rfl rfl) ?_
        refine xW_gR O f_Mod_349 d_Mod_root_85 (fun v6 _ => ?_)
        refine xW_gR O f_Mod_472 d_Mod_root_88 (fun v7 _ => ?_)
        refine xW_gR O f_Mod_515 d_Mod_root_91 (fun v8 _ => ?_)
        refine xW_pure (fun _ _ _ _ _ => am_iload d_Mod_root_94 rfl) ?_
        refine xW_aI O d_Mod_root_96 (fun v9 _ => ?_)
        refine xW_pure (fun _ _ _ _ _ => am_istore d_Mod_root_97 (Nat.le_of_ble_eq_true rfl)) ?_
        refine xW_pure (fun _ _ _ _ _ => am_iload d_Mod_root_99 rfl) ?_
        refine xW_pure (fun _ _ _ _ _ => am_iconst (v := 1) d_Mod_root_101 (by decide)) ?_
        refine xW_ite (fun _ _ _ _ _ k1 k2 => am_icmp_ne (tgt := 121) d_Mod_root_102 (by decide) k2 k1) (fun _ => ?_) (fun _ => ?_)
        · refine xW_pure (fun _ _ _ _ _ => am_aload_n d_Mod_root_105 rfl rfl) ?_
          refine xW_gR O f_Mod_349 d_Mod_root_106 (fun v10 _ => ?_)
          refine xW_gR O f_Mod_472 d_Mod_root_109 (fun v11 _ => ?_)
          refine xW_gR O f_Mod_508 d_Mod_root_112 (fun v12 _ => ?_)
          refine xW_pure (fun _ _ _ _ _ => am_iload d_Mod_root_115 rfl) ?_
          refine xW_aL O d_Mod_root_117 (fun v13 _ => ?_)
          refine xW_pure (fun _ _ _ _ _ => am_goto (tgt := 160) d_Mod_root_118 (by decide)) ?_
          exact xW_ret (fun _ _ _ _ _ => am_lret rfl d_Mod_root_160)
        · refine xW_pure (fun _ _ _ _ _ => am_iload d_Mod_root_121 rfl) ?_
          refine xW_pure (fun _ _ _ _ _ => am_iconst (v := 2) d_Mod_root_123 (by decide)) ?_
          refine xW_ite (fun _ _ _ _ _ k1 k2 => am_icmp_ne (tgt := 151) d_Mod_root_124 (by decide) k2 k1) (fun _ => ?_) (fun _ => ?_)
          · refine xW_pure (fun _ _ _ _ _ => am_ldc2 (v := 1099511627777) w_2165 d_Mod_root_127) ?_
            refine xW_pure (fun _ _ _ _ _ => am_bipush (v := 8) d_Mod_root_130 (by decide)) ?_
            refine xW_pure (fun _ _ _ _ _ => am_aload_n d_Mod_root_132 rfl rfl) ?_
            refine xW_gR O f_Mod_349 d_Mod_root_133 (fun v14 _ => ?_)
            refine xW_gR O f_Mod_472 d_Mod_root_136 (fun v15 _ => ?_)
            refine xW_gR O f_Mod_565 d_Mod_root_139 (fun v16 _ => ?_)
            refine xW_pure (fun _ _ _ _ _ => am_iload d_Mod_root_142 rfl) ?_
            refine xW_aI O d_Mod_root_144 (fun v17 _ => ?_)
            refine xW_pure (fun _ _ _ _ _ => am_imul d_Mod_root_145) ?_
            refine xW_pure (fun _ _ _ _ _ => am_i2l d_Mod_root_146 rfl) ?_
            refine xW_pure (fun _ _ _ _ _ => am_ladd d_Mod_root_147) ?_
            refine xW_pure (fun _ _ _ _ _ => am_goto (tgt := 160) d_Mod_root_148 (by decide)) ?_
            exact xW_ret (fun _ _ _ _ _ => am_lret rfl d_Mod_root_160)
          · refine xW_pure (fun _ _ _ _ _ => am_ldc2 (v := 1099511627776) w_1823 d_Mod_root_151) ?_
            refine xW_pure (fun _ _ _ _ _ => am_iload d_Mod_root_154 rfl) ?_
            refine xW_pure (fun _ _ _ _ _ => am_i2l d_Mod_root_156 rfl) ?_
            refine xW_pure (fun _ _ _ _ _ => am_ladd d_Mod_root_157) ?_
            refine xW_pure (fun _ _ _ _ _ => am_lconst (v := 1) d_Mod_root_158 (by decide)) ?_
            refine xW_pure (fun _ _ _ _ _ => am_lsub d_Mod_root_159) ?_
            exact xW_ret (fun _ _ _ _ _ => am_lret rfl d_Mod_root_160)
      · refine xW_pure (fun _ _ _ _ _ => am_ldc2 (v := 1099511627776) w_1823 d_Mod_root_80) ?_
        exact xW_ret (fun _ _ _ _ _ => am_lret rfl d_Mod_root_83)
    · refine xW_pure (fun _ _ _ _ _ => am_iload_n d_Mod_root_21 rfl rfl) ?_
      refine xW_pure (fun _ _ _ _ _ => am_bipush (v := 8) d_Mod_root_22 (by decide)) ?_
      refine xW_ite (fun _ _ _ _ _ => am_icmp_gt (tgt := 37) d_Mod_root_24 (by decide)) (fun _ => ?_) (fun _ => ?_)
      · refine xW_pure (fun _ _ _ _ _ => am_ldc2 (v := 1099511627776) w_1823 d_Mod_root_37) ?_
        exact xW_ret (fun _ _ _ _ _ => am_lret rfl d_Mod_root_40)
      · refine xW_pure (fun _ _ _ _ _ => am_aload_n d_Mod_root_27 rfl rfl) ?_
        refine xW_gR O f_Mod_22 d_Mod_root_28 (fun v18 _ => ?_)
        refine xW_pure (fun _ _ _ _ _ => am_iload d_Mod_root_31 rfl) ?_
        refine xW_aB O d_Mod_root_33 (fun v19 _ => ?_)
        refine xW_ite (fun _ _ _ _ _ k1 k2 => am_if_ne (tgt := 41) d_Mod_root_34 (by decide) k2 k1) (fun _ => ?_) (fun _ => ?_)
        · refine xW_pure (fun _ _ _ _ _ => am_ldc2 (v := 1099511627776) w_1823 d_Mod_root_37) ?_
          exact xW_ret (fun _ _ _ _ _ => am_lret rfl d_Mod_root_40)
        · refine xW_pure (fun _ _ _ _ _ => am_lload_n d_Mod_root_41 rfl rfl) ?_
          refine xW_pure (fun _ _ _ _ _ => am_bipush (v := 8) d_Mod_root_42 (by decide)) ?_
          refine xW_pure (fun _ _ _ _ _ => am_lshl d_Mod_root_44 rfl) ?_
          refine xW_pure (fun _ _ _ _ _ => am_aload_n d_Mod_root_45 rfl rfl) ?_
          refine xW_gR O f_Mod_22 d_Mod_root_46 (fun v20 _ => ?_)
          refine xW_pure (fun _ _ _ _ _ => am_iload d_Mod_root_49 rfl) ?_
          refine xW_aB O d_Mod_root_51 (fun v21 _ => ?_)
          refine xW_pure (fun _ _ _ _ _ => am_sipush (v := 255) d_Mod_root_52 (by decide)) ?_
          refine xW_pure (fun _ _ _ _ _ => am_iand d_Mod_root_55) ?_
          refine xW_pure (fun _ _ _ _ _ => am_i2l d_Mod_root_56 rfl) ?_
          refine xW_pure (fun _ _ _ _ _ => am_lor d_Mod_root_57) ?_
          refine xW_pure (fun _ _ _ _ _ => am_lstore_n d_Mod_root_58 rfl (Nat.le_of_ble_eq_true rfl)) ?_
          refine xW_pure (fun _ _ _ _ _ => am_iinc (v := 1) d_Mod_root_59 rfl (by decide) (Nat.le_of_ble_eq_true rfl)) ?_
          refine xW_pure (fun _ _ _ _ _ => am_goto (tgt := 15) d_Mod_root_62 (by decide)) ?_
          refine xW_locs (lv' := [(0, .ref x0), (1, .int v1), (2, .long (((z15.1 : Int64) <<< ((8 : Int32).toInt64 &&& 63)) ||| ((v21 &&& 255) : Int32).toInt64)), (4, .int (z15.2.1 + 1))]) rfl ?_
          exact ih15 ((((z15.1 : Int64) <<< ((8 : Int32).toInt64 &&& 63)) ||| ((v21 &&& 255) : Int32).toInt64), (z15.2.1 + 1), z15.2.2)

theorem ob_Mod_root {d : Nat} {x0 : Nat} {s : HS} {y : Int64 × HS} (h : x_Mod_root d x0 s = some y) : isO s x0 14 = true := by
  cases d with
  | zero => cases h
  | succ d => exact (gd_spec h).1

set_option maxRecDepth 100000 in
def x_Mod_count (d : Nat) (x0 : Nat) (x1 : Int32) (s : HS) : Option (Int32 × HS) := match d with
  | 0 => none
  | d + 1 => gd s x0 14 (if x1 = 0 then ((gR s x0 14 30).bind fun v1 => ((gI s v1 13 8).bind fun v2 => (some (v2, s)))) else (if x1 = 1 then ((gR s x0 14 30).bind fun v3 => ((gI s v3 13 9).bind fun v4 => (some (v4, s)))) else (if x1 = 2 then ((gR s x0 14 30).bind fun v5 => ((gI s v5 13 10).bind fun v6 => (some (v6, s)))) else (if x1 = 3 then ((gR s x0 14 30).bind fun v7 => (bnd (x_Mod_tokensOf d v7 s) fun v9 s8 => (some (v9, s8)))) else (if x1 = 4 then ((gI s x0 14 35).bind fun v10 => (some (v10, s))) else (if x1 = 5 then (loopK (fun (again87 : Int32 × Int32 × HS → Option (Int32 × HS)) (z87 : Int32 × Int32 × HS) => ((gI z87.2.2 x0 14 34).bind fun v11 => (if v11 ≤ z87.2.1 then (some (z87.1, z87.2.2)) else ((gR z87.2.2 x0 14 33).bind fun v12 => ((aR "StowTongueModel$State" z87.2.2 v12 z87.2.1).bind fun v13 => ((gI z87.2.2 v13 13 11).bind fun v14 => (again87 ((z87.1 + v14), (z87.2.1 + 1), z87.2.2)))))))) FU (0, 0, s)) else (if x1 = 6 then ((gI s x0 14 34).bind fun v15 => (some (v15, s))) else (if x1 = 7 then ((gI s x0 14 44).bind fun v16 => (some (v16, s))) else (some ((-1), s))))))))))

set_option maxRecDepth 100000 in
set_option maxHeartbeats 4000000 in
theorem dx_Mod_count (O : am_ok K X) (T : am_T K) {d : Nat} {x0 : Nat} {x1 : Int32} {s : HS} : xM cvI K X m_Mod_count d [.ref x0, .int x1] s (x_Mod_count d x0 x1 s) := by
  cases d with
  | zero => exact xM_none
  | succ d =>
    unfold x_Mod_count
    refine xM_enter (by decide +kernel) (Nat.le_of_ble_eq_true rfl) ?_
    refine xW_gd (fun _ => ?_)
    refine xW_pure (fun _ _ _ _ _ => am_iconst (v := 0) d_Mod_count_0 (by decide)) ?_
    refine xW_pure (fun _ _ _ _ _ => am_istore_n d_Mod_count_1 rfl (Nat.le_of_ble_eq_true rfl)) ?_
    refine xW_pure (fun _ _ _ _ _ => am_iload_n d_Mod_count_2 rfl rfl) ?_
    refine xW_by (fun c3_0 => ?_) (fun c3_0 => ?_)
    · refine xW_pure (fun _ _ _ _ _ => am_tableIn (off := 45) (tgt := 48) d_Mod_count_3 (by rw [c3_0]; decide) (by rw [c3_0]; decide) (by rw [c3_0]; rfl) (by decide)) ?_
      refine xW_pure (fun _ _ _ _ _ => am_aload_n d_Mod_count_48 rfl rfl) ?_
      refine xW_gR O f_Mod_349 d_Mod_count_49 (fun v1 _ => ?_)
      refine xW_gI O f_Mod_578 d_Mod_count_52 (fun v2 _ => ?_)
      exact xW_ret (fun _ _ _ _ _ => am_iret rfl d_Mod_count_55)
    · refine xW_by (fun c3_1 => ?_) (fun c3_1 => ?_)
      · refine xW_pure (fun _ _ _ _ _ => am_tableIn (off := 53) (tgt := 56) d_Mod_count_3 (by rw [c3_1]; decide) (by rw [c3_1]; decide) (by rw [c3_1]; rfl) (by decide)) ?_
        refine xW_pure (fun _ _ _ _ _ => am_aload_n d_Mod_count_56 rfl rfl) ?_
        refine xW_gR O f_Mod_349 d_Mod_count_57 (fun v3 _ => ?_)
        refine xW_gI O f_Mod_463 d_Mod_count_60 (fun v4 _ => ?_)
        exact xW_ret (fun _ _ _ _ _ => am_iret rfl d_Mod_count_63)
      · refine xW_by (fun c3_2 => ?_) (fun c3_2 => ?_)
        · refine xW_pure (fun _ _ _ _ _ => am_tableIn (off := 61) (tgt := 64) d_Mod_count_3 (by rw [c3_2]; decide) (by rw [c3_2]; decide) (by rw [c3_2]; rfl) (by decide)) ?_
          refine xW_pure (fun _ _ _ _ _ => am_aload_n d_Mod_count_64 rfl rfl) ?_
          refine xW_gR O f_Mod_349 d_Mod_count_65 (fun v5 _ => ?_)
          refine xW_gI O f_Mod_396 d_Mod_count_68 (fun v6 _ => ?_)
          exact xW_ret (fun _ _ _ _ _ => am_iret rfl d_Mod_count_71)
        · refine xW_by (fun c3_3 => ?_) (fun c3_3 => ?_)
          · refine xW_pure (fun _ _ _ _ _ => am_tableIn (off := 69) (tgt := 72) d_Mod_count_3 (by rw [c3_3]; decide) (by rw [c3_3]; decide) (by rw [c3_3]; rfl) (by decide)) ?_
            refine xW_pure (fun _ _ _ _ _ => am_aload_n d_Mod_count_72 rfl rfl) ?_
            refine xW_gR O f_Mod_349 d_Mod_count_73 (fun v7 _ => ?_)
            refine xW_callS O (dx_Mod_tokensOf O T) rfl l_Mod_431 w_2019 rfl (Nat.le_of_ble_eq_true rfl) d_Mod_count_76 (fun v9 s8 _ => ?_)
            exact xW_ret (fun _ _ _ _ _ => am_iret rfl d_Mod_count_79)
          · refine xW_by (fun c3_4 => ?_) (fun c3_4 => ?_)
            · refine xW_pure (fun _ _ _ _ _ => am_tableIn (off := 77) (tgt := 80) d_Mod_count_3 (by rw [c3_4]; decide) (by rw [c3_4]; decide) (by rw [c3_4]; rfl) (by decide)) ?_
              refine xW_pure (fun _ _ _ _ _ => am_aload_n d_Mod_count_80 rfl rfl) ?_
              refine xW_gI O f_Mod_480 d_Mod_count_81 (fun v10 _ => ?_)
              exact xW_ret (fun _ _ _ _ _ => am_iret rfl d_Mod_count_84)
            · refine xW_by (fun c3_5 => ?_) (fun c3_5 => ?_)
              · refine xW_pure (fun _ _ _ _ _ => am_tableIn (off := 82) (tgt := 85) d_Mod_count_3 (by rw [c3_5]; decide) (by rw [c3_5]; decide) (by rw [c3_5]; rfl) (by decide)) ?_
                refine xW_pure (fun _ _ _ _ _ => am_iconst (v := 0) d_Mod_count_85 (by decide)) ?_
                refine xW_pure (fun _ _ _ _ _ => am_istore_n d_Mod_count_86 rfl (Nat.le_of_ble_eq_true rfl)) ?_
                refine xW_locs (lv' := [(0, .ref x0), (2, .int 0), (3, .int 0)]) rfl ?_
                refine xW_loop (lvf := fun (z87 : Int32 × Int32 × HS) => [(0, .ref x0), (2, .int z87.1), (3, .int z87.2.1)]) (hsf := fun (z87 : Int32 × Int32 × HS) => z87.2.2) (fun again87 ih87 z87 => ?_) FU (0, 0, s)
                refine xW_pure (fun _ _ _ _ _ => am_iload_n d_Mod_count_87 rfl rfl) ?_
                refine xW_pure (fun _ _ _ _ _ => am_aload_n d_Mod_count_88 rfl rfl) ?_
                refine xW_gI O f_Mod_409 d_Mod_count_89 (fun v11 _ => ?_)
                refine xW_ite (fun _ _ _ _ _ => am_icmp_ge (tgt := 113) d_Mod_count_92 (by decide)) (fun _ => ?_) (fun _ => ?_)
                · refine xW_pure (fun _ _ _ _ _ => am_iload_n d_Mod_count_113 rfl rfl) ?_
                  exact xW_ret (fun _ _ _ _ _ => am_iret rfl d_Mod_count_114)
                · refine xW_pure (fun _ _ _ _ _ => am_iload_n d_Mod_count_95 rfl rfl) ?_
                  refine xW_pure (fun _ _ _ _ _ => am_aload_n d_Mod_count_96 rfl rfl) ?_
                  refine xW_gR O f_Mod_359 d_Mod_count_97 (fun v12 _ => ?_)
                  refine xW_pure (fun _ _ _ _ _ => am_iload_n d_Mod_count_100 rfl rfl) ?_
                  refine xW_aR O (by decide) d_Mod_count_101 (fun v13 _ => ?_)
                  refine xW_gI O f_Mod_483 d_Mod_count_102 (fun v14 _ => ?_)
                  refine xW_pure (fun _ _ _ _ _ => am_iadd d_Mod_count_105) ?_
                  refine xW_pure (fun _ _ _ _ _ => am_istore_n d_Mod_count_106 rfl (Nat.le_of_ble_eq_true rfl)) ?_
                  refine xW_pure (fun _ _ _ _ _ => am_iinc (v := 1) d_Mod_count_107 rfl (by decide) (Nat.le_of_ble_eq_true rfl)) ?_
                  refine xW_pure (fun _ _ _ _ _ => am_goto (tgt := 87) d_Mod_count_110 (by decide)) ?_
                  refine xW_locs (lv' := [(0, .ref x0), (2, .int (z87.1 + v14)), (3, .int (z87.2.1 + 1))]) rfl ?_
                  exact ih87 ((z87.1 + v14), (z87.2.1 + 1), z87.2.2)
              · refine xW_by (fun c3_6 => ?_) (fun c3_6 => ?_)
                · refine xW_pure (fun _ _ _ _ _ => am_tableIn (off := 112) (tgt := 115) d_Mod_count_3 (by rw [c3_6]; decide) (by rw [c3_6]; decide) (by rw [c3_6]; rfl) (by decide)) ?_
                  refine xW_pure (fun _ _ _ _ _ => am_aload_n d_Mod_count_115 rfl rfl) ?_
                  refine xW_gI O f_Mod_409 d_Mod_count_116 (fun v15 _ => ?_)
                  exact xW_ret (fun _ _ _ _ _ => am_iret rfl d_Mod_count_119)
                · refine xW_by (fun c3_7 => ?_) (fun c3_7 => ?_)
                  · refine xW_pure (fun _ _ _ _ _ => am_tableIn (off := 117) (tgt := 120) d_Mod_count_3 (by rw [c3_7]; decide) (by rw [c3_7]; decide) (by rw [c3_7]; rfl) (by decide)) ?_
                    refine xW_pure (fun _ _ _ _ _ => am_aload_n d_Mod_count_120 rfl rfl) ?_
                    refine xW_gI O f_Mod_446 d_Mod_count_121 (fun v16 _ => ?_)
                    exact xW_ret (fun _ _ _ _ _ => am_iret rfl d_Mod_count_124)
                  · have e3_0 := lk_ne c3_0 (show (0 : Int32).toInt = 0 by decide)
                    have e3_1 := lk_ne c3_1 (show (1 : Int32).toInt = 1 by decide)
                    have e3_2 := lk_ne c3_2 (show (2 : Int32).toInt = 2 by decide)
                    have e3_3 := lk_ne c3_3 (show (3 : Int32).toInt = 3 by decide)
                    have e3_4 := lk_ne c3_4 (show (4 : Int32).toInt = 4 by decide)
                    have e3_5 := lk_ne c3_5 (show (5 : Int32).toInt = 5 by decide)
                    have e3_6 := lk_ne c3_6 (show (6 : Int32).toInt = 6 by decide)
                    have e3_7 := lk_ne c3_7 (show (7 : Int32).toInt = 7 by decide)
                    refine xW_pure (fun _ _ _ _ _ => am_tableOut (tgt := 125) d_Mod_count_3 (by omega) (by decide)) ?_
                    refine xW_pure (fun _ _ _ _ _ => am_iconst (v := (-1)) d_Mod_count_125 (by decide)) ?_
                    exact xW_ret (fun _ _ _ _ _ => am_iret rfl d_Mod_count_126)

theorem ob_Mod_count {d : Nat} {x0 : Nat} {x1 : Int32} {s : HS} {y : Int32 × HS} (h : x_Mod_count d x0 x1 s = some y) : isO s x0 14 = true := by
  cases d with
  | zero => cases h
  | succ d => exact (gd_spec h).1

set_option maxRecDepth 100000 in
def x_Stow_feed (d : Nat) (x0 : Nat) (x1 : Int32) (x2 : Int32) (x3 : Int32) (x4 : Int32) (x5 : Int32) (s : HS) : Option (Int32 × HS) := match d with
  | 0 => none
  | d + 1 => gd s x0 9 ((gI s x0 9 1).bind fun v1 => (if (v1 + 20) ≤ 1500 then (bnd (x_Stow_addFour d x0 x1 s) fun v3 s2 => (bnd (x_Stow_addFour d x0 x2 s2) fun v5 s4 => (bnd (x_Stow_addFour d x0 x3 s4) fun v7 s6 => (bnd (x_Stow_addFour d x0 x4 s6) fun v9 s8 => (bnd (x_Stow_addFour d x0 x5 s8) fun v11 s10 => ((gI s10 x0 9 1).bind fun v12 => (some (v12, s10)))))))) else (some ((-3), s))))

set_option maxRecDepth 100000 in
set_option maxHeartbeats 4000000 in
theorem dx_Stow_feed (O : am_ok K X) (T : am_T K) {d : Nat} {x0 : Nat} {x1 : Int32} {x2 : Int32} {x3 : Int32} {x4 : Int32} {x5 : Int32} {s : HS} : xM cvI K X m_Stow_feed d [.ref x0, .int x1, .int x2, .int x3, .int x4, .int x5] s (x_Stow_feed d x0 x1 x2 x3 x4 x5 s) := by
  cases d with
  | zero => exact xM_none
  | succ d =>
    unfold x_Stow_feed
    refine xM_enter (by decide +kernel) (Nat.le_of_ble_eq_true rfl) ?_
    refine xW_gd (fun _ => ?_)
    refine xW_pure (fun _ _ _ _ _ => am_aload_n d_Stow_feed_0 rfl rfl) ?_
    refine xW_gI O f_Stow_48 d_Stow_feed_1 (fun v1 _ => ?_)
    refine xW_pure (fun _ _ _ _ _ => am_bipush (v := 20) d_Stow_feed_4 (by decide)) ?_
    refine xW_pure (fun _ _ _ _ _ => am_iadd d_Stow_feed_6) ?_
    refine xW_pure (fun _ _ _ _ _ => am_sipush (v := 1500) d_Stow_feed_7 (by decide)) ?_
    refine xW_ite (fun _ _ _ _ _ => am_icmp_le (tgt := 16) d_Stow_feed_10 (by decide)) (fun _ => ?_) (fun _ => ?_)
    · refine xW_pure (fun _ _ _ _ _ => am_aload_n d_Stow_feed_16 rfl rfl) ?_
      refine xW_pure (fun _ _ _ _ _ => am_iload_n d_Stow_feed_17 rfl rfl) ?_
      refine xW_callV O (dx_Stow_addFour O T) (fun _ e => ob_Stow_addFour e) rfl rfl rfl l_Stow_52 ⟨w_532, w_0⟩ rfl (Nat.le_of_ble_eq_true rfl) d_Stow_feed_18 (fun v3 s2 _ => ?_)
      refine xW_pure (fun _ _ _ _ _ => am_aload_n d_Stow_feed_21 rfl rfl) ?_
      refine xW_pure (fun _ _ _ _ _ => am_iload_n d_Stow_feed_22 rfl rfl) ?_
      refine xW_callV O (dx_Stow_addFour O T) (fun _ e => ob_Stow_addFour e) rfl rfl rfl l_Stow_52 ⟨w_532, w_0⟩ rfl (Nat.le_of_ble_eq_true rfl) d_Stow_feed_23 (fun v5 s4 _ => ?_)
      refine xW_pure (fun _ _ _ _ _ => am_aload_n d_Stow_feed_26 rfl rfl) ?_
      refine xW_pure (fun _ _ _ _ _ => am_iload_n d_Stow_feed_27 rfl rfl) ?_
      refine xW_callV O (dx_Stow_addFour O T) (fun _ e => ob_Stow_addFour e) rfl rfl rfl l_Stow_52 ⟨w_532, w_0⟩ rfl (Nat.le_of_ble_eq_true rfl) d_Stow_feed_28 (fun v7 s6 _ => ?_)
      refine xW_pure (fun _ _ _ _ _ => am_aload_n d_Stow_feed_31 rfl rfl) ?_
      refine xW_pure (fun _ _ _ _ _ => am_iload d_Stow_feed_32 rfl) ?_
      refine xW_callV O (dx_Stow_addFour O T) (fun _ e => ob_Stow_addFour e) rfl rfl rfl l_Stow_52 ⟨w_532, w_0⟩ rfl (Nat.le_of_ble_eq_true rfl) d_Stow_feed_34 (fun v9 s8 _ => ?_)
      refine xW_pure (fun _ _ _ _ _ => am_aload_n d_Stow_feed_37 rfl rfl) ?_
      refine xW_pure (fun _ _ _ _ _ => am_iload d_Stow_feed_38 rfl) ?_
      refine xW_callV O (dx_Stow_addFour O T) (fun _ e => ob_Stow_addFour e) rfl rfl rfl l_Stow_52 ⟨w_532, w_0⟩ rfl (Nat.le_of_ble_eq_true rfl) d_Stow_feed_40 (fun v11 s10 _ => ?_)
      refine xW_pure (fun _ _ _ _ _ => am_aload_n d_Stow_feed_43 rfl rfl) ?_
      refine xW_gI O f_Stow_48 d_Stow_feed_44 (fun v12 _ => ?_)
      exact xW_ret (fun _ _ _ _ _ => am_iret rfl d_Stow_feed_47)
    · refine xW_pure (fun _ _ _ _ _ => am_bipush (v := (-3)) d_Stow_feed_13 (by decide)) ?_
      exact xW_ret (fun _ _ _ _ _ => am_iret rfl d_Stow_feed_15)

theorem ob_Stow_feed {d : Nat} {x0 : Nat} {x1 : Int32} {x2 : Int32} {x3 : Int32} {x4 : Int32} {x5 : Int32} {s : HS} {y : Int32 × HS} (h : x_Stow_feed d x0 x1 x2 x3 x4 x5 s = some y) : isO s x0 9 = true := by
  cases d with
  | zero => cases h
  | succ d => exact (gd_spec h).1

set_option maxRecDepth 100000 in
def x_Lexer_skipBlanks (d : Nat) (x0 : Nat) (s : HS) : Option (Unit × HS) := match d with
  | 0 => none
  | d + 1 => gd s x0 1 (loopK (fun (again0 : HS → Option (Unit × HS)) (z0 : HS) => ((gI z0 x0 1 3).bind fun v1 => ((gI z0 x0 1 2).bind fun v2 => (if v2 ≤ v1 then (some ((), z0)) else ((gI z0 x0 1 3).bind fun v3 => (bnd (x_Lexer_byteAt d x0 v3 z0) fun v5 s4 => (if v5 = 32 then ((gI s4 x0 1 3).bind fun v6 => ((pV s4 x0 1 3 (.int (v6 + 1))).bind fun s7 => (again0 s7))) else (if v5 = 10 then ((gI s4 x0 1 3).bind fun v8 => ((pV s4 x0 1 3 (.int (v8 + 1))).bind fun s9 => (again0 s9))) else (some ((), s4)))))))))) FU s)

set_option maxRecDepth 100000 in
set_option maxHeartbeats 4000000 in
theorem dx_Lexer_skipBlanks (O : am_ok K X) (T : am_T K) {d : Nat} {x0 : Nat} {s : HS} : xM cvU K X m_Lexer_skipBlanks d [.ref x0] s (x_Lexer_skipBlanks d x0 s) := by
  cases d with
  | zero => exact xM_none
  | succ d =>
    unfold x_Lexer_skipBlanks
    refine xM_enter (by decide +kernel) (Nat.le_of_ble_eq_true rfl) ?_
    refine xW_gd (fun _ => ?_)
    refine xW_locs (lv' := [(0, .ref x0)]) rfl ?_
    refine xW_loop (lvf := fun (z0 : HS) => [(0, .ref x0)]) (hsf := fun (z0 : HS) => z0) (fun again0 ih0 z0 => ?_) FU s
    refine xW_pure (fun _ _ _ _ _ => am_aload_n d_Lexer_skipBlanks_0 rfl rfl) ?_
    refine xW_gI O f_Lexer_46 d_Lexer_skipBlanks_1 (fun v1 _ => ?_)
    refine xW_pure (fun _ _ _ _ _ => am_aload_n d_Lexer_skipBlanks_4 rfl rfl) ?_
    refine xW_gI O f_Lexer_43 d_Lexer_skipBlanks_5 (fun v2 _ => ?_)
    refine xW_ite (fun _ _ _ _ _ => am_icmp_ge (tgt := 46) d_Lexer_skipBlanks_8 (by decide)) (fun _ => ?_) (fun _ => ?_)
    · exact xW_ret (fun _ _ _ _ _ => am_vret rfl d_Lexer_skipBlanks_46)
    · refine xW_pure (fun _ _ _ _ _ => am_aload_n d_Lexer_skipBlanks_11 rfl rfl) ?_
      refine xW_pure (fun _ _ _ _ _ => am_aload_n d_Lexer_skipBlanks_12 rfl rfl) ?_
      refine xW_gI O f_Lexer_46 d_Lexer_skipBlanks_13 (fun v3 _ => ?_)
      refine xW_callV O (dx_Lexer_byteAt O T) (fun _ e => ob_Lexer_byteAt e) rfl rfl rfl l_Lexer_61 ⟨w_563, w_2⟩ rfl (Nat.le_of_ble_eq_true rfl) d_Lexer_skipBlanks_16 (fun v5 s4 _ => ?_)
      refine xW_pure (fun _ _ _ _ _ => am_istore_n d_Lexer_skipBlanks_19 rfl (Nat.le_of_ble_eq_true rfl)) ?_
      refine xW_pure (fun _ _ _ _ _ => am_iload_n d_Lexer_skipBlanks_20 rfl rfl) ?_
      refine xW_pure (fun _ _ _ _ _ => am_bipush (v := 32) d_Lexer_skipBlanks_21 (by decide)) ?_
      refine xW_ite (fun _ _ _ _ _ => am_icmp_eq (tgt := 33) d_Lexer_skipBlanks_23 (by decide)) (fun _ => ?_) (fun _ => ?_)
      · refine xW_pure (fun _ _ _ _ _ => am_aload_n d_Lexer_skipBlanks_33 rfl rfl) ?_
        refine xW_pure (fun _ _ _ _ _ => am_dup d_Lexer_skipBlanks_34 rfl) ?_
        refine xW_gI O f_Lexer_46 d_Lexer_skipBlanks_35 (fun v6 _ => ?_)
        refine xW_pure (fun _ _ _ _ _ => am_iconst (v := 1) d_Lexer_skipBlanks_38 (by decide)) ?_
        refine xW_pure (fun _ _ _ _ _ => am_iadd d_Lexer_skipBlanks_39) ?_
        refine xW_put O f_Lexer_46 d_Lexer_skipBlanks_40 (fun q hq => by cases hq; exact ⟨rfl, rfl, rfl⟩) (fun s7 _ => ?_)
        refine xW_pure (fun _ _ _ _ _ => am_goto (tgt := 0) d_Lexer_skipBlanks_43 (by decide)) ?_
        refine xW_locs (lv' := [(0, .ref x0)]) rfl ?_
        exact ih0 s7
      · refine xW_pure (fun _ _ _ _ _ => am_iload_n d_Lexer_skipBlanks_26 rfl rfl) ?_
        refine xW_pure (fun _ _ _ _ _ => am_bipush (v := 10) d_Lexer_skipBlanks_27 (by decide)) ?_
        refine xW_ite (fun _ _ _ _ _ => am_icmp_eq (tgt := 33) d_Lexer_skipBlanks_29 (by decide)) (fun _ => ?_) (fun _ => ?_)
        · refine xW_pure (fun _ _ _ _ _ => am_aload_n d_Lexer_skipBlanks_33 rfl rfl) ?_
          refine xW_pure (fun _ _ _ _ _ => am_dup d_Lexer_skipBlanks_34 rfl) ?_
          refine xW_gI O f_Lexer_46 d_Lexer_skipBlanks_35 (fun v8 _ => ?_)
          refine xW_pure (fun _ _ _ _ _ => am_iconst (v := 1) d_Lexer_skipBlanks_38 (by decide)) ?_
          refine xW_pure (fun _ _ _ _ _ => am_iadd d_Lexer_skipBlanks_39) ?_
          refine xW_put O f_Lexer_46 d_Lexer_skipBlanks_40 (fun q hq => by cases hq; exact ⟨rfl, rfl, rfl⟩) (fun s9 _ => ?_)
          refine xW_pure (fun _ _ _ _ _ => am_goto (tgt := 0) d_Lexer_skipBlanks_43 (by decide)) ?_
          refine xW_locs (lv' := [(0, .ref x0)]) rfl ?_
          exact ih0 s9
        · exact xW_ret (fun _ _ _ _ _ => am_vret rfl d_Lexer_skipBlanks_32)

theorem ob_Lexer_skipBlanks {d : Nat} {x0 : Nat} {s : HS} {y : Unit × HS} (h : x_Lexer_skipBlanks d x0 s = some y) : isO s x0 1 = true := by
  cases d with
  | zero => cases h
  | succ d => exact (gd_spec h).1

set_option maxRecDepth 100000 in
def x_Lexer_scanName_b80 (d : Nat) (l0 : Nat) (l1 : Int32) (s : HS) : Option (Unit × HS) := if l1 ≤ 8 then ((gL s l0 1 8).bind fun v4 => (bnd (x_Lexer_wordKind d l0 v4 s) fun v6 s5 => ((pV s5 l0 1 5 (.int v6)).bind fun s7 => (some ((), s7))))) else ((pV s l0 1 5 (.int 1)).bind fun s8 => (some ((), s8)))

set_option maxRecDepth 100000 in
set_option maxHeartbeats 4000000 in
theorem dx_Lexer_scanName_b80 (O : am_ok K X) (T : am_T K) {d : Nat} {l0 : Nat} {l1 : Int32} {s : HS} : xW cvU K X m_Lexer_scanName (d + 1) 80 [(0, .ref l0), (1, .int l1)] [] s (x_Lexer_scanName_b80 d l0 l1 s) := by
  unfold x_Lexer_scanName_b80
  refine xW_pure (fun _ _ _ _ _ => am_aload_n d_Lexer_scanName_80 rfl rfl) ?_
  refine xW_pure (fun _ _ _ _ _ => am_iload_n d_Lexer_scanName_81 rfl rfl) ?_
  refine xW_pure (fun _ _ _ _ _ => am_bipush (v := 8) d_Lexer_scanName_82 (by decide)) ?_
  refine xW_ite (fun _ _ _ _ _ => am_icmp_le (tgt := 91) d_Lexer_scanName_84 (by decide)) (fun _ => ?_) (fun _ => ?_)
  · refine xW_pure (fun _ _ _ _ _ => am_aload_n d_Lexer_scanName_91 rfl rfl) ?_
    refine xW_pure (fun _ _ _ _ _ => am_aload_n d_Lexer_scanName_92 rfl rfl) ?_
    refine xW_gL O f_Lexer_91 d_Lexer_scanName_93 (fun v4 _ => ?_)
    refine xW_callV O (dx_Lexer_wordKind O T) (fun _ e => ob_Lexer_wordKind e) rfl rfl rfl l_Lexer_98 ⟨w_577, w_4⟩ rfl (Nat.le_of_ble_eq_true rfl) d_Lexer_scanName_96 (fun v6 s5 _ => ?_)
    refine xW_put O f_Lexer_65 d_Lexer_scanName_99 (fun q hq => by cases hq; exact ⟨rfl, rfl, rfl⟩) (fun s7 _ => ?_)
    exact xW_ret (fun _ _ _ _ _ => am_vret rfl d_Lexer_scanName_102)
  · refine xW_pure (fun _ _ _ _ _ => am_iconst (v := 1) d_Lexer_scanName_87 (by decide)) ?_
    refine xW_pure (fun _ _ _ _ _ => am_goto (tgt := 99) d_Lexer_scanName_88 (by decide)) ?_
    refine xW_put O f_Lexer_65 d_Lexer_scanName_99 (fun q hq => by cases hq; exact ⟨rfl, rfl, rfl⟩) (fun s8 _ => ?_)
    exact xW_ret (fun _ _ _ _ _ => am_vret rfl d_Lexer_scanName_102)

set_option maxRecDepth 100000 in
def x_Lexer_scanName (d : Nat) (x0 : Nat) (s : HS) : Option (Unit × HS) := match d with
  | 0 => none
  | d + 1 => gd s x0 1 ((pV s x0 1 8 (.long 0)).bind fun s1 => (loopK (fun (again7 : Int32 × HS → Option (Unit × HS)) (z7 : Int32 × HS) => ((gI z7.2 x0 1 3).bind fun v2 => ((gI z7.2 x0 1 2).bind fun v3 => (if v3 ≤ v2 then (x_Lexer_scanName_b80 d x0 z7.1 z7.2) else ((gI z7.2 x0 1 3).bind fun v9 => (bnd (x_Lexer_byteAt d x0 v9 z7.2) fun v11 s10 => (bnd (x_Lexer_isLetter d v11 s10) fun v13 s12 => (if v13 = 0 then (bnd (x_Lexer_isDigit d v11 s12) fun v15 s14 => (if v15 = 0 then (x_Lexer_scanName_b80 d x0 z7.1 s14) else (if 8 ≤ z7.1 then ((gI s14 x0 1 3).bind fun v16 => ((pV s14 x0 1 3 (.int (v16 + 1))).bind fun s17 => (again7 ((z7.1 + 1), s17)))) else ((gL s14 x0 1 8).bind fun v18 => (bnd (x_Cell_placed d v11 z7.1 s14) fun v20 s19 => ((pV s19 x0 1 8 (.long (v18 ||| v20))).bind fun s21 => ((gI s21 x0 1 3).bind fun v22 => ((pV s21 x0 1 3 (.int (v22 + 1))).bind fun s23 => (again7 ((z7.1 + 1), s23)))))))))) else (if 8 ≤ z7.1 then ((gI s12 x0 1 3).bind fun v24 => ((pV s12 x0 1 3 (.int (v24 + 1))).bind fun s25 => (again7 ((z7.1 + 1), s25)))) else ((gL s12 x0 1 8).bind fun v26 => (bnd (x_Cell_placed d v11 z7.1 s12) fun v28 s27 => ((pV s27 x0 1 8 (.long (v26 ||| v28))).bind fun s29 => ((gI s29 x0 1 3).bind fun v30 => ((pV s29 x0 1 3 (.int (v30 + 1))).bind fun s31 => (again7 ((z7.1 + 1), s31)))))))))))))))) FU (0, s1)))

set_option maxRecDepth 100000 in
set_option maxHeartbeats 4000000 in
theorem dx_Lexer_scanName (O : am_ok K X) (T : am_T K) {d : Nat} {x0 : Nat} {s : HS} : xM cvU K X m_Lexer_scanName d [.ref x0] s (x_Lexer_scanName d x0 s) := by
  cases d with
  | zero => exact xM_none
  | succ d =>
    unfold x_Lexer_scanName
    refine xM_enter (by decide +kernel) (Nat.le_of_ble_eq_true rfl) ?_
    refine xW_gd (fun _ => ?_)
    refine xW_pure (fun _ _ _ _ _ => am_iconst (v := 0) d_Lexer_scanName_0 (by decide)) ?_
    refine xW_pure (fun _ _ _ _ _ => am_istore_n d_Lexer_scanName_1 rfl (Nat.le_of_ble_eq_true rfl)) ?_
    refine xW_pure (fun _ _ _ _ _ => am_aload_n d_Lexer_scanName_2 rfl rfl) ?_
    refine xW_pure (fun _ _ _ _ _ => am_lconst (v := 0) d_Lexer_scanName_3 (by decide)) ?_
    refine xW_put O f_Lexer_91 d_Lexer_scanName_4 (fun q hq => by cases hq; exact ⟨rfl, rfl, rfl⟩) (fun s1 _ => ?_)
    refine xW_locs (lv' := [(0, .ref x0), (1, .int 0)]) rfl ?_
    refine xW_loop (lvf := fun (z7 : Int32 × HS) => [(0, .ref x0), (1, .int z7.1)]) (hsf := fun (z7 : Int32 × HS) => z7.2) (fun again7 ih7 z7 => ?_) FU (0, s1)
    refine xW_pure (fun _ _ _ _ _ => am_aload_n d_Lexer_scanName_7 rfl rfl) ?_
    refine xW_gI O f_Lexer_46 d_Lexer_scanName_8 (fun v2 _ => ?_)
    refine xW_pure (fun _ _ _ _ _ => am_aload_n d_Lexer_scanName_11 rfl rfl) ?_
    refine xW_gI O f_Lexer_43 d_Lexer_scanName_12 (fun v3 _ => ?_)
    refine xW_ite (fun _ _ _ _ _ => am_icmp_ge (tgt := 80) d_Lexer_scanName_15 (by decide)) (fun _ => ?_) (fun _ => ?_)
    · refine xW_locs (lv' := [(0, .ref x0), (1, .int z7.1)]) rfl ?_
      exact dx_Lexer_scanName_b80 O T
    · refine xW_pure (fun _ _ _ _ _ => am_aload_n d_Lexer_scanName_18 rfl rfl) ?_
      refine xW_pure (fun _ _ _ _ _ => am_aload_n d_Lexer_scanName_19 rfl rfl) ?_
      refine xW_gI O f_Lexer_46 d_Lexer_scanName_20 (fun v9 _ => ?_)
      refine xW_callV O (dx_Lexer_byteAt O T) (fun _ e => ob_Lexer_byteAt e) rfl rfl rfl l_Lexer_61 ⟨w_563, w_2⟩ rfl (Nat.le_of_ble_eq_true rfl) d_Lexer_scanName_23 (fun v11 s10 _ => ?_)
      refine xW_pure (fun _ _ _ _ _ => am_istore_n d_Lexer_scanName_26 rfl (Nat.le_of_ble_eq_true rfl)) ?_
      refine xW_pure (fun _ _ _ _ _ => am_iload_n d_Lexer_scanName_27 rfl rfl) ?_
      refine xW_callS O (dx_Lexer_isLetter O T) rfl l_Lexer_68 w_566 rfl (Nat.le_of_ble_eq_true rfl) d_Lexer_scanName_28 (fun v13 s12 _ => ?_)
      refine xW_ite (fun _ _ _ _ _ k1 k2 => am_if_ne (tgt := 44) d_Lexer_scanName_31 (by decide) k2 k1) (fun _ => ?_) (fun _ => ?_)
      · refine xW_pure (fun _ _ _ _ _ => am_iload_n d_Lexer_scanName_34 rfl rfl) ?_
        refine xW_callS O (dx_Lexer_isDigit O T) rfl l_Lexer_75 w_573 rfl (Nat.le_of_ble_eq_true rfl) d_Lexer_scanName_35 (fun v15 s14 _ => ?_)
        refine xW_ite (fun _ _ _ _ _ k1 k2 => am_if_ne (tgt := 44) d_Lexer_scanName_38 (by decide) k2 k1) (fun _ => ?_) (fun _ => ?_)
        · refine xW_pure (fun _ _ _ _ _ => am_goto (tgt := 80) d_Lexer_scanName_41 (by decide)) ?_
          refine xW_locs (lv' := [(0, .ref x0), (1, .int z7.1)]) rfl ?_
          exact dx_Lexer_scanName_b80 O T
        · refine xW_pure (fun _ _ _ _ _ => am_iload_n d_Lexer_scanName_44 rfl rfl) ?_
          refine xW_pure (fun _ _ _ _ _ => am_bipush (v := 8) d_Lexer_scanName_45 (by decide)) ?_
          refine xW_ite (fun _ _ _ _ _ => am_icmp_ge (tgt := 64) d_Lexer_scanName_47 (by decide)) (fun _ => ?_) (fun _ => ?_)
          · refine xW_pure (fun _ _ _ _ _ => am_iinc (v := 1) d_Lexer_scanName_64 rfl (by decide) (Nat.le_of_ble_eq_true rfl)) ?_
            refine xW_pure (fun _ _ _ _ _ => am_aload_n d_Lexer_scanName_67 rfl rfl) ?_
            refine xW_pure (fun _ _ _ _ _ => am_dup d_Lexer_scanName_68 rfl) ?_
            refine xW_gI O f_Lexer_46 d_Lexer_scanName_69 (fun v16 _ => ?_)
            refine xW_pure (fun _ _ _ _ _ => am_iconst (v := 1) d_Lexer_scanName_72 (by decide)) ?_
            refine xW_pure (fun _ _ _ _ _ => am_iadd d_Lexer_scanName_73) ?_
            refine xW_put O f_Lexer_46 d_Lexer_scanName_74 (fun q hq => by cases hq; exact ⟨rfl, rfl, rfl⟩) (fun s17 _ => ?_)
            refine xW_pure (fun _ _ _ _ _ => am_goto (tgt := 7) d_Lexer_scanName_77 (by decide)) ?_
            refine xW_locs (lv' := [(0, .ref x0), (1, .int (z7.1 + 1))]) rfl ?_
            exact ih7 ((z7.1 + 1), s17)
          · refine xW_pure (fun _ _ _ _ _ => am_aload_n d_Lexer_scanName_50 rfl rfl) ?_
            refine xW_pure (fun _ _ _ _ _ => am_dup d_Lexer_scanName_51 rfl) ?_
            refine xW_gL O f_Lexer_91 d_Lexer_scanName_52 (fun v18 _ => ?_)
            refine xW_pure (fun _ _ _ _ _ => am_iload_n d_Lexer_scanName_55 rfl rfl) ?_
            refine xW_pure (fun _ _ _ _ _ => am_iload_n d_Lexer_scanName_56 rfl rfl) ?_
            refine xW_callS O (dx_Cell_placed O T) rfl l_Lexer_31 w_258 rfl (Nat.le_of_ble_eq_true rfl) d_Lexer_scanName_57 (fun v20 s19 _ => ?_)
            refine xW_pure (fun _ _ _ _ _ => am_lor d_Lexer_scanName_60) ?_
            refine xW_put O f_Lexer_91 d_Lexer_scanName_61 (fun q hq => by cases hq; exact ⟨rfl, rfl, rfl⟩) (fun s21 _ => ?_)
            refine xW_pure (fun _ _ _ _ _ => am_iinc (v := 1) d_Lexer_scanName_64 rfl (by decide) (Nat.le_of_ble_eq_true rfl)) ?_
            refine xW_pure (fun _ _ _ _ _ => am_aload_n d_Lexer_scanName_67 rfl rfl) ?_
            refine xW_pure (fun _ _ _ _ _ => am_dup d_Lexer_scanName_68 rfl) ?_
            refine xW_gI O f_Lexer_46 d_Lexer_scanName_69 (fun v22 _ => ?_)
            refine xW_pure (fun _ _ _ _ _ => am_iconst (v := 1) d_Lexer_scanName_72 (by decide)) ?_
            refine xW_pure (fun _ _ _ _ _ => am_iadd d_Lexer_scanName_73) ?_
            refine xW_put O f_Lexer_46 d_Lexer_scanName_74 (fun q hq => by cases hq; exact ⟨rfl, rfl, rfl⟩) (fun s23 _ => ?_)
            refine xW_pure (fun _ _ _ _ _ => am_goto (tgt := 7) d_Lexer_scanName_77 (by decide)) ?_
            refine xW_locs (lv' := [(0, .ref x0), (1, .int (z7.1 + 1))]) rfl ?_
            exact ih7 ((z7.1 + 1), s23)
      · refine xW_pure (fun _ _ _ _ _ => am_iload_n d_Lexer_scanName_44 rfl rfl) ?_
        refine xW_pure (fun _ _ _ _ _ => am_bipush (v := 8) d_Lexer_scanName_45 (by decide)) ?_
        refine xW_ite (fun _ _ _ _ _ => am_icmp_ge (tgt := 64) d_Lexer_scanName_47 (by decide)) (fun _ => ?_) (fun _ => ?_)
        · refine xW_pure (fun _ _ _ _ _ => am_iinc (v := 1) d_Lexer_scanName_64 rfl (by decide) (Nat.le_of_ble_eq_true rfl)) ?_
          refine xW_pure (fun _ _ _ _ _ => am_aload_n d_Lexer_scanName_67 rfl rfl) ?_
          refine xW_pure (fun _ _ _ _ _ => am_dup d_Lexer_scanName_68 rfl) ?_
          refine xW_gI O f_Lexer_46 d_Lexer_scanName_69 (fun v24 _ => ?_)
          refine xW_pure (fun _ _ _ _ _ => am_iconst (v := 1) d_Lexer_scanName_72 (by decide)) ?_
          refine xW_pure (fun _ _ _ _ _ => am_iadd d_Lexer_scanName_73) ?_
          refine xW_put O f_Lexer_46 d_Lexer_scanName_74 (fun q hq => by cases hq; exact ⟨rfl, rfl, rfl⟩) (fun s25 _ => ?_)
          refine xW_pure (fun _ _ _ _ _ => am_goto (tgt := 7) d_Lexer_scanName_77 (by decide)) ?_
          refine xW_locs (lv' := [(0, .ref x0), (1, .int (z7.1 + 1))]) rfl ?_
          exact ih7 ((z7.1 + 1), s25)
        · refine xW_pure (fun _ _ _ _ _ => am_aload_n d_Lexer_scanName_50 rfl rfl) ?_
          refine xW_pure (fun _ _ _ _ _ => am_dup d_Lexer_scanName_51 rfl) ?_
          refine xW_gL O f_Lexer_91 d_Lexer_scanName_52 (fun v26 _ => ?_)
          refine xW_pure (fun _ _ _ _ _ => am_iload_n d_Lexer_scanName_55 rfl rfl) ?_
          refine xW_pure (fun _ _ _ _ _ => am_iload_n d_Lexer_scanName_56 rfl rfl) ?_
          refine xW_callS O (dx_Cell_placed O T) rfl l_Lexer_31 w_258 rfl (Nat.le_of_ble_eq_true rfl) d_Lexer_scanName_57 (fun v28 s27 _ => ?_)
          refine xW_pure (fun _ _ _ _ _ => am_lor d_Lexer_scanName_60) ?_
          refine xW_put O f_Lexer_91 d_Lexer_scanName_61 (fun q hq => by cases hq; exact ⟨rfl, rfl, rfl⟩) (fun s29 _ => ?_)
          refine xW_pure (fun _ _ _ _ _ => am_iinc (v := 1) d_Lexer_scanName_64 rfl (by decide) (Nat.le_of_ble_eq_true rfl)) ?_
          refine xW_pure (fun _ _ _ _ _ => am_aload_n d_Lexer_scanName_67 rfl rfl) ?_
          refine xW_pure (fun _ _ _ _ _ => am_dup d_Lexer_scanName_68 rfl) ?_
          refine xW_gI O f_Lexer_46 d_Lexer_scanName_69 (fun v30 _ => ?_)
          refine xW_pure (fun _ _ _ _ _ => am_iconst (v := 1) d_Lexer_scanName_72 (by decide)) ?_
          refine xW_pure (fun _ _ _ _ _ => am_iadd d_Lexer_scanName_73) ?_
          refine xW_put O f_Lexer_46 d_Lexer_scanName_74 (fun q hq => by cases hq; exact ⟨rfl, rfl, rfl⟩) (fun s31 _ => ?_)
          refine xW_pure (fun _ _ _ _ _ => am_goto (tgt := 7) d_Lexer_scanName_77 (by decide)) ?_
          refine xW_locs (lv' := [(0, .ref x0), (1, .int (z7.1 + 1))]) rfl ?_
          exact ih7 ((z7.1 + 1), s31)

theorem ob_Lexer_scanName {d : Nat} {x0 : Nat} {s : HS} {y : Unit × HS} (h : x_Lexer_scanName d x0 s = some y) : isO s x0 1 = true := by
  cases d with
  | zero => cases h
  | succ d => exact (gd_spec h).1

set_option maxRecDepth 100000 in
def x_Lexer_scanText_b147 (d : Nat) (l0 : Nat) (t0 : Nat) (s : HS) : Option (Unit × HS) := (pV s t0 1 5 (.int 1)).bind fun s12 => ((gI s12 l0 1 3).bind fun v13 => ((pV s12 l0 1 3 (.int (v13 + 1))).bind fun s14 => (some ((), s14))))

set_option maxRecDepth 100000 in
set_option maxHeartbeats 4000000 in
theorem dx_Lexer_scanText_b147 (O : am_ok K X) (T : am_T K) {d : Nat} {l0 : Nat} {t0 : Nat} {s : HS} : xW cvU K X m_Lexer_scanText (d + 1) 147 [(0, .ref l0)] [.ref t0] s (x_Lexer_scanText_b147 d l0 t0 s) := by
  unfold x_Lexer_scanText_b147
  refine xW_pure (fun _ _ _ _ _ => am_iconst (v := 1) d_Lexer_scanText_147 (by decide)) ?_
  refine xW_put O f_Lexer_65 d_Lexer_scanText_148 (fun q hq => by cases hq; exact ⟨rfl, rfl, rfl⟩) (fun s12 _ => ?_)
  refine xW_pure (fun _ _ _ _ _ => am_aload_n d_Lexer_scanText_151 rfl rfl) ?_
  refine xW_pure (fun _ _ _ _ _ => am_dup d_Lexer_scanText_152 rfl) ?_
  refine xW_gI O f_Lexer_46 d_Lexer_scanText_153 (fun v13 _ => ?_)
  refine xW_pure (fun _ _ _ _ _ => am_iconst (v := 1) d_Lexer_scanText_156 (by decide)) ?_
  refine xW_pure (fun _ _ _ _ _ => am_iadd d_Lexer_scanText_157) ?_
  refine xW_put O f_Lexer_46 d_Lexer_scanText_158 (fun q hq => by cases hq; exact ⟨rfl, rfl, rfl⟩) (fun s14 _ => ?_)
  exact xW_ret (fun _ _ _ _ _ => am_vret rfl d_Lexer_scanText_161)

set_option maxRecDepth 100000 in
def x_Lexer_scanText_b123 (d : Nat) (l0 : Nat) (l1 : Int32) (s : HS) : Option (Unit × HS) := (gI s l0 1 3).bind fun v9 => (bnd (x_Lexer_byteAt d l0 v9 s) fun v11 s10 => (if v11 = 34 then (if 16 < l1 then (x_Lexer_scanText_b147 d l0 l0 s10) else ((pV s10 l0 1 5 (.int 4)).bind fun s15 => ((gI s15 l0 1 3).bind fun v16 => ((pV s15 l0 1 3 (.int (v16 + 1))).bind fun s17 => (some ((), s17)))))) else (x_Lexer_scanText_b147 d l0 l0 s10)))

set_option maxRecDepth 100000 in
set_option maxHeartbeats 4000000 in
theorem dx_Lexer_scanText_b123 (O : am_ok K X) (T : am_T K) {d : Nat} {l0 : Nat} {l1 : Int32} {s : HS} : xW cvU K X m_Lexer_scanText (d + 1) 123 [(0, .ref l0), (1, .int l1)] [] s (x_Lexer_scanText_b123 d l0 l1 s) := by
  unfold x_Lexer_scanText_b123
  refine xW_pure (fun _ _ _ _ _ => am_aload_n d_Lexer_scanText_123 rfl rfl) ?_
  refine xW_pure (fun _ _ _ _ _ => am_aload_n d_Lexer_scanText_124 rfl rfl) ?_
  refine xW_pure (fun _ _ _ _ _ => am_aload_n d_Lexer_scanText_125 rfl rfl) ?_
  refine xW_gI O f_Lexer_46 d_Lexer_scanText_126 (fun v9 _ => ?_)
  refine xW_callV O (dx_Lexer_byteAt O T) (fun _ e => ob_Lexer_byteAt e) rfl rfl rfl l_Lexer_61 ⟨w_563, w_2⟩ rfl (Nat.le_of_ble_eq_true rfl) d_Lexer_scanText_129 (fun v11 s10 _ => ?_)
  refine xW_pure (fun _ _ _ _ _ => am_bipush (v := 34) d_Lexer_scanText_132 (by decide)) ?_
  refine xW_ite (fun _ _ _ _ _ k1 k2 => am_icmp_ne (tgt := 147) d_Lexer_scanText_134 (by decide) k2 k1) (fun _ => ?_) (fun _ => ?_)
  · refine xW_pure (fun _ _ _ _ _ => am_iload_n d_Lexer_scanText_137 rfl rfl) ?_
    refine xW_pure (fun _ _ _ _ _ => am_bipush (v := 16) d_Lexer_scanText_138 (by decide)) ?_
    refine xW_ite (fun _ _ _ _ _ => am_icmp_gt (tgt := 147) d_Lexer_scanText_140 (by decide)) (fun _ => ?_) (fun _ => ?_)
    · refine xW_locs (lv' := [(0, .ref l0)]) rfl ?_
      exact dx_Lexer_scanText_b147 O T
    · refine xW_pure (fun _ _ _ _ _ => am_iconst (v := 4) d_Lexer_scanText_143 (by decide)) ?_
      refine xW_pure (fun _ _ _ _ _ => am_goto (tgt := 148) d_Lexer_scanText_144 (by decide)) ?_
      refine xW_put O f_Lexer_65 d_Lexer_scanText_148 (fun q hq => by cases hq; exact ⟨rfl, rfl, rfl⟩) (fun s15 _ => ?_)
      refine xW_pure (fun _ _ _ _ _ => am_aload_n d_Lexer_scanText_151 rfl rfl) ?_
      refine xW_pure (fun _ _ _ _ _ => am_dup d_Lexer_scanText_152 rfl) ?_
      refine xW_gI O f_Lexer_46 d_Lexer_scanText_153 (fun v16 _ => ?_)
      refine xW_pure (fun _ _ _ _ _ => am_iconst (v := 1) d_Lexer_scanText_156 (by decide)) ?_
      refine xW_pure (fun _ _ _ _ _ => am_iadd d_Lexer_scanText_157) ?_
      refine xW_put O f_Lexer_46 d_Lexer_scanText_158 (fun q hq => by cases hq; exact ⟨rfl, rfl, rfl⟩) (fun s17 _ => ?_)
      exact xW_ret (fun _ _ _ _ _ => am_vret rfl d_Lexer_scanText_161)
  · refine xW_locs (lv' := [(0, .ref l0)]) rfl ?_
    exact dx_Lexer_scanText_b147 O T

set_option maxRecDepth 100000 in
def x_Lexer_scanText (d : Nat) (x0 : Nat) (s : HS) : Option (Unit × HS) := match d with
  | 0 => none
  | d + 1 => gd s x0 1 (bnd (x_Cell_headOf d 2 s) fun v2 s1 => ((pV s1 x0 1 8 (.long v2)).bind fun s3 => ((pV s3 x0 1 9 (.long 0)).bind fun s4 => ((gI s4 x0 1 3).bind fun v5 => ((pV s4 x0 1 3 (.int (v5 + 1))).bind fun s6 => (loopK (fun (again25 : Int32 × HS → Option (Unit × HS)) (z25 : Int32 × HS) => ((gI z25.2 x0 1 3).bind fun v7 => ((gI z25.2 x0 1 2).bind fun v8 => (if v8 ≤ v7 then (x_Lexer_scanText_b123 d x0 z25.1 z25.2) else ((gI z25.2 x0 1 3).bind fun v18 => (bnd (x_Lexer_byteAt d x0 v18 z25.2) fun v20 s19 => (bnd (x_Lexer_isTextSign d v20 s19) fun v22 s21 => (if v22 = 0 then (x_Lexer_scanText_b123 d x0 z25.1 s21) else (if 8 ≤ z25.1 then (if 16 ≤ z25.1 then ((gI s21 x0 1 3).bind fun v23 => ((pV s21 x0 1 3 (.int (v23 + 1))).bind fun s24 => (again25 ((z25.1 + 1), s24)))) else ((gL s21 x0 1 9).bind fun v25 => ((gI s21 x0 1 3).bind fun v26 => (bnd (x_Lexer_byteAt d x0 v26 s21) fun v28 s27 => (bnd (x_Cell_placed d v28 z25.1 s27) fun v30 s29 => ((pV s29 x0 1 9 (.long (v25 ||| v30))).bind fun s31 => ((gI s31 x0 1 3).bind fun v32 => ((pV s31 x0 1 3 (.int (v32 + 1))).bind fun s33 => (again25 ((z25.1 + 1), s33)))))))))) else ((gL s21 x0 1 8).bind fun v34 => ((gI s21 x0 1 3).bind fun v35 => (bnd (x_Lexer_byteAt d x0 v35 s21) fun v37 s36 => (bnd (x_Cell_placed d v37 z25.1 s36) fun v39 s38 => ((pV s38 x0 1 8 (.long (v34 ||| v39))).bind fun s40 => ((gI s40 x0 1 3).bind fun v41 => ((pV s40 x0 1 3 (.int (v41 + 1))).bind fun s42 => (again25 ((z25.1 + 1), s42)))))))))))))))))) FU (0, s6)))))))

set_option maxRecDepth 100000 in
set_option maxHeartbeats 4000000 in
theorem dx_Lexer_scanText (O : am_ok K X) (T : am_T K) {d : Nat} {x0 : Nat} {s : HS} : xM cvU K X m_Lexer_scanText d [.ref x0] s (x_Lexer_scanText d x0 s) := by
  cases d with
  | zero => exact xM_none
  | succ d =>
    unfold x_Lexer_scanText
    refine xM_enter (by decide +kernel) (Nat.le_of_ble_eq_true rfl) ?_
    refine xW_gd (fun _ => ?_)
    refine xW_pure (fun _ _ _ _ _ => am_iconst (v := 0) d_Lexer_scanText_0 (by decide)) ?_
    refine xW_pure (fun _ _ _ _ _ => am_istore_n d_Lexer_scanText_1 rfl (Nat.le_of_ble_eq_true rfl)) ?_
    refine xW_pure (fun _ _ _ _ _ => am_aload_n d_Lexer_scanText_2 rfl rfl) ?_
    refine xW_pure (fun _ _ _ _ _ => am_iconst (v := 2) d_Lexer_scanText_3 (by decide)) ?_
    refine xW_callS O (dx_Cell_headOf O T) rfl l_Lexer_111 w_594 rfl (Nat.le_of_ble_eq_true rfl) d_Lexer_scanText_4 (fun v2 s1 _ => ?_)
    refine xW_put O f_Lexer_91 d_Lexer_scanText_7 (fun q hq => by cases hq; exact ⟨rfl, rfl, rfl⟩) (fun s3 _ => ?_)
    refine xW_pure (fun _ _ _ _ _ => am_aload_n d_Lexer_scanText_10 rfl rfl) ?_
    refine xW_pure (fun _ _ _ _ _ => am_lconst (v := 0) d_Lexer_scanText_11 (by decide)) ?_
    refine xW_put O f_Lexer_95 d_Lexer_scanText_12 (fun q hq => by cases hq; exact ⟨rfl, rfl, rfl⟩) (fun s4 _ => ?_)
    refine xW_pure (fun _ _ _ _ _ => am_aload_n d_Lexer_scanText_15 rfl rfl) ?_
    refine xW_pure (fun _ _ _ _ _ => am_dup d_Lexer_scanText_16 rfl) ?_
    refine xW_gI O f_Lexer_46 d_Lexer_scanText_17 (fun v5 _ => ?_)
    refine xW_pure (fun _ _ _ _ _ => am_iconst (v := 1) d_Lexer_scanText_20 (by decide)) ?_
    refine xW_pure (fun _ _ _ _ _ => am_iadd d_Lexer_scanText_21) ?_
    refine xW_put O f_Lexer_46 d_Lexer_scanText_22 (fun q hq => by cases hq; exact ⟨rfl, rfl, rfl⟩) (fun s6 _ => ?_)
    refine xW_locs (lv' := [(0, .ref x0), (1, .int 0)]) rfl ?_
    refine xW_loop (lvf := fun (z25 : Int32 × HS) => [(0, .ref x0), (1, .int z25.1)]) (hsf := fun (z25 : Int32 × HS) => z25.2) (fun again25 ih25 z25 => ?_) FU (0, s6)
    refine xW_pure (fun _ _ _ _ _ => am_aload_n d_Lexer_scanText_25 rfl rfl) ?_
    refine xW_gI O f_Lexer_46 d_Lexer_scanText_26 (fun v7 _ => ?_)
    refine xW_pure (fun _ _ _ _ _ => am_aload_n d_Lexer_scanText_29 rfl rfl) ?_
    refine xW_gI O f_Lexer_43 d_Lexer_scanText_30 (fun v8 _ => ?_)
    refine xW_ite (fun _ _ _ _ _ => am_icmp_ge (tgt := 123) d_Lexer_scanText_33 (by decide)) (fun _ => ?_) (fun _ => ?_)
    · refine xW_locs (lv' := [(0, .ref x0), (1, .int z25.1)]) rfl ?_
      exact dx_Lexer_scanText_b123 O T
    · refine xW_pure (fun _ _ _ _ _ => am_aload_n d_Lexer_scanText_36 rfl rfl) ?_
      refine xW_pure (fun _ _ _ _ _ => am_aload_n d_Lexer_scanText_37 rfl rfl) ?_
      refine xW_gI O f_Lexer_46 d_Lexer_scanText_38 (fun v18 _ => ?_)
      refine xW_callV O (dx_Lexer_byteAt O T) (fun _ e => ob_Lexer_byteAt e) rfl rfl rfl l_Lexer_61 ⟨w_563, w_2⟩ rfl (Nat.le_of_ble_eq_true rfl) d_Lexer_scanText_41 (fun v20 s19 _ => ?_)
      refine xW_callS O (dx_Lexer_isTextSign O T) rfl l_Lexer_115 w_597 rfl (Nat.le_of_ble_eq_true rfl) d_Lexer_scanText_44 (fun v22 s21 _ => ?_)
      refine xW_ite (fun _ _ _ _ _ => am_if_eq (tgt := 123) d_Lexer_scanText_47 (by decide)) (fun _ => ?_) (fun _ => ?_)
      · refine xW_locs (lv' := [(0, .ref x0), (1, .int z25.1)]) rfl ?_
        exact dx_Lexer_scanText_b123 O T
      · refine xW_pure (fun _ _ _ _ _ => am_iload_n d_Lexer_scanText_50 rfl rfl) ?_
        refine xW_pure (fun _ _ _ _ _ => am_bipush (v := 8) d_Lexer_scanText_51 (by decide)) ?_
        refine xW_ite (fun _ _ _ _ _ => am_icmp_ge (tgt := 80) d_Lexer_scanText_53 (by decide)) (fun _ => ?_) (fun _ => ?_)
        · refine xW_pure (fun _ _ _ _ _ => am_iload_n d_Lexer_scanText_80 rfl rfl) ?_
          refine xW_pure (fun _ _ _ _ _ => am_bipush (v := 16) d_Lexer_scanText_81 (by decide)) ?_
          refine xW_ite (fun _ _ _ _ _ => am_icmp_ge (tgt := 107) d_Lexer_scanText_83 (by decide)) (fun _ => ?_) (fun _ => ?_)
          · refine xW_pure (fun _ _ _ _ _ => am_iinc (v := 1) d_Lexer_scanText_107 rfl (by decide) (Nat.le_of_ble_eq_true rfl)) ?_
            refine xW_pure (fun _ _ _ _ _ => am_aload_n d_Lexer_scanText_110 rfl rfl) ?_
            refine xW_pure (fun _ _ _ _ _ => am_dup d_Lexer_scanText_111 rfl) ?_
            refine xW_gI O f_Lexer_46 d_Lexer_scanText_112 (fun v23 _ => ?_)
            refine xW_pure (fun _ _ _ _ _ => am_iconst (v := 1) d_Lexer_scanText_115 (by decide)) ?_
            refine xW_pure (fun _ _ _ _ _ => am_iadd d_Lexer_scanText_116) ?_
            refine xW_put O f_Lexer_46 d_Lexer_scanText_117 (fun q hq => by cases hq; exact ⟨rfl, rfl, rfl⟩) (fun s24 _ => ?_)
            refine xW_pure (fun _ _ _ _ _ => am_goto (tgt := 25) d_Lexer_scanText_120 (by decide)) ?_
            refine xW_locs (lv' := [(0, .ref x0), (1, .int (z25.1 + 1))]) rfl ?_
            exact ih25 ((z25.1 + 1), s24)
          · refine xW_pure (fun _ _ _ _ _ => am_aload_n d_Lexer_scanText_86 rfl rfl) ?_
            refine xW_pure (fun _ _ _ _ _ => am_dup d_Lexer_scanText_87 rfl) ?_
            refine xW_gL O f_Lexer_95 d_Lexer_scanText_88 (fun v25 _ => ?_)
            refine xW_pure (fun _ _ _ _ _ => am_aload_n d_Lexer_scanText_91 rfl rfl) ?_
            refine xW_pure (fun _ _ _ _ _ => am_aload_n d_Lexer_scanText_92 rfl rfl) ?_
            refine xW_gI O f_Lexer_46 d_Lexer_scanText_93 (fun v26 _ => ?_)
            refine xW_callV O (dx_Lexer_byteAt O T) (fun _ e => ob_Lexer_byteAt e) rfl rfl rfl l_Lexer_61 ⟨w_563, w_2⟩ rfl (Nat.le_of_ble_eq_true rfl) d_Lexer_scanText_96 (fun v28 s27 _ => ?_)
            refine xW_pure (fun _ _ _ _ _ => am_iload_n d_Lexer_scanText_99 rfl rfl) ?_
            refine xW_callS O (dx_Cell_placed O T) rfl l_Lexer_31 w_258 rfl (Nat.le_of_ble_eq_true rfl) d_Lexer_scanText_100 (fun v30 s29 _ => ?_)
            refine xW_pure (fun _ _ _ _ _ => am_lor d_Lexer_scanText_103) ?_
            refine xW_put O f_Lexer_95 d_Lexer_scanText_104 (fun q hq => by cases hq; exact ⟨rfl, rfl, rfl⟩) (fun s31 _ => ?_)
            refine xW_pure (fun _ _ _ _ _ => am_iinc (v := 1) d_Lexer_scanText_107 rfl (by decide) (Nat.le_of_ble_eq_true rfl)) ?_
            refine xW_pure (fun _ _ _ _ _ => am_aload_n d_Lexer_scanText_110 rfl rfl) ?_
            refine xW_pure (fun _ _ _ _ _ => am_dup d_Lexer_scanText_111 rfl) ?_
            refine xW_gI O f_Lexer_46 d_Lexer_scanText_112 (fun v32 _ => ?_)
            refine xW_pure (fun _ _ _ _ _ => am_iconst (v := 1) d_Lexer_scanText_115 (by decide)) ?_
            refine xW_pure (fun _ _ _ _ _ => am_iadd d_Lexer_scanText_116) ?_
            refine xW_put O f_Lexer_46 d_Lexer_scanText_117 (fun q hq => by cases hq; exact ⟨rfl, rfl, rfl⟩) (fun s33 _ => ?_)
            refine xW_pure (fun _ _ _ _ _ => am_goto (tgt := 25) d_Lexer_scanText_120 (by decide)) ?_
            refine xW_locs (lv' := [(0, .ref x0), (1, .int (z25.1 + 1))]) rfl ?_
            exact ih25 ((z25.1 + 1), s33)
        · refine xW_pure (fun _ _ _ _ _ => am_aload_n d_Lexer_scanText_56 rfl rfl) ?_
          refine xW_pure (fun _ _ _ _ _ => am_dup d_Lexer_scanText_57 rfl) ?_
          refine xW_gL O f_Lexer_91 d_Lexer_scanText_58 (fun v34 _ => ?_)
          refine xW_pure (fun _ _ _ _ _ => am_aload_n d_Lexer_scanText_61 rfl rfl) ?_
          refine xW_pure (fun _ _ _ _ _ => am_aload_n d_Lexer_scanText_62 rfl rfl) ?_
          refine xW_gI O f_Lexer_46 d_Lexer_scanText_63 (fun v35 _ => ?_)
          refine xW_callV O (dx_Lexer_byteAt O T) (fun _ e => ob_Lexer_byteAt e) rfl rfl rfl l_Lexer_61 ⟨w_563, w_2⟩ rfl (Nat.le_of_ble_eq_true rfl) d_Lexer_scanText_66 (fun v37 s36 _ => ?_)
          refine xW_pure (fun _ _ _ _ _ => am_iload_n d_Lexer_scanText_69 rfl rfl) ?_
          refine xW_callS O (dx_Cell_placed O T) rfl l_Lexer_31 w_258 rfl (Nat.le_of_ble_eq_true rfl) d_Lexer_scanText_70 (fun v39 s38 _ => ?_)
          refine xW_pure (fun _ _ _ _ _ => am_lor d_Lexer_scanText_73) ?_
          refine xW_put O f_Lexer_91 d_Lexer_scanText_74 (fun q hq => by cases hq; exact ⟨rfl, rfl, rfl⟩) (fun s40 _ => ?_)
          refine xW_pure (fun _ _ _ _ _ => am_goto (tgt := 107) d_Lexer_scanText_77 (by decide)) ?_
          refine xW_pure (fun _ _ _ _ _ => am_iinc (v := 1) d_Lexer_scanText_107 rfl (by decide) (Nat.le_of_ble_eq_true rfl)) ?_
          refine xW_pure (fun _ _ _ _ _ => am_aload_n d_Lexer_scanText_110 rfl rfl) ?_
          refine xW_pure (fun _ _ _ _ _ => am_dup d_Lexer_scanText_111 rfl) ?_
          refine xW_gI O f_Lexer_46 d_Lexer_scanText_112 (fun v41 _ => ?_)
          refine xW_pure (fun _ _ _ _ _ => am_iconst (v := 1) d_Lexer_scanText_115 (by decide)) ?_
          refine xW_pure (fun _ _ _ _ _ => am_iadd d_Lexer_scanText_116) ?_
          refine xW_put O f_Lexer_46 d_Lexer_scanText_117 (fun q hq => by cases hq; exact ⟨rfl, rfl, rfl⟩) (fun s42 _ => ?_)
          refine xW_pure (fun _ _ _ _ _ => am_goto (tgt := 25) d_Lexer_scanText_120 (by decide)) ?_
          refine xW_locs (lv' := [(0, .ref x0), (1, .int (z25.1 + 1))]) rfl ?_
          exact ih25 ((z25.1 + 1), s42)

theorem ob_Lexer_scanText {d : Nat} {x0 : Nat} {s : HS} {y : Unit × HS} (h : x_Lexer_scanText d x0 s = some y) : isO s x0 1 = true := by
  cases d with
  | zero => cases h
  | succ d => exact (gd_spec h).1

set_option maxRecDepth 100000 in
def x_Lexer_scanSign (d : Nat) (x0 : Nat) (x1 : Int32) (s : HS) : Option (Unit × HS) := match d with
  | 0 => none
  | d + 1 => gd s x0 1 ((gI s x0 1 3).bind fun v1 => (bnd (x_Lexer_byteAt d x0 (v1 + 1) s) fun v3 s2 => (bnd (x_Lexer_pairKind d x1 v3 s2) fun v5 s4 => ((pV s4 x0 1 5 (.int v5)).bind fun s6 => ((gI s6 x0 1 3).bind fun v7 => ((pV s6 x0 1 3 (.int (v7 + 1))).bind fun s8 => ((gI s8 x0 1 5).bind fun v9 => (if v9 = 1 then (dp 3 d <| (strIx 8 ((x1 : Int32).toUInt32 % 65536).toInt32).bind fun v10 => (if v10 < 0 then (some ((), s8)) else ((pV s8 x0 1 5 (.int x1)).bind fun s11 => (some ((), s11))))) else ((gI s8 x0 1 3).bind fun v12 => ((pV s8 x0 1 3 (.int (v12 + 1))).bind fun s13 => (some ((), s13))))))))))))

set_option maxRecDepth 100000 in
set_option maxHeartbeats 4000000 in
theorem dx_Lexer_scanSign (O : am_ok K X) (T : am_T K) {d : Nat} {x0 : Nat} {x1 : Int32} {s : HS} : xM cvU K X m_Lexer_scanSign d [.ref x0, .int x1] s (x_Lexer_scanSign d x0 x1 s) := by
  cases d with
  | zero => exact xM_none
  | succ d =>
    unfold x_Lexer_scanSign
    refine xM_enter (by decide +kernel) (Nat.le_of_ble_eq_true rfl) ?_
    refine xW_gd (fun _ => ?_)
    refine xW_pure (fun _ _ _ _ _ => am_aload_n d_Lexer_scanSign_0 rfl rfl) ?_
    refine xW_pure (fun _ _ _ _ _ => am_iload_n d_Lexer_scanSign_1 rfl rfl) ?_
    refine xW_pure (fun _ _ _ _ _ => am_aload_n d_Lexer_scanSign_2 rfl rfl) ?_
    refine xW_pure (fun _ _ _ _ _ => am_aload_n d_Lexer_scanSign_3 rfl rfl) ?_
    refine xW_gI O f_Lexer_46 d_Lexer_scanSign_4 (fun v1 _ => ?_)
    refine xW_pure (fun _ _ _ _ _ => am_iconst (v := 1) d_Lexer_scanSign_7 (by decide)) ?_
    refine xW_pure (fun _ _ _ _ _ => am_iadd d_Lexer_scanSign_8) ?_
    refine xW_callV O (dx_Lexer_byteAt O T) (fun _ e => ob_Lexer_byteAt e) rfl rfl rfl l_Lexer_61 ⟨w_563, w_2⟩ rfl (Nat.le_of_ble_eq_true rfl) d_Lexer_scanSign_9 (fun v3 s2 _ => ?_)
    refine xW_callS O (dx_Lexer_pairKind O T) rfl l_Lexer_118 w_604 rfl (Nat.le_of_ble_eq_true rfl) d_Lexer_scanSign_12 (fun v5 s4 _ => ?_)
    refine xW_put O f_Lexer_65 d_Lexer_scanSign_15 (fun q hq => by cases hq; exact ⟨rfl, rfl, rfl⟩) (fun s6 _ => ?_)
    refine xW_pure (fun _ _ _ _ _ => am_aload_n d_Lexer_scanSign_18 rfl rfl) ?_
    refine xW_pure (fun _ _ _ _ _ => am_dup d_Lexer_scanSign_19 rfl) ?_
    refine xW_gI O f_Lexer_46 d_Lexer_scanSign_20 (fun v7 _ => ?_)
    refine xW_pure (fun _ _ _ _ _ => am_iconst (v := 1) d_Lexer_scanSign_23 (by decide)) ?_
    refine xW_pure (fun _ _ _ _ _ => am_iadd d_Lexer_scanSign_24) ?_
    refine xW_put O f_Lexer_46 d_Lexer_scanSign_25 (fun q hq => by cases hq; exact ⟨rfl, rfl, rfl⟩) (fun s8 _ => ?_)
    refine xW_pure (fun _ _ _ _ _ => am_aload_n d_Lexer_scanSign_28 rfl rfl) ?_
    refine xW_gI O f_Lexer_65 d_Lexer_scanSign_29 (fun v9 _ => ?_)
    refine xW_pure (fun _ _ _ _ _ => am_iconst (v := 1) d_Lexer_scanSign_32 (by decide)) ?_
    refine xW_ite (fun _ _ _ _ _ => am_icmp_eq (tgt := 49) d_Lexer_scanSign_33 (by decide)) (fun _ => ?_) (fun _ => ?_)
    · refine xW_pure (fun _ _ _ _ _ => am_ldcS (T.2.2 1 ("StowTongue$Lexer", 121, "{}()[],;:.=+-*/%<!") rfl) d_Lexer_scanSign_49) ?_
      refine xW_pure (fun _ _ _ _ _ => am_iload_n d_Lexer_scanSign_51 rfl rfl) ?_
      refine xW_pure (fun _ _ _ _ _ => am_i2c d_Lexer_scanSign_52 rfl) ?_
      refine xW_strIx O T l_Lexer_123 ⟨w_608, w_609⟩ rfl (Nat.le_of_ble_eq_true rfl) d_Lexer_scanSign_53 (fun v10 _ => ?_)
      refine xW_ite (fun _ _ _ _ _ => am_if_lt (tgt := 64) d_Lexer_scanSign_56 (by decide)) (fun _ => ?_) (fun _ => ?_)
      · exact xW_ret (fun _ _ _ _ _ => am_vret rfl d_Lexer_scanSign_64)
      · refine xW_pure (fun _ _ _ _ _ => am_aload_n d_Lexer_scanSign_59 rfl rfl) ?_
        refine xW_pure (fun _ _ _ _ _ => am_iload_n d_Lexer_scanSign_60 rfl rfl) ?_
        refine xW_put O f_Lexer_65 d_Lexer_scanSign_61 (fun q hq => by cases hq; exact ⟨rfl, rfl, rfl⟩) (fun s11 _ => ?_)
        exact xW_ret (fun _ _ _ _ _ => am_vret rfl d_Lexer_scanSign_64)
    · refine xW_pure (fun _ _ _ _ _ => am_aload_n d_Lexer_scanSign_36 rfl rfl) ?_
      refine xW_pure (fun _ _ _ _ _ => am_dup d_Lexer_scanSign_37 rfl) ?_
      refine xW_gI O f_Lexer_46 d_Lexer_scanSign_38 (fun v12 _ => ?_)
      refine xW_pure (fun _ _ _ _ _ => am_iconst (v := 1) d_Lexer_scanSign_41 (by decide)) ?_
      refine xW_pure (fun _ _ _ _ _ => am_iadd d_Lexer_scanSign_42) ?_
      refine xW_put O f_Lexer_46 d_Lexer_scanSign_43 (fun q hq => by cases hq; exact ⟨rfl, rfl, rfl⟩) (fun s13 _ => ?_)
      refine xW_pure (fun _ _ _ _ _ => am_goto (tgt := 64) d_Lexer_scanSign_46 (by decide)) ?_
      exact xW_ret (fun _ _ _ _ _ => am_vret rfl d_Lexer_scanSign_64)

theorem ob_Lexer_scanSign {d : Nat} {x0 : Nat} {x1 : Int32} {s : HS} {y : Unit × HS} (h : x_Lexer_scanSign d x0 x1 s = some y) : isO s x0 1 = true := by
  cases d with
  | zero => cases h
  | succ d => exact (gd_spec h).1

set_option maxRecDepth 100000 in
def x_Pars_fail (d : Nat) (x0 : Nat) (s : HS) : Option (Unit × HS) := match d with
  | 0 => none
  | d + 1 => gd s x0 5 ((gI s x0 5 6).bind fun v1 => (if 0 ≤ v1 then ((gR s x0 5 0).bind fun v2 => (bnd (x_Lexer_stop d v2 s) fun v4 s3 => (some ((), s3)))) else ((gR s x0 5 0).bind fun v5 => (bnd (x_Lexer_place d v5 s) fun v7 s6 => ((pV s6 x0 5 6 (.int v7)).bind fun s8 => ((gR s8 x0 5 0).bind fun v9 => (bnd (x_Lexer_stop d v9 s8) fun v11 s10 => (some ((), s10)))))))))

set_option maxRecDepth 100000 in
set_option maxHeartbeats 4000000 in
theorem dx_Pars_fail (O : am_ok K X) (T : am_T K) {d : Nat} {x0 : Nat} {s : HS} : xM cvU K X m_Pars_fail d [.ref x0] s (x_Pars_fail d x0 s) := by
  cases d with
  | zero => exact xM_none
  | succ d =>
    unfold x_Pars_fail
    refine xM_enter (by decide +kernel) (Nat.le_of_ble_eq_true rfl) ?_
    refine xW_gd (fun _ => ?_)
    refine xW_pure (fun _ _ _ _ _ => am_aload_n d_Pars_fail_0 rfl rfl) ?_
    refine xW_gI O f_Pars_51 d_Pars_fail_1 (fun v1 _ => ?_)
    refine xW_ite (fun _ _ _ _ _ => am_if_ge (tgt := 18) d_Pars_fail_4 (by decide)) (fun _ => ?_) (fun _ => ?_)
    · refine xW_pure (fun _ _ _ _ _ => am_aload_n d_Pars_fail_18 rfl rfl) ?_
      refine xW_gR O f_Pars_12 d_Pars_fail_19 (fun v2 _ => ?_)
      refine xW_callV O (dx_Lexer_stop O T) (fun _ e => ob_Lexer_stop e) rfl rfl rfl l_Pars_93 ⟨w_694, w_695⟩ rfl (Nat.le_of_ble_eq_true rfl) d_Pars_fail_22 (fun v4 s3 _ => ?_)
      exact xW_ret (fun _ _ _ _ _ => am_vret rfl d_Pars_fail_25)
    · refine xW_pure (fun _ _ _ _ _ => am_aload_n d_Pars_fail_7 rfl rfl) ?_
      refine xW_pure (fun _ _ _ _ _ => am_aload_n d_Pars_fail_8 rfl rfl) ?_
      refine xW_gR O f_Pars_12 d_Pars_fail_9 (fun v5 _ => ?_)
      refine xW_callV O (dx_Lexer_place O T) (fun _ e => ob_Lexer_place e) rfl rfl rfl l_Pars_90 ⟨w_690, w_691⟩ rfl (Nat.le_of_ble_eq_true rfl) d_Pars_fail_12 (fun v7 s6 _ => ?_)
      refine xW_put O f_Pars_51 d_Pars_fail_15 (fun q hq => by cases hq; exact ⟨rfl, rfl, rfl⟩) (fun s8 _ => ?_)
      refine xW_pure (fun _ _ _ _ _ => am_aload_n d_Pars_fail_18 rfl rfl) ?_
      refine xW_gR O f_Pars_12 d_Pars_fail_19 (fun v9 _ => ?_)
      refine xW_callV O (dx_Lexer_stop O T) (fun _ e => ob_Lexer_stop e) rfl rfl rfl l_Pars_93 ⟨w_694, w_695⟩ rfl (Nat.le_of_ble_eq_true rfl) d_Pars_fail_22 (fun v11 s10 _ => ?_)
      exact xW_ret (fun _ _ _ _ _ => am_vret rfl d_Pars_fail_25)

theorem ob_Pars_fail {d : Nat} {x0 : Nat} {s : HS} {y : Unit × HS} (h : x_Pars_fail d x0 s = some y) : isO s x0 5 = true := by
  cases d with
  | zero => cases h
  | succ d => exact (gd_spec h).1

set_option maxRecDepth 100000 in
def x_Log_storeAt (d : Nat) (x0 : Nat) (x1 : Int32) (s : HS) : Option (Nat × HS) := match d with
  | 0 => none
  | d + 1 => gd s x0 7 ((gR s x0 7 0).bind fun v1 => ((aN "StowTongue$Store" s v1 x1).bind fun y => y.elim (bnd (x_Store_init d s.1 (newO s 10 [.null, .null, .null, .null, .null, .null, .int 0, .null, .int 0])) fun v4 s3 => ((gR s3 x0 7 0).bind fun v5 => ((sR "StowTongue$Store" 10 s3 v5 x1 s.1).bind fun s6 => (some (s.1, s6))))) (fun v2 => some (v2, s))))

set_option maxRecDepth 100000 in
set_option maxHeartbeats 4000000 in
theorem dx_Log_storeAt (O : am_ok K X) (T : am_T K) {d : Nat} {x0 : Nat} {x1 : Int32} {s : HS} : xM cvR K X m_Log_storeAt d [.ref x0, .int x1] s (x_Log_storeAt d x0 x1 s) := by
  cases d with
  | zero => exact xM_none
  | succ d =>
    unfold x_Log_storeAt
    refine xM_enter (by decide +kernel) (Nat.le_of_ble_eq_true rfl) ?_
    refine xW_gd (fun _ => ?_)
    refine xW_pure (fun _ _ _ _ _ => am_aload_n d_Log_storeAt_0 rfl rfl) ?_
    refine xW_gR O f_Log_11 d_Log_storeAt_1 (fun v1 _ => ?_)
    refine xW_pure (fun _ _ _ _ _ => am_iload_n d_Log_storeAt_4 rfl rfl) ?_
    refine xW_aN O (by decide) d_Log_storeAt_5 (fun _ => ?_) (fun v2 _ => ?_)
    · refine xW_pure (fun _ _ _ _ _ => am_astore_nN d_Log_storeAt_6 rfl (Nat.le_of_ble_eq_true rfl)) ?_
      refine xW_pure (fun _ _ _ _ _ => am_aload_nN d_Log_storeAt_7 rfl rfl) ?_
      refine xW_pure (fun _ _ _ _ _ => am_ifnonnullN d_Log_storeAt_8) ?_
      refine xW_newO (ci := 10) (fs := [.null, .null, .null, .null, .null, .null, .int 0, .null, .int 0]) O n_Log_9 d_Log_storeAt_11 ?_
      refine xW_pure (fun _ _ _ _ _ => am_dup d_Log_storeAt_14 rfl) ?_
      refine xW_callI O (dx_Store_init O T) rfl l_Log_26 w_963 rfl rfl rfl (Nat.le_of_ble_eq_true rfl) d_Log_storeAt_15 (fun v4 s3 _ => ?_)
      refine xW_pure (fun _ _ _ _ _ => am_astore_n d_Log_storeAt_18 rfl (Nat.le_of_ble_eq_true rfl)) ?_
      refine xW_pure (fun _ _ _ _ _ => am_aload_n d_Log_storeAt_19 rfl rfl) ?_
      refine xW_gR O f_Log_11 d_Log_storeAt_20 (fun v5 _ => ?_)
      refine xW_pure (fun _ _ _ _ _ => am_iload_n d_Log_storeAt_23 rfl rfl) ?_
      refine xW_pure (fun _ _ _ _ _ => am_aload_n d_Log_storeAt_24 rfl rfl) ?_
      refine xW_sR O (ci := 10) (by rfl) (by rfl) (by decide) d_Log_storeAt_25 (fun s6 _ => ?_)
      refine xW_pure (fun _ _ _ _ _ => am_aload_n d_Log_storeAt_26 rfl rfl) ?_
      exact xW_ret (fun _ _ _ _ _ => am_aret rfl (Or.inl ⟨_, rfl⟩) d_Log_storeAt_27)
    · refine xW_pure (fun _ _ _ _ _ => am_astore_n d_Log_storeAt_6 rfl (Nat.le_of_ble_eq_true rfl)) ?_
      refine xW_pure (fun _ _ _ _ _ => am_aload_n d_Log_storeAt_7 rfl rfl) ?_
      refine xW_pure (fun _ _ _ _ _ => am_ifnonnullR (tgt := 26) d_Log_storeAt_8 (by decide)) ?_
      refine xW_pure (fun _ _ _ _ _ => am_aload_n d_Log_storeAt_26 rfl rfl) ?_
      exact xW_ret (fun _ _ _ _ _ => am_aret rfl (Or.inl ⟨_, rfl⟩) d_Log_storeAt_27)

theorem ob_Log_storeAt {d : Nat} {x0 : Nat} {x1 : Int32} {s : HS} {y : Nat × HS} (h : x_Log_storeAt d x0 x1 s = some y) : isO s x0 7 = true := by
  cases d with
  | zero => cases h
  | succ d => exact (gd_spec h).1

set_option maxRecDepth 100000 in
def x_Log_latest (d : Nat) (x0 : Nat) (s : HS) : Option (Nat × HS) := match d with
  | 0 => none
  | d + 1 => gd s x0 7 ((gI s x0 7 2).bind fun v1 => (bnd (x_Log_storeAt d x0 v1 s) fun v3 s2 => (some (v3, s2))))

set_option maxRecDepth 100000 in
set_option maxHeartbeats 4000000 in
theorem dx_Log_latest (O : am_ok K X) (T : am_T K) {d : Nat} {x0 : Nat} {s : HS} : xM cvR K X m_Log_latest d [.ref x0] s (x_Log_latest d x0 s) := by
  cases d with
  | zero => exact xM_none
  | succ d =>
    unfold x_Log_latest
    refine xM_enter (by decide +kernel) (Nat.le_of_ble_eq_true rfl) ?_
    refine xW_gd (fun _ => ?_)
    refine xW_pure (fun _ _ _ _ _ => am_aload_n d_Log_latest_0 rfl rfl) ?_
    refine xW_pure (fun _ _ _ _ _ => am_aload_n d_Log_latest_1 rfl rfl) ?_
    refine xW_gI O f_Log_27 d_Log_latest_2 (fun v1 _ => ?_)
    refine xW_callV O (dx_Log_storeAt O T) (fun _ e => ob_Log_storeAt e) rfl rfl rfl l_Log_31 ⟨w_959, w_40⟩ rfl (Nat.le_of_ble_eq_true rfl) d_Log_latest_5 (fun v3 s2 _ => ?_)
    exact xW_ret (fun _ _ _ _ _ => am_aret rfl (Or.inl ⟨_, rfl⟩) d_Log_latest_8)

theorem ob_Log_latest {d : Nat} {x0 : Nat} {s : HS} {y : Nat × HS} (h : x_Log_latest d x0 s = some y) : isO s x0 7 = true := by
  cases d with
  | zero => cases h
  | succ d => exact (gd_spec h).1

set_option maxRecDepth 100000 in
def x_Store_functionTokens (d : Nat) (x0 : Nat) (s : HS) : Option (Int32 × HS) := match d with
  | 0 => none
  | d + 1 => gd s x0 10 (loopK (fun (again4 : Int32 × Int32 × HS → Option (Int32 × HS)) (z4 : Int32 × Int32 × HS) => ((gI z4.2.2 x0 10 8).bind fun v1 => (if v1 ≤ z4.2.1 then (some (z4.1, z4.2.2)) else ((gR z4.2.2 x0 10 7).bind fun v2 => ((aR "StowTongue$Unit" z4.2.2 v2 z4.2.1).bind fun v3 => ((gR z4.2.2 x0 10 7).bind fun v4 => ((aR "StowTongue$Unit" z4.2.2 v4 z4.2.1).bind fun v5 => (bnd (x_Unit_tokens d v5 z4.2.2) fun v7 s6 => (again4 ((z4.1 + v7), (z4.2.1 + 1), s6)))))))))) FU (0, 0, s))

set_option maxRecDepth 100000 in
set_option maxHeartbeats 4000000 in
theorem dx_Store_functionTokens (O : am_ok K X) (T : am_T K) {d : Nat} {x0 : Nat} {s : HS} : xM cvI K X m_Store_functionTokens d [.ref x0] s (x_Store_functionTokens d x0 s) := by
  cases d with
  | zero => exact xM_none
  | succ d =>
    unfold x_Store_functionTokens
    refine xM_enter (by decide +kernel) (Nat.le_of_ble_eq_true rfl) ?_
    refine xW_gd (fun _ => ?_)
    refine xW_pure (fun _ _ _ _ _ => am_iconst (v := 0) d_Store_functionTokens_0 (by decide)) ?_
    refine xW_pure (fun _ _ _ _ _ => am_istore_n d_Store_functionTokens_1 rfl (Nat.le_of_ble_eq_true rfl)) ?_
    refine xW_pure (fun _ _ _ _ _ => am_iconst (v := 0) d_Store_functionTokens_2 (by decide)) ?_
    refine xW_pure (fun _ _ _ _ _ => am_istore_n d_Store_functionTokens_3 rfl (Nat.le_of_ble_eq_true rfl)) ?_
    refine xW_locs (lv' := [(0, .ref x0), (1, .int 0), (2, .int 0)]) rfl ?_
    refine xW_loop (lvf := fun (z4 : Int32 × Int32 × HS) => [(0, .ref x0), (1, .int z4.1), (2, .int z4.2.1)]) (hsf := fun (z4 : Int32 × Int32 × HS) => z4.2.2) (fun again4 ih4 z4 => ?_) FU (0, 0, s)
    refine xW_pure (fun _ _ _ _ _ => am_iload_n d_Store_functionTokens_4 rfl rfl) ?_
    refine xW_pure (fun _ _ _ _ _ => am_aload_n d_Store_functionTokens_5 rfl rfl) ?_
    refine xW_gI O f_Store_51 d_Store_functionTokens_6 (fun v1 _ => ?_)
    refine xW_ite (fun _ _ _ _ _ => am_icmp_ge (tgt := 43) d_Store_functionTokens_9 (by decide)) (fun _ => ?_) (fun _ => ?_)
    · refine xW_pure (fun _ _ _ _ _ => am_iload_n d_Store_functionTokens_43 rfl rfl) ?_
      exact xW_ret (fun _ _ _ _ _ => am_iret rfl d_Store_functionTokens_44)
    · refine xW_pure (fun _ _ _ _ _ => am_iload_n d_Store_functionTokens_12 rfl rfl) ?_
      refine xW_pure (fun _ _ _ _ _ => am_aload_n d_Store_functionTokens_13 rfl rfl) ?_
      refine xW_gR O f_Store_31 d_Store_functionTokens_14 (fun v2 _ => ?_)
      refine xW_pure (fun _ _ _ _ _ => am_iload_n d_Store_functionTokens_17 rfl rfl) ?_
      refine xW_aR O (by decide) d_Store_functionTokens_18 (fun v3 _ => ?_)
      refine xW_pure (fun _ _ _ _ _ => am_ifnonnullR (tgt := 26) d_Store_functionTokens_19 (by decide)) ?_
      refine xW_pure (fun _ _ _ _ _ => am_aload_n d_Store_functionTokens_26 rfl rfl) ?_
      refine xW_gR O f_Store_31 d_Store_functionTokens_27 (fun v4 _ => ?_)
      refine xW_pure (fun _ _ _ _ _ => am_iload_n d_Store_functionTokens_30 rfl rfl) ?_
      refine xW_aR O (by decide) d_Store_functionTokens_31 (fun v5 _ => ?_)
      refine xW_callV O (dx_Unit_tokens O T) (fun _ e => ob_Unit_tokens e) rfl rfl rfl l_Store_97 ⟨w_1054, w_1055⟩ rfl (Nat.le_of_ble_eq_true rfl) d_Store_functionTokens_32 (fun v7 s6 _ => ?_)
      refine xW_pure (fun _ _ _ _ _ => am_iadd d_Store_functionTokens_35) ?_
      refine xW_pure (fun _ _ _ _ _ => am_istore_n d_Store_functionTokens_36 rfl (Nat.le_of_ble_eq_true rfl)) ?_
      refine xW_pure (fun _ _ _ _ _ => am_iinc (v := 1) d_Store_functionTokens_37 rfl (by decide) (Nat.le_of_ble_eq_true rfl)) ?_
      refine xW_pure (fun _ _ _ _ _ => am_goto (tgt := 4) d_Store_functionTokens_40 (by decide)) ?_
      refine xW_locs (lv' := [(0, .ref x0), (1, .int (z4.1 + v7)), (2, .int (z4.2.1 + 1))]) rfl ?_
      exact ih4 ((z4.1 + v7), (z4.2.1 + 1), s6)

theorem ob_Store_functionTokens {d : Nat} {x0 : Nat} {s : HS} {y : Int32 × HS} (h : x_Store_functionTokens d x0 s = some y) : isO s x0 10 = true := by
  cases d with
  | zero => cases h
  | succ d => exact (gd_spec h).1

set_option maxRecDepth 100000 in
def x_Mach_lay_b63 (d : Nat) (l0 : Nat) (l1 : Int64) (l3 : Int64) (s : HS) : Option (Unit × HS) := (gR s l0 6 0).bind fun v15 => ((gI s l0 6 2).bind fun v16 => ((sV s .long v15 v16 (.long l1)).bind fun s17 => ((gR s17 l0 6 1).bind fun v18 => ((gI s17 l0 6 2).bind fun v19 => ((sV s17 .long v18 v19 (.long l3)).bind fun s20 => ((gI s20 l0 6 2).bind fun v21 => ((pV s20 l0 6 2 (.int (v21 + 1))).bind fun s22 => (some ((), s22)))))))))

set_option maxRecDepth 100000 in
set_option maxHeartbeats 4000000 in
theorem dx_Mach_lay_b63 (O : am_ok K X) (T : am_T K) {d : Nat} {l0 : Nat} {l1 : Int64} {l3 : Int64} {s : HS} : xW cvU K X m_Mach_lay (d + 1) 63 [(0, .ref l0), (1, .long l1), (3, .long l3)] [] s (x_Mach_lay_b63 d l0 l1 l3 s) := by
  unfold x_Mach_lay_b63
  refine xW_pure (fun _ _ _ _ _ => am_aload_n d_Mach_lay_63 rfl rfl) ?_
  refine xW_gR O f_Mach_7 d_Mach_lay_64 (fun v15 _ => ?_)
  refine xW_pure (fun _ _ _ _ _ => am_aload_n d_Mach_lay_67 rfl rfl) ?_
  refine xW_gI O f_Mach_54 d_Mach_lay_68 (fun v16 _ => ?_)
  refine xW_pure (fun _ _ _ _ _ => am_lload_n d_Mach_lay_71 rfl rfl) ?_
  refine xW_sL O d_Mach_lay_72 (fun s17 _ => ?_)
  refine xW_pure (fun _ _ _ _ _ => am_aload_n d_Mach_lay_73 rfl rfl) ?_
  refine xW_gR O f_Mach_13 d_Mach_lay_74 (fun v18 _ => ?_)
  refine xW_pure (fun _ _ _ _ _ => am_aload_n d_Mach_lay_77 rfl rfl) ?_
  refine xW_gI O f_Mach_54 d_Mach_lay_78 (fun v19 _ => ?_)
  refine xW_pure (fun _ _ _ _ _ => am_lload_n d_Mach_lay_81 rfl rfl) ?_
  refine xW_sL O d_Mach_lay_82 (fun s20 _ => ?_)
  refine xW_pure (fun _ _ _ _ _ => am_aload_n d_Mach_lay_83 rfl rfl) ?_
  refine xW_pure (fun _ _ _ _ _ => am_dup d_Mach_lay_84 rfl) ?_
  refine xW_gI O f_Mach_54 d_Mach_lay_85 (fun v21 _ => ?_)
  refine xW_pure (fun _ _ _ _ _ => am_iconst (v := 1) d_Mach_lay_88 (by decide)) ?_
  refine xW_pure (fun _ _ _ _ _ => am_iadd d_Mach_lay_89) ?_
  refine xW_put O f_Mach_54 d_Mach_lay_90 (fun q hq => by cases hq; exact ⟨rfl, rfl, rfl⟩) (fun s22 _ => ?_)
  exact xW_ret (fun _ _ _ _ _ => am_vret rfl d_Mach_lay_93)

set_option maxRecDepth 100000 in
def x_Mach_lay (d : Nat) (x0 : Nat) (x1 : Int64) (x2 : Int64) (s : HS) : Option (Unit × HS) := match d with
  | 0 => none
  | d + 1 => gd s x0 6 ((gI s x0 6 2).bind fun v1 => ((gR s x0 6 0).bind fun v2 => ((lenA s v2).bind fun v3 => (if v1 = v3 then ((gI s x0 6 2).bind fun v4 => (if v4 < 8192 then ((gR s x0 6 0).bind fun v5 => ((gI s x0 6 2).bind fun v6 => (bnd (x_Arr_copyOf_aJI d v5 (2 * v6) s) fun v8 s7 => ((pV s7 x0 6 0 (.ref v8)).bind fun s9 => ((gR s9 x0 6 1).bind fun v10 => ((gI s9 x0 6 2).bind fun v11 => (bnd (x_Arr_copyOf_aJI d v10 (2 * v11) s9) fun v13 s12 => ((pV s12 x0 6 1 (.ref v13)).bind fun s14 => (x_Mach_lay_b63 d x0 x1 x2 s14))))))))) else (bnd (x_Mach_fail d x0 8 s) fun v24 s23 => (some ((), s23))))) else (x_Mach_lay_b63 d x0 x1 x2 s)))))

set_option maxRecDepth 100000 in
set_option maxHeartbeats 4000000 in
theorem dx_Mach_lay (O : am_ok K X) (T : am_T K) {d : Nat} {x0 : Nat} {x1 : Int64} {x2 : Int64} {s : HS} : xM cvU K X m_Mach_lay d [.ref x0, .long x1, .long x2] s (x_Mach_lay d x0 x1 x2 s) := by
  cases d with
  | zero => exact xM_none
  | succ d =>
    unfold x_Mach_lay
    refine xM_enter (by decide +kernel) (Nat.le_of_ble_eq_true rfl) ?_
    refine xW_gd (fun _ => ?_)
    refine xW_pure (fun _ _ _ _ _ => am_aload_n d_Mach_lay_0 rfl rfl) ?_
    refine xW_gI O f_Mach_54 d_Mach_lay_1 (fun v1 _ => ?_)
    refine xW_pure (fun _ _ _ _ _ => am_aload_n d_Mach_lay_4 rfl rfl) ?_
    refine xW_gR O f_Mach_7 d_Mach_lay_5 (fun v2 _ => ?_)
    refine xW_len O d_Mach_lay_8 (fun v3 _ => ?_)
    refine xW_ite (fun _ _ _ _ _ k1 k2 => am_icmp_ne (tgt := 63) d_Mach_lay_9 (by decide) k2 k1) (fun _ => ?_) (fun _ => ?_)
    · refine xW_pure (fun _ _ _ _ _ => am_aload_n d_Mach_lay_12 rfl rfl) ?_
      refine xW_gI O f_Mach_54 d_Mach_lay_13 (fun v4 _ => ?_)
      refine xW_pure (fun _ _ _ _ _ => am_sipush (v := 8192) d_Mach_lay_16 (by decide)) ?_
      refine xW_ite (fun _ _ _ _ _ => am_icmp_lt (tgt := 29) d_Mach_lay_19 (by decide)) (fun _ => ?_) (fun _ => ?_)
      · refine xW_pure (fun _ _ _ _ _ => am_aload_n d_Mach_lay_29 rfl rfl) ?_
        refine xW_pure (fun _ _ _ _ _ => am_aload_n d_Mach_lay_30 rfl rfl) ?_
        refine xW_gR O f_Mach_7 d_Mach_lay_31 (fun v5 _ => ?_)
        refine xW_pure (fun _ _ _ _ _ => am_iconst (v := 2) d_Mach_lay_34 (by decide)) ?_
        refine xW_pure (fun _ _ _ _ _ => am_aload_n d_Mach_lay_35 rfl rfl) ?_
        refine xW_gI O f_Mach_54 d_Mach_lay_36 (fun v6 _ => ?_)
        refine xW_pure (fun _ _ _ _ _ => am_imul d_Mach_lay_39) ?_
        refine xW_callS O (dx_Arr_copyOf_aJI O T) rfl l_Mach_109 w_723 rfl (Nat.le_of_ble_eq_true rfl) d_Mach_lay_40 (fun v8 s7 _ => ?_)
        refine xW_put O f_Mach_7 d_Mach_lay_43 (fun q hq => by cases hq; exact ⟨rfl, rfl, rfl⟩) (fun s9 _ => ?_)
        refine xW_pure (fun _ _ _ _ _ => am_aload_n d_Mach_lay_46 rfl rfl) ?_
        refine xW_pure (fun _ _ _ _ _ => am_aload_n d_Mach_lay_47 rfl rfl) ?_
        refine xW_gR O f_Mach_13 d_Mach_lay_48 (fun v10 _ => ?_)
        refine xW_pure (fun _ _ _ _ _ => am_iconst (v := 2) d_Mach_lay_51 (by decide)) ?_
        refine xW_pure (fun _ _ _ _ _ => am_aload_n d_Mach_lay_52 rfl rfl) ?_
        refine xW_gI O f_Mach_54 d_Mach_lay_53 (fun v11 _ => ?_)
        refine xW_pure (fun _ _ _ _ _ => am_imul d_Mach_lay_56) ?_
        refine xW_callS O (dx_Arr_copyOf_aJI O T) rfl l_Mach_109 w_723 rfl (Nat.le_of_ble_eq_true rfl) d_Mach_lay_57 (fun v13 s12 _ => ?_)
        refine xW_put O f_Mach_13 d_Mach_lay_60 (fun q hq => by cases hq; exact ⟨rfl, rfl, rfl⟩) (fun s14 _ => ?_)
        refine xW_locs (lv' := [(0, .ref x0), (1, .long x1), (3, .long x2)]) rfl ?_
        exact dx_Mach_lay_b63 O T
      · refine xW_pure (fun _ _ _ _ _ => am_aload_n d_Mach_lay_22 rfl rfl) ?_
        refine xW_pure (fun _ _ _ _ _ => am_bipush (v := 8) d_Mach_lay_23 (by decide)) ?_
        refine xW_callV O (dx_Mach_fail O T) (fun _ e => ob_Mach_fail e) rfl rfl rfl l_Mach_106 ⟨w_1084, w_45⟩ rfl (Nat.le_of_ble_eq_true rfl) d_Mach_lay_25 (fun v24 s23 _ => ?_)
        exact xW_ret (fun _ _ _ _ _ => am_vret rfl d_Mach_lay_28)
    · refine xW_locs (lv' := [(0, .ref x0), (1, .long x1), (3, .long x2)]) rfl ?_
      exact dx_Mach_lay_b63 O T

theorem ob_Mach_lay {d : Nat} {x0 : Nat} {x1 : Int64} {x2 : Int64} {s : HS} {y : Unit × HS} (h : x_Mach_lay d x0 x1 x2 s = some y) : isO s x0 6 = true := by
  cases d with
  | zero => cases h
  | succ d => exact (gd_spec h).1

set_option maxRecDepth 100000 in
def x_Cell_isTrue (d : Nat) (x1 : Int64) (x2 : Int64) (s : HS) : Option (Int32 × HS) := match d with
  | 0 => none
  | d + 1 => bnd (x_Cell_sortOf d x1 s) fun v2 s1 => (if v2 = 0 then (some (0, s1)) else (if v2 = 1 then (if (lg_cmp x2 0) = 0 then (some (0, s1)) else (some (1, s1))) else (some (1, s1))))

set_option maxRecDepth 100000 in
set_option maxHeartbeats 4000000 in
theorem dx_Cell_isTrue (O : am_ok K X) (T : am_T K) {d : Nat} {x1 : Int64} {x2 : Int64} {s : HS} : xM cvI K X m_Cell_isTrue d [.long x1, .long x2] s (x_Cell_isTrue d x1 x2 s) := by
  cases d with
  | zero => exact xM_none
  | succ d =>
    unfold x_Cell_isTrue
    refine xM_enter (by decide +kernel) (Nat.le_of_ble_eq_true rfl) ?_
    refine xW_pure (fun _ _ _ _ _ => am_lload_n d_Cell_isTrue_0 rfl rfl) ?_
    refine xW_callS O (dx_Cell_sortOf O T) rfl l_Cell_9 w_1104 rfl (Nat.le_of_ble_eq_true rfl) d_Cell_isTrue_1 (fun v2 s1 _ => ?_)
    refine xW_pure (fun _ _ _ _ _ => am_istore d_Cell_isTrue_4 (Nat.le_of_ble_eq_true rfl)) ?_
    refine xW_pure (fun _ _ _ _ _ => am_iload d_Cell_isTrue_6 rfl) ?_
    refine xW_ite (fun _ _ _ _ _ => am_if_eq (tgt := 27) d_Cell_isTrue_8 (by decide)) (fun _ => ?_) (fun _ => ?_)
    · refine xW_pure (fun _ _ _ _ _ => am_iconst (v := 0) d_Cell_isTrue_27 (by decide)) ?_
      exact xW_ret (fun _ _ _ _ _ => am_zret (ty := .boolean) rfl rfl d_Cell_isTrue_28)
    · refine xW_pure (fun _ _ _ _ _ => am_iload d_Cell_isTrue_11 rfl) ?_
      refine xW_pure (fun _ _ _ _ _ => am_iconst (v := 1) d_Cell_isTrue_13 (by decide)) ?_
      refine xW_ite (fun _ _ _ _ _ k1 k2 => am_icmp_ne (tgt := 23) d_Cell_isTrue_14 (by decide) k2 k1) (fun _ => ?_) (fun _ => ?_)
      · refine xW_pure (fun _ _ _ _ _ => am_lload_n d_Cell_isTrue_17 rfl rfl) ?_
        refine xW_pure (fun _ _ _ _ _ => am_lconst (v := 0) d_Cell_isTrue_18 (by decide)) ?_
        refine xW_pure (fun _ _ _ _ _ => am_lcmp d_Cell_isTrue_19) ?_
        refine xW_ite (fun _ _ _ _ _ => am_if_eq (tgt := 27) d_Cell_isTrue_20 (by decide)) (fun _ => ?_) (fun _ => ?_)
        · refine xW_pure (fun _ _ _ _ _ => am_iconst (v := 0) d_Cell_isTrue_27 (by decide)) ?_
          exact xW_ret (fun _ _ _ _ _ => am_zret (ty := .boolean) rfl rfl d_Cell_isTrue_28)
        · refine xW_pure (fun _ _ _ _ _ => am_iconst (v := 1) d_Cell_isTrue_23 (by decide)) ?_
          refine xW_pure (fun _ _ _ _ _ => am_goto (tgt := 28) d_Cell_isTrue_24 (by decide)) ?_
          exact xW_ret (fun _ _ _ _ _ => am_zret (ty := .boolean) rfl rfl d_Cell_isTrue_28)
      · refine xW_pure (fun _ _ _ _ _ => am_iconst (v := 1) d_Cell_isTrue_23 (by decide)) ?_
        refine xW_pure (fun _ _ _ _ _ => am_goto (tgt := 28) d_Cell_isTrue_24 (by decide)) ?_
        exact xW_ret (fun _ _ _ _ _ => am_zret (ty := .boolean) rfl rfl d_Cell_isTrue_28)

set_option maxRecDepth 100000 in
def x_Mach_leave (d : Nat) (x0 : Nat) (s : HS) : Option (Unit × HS) := match d with
  | 0 => none
  | d + 1 => gd s x0 6 (bnd (x_Mach_below d x0 1 s) fun v2 s1 => ((gR s1 x0 6 0).bind fun v3 => ((aL s1 v3 v2).bind fun v4 => ((pV s1 x0 6 16 (.long v4)).bind fun s5 => ((gR s5 x0 6 1).bind fun v6 => ((aL s5 v6 v2).bind fun v7 => ((pV s5 x0 6 17 (.long v7)).bind fun s8 => ((gI s8 x0 6 9).bind fun v9 => (if v9 = 0 then ((pV s8 x0 6 15 (.int 1)).bind fun s10 => (some ((), s10))) else ((gI s8 x0 6 9).bind fun v11 => ((pV s8 x0 6 9 (.int (v11 - 1))).bind fun s12 => ((gI s12 x0 6 3).bind fun v13 => ((pV s12 x0 6 2 (.int v13)).bind fun s14 => ((gR s14 x0 6 6).bind fun v15 => ((gI s14 x0 6 9).bind fun v16 => ((aR "StowTongue$Unit" s14 v15 v16).bind fun v17 => ((pV s14 x0 6 4 (.ref v17)).bind fun s18 => ((gR s18 x0 6 7).bind fun v19 => ((gI s18 x0 6 9).bind fun v20 => ((aI s18 v19 v20).bind fun v21 => ((pV s18 x0 6 5 (.int v21)).bind fun s22 => ((gR s22 x0 6 8).bind fun v23 => ((gI s22 x0 6 9).bind fun v24 => ((aI s22 v23 v24).bind fun v25 => ((pV s22 x0 6 3 (.int v25)).bind fun s26 => ((gL s26 x0 6 16).bind fun v27 => ((gL s26 x0 6 17).bind fun v28 => (bnd (x_Mach_lay d x0 v27 v28 s26) fun v30 s29 => (some ((), s29))))))))))))))))))))))))))))))

set_option maxRecDepth 100000 in
set_option maxHeartbeats 4000000 in
theorem dx_Mach_leave (O : am_ok K X) (T : am_T K) {d : Nat} {x0 : Nat} {s : HS} : xM cvU K X m_Mach_leave d [.ref x0] s (x_Mach_leave d x0 s) := by
  cases d with
  | zero => exact xM_none
  | succ d =>
    unfold x_Mach_leave
    refine xM_enter (by decide +kernel) (Nat.le_of_ble_eq_true rfl) ?_
    refine xW_gd (fun _ => ?_)
    refine xW_pure (fun _ _ _ _ _ => am_aload_n d_Mach_leave_0 rfl rfl) ?_
    refine xW_pure (fun _ _ _ _ _ => am_iconst (v := 1) d_Mach_leave_1 (by decide)) ?_
    refine xW_callV O (dx_Mach_below O T) (fun _ e => ob_Mach_below e) rfl rfl rfl l_Mach_133 ⟨w_1071, w_43⟩ rfl (Nat.le_of_ble_eq_true rfl) d_Mach_leave_2 (fun v2 s1 _ => ?_)
    refine xW_pure (fun _ _ _ _ _ => am_istore_n d_Mach_leave_5 rfl (Nat.le_of_ble_eq_true rfl)) ?_
    refine xW_pure (fun _ _ _ _ _ => am_aload_n d_Mach_leave_6 rfl rfl) ?_
    refine xW_pure (fun _ _ _ _ _ => am_aload_n d_Mach_leave_7 rfl rfl) ?_
    refine xW_gR O f_Mach_7 d_Mach_leave_8 (fun v3 _ => ?_)
    refine xW_pure (fun _ _ _ _ _ => am_iload_n d_Mach_leave_11 rfl rfl) ?_
    refine xW_aL O d_Mach_leave_12 (fun v4 _ => ?_)
    refine xW_put O f_Mach_93 d_Mach_leave_13 (fun q hq => by cases hq; exact ⟨rfl, rfl, rfl⟩) (fun s5 _ => ?_)
    refine xW_pure (fun _ _ _ _ _ => am_aload_n d_Mach_leave_16 rfl rfl) ?_
    refine xW_pure (fun _ _ _ _ _ => am_aload_n d_Mach_leave_17 rfl rfl) ?_
    refine xW_gR O f_Mach_13 d_Mach_leave_18 (fun v6 _ => ?_)
    refine xW_pure (fun _ _ _ _ _ => am_iload_n d_Mach_leave_21 rfl rfl) ?_
    refine xW_aL O d_Mach_leave_22 (fun v7 _ => ?_)
    refine xW_put O f_Mach_97 d_Mach_leave_23 (fun q hq => by cases hq; exact ⟨rfl, rfl, rfl⟩) (fun s8 _ => ?_)
    refine xW_pure (fun _ _ _ _ _ => am_aload_n d_Mach_leave_26 rfl rfl) ?_
    refine xW_gI O f_Mach_51 d_Mach_leave_27 (fun v9 _ => ?_)
    refine xW_ite (fun _ _ _ _ _ k1 k2 => am_if_ne (tgt := 39) d_Mach_leave_30 (by decide) k2 k1) (fun _ => ?_) (fun _ => ?_)
    · refine xW_pure (fun _ _ _ _ _ => am_aload_n d_Mach_leave_33 rfl rfl) ?_
      refine xW_pure (fun _ _ _ _ _ => am_iconst (v := 1) d_Mach_leave_34 (by decide)) ?_
      refine xW_put O f_Mach_47 d_Mach_leave_35 (fun q hq => by cases hq; exact ⟨rfl, rfl, rfl⟩) (fun s10 _ => ?_)
      exact xW_ret (fun _ _ _ _ _ => am_vret rfl d_Mach_leave_38)
    · refine xW_pure (fun _ _ _ _ _ => am_aload_n d_Mach_leave_39 rfl rfl) ?_
      refine xW_pure (fun _ _ _ _ _ => am_dup d_Mach_leave_40 rfl) ?_
      refine xW_gI O f_Mach_51 d_Mach_leave_41 (fun v11 _ => ?_)
      refine xW_pure (fun _ _ _ _ _ => am_iconst (v := 1) d_Mach_leave_44 (by decide)) ?_
      refine xW_pure (fun _ _ _ _ _ => am_isub d_Mach_leave_45) ?_
      refine xW_put O f_Mach_51 d_Mach_leave_46 (fun q hq => by cases hq; exact ⟨rfl, rfl, rfl⟩) (fun s12 _ => ?_)
      refine xW_pure (fun _ _ _ _ _ => am_aload_n d_Mach_leave_49 rfl rfl) ?_
      refine xW_pure (fun _ _ _ _ _ => am_aload_n d_Mach_leave_50 rfl rfl) ?_
      refine xW_gI O f_Mach_171 d_Mach_leave_51 (fun v13 _ => ?_)
      refine xW_put O f_Mach_54 d_Mach_leave_54 (fun q hq => by cases hq; exact ⟨rfl, rfl, rfl⟩) (fun s14 _ => ?_)
      refine xW_pure (fun _ _ _ _ _ => am_aload_n d_Mach_leave_57 rfl rfl) ?_
      refine xW_pure (fun _ _ _ _ _ => am_aload_n d_Mach_leave_58 rfl rfl) ?_
      refine xW_gR O f_Mach_18 d_Mach_leave_59 (fun v15 _ => ?_)
      refine xW_pure (fun _ _ _ _ _ => am_aload_n d_Mach_leave_62 rfl rfl) ?_
      refine xW_gI O f_Mach_51 d_Mach_leave_63 (fun v16 _ => ?_)
      refine xW_aR O (by decide) d_Mach_leave_66 (fun v17 _ => ?_)
      refine xW_put O f_Mach_62 d_Mach_leave_67 (fun q hq => by cases hq; exact ⟨rfl, rfl, rfl⟩) (fun s18 _ => ?_)
      refine xW_pure (fun _ _ _ _ _ => am_aload_n d_Mach_leave_70 rfl rfl) ?_
      refine xW_pure (fun _ _ _ _ _ => am_aload_n d_Mach_leave_71 rfl rfl) ?_
      refine xW_gR O f_Mach_22 d_Mach_leave_72 (fun v19 _ => ?_)
      refine xW_pure (fun _ _ _ _ _ => am_aload_n d_Mach_leave_75 rfl rfl) ?_
      refine xW_gI O f_Mach_51 d_Mach_leave_76 (fun v20 _ => ?_)
      refine xW_aI O d_Mach_leave_79 (fun v21 _ => ?_)
      refine xW_put O f_Mach_66 d_Mach_leave_80 (fun q hq => by cases hq; exact ⟨rfl, rfl, rfl⟩) (fun s22 _ => ?_)
      refine xW_pure (fun _ _ _ _ _ => am_aload_n d_Mach_leave_83 rfl rfl) ?_
      refine xW_pure (fun _ _ _ _ _ => am_aload_n d_Mach_leave_84 rfl rfl) ?_
      refine xW_gR O f_Mach_26 d_Mach_leave_85 (fun v23 _ => ?_)
      refine xW_pure (fun _ _ _ _ _ => am_aload_n d_Mach_leave_88 rfl rfl) ?_
      refine xW_gI O f_Mach_51 d_Mach_leave_89 (fun v24 _ => ?_)
      refine xW_aI O d_Mach_leave_92 (fun v25 _ => ?_)
      refine xW_put O f_Mach_171 d_Mach_leave_93 (fun q hq => by cases hq; exact ⟨rfl, rfl, rfl⟩) (fun s26 _ => ?_)
      refine xW_pure (fun _ _ _ _ _ => am_aload_n d_Mach_leave_96 rfl rfl) ?_
      refine xW_pure (fun _ _ _ _ _ => am_aload_n d_Mach_leave_97 rfl rfl) ?_
      refine xW_gL O f_Mach_93 d_Mach_leave_98 (fun v27 _ => ?_)
      refine xW_pure (fun _ _ _ _ _ => am_aload_n d_Mach_leave_101 rfl rfl) ?_
      refine xW_gL O f_Mach_97 d_Mach_leave_102 (fun v28 _ => ?_)
      refine xW_callV O (dx_Mach_lay O T) (fun _ e => ob_Mach_lay e) rfl rfl rfl l_Mach_121 ⟨w_1080, w_44⟩ rfl (Nat.le_of_ble_eq_true rfl) d_Mach_leave_105 (fun v30 s29 _ => ?_)
      exact xW_ret (fun _ _ _ _ _ => am_vret rfl d_Mach_leave_108)

theorem ob_Mach_leave {d : Nat} {x0 : Nat} {s : HS} {y : Unit × HS} (h : x_Mach_leave d x0 s = some y) : isO s x0 6 = true := by
  cases d with
  | zero => cases h
  | succ d => exact (gd_spec h).1

set_option maxRecDepth 100000 in
def x_Out_addNumber_b55 (d : Nat) (l0 : Nat) (l3 : Int64) (l5 : Int64) (s : HS) : Option (Unit × HS) := loopK (fun (again58 : Int64 × Int32 × HS → Option (Unit × HS)) (z58 : Int64 × Int32 × HS) => (if 11 ≤ z58.2.1 then (some ((), z58.2.2)) else (if (lg_cmp z58.1 0) ≤ 0 then (some ((), z58.2.2)) else (if z58.1 = 0 then none else (bnd (x_Out_add d l0 ((48 + ((l3 / z58.1) - (l3 / z58.1) / 10 * 10)) : Int64).toInt32 z58.2.2) fun v2 s1 => (again58 ((z58.1 / 10), (z58.2.1 + 1), s1))))))) FU (l5, 0, s)

set_option maxRecDepth 100000 in
set_option maxHeartbeats 4000000 in
theorem dx_Out_addNumber_b55 (O : am_ok K X) (T : am_T K) {d : Nat} {l0 : Nat} {l3 : Int64} {l5 : Int64} {s : HS} : xW cvU K X m_Out_addNumber (d + 1) 55 [(0, .ref l0), (3, .long l3), (5, .long l5)] [] s (x_Out_addNumber_b55 d l0 l3 l5 s) := by
  unfold x_Out_addNumber_b55
  refine xW_pure (fun _ _ _ _ _ => am_iconst (v := 0) d_Out_addNumber_55 (by decide)) ?_
  refine xW_pure (fun _ _ _ _ _ => am_istore d_Out_addNumber_56 (Nat.le_of_ble_eq_true rfl)) ?_
  refine xW_locs (lv' := [(0, .ref l0), (3, .long l3), (5, .long l5), (7, .int 0)]) rfl ?_
  refine xW_loop (lvf := fun (z58 : Int64 × Int32 × HS) => [(0, .ref l0), (3, .long l3), (5, .long z58.1), (7, .int z58.2.1)]) (hsf := fun (z58 : Int64 × Int32 × HS) => z58.2.2) (fun again58 ih58 z58 => ?_) FU (l5, 0, s)
  refine xW_pure (fun _ _ _ _ _ => am_iload d_Out_addNumber_58 rfl) ?_
  refine xW_pure (fun _ _ _ _ _ => am_bipush (v := 11) d_Out_addNumber_60 (by decide)) ?_
  refine xW_ite (fun _ _ _ _ _ => am_icmp_ge (tgt := 103) d_Out_addNumber_62 (by decide)) (fun _ => ?_) (fun _ => ?_)
  · exact xW_ret (fun _ _ _ _ _ => am_vret rfl d_Out_addNumber_103)
  · refine xW_pure (fun _ _ _ _ _ => am_lload d_Out_addNumber_65 rfl) ?_
    refine xW_pure (fun _ _ _ _ _ => am_lconst (v := 0) d_Out_addNumber_67 (by decide)) ?_
    refine xW_pure (fun _ _ _ _ _ => am_lcmp d_Out_addNumber_68) ?_
    refine xW_ite (fun _ _ _ _ _ => am_if_le (tgt := 103) d_Out_addNumber_69 (by decide)) (fun _ => ?_) (fun _ => ?_)
    · exact xW_ret (fun _ _ _ _ _ => am_vret rfl d_Out_addNumber_103)
    · refine xW_pure (fun _ _ _ _ _ => am_aload_n d_Out_addNumber_72 rfl rfl) ?_
      refine xW_pure (fun _ _ _ _ _ => am_ldc2 (v := 48) w_1155 d_Out_addNumber_73) ?_
      refine xW_pure (fun _ _ _ _ _ => am_lload_n d_Out_addNumber_76 rfl rfl) ?_
      refine xW_pure (fun _ _ _ _ _ => am_lload d_Out_addNumber_77 rfl) ?_
      refine xW_by (fun _ => xW_none) (fun c79 => ?_)
      refine xW_pure (fun _ _ _ _ _ => am_ldiv d_Out_addNumber_79 c79) ?_
      refine xW_pure (fun _ _ _ _ _ => am_ldc2 (v := 10) w_1154 d_Out_addNumber_80) ?_
      refine xW_pure (fun _ _ _ _ _ => am_lrem d_Out_addNumber_83 (by decide)) ?_
      refine xW_pure (fun _ _ _ _ _ => am_ladd d_Out_addNumber_84) ?_
      refine xW_pure (fun _ _ _ _ _ => am_l2i d_Out_addNumber_85 rfl) ?_
      refine xW_callV O (dx_Out_add O T) (fun _ e => ob_Out_add e) rfl rfl rfl l_Out_33 ⟨w_1148, w_1149⟩ rfl (Nat.le_of_ble_eq_true rfl) d_Out_addNumber_86 (fun v2 s1 _ => ?_)
      refine xW_pure (fun _ _ _ _ _ => am_lload d_Out_addNumber_89 rfl) ?_
      refine xW_pure (fun _ _ _ _ _ => am_ldc2 (v := 10) w_1154 d_Out_addNumber_91) ?_
      refine xW_pure (fun _ _ _ _ _ => am_ldiv d_Out_addNumber_94 (by decide)) ?_
      refine xW_pure (fun _ _ _ _ _ => am_lstore d_Out_addNumber_95 (Nat.le_of_ble_eq_true rfl)) ?_
      refine xW_pure (fun _ _ _ _ _ => am_iinc (v := 1) d_Out_addNumber_97 rfl (by decide) (Nat.le_of_ble_eq_true rfl)) ?_
      refine xW_pure (fun _ _ _ _ _ => am_goto (tgt := 58) d_Out_addNumber_100 (by decide)) ?_
      refine xW_locs (lv' := [(0, .ref l0), (3, .long l3), (5, .long (z58.1 / 10)), (7, .int (z58.2.1 + 1))]) rfl ?_
      exact ih58 ((z58.1 / 10), (z58.2.1 + 1), s1)

set_option maxRecDepth 100000 in
def x_Out_addNumber_b12 (d : Nat) (l0 : Nat) (l1 : Int64) (s : HS) : Option (Unit × HS) := loopK (fun (again23 : Int64 × Int32 × HS → Option (Unit × HS)) (z23 : Int64 × Int32 × HS) => (if 10 ≤ z23.2.1 then (x_Out_addNumber_b55 d l0 (if 0 < l1 then l1 else -l1) z23.1 z23.2.2) else (if z23.1 = 0 then none else (if (lg_cmp ((if 0 < l1 then l1 else -l1) / z23.1) 10) < 0 then (x_Out_addNumber_b55 d l0 (if 0 < l1 then l1 else -l1) z23.1 z23.2.2) else (again23 ((z23.1 * 10), (z23.2.1 + 1), z23.2.2)))))) FU (1, 0, s)

set_option maxRecDepth 100000 in
set_option maxHeartbeats 4000000 in
theorem dx_Out_addNumber_b12 (O : am_ok K X) (T : am_T K) {d : Nat} {l0 : Nat} {l1 : Int64} {s : HS} : xW cvU K X m_Out_addNumber (d + 1) 12 [(0, .ref l0), (1, .long l1)] [] s (x_Out_addNumber_b12 d l0 l1 s) := by
  unfold x_Out_addNumber_b12
  refine xW_pure (fun _ _ _ _ _ => am_lload_n d_Out_addNumber_12 rfl rfl) ?_
  refine xW_pure (fun _ _ _ _ _ => am_mabsL w_1151 w_1152 w_164 w_1153 d_Out_addNumber_13 (Nat.le_of_ble_eq_true rfl) (by omega)) ?_
  refine xW_pure (fun _ _ _ _ _ => am_lstore_n d_Out_addNumber_16 rfl (Nat.le_of_ble_eq_true rfl)) ?_
  refine xW_pure (fun _ _ _ _ _ => am_lconst (v := 1) d_Out_addNumber_17 (by decide)) ?_
  refine xW_pure (fun _ _ _ _ _ => am_lstore d_Out_addNumber_18 (Nat.le_of_ble_eq_true rfl)) ?_
  refine xW_pure (fun _ _ _ _ _ => am_iconst (v := 0) d_Out_addNumber_20 (by decide)) ?_
  refine xW_pure (fun _ _ _ _ _ => am_istore d_Out_addNumber_21 (Nat.le_of_ble_eq_true rfl)) ?_
  refine xW_locs (lv' := [(0, .ref l0), (3, .long (if 0 < l1 then l1 else -l1)), (5, .long 1), (7, .int 0)]) rfl ?_
  refine xW_loop (lvf := fun (z23 : Int64 × Int32 × HS) => [(0, .ref l0), (3, .long (if 0 < l1 then l1 else -l1)), (5, .long z23.1), (7, .int z23.2.1)]) (hsf := fun (z23 : Int64 × Int32 × HS) => z23.2.2) (fun again23 ih23 z23 => ?_) FU (1, 0, s)
  refine xW_pure (fun _ _ _ _ _ => am_iload d_Out_addNumber_23 rfl) ?_
  refine xW_pure (fun _ _ _ _ _ => am_bipush (v := 10) d_Out_addNumber_25 (by decide)) ?_
  refine xW_ite (fun _ _ _ _ _ => am_icmp_ge (tgt := 55) d_Out_addNumber_27 (by decide)) (fun _ => ?_) (fun _ => ?_)
  · refine xW_locs (lv' := [(0, .ref l0), (3, .long (if 0 < l1 then l1 else -l1)), (5, .long z23.1)]) rfl ?_
    exact dx_Out_addNumber_b55 O T
  · refine xW_pure (fun _ _ _ _ _ => am_lload_n d_Out_addNumber_30 rfl rfl) ?_
    refine xW_pure (fun _ _ _ _ _ => am_lload d_Out_addNumber_31 rfl) ?_
    refine xW_by (fun _ => xW_none) (fun c33 => ?_)
    refine xW_pure (fun _ _ _ _ _ => am_ldiv d_Out_addNumber_33 c33) ?_
    refine xW_pure (fun _ _ _ _ _ => am_ldc2 (v := 10) w_1154 d_Out_addNumber_34) ?_
    refine xW_pure (fun _ _ _ _ _ => am_lcmp d_Out_addNumber_37) ?_
    refine xW_ite (fun _ _ _ _ _ => am_if_lt (tgt := 55) d_Out_addNumber_38 (by decide)) (fun _ => ?_) (fun _ => ?_)
    · refine xW_locs (lv' := [(0, .ref l0), (3, .long (if 0 < l1 then l1 else -l1)), (5, .long z23.1)]) rfl ?_
      exact dx_Out_addNumber_b55 O T
    · refine xW_pure (fun _ _ _ _ _ => am_lload d_Out_addNumber_41 rfl) ?_
      refine xW_pure (fun _ _ _ _ _ => am_ldc2 (v := 10) w_1154 d_Out_addNumber_43) ?_
      refine xW_pure (fun _ _ _ _ _ => am_lmul d_Out_addNumber_46) ?_
      refine xW_pure (fun _ _ _ _ _ => am_lstore d_Out_addNumber_47 (Nat.le_of_ble_eq_true rfl)) ?_
      refine xW_pure (fun _ _ _ _ _ => am_iinc (v := 1) d_Out_addNumber_49 rfl (by decide) (Nat.le_of_ble_eq_true rfl)) ?_
      refine xW_pure (fun _ _ _ _ _ => am_goto (tgt := 23) d_Out_addNumber_52 (by decide)) ?_
      refine xW_locs (lv' := [(0, .ref l0), (3, .long (if 0 < l1 then l1 else -l1)), (5, .long (z23.1 * 10)), (7, .int (z23.2.1 + 1))]) rfl ?_
      exact ih23 ((z23.1 * 10), (z23.2.1 + 1), z23.2.2)

set_option maxRecDepth 100000 in
def x_Out_addNumber (d : Nat) (x0 : Nat) (x1 : Int64) (s : HS) : Option (Unit × HS) := match d with
  | 0 => none
  | d + 1 => gd s x0 0 (if 0 ≤ (lg_cmp x1 0) then (x_Out_addNumber_b12 d x0 x1 s) else (bnd (x_Out_add d x0 45 s) fun v4 s3 => (x_Out_addNumber_b12 d x0 x1 s3)))

set_option maxRecDepth 100000 in
set_option maxHeartbeats 4000000 in
theorem dx_Out_addNumber (O : am_ok K X) (T : am_T K) {d : Nat} {x0 : Nat} {x1 : Int64} {s : HS} : xM cvU K X m_Out_addNumber d [.ref x0, .long x1] s (x_Out_addNumber d x0 x1 s) := by
  cases d with
  | zero => exact xM_none
  | succ d =>
    unfold x_Out_addNumber
    refine xM_enter (by decide +kernel) (Nat.le_of_ble_eq_true rfl) ?_
    refine xW_gd (fun _ => ?_)
    refine xW_pure (fun _ _ _ _ _ => am_lload_n d_Out_addNumber_0 rfl rfl) ?_
    refine xW_pure (fun _ _ _ _ _ => am_lconst (v := 0) d_Out_addNumber_1 (by decide)) ?_
    refine xW_pure (fun _ _ _ _ _ => am_lcmp d_Out_addNumber_2) ?_
    refine xW_ite (fun _ _ _ _ _ => am_if_ge (tgt := 12) d_Out_addNumber_3 (by decide)) (fun _ => ?_) (fun _ => ?_)
    · refine xW_locs (lv' := [(0, .ref x0), (1, .long x1)]) rfl ?_
      exact dx_Out_addNumber_b12 O T
    · refine xW_pure (fun _ _ _ _ _ => am_aload_n d_Out_addNumber_6 rfl rfl) ?_
      refine xW_pure (fun _ _ _ _ _ => am_bipush (v := 45) d_Out_addNumber_7 (by decide)) ?_
      refine xW_callV O (dx_Out_add O T) (fun _ e => ob_Out_add e) rfl rfl rfl l_Out_33 ⟨w_1148, w_1149⟩ rfl (Nat.le_of_ble_eq_true rfl) d_Out_addNumber_9 (fun v4 s3 _ => ?_)
      refine xW_locs (lv' := [(0, .ref x0), (1, .long x1)]) rfl ?_
      exact dx_Out_addNumber_b12 O T

theorem ob_Out_addNumber {d : Nat} {x0 : Nat} {x1 : Int64} {s : HS} {y : Unit × HS} (h : x_Out_addNumber d x0 x1 s = some y) : isO s x0 0 = true := by
  cases d with
  | zero => cases h
  | succ d => exact (gd_spec h).1
end
