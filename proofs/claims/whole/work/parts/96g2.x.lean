section
variable {K : am_K} {X : Nat → am_C}
set_option maxRecDepth 100000 in
def x_Cell_signsOf (d : Nat) (x1 : Int64) (x2 : Int64) (s : HS) : Option (Int32 × HS) := match d with
  | 0 => none
  | d + 1 => loopK (fun (again3 : Int32 × HS → Option (Int32 × HS)) (z3 : Int32 × HS) => (if 16 ≤ z3.1 then (some (16, z3.2)) else (bnd (x_Cell_signAt d x1 x2 z3.1 z3.2) fun v2 s1 => (if v2 = 0 then (some (z3.1, s1)) else (again3 ((z3.1 + 1), s1)))))) FU (0, s)

set_option maxRecDepth 100000 in
set_option maxHeartbeats 4000000 in
theorem dx_Cell_signsOf (O : am_ok K X) (T : am_T K) {d : Nat} {x1 : Int64} {x2 : Int64} {s : HS} : xM cvI K X m_Cell_signsOf d [.long x1, .long x2] s (x_Cell_signsOf d x1 x2 s) := by
  cases d with
  | zero => exact xM_none
  | succ d =>
    unfold x_Cell_signsOf
    refine xM_enter (by decide +kernel) (Nat.le_of_ble_eq_true rfl) ?_
    refine xW_pure (fun _ _ _ _ _ => am_iconst (v := 0) d_Cell_signsOf_0 (by decide)) ?_
    refine xW_pure (fun _ _ _ _ _ => am_istore d_Cell_signsOf_1 (Nat.le_of_ble_eq_true rfl)) ?_
    refine xW_locs (lv' := [(0, .long x1), (2, .long x2), (4, .int 0)]) rfl ?_
    refine xW_loop (lvf := fun (z3 : Int32 × HS) => [(0, .long x1), (2, .long x2), (4, .int z3.1)]) (hsf := fun (z3 : Int32 × HS) => z3.2) (fun again3 ih3 z3 => ?_) FU (0, s)
    refine xW_pure (fun _ _ _ _ _ => am_iload d_Cell_signsOf_3 rfl) ?_
    refine xW_pure (fun _ _ _ _ _ => am_bipush (v := 16) d_Cell_signsOf_5 (by decide)) ?_
    refine xW_ite (fun _ _ _ _ _ => am_icmp_ge (tgt := 29) d_Cell_signsOf_7 (by decide)) (fun _ => ?_) (fun _ => ?_)
    · refine xW_pure (fun _ _ _ _ _ => am_bipush (v := 16) d_Cell_signsOf_29 (by decide)) ?_
      exact xW_ret (fun _ _ _ _ _ => am_iret rfl d_Cell_signsOf_31)
    · refine xW_pure (fun _ _ _ _ _ => am_lload_n d_Cell_signsOf_10 rfl rfl) ?_
      refine xW_pure (fun _ _ _ _ _ => am_lload_n d_Cell_signsOf_11 rfl rfl) ?_
      refine xW_pure (fun _ _ _ _ _ => am_iload d_Cell_signsOf_12 rfl) ?_
      refine xW_callS O (dx_Cell_signAt O T) rfl l_Cell_13 w_1164 rfl (Nat.le_of_ble_eq_true rfl) d_Cell_signsOf_14 (fun v2 s1 _ => ?_)
      refine xW_ite (fun _ _ _ _ _ k1 k2 => am_if_ne (tgt := 23) d_Cell_signsOf_17 (by decide) k2 k1) (fun _ => ?_) (fun _ => ?_)
      · refine xW_pure (fun _ _ _ _ _ => am_iload d_Cell_signsOf_20 rfl) ?_
        exact xW_ret (fun _ _ _ _ _ => am_iret rfl d_Cell_signsOf_22)
      · refine xW_pure (fun _ _ _ _ _ => am_iinc (v := 1) d_Cell_signsOf_23 rfl (by decide) (Nat.le_of_ble_eq_true rfl)) ?_
        refine xW_pure (fun _ _ _ _ _ => am_goto (tgt := 3) d_Cell_signsOf_26 (by decide)) ?_
        refine xW_locs (lv' := [(0, .long x1), (2, .long x2), (4, .int (z3.1 + 1))]) rfl ?_
        exact ih3 ((z3.1 + 1), s1)

set_option maxRecDepth 100000 in
def x_Mach_layNumber (d : Nat) (x0 : Nat) (x1 : Int64) (s : HS) : Option (Unit × HS) := match d with
  | 0 => none
  | d + 1 => gd s x0 6 (bnd (x_Cell_headOf d 1 s) fun v2 s1 => (bnd (x_Mach_lay d x0 v2 x1 s1) fun v4 s3 => (some ((), s3))))

set_option maxRecDepth 100000 in
set_option maxHeartbeats 4000000 in
theorem dx_Mach_layNumber (O : am_ok K X) (T : am_T K) {d : Nat} {x0 : Nat} {x1 : Int64} {s : HS} : xM cvU K X m_Mach_layNumber d [.ref x0, .long x1] s (x_Mach_layNumber d x0 x1 s) := by
  cases d with
  | zero => exact xM_none
  | succ d =>
    unfold x_Mach_layNumber
    refine xM_enter (by decide +kernel) (Nat.le_of_ble_eq_true rfl) ?_
    refine xW_gd (fun _ => ?_)
    refine xW_pure (fun _ _ _ _ _ => am_aload_n d_Mach_layNumber_0 rfl rfl) ?_
    refine xW_pure (fun _ _ _ _ _ => am_iconst (v := 1) d_Mach_layNumber_1 (by decide)) ?_
    refine xW_callS O (dx_Cell_headOf O T) rfl l_Mach_117 w_594 rfl (Nat.le_of_ble_eq_true rfl) d_Mach_layNumber_2 (fun v2 s1 _ => ?_)
    refine xW_pure (fun _ _ _ _ _ => am_lload_n d_Mach_layNumber_5 rfl rfl) ?_
    refine xW_callV O (dx_Mach_lay O T) (fun _ e => ob_Mach_lay e) rfl rfl rfl l_Mach_121 ⟨w_1080, w_44⟩ rfl (Nat.le_of_ble_eq_true rfl) d_Mach_layNumber_6 (fun v4 s3 _ => ?_)
    exact xW_ret (fun _ _ _ _ _ => am_vret rfl d_Mach_layNumber_9)

theorem ob_Mach_layNumber {d : Nat} {x0 : Nat} {x1 : Int64} {s : HS} {y : Unit × HS} (h : x_Mach_layNumber d x0 x1 s = some y) : isO s x0 6 = true := by
  cases d with
  | zero => cases h
  | succ d => exact (gd_spec h).1

set_option maxRecDepth 100000 in
def x_Mach_loadRoot (d : Nat) (x0 : Nat) (x1 : Int32) (s : HS) : Option (Unit × HS) := match d with
  | 0 => none
  | d + 1 => gd s x0 6 (if 0 ≤ x1 then ((gR s x0 6 10).bind fun v1 => ((gR s v1 10 4).bind fun v2 => ((aL s v2 x1).bind fun v3 => ((gR s x0 6 10).bind fun v4 => ((gR s v4 10 5).bind fun v5 => ((aL s v5 x1).bind fun v6 => (bnd (x_Mach_lay d x0 v3 v6 s) fun v8 s7 => (some ((), s7))))))))) else (bnd (x_Mach_lay d x0 0 0 s) fun v10 s9 => (some ((), s9))))

set_option maxRecDepth 100000 in
set_option maxHeartbeats 4000000 in
theorem dx_Mach_loadRoot (O : am_ok K X) (T : am_T K) {d : Nat} {x0 : Nat} {x1 : Int32} {s : HS} : xM cvU K X m_Mach_loadRoot d [.ref x0, .int x1] s (x_Mach_loadRoot d x0 x1 s) := by
  cases d with
  | zero => exact xM_none
  | succ d =>
    unfold x_Mach_loadRoot
    refine xM_enter (by decide +kernel) (Nat.le_of_ble_eq_true rfl) ?_
    refine xW_gd (fun _ => ?_)
    refine xW_pure (fun _ _ _ _ _ => am_iload_n d_Mach_loadRoot_0 rfl rfl) ?_
    refine xW_ite (fun _ _ _ _ _ => am_if_ge (tgt := 13) d_Mach_loadRoot_1 (by decide)) (fun _ => ?_) (fun _ => ?_)
    · refine xW_pure (fun _ _ _ _ _ => am_aload_n d_Mach_loadRoot_13 rfl rfl) ?_
      refine xW_pure (fun _ _ _ _ _ => am_aload_n d_Mach_loadRoot_14 rfl rfl) ?_
      refine xW_gR O f_Mach_29 d_Mach_loadRoot_15 (fun v1 _ => ?_)
      refine xW_gR O f_Mach_219 d_Mach_loadRoot_18 (fun v2 _ => ?_)
      refine xW_pure (fun _ _ _ _ _ => am_iload_n d_Mach_loadRoot_21 rfl rfl) ?_
      refine xW_aL O d_Mach_loadRoot_22 (fun v3 _ => ?_)
      refine xW_pure (fun _ _ _ _ _ => am_aload_n d_Mach_loadRoot_23 rfl rfl) ?_
      refine xW_gR O f_Mach_29 d_Mach_loadRoot_24 (fun v4 _ => ?_)
      refine xW_gR O f_Mach_222 d_Mach_loadRoot_27 (fun v5 _ => ?_)
      refine xW_pure (fun _ _ _ _ _ => am_iload_n d_Mach_loadRoot_30 rfl rfl) ?_
      refine xW_aL O d_Mach_loadRoot_31 (fun v6 _ => ?_)
      refine xW_callV O (dx_Mach_lay O T) (fun _ e => ob_Mach_lay e) rfl rfl rfl l_Mach_121 ⟨w_1080, w_44⟩ rfl (Nat.le_of_ble_eq_true rfl) d_Mach_loadRoot_32 (fun v8 s7 _ => ?_)
      exact xW_ret (fun _ _ _ _ _ => am_vret rfl d_Mach_loadRoot_35)
    · refine xW_pure (fun _ _ _ _ _ => am_aload_n d_Mach_loadRoot_4 rfl rfl) ?_
      refine xW_pure (fun _ _ _ _ _ => am_lconst (v := 0) d_Mach_loadRoot_5 (by decide)) ?_
      refine xW_pure (fun _ _ _ _ _ => am_lconst (v := 0) d_Mach_loadRoot_6 (by decide)) ?_
      refine xW_callV O (dx_Mach_lay O T) (fun _ e => ob_Mach_lay e) rfl rfl rfl l_Mach_121 ⟨w_1080, w_44⟩ rfl (Nat.le_of_ble_eq_true rfl) d_Mach_loadRoot_7 (fun v10 s9 _ => ?_)
      refine xW_pure (fun _ _ _ _ _ => am_goto (tgt := 35) d_Mach_loadRoot_10 (by decide)) ?_
      exact xW_ret (fun _ _ _ _ _ => am_vret rfl d_Mach_loadRoot_35)

theorem ob_Mach_loadRoot {d : Nat} {x0 : Nat} {x1 : Int32} {s : HS} {y : Unit × HS} (h : x_Mach_loadRoot d x0 x1 s = some y) : isO s x0 6 = true := by
  cases d with
  | zero => cases h
  | succ d => exact (gd_spec h).1

set_option maxRecDepth 100000 in
def x_Store_setRoot_b54 (d : Nat) (l0 : Nat) (l1 : Int64) (l3 : Int64) (l5 : Int64) (l7 : Int32) (s : HS) : Option (Int32 × HS) := (gR s l0 10 3).bind fun v7 => ((sV s .long v7 l7 (.long l1)).bind fun s8 => ((gR s8 l0 10 4).bind fun v9 => ((sV s8 .long v9 l7 (.long l3)).bind fun s10 => ((gR s10 l0 10 5).bind fun v11 => ((sV s10 .long v11 l7 (.long l5)).bind fun s12 => (some (1, s12)))))))

set_option maxRecDepth 100000 in
set_option maxHeartbeats 4000000 in
theorem dx_Store_setRoot_b54 (O : am_ok K X) (T : am_T K) {d : Nat} {l0 : Nat} {l1 : Int64} {l3 : Int64} {l5 : Int64} {l7 : Int32} {s : HS} : xW cvI K X m_Store_setRoot (d + 1) 54 [(0, .ref l0), (1, .long l1), (3, .long l3), (5, .long l5), (7, .int l7)] [] s (x_Store_setRoot_b54 d l0 l1 l3 l5 l7 s) := by
  unfold x_Store_setRoot_b54
  refine xW_pure (fun _ _ _ _ _ => am_aload_n d_Store_setRoot_54 rfl rfl) ?_
  refine xW_gR O f_Store_20 d_Store_setRoot_55 (fun v7 _ => ?_)
  refine xW_pure (fun _ _ _ _ _ => am_iload d_Store_setRoot_58 rfl) ?_
  refine xW_pure (fun _ _ _ _ _ => am_lload_n d_Store_setRoot_60 rfl rfl) ?_
  refine xW_sL O d_Store_setRoot_61 (fun s8 _ => ?_)
  refine xW_pure (fun _ _ _ _ _ => am_aload_n d_Store_setRoot_62 rfl rfl) ?_
  refine xW_gR O f_Store_23 d_Store_setRoot_63 (fun v9 _ => ?_)
  refine xW_pure (fun _ _ _ _ _ => am_iload d_Store_setRoot_66 rfl) ?_
  refine xW_pure (fun _ _ _ _ _ => am_lload_n d_Store_setRoot_68 rfl rfl) ?_
  refine xW_sL O d_Store_setRoot_69 (fun s10 _ => ?_)
  refine xW_pure (fun _ _ _ _ _ => am_aload_n d_Store_setRoot_70 rfl rfl) ?_
  refine xW_gR O f_Store_26 d_Store_setRoot_71 (fun v11 _ => ?_)
  refine xW_pure (fun _ _ _ _ _ => am_iload d_Store_setRoot_74 rfl) ?_
  refine xW_pure (fun _ _ _ _ _ => am_lload d_Store_setRoot_76 rfl) ?_
  refine xW_sL O d_Store_setRoot_78 (fun s12 _ => ?_)
  refine xW_pure (fun _ _ _ _ _ => am_iconst (v := 1) d_Store_setRoot_79 (by decide)) ?_
  exact xW_ret (fun _ _ _ _ _ => am_zret (ty := .boolean) rfl rfl d_Store_setRoot_80)

set_option maxRecDepth 100000 in
def x_Store_setRoot (d : Nat) (x0 : Nat) (x1 : Int64) (x2 : Int64) (x3 : Int64) (s : HS) : Option (Int32 × HS) := match d with
  | 0 => none
  | d + 1 => gd s x0 10 (bnd (x_Store_rootAt d x0 x1 s) fun v2 s1 => (bnd (x_Cell_sortOf d x2 s1) fun v4 s3 => (if v4 = 0 then (bnd (x_Store_dropRoot d x0 v2 s3) fun v6 s5 => (some (1, s5))) else (if 0 ≤ v2 then (x_Store_setRoot_b54 d x0 x1 x2 x3 v2 s3) else ((gI s3 x0 10 6).bind fun v13 => (if v13 < 12 then ((gI s3 x0 10 6).bind fun v14 => ((gI s3 x0 10 6).bind fun v15 => ((pV s3 x0 10 6 (.int (v15 + 1))).bind fun s16 => (x_Store_setRoot_b54 d x0 x1 x2 x3 v14 s16)))) else (some (0, s3))))))))

set_option maxRecDepth 100000 in
set_option maxHeartbeats 4000000 in
theorem dx_Store_setRoot (O : am_ok K X) (T : am_T K) {d : Nat} {x0 : Nat} {x1 : Int64} {x2 : Int64} {x3 : Int64} {s : HS} : xM cvI K X m_Store_setRoot d [.ref x0, .long x1, .long x2, .long x3] s (x_Store_setRoot d x0 x1 x2 x3 s) := by
  cases d with
  | zero => exact xM_none
  | succ d =>
    unfold x_Store_setRoot
    refine xM_enter (by decide +kernel) (Nat.le_of_ble_eq_true rfl) ?_
    refine xW_gd (fun _ => ?_)
    refine xW_pure (fun _ _ _ _ _ => am_aload_n d_Store_setRoot_0 rfl rfl) ?_
    refine xW_pure (fun _ _ _ _ _ => am_lload_n d_Store_setRoot_1 rfl rfl) ?_
    refine xW_callV O (dx_Store_rootAt O T) (fun _ e => ob_Store_rootAt e) rfl rfl rfl l_Store_83 ⟨w_1190, w_1191⟩ rfl (Nat.le_of_ble_eq_true rfl) d_Store_setRoot_2 (fun v2 s1 _ => ?_)
    refine xW_pure (fun _ _ _ _ _ => am_istore d_Store_setRoot_5 (Nat.le_of_ble_eq_true rfl)) ?_
    refine xW_pure (fun _ _ _ _ _ => am_lload_n d_Store_setRoot_7 rfl rfl) ?_
    refine xW_callS O (dx_Cell_sortOf O T) rfl l_Store_69 w_1104 rfl (Nat.le_of_ble_eq_true rfl) d_Store_setRoot_8 (fun v4 s3 _ => ?_)
    refine xW_ite (fun _ _ _ _ _ k1 k2 => am_if_ne (tgt := 22) d_Store_setRoot_11 (by decide) k2 k1) (fun _ => ?_) (fun _ => ?_)
    · refine xW_pure (fun _ _ _ _ _ => am_aload_n d_Store_setRoot_14 rfl rfl) ?_
      refine xW_pure (fun _ _ _ _ _ => am_iload d_Store_setRoot_15 rfl) ?_
      refine xW_callV O (dx_Store_dropRoot O T) (fun _ e => ob_Store_dropRoot e) rfl rfl rfl l_Store_86 ⟨w_1205, w_58⟩ rfl (Nat.le_of_ble_eq_true rfl) d_Store_setRoot_17 (fun v6 s5 _ => ?_)
      refine xW_pure (fun _ _ _ _ _ => am_iconst (v := 1) d_Store_setRoot_20 (by decide)) ?_
      exact xW_ret (fun _ _ _ _ _ => am_zret (ty := .boolean) rfl rfl d_Store_setRoot_21)
    · refine xW_pure (fun _ _ _ _ _ => am_iload d_Store_setRoot_22 rfl) ?_
      refine xW_ite (fun _ _ _ _ _ => am_if_ge (tgt := 54) d_Store_setRoot_24 (by decide)) (fun _ => ?_) (fun _ => ?_)
      · refine xW_locs (lv' := [(0, .ref x0), (1, .long x1), (3, .long x2), (5, .long x3), (7, .int v2)]) rfl ?_
        exact dx_Store_setRoot_b54 O T
      · refine xW_pure (fun _ _ _ _ _ => am_aload_n d_Store_setRoot_27 rfl rfl) ?_
        refine xW_gI O f_Store_47 d_Store_setRoot_28 (fun v13 _ => ?_)
        refine xW_pure (fun _ _ _ _ _ => am_bipush (v := 12) d_Store_setRoot_31 (by decide)) ?_
        refine xW_ite (fun _ _ _ _ _ => am_icmp_lt (tgt := 38) d_Store_setRoot_33 (by decide)) (fun _ => ?_) (fun _ => ?_)
        · refine xW_pure (fun _ _ _ _ _ => am_aload_n d_Store_setRoot_38 rfl rfl) ?_
          refine xW_gI O f_Store_47 d_Store_setRoot_39 (fun v14 _ => ?_)
          refine xW_pure (fun _ _ _ _ _ => am_istore d_Store_setRoot_42 (Nat.le_of_ble_eq_true rfl)) ?_
          refine xW_pure (fun _ _ _ _ _ => am_aload_n d_Store_setRoot_44 rfl rfl) ?_
          refine xW_pure (fun _ _ _ _ _ => am_dup d_Store_setRoot_45 rfl) ?_
          refine xW_gI O f_Store_47 d_Store_setRoot_46 (fun v15 _ => ?_)
          refine xW_pure (fun _ _ _ _ _ => am_iconst (v := 1) d_Store_setRoot_49 (by decide)) ?_
          refine xW_pure (fun _ _ _ _ _ => am_iadd d_Store_setRoot_50) ?_
          refine xW_put O f_Store_47 d_Store_setRoot_51 (fun q hq => by cases hq; exact ⟨rfl, rfl, rfl⟩) (fun s16 _ => ?_)
          refine xW_locs (lv' := [(0, .ref x0), (1, .long x1), (3, .long x2), (5, .long x3), (7, .int v14)]) rfl ?_
          exact dx_Store_setRoot_b54 O T
        · refine xW_pure (fun _ _ _ _ _ => am_iconst (v := 0) d_Store_setRoot_36 (by decide)) ?_
          exact xW_ret (fun _ _ _ _ _ => am_zret (ty := .boolean) rfl rfl d_Store_setRoot_37)

theorem ob_Store_setRoot {d : Nat} {x0 : Nat} {x1 : Int64} {x2 : Int64} {x3 : Int64} {s : HS} {y : Int32 × HS} (h : x_Store_setRoot d x0 x1 x2 x3 s = some y) : isO s x0 10 = true := by
  cases d with
  | zero => cases h
  | succ d => exact (gd_spec h).1

set_option maxRecDepth 100000 in
def x_Store_fieldCell (d : Nat) (x0 : Nat) (x1 : Int32) (x2 : Int64) (s : HS) : Option (Int32 × HS) := match d with
  | 0 => none
  | d + 1 => gd s x0 10 (bnd (x_Store_firstCell d x0 x1 s) fun v2 s1 => (bnd (x_Store_cellsOf d x0 x1 s1) fun v4 s3 => (loopK (fun (again21 : Int32 × HS → Option (Int32 × HS)) (z21 : Int32 × HS) => (if (v2 + v4) ≤ (z21.1 + 1) then (some ((-1), z21.2)) else ((gR z21.2 x0 10 0).bind fun v5 => ((aL z21.2 v5 z21.1).bind fun v6 => (if (lg_cmp v6 x2) = 0 then (some ((z21.1 + 1), z21.2)) else (again21 ((z21.1 + 2), z21.2))))))) FU (v2, s3))))

set_option maxRecDepth 100000 in
set_option maxHeartbeats 4000000 in
theorem dx_Store_fieldCell (O : am_ok K X) (T : am_T K) {d : Nat} {x0 : Nat} {x1 : Int32} {x2 : Int64} {s : HS} : xM cvI K X m_Store_fieldCell d [.ref x0, .int x1, .long x2] s (x_Store_fieldCell d x0 x1 x2 s) := by
  cases d with
  | zero => exact xM_none
  | succ d =>
    unfold x_Store_fieldCell
    refine xM_enter (by decide +kernel) (Nat.le_of_ble_eq_true rfl) ?_
    refine xW_gd (fun _ => ?_)
    refine xW_pure (fun _ _ _ _ _ => am_aload_n d_Store_fieldCell_0 rfl rfl) ?_
    refine xW_pure (fun _ _ _ _ _ => am_iload_n d_Store_fieldCell_1 rfl rfl) ?_
    refine xW_callV O (dx_Store_firstCell O T) (fun _ e => ob_Store_firstCell e) rfl rfl rfl l_Store_62 ⟨w_1220, w_1221⟩ rfl (Nat.le_of_ble_eq_true rfl) d_Store_fieldCell_2 (fun v2 s1 _ => ?_)
    refine xW_pure (fun _ _ _ _ _ => am_istore d_Store_fieldCell_5 (Nat.le_of_ble_eq_true rfl)) ?_
    refine xW_pure (fun _ _ _ _ _ => am_iload d_Store_fieldCell_7 rfl) ?_
    refine xW_pure (fun _ _ _ _ _ => am_aload_n d_Store_fieldCell_9 rfl rfl) ?_
    refine xW_pure (fun _ _ _ _ _ => am_iload_n d_Store_fieldCell_10 rfl rfl) ?_
    refine xW_callV O (dx_Store_cellsOf O T) (fun _ e => ob_Store_cellsOf e) rfl rfl rfl l_Store_58 ⟨w_1224, w_1225⟩ rfl (Nat.le_of_ble_eq_true rfl) d_Store_fieldCell_11 (fun v4 s3 _ => ?_)
    refine xW_pure (fun _ _ _ _ _ => am_iadd d_Store_fieldCell_14) ?_
    refine xW_pure (fun _ _ _ _ _ => am_istore d_Store_fieldCell_15 (Nat.le_of_ble_eq_true rfl)) ?_
    refine xW_pure (fun _ _ _ _ _ => am_iload d_Store_fieldCell_17 rfl) ?_
    refine xW_pure (fun _ _ _ _ _ => am_istore d_Store_fieldCell_19 (Nat.le_of_ble_eq_true rfl)) ?_
    refine xW_locs (lv' := [(0, .ref x0), (2, .long x2), (5, .int (v2 + v4)), (6, .int v2)]) rfl ?_
    refine xW_loop (lvf := fun (z21 : Int32 × HS) => [(0, .ref x0), (2, .long x2), (5, .int (v2 + v4)), (6, .int z21.1)]) (hsf := fun (z21 : Int32 × HS) => z21.2) (fun again21 ih21 z21 => ?_) FU (v2, s3)
    refine xW_pure (fun _ _ _ _ _ => am_iload d_Store_fieldCell_21 rfl) ?_
    refine xW_pure (fun _ _ _ _ _ => am_iconst (v := 1) d_Store_fieldCell_23 (by decide)) ?_
    refine xW_pure (fun _ _ _ _ _ => am_iadd d_Store_fieldCell_24) ?_
    refine xW_pure (fun _ _ _ _ _ => am_iload d_Store_fieldCell_25 rfl) ?_
    refine xW_ite (fun _ _ _ _ _ => am_icmp_ge (tgt := 53) d_Store_fieldCell_27 (by decide)) (fun _ => ?_) (fun _ => ?_)
    · refine xW_pure (fun _ _ _ _ _ => am_iconst (v := (-1)) d_Store_fieldCell_53 (by decide)) ?_
      exact xW_ret (fun _ _ _ _ _ => am_iret rfl d_Store_fieldCell_54)
    · refine xW_pure (fun _ _ _ _ _ => am_aload_n d_Store_fieldCell_30 rfl rfl) ?_
      refine xW_gR O f_Store_9 d_Store_fieldCell_31 (fun v5 _ => ?_)
      refine xW_pure (fun _ _ _ _ _ => am_iload d_Store_fieldCell_34 rfl) ?_
      refine xW_aL O d_Store_fieldCell_36 (fun v6 _ => ?_)
      refine xW_pure (fun _ _ _ _ _ => am_lload_n d_Store_fieldCell_37 rfl rfl) ?_
      refine xW_pure (fun _ _ _ _ _ => am_lcmp d_Store_fieldCell_38) ?_
      refine xW_ite (fun _ _ _ _ _ k1 k2 => am_if_ne (tgt := 47) d_Store_fieldCell_39 (by decide) k2 k1) (fun _ => ?_) (fun _ => ?_)
      · refine xW_pure (fun _ _ _ _ _ => am_iload d_Store_fieldCell_42 rfl) ?_
        refine xW_pure (fun _ _ _ _ _ => am_iconst (v := 1) d_Store_fieldCell_44 (by decide)) ?_
        refine xW_pure (fun _ _ _ _ _ => am_iadd d_Store_fieldCell_45) ?_
        exact xW_ret (fun _ _ _ _ _ => am_iret rfl d_Store_fieldCell_46)
      · refine xW_pure (fun _ _ _ _ _ => am_iinc (v := 2) d_Store_fieldCell_47 rfl (by decide) (Nat.le_of_ble_eq_true rfl)) ?_
        refine xW_pure (fun _ _ _ _ _ => am_goto (tgt := 21) d_Store_fieldCell_50 (by decide)) ?_
        refine xW_locs (lv' := [(0, .ref x0), (2, .long x2), (5, .int (v2 + v4)), (6, .int (z21.1 + 2))]) rfl ?_
        exact ih21 ((z21.1 + 2), z21.2)

theorem ob_Store_fieldCell {d : Nat} {x0 : Nat} {x1 : Int32} {x2 : Int64} {s : HS} {y : Int32 × HS} (h : x_Store_fieldCell d x0 x1 x2 s = some y) : isO s x0 10 = true := by
  cases d with
  | zero => cases h
  | succ d => exact (gd_spec h).1

set_option maxRecDepth 100000 in
def x_Store_append (d : Nat) (x0 : Nat) (x1 : Int32) (x2 : Int64) (x3 : Int64) (s : HS) : Option (Int32 × HS) := match d with
  | 0 => none
  | d + 1 => gd s x0 10 (bnd (x_Store_cellsOf d x0 x1 s) fun v2 s1 => (bnd (x_Store_isThere d x0 x1 s1) fun v4 s3 => (if v4 = 0 then (some (0, s3)) else (if v2 < 20 then (bnd (x_Store_firstCell d x0 x1 s3) fun v6 s5 => ((gR s5 x0 10 0).bind fun v7 => ((sV s5 .long v7 (v6 + v2) (.long x2)).bind fun s8 => ((gR s8 x0 10 1).bind fun v9 => ((sV s8 .long v9 (v6 + v2) (.long x3)).bind fun s10 => ((gR s10 x0 10 2).bind fun v11 => ((sV s10 .int v11 x1 (.int (v2 + 1))).bind fun s12 => (some (1, s12))))))))) else (some (0, s3))))))

set_option maxRecDepth 100000 in
set_option maxHeartbeats 4000000 in
theorem dx_Store_append (O : am_ok K X) (T : am_T K) {d : Nat} {x0 : Nat} {x1 : Int32} {x2 : Int64} {x3 : Int64} {s : HS} : xM cvI K X m_Store_append d [.ref x0, .int x1, .long x2, .long x3] s (x_Store_append d x0 x1 x2 x3 s) := by
  cases d with
  | zero => exact xM_none
  | succ d =>
    unfold x_Store_append
    refine xM_enter (by decide +kernel) (Nat.le_of_ble_eq_true rfl) ?_
    refine xW_gd (fun _ => ?_)
    refine xW_pure (fun _ _ _ _ _ => am_aload_n d_Store_append_0 rfl rfl) ?_
    refine xW_pure (fun _ _ _ _ _ => am_iload_n d_Store_append_1 rfl rfl) ?_
    refine xW_callV O (dx_Store_cellsOf O T) (fun _ e => ob_Store_cellsOf e) rfl rfl rfl l_Store_58 ⟨w_1224, w_1225⟩ rfl (Nat.le_of_ble_eq_true rfl) d_Store_append_2 (fun v2 s1 _ => ?_)
    refine xW_pure (fun _ _ _ _ _ => am_istore d_Store_append_5 (Nat.le_of_ble_eq_true rfl)) ?_
    refine xW_pure (fun _ _ _ _ _ => am_aload_n d_Store_append_7 rfl rfl) ?_
    refine xW_pure (fun _ _ _ _ _ => am_iload_n d_Store_append_8 rfl rfl) ?_
    refine xW_callV O (dx_Store_isThere O T) (fun _ e => ob_Store_isThere e) rfl rfl rfl l_Store_54 ⟨w_1245, w_1246⟩ rfl (Nat.le_of_ble_eq_true rfl) d_Store_append_9 (fun v4 s3 _ => ?_)
    refine xW_ite (fun _ _ _ _ _ => am_if_eq (tgt := 22) d_Store_append_12 (by decide)) (fun _ => ?_) (fun _ => ?_)
    · refine xW_pure (fun _ _ _ _ _ => am_iconst (v := 0) d_Store_append_22 (by decide)) ?_
      exact xW_ret (fun _ _ _ _ _ => am_zret (ty := .boolean) rfl rfl d_Store_append_23)
    · refine xW_pure (fun _ _ _ _ _ => am_iload d_Store_append_15 rfl) ?_
      refine xW_pure (fun _ _ _ _ _ => am_bipush (v := 20) d_Store_append_17 (by decide)) ?_
      refine xW_ite (fun _ _ _ _ _ => am_icmp_lt (tgt := 24) d_Store_append_19 (by decide)) (fun _ => ?_) (fun _ => ?_)
      · refine xW_pure (fun _ _ _ _ _ => am_aload_n d_Store_append_24 rfl rfl) ?_
        refine xW_pure (fun _ _ _ _ _ => am_iload_n d_Store_append_25 rfl rfl) ?_
        refine xW_callV O (dx_Store_firstCell O T) (fun _ e => ob_Store_firstCell e) rfl rfl rfl l_Store_62 ⟨w_1220, w_1221⟩ rfl (Nat.le_of_ble_eq_true rfl) d_Store_append_26 (fun v6 s5 _ => ?_)
        refine xW_pure (fun _ _ _ _ _ => am_iload d_Store_append_29 rfl) ?_
        refine xW_pure (fun _ _ _ _ _ => am_iadd d_Store_append_31) ?_
        refine xW_pure (fun _ _ _ _ _ => am_istore d_Store_append_32 (Nat.le_of_ble_eq_true rfl)) ?_
        refine xW_pure (fun _ _ _ _ _ => am_aload_n d_Store_append_34 rfl rfl) ?_
        refine xW_gR O f_Store_9 d_Store_append_35 (fun v7 _ => ?_)
        refine xW_pure (fun _ _ _ _ _ => am_iload d_Store_append_38 rfl) ?_
        refine xW_pure (fun _ _ _ _ _ => am_lload_n d_Store_append_40 rfl rfl) ?_
        refine xW_sL O d_Store_append_41 (fun s8 _ => ?_)
        refine xW_pure (fun _ _ _ _ _ => am_aload_n d_Store_append_42 rfl rfl) ?_
        refine xW_gR O f_Store_13 d_Store_append_43 (fun v9 _ => ?_)
        refine xW_pure (fun _ _ _ _ _ => am_iload d_Store_append_46 rfl) ?_
        refine xW_pure (fun _ _ _ _ _ => am_lload d_Store_append_48 rfl) ?_
        refine xW_sL O d_Store_append_50 (fun s10 _ => ?_)
        refine xW_pure (fun _ _ _ _ _ => am_aload_n d_Store_append_51 rfl rfl) ?_
        refine xW_gR O f_Store_16 d_Store_append_52 (fun v11 _ => ?_)
        refine xW_pure (fun _ _ _ _ _ => am_iload_n d_Store_append_55 rfl rfl) ?_
        refine xW_pure (fun _ _ _ _ _ => am_iload d_Store_append_56 rfl) ?_
        refine xW_pure (fun _ _ _ _ _ => am_iconst (v := 1) d_Store_append_58 (by decide)) ?_
        refine xW_pure (fun _ _ _ _ _ => am_iadd d_Store_append_59) ?_
        refine xW_sI O d_Store_append_60 (fun s12 _ => ?_)
        refine xW_pure (fun _ _ _ _ _ => am_iconst (v := 1) d_Store_append_61 (by decide)) ?_
        exact xW_ret (fun _ _ _ _ _ => am_zret (ty := .boolean) rfl rfl d_Store_append_62)
      · refine xW_pure (fun _ _ _ _ _ => am_iconst (v := 0) d_Store_append_22 (by decide)) ?_
        exact xW_ret (fun _ _ _ _ _ => am_zret (ty := .boolean) rfl rfl d_Store_append_23)

theorem ob_Store_append {d : Nat} {x0 : Nat} {x1 : Int32} {x2 : Int64} {x3 : Int64} {s : HS} {y : Int32 × HS} (h : x_Store_append d x0 x1 x2 x3 s = some y) : isO s x0 10 = true := by
  cases d with
  | zero => cases h
  | succ d => exact (gd_spec h).1

set_option maxRecDepth 100000 in
def x_Mach_loadItem (d : Nat) (x0 : Nat) (s : HS) : Option (Unit × HS) := match d with
  | 0 => none
  | d + 1 => gd s x0 6 (bnd (x_Mach_below d x0 2 s) fun v2 s1 => (bnd (x_Mach_below d x0 1 s1) fun v4 s3 => ((pV s3 x0 6 2 (.int v2)).bind fun s5 => (bnd (x_Mach_sortAt d x0 v2 s5) fun v7 s6 => (if v7 = 4 then ((gR s6 x0 6 10).bind fun v8 => (bnd (x_Mach_objectAt d x0 v2 s6) fun v10 s9 => (bnd (x_Store_cellsOf d v8 v10 s9) fun v12 s11 => (bnd (x_Mach_isWithin d x0 v4 v12 s11) fun v14 s13 => (if v14 = 0 then (some ((), s13)) else ((gR s13 x0 6 10).bind fun v15 => (bnd (x_Mach_objectAt d x0 v2 s13) fun v17 s16 => (bnd (x_Store_firstCell d v15 v17 s16) fun v19 s18 => ((gR s18 x0 6 1).bind fun v20 => ((aL s18 v20 v4).bind fun v21 => ((gR s18 x0 6 10).bind fun v22 => ((gR s18 v22 10 0).bind fun v23 => ((aL s18 v23 (v19 + (v21 : Int64).toInt32)).bind fun v24 => ((gR s18 x0 6 10).bind fun v25 => ((gR s18 v25 10 1).bind fun v26 => ((aL s18 v26 (v19 + (v21 : Int64).toInt32)).bind fun v27 => (bnd (x_Mach_lay d x0 v24 v27 s18) fun v29 s28 => (some ((), s28))))))))))))))))))) else (bnd (x_Mach_sortAt d x0 v2 s6) fun v31 s30 => (if v31 = 2 then ((gR s30 x0 6 0).bind fun v32 => ((aL s30 v32 v2).bind fun v33 => ((gR s30 x0 6 1).bind fun v34 => ((aL s30 v34 v2).bind fun v35 => (bnd (x_Cell_signsOf d v33 v35 s30) fun v37 s36 => (bnd (x_Mach_isWithin d x0 v4 v37 s36) fun v39 s38 => (if v39 = 0 then (some ((), s38)) else ((gR s38 x0 6 0).bind fun v40 => ((aL s38 v40 v2).bind fun v41 => ((gR s38 x0 6 1).bind fun v42 => ((aL s38 v42 v2).bind fun v43 => ((gR s38 x0 6 1).bind fun v44 => ((aL s38 v44 v4).bind fun v45 => (bnd (x_Cell_signAt d v41 v43 (v45 : Int64).toInt32 s38) fun v47 s46 => (bnd (x_Cell_headOf d 2 s46) fun v49 s48 => (bnd (x_Cell_placed d v47 0 s48) fun v51 s50 => (bnd (x_Mach_lay d x0 (v49 ||| v51) 0 s50) fun v53 s52 => (some ((), s52))))))))))))))))))) else (bnd (x_Mach_fail d x0 2 s30) fun v55 s54 => (some ((), s54))))))))))

set_option maxRecDepth 100000 in
set_option maxHeartbeats 4000000 in
theorem dx_Mach_loadItem (O : am_ok K X) (T : am_T K) {d : Nat} {x0 : Nat} {s : HS} : xM cvU K X m_Mach_loadItem d [.ref x0] s (x_Mach_loadItem d x0 s) := by
  cases d with
  | zero => exact xM_none
  | succ d =>
    unfold x_Mach_loadItem
    refine xM_enter (by decide +kernel) (Nat.le_of_ble_eq_true rfl) ?_
    refine xW_gd (fun _ => ?_)
    refine xW_pure (fun _ _ _ _ _ => am_aload_n d_Mach_loadItem_0 rfl rfl) ?_
    refine xW_pure (fun _ _ _ _ _ => am_iconst (v := 2) d_Mach_loadItem_1 (by decide)) ?_
    refine xW_callV O (dx_Mach_below O T) (fun _ e => ob_Mach_below e) rfl rfl rfl l_Mach_133 ⟨w_1071, w_43⟩ rfl (Nat.le_of_ble_eq_true rfl) d_Mach_loadItem_2 (fun v2 s1 _ => ?_)
    refine xW_pure (fun _ _ _ _ _ => am_istore_n d_Mach_loadItem_5 rfl (Nat.le_of_ble_eq_true rfl)) ?_
    refine xW_pure (fun _ _ _ _ _ => am_aload_n d_Mach_loadItem_6 rfl rfl) ?_
    refine xW_pure (fun _ _ _ _ _ => am_iconst (v := 1) d_Mach_loadItem_7 (by decide)) ?_
    refine xW_callV O (dx_Mach_below O T) (fun _ e => ob_Mach_below e) rfl rfl rfl l_Mach_133 ⟨w_1071, w_43⟩ rfl (Nat.le_of_ble_eq_true rfl) d_Mach_loadItem_8 (fun v4 s3 _ => ?_)
    refine xW_pure (fun _ _ _ _ _ => am_istore_n d_Mach_loadItem_11 rfl (Nat.le_of_ble_eq_true rfl)) ?_
    refine xW_pure (fun _ _ _ _ _ => am_aload_n d_Mach_loadItem_12 rfl rfl) ?_
    refine xW_pure (fun _ _ _ _ _ => am_iload_n d_Mach_loadItem_13 rfl rfl) ?_
    refine xW_put O f_Mach_54 d_Mach_loadItem_14 (fun q hq => by cases hq; exact ⟨rfl, rfl, rfl⟩) (fun s5 _ => ?_)
    refine xW_pure (fun _ _ _ _ _ => am_aload_n d_Mach_loadItem_17 rfl rfl) ?_
    refine xW_pure (fun _ _ _ _ _ => am_iload_n d_Mach_loadItem_18 rfl rfl) ?_
    refine xW_callV O (dx_Mach_sortAt O T) (fun _ e => ob_Mach_sortAt e) rfl rfl rfl l_Mach_177 ⟨w_1140, w_52⟩ rfl (Nat.le_of_ble_eq_true rfl) d_Mach_loadItem_19 (fun v7 s6 _ => ?_)
    refine xW_pure (fun _ _ _ _ _ => am_iconst (v := 4) d_Mach_loadItem_22 (by decide)) ?_
    refine xW_ite (fun _ _ _ _ _ k1 k2 => am_icmp_ne (tgt := 92) d_Mach_loadItem_23 (by decide) k2 k1) (fun _ => ?_) (fun _ => ?_)
    · refine xW_pure (fun _ _ _ _ _ => am_aload_n d_Mach_loadItem_26 rfl rfl) ?_
      refine xW_pure (fun _ _ _ _ _ => am_iload_n d_Mach_loadItem_27 rfl rfl) ?_
      refine xW_pure (fun _ _ _ _ _ => am_aload_n d_Mach_loadItem_28 rfl rfl) ?_
      refine xW_gR O f_Mach_29 d_Mach_loadItem_29 (fun v8 _ => ?_)
      refine xW_pure (fun _ _ _ _ _ => am_aload_n d_Mach_loadItem_32 rfl rfl) ?_
      refine xW_pure (fun _ _ _ _ _ => am_iload_n d_Mach_loadItem_33 rfl rfl) ?_
      refine xW_callV O (dx_Mach_objectAt O T) (fun _ e => ob_Mach_objectAt e) rfl rfl rfl l_Mach_225 ⟨w_1213, w_60⟩ rfl (Nat.le_of_ble_eq_true rfl) d_Mach_loadItem_34 (fun v10 s9 _ => ?_)
      refine xW_callV O (dx_Store_cellsOf O T) (fun _ e => ob_Store_cellsOf e) rfl rfl rfl l_Mach_238 ⟨w_1224, w_1225⟩ rfl (Nat.le_of_ble_eq_true rfl) d_Mach_loadItem_37 (fun v12 s11 _ => ?_)
      refine xW_callV O (dx_Mach_isWithin O T) (fun _ e => ob_Mach_isWithin e) rfl rfl rfl l_Mach_241 ⟨w_1255, w_64⟩ rfl (Nat.le_of_ble_eq_true rfl) d_Mach_loadItem_40 (fun v14 s13 _ => ?_)
      refine xW_ite (fun _ _ _ _ _ => am_if_eq (tgt := 170) d_Mach_loadItem_43 (by decide)) (fun _ => ?_) (fun _ => ?_)
      · exact xW_ret (fun _ _ _ _ _ => am_vret rfl d_Mach_loadItem_170)
      · refine xW_pure (fun _ _ _ _ _ => am_aload_n d_Mach_loadItem_46 rfl rfl) ?_
        refine xW_gR O f_Mach_29 d_Mach_loadItem_47 (fun v15 _ => ?_)
        refine xW_pure (fun _ _ _ _ _ => am_aload_n d_Mach_loadItem_50 rfl rfl) ?_
        refine xW_pure (fun _ _ _ _ _ => am_iload_n d_Mach_loadItem_51 rfl rfl) ?_
        refine xW_callV O (dx_Mach_objectAt O T) (fun _ e => ob_Mach_objectAt e) rfl rfl rfl l_Mach_225 ⟨w_1213, w_60⟩ rfl (Nat.le_of_ble_eq_true rfl) d_Mach_loadItem_52 (fun v17 s16 _ => ?_)
        refine xW_callV O (dx_Store_firstCell O T) (fun _ e => ob_Store_firstCell e) rfl rfl rfl l_Mach_245 ⟨w_1220, w_1221⟩ rfl (Nat.le_of_ble_eq_true rfl) d_Mach_loadItem_55 (fun v19 s18 _ => ?_)
        refine xW_pure (fun _ _ _ _ _ => am_aload_n d_Mach_loadItem_58 rfl rfl) ?_
        refine xW_gR O f_Mach_13 d_Mach_loadItem_59 (fun v20 _ => ?_)
        refine xW_pure (fun _ _ _ _ _ => am_iload_n d_Mach_loadItem_62 rfl rfl) ?_
        refine xW_aL O d_Mach_loadItem_63 (fun v21 _ => ?_)
        refine xW_pure (fun _ _ _ _ _ => am_l2i d_Mach_loadItem_64 rfl) ?_
        refine xW_pure (fun _ _ _ _ _ => am_iadd d_Mach_loadItem_65) ?_
        refine xW_pure (fun _ _ _ _ _ => am_istore_n d_Mach_loadItem_66 rfl (Nat.le_of_ble_eq_true rfl)) ?_
        refine xW_pure (fun _ _ _ _ _ => am_aload_n d_Mach_loadItem_67 rfl rfl) ?_
        refine xW_pure (fun _ _ _ _ _ => am_aload_n d_Mach_loadItem_68 rfl rfl) ?_
        refine xW_gR O f_Mach_29 d_Mach_loadItem_69 (fun v22 _ => ?_)
        refine xW_gR O f_Mach_232 d_Mach_loadItem_72 (fun v23 _ => ?_)
        refine xW_pure (fun _ _ _ _ _ => am_iload_n d_Mach_loadItem_75 rfl rfl) ?_
        refine xW_aL O d_Mach_loadItem_76 (fun v24 _ => ?_)
        refine xW_pure (fun _ _ _ _ _ => am_aload_n d_Mach_loadItem_77 rfl rfl) ?_
        refine xW_gR O f_Mach_29 d_Mach_loadItem_78 (fun v25 _ => ?_)
        refine xW_gR O f_Mach_233 d_Mach_loadItem_81 (fun v26 _ => ?_)
        refine xW_pure (fun _ _ _ _ _ => am_iload_n d_Mach_loadItem_84 rfl rfl) ?_
        refine xW_aL O d_Mach_loadItem_85 (fun v27 _ => ?_)
        refine xW_callV O (dx_Mach_lay O T) (fun _ e => ob_Mach_lay e) rfl rfl rfl l_Mach_121 ⟨w_1080, w_44⟩ rfl (Nat.le_of_ble_eq_true rfl) d_Mach_loadItem_86 (fun v29 s28 _ => ?_)
        refine xW_pure (fun _ _ _ _ _ => am_goto (tgt := 170) d_Mach_loadItem_89 (by decide)) ?_
        exact xW_ret (fun _ _ _ _ _ => am_vret rfl d_Mach_loadItem_170)
    · refine xW_pure (fun _ _ _ _ _ => am_aload_n d_Mach_loadItem_92 rfl rfl) ?_
      refine xW_pure (fun _ _ _ _ _ => am_iload_n d_Mach_loadItem_93 rfl rfl) ?_
      refine xW_callV O (dx_Mach_sortAt O T) (fun _ e => ob_Mach_sortAt e) rfl rfl rfl l_Mach_177 ⟨w_1140, w_52⟩ rfl (Nat.le_of_ble_eq_true rfl) d_Mach_loadItem_94 (fun v31 s30 _ => ?_)
      refine xW_pure (fun _ _ _ _ _ => am_iconst (v := 2) d_Mach_loadItem_97 (by decide)) ?_
      refine xW_ite (fun _ _ _ _ _ k1 k2 => am_icmp_ne (tgt := 165) d_Mach_loadItem_98 (by decide) k2 k1) (fun _ => ?_) (fun _ => ?_)
      · refine xW_pure (fun _ _ _ _ _ => am_aload_n d_Mach_loadItem_101 rfl rfl) ?_
        refine xW_pure (fun _ _ _ _ _ => am_iload_n d_Mach_loadItem_102 rfl rfl) ?_
        refine xW_pure (fun _ _ _ _ _ => am_aload_n d_Mach_loadItem_103 rfl rfl) ?_
        refine xW_gR O f_Mach_7 d_Mach_loadItem_104 (fun v32 _ => ?_)
        refine xW_pure (fun _ _ _ _ _ => am_iload_n d_Mach_loadItem_107 rfl rfl) ?_
        refine xW_aL O d_Mach_loadItem_108 (fun v33 _ => ?_)
        refine xW_pure (fun _ _ _ _ _ => am_aload_n d_Mach_loadItem_109 rfl rfl) ?_
        refine xW_gR O f_Mach_13 d_Mach_loadItem_110 (fun v34 _ => ?_)
        refine xW_pure (fun _ _ _ _ _ => am_iload_n d_Mach_loadItem_113 rfl rfl) ?_
        refine xW_aL O d_Mach_loadItem_114 (fun v35 _ => ?_)
        refine xW_callS O (dx_Cell_signsOf O T) rfl l_Mach_248 w_1161 rfl (Nat.le_of_ble_eq_true rfl) d_Mach_loadItem_115 (fun v37 s36 _ => ?_)
        refine xW_callV O (dx_Mach_isWithin O T) (fun _ e => ob_Mach_isWithin e) rfl rfl rfl l_Mach_241 ⟨w_1255, w_64⟩ rfl (Nat.le_of_ble_eq_true rfl) d_Mach_loadItem_118 (fun v39 s38 _ => ?_)
        refine xW_ite (fun _ _ _ _ _ => am_if_eq (tgt := 170) d_Mach_loadItem_121 (by decide)) (fun _ => ?_) (fun _ => ?_)
        · exact xW_ret (fun _ _ _ _ _ => am_vret rfl d_Mach_loadItem_170)
        · refine xW_pure (fun _ _ _ _ _ => am_aload_n d_Mach_loadItem_124 rfl rfl) ?_
          refine xW_gR O f_Mach_7 d_Mach_loadItem_125 (fun v40 _ => ?_)
          refine xW_pure (fun _ _ _ _ _ => am_iload_n d_Mach_loadItem_128 rfl rfl) ?_
          refine xW_aL O d_Mach_loadItem_129 (fun v41 _ => ?_)
          refine xW_pure (fun _ _ _ _ _ => am_aload_n d_Mach_loadItem_130 rfl rfl) ?_
          refine xW_gR O f_Mach_13 d_Mach_loadItem_131 (fun v42 _ => ?_)
          refine xW_pure (fun _ _ _ _ _ => am_iload_n d_Mach_loadItem_134 rfl rfl) ?_
          refine xW_aL O d_Mach_loadItem_135 (fun v43 _ => ?_)
          refine xW_pure (fun _ _ _ _ _ => am_aload_n d_Mach_loadItem_136 rfl rfl) ?_
          refine xW_gR O f_Mach_13 d_Mach_loadItem_137 (fun v44 _ => ?_)
          refine xW_pure (fun _ _ _ _ _ => am_iload_n d_Mach_loadItem_140 rfl rfl) ?_
          refine xW_aL O d_Mach_loadItem_141 (fun v45 _ => ?_)
          refine xW_pure (fun _ _ _ _ _ => am_l2i d_Mach_loadItem_142 rfl) ?_
          refine xW_callS O (dx_Cell_signAt O T) rfl l_Mach_252 w_1164 rfl (Nat.le_of_ble_eq_true rfl) d_Mach_loadItem_143 (fun v47 s46 _ => ?_)
          refine xW_pure (fun _ _ _ _ _ => am_istore_n d_Mach_loadItem_146 rfl (Nat.le_of_ble_eq_true rfl)) ?_
          refine xW_pure (fun _ _ _ _ _ => am_aload_n d_Mach_loadItem_147 rfl rfl) ?_
          refine xW_pure (fun _ _ _ _ _ => am_iconst (v := 2) d_Mach_loadItem_148 (by decide)) ?_
          refine xW_callS O (dx_Cell_headOf O T) rfl l_Mach_117 w_594 rfl (Nat.le_of_ble_eq_true rfl) d_Mach_loadItem_149 (fun v49 s48 _ => ?_)
          refine xW_pure (fun _ _ _ _ _ => am_iload_n d_Mach_loadItem_152 rfl rfl) ?_
          refine xW_pure (fun _ _ _ _ _ => am_iconst (v := 0) d_Mach_loadItem_153 (by decide)) ?_
          refine xW_callS O (dx_Cell_placed O T) rfl l_Mach_256 w_258 rfl (Nat.le_of_ble_eq_true rfl) d_Mach_loadItem_154 (fun v51 s50 _ => ?_)
          refine xW_pure (fun _ _ _ _ _ => am_lor d_Mach_loadItem_157) ?_
          refine xW_pure (fun _ _ _ _ _ => am_lconst (v := 0) d_Mach_loadItem_158 (by decide)) ?_
          refine xW_callV O (dx_Mach_lay O T) (fun _ e => ob_Mach_lay e) rfl rfl rfl l_Mach_121 ⟨w_1080, w_44⟩ rfl (Nat.le_of_ble_eq_true rfl) d_Mach_loadItem_159 (fun v53 s52 _ => ?_)
          refine xW_pure (fun _ _ _ _ _ => am_goto (tgt := 170) d_Mach_loadItem_162 (by decide)) ?_
          exact xW_ret (fun _ _ _ _ _ => am_vret rfl d_Mach_loadItem_170)
      · refine xW_pure (fun _ _ _ _ _ => am_aload_n d_Mach_loadItem_165 rfl rfl) ?_
        refine xW_pure (fun _ _ _ _ _ => am_iconst (v := 2) d_Mach_loadItem_166 (by decide)) ?_
        refine xW_callV O (dx_Mach_fail O T) (fun _ e => ob_Mach_fail e) rfl rfl rfl l_Mach_106 ⟨w_1084, w_45⟩ rfl (Nat.le_of_ble_eq_true rfl) d_Mach_loadItem_167 (fun v55 s54 _ => ?_)
        exact xW_ret (fun _ _ _ _ _ => am_vret rfl d_Mach_loadItem_170)

theorem ob_Mach_loadItem {d : Nat} {x0 : Nat} {s : HS} {y : Unit × HS} (h : x_Mach_loadItem d x0 s = some y) : isO s x0 6 = true := by
  cases d with
  | zero => cases h
  | succ d => exact (gd_spec h).1

set_option maxRecDepth 100000 in
def x_Mach_makeRow (d : Nat) (x0 : Nat) (x1 : Int32) (s : HS) : Option (Unit × HS) := match d with
  | 0 => none
  | d + 1 => gd s x0 6 (bnd (x_Mach_below d x0 x1 s) fun v2 s1 => ((gR s1 x0 6 10).bind fun v3 => (bnd (x_Store_make d v3 s1) fun v5 s4 => (if 0 ≤ v5 then (loopK (fun (again28 : Int32 × HS → Option (Unit × HS)) (z28 : Int32 × HS) => ((gI z28.2 x0 6 2).bind fun v6 => (if v6 ≤ z28.1 then ((pV z28.2 x0 6 2 (.int v2)).bind fun s7 => (bnd (x_Cell_headOf d 4 s7) fun v9 s8 => (bnd (x_Mach_lay d x0 v9 (v5 : Int32).toInt64 s8) fun v11 s10 => (some ((), s10))))) else ((gR z28.2 x0 6 10).bind fun v12 => ((gR z28.2 x0 6 0).bind fun v13 => ((aL z28.2 v13 z28.1).bind fun v14 => ((gR z28.2 x0 6 1).bind fun v15 => ((aL z28.2 v15 z28.1).bind fun v16 => (bnd (x_Store_append d v12 v5 v14 v16 z28.2) fun v18 s17 => (if v18 = 0 then (bnd (x_Mach_fail d x0 4 s17) fun v20 s19 => (some ((), s19))) else (again28 ((z28.1 + 1), s17)))))))))))) FU (v2, s4)) else (bnd (x_Mach_fail d x0 8 s4) fun v22 s21 => (some ((), s21)))))))

set_option maxRecDepth 100000 in
set_option maxHeartbeats 4000000 in
theorem dx_Mach_makeRow (O : am_ok K X) (T : am_T K) {d : Nat} {x0 : Nat} {x1 : Int32} {s : HS} : xM cvU K X m_Mach_makeRow d [.ref x0, .int x1] s (x_Mach_makeRow d x0 x1 s) := by
  cases d with
  | zero => exact xM_none
  | succ d =>
    unfold x_Mach_makeRow
    refine xM_enter (by decide +kernel) (Nat.le_of_ble_eq_true rfl) ?_
    refine xW_gd (fun _ => ?_)
    refine xW_pure (fun _ _ _ _ _ => am_aload_n d_Mach_makeRow_0 rfl rfl) ?_
    refine xW_pure (fun _ _ _ _ _ => am_iload_n d_Mach_makeRow_1 rfl rfl) ?_
    refine xW_callV O (dx_Mach_below O T) (fun _ e => ob_Mach_below e) rfl rfl rfl l_Mach_133 ⟨w_1071, w_43⟩ rfl (Nat.le_of_ble_eq_true rfl) d_Mach_makeRow_2 (fun v2 s1 _ => ?_)
    refine xW_pure (fun _ _ _ _ _ => am_istore_n d_Mach_makeRow_5 rfl (Nat.le_of_ble_eq_true rfl)) ?_
    refine xW_pure (fun _ _ _ _ _ => am_aload_n d_Mach_makeRow_6 rfl rfl) ?_
    refine xW_gR O f_Mach_29 d_Mach_makeRow_7 (fun v3 _ => ?_)
    refine xW_callV O (dx_Store_make O T) (fun _ e => ob_Store_make e) rfl rfl rfl l_Mach_275 ⟨w_1274, w_1275⟩ rfl (Nat.le_of_ble_eq_true rfl) d_Mach_makeRow_10 (fun v5 s4 _ => ?_)
    refine xW_pure (fun _ _ _ _ _ => am_istore_n d_Mach_makeRow_13 rfl (Nat.le_of_ble_eq_true rfl)) ?_
    refine xW_pure (fun _ _ _ _ _ => am_iload_n d_Mach_makeRow_14 rfl rfl) ?_
    refine xW_ite (fun _ _ _ _ _ => am_if_ge (tgt := 25) d_Mach_makeRow_15 (by decide)) (fun _ => ?_) (fun _ => ?_)
    · refine xW_pure (fun _ _ _ _ _ => am_iload_n d_Mach_makeRow_25 rfl rfl) ?_
      refine xW_pure (fun _ _ _ _ _ => am_istore d_Mach_makeRow_26 (Nat.le_of_ble_eq_true rfl)) ?_
      refine xW_locs (lv' := [(0, .ref x0), (2, .int v2), (3, .int v5), (4, .int v2)]) rfl ?_
      refine xW_loop (lvf := fun (z28 : Int32 × HS) => [(0, .ref x0), (2, .int v2), (3, .int v5), (4, .int z28.1)]) (hsf := fun (z28 : Int32 × HS) => z28.2) (fun again28 ih28 z28 => ?_) FU (v2, s4)
      refine xW_pure (fun _ _ _ _ _ => am_iload d_Mach_makeRow_28 rfl) ?_
      refine xW_pure (fun _ _ _ _ _ => am_aload_n d_Mach_makeRow_30 rfl rfl) ?_
      refine xW_gI O f_Mach_54 d_Mach_makeRow_31 (fun v6 _ => ?_)
      refine xW_ite (fun _ _ _ _ _ => am_icmp_ge (tgt := 74) d_Mach_makeRow_34 (by decide)) (fun _ => ?_) (fun _ => ?_)
      · refine xW_pure (fun _ _ _ _ _ => am_aload_n d_Mach_makeRow_74 rfl rfl) ?_
        refine xW_pure (fun _ _ _ _ _ => am_iload_n d_Mach_makeRow_75 rfl rfl) ?_
        refine xW_put O f_Mach_54 d_Mach_makeRow_76 (fun q hq => by cases hq; exact ⟨rfl, rfl, rfl⟩) (fun s7 _ => ?_)
        refine xW_pure (fun _ _ _ _ _ => am_aload_n d_Mach_makeRow_79 rfl rfl) ?_
        refine xW_pure (fun _ _ _ _ _ => am_iconst (v := 4) d_Mach_makeRow_80 (by decide)) ?_
        refine xW_callS O (dx_Cell_headOf O T) rfl l_Mach_117 w_594 rfl (Nat.le_of_ble_eq_true rfl) d_Mach_makeRow_81 (fun v9 s8 _ => ?_)
        refine xW_pure (fun _ _ _ _ _ => am_iload_n d_Mach_makeRow_84 rfl rfl) ?_
        refine xW_pure (fun _ _ _ _ _ => am_i2l d_Mach_makeRow_85 rfl) ?_
        refine xW_callV O (dx_Mach_lay O T) (fun _ e => ob_Mach_lay e) rfl rfl rfl l_Mach_121 ⟨w_1080, w_44⟩ rfl (Nat.le_of_ble_eq_true rfl) d_Mach_makeRow_86 (fun v11 s10 _ => ?_)
        exact xW_ret (fun _ _ _ _ _ => am_vret rfl d_Mach_makeRow_89)
      · refine xW_pure (fun _ _ _ _ _ => am_aload_n d_Mach_makeRow_37 rfl rfl) ?_
        refine xW_gR O f_Mach_29 d_Mach_makeRow_38 (fun v12 _ => ?_)
        refine xW_pure (fun _ _ _ _ _ => am_iload_n d_Mach_makeRow_41 rfl rfl) ?_
        refine xW_pure (fun _ _ _ _ _ => am_aload_n d_Mach_makeRow_42 rfl rfl) ?_
        refine xW_gR O f_Mach_7 d_Mach_makeRow_43 (fun v13 _ => ?_)
        refine xW_pure (fun _ _ _ _ _ => am_iload d_Mach_makeRow_46 rfl) ?_
        refine xW_aL O d_Mach_makeRow_48 (fun v14 _ => ?_)
        refine xW_pure (fun _ _ _ _ _ => am_aload_n d_Mach_makeRow_49 rfl rfl) ?_
        refine xW_gR O f_Mach_13 d_Mach_makeRow_50 (fun v15 _ => ?_)
        refine xW_pure (fun _ _ _ _ _ => am_iload d_Mach_makeRow_53 rfl) ?_
        refine xW_aL O d_Mach_makeRow_55 (fun v16 _ => ?_)
        refine xW_callV O (dx_Store_append O T) (fun _ e => ob_Store_append e) rfl rfl rfl l_Mach_278 ⟨w_1241, w_1242⟩ rfl (Nat.le_of_ble_eq_true rfl) d_Mach_makeRow_56 (fun v18 s17 _ => ?_)
        refine xW_ite (fun _ _ _ _ _ k1 k2 => am_if_ne (tgt := 68) d_Mach_makeRow_59 (by decide) k2 k1) (fun _ => ?_) (fun _ => ?_)
        · refine xW_pure (fun _ _ _ _ _ => am_aload_n d_Mach_makeRow_62 rfl rfl) ?_
          refine xW_pure (fun _ _ _ _ _ => am_iconst (v := 4) d_Mach_makeRow_63 (by decide)) ?_
          refine xW_callV O (dx_Mach_fail O T) (fun _ e => ob_Mach_fail e) rfl rfl rfl l_Mach_106 ⟨w_1084, w_45⟩ rfl (Nat.le_of_ble_eq_true rfl) d_Mach_makeRow_64 (fun v20 s19 _ => ?_)
          exact xW_ret (fun _ _ _ _ _ => am_vret rfl d_Mach_makeRow_67)
        · refine xW_pure (fun _ _ _ _ _ => am_iinc (v := 1) d_Mach_makeRow_68 rfl (by decide) (Nat.le_of_ble_eq_true rfl)) ?_
          refine xW_pure (fun _ _ _ _ _ => am_goto (tgt := 28) d_Mach_makeRow_71 (by decide)) ?_
          refine xW_locs (lv' := [(0, .ref x0), (2, .int v2), (3, .int v5), (4, .int (z28.1 + 1))]) rfl ?_
          exact ih28 ((z28.1 + 1), s17)
    · refine xW_pure (fun _ _ _ _ _ => am_aload_n d_Mach_makeRow_18 rfl rfl) ?_
      refine xW_pure (fun _ _ _ _ _ => am_bipush (v := 8) d_Mach_makeRow_19 (by decide)) ?_
      refine xW_callV O (dx_Mach_fail O T) (fun _ e => ob_Mach_fail e) rfl rfl rfl l_Mach_106 ⟨w_1084, w_45⟩ rfl (Nat.le_of_ble_eq_true rfl) d_Mach_makeRow_21 (fun v22 s21 _ => ?_)
      exact xW_ret (fun _ _ _ _ _ => am_vret rfl d_Mach_makeRow_24)

theorem ob_Mach_makeRow {d : Nat} {x0 : Nat} {x1 : Int32} {s : HS} {y : Unit × HS} (h : x_Mach_makeRow d x0 x1 s = some y) : isO s x0 6 = true := by
  cases d with
  | zero => cases h
  | succ d => exact (gd_spec h).1

set_option maxRecDepth 100000 in
def x_Mach_size (d : Nat) (x0 : Nat) (s : HS) : Option (Unit × HS) := match d with
  | 0 => none
  | d + 1 => gd s x0 6 (bnd (x_Mach_below d x0 1 s) fun v2 s1 => ((pV s1 x0 6 2 (.int v2)).bind fun s3 => (bnd (x_Mach_sortAt d x0 v2 s3) fun v5 s4 => (if v5 = 2 then ((gR s4 x0 6 0).bind fun v6 => ((aL s4 v6 v2).bind fun v7 => ((gR s4 x0 6 1).bind fun v8 => ((aL s4 v8 v2).bind fun v9 => (bnd (x_Cell_signsOf d v7 v9 s4) fun v11 s10 => (bnd (x_Mach_layNumber d x0 (v11 : Int32).toInt64 s10) fun v13 s12 => (some ((), s12)))))))) else (if v5 = 3 then ((gR s4 x0 6 10).bind fun v14 => (bnd (x_Mach_objectAt d x0 v2 s4) fun v16 s15 => (bnd (x_Store_cellsOf d v14 v16 s15) fun v18 s17 => (bnd (x_Mach_layNumber d x0 ((v18 / 2) : Int32).toInt64 s17) fun v20 s19 => (some ((), s19)))))) else (if v5 = 4 then ((gR s4 x0 6 10).bind fun v21 => (bnd (x_Mach_objectAt d x0 v2 s4) fun v23 s22 => (bnd (x_Store_cellsOf d v21 v23 s22) fun v25 s24 => (bnd (x_Mach_layNumber d x0 (v25 : Int32).toInt64 s24) fun v27 s26 => (some ((), s26)))))) else (bnd (x_Mach_fail d x0 2 s4) fun v29 s28 => (some ((), s28)))))))))

set_option maxRecDepth 100000 in
set_option maxHeartbeats 4000000 in
theorem dx_Mach_size (O : am_ok K X) (T : am_T K) {d : Nat} {x0 : Nat} {s : HS} : xM cvU K X m_Mach_size d [.ref x0] s (x_Mach_size d x0 s) := by
  cases d with
  | zero => exact xM_none
  | succ d =>
    unfold x_Mach_size
    refine xM_enter (by decide +kernel) (Nat.le_of_ble_eq_true rfl) ?_
    refine xW_gd (fun _ => ?_)
    refine xW_pure (fun _ _ _ _ _ => am_aload_n d_Mach_size_0 rfl rfl) ?_
    refine xW_pure (fun _ _ _ _ _ => am_iconst (v := 1) d_Mach_size_1 (by decide)) ?_
    refine xW_callV O (dx_Mach_below O T) (fun _ e => ob_Mach_below e) rfl rfl rfl l_Mach_133 ⟨w_1071, w_43⟩ rfl (Nat.le_of_ble_eq_true rfl) d_Mach_size_2 (fun v2 s1 _ => ?_)
    refine xW_pure (fun _ _ _ _ _ => am_istore_n d_Mach_size_5 rfl (Nat.le_of_ble_eq_true rfl)) ?_
    refine xW_pure (fun _ _ _ _ _ => am_aload_n d_Mach_size_6 rfl rfl) ?_
    refine xW_pure (fun _ _ _ _ _ => am_iload_n d_Mach_size_7 rfl rfl) ?_
    refine xW_put O f_Mach_54 d_Mach_size_8 (fun q hq => by cases hq; exact ⟨rfl, rfl, rfl⟩) (fun s3 _ => ?_)
    refine xW_pure (fun _ _ _ _ _ => am_aload_n d_Mach_size_11 rfl rfl) ?_
    refine xW_pure (fun _ _ _ _ _ => am_iload_n d_Mach_size_12 rfl rfl) ?_
    refine xW_callV O (dx_Mach_sortAt O T) (fun _ e => ob_Mach_sortAt e) rfl rfl rfl l_Mach_177 ⟨w_1140, w_52⟩ rfl (Nat.le_of_ble_eq_true rfl) d_Mach_size_13 (fun v5 s4 _ => ?_)
    refine xW_by (fun c16_0 => ?_) (fun c16_0 => ?_)
    · refine xW_pure (fun _ _ _ _ _ => am_tableIn (off := 28) (tgt := 44) d_Mach_size_16 (by rw [c16_0]; decide) (by rw [c16_0]; decide) (by rw [c16_0]; rfl) (by decide)) ?_
      refine xW_pure (fun _ _ _ _ _ => am_aload_n d_Mach_size_44 rfl rfl) ?_
      refine xW_pure (fun _ _ _ _ _ => am_aload_n d_Mach_size_45 rfl rfl) ?_
      refine xW_gR O f_Mach_7 d_Mach_size_46 (fun v6 _ => ?_)
      refine xW_pure (fun _ _ _ _ _ => am_iload_n d_Mach_size_49 rfl rfl) ?_
      refine xW_aL O d_Mach_size_50 (fun v7 _ => ?_)
      refine xW_pure (fun _ _ _ _ _ => am_aload_n d_Mach_size_51 rfl rfl) ?_
      refine xW_gR O f_Mach_13 d_Mach_size_52 (fun v8 _ => ?_)
      refine xW_pure (fun _ _ _ _ _ => am_iload_n d_Mach_size_55 rfl rfl) ?_
      refine xW_aL O d_Mach_size_56 (fun v9 _ => ?_)
      refine xW_callS O (dx_Cell_signsOf O T) rfl l_Mach_248 w_1161 rfl (Nat.le_of_ble_eq_true rfl) d_Mach_size_57 (fun v11 s10 _ => ?_)
      refine xW_pure (fun _ _ _ _ _ => am_i2l d_Mach_size_60 rfl) ?_
      refine xW_callV O (dx_Mach_layNumber O T) (fun _ e => ob_Mach_layNumber e) rfl rfl rfl l_Mach_125 ⟨w_1178, w_54⟩ rfl (Nat.le_of_ble_eq_true rfl) d_Mach_size_61 (fun v13 s12 _ => ?_)
      refine xW_pure (fun _ _ _ _ _ => am_goto (tgt := 114) d_Mach_size_64 (by decide)) ?_
      exact xW_ret (fun _ _ _ _ _ => am_vret rfl d_Mach_size_114)
    · refine xW_by (fun c16_1 => ?_) (fun c16_1 => ?_)
      · refine xW_pure (fun _ _ _ _ _ => am_tableIn (off := 51) (tgt := 67) d_Mach_size_16 (by rw [c16_1]; decide) (by rw [c16_1]; decide) (by rw [c16_1]; rfl) (by decide)) ?_
        refine xW_pure (fun _ _ _ _ _ => am_aload_n d_Mach_size_67 rfl rfl) ?_
        refine xW_pure (fun _ _ _ _ _ => am_aload_n d_Mach_size_68 rfl rfl) ?_
        refine xW_gR O f_Mach_29 d_Mach_size_69 (fun v14 _ => ?_)
        refine xW_pure (fun _ _ _ _ _ => am_aload_n d_Mach_size_72 rfl rfl) ?_
        refine xW_pure (fun _ _ _ _ _ => am_iload_n d_Mach_size_73 rfl rfl) ?_
        refine xW_callV O (dx_Mach_objectAt O T) (fun _ e => ob_Mach_objectAt e) rfl rfl rfl l_Mach_225 ⟨w_1213, w_60⟩ rfl (Nat.le_of_ble_eq_true rfl) d_Mach_size_74 (fun v16 s15 _ => ?_)
        refine xW_callV O (dx_Store_cellsOf O T) (fun _ e => ob_Store_cellsOf e) rfl rfl rfl l_Mach_238 ⟨w_1224, w_1225⟩ rfl (Nat.le_of_ble_eq_true rfl) d_Mach_size_77 (fun v18 s17 _ => ?_)
        refine xW_pure (fun _ _ _ _ _ => am_iconst (v := 2) d_Mach_size_80 (by decide)) ?_
        refine xW_pure (fun _ _ _ _ _ => am_idiv d_Mach_size_81 (by decide)) ?_
        refine xW_pure (fun _ _ _ _ _ => am_i2l d_Mach_size_82 rfl) ?_
        refine xW_callV O (dx_Mach_layNumber O T) (fun _ e => ob_Mach_layNumber e) rfl rfl rfl l_Mach_125 ⟨w_1178, w_54⟩ rfl (Nat.le_of_ble_eq_true rfl) d_Mach_size_83 (fun v20 s19 _ => ?_)
        refine xW_pure (fun _ _ _ _ _ => am_goto (tgt := 114) d_Mach_size_86 (by decide)) ?_
        exact xW_ret (fun _ _ _ _ _ => am_vret rfl d_Mach_size_114)
      · refine xW_by (fun c16_2 => ?_) (fun c16_2 => ?_)
        · refine xW_pure (fun _ _ _ _ _ => am_tableIn (off := 73) (tgt := 89) d_Mach_size_16 (by rw [c16_2]; decide) (by rw [c16_2]; decide) (by rw [c16_2]; rfl) (by decide)) ?_
          refine xW_pure (fun _ _ _ _ _ => am_aload_n d_Mach_size_89 rfl rfl) ?_
          refine xW_pure (fun _ _ _ _ _ => am_aload_n d_Mach_size_90 rfl rfl) ?_
          refine xW_gR O f_Mach_29 d_Mach_size_91 (fun v21 _ => ?_)
          refine xW_pure (fun _ _ _ _ _ => am_aload_n d_Mach_size_94 rfl rfl) ?_
          refine xW_pure (fun _ _ _ _ _ => am_iload_n d_Mach_size_95 rfl rfl) ?_
          refine xW_callV O (dx_Mach_objectAt O T) (fun _ e => ob_Mach_objectAt e) rfl rfl rfl l_Mach_225 ⟨w_1213, w_60⟩ rfl (Nat.le_of_ble_eq_true rfl) d_Mach_size_96 (fun v23 s22 _ => ?_)
          refine xW_callV O (dx_Store_cellsOf O T) (fun _ e => ob_Store_cellsOf e) rfl rfl rfl l_Mach_238 ⟨w_1224, w_1225⟩ rfl (Nat.le_of_ble_eq_true rfl) d_Mach_size_99 (fun v25 s24 _ => ?_)
          refine xW_pure (fun _ _ _ _ _ => am_i2l d_Mach_size_102 rfl) ?_
          refine xW_callV O (dx_Mach_layNumber O T) (fun _ e => ob_Mach_layNumber e) rfl rfl rfl l_Mach_125 ⟨w_1178, w_54⟩ rfl (Nat.le_of_ble_eq_true rfl) d_Mach_size_103 (fun v27 s26 _ => ?_)
          refine xW_pure (fun _ _ _ _ _ => am_goto (tgt := 114) d_Mach_size_106 (by decide)) ?_
          exact xW_ret (fun _ _ _ _ _ => am_vret rfl d_Mach_size_114)
        · have e16_0 := lk_ne c16_0 (show (2 : Int32).toInt = 2 by decide)
          have e16_1 := lk_ne c16_1 (show (3 : Int32).toInt = 3 by decide)
          have e16_2 := lk_ne c16_2 (show (4 : Int32).toInt = 4 by decide)
          refine xW_pure (fun _ _ _ _ _ => am_tableOut (tgt := 109) d_Mach_size_16 (by omega) (by decide)) ?_
          refine xW_pure (fun _ _ _ _ _ => am_aload_n d_Mach_size_109 rfl rfl) ?_
          refine xW_pure (fun _ _ _ _ _ => am_iconst (v := 2) d_Mach_size_110 (by decide)) ?_
          refine xW_callV O (dx_Mach_fail O T) (fun _ e => ob_Mach_fail e) rfl rfl rfl l_Mach_106 ⟨w_1084, w_45⟩ rfl (Nat.le_of_ble_eq_true rfl) d_Mach_size_111 (fun v29 s28 _ => ?_)
          exact xW_ret (fun _ _ _ _ _ => am_vret rfl d_Mach_size_114)

theorem ob_Mach_size {d : Nat} {x0 : Nat} {s : HS} {y : Unit × HS} (h : x_Mach_size d x0 s = some y) : isO s x0 6 = true := by
  cases d with
  | zero => cases h
  | succ d => exact (gd_spec h).1

set_option maxRecDepth 100000 in
def x_Mach_push (d : Nat) (x0 : Nat) (s : HS) : Option (Unit × HS) := match d with
  | 0 => none
  | d + 1 => gd s x0 6 (bnd (x_Mach_below d x0 2 s) fun v2 s1 => (bnd (x_Mach_below d x0 1 s1) fun v4 s3 => ((pV s3 x0 6 2 (.int v4)).bind fun s5 => (bnd (x_Mach_sortAt d x0 v2 s5) fun v7 s6 => (if v7 = 4 then ((gR s6 x0 6 10).bind fun v8 => (bnd (x_Mach_objectAt d x0 v2 s6) fun v10 s9 => ((gR s9 x0 6 0).bind fun v11 => ((aL s9 v11 v4).bind fun v12 => ((gR s9 x0 6 1).bind fun v13 => ((aL s9 v13 v4).bind fun v14 => (bnd (x_Store_append d v8 v10 v12 v14 s9) fun v16 s15 => (if v16 = 0 then (bnd (x_Mach_fail d x0 4 s15) fun v18 s17 => (some ((), s17))) else (some ((), s15)))))))))) else (bnd (x_Mach_fail d x0 2 s6) fun v20 s19 => (some ((), s19))))))))

set_option maxRecDepth 100000 in
set_option maxHeartbeats 4000000 in
theorem dx_Mach_push (O : am_ok K X) (T : am_T K) {d : Nat} {x0 : Nat} {s : HS} : xM cvU K X m_Mach_push d [.ref x0] s (x_Mach_push d x0 s) := by
  cases d with
  | zero => exact xM_none
  | succ d =>
    unfold x_Mach_push
    refine xM_enter (by decide +kernel) (Nat.le_of_ble_eq_true rfl) ?_
    refine xW_gd (fun _ => ?_)
    refine xW_pure (fun _ _ _ _ _ => am_aload_n d_Mach_push_0 rfl rfl) ?_
    refine xW_pure (fun _ _ _ _ _ => am_iconst (v := 2) d_Mach_push_1 (by decide)) ?_
    refine xW_callV O (dx_Mach_below O T) (fun _ e => ob_Mach_below e) rfl rfl rfl l_Mach_133 ⟨w_1071, w_43⟩ rfl (Nat.le_of_ble_eq_true rfl) d_Mach_push_2 (fun v2 s1 _ => ?_)
    refine xW_pure (fun _ _ _ _ _ => am_istore_n d_Mach_push_5 rfl (Nat.le_of_ble_eq_true rfl)) ?_
    refine xW_pure (fun _ _ _ _ _ => am_aload_n d_Mach_push_6 rfl rfl) ?_
    refine xW_pure (fun _ _ _ _ _ => am_iconst (v := 1) d_Mach_push_7 (by decide)) ?_
    refine xW_callV O (dx_Mach_below O T) (fun _ e => ob_Mach_below e) rfl rfl rfl l_Mach_133 ⟨w_1071, w_43⟩ rfl (Nat.le_of_ble_eq_true rfl) d_Mach_push_8 (fun v4 s3 _ => ?_)
    refine xW_pure (fun _ _ _ _ _ => am_istore_n d_Mach_push_11 rfl (Nat.le_of_ble_eq_true rfl)) ?_
    refine xW_pure (fun _ _ _ _ _ => am_aload_n d_Mach_push_12 rfl rfl) ?_
    refine xW_pure (fun _ _ _ _ _ => am_iload_n d_Mach_push_13 rfl rfl) ?_
    refine xW_put O f_Mach_54 d_Mach_push_14 (fun q hq => by cases hq; exact ⟨rfl, rfl, rfl⟩) (fun s5 _ => ?_)
    refine xW_pure (fun _ _ _ _ _ => am_aload_n d_Mach_push_17 rfl rfl) ?_
    refine xW_pure (fun _ _ _ _ _ => am_iload_n d_Mach_push_18 rfl rfl) ?_
    refine xW_callV O (dx_Mach_sortAt O T) (fun _ e => ob_Mach_sortAt e) rfl rfl rfl l_Mach_177 ⟨w_1140, w_52⟩ rfl (Nat.le_of_ble_eq_true rfl) d_Mach_push_19 (fun v7 s6 _ => ?_)
    refine xW_pure (fun _ _ _ _ _ => am_iconst (v := 4) d_Mach_push_22 (by decide)) ?_
    refine xW_ite (fun _ _ _ _ _ => am_icmp_eq (tgt := 34) d_Mach_push_23 (by decide)) (fun _ => ?_) (fun _ => ?_)
    · refine xW_pure (fun _ _ _ _ _ => am_aload_n d_Mach_push_34 rfl rfl) ?_
      refine xW_gR O f_Mach_29 d_Mach_push_35 (fun v8 _ => ?_)
      refine xW_pure (fun _ _ _ _ _ => am_aload_n d_Mach_push_38 rfl rfl) ?_
      refine xW_pure (fun _ _ _ _ _ => am_iload_n d_Mach_push_39 rfl rfl) ?_
      refine xW_callV O (dx_Mach_objectAt O T) (fun _ e => ob_Mach_objectAt e) rfl rfl rfl l_Mach_225 ⟨w_1213, w_60⟩ rfl (Nat.le_of_ble_eq_true rfl) d_Mach_push_40 (fun v10 s9 _ => ?_)
      refine xW_pure (fun _ _ _ _ _ => am_aload_n d_Mach_push_43 rfl rfl) ?_
      refine xW_gR O f_Mach_7 d_Mach_push_44 (fun v11 _ => ?_)
      refine xW_pure (fun _ _ _ _ _ => am_iload_n d_Mach_push_47 rfl rfl) ?_
      refine xW_aL O d_Mach_push_48 (fun v12 _ => ?_)
      refine xW_pure (fun _ _ _ _ _ => am_aload_n d_Mach_push_49 rfl rfl) ?_
      refine xW_gR O f_Mach_13 d_Mach_push_50 (fun v13 _ => ?_)
      refine xW_pure (fun _ _ _ _ _ => am_iload_n d_Mach_push_53 rfl rfl) ?_
      refine xW_aL O d_Mach_push_54 (fun v14 _ => ?_)
      refine xW_callV O (dx_Store_append O T) (fun _ e => ob_Store_append e) rfl rfl rfl l_Mach_278 ⟨w_1241, w_1242⟩ rfl (Nat.le_of_ble_eq_true rfl) d_Mach_push_55 (fun v16 s15 _ => ?_)
      refine xW_ite (fun _ _ _ _ _ k1 k2 => am_if_ne (tgt := 66) d_Mach_push_58 (by decide) k2 k1) (fun _ => ?_) (fun _ => ?_)
      · refine xW_pure (fun _ _ _ _ _ => am_aload_n d_Mach_push_61 rfl rfl) ?_
        refine xW_pure (fun _ _ _ _ _ => am_iconst (v := 4) d_Mach_push_62 (by decide)) ?_
        refine xW_callV O (dx_Mach_fail O T) (fun _ e => ob_Mach_fail e) rfl rfl rfl l_Mach_106 ⟨w_1084, w_45⟩ rfl (Nat.le_of_ble_eq_true rfl) d_Mach_push_63 (fun v18 s17 _ => ?_)
        exact xW_ret (fun _ _ _ _ _ => am_vret rfl d_Mach_push_66)
      · exact xW_ret (fun _ _ _ _ _ => am_vret rfl d_Mach_push_66)
    · refine xW_pure (fun _ _ _ _ _ => am_aload_n d_Mach_push_26 rfl rfl) ?_
      refine xW_pure (fun _ _ _ _ _ => am_iconst (v := 2) d_Mach_push_27 (by decide)) ?_
      refine xW_callV O (dx_Mach_fail O T) (fun _ e => ob_Mach_fail e) rfl rfl rfl l_Mach_106 ⟨w_1084, w_45⟩ rfl (Nat.le_of_ble_eq_true rfl) d_Mach_push_28 (fun v20 s19 _ => ?_)
      refine xW_pure (fun _ _ _ _ _ => am_goto (tgt := 66) d_Mach_push_31 (by decide)) ?_
      exact xW_ret (fun _ _ _ _ _ => am_vret rfl d_Mach_push_66)

theorem ob_Mach_push {d : Nat} {x0 : Nat} {s : HS} {y : Unit × HS} (h : x_Mach_push d x0 s = some y) : isO s x0 6 = true := by
  cases d with
  | zero => cases h
  | succ d => exact (gd_spec h).1

set_option maxRecDepth 100000 in
def x_Mach_pop (d : Nat) (x0 : Nat) (s : HS) : Option (Unit × HS) := match d with
  | 0 => none
  | d + 1 => gd s x0 6 (bnd (x_Mach_below d x0 1 s) fun v2 s1 => (bnd (x_Mach_sortAt d x0 v2 s1) fun v4 s3 => (if v4 = 4 then (bnd (x_Mach_objectAt d x0 v2 s3) fun v6 s5 => ((gR s5 x0 6 10).bind fun v7 => (bnd (x_Store_cellsOf d v7 v6 s5) fun v9 s8 => (if v9 = 0 then (bnd (x_Mach_fail d x0 3 s8) fun v11 s10 => (some ((), s10))) else ((gR s8 x0 6 10).bind fun v12 => (bnd (x_Store_firstCell d v12 v6 s8) fun v14 s13 => ((pV s13 x0 6 2 (.int v2)).bind fun s15 => ((gR s15 x0 6 10).bind fun v16 => ((gR s15 v16 10 0).bind fun v17 => ((aL s15 v17 ((v14 + v9) - 1)).bind fun v18 => ((gR s15 x0 6 10).bind fun v19 => ((gR s15 v19 10 1).bind fun v20 => ((aL s15 v20 ((v14 + v9) - 1)).bind fun v21 => (bnd (x_Mach_lay d x0 v18 v21 s15) fun v23 s22 => ((gR s22 x0 6 10).bind fun v24 => (bnd (x_Store_dropLast d v24 v6 s22) fun v26 s25 => (some ((), s25)))))))))))))))))) else (bnd (x_Mach_fail d x0 2 s3) fun v28 s27 => (some ((), s27))))))

set_option maxRecDepth 100000 in
set_option maxHeartbeats 4000000 in
theorem dx_Mach_pop (O : am_ok K X) (T : am_T K) {d : Nat} {x0 : Nat} {s : HS} : xM cvU K X m_Mach_pop d [.ref x0] s (x_Mach_pop d x0 s) := by
  cases d with
  | zero => exact xM_none
  | succ d =>
    unfold x_Mach_pop
    refine xM_enter (by decide +kernel) (Nat.le_of_ble_eq_true rfl) ?_
    refine xW_gd (fun _ => ?_)
    refine xW_pure (fun _ _ _ _ _ => am_aload_n d_Mach_pop_0 rfl rfl) ?_
    refine xW_pure (fun _ _ _ _ _ => am_iconst (v := 1) d_Mach_pop_1 (by decide)) ?_
    refine xW_callV O (dx_Mach_below O T) (fun _ e => ob_Mach_below e) rfl rfl rfl l_Mach_133 ⟨w_1071, w_43⟩ rfl (Nat.le_of_ble_eq_true rfl) d_Mach_pop_2 (fun v2 s1 _ => ?_)
    refine xW_pure (fun _ _ _ _ _ => am_istore_n d_Mach_pop_5 rfl (Nat.le_of_ble_eq_true rfl)) ?_
    refine xW_pure (fun _ _ _ _ _ => am_aload_n d_Mach_pop_6 rfl rfl) ?_
    refine xW_pure (fun _ _ _ _ _ => am_iload_n d_Mach_pop_7 rfl rfl) ?_
    refine xW_callV O (dx_Mach_sortAt O T) (fun _ e => ob_Mach_sortAt e) rfl rfl rfl l_Mach_177 ⟨w_1140, w_52⟩ rfl (Nat.le_of_ble_eq_true rfl) d_Mach_pop_8 (fun v4 s3 _ => ?_)
    refine xW_pure (fun _ _ _ _ _ => am_iconst (v := 4) d_Mach_pop_11 (by decide)) ?_
    refine xW_ite (fun _ _ _ _ _ => am_icmp_eq (tgt := 21) d_Mach_pop_12 (by decide)) (fun _ => ?_) (fun _ => ?_)
    · refine xW_pure (fun _ _ _ _ _ => am_aload_n d_Mach_pop_21 rfl rfl) ?_
      refine xW_pure (fun _ _ _ _ _ => am_iload_n d_Mach_pop_22 rfl rfl) ?_
      refine xW_callV O (dx_Mach_objectAt O T) (fun _ e => ob_Mach_objectAt e) rfl rfl rfl l_Mach_225 ⟨w_1213, w_60⟩ rfl (Nat.le_of_ble_eq_true rfl) d_Mach_pop_23 (fun v6 s5 _ => ?_)
      refine xW_pure (fun _ _ _ _ _ => am_istore_n d_Mach_pop_26 rfl (Nat.le_of_ble_eq_true rfl)) ?_
      refine xW_pure (fun _ _ _ _ _ => am_aload_n d_Mach_pop_27 rfl rfl) ?_
      refine xW_gR O f_Mach_29 d_Mach_pop_28 (fun v7 _ => ?_)
      refine xW_pure (fun _ _ _ _ _ => am_iload_n d_Mach_pop_31 rfl rfl) ?_
      refine xW_callV O (dx_Store_cellsOf O T) (fun _ e => ob_Store_cellsOf e) rfl rfl rfl l_Mach_238 ⟨w_1224, w_1225⟩ rfl (Nat.le_of_ble_eq_true rfl) d_Mach_pop_32 (fun v9 s8 _ => ?_)
      refine xW_pure (fun _ _ _ _ _ => am_istore_n d_Mach_pop_35 rfl (Nat.le_of_ble_eq_true rfl)) ?_
      refine xW_pure (fun _ _ _ _ _ => am_iload_n d_Mach_pop_36 rfl rfl) ?_
      refine xW_ite (fun _ _ _ _ _ k1 k2 => am_if_ne (tgt := 46) d_Mach_pop_37 (by decide) k2 k1) (fun _ => ?_) (fun _ => ?_)
      · refine xW_pure (fun _ _ _ _ _ => am_aload_n d_Mach_pop_40 rfl rfl) ?_
        refine xW_pure (fun _ _ _ _ _ => am_iconst (v := 3) d_Mach_pop_41 (by decide)) ?_
        refine xW_callV O (dx_Mach_fail O T) (fun _ e => ob_Mach_fail e) rfl rfl rfl l_Mach_106 ⟨w_1084, w_45⟩ rfl (Nat.le_of_ble_eq_true rfl) d_Mach_pop_42 (fun v11 s10 _ => ?_)
        exact xW_ret (fun _ _ _ _ _ => am_vret rfl d_Mach_pop_45)
      · refine xW_pure (fun _ _ _ _ _ => am_aload_n d_Mach_pop_46 rfl rfl) ?_
        refine xW_gR O f_Mach_29 d_Mach_pop_47 (fun v12 _ => ?_)
        refine xW_pure (fun _ _ _ _ _ => am_iload_n d_Mach_pop_50 rfl rfl) ?_
        refine xW_callV O (dx_Store_firstCell O T) (fun _ e => ob_Store_firstCell e) rfl rfl rfl l_Mach_245 ⟨w_1220, w_1221⟩ rfl (Nat.le_of_ble_eq_true rfl) d_Mach_pop_51 (fun v14 s13 _ => ?_)
        refine xW_pure (fun _ _ _ _ _ => am_iload_n d_Mach_pop_54 rfl rfl) ?_
        refine xW_pure (fun _ _ _ _ _ => am_iadd d_Mach_pop_55) ?_
        refine xW_pure (fun _ _ _ _ _ => am_iconst (v := 1) d_Mach_pop_56 (by decide)) ?_
        refine xW_pure (fun _ _ _ _ _ => am_isub d_Mach_pop_57) ?_
        refine xW_pure (fun _ _ _ _ _ => am_istore d_Mach_pop_58 (Nat.le_of_ble_eq_true rfl)) ?_
        refine xW_pure (fun _ _ _ _ _ => am_aload_n d_Mach_pop_60 rfl rfl) ?_
        refine xW_pure (fun _ _ _ _ _ => am_iload_n d_Mach_pop_61 rfl rfl) ?_
        refine xW_put O f_Mach_54 d_Mach_pop_62 (fun q hq => by cases hq; exact ⟨rfl, rfl, rfl⟩) (fun s15 _ => ?_)
        refine xW_pure (fun _ _ _ _ _ => am_aload_n d_Mach_pop_65 rfl rfl) ?_
        refine xW_pure (fun _ _ _ _ _ => am_aload_n d_Mach_pop_66 rfl rfl) ?_
        refine xW_gR O f_Mach_29 d_Mach_pop_67 (fun v16 _ => ?_)
        refine xW_gR O f_Mach_232 d_Mach_pop_70 (fun v17 _ => ?_)
        refine xW_pure (fun _ _ _ _ _ => am_iload d_Mach_pop_73 rfl) ?_
        refine xW_aL O d_Mach_pop_75 (fun v18 _ => ?_)
        refine xW_pure (fun _ _ _ _ _ => am_aload_n d_Mach_pop_76 rfl rfl) ?_
        refine xW_gR O f_Mach_29 d_Mach_pop_77 (fun v19 _ => ?_)
        refine xW_gR O f_Mach_233 d_Mach_pop_80 (fun v20 _ => ?_)
        refine xW_pure (fun _ _ _ _ _ => am_iload d_Mach_pop_83 rfl) ?_
        refine xW_aL O d_Mach_pop_85 (fun v21 _ => ?_)
        refine xW_callV O (dx_Mach_lay O T) (fun _ e => ob_Mach_lay e) rfl rfl rfl l_Mach_121 ⟨w_1080, w_44⟩ rfl (Nat.le_of_ble_eq_true rfl) d_Mach_pop_86 (fun v23 s22 _ => ?_)
        refine xW_pure (fun _ _ _ _ _ => am_aload_n d_Mach_pop_89 rfl rfl) ?_
        refine xW_gR O f_Mach_29 d_Mach_pop_90 (fun v24 _ => ?_)
        refine xW_pure (fun _ _ _ _ _ => am_iload_n d_Mach_pop_93 rfl rfl) ?_
        refine xW_callV O (dx_Store_dropLast O T) (fun _ e => ob_Store_dropLast e) rfl rfl rfl l_Mach_282 ⟨w_1295, w_1296⟩ rfl (Nat.le_of_ble_eq_true rfl) d_Mach_pop_94 (fun v26 s25 _ => ?_)
        exact xW_ret (fun _ _ _ _ _ => am_vret rfl d_Mach_pop_97)
    · refine xW_pure (fun _ _ _ _ _ => am_aload_n d_Mach_pop_15 rfl rfl) ?_
      refine xW_pure (fun _ _ _ _ _ => am_iconst (v := 2) d_Mach_pop_16 (by decide)) ?_
      refine xW_callV O (dx_Mach_fail O T) (fun _ e => ob_Mach_fail e) rfl rfl rfl l_Mach_106 ⟨w_1084, w_45⟩ rfl (Nat.le_of_ble_eq_true rfl) d_Mach_pop_17 (fun v28 s27 _ => ?_)
      exact xW_ret (fun _ _ _ _ _ => am_vret rfl d_Mach_pop_20)

theorem ob_Mach_pop {d : Nat} {x0 : Nat} {s : HS} {y : Unit × HS} (h : x_Mach_pop d x0 s = some y) : isO s x0 6 = true := by
  cases d with
  | zero => cases h
  | succ d => exact (gd_spec h).1

set_option maxRecDepth 100000 in
def x_Mach_minus (d : Nat) (x0 : Nat) (x1 : Int32) (s : HS) : Option (Unit × HS) := match d with
  | 0 => none
  | d + 1 => gd s x0 6 ((pV s x0 6 2 (.int x1)).bind fun s1 => (bnd (x_Mach_sortAt d x0 x1 s1) fun v3 s2 => (if v3 = 1 then ((gR s2 x0 6 1).bind fun v4 => ((aL s2 v4 x1).bind fun v5 => (bnd (x_Mach_layNumber d x0 ((-(v5 : Int64).toInt32) : Int32).toInt64 s2) fun v7 s6 => (some ((), s6))))) else (bnd (x_Mach_fail d x0 2 s2) fun v9 s8 => (some ((), s8))))))

set_option maxRecDepth 100000 in
set_option maxHeartbeats 4000000 in
theorem dx_Mach_minus (O : am_ok K X) (T : am_T K) {d : Nat} {x0 : Nat} {x1 : Int32} {s : HS} : xM cvU K X m_Mach_minus d [.ref x0, .int x1] s (x_Mach_minus d x0 x1 s) := by
  cases d with
  | zero => exact xM_none
  | succ d =>
    unfold x_Mach_minus
    refine xM_enter (by decide +kernel) (Nat.le_of_ble_eq_true rfl) ?_
    refine xW_gd (fun _ => ?_)
    refine xW_pure (fun _ _ _ _ _ => am_aload_n d_Mach_minus_0 rfl rfl) ?_
    refine xW_pure (fun _ _ _ _ _ => am_iload_n d_Mach_minus_1 rfl rfl) ?_
    refine xW_put O f_Mach_54 d_Mach_minus_2 (fun q hq => by cases hq; exact ⟨rfl, rfl, rfl⟩) (fun s1 _ => ?_)
    refine xW_pure (fun _ _ _ _ _ => am_aload_n d_Mach_minus_5 rfl rfl) ?_
    refine xW_pure (fun _ _ _ _ _ => am_iload_n d_Mach_minus_6 rfl rfl) ?_
    refine xW_callV O (dx_Mach_sortAt O T) (fun _ e => ob_Mach_sortAt e) rfl rfl rfl l_Mach_177 ⟨w_1140, w_52⟩ rfl (Nat.le_of_ble_eq_true rfl) d_Mach_minus_7 (fun v3 s2 _ => ?_)
    refine xW_pure (fun _ _ _ _ _ => am_iconst (v := 1) d_Mach_minus_10 (by decide)) ?_
    refine xW_ite (fun _ _ _ _ _ k1 k2 => am_icmp_ne (tgt := 30) d_Mach_minus_11 (by decide) k2 k1) (fun _ => ?_) (fun _ => ?_)
    · refine xW_pure (fun _ _ _ _ _ => am_aload_n d_Mach_minus_14 rfl rfl) ?_
      refine xW_pure (fun _ _ _ _ _ => am_aload_n d_Mach_minus_15 rfl rfl) ?_
      refine xW_gR O f_Mach_13 d_Mach_minus_16 (fun v4 _ => ?_)
      refine xW_pure (fun _ _ _ _ _ => am_iload_n d_Mach_minus_19 rfl rfl) ?_
      refine xW_aL O d_Mach_minus_20 (fun v5 _ => ?_)
      refine xW_pure (fun _ _ _ _ _ => am_l2i d_Mach_minus_21 rfl) ?_
      refine xW_pure (fun _ _ _ _ _ => am_ineg d_Mach_minus_22) ?_
      refine xW_pure (fun _ _ _ _ _ => am_i2l d_Mach_minus_23 rfl) ?_
      refine xW_callV O (dx_Mach_layNumber O T) (fun _ e => ob_Mach_layNumber e) rfl rfl rfl l_Mach_125 ⟨w_1178, w_54⟩ rfl (Nat.le_of_ble_eq_true rfl) d_Mach_minus_24 (fun v7 s6 _ => ?_)
      refine xW_pure (fun _ _ _ _ _ => am_goto (tgt := 35) d_Mach_minus_27 (by decide)) ?_
      exact xW_ret (fun _ _ _ _ _ => am_vret rfl d_Mach_minus_35)
    · refine xW_pure (fun _ _ _ _ _ => am_aload_n d_Mach_minus_30 rfl rfl) ?_
      refine xW_pure (fun _ _ _ _ _ => am_iconst (v := 2) d_Mach_minus_31 (by decide)) ?_
      refine xW_callV O (dx_Mach_fail O T) (fun _ e => ob_Mach_fail e) rfl rfl rfl l_Mach_106 ⟨w_1084, w_45⟩ rfl (Nat.le_of_ble_eq_true rfl) d_Mach_minus_32 (fun v9 s8 _ => ?_)
      exact xW_ret (fun _ _ _ _ _ => am_vret rfl d_Mach_minus_35)

theorem ob_Mach_minus {d : Nat} {x0 : Nat} {x1 : Int32} {s : HS} {y : Unit × HS} (h : x_Mach_minus d x0 x1 s = some y) : isO s x0 6 = true := by
  cases d with
  | zero => cases h
  | succ d => exact (gd_spec h).1

set_option maxRecDepth 100000 in
def x_Mach_layTruth (d : Nat) (x0 : Nat) (x1 : Int32) (s : HS) : Option (Unit × HS) := match d with
  | 0 => none
  | d + 1 => gd s x0 6 (if x1 = 0 then (bnd (x_Mach_layNumber d x0 0 s) fun v2 s1 => (some ((), s1))) else (bnd (x_Mach_layNumber d x0 1 s) fun v4 s3 => (some ((), s3))))

set_option maxRecDepth 100000 in
set_option maxHeartbeats 4000000 in
theorem dx_Mach_layTruth (O : am_ok K X) (T : am_T K) {d : Nat} {x0 : Nat} {x1 : Int32} {s : HS} : xM cvU K X m_Mach_layTruth d [.ref x0, .int x1] s (x_Mach_layTruth d x0 x1 s) := by
  cases d with
  | zero => exact xM_none
  | succ d =>
    unfold x_Mach_layTruth
    refine xM_enter (by decide +kernel) (Nat.le_of_ble_eq_true rfl) ?_
    refine xW_gd (fun _ => ?_)
    refine xW_pure (fun _ _ _ _ _ => am_aload_n d_Mach_layTruth_0 rfl rfl) ?_
    refine xW_pure (fun _ _ _ _ _ => am_iload_n d_Mach_layTruth_1 rfl rfl) ?_
    refine xW_ite (fun _ _ _ _ _ => am_if_eq (tgt := 9) d_Mach_layTruth_2 (by decide)) (fun _ => ?_) (fun _ => ?_)
    · refine xW_pure (fun _ _ _ _ _ => am_lconst (v := 0) d_Mach_layTruth_9 (by decide)) ?_
      refine xW_callV O (dx_Mach_layNumber O T) (fun _ e => ob_Mach_layNumber e) rfl rfl rfl l_Mach_125 ⟨w_1178, w_54⟩ rfl (Nat.le_of_ble_eq_true rfl) d_Mach_layTruth_10 (fun v2 s1 _ => ?_)
      exact xW_ret (fun _ _ _ _ _ => am_vret rfl d_Mach_layTruth_13)
    · refine xW_pure (fun _ _ _ _ _ => am_lconst (v := 1) d_Mach_layTruth_5 (by decide)) ?_
      refine xW_pure (fun _ _ _ _ _ => am_goto (tgt := 10) d_Mach_layTruth_6 (by decide)) ?_
      refine xW_callV O (dx_Mach_layNumber O T) (fun _ e => ob_Mach_layNumber e) rfl rfl rfl l_Mach_125 ⟨w_1178, w_54⟩ rfl (Nat.le_of_ble_eq_true rfl) d_Mach_layTruth_10 (fun v4 s3 _ => ?_)
      exact xW_ret (fun _ _ _ _ _ => am_vret rfl d_Mach_layTruth_13)

theorem ob_Mach_layTruth {d : Nat} {x0 : Nat} {x1 : Int32} {s : HS} {y : Unit × HS} (h : x_Mach_layTruth d x0 x1 s = some y) : isO s x0 6 = true := by
  cases d with
  | zero => cases h
  | succ d => exact (gd_spec h).1

set_option maxRecDepth 100000 in
def x_Mach_compare_b93 (d : Nat) (l0 : Nat) (l3 : Int32) (t0 : Int32) (s : HS) : Option (Unit × HS) := if l3 = 0 then (if t0 = 0 then (bnd (x_Mach_layTruth d l0 0 s) fun v11 s10 => (some ((), s10))) else (bnd (x_Mach_layTruth d l0 1 s) fun v13 s12 => (some ((), s12)))) else (bnd (x_Mach_layTruth d l0 1 s) fun v15 s14 => (some ((), s14)))

set_option maxRecDepth 100000 in
set_option maxHeartbeats 4000000 in
theorem dx_Mach_compare_b93 (O : am_ok K X) (T : am_T K) {d : Nat} {l0 : Nat} {l3 : Int32} {t0 : Int32} {s : HS} : xW cvU K X m_Mach_compare (d + 1) 93 [(0, .ref l0), (3, .int l3)] [.int t0] s (x_Mach_compare_b93 d l0 l3 t0 s) := by
  unfold x_Mach_compare_b93
  refine xW_pure (fun _ _ _ _ _ => am_istore d_Mach_compare_93 (Nat.le_of_ble_eq_true rfl)) ?_
  refine xW_pure (fun _ _ _ _ _ => am_aload_n d_Mach_compare_95 rfl rfl) ?_
  refine xW_pure (fun _ _ _ _ _ => am_iload_n d_Mach_compare_96 rfl rfl) ?_
  refine xW_ite (fun _ _ _ _ _ k1 k2 => am_if_ne (tgt := 105) d_Mach_compare_97 (by decide) k2 k1) (fun _ => ?_) (fun _ => ?_)
  · refine xW_pure (fun _ _ _ _ _ => am_iload d_Mach_compare_100 rfl) ?_
    refine xW_ite (fun _ _ _ _ _ => am_if_eq (tgt := 109) d_Mach_compare_102 (by decide)) (fun _ => ?_) (fun _ => ?_)
    · refine xW_pure (fun _ _ _ _ _ => am_iconst (v := 0) d_Mach_compare_109 (by decide)) ?_
      refine xW_callV O (dx_Mach_layTruth O T) (fun _ e => ob_Mach_layTruth e) rfl rfl rfl l_Mach_288 ⟨w_1308, w_74⟩ rfl (Nat.le_of_ble_eq_true rfl) d_Mach_compare_110 (fun v11 s10 _ => ?_)
      exact xW_ret (fun _ _ _ _ _ => am_vret rfl d_Mach_compare_113)
    · refine xW_pure (fun _ _ _ _ _ => am_iconst (v := 1) d_Mach_compare_105 (by decide)) ?_
      refine xW_pure (fun _ _ _ _ _ => am_goto (tgt := 110) d_Mach_compare_106 (by decide)) ?_
      refine xW_callV O (dx_Mach_layTruth O T) (fun _ e => ob_Mach_layTruth e) rfl rfl rfl l_Mach_288 ⟨w_1308, w_74⟩ rfl (Nat.le_of_ble_eq_true rfl) d_Mach_compare_110 (fun v13 s12 _ => ?_)
      exact xW_ret (fun _ _ _ _ _ => am_vret rfl d_Mach_compare_113)
  · refine xW_pure (fun _ _ _ _ _ => am_iconst (v := 1) d_Mach_compare_105 (by decide)) ?_
    refine xW_pure (fun _ _ _ _ _ => am_goto (tgt := 110) d_Mach_compare_106 (by decide)) ?_
    refine xW_callV O (dx_Mach_layTruth O T) (fun _ e => ob_Mach_layTruth e) rfl rfl rfl l_Mach_288 ⟨w_1308, w_74⟩ rfl (Nat.le_of_ble_eq_true rfl) d_Mach_compare_110 (fun v15 s14 _ => ?_)
    exact xW_ret (fun _ _ _ _ _ => am_vret rfl d_Mach_compare_113)

set_option maxRecDepth 100000 in
def x_Mach_compare_b88 (d : Nat) (l0 : Nat) (l3 : Int32) (s : HS) : Option (Unit × HS) := x_Mach_compare_b93 d l0 l3 1 s

set_option maxRecDepth 100000 in
set_option maxHeartbeats 4000000 in
theorem dx_Mach_compare_b88 (O : am_ok K X) (T : am_T K) {d : Nat} {l0 : Nat} {l3 : Int32} {s : HS} : xW cvU K X m_Mach_compare (d + 1) 88 [(0, .ref l0), (3, .int l3)] [] s (x_Mach_compare_b88 d l0 l3 s) := by
  unfold x_Mach_compare_b88
  refine xW_pure (fun _ _ _ _ _ => am_iconst (v := 1) d_Mach_compare_88 (by decide)) ?_
  refine xW_pure (fun _ _ _ _ _ => am_goto (tgt := 93) d_Mach_compare_89 (by decide)) ?_
  refine xW_locs (lv' := [(0, .ref l0), (3, .int l3)]) rfl ?_
  exact dx_Mach_compare_b93 O T

set_option maxRecDepth 100000 in
def x_Mach_compare_b92 (d : Nat) (l0 : Nat) (l3 : Int32) (s : HS) : Option (Unit × HS) := x_Mach_compare_b93 d l0 l3 0 s

set_option maxRecDepth 100000 in
set_option maxHeartbeats 4000000 in
theorem dx_Mach_compare_b92 (O : am_ok K X) (T : am_T K) {d : Nat} {l0 : Nat} {l3 : Int32} {s : HS} : xW cvU K X m_Mach_compare (d + 1) 92 [(0, .ref l0), (3, .int l3)] [] s (x_Mach_compare_b92 d l0 l3 s) := by
  unfold x_Mach_compare_b92
  refine xW_pure (fun _ _ _ _ _ => am_iconst (v := 0) d_Mach_compare_92 (by decide)) ?_
  refine xW_locs (lv' := [(0, .ref l0), (3, .int l3)]) rfl ?_
  exact dx_Mach_compare_b93 O T

set_option maxRecDepth 100000 in
def x_Mach_compare_b40 (d : Nat) (l0 : Nat) (l1 : Int32) (l2 : Int32) (l3 : Int32) (s : HS) : Option (Unit × HS) := (gR s l0 6 0).bind fun v6 => ((aL s v6 l1).bind fun v7 => ((gR s l0 6 0).bind fun v8 => ((aL s v8 l2).bind fun v9 => (if (lg_cmp v7 v9) < 0 then (x_Mach_compare_b88 d l0 l3 s) else ((gR s l0 6 0).bind fun v16 => ((aL s v16 l1).bind fun v17 => ((gR s l0 6 0).bind fun v18 => ((aL s v18 l2).bind fun v19 => (if (lg_cmp v17 v19) = 0 then ((gR s l0 6 1).bind fun v20 => ((aL s v20 l1).bind fun v21 => ((gR s l0 6 1).bind fun v22 => ((aL s v22 l2).bind fun v23 => (if 0 ≤ (lg_cmp v21 v23) then (x_Mach_compare_b92 d l0 l3 s) else (x_Mach_compare_b88 d l0 l3 s)))))) else (x_Mach_compare_b92 d l0 l3 s))))))))))

set_option maxRecDepth 100000 in
set_option maxHeartbeats 4000000 in
theorem dx_Mach_compare_b40 (O : am_ok K X) (T : am_T K) {d : Nat} {l0 : Nat} {l1 : Int32} {l2 : Int32} {l3 : Int32} {s : HS} : xW cvU K X m_Mach_compare (d + 1) 40 [(0, .ref l0), (1, .int l1), (2, .int l2), (3, .int l3)] [] s (x_Mach_compare_b40 d l0 l1 l2 l3 s) := by
  unfold x_Mach_compare_b40
  refine xW_pure (fun _ _ _ _ _ => am_aload_n d_Mach_compare_40 rfl rfl) ?_
  refine xW_gR O f_Mach_7 d_Mach_compare_41 (fun v6 _ => ?_)
  refine xW_pure (fun _ _ _ _ _ => am_iload_n d_Mach_compare_44 rfl rfl) ?_
  refine xW_aL O d_Mach_compare_45 (fun v7 _ => ?_)
  refine xW_pure (fun _ _ _ _ _ => am_aload_n d_Mach_compare_46 rfl rfl) ?_
  refine xW_gR O f_Mach_7 d_Mach_compare_47 (fun v8 _ => ?_)
  refine xW_pure (fun _ _ _ _ _ => am_iload_n d_Mach_compare_50 rfl rfl) ?_
  refine xW_aL O d_Mach_compare_51 (fun v9 _ => ?_)
  refine xW_pure (fun _ _ _ _ _ => am_lcmp d_Mach_compare_52) ?_
  refine xW_ite (fun _ _ _ _ _ => am_if_lt (tgt := 88) d_Mach_compare_53 (by decide)) (fun _ => ?_) (fun _ => ?_)
  · refine xW_locs (lv' := [(0, .ref l0), (3, .int l3)]) rfl ?_
    exact dx_Mach_compare_b88 O T
  · refine xW_pure (fun _ _ _ _ _ => am_aload_n d_Mach_compare_56 rfl rfl) ?_
    refine xW_gR O f_Mach_7 d_Mach_compare_57 (fun v16 _ => ?_)
    refine xW_pure (fun _ _ _ _ _ => am_iload_n d_Mach_compare_60 rfl rfl) ?_
    refine xW_aL O d_Mach_compare_61 (fun v17 _ => ?_)
    refine xW_pure (fun _ _ _ _ _ => am_aload_n d_Mach_compare_62 rfl rfl) ?_
    refine xW_gR O f_Mach_7 d_Mach_compare_63 (fun v18 _ => ?_)
    refine xW_pure (fun _ _ _ _ _ => am_iload_n d_Mach_compare_66 rfl rfl) ?_
    refine xW_aL O d_Mach_compare_67 (fun v19 _ => ?_)
    refine xW_pure (fun _ _ _ _ _ => am_lcmp d_Mach_compare_68) ?_
    refine xW_ite (fun _ _ _ _ _ k1 k2 => am_if_ne (tgt := 92) d_Mach_compare_69 (by decide) k2 k1) (fun _ => ?_) (fun _ => ?_)
    · refine xW_pure (fun _ _ _ _ _ => am_aload_n d_Mach_compare_72 rfl rfl) ?_
      refine xW_gR O f_Mach_13 d_Mach_compare_73 (fun v20 _ => ?_)
      refine xW_pure (fun _ _ _ _ _ => am_iload_n d_Mach_compare_76 rfl rfl) ?_
      refine xW_aL O d_Mach_compare_77 (fun v21 _ => ?_)
      refine xW_pure (fun _ _ _ _ _ => am_aload_n d_Mach_compare_78 rfl rfl) ?_
      refine xW_gR O f_Mach_13 d_Mach_compare_79 (fun v22 _ => ?_)
      refine xW_pure (fun _ _ _ _ _ => am_iload_n d_Mach_compare_82 rfl rfl) ?_
      refine xW_aL O d_Mach_compare_83 (fun v23 _ => ?_)
      refine xW_pure (fun _ _ _ _ _ => am_lcmp d_Mach_compare_84) ?_
      refine xW_ite (fun _ _ _ _ _ => am_if_ge (tgt := 92) d_Mach_compare_85 (by decide)) (fun _ => ?_) (fun _ => ?_)
      · refine xW_locs (lv' := [(0, .ref l0), (3, .int l3)]) rfl ?_
        exact dx_Mach_compare_b92 O T
      · refine xW_locs (lv' := [(0, .ref l0), (3, .int l3)]) rfl ?_
        exact dx_Mach_compare_b88 O T
    · refine xW_locs (lv' := [(0, .ref l0), (3, .int l3)]) rfl ?_
      exact dx_Mach_compare_b92 O T

set_option maxRecDepth 100000 in
def x_Mach_compare (d : Nat) (x0 : Nat) (x1 : Int32) (x2 : Int32) (x3 : Int32) (s : HS) : Option (Unit × HS) := match d with
  | 0 => none
  | d + 1 => gd s x0 6 (bnd (x_Mach_sortAt d x0 x1 s) fun v2 s1 => ((pV s1 x0 6 2 (.int x1)).bind fun s3 => (bnd (x_Mach_sortAt d x0 x2 s3) fun v5 s4 => (if v2 = v5 then (if v2 = 1 then (x_Mach_compare_b40 d x0 x1 x2 x3 s4) else (if v2 = 2 then (x_Mach_compare_b40 d x0 x1 x2 x3 s4) else (bnd (x_Mach_fail d x0 2 s4) fun v25 s24 => (some ((), s24))))) else (bnd (x_Mach_fail d x0 2 s4) fun v27 s26 => (some ((), s26)))))))

set_option maxRecDepth 100000 in
set_option maxHeartbeats 4000000 in
theorem dx_Mach_compare (O : am_ok K X) (T : am_T K) {d : Nat} {x0 : Nat} {x1 : Int32} {x2 : Int32} {x3 : Int32} {s : HS} : xM cvU K X m_Mach_compare d [.ref x0, .int x1, .int x2, .int x3] s (x_Mach_compare d x0 x1 x2 x3 s) := by
  cases d with
  | zero => exact xM_none
  | succ d =>
    unfold x_Mach_compare
    refine xM_enter (by decide +kernel) (Nat.le_of_ble_eq_true rfl) ?_
    refine xW_gd (fun _ => ?_)
    refine xW_pure (fun _ _ _ _ _ => am_aload_n d_Mach_compare_0 rfl rfl) ?_
    refine xW_pure (fun _ _ _ _ _ => am_iload_n d_Mach_compare_1 rfl rfl) ?_
    refine xW_callV O (dx_Mach_sortAt O T) (fun _ e => ob_Mach_sortAt e) rfl rfl rfl l_Mach_177 ⟨w_1140, w_52⟩ rfl (Nat.le_of_ble_eq_true rfl) d_Mach_compare_2 (fun v2 s1 _ => ?_)
    refine xW_pure (fun _ _ _ _ _ => am_istore d_Mach_compare_5 (Nat.le_of_ble_eq_true rfl)) ?_
    refine xW_pure (fun _ _ _ _ _ => am_aload_n d_Mach_compare_7 rfl rfl) ?_
    refine xW_pure (fun _ _ _ _ _ => am_iload_n d_Mach_compare_8 rfl rfl) ?_
    refine xW_put O f_Mach_54 d_Mach_compare_9 (fun q hq => by cases hq; exact ⟨rfl, rfl, rfl⟩) (fun s3 _ => ?_)
    refine xW_pure (fun _ _ _ _ _ => am_iload d_Mach_compare_12 rfl) ?_
    refine xW_pure (fun _ _ _ _ _ => am_aload_n d_Mach_compare_14 rfl rfl) ?_
    refine xW_pure (fun _ _ _ _ _ => am_iload_n d_Mach_compare_15 rfl rfl) ?_
    refine xW_callV O (dx_Mach_sortAt O T) (fun _ e => ob_Mach_sortAt e) rfl rfl rfl l_Mach_177 ⟨w_1140, w_52⟩ rfl (Nat.le_of_ble_eq_true rfl) d_Mach_compare_16 (fun v5 s4 _ => ?_)
    refine xW_ite (fun _ _ _ _ _ k1 k2 => am_icmp_ne (tgt := 34) d_Mach_compare_19 (by decide) k2 k1) (fun _ => ?_) (fun _ => ?_)
    · refine xW_pure (fun _ _ _ _ _ => am_iload d_Mach_compare_22 rfl) ?_
      refine xW_pure (fun _ _ _ _ _ => am_iconst (v := 1) d_Mach_compare_24 (by decide)) ?_
      refine xW_ite (fun _ _ _ _ _ => am_icmp_eq (tgt := 40) d_Mach_compare_25 (by decide)) (fun _ => ?_) (fun _ => ?_)
      · refine xW_locs (lv' := [(0, .ref x0), (1, .int x1), (2, .int x2), (3, .int x3)]) rfl ?_
        exact dx_Mach_compare_b40 O T
      · refine xW_pure (fun _ _ _ _ _ => am_iload d_Mach_compare_28 rfl) ?_
        refine xW_pure (fun _ _ _ _ _ => am_iconst (v := 2) d_Mach_compare_30 (by decide)) ?_
        refine xW_ite (fun _ _ _ _ _ => am_icmp_eq (tgt := 40) d_Mach_compare_31 (by decide)) (fun _ => ?_) (fun _ => ?_)
        · refine xW_locs (lv' := [(0, .ref x0), (1, .int x1), (2, .int x2), (3, .int x3)]) rfl ?_
          exact dx_Mach_compare_b40 O T
        · refine xW_pure (fun _ _ _ _ _ => am_aload_n d_Mach_compare_34 rfl rfl) ?_
          refine xW_pure (fun _ _ _ _ _ => am_iconst (v := 2) d_Mach_compare_35 (by decide)) ?_
          refine xW_callV O (dx_Mach_fail O T) (fun _ e => ob_Mach_fail e) rfl rfl rfl l_Mach_106 ⟨w_1084, w_45⟩ rfl (Nat.le_of_ble_eq_true rfl) d_Mach_compare_36 (fun v25 s24 _ => ?_)
          exact xW_ret (fun _ _ _ _ _ => am_vret rfl d_Mach_compare_39)
    · refine xW_pure (fun _ _ _ _ _ => am_aload_n d_Mach_compare_34 rfl rfl) ?_
      refine xW_pure (fun _ _ _ _ _ => am_iconst (v := 2) d_Mach_compare_35 (by decide)) ?_
      refine xW_callV O (dx_Mach_fail O T) (fun _ e => ob_Mach_fail e) rfl rfl rfl l_Mach_106 ⟨w_1084, w_45⟩ rfl (Nat.le_of_ble_eq_true rfl) d_Mach_compare_36 (fun v27 s26 _ => ?_)
      exact xW_ret (fun _ _ _ _ _ => am_vret rfl d_Mach_compare_39)

theorem ob_Mach_compare {d : Nat} {x0 : Nat} {x1 : Int32} {x2 : Int32} {x3 : Int32} {s : HS} {y : Unit × HS} (h : x_Mach_compare d x0 x1 x2 x3 s = some y) : isO s x0 6 = true := by
  cases d with
  | zero => cases h
  | succ d => exact (gd_spec h).1

set_option maxRecDepth 100000 in
def x_Mach_join (d : Nat) (x0 : Nat) (x1 : Int32) (x2 : Int32) (s : HS) : Option (Unit × HS) := match d with
  | 0 => none
  | d + 1 => gd s x0 6 ((gR s x0 6 0).bind fun v1 => ((aL s v1 x1).bind fun v2 => ((gR s x0 6 1).bind fun v3 => ((aL s v3 x1).bind fun v4 => (bnd (x_Cell_signsOf d v2 v4 s) fun v6 s5 => ((gR s5 x0 6 0).bind fun v7 => ((aL s5 v7 x2).bind fun v8 => ((gR s5 x0 6 1).bind fun v9 => ((aL s5 v9 x2).bind fun v10 => (bnd (x_Cell_signsOf d v8 v10 s5) fun v12 s11 => (if (v6 + v12) ≤ 16 then (loopK (fun (again51 : Int32 × HS → Option (Unit × HS)) (z51 : Int32 × HS) => (if v12 ≤ z51.1 then (some ((), z51.2)) else ((gR z51.2 x0 6 0).bind fun v13 => ((aL z51.2 v13 x2).bind fun v14 => ((gR z51.2 x0 6 1).bind fun v15 => ((aL z51.2 v15 x2).bind fun v16 => (bnd (x_Cell_signAt d v14 v16 z51.1 z51.2) fun v18 s17 => (if 8 ≤ (v6 + z51.1) then ((gR s17 x0 6 1).bind fun v19 => ((aL s17 v19 x1).bind fun v20 => (bnd (x_Cell_placed d v18 (v6 + z51.1) s17) fun v22 s21 => ((sV s21 .long v19 x1 (.long (v20 ||| v22))).bind fun s23 => (again51 ((z51.1 + 1), s23)))))) else ((gR s17 x0 6 0).bind fun v24 => ((aL s17 v24 x1).bind fun v25 => (bnd (x_Cell_placed d v18 (v6 + z51.1) s17) fun v27 s26 => ((sV s26 .long v24 x1 (.long (v25 ||| v27))).bind fun s28 => (again51 ((z51.1 + 1), s28)))))))))))))) FU (0, s11)) else (bnd (x_Mach_fail d x0 4 s11) fun v30 s29 => (some ((), s29))))))))))))))

set_option maxRecDepth 100000 in
set_option maxHeartbeats 4000000 in
theorem dx_Mach_join (O : am_ok K X) (T : am_T K) {d : Nat} {x0 : Nat} {x1 : Int32} {x2 : Int32} {s : HS} : xM cvU K X m_Mach_join d [.ref x0, .int x1, .int x2] s (x_Mach_join d x0 x1 x2 s) := by
  cases d with
  | zero => exact xM_none
  | succ d =>
    unfold x_Mach_join
    refine xM_enter (by decide +kernel) (Nat.le_of_ble_eq_true rfl) ?_
    refine xW_gd (fun _ => ?_)
    refine xW_pure (fun _ _ _ _ _ => am_aload_n d_Mach_join_0 rfl rfl) ?_
    refine xW_gR O f_Mach_7 d_Mach_join_1 (fun v1 _ => ?_)
    refine xW_pure (fun _ _ _ _ _ => am_iload_n d_Mach_join_4 rfl rfl) ?_
    refine xW_aL O d_Mach_join_5 (fun v2 _ => ?_)
    refine xW_pure (fun _ _ _ _ _ => am_aload_n d_Mach_join_6 rfl rfl) ?_
    refine xW_gR O f_Mach_13 d_Mach_join_7 (fun v3 _ => ?_)
    refine xW_pure (fun _ _ _ _ _ => am_iload_n d_Mach_join_10 rfl rfl) ?_
    refine xW_aL O d_Mach_join_11 (fun v4 _ => ?_)
    refine xW_callS O (dx_Cell_signsOf O T) rfl l_Mach_248 w_1161 rfl (Nat.le_of_ble_eq_true rfl) d_Mach_join_12 (fun v6 s5 _ => ?_)
    refine xW_pure (fun _ _ _ _ _ => am_istore_n d_Mach_join_15 rfl (Nat.le_of_ble_eq_true rfl)) ?_
    refine xW_pure (fun _ _ _ _ _ => am_aload_n d_Mach_join_16 rfl rfl) ?_
    refine xW_gR O f_Mach_7 d_Mach_join_17 (fun v7 _ => ?_)
    refine xW_pure (fun _ _ _ _ _ => am_iload_n d_Mach_join_20 rfl rfl) ?_
    refine xW_aL O d_Mach_join_21 (fun v8 _ => ?_)
    refine xW_pure (fun _ _ _ _ _ => am_aload_n d_Mach_join_22 rfl rfl) ?_
    refine xW_gR O f_Mach_13 d_Mach_join_23 (fun v9 _ => ?_)
    refine xW_pure (fun _ _ _ _ _ => am_iload_n d_Mach_join_26 rfl rfl) ?_
    refine xW_aL O d_Mach_join_27 (fun v10 _ => ?_)
    refine xW_callS O (dx_Cell_signsOf O T) rfl l_Mach_248 w_1161 rfl (Nat.le_of_ble_eq_true rfl) d_Mach_join_28 (fun v12 s11 _ => ?_)
    refine xW_pure (fun _ _ _ _ _ => am_istore d_Mach_join_31 (Nat.le_of_ble_eq_true rfl)) ?_
    refine xW_pure (fun _ _ _ _ _ => am_iload_n d_Mach_join_33 rfl rfl) ?_
    refine xW_pure (fun _ _ _ _ _ => am_iload d_Mach_join_34 rfl) ?_
    refine xW_pure (fun _ _ _ _ _ => am_iadd d_Mach_join_36) ?_
    refine xW_pure (fun _ _ _ _ _ => am_bipush (v := 16) d_Mach_join_37 (by decide)) ?_
    refine xW_ite (fun _ _ _ _ _ => am_icmp_le (tgt := 48) d_Mach_join_39 (by decide)) (fun _ => ?_) (fun _ => ?_)
    · refine xW_pure (fun _ _ _ _ _ => am_iconst (v := 0) d_Mach_join_48 (by decide)) ?_
      refine xW_pure (fun _ _ _ _ _ => am_istore d_Mach_join_49 (Nat.le_of_ble_eq_true rfl)) ?_
      refine xW_locs (lv' := [(0, .ref x0), (1, .int x1), (2, .int x2), (3, .int v6), (4, .int v12), (5, .int 0)]) rfl ?_
      refine xW_loop (lvf := fun (z51 : Int32 × HS) => [(0, .ref x0), (1, .int x1), (2, .int x2), (3, .int v6), (4, .int v12), (5, .int z51.1)]) (hsf := fun (z51 : Int32 × HS) => z51.2) (fun again51 ih51 z51 => ?_) FU (0, s11)
      refine xW_pure (fun _ _ _ _ _ => am_iload d_Mach_join_51 rfl) ?_
      refine xW_pure (fun _ _ _ _ _ => am_iload d_Mach_join_53 rfl) ?_
      refine xW_ite (fun _ _ _ _ _ => am_icmp_ge (tgt := 131) d_Mach_join_55 (by decide)) (fun _ => ?_) (fun _ => ?_)
      · exact xW_ret (fun _ _ _ _ _ => am_vret rfl d_Mach_join_131)
      · refine xW_pure (fun _ _ _ _ _ => am_aload_n d_Mach_join_58 rfl rfl) ?_
        refine xW_gR O f_Mach_7 d_Mach_join_59 (fun v13 _ => ?_)
        refine xW_pure (fun _ _ _ _ _ => am_iload_n d_Mach_join_62 rfl rfl) ?_
        refine xW_aL O d_Mach_join_63 (fun v14 _ => ?_)
        refine xW_pure (fun _ _ _ _ _ => am_aload_n d_Mach_join_64 rfl rfl) ?_
        refine xW_gR O f_Mach_13 d_Mach_join_65 (fun v15 _ => ?_)
        refine xW_pure (fun _ _ _ _ _ => am_iload_n d_Mach_join_68 rfl rfl) ?_
        refine xW_aL O d_Mach_join_69 (fun v16 _ => ?_)
        refine xW_pure (fun _ _ _ _ _ => am_iload d_Mach_join_70 rfl) ?_
        refine xW_callS O (dx_Cell_signAt O T) rfl l_Mach_252 w_1164 rfl (Nat.le_of_ble_eq_true rfl) d_Mach_join_72 (fun v18 s17 _ => ?_)
        refine xW_pure (fun _ _ _ _ _ => am_istore d_Mach_join_75 (Nat.le_of_ble_eq_true rfl)) ?_
        refine xW_pure (fun _ _ _ _ _ => am_iload_n d_Mach_join_77 rfl rfl) ?_
        refine xW_pure (fun _ _ _ _ _ => am_iload d_Mach_join_78 rfl) ?_
        refine xW_pure (fun _ _ _ _ _ => am_iadd d_Mach_join_80) ?_
        refine xW_pure (fun _ _ _ _ _ => am_bipush (v := 8) d_Mach_join_81 (by decide)) ?_
        refine xW_ite (fun _ _ _ _ _ => am_icmp_ge (tgt := 107) d_Mach_join_83 (by decide)) (fun _ => ?_) (fun _ => ?_)
        · refine xW_pure (fun _ _ _ _ _ => am_aload_n d_Mach_join_107 rfl rfl) ?_
          refine xW_gR O f_Mach_13 d_Mach_join_108 (fun v19 _ => ?_)
          refine xW_pure (fun _ _ _ _ _ => am_iload_n d_Mach_join_111 rfl rfl) ?_
          refine xW_pure (fun _ _ _ _ _ => am_dup2 d_Mach_join_112 rfl rfl) ?_
          refine xW_aL O d_Mach_join_113 (fun v20 _ => ?_)
          refine xW_pure (fun _ _ _ _ _ => am_iload d_Mach_join_114 rfl) ?_
          refine xW_pure (fun _ _ _ _ _ => am_iload_n d_Mach_join_116 rfl rfl) ?_
          refine xW_pure (fun _ _ _ _ _ => am_iload d_Mach_join_117 rfl) ?_
          refine xW_pure (fun _ _ _ _ _ => am_iadd d_Mach_join_119) ?_
          refine xW_callS O (dx_Cell_placed O T) rfl l_Mach_256 w_258 rfl (Nat.le_of_ble_eq_true rfl) d_Mach_join_120 (fun v22 s21 _ => ?_)
          refine xW_pure (fun _ _ _ _ _ => am_lor d_Mach_join_123) ?_
          refine xW_sL O d_Mach_join_124 (fun s23 _ => ?_)
          refine xW_pure (fun _ _ _ _ _ => am_iinc (v := 1) d_Mach_join_125 rfl (by decide) (Nat.le_of_ble_eq_true rfl)) ?_
          refine xW_pure (fun _ _ _ _ _ => am_goto (tgt := 51) d_Mach_join_128 (by decide)) ?_
          refine xW_locs (lv' := [(0, .ref x0), (1, .int x1), (2, .int x2), (3, .int v6), (4, .int v12), (5, .int (z51.1 + 1))]) rfl ?_
          exact ih51 ((z51.1 + 1), s23)
        · refine xW_pure (fun _ _ _ _ _ => am_aload_n d_Mach_join_86 rfl rfl) ?_
          refine xW_gR O f_Mach_7 d_Mach_join_87 (fun v24 _ => ?_)
          refine xW_pure (fun _ _ _ _ _ => am_iload_n d_Mach_join_90 rfl rfl) ?_
          refine xW_pure (fun _ _ _ _ _ => am_dup2 d_Mach_join_91 rfl rfl) ?_
          refine xW_aL O d_Mach_join_92 (fun v25 _ => ?_)
          refine xW_pure (fun _ _ _ _ _ => am_iload d_Mach_join_93 rfl) ?_
          refine xW_pure (fun _ _ _ _ _ => am_iload_n d_Mach_join_95 rfl rfl) ?_
          refine xW_pure (fun _ _ _ _ _ => am_iload d_Mach_join_96 rfl) ?_
          refine xW_pure (fun _ _ _ _ _ => am_iadd d_Mach_join_98) ?_
          refine xW_callS O (dx_Cell_placed O T) rfl l_Mach_256 w_258 rfl (Nat.le_of_ble_eq_true rfl) d_Mach_join_99 (fun v27 s26 _ => ?_)
          refine xW_pure (fun _ _ _ _ _ => am_lor d_Mach_join_102) ?_
          refine xW_sL O d_Mach_join_103 (fun s28 _ => ?_)
          refine xW_pure (fun _ _ _ _ _ => am_goto (tgt := 125) d_Mach_join_104 (by decide)) ?_
          refine xW_pure (fun _ _ _ _ _ => am_iinc (v := 1) d_Mach_join_125 rfl (by decide) (Nat.le_of_ble_eq_true rfl)) ?_
          refine xW_pure (fun _ _ _ _ _ => am_goto (tgt := 51) d_Mach_join_128 (by decide)) ?_
          refine xW_locs (lv' := [(0, .ref x0), (1, .int x1), (2, .int x2), (3, .int v6), (4, .int v12), (5, .int (z51.1 + 1))]) rfl ?_
          exact ih51 ((z51.1 + 1), s28)
    · refine xW_pure (fun _ _ _ _ _ => am_aload_n d_Mach_join_42 rfl rfl) ?_
      refine xW_pure (fun _ _ _ _ _ => am_iconst (v := 4) d_Mach_join_43 (by decide)) ?_
      refine xW_callV O (dx_Mach_fail O T) (fun _ e => ob_Mach_fail e) rfl rfl rfl l_Mach_106 ⟨w_1084, w_45⟩ rfl (Nat.le_of_ble_eq_true rfl) d_Mach_join_44 (fun v30 s29 _ => ?_)
      exact xW_ret (fun _ _ _ _ _ => am_vret rfl d_Mach_join_47)

theorem ob_Mach_join {d : Nat} {x0 : Nat} {x1 : Int32} {x2 : Int32} {s : HS} {y : Unit × HS} (h : x_Mach_join d x0 x1 x2 s = some y) : isO s x0 6 = true := by
  cases d with
  | zero => cases h
  | succ d => exact (gd_spec h).1

set_option maxRecDepth 100000 in
def x_Store_objectsChangedSince (d : Nat) (x0 : Nat) (x1 : Nat) (s : HS) : Option (Int32 × HS) := match d with
  | 0 => none
  | d + 1 => gd s x0 10 (loopK (fun (again4 : Int32 × Int32 × HS → Option (Int32 × HS)) (z4 : Int32 × Int32 × HS) => (if 100 ≤ z4.2.1 then (some (z4.1, z4.2.2)) else (bnd (x_Store_isThere d x0 z4.2.1 z4.2.2) fun v2 s1 => (if v2 = 0 then (again4 (z4.1, (z4.2.1 + 1), s1)) else (bnd (x_Store_sameObject d x0 x1 z4.2.1 s1) fun v4 s3 => (if v4 = 0 then (again4 ((z4.1 + 1), (z4.2.1 + 1), s3)) else (again4 (z4.1, (z4.2.1 + 1), s3)))))))) FU (0, 0, s))

set_option maxRecDepth 100000 in
set_option maxHeartbeats 4000000 in
theorem dx_Store_objectsChangedSince (O : am_ok K X) (T : am_T K) {d : Nat} {x0 : Nat} {x1 : Nat} {s : HS} : xM cvI K X m_Store_objectsChangedSince d [.ref x0, .ref x1] s (x_Store_objectsChangedSince d x0 x1 s) := by
  cases d with
  | zero => exact xM_none
  | succ d =>
    unfold x_Store_objectsChangedSince
    refine xM_enter (by decide +kernel) (Nat.le_of_ble_eq_true rfl) ?_
    refine xW_gd (fun _ => ?_)
    refine xW_pure (fun _ _ _ _ _ => am_iconst (v := 0) d_Store_objectsChangedSince_0 (by decide)) ?_
    refine xW_pure (fun _ _ _ _ _ => am_istore_n d_Store_objectsChangedSince_1 rfl (Nat.le_of_ble_eq_true rfl)) ?_
    refine xW_pure (fun _ _ _ _ _ => am_iconst (v := 0) d_Store_objectsChangedSince_2 (by decide)) ?_
    refine xW_pure (fun _ _ _ _ _ => am_istore_n d_Store_objectsChangedSince_3 rfl (Nat.le_of_ble_eq_true rfl)) ?_
    refine xW_locs (lv' := [(0, .ref x0), (1, .ref x1), (2, .int 0), (3, .int 0)]) rfl ?_
    refine xW_loop (lvf := fun (z4 : Int32 × Int32 × HS) => [(0, .ref x0), (1, .ref x1), (2, .int z4.1), (3, .int z4.2.1)]) (hsf := fun (z4 : Int32 × Int32 × HS) => z4.2.2) (fun again4 ih4 z4 => ?_) FU (0, 0, s)
    refine xW_pure (fun _ _ _ _ _ => am_iload_n d_Store_objectsChangedSince_4 rfl rfl) ?_
    refine xW_pure (fun _ _ _ _ _ => am_bipush (v := 100) d_Store_objectsChangedSince_5 (by decide)) ?_
    refine xW_ite (fun _ _ _ _ _ => am_icmp_ge (tgt := 36) d_Store_objectsChangedSince_7 (by decide)) (fun _ => ?_) (fun _ => ?_)
    · refine xW_pure (fun _ _ _ _ _ => am_iload_n d_Store_objectsChangedSince_36 rfl rfl) ?_
      exact xW_ret (fun _ _ _ _ _ => am_iret rfl d_Store_objectsChangedSince_37)
    · refine xW_pure (fun _ _ _ _ _ => am_aload_n d_Store_objectsChangedSince_10 rfl rfl) ?_
      refine xW_pure (fun _ _ _ _ _ => am_iload_n d_Store_objectsChangedSince_11 rfl rfl) ?_
      refine xW_callV O (dx_Store_isThere O T) (fun _ e => ob_Store_isThere e) rfl rfl rfl l_Store_54 ⟨w_1245, w_1246⟩ rfl (Nat.le_of_ble_eq_true rfl) d_Store_objectsChangedSince_12 (fun v2 s1 _ => ?_)
      refine xW_ite (fun _ _ _ _ _ => am_if_eq (tgt := 30) d_Store_objectsChangedSince_15 (by decide)) (fun _ => ?_) (fun _ => ?_)
      · refine xW_pure (fun _ _ _ _ _ => am_iinc (v := 1) d_Store_objectsChangedSince_30 rfl (by decide) (Nat.le_of_ble_eq_true rfl)) ?_
        refine xW_pure (fun _ _ _ _ _ => am_goto (tgt := 4) d_Store_objectsChangedSince_33 (by decide)) ?_
        refine xW_locs (lv' := [(0, .ref x0), (1, .ref x1), (2, .int z4.1), (3, .int (z4.2.1 + 1))]) rfl ?_
        exact ih4 (z4.1, (z4.2.1 + 1), s1)
      · refine xW_pure (fun _ _ _ _ _ => am_aload_n d_Store_objectsChangedSince_18 rfl rfl) ?_
        refine xW_pure (fun _ _ _ _ _ => am_aload_n d_Store_objectsChangedSince_19 rfl rfl) ?_
        refine xW_pure (fun _ _ _ _ _ => am_iload_n d_Store_objectsChangedSince_20 rfl rfl) ?_
        refine xW_callV O (dx_Store_sameObject O T) (fun _ e => ob_Store_sameObject e) rfl rfl rfl l_Store_104 ⟨w_1352, w_78⟩ rfl (Nat.le_of_ble_eq_true rfl) d_Store_objectsChangedSince_21 (fun v4 s3 _ => ?_)
        refine xW_ite (fun _ _ _ _ _ k1 k2 => am_if_ne (tgt := 30) d_Store_objectsChangedSince_24 (by decide) k2 k1) (fun _ => ?_) (fun _ => ?_)
        · refine xW_pure (fun _ _ _ _ _ => am_iinc (v := 1) d_Store_objectsChangedSince_27 rfl (by decide) (Nat.le_of_ble_eq_true rfl)) ?_
          refine xW_pure (fun _ _ _ _ _ => am_iinc (v := 1) d_Store_objectsChangedSince_30 rfl (by decide) (Nat.le_of_ble_eq_true rfl)) ?_
          refine xW_pure (fun _ _ _ _ _ => am_goto (tgt := 4) d_Store_objectsChangedSince_33 (by decide)) ?_
          refine xW_locs (lv' := [(0, .ref x0), (1, .ref x1), (2, .int (z4.1 + 1)), (3, .int (z4.2.1 + 1))]) rfl ?_
          exact ih4 ((z4.1 + 1), (z4.2.1 + 1), s3)
        · refine xW_pure (fun _ _ _ _ _ => am_iinc (v := 1) d_Store_objectsChangedSince_30 rfl (by decide) (Nat.le_of_ble_eq_true rfl)) ?_
          refine xW_pure (fun _ _ _ _ _ => am_goto (tgt := 4) d_Store_objectsChangedSince_33 (by decide)) ?_
          refine xW_locs (lv' := [(0, .ref x0), (1, .ref x1), (2, .int z4.1), (3, .int (z4.2.1 + 1))]) rfl ?_
          exact ih4 (z4.1, (z4.2.1 + 1), s3)

theorem ob_Store_objectsChangedSince {d : Nat} {x0 : Nat} {x1 : Nat} {s : HS} {y : Int32 × HS} (h : x_Store_objectsChangedSince d x0 x1 s = some y) : isO s x0 10 = true := by
  cases d with
  | zero => cases h
  | succ d => exact (gd_spec h).1
end
