section
variable {K : am_K} {X : Nat → am_C}
set_option maxRecDepth 100000 in
def x_Pars_open (d : Nat) (x0 : Nat) (x1 : Int32) (x2 : Int32) (s : HS) : Option (Int32 × HS) := match d with
  | 0 => none
  | d + 1 => gd s x0 5 ((gR s x0 5 0).bind fun v1 => (bnd (x_Lexer_kind d v1 s) fun v3 s2 => (if v3 = x1 then (if x2 < 16 then ((gR s2 x0 5 0).bind fun v4 => (bnd (x_Lexer_advance d v4 s2) fun v6 s5 => (some (1, s5)))) else (bnd (x_Pars_fail d x0 s2) fun v8 s7 => (some (0, s7)))) else (bnd (x_Pars_fail d x0 s2) fun v10 s9 => (some (0, s9))))))

set_option maxRecDepth 100000 in
set_option maxHeartbeats 4000000 in
theorem dx_Pars_open (O : am_ok K X) (T : am_T K) {d : Nat} {x0 : Nat} {x1 : Int32} {x2 : Int32} {s : HS} : xM cvI K X m_Pars_open d [.ref x0, .int x1, .int x2] s (x_Pars_open d x0 x1 x2 s) := by
  cases d with
  | zero => exact xM_none
  | succ d =>
    unfold x_Pars_open
    refine xM_enter (by decide +kernel) (Nat.le_of_ble_eq_true rfl) ?_
    refine xW_gd (fun _ => ?_)
    refine xW_pure (fun _ _ _ _ _ => am_aload_n d_Pars_open_0 rfl rfl) ?_
    refine xW_gR O f_Pars_12 d_Pars_open_1 (fun v1 _ => ?_)
    refine xW_callV O (dx_Lexer_kind O T) (fun _ e => ob_Lexer_kind e) rfl rfl rfl l_Pars_59 ⟨w_673, w_674⟩ rfl (Nat.le_of_ble_eq_true rfl) d_Pars_open_4 (fun v3 s2 _ => ?_)
    refine xW_pure (fun _ _ _ _ _ => am_iload_n d_Pars_open_7 rfl rfl) ?_
    refine xW_ite (fun _ _ _ _ _ k1 k2 => am_icmp_ne (tgt := 17) d_Pars_open_8 (by decide) k2 k1) (fun _ => ?_) (fun _ => ?_)
    · refine xW_pure (fun _ _ _ _ _ => am_iload_n d_Pars_open_11 rfl rfl) ?_
      refine xW_pure (fun _ _ _ _ _ => am_bipush (v := 16) d_Pars_open_12 (by decide)) ?_
      refine xW_ite (fun _ _ _ _ _ => am_icmp_lt (tgt := 23) d_Pars_open_14 (by decide)) (fun _ => ?_) (fun _ => ?_)
      · refine xW_pure (fun _ _ _ _ _ => am_aload_n d_Pars_open_23 rfl rfl) ?_
        refine xW_gR O f_Pars_12 d_Pars_open_24 (fun v4 _ => ?_)
        refine xW_callV O (dx_Lexer_advance O T) (fun _ e => ob_Lexer_advance e) rfl rfl rfl l_Pars_96 ⟨w_554, w_555⟩ rfl (Nat.le_of_ble_eq_true rfl) d_Pars_open_27 (fun v6 s5 _ => ?_)
        refine xW_pure (fun _ _ _ _ _ => am_iconst (v := 1) d_Pars_open_30 (by decide)) ?_
        exact xW_ret (fun _ _ _ _ _ => am_zret (ty := .boolean) rfl rfl d_Pars_open_31)
      · refine xW_pure (fun _ _ _ _ _ => am_aload_n d_Pars_open_17 rfl rfl) ?_
        refine xW_callV O (dx_Pars_fail O T) (fun _ e => ob_Pars_fail e) rfl rfl rfl l_Pars_99 ⟨w_687, w_10⟩ rfl (Nat.le_of_ble_eq_true rfl) d_Pars_open_18 (fun v8 s7 _ => ?_)
        refine xW_pure (fun _ _ _ _ _ => am_iconst (v := 0) d_Pars_open_21 (by decide)) ?_
        exact xW_ret (fun _ _ _ _ _ => am_zret (ty := .boolean) rfl rfl d_Pars_open_22)
    · refine xW_pure (fun _ _ _ _ _ => am_aload_n d_Pars_open_17 rfl rfl) ?_
      refine xW_callV O (dx_Pars_fail O T) (fun _ e => ob_Pars_fail e) rfl rfl rfl l_Pars_99 ⟨w_687, w_10⟩ rfl (Nat.le_of_ble_eq_true rfl) d_Pars_open_18 (fun v10 s9 _ => ?_)
      refine xW_pure (fun _ _ _ _ _ => am_iconst (v := 0) d_Pars_open_21 (by decide)) ?_
      exact xW_ret (fun _ _ _ _ _ => am_zret (ty := .boolean) rfl rfl d_Pars_open_22)

theorem ob_Pars_open {d : Nat} {x0 : Nat} {x1 : Int32} {x2 : Int32} {s : HS} {y : Int32 × HS} (h : x_Pars_open d x0 x1 x2 s = some y) : isO s x0 5 = true := by
  cases d with
  | zero => cases h
  | succ d => exact (gd_spec h).1

set_option maxRecDepth 100000 in
def x_Log_workCopy (d : Nat) (x0 : Nat) (s : HS) : Option (Nat × HS) := match d with
  | 0 => none
  | d + 1 => gd s x0 7 ((gI s x0 7 2).bind fun v1 => (bnd (x_Log_storeAt d x0 (v1 + 1) s) fun v3 s2 => (bnd (x_Log_latest d x0 s2) fun v5 s4 => (bnd (x_Store_copyFrom d v3 v5 s4) fun v7 s6 => (some (v3, s6))))))

set_option maxRecDepth 100000 in
set_option maxHeartbeats 4000000 in
theorem dx_Log_workCopy (O : am_ok K X) (T : am_T K) {d : Nat} {x0 : Nat} {s : HS} : xM cvR K X m_Log_workCopy d [.ref x0] s (x_Log_workCopy d x0 s) := by
  cases d with
  | zero => exact xM_none
  | succ d =>
    unfold x_Log_workCopy
    refine xM_enter (by decide +kernel) (Nat.le_of_ble_eq_true rfl) ?_
    refine xW_gd (fun _ => ?_)
    refine xW_pure (fun _ _ _ _ _ => am_aload_n d_Log_workCopy_0 rfl rfl) ?_
    refine xW_pure (fun _ _ _ _ _ => am_aload_n d_Log_workCopy_1 rfl rfl) ?_
    refine xW_gI O f_Log_27 d_Log_workCopy_2 (fun v1 _ => ?_)
    refine xW_pure (fun _ _ _ _ _ => am_iconst (v := 1) d_Log_workCopy_5 (by decide)) ?_
    refine xW_pure (fun _ _ _ _ _ => am_iadd d_Log_workCopy_6) ?_
    refine xW_callV O (dx_Log_storeAt O T) (fun _ e => ob_Log_storeAt e) rfl rfl rfl l_Log_31 ⟨w_959, w_40⟩ rfl (Nat.le_of_ble_eq_true rfl) d_Log_workCopy_7 (fun v3 s2 _ => ?_)
    refine xW_pure (fun _ _ _ _ _ => am_astore_n d_Log_workCopy_10 rfl (Nat.le_of_ble_eq_true rfl)) ?_
    refine xW_pure (fun _ _ _ _ _ => am_aload_n d_Log_workCopy_11 rfl rfl) ?_
    refine xW_pure (fun _ _ _ _ _ => am_aload_n d_Log_workCopy_12 rfl rfl) ?_
    refine xW_callV O (dx_Log_latest O T) (fun _ e => ob_Log_latest e) rfl rfl rfl l_Log_35 ⟨w_1009, w_1010⟩ rfl (Nat.le_of_ble_eq_true rfl) d_Log_workCopy_13 (fun v5 s4 _ => ?_)
    refine xW_callV O (dx_Store_copyFrom O T) (fun _ e => ob_Store_copyFrom e) rfl rfl rfl l_Log_39 ⟨w_1013, w_1014⟩ rfl (Nat.le_of_ble_eq_true rfl) d_Log_workCopy_16 (fun v7 s6 _ => ?_)
    refine xW_pure (fun _ _ _ _ _ => am_aload_n d_Log_workCopy_19 rfl rfl) ?_
    exact xW_ret (fun _ _ _ _ _ => am_aret rfl (Or.inl ⟨_, rfl⟩) d_Log_workCopy_20)

theorem ob_Log_workCopy {d : Nat} {x0 : Nat} {s : HS} {y : Nat × HS} (h : x_Log_workCopy d x0 s = some y) : isO s x0 7 = true := by
  cases d with
  | zero => cases h
  | succ d => exact (gd_spec h).1

set_option maxRecDepth 100000 in
def x_Store_tell_b39 (d : Nat) (l0 : Nat) (l1 : Nat) (l2 : Int32) (s : HS) : Option (Int32 × HS) := (gR s l0 10 7).bind fun v5 => ((sR "StowTongue$Unit" 4 s v5 l2 l1).bind fun s6 => (bnd (x_Store_functionTokens d l0 s6) fun v8 s7 => (if 400 < v8 then (some (0, s7)) else (some (1, s7)))))

set_option maxRecDepth 100000 in
set_option maxHeartbeats 4000000 in
theorem dx_Store_tell_b39 (O : am_ok K X) (T : am_T K) {d : Nat} {l0 : Nat} {l1 : Nat} {l2 : Int32} {s : HS} : xW cvI K X m_Store_tell (d + 1) 39 [(0, .ref l0), (1, .ref l1), (2, .int l2)] [] s (x_Store_tell_b39 d l0 l1 l2 s) := by
  unfold x_Store_tell_b39
  refine xW_pure (fun _ _ _ _ _ => am_aload_n d_Store_tell_39 rfl rfl) ?_
  refine xW_gR O f_Store_31 d_Store_tell_40 (fun v5 _ => ?_)
  refine xW_pure (fun _ _ _ _ _ => am_iload_n d_Store_tell_43 rfl rfl) ?_
  refine xW_pure (fun _ _ _ _ _ => am_aload_n d_Store_tell_44 rfl rfl) ?_
  refine xW_sR O (ci := 4) (by rfl) (by rfl) (by decide) d_Store_tell_45 (fun s6 _ => ?_)
  refine xW_pure (fun _ _ _ _ _ => am_aload_n d_Store_tell_46 rfl rfl) ?_
  refine xW_callV O (dx_Store_functionTokens O T) (fun _ e => ob_Store_functionTokens e) rfl rfl rfl l_Store_101 ⟨w_1050, w_1051⟩ rfl (Nat.le_of_ble_eq_true rfl) d_Store_tell_47 (fun v8 s7 _ => ?_)
  refine xW_pure (fun _ _ _ _ _ => am_sipush (v := 400) d_Store_tell_50 (by decide)) ?_
  refine xW_ite (fun _ _ _ _ _ => am_icmp_gt (tgt := 60) d_Store_tell_53 (by decide)) (fun _ => ?_) (fun _ => ?_)
  · refine xW_pure (fun _ _ _ _ _ => am_iconst (v := 0) d_Store_tell_60 (by decide)) ?_
    exact xW_ret (fun _ _ _ _ _ => am_zret (ty := .boolean) rfl rfl d_Store_tell_61)
  · refine xW_pure (fun _ _ _ _ _ => am_iconst (v := 1) d_Store_tell_56 (by decide)) ?_
    refine xW_pure (fun _ _ _ _ _ => am_goto (tgt := 61) d_Store_tell_57 (by decide)) ?_
    exact xW_ret (fun _ _ _ _ _ => am_zret (ty := .boolean) rfl rfl d_Store_tell_61)

set_option maxRecDepth 100000 in
def x_Store_tell (d : Nat) (x0 : Nat) (x1 : Nat) (s : HS) : Option (Int32 × HS) := match d with
  | 0 => none
  | d + 1 => gd s x0 10 (bnd (x_Unit_name d x1 s) fun v2 s1 => (bnd (x_Store_functionAt d x0 v2 s1) fun v4 s3 => (if 0 ≤ v4 then (x_Store_tell_b39 d x0 x1 v4 s3) else ((gI s3 x0 10 8).bind fun v9 => (if v9 < 10 then ((gI s3 x0 10 8).bind fun v10 => ((gI s3 x0 10 8).bind fun v11 => ((pV s3 x0 10 8 (.int (v11 + 1))).bind fun s12 => (x_Store_tell_b39 d x0 x1 v10 s12)))) else (some (0, s3)))))))

set_option maxRecDepth 100000 in
set_option maxHeartbeats 4000000 in
theorem dx_Store_tell (O : am_ok K X) (T : am_T K) {d : Nat} {x0 : Nat} {x1 : Nat} {s : HS} : xM cvI K X m_Store_tell d [.ref x0, .ref x1] s (x_Store_tell d x0 x1 s) := by
  cases d with
  | zero => exact xM_none
  | succ d =>
    unfold x_Store_tell
    refine xM_enter (by decide +kernel) (Nat.le_of_ble_eq_true rfl) ?_
    refine xW_gd (fun _ => ?_)
    refine xW_pure (fun _ _ _ _ _ => am_aload_n d_Store_tell_0 rfl rfl) ?_
    refine xW_pure (fun _ _ _ _ _ => am_aload_n d_Store_tell_1 rfl rfl) ?_
    refine xW_callV O (dx_Unit_name O T) (fun _ e => ob_Unit_name e) rfl rfl rfl l_Store_93 ⟨w_1042, w_1043⟩ rfl (Nat.le_of_ble_eq_true rfl) d_Store_tell_2 (fun v2 s1 _ => ?_)
    refine xW_callV O (dx_Store_functionAt O T) (fun _ e => ob_Store_functionAt e) rfl rfl rfl l_Store_90 ⟨w_1047, w_41⟩ rfl (Nat.le_of_ble_eq_true rfl) d_Store_tell_5 (fun v4 s3 _ => ?_)
    refine xW_pure (fun _ _ _ _ _ => am_istore_n d_Store_tell_8 rfl (Nat.le_of_ble_eq_true rfl)) ?_
    refine xW_pure (fun _ _ _ _ _ => am_iload_n d_Store_tell_9 rfl rfl) ?_
    refine xW_ite (fun _ _ _ _ _ => am_if_ge (tgt := 39) d_Store_tell_10 (by decide)) (fun _ => ?_) (fun _ => ?_)
    · refine xW_locs (lv' := [(0, .ref x0), (1, .ref x1), (2, .int v4)]) rfl ?_
      exact dx_Store_tell_b39 O T
    · refine xW_pure (fun _ _ _ _ _ => am_aload_n d_Store_tell_13 rfl rfl) ?_
      refine xW_gI O f_Store_51 d_Store_tell_14 (fun v9 _ => ?_)
      refine xW_pure (fun _ _ _ _ _ => am_bipush (v := 10) d_Store_tell_17 (by decide)) ?_
      refine xW_ite (fun _ _ _ _ _ => am_icmp_lt (tgt := 24) d_Store_tell_19 (by decide)) (fun _ => ?_) (fun _ => ?_)
      · refine xW_pure (fun _ _ _ _ _ => am_aload_n d_Store_tell_24 rfl rfl) ?_
        refine xW_gI O f_Store_51 d_Store_tell_25 (fun v10 _ => ?_)
        refine xW_pure (fun _ _ _ _ _ => am_istore_n d_Store_tell_28 rfl (Nat.le_of_ble_eq_true rfl)) ?_
        refine xW_pure (fun _ _ _ _ _ => am_aload_n d_Store_tell_29 rfl rfl) ?_
        refine xW_pure (fun _ _ _ _ _ => am_dup d_Store_tell_30 rfl) ?_
        refine xW_gI O f_Store_51 d_Store_tell_31 (fun v11 _ => ?_)
        refine xW_pure (fun _ _ _ _ _ => am_iconst (v := 1) d_Store_tell_34 (by decide)) ?_
        refine xW_pure (fun _ _ _ _ _ => am_iadd d_Store_tell_35) ?_
        refine xW_put O f_Store_51 d_Store_tell_36 (fun q hq => by cases hq; exact ⟨rfl, rfl, rfl⟩) (fun s12 _ => ?_)
        refine xW_locs (lv' := [(0, .ref x0), (1, .ref x1), (2, .int v10)]) rfl ?_
        exact dx_Store_tell_b39 O T
      · refine xW_pure (fun _ _ _ _ _ => am_iconst (v := 0) d_Store_tell_22 (by decide)) ?_
        exact xW_ret (fun _ _ _ _ _ => am_zret (ty := .boolean) rfl rfl d_Store_tell_23)

theorem ob_Store_tell {d : Nat} {x0 : Nat} {x1 : Nat} {s : HS} {y : Int32 × HS} (h : x_Store_tell d x0 x1 s = some y) : isO s x0 10 = true := by
  cases d with
  | zero => cases h
  | succ d => exact (gd_spec h).1

set_option maxRecDepth 100000 in
def x_Mach_enter (d : Nat) (x0 : Nat) (x1 : Nat) (x2 : Int32) (s : HS) : Option (Unit × HS) := match d with
  | 0 => none
  | d + 1 => gd s x0 6 (bnd (x_Mach_below d x0 x2 s) fun v2 s1 => ((pV s1 x0 6 3 (.int v2)).bind fun s3 => ((pV s3 x0 6 4 (.ref x1)).bind fun s4 => ((pV s4 x0 6 5 (.int 0)).bind fun s5 => (loopK (fun (again21 : Int32 × HS → Option (Unit × HS)) (z21 : Int32 × HS) => (bnd (x_Unit_locals d x1 z21.2) fun v7 s6 => (if v7 ≤ z21.1 then (some ((), s6)) else (bnd (x_Mach_lay d x0 0 0 s6) fun v9 s8 => (again21 ((z21.1 + 1), s8)))))) FU (x2, s5))))))

set_option maxRecDepth 100000 in
set_option maxHeartbeats 4000000 in
theorem dx_Mach_enter (O : am_ok K X) (T : am_T K) {d : Nat} {x0 : Nat} {x1 : Nat} {x2 : Int32} {s : HS} : xM cvU K X m_Mach_enter d [.ref x0, .ref x1, .int x2] s (x_Mach_enter d x0 x1 x2 s) := by
  cases d with
  | zero => exact xM_none
  | succ d =>
    unfold x_Mach_enter
    refine xM_enter (by decide +kernel) (Nat.le_of_ble_eq_true rfl) ?_
    refine xW_gd (fun _ => ?_)
    refine xW_pure (fun _ _ _ _ _ => am_aload_n d_Mach_enter_0 rfl rfl) ?_
    refine xW_pure (fun _ _ _ _ _ => am_aload_n d_Mach_enter_1 rfl rfl) ?_
    refine xW_pure (fun _ _ _ _ _ => am_iload_n d_Mach_enter_2 rfl rfl) ?_
    refine xW_callV O (dx_Mach_below O T) (fun _ e => ob_Mach_below e) rfl rfl rfl l_Mach_133 ⟨w_1071, w_43⟩ rfl (Nat.le_of_ble_eq_true rfl) d_Mach_enter_3 (fun v2 s1 _ => ?_)
    refine xW_put O f_Mach_171 d_Mach_enter_6 (fun q hq => by cases hq; exact ⟨rfl, rfl, rfl⟩) (fun s3 _ => ?_)
    refine xW_pure (fun _ _ _ _ _ => am_aload_n d_Mach_enter_9 rfl rfl) ?_
    refine xW_pure (fun _ _ _ _ _ => am_aload_n d_Mach_enter_10 rfl rfl) ?_
    refine xW_put O f_Mach_62 d_Mach_enter_11 (fun q hq => by cases hq; exact ⟨rfl, rfl, rfl⟩) (fun s4 _ => ?_)
    refine xW_pure (fun _ _ _ _ _ => am_aload_n d_Mach_enter_14 rfl rfl) ?_
    refine xW_pure (fun _ _ _ _ _ => am_iconst (v := 0) d_Mach_enter_15 (by decide)) ?_
    refine xW_put O f_Mach_66 d_Mach_enter_16 (fun q hq => by cases hq; exact ⟨rfl, rfl, rfl⟩) (fun s5 _ => ?_)
    refine xW_pure (fun _ _ _ _ _ => am_iload_n d_Mach_enter_19 rfl rfl) ?_
    refine xW_pure (fun _ _ _ _ _ => am_istore_n d_Mach_enter_20 rfl (Nat.le_of_ble_eq_true rfl)) ?_
    refine xW_locs (lv' := [(0, .ref x0), (1, .ref x1), (3, .int x2)]) rfl ?_
    refine xW_loop (lvf := fun (z21 : Int32 × HS) => [(0, .ref x0), (1, .ref x1), (3, .int z21.1)]) (hsf := fun (z21 : Int32 × HS) => z21.2) (fun again21 ih21 z21 => ?_) FU (x2, s5)
    refine xW_pure (fun _ _ _ _ _ => am_iload_n d_Mach_enter_21 rfl rfl) ?_
    refine xW_pure (fun _ _ _ _ _ => am_aload_n d_Mach_enter_22 rfl rfl) ?_
    refine xW_callV O (dx_Unit_locals O T) (fun _ e => ob_Unit_locals e) rfl rfl rfl l_Mach_174 ⟨w_1075, w_1076⟩ rfl (Nat.le_of_ble_eq_true rfl) d_Mach_enter_23 (fun v7 s6 _ => ?_)
    refine xW_ite (fun _ _ _ _ _ => am_icmp_ge (tgt := 41) d_Mach_enter_26 (by decide)) (fun _ => ?_) (fun _ => ?_)
    · exact xW_ret (fun _ _ _ _ _ => am_vret rfl d_Mach_enter_41)
    · refine xW_pure (fun _ _ _ _ _ => am_aload_n d_Mach_enter_29 rfl rfl) ?_
      refine xW_pure (fun _ _ _ _ _ => am_lconst (v := 0) d_Mach_enter_30 (by decide)) ?_
      refine xW_pure (fun _ _ _ _ _ => am_lconst (v := 0) d_Mach_enter_31 (by decide)) ?_
      refine xW_callV O (dx_Mach_lay O T) (fun _ e => ob_Mach_lay e) rfl rfl rfl l_Mach_121 ⟨w_1080, w_44⟩ rfl (Nat.le_of_ble_eq_true rfl) d_Mach_enter_32 (fun v9 s8 _ => ?_)
      refine xW_pure (fun _ _ _ _ _ => am_iinc (v := 1) d_Mach_enter_35 rfl (by decide) (Nat.le_of_ble_eq_true rfl)) ?_
      refine xW_pure (fun _ _ _ _ _ => am_goto (tgt := 21) d_Mach_enter_38 (by decide)) ?_
      refine xW_locs (lv' := [(0, .ref x0), (1, .ref x1), (3, .int (z21.1 + 1))]) rfl ?_
      exact ih21 ((z21.1 + 1), s8)

theorem ob_Mach_enter {d : Nat} {x0 : Nat} {x1 : Nat} {x2 : Int32} {s : HS} {y : Unit × HS} (h : x_Mach_enter d x0 x1 x2 s = some y) : isO s x0 6 = true := by
  cases d with
  | zero => cases h
  | succ d => exact (gd_spec h).1

set_option maxRecDepth 100000 in
def x_Mach_call (d : Nat) (x0 : Nat) (x1 : Int64) (x2 : Int32) (s : HS) : Option (Unit × HS) := match d with
  | 0 => none
  | d + 1 => gd s x0 6 (bnd (x_Mach_burn d x0 s) fun v2 s1 => (if v2 = 0 then (some ((), s1)) else ((gR s1 x0 6 10).bind fun v3 => (bnd (x_Store_functionOf d v3 x1 s1) fun v5 s4 => (v5.elim (bnd (x_Mach_fail d x0 6 s4) fun v7 s6 => (some ((), s6))) (fun v5q => bnd (x_Unit_names d v5q s4) fun v9 s8 => (if v9 = x2 then ((gI s8 x0 6 9).bind fun v10 => (if v10 < 8 then ((gR s8 x0 6 6).bind fun v11 => ((gI s8 x0 6 9).bind fun v12 => ((gR s8 x0 6 4).bind fun v13 => ((sR "StowTongue$Unit" 4 s8 v11 v12 v13).bind fun s14 => ((gR s14 x0 6 7).bind fun v15 => ((gI s14 x0 6 9).bind fun v16 => ((gI s14 x0 6 5).bind fun v17 => ((sV s14 .int v15 v16 (.int v17)).bind fun s18 => ((gR s18 x0 6 8).bind fun v19 => ((gI s18 x0 6 9).bind fun v20 => ((gI s18 x0 6 3).bind fun v21 => ((sV s18 .int v19 v20 (.int v21)).bind fun s22 => ((gI s22 x0 6 9).bind fun v23 => ((pV s22 x0 6 9 (.int (v23 + 1))).bind fun s24 => (bnd (x_Mach_enter d x0 v5q x2 s24) fun v26 s25 => (some ((), s25))))))))))))))))) else (bnd (x_Mach_fail d x0 7 s8) fun v28 s27 => (some ((), s27))))) else (bnd (x_Mach_fail d x0 6 s8) fun v30 s29 => (some ((), s29))))))))))

set_option maxRecDepth 100000 in
set_option maxHeartbeats 4000000 in
theorem dx_Mach_call (O : am_ok K X) (T : am_T K) {d : Nat} {x0 : Nat} {x1 : Int64} {x2 : Int32} {s : HS} : xM cvU K X m_Mach_call d [.ref x0, .long x1, .int x2] s (x_Mach_call d x0 x1 x2 s) := by
  cases d with
  | zero => exact xM_none
  | succ d =>
    unfold x_Mach_call
    refine xM_enter (by decide +kernel) (Nat.le_of_ble_eq_true rfl) ?_
    refine xW_gd (fun _ => ?_)
    refine xW_pure (fun _ _ _ _ _ => am_aload_n d_Mach_call_0 rfl rfl) ?_
    refine xW_callV O (dx_Mach_burn O T) (fun _ e => ob_Mach_burn e) rfl rfl rfl l_Mach_140 ⟨w_1108, w_47⟩ rfl (Nat.le_of_ble_eq_true rfl) d_Mach_call_1 (fun v2 s1 _ => ?_)
    refine xW_ite (fun _ _ _ _ _ k1 k2 => am_if_ne (tgt := 8) d_Mach_call_4 (by decide) k2 k1) (fun _ => ?_) (fun _ => ?_)
    · exact xW_ret (fun _ _ _ _ _ => am_vret rfl d_Mach_call_7)
    · refine xW_pure (fun _ _ _ _ _ => am_aload_n d_Mach_call_8 rfl rfl) ?_
      refine xW_gR O f_Mach_29 d_Mach_call_9 (fun v3 _ => ?_)
      refine xW_pure (fun _ _ _ _ _ => am_lload_n d_Mach_call_12 rfl rfl) ?_
      refine xW_callV O (dx_Store_functionOf O T) (fun _ e => ob_Store_functionOf e) rfl rfl rfl l_Mach_161 ⟨w_1123, w_1124⟩ rfl (Nat.le_of_ble_eq_true rfl) d_Mach_call_13 (fun v5 s4 _ => ?_)
      cases v5 with
      | none =>
        rw [Option.elim_none]
        refine xW_pure (fun _ _ _ _ _ => am_astoreN d_Mach_call_16 (Nat.le_of_ble_eq_true rfl)) ?_
        refine xW_pure (fun _ _ _ _ _ => am_aloadN d_Mach_call_18 rfl) ?_
        refine xW_pure (fun _ _ _ _ _ => am_ifnullN (tgt := 32) d_Mach_call_20 (by decide)) ?_
        refine xW_pure (fun _ _ _ _ _ => am_aload_n d_Mach_call_32 rfl rfl) ?_
        refine xW_pure (fun _ _ _ _ _ => am_bipush (v := 6) d_Mach_call_33 (by decide)) ?_
        refine xW_callV O (dx_Mach_fail O T) (fun _ e => ob_Mach_fail e) rfl rfl rfl l_Mach_106 ⟨w_1084, w_45⟩ rfl (Nat.le_of_ble_eq_true rfl) d_Mach_call_35 (fun v7 s6 _ => ?_)
        refine xW_pure (fun _ _ _ _ _ => am_goto (tgt := 115) d_Mach_call_38 (by decide)) ?_
        exact xW_ret (fun _ _ _ _ _ => am_vret rfl d_Mach_call_115)
      | some v5q =>
        rw [Option.elim_some]
        refine xW_pure (fun _ _ _ _ _ => am_astore d_Mach_call_16 (Nat.le_of_ble_eq_true rfl)) ?_
        refine xW_pure (fun _ _ _ _ _ => am_aload d_Mach_call_18 rfl) ?_
        refine xW_pure (fun _ _ _ _ _ => am_ifnullR d_Mach_call_20) ?_
        refine xW_pure (fun _ _ _ _ _ => am_aload d_Mach_call_23 rfl) ?_
        refine xW_callV O (dx_Unit_names O T) (fun _ e => ob_Unit_names e) rfl rfl rfl l_Mach_167 ⟨w_1127, w_1128⟩ rfl (Nat.le_of_ble_eq_true rfl) d_Mach_call_25 (fun v9 s8 _ => ?_)
        refine xW_pure (fun _ _ _ _ _ => am_iload_n d_Mach_call_28 rfl rfl) ?_
        refine xW_ite (fun _ _ _ _ _ => am_icmp_eq (tgt := 41) d_Mach_call_29 (by decide)) (fun _ => ?_) (fun _ => ?_)
        · refine xW_pure (fun _ _ _ _ _ => am_aload_n d_Mach_call_41 rfl rfl) ?_
          refine xW_gI O f_Mach_51 d_Mach_call_42 (fun v10 _ => ?_)
          refine xW_pure (fun _ _ _ _ _ => am_bipush (v := 8) d_Mach_call_45 (by decide)) ?_
          refine xW_ite (fun _ _ _ _ _ => am_icmp_lt (tgt := 59) d_Mach_call_47 (by decide)) (fun _ => ?_) (fun _ => ?_)
          · refine xW_pure (fun _ _ _ _ _ => am_aload_n d_Mach_call_59 rfl rfl) ?_
            refine xW_gR O f_Mach_18 d_Mach_call_60 (fun v11 _ => ?_)
            refine xW_pure (fun _ _ _ _ _ => am_aload_n d_Mach_call_63 rfl rfl) ?_
            refine xW_gI O f_Mach_51 d_Mach_call_64 (fun v12 _ => ?_)
            refine xW_pure (fun _ _ _ _ _ => am_aload_n d_Mach_call_67 rfl rfl) ?_
            refine xW_gR O f_Mach_62 d_Mach_call_68 (fun v13 _ => ?_)
            refine xW_sR O (ci := 4) (by rfl) (by rfl) (by decide) d_Mach_call_71 (fun s14 _ => ?_)
            refine xW_pure (fun _ _ _ _ _ => am_aload_n d_Mach_call_72 rfl rfl) ?_
            refine xW_gR O f_Mach_22 d_Mach_call_73 (fun v15 _ => ?_)
            refine xW_pure (fun _ _ _ _ _ => am_aload_n d_Mach_call_76 rfl rfl) ?_
            refine xW_gI O f_Mach_51 d_Mach_call_77 (fun v16 _ => ?_)
            refine xW_pure (fun _ _ _ _ _ => am_aload_n d_Mach_call_80 rfl rfl) ?_
            refine xW_gI O f_Mach_66 d_Mach_call_81 (fun v17 _ => ?_)
            refine xW_sI O d_Mach_call_84 (fun s18 _ => ?_)
            refine xW_pure (fun _ _ _ _ _ => am_aload_n d_Mach_call_85 rfl rfl) ?_
            refine xW_gR O f_Mach_26 d_Mach_call_86 (fun v19 _ => ?_)
            refine xW_pure (fun _ _ _ _ _ => am_aload_n d_Mach_call_89 rfl rfl) ?_
            refine xW_gI O f_Mach_51 d_Mach_call_90 (fun v20 _ => ?_)
            refine xW_pure (fun _ _ _ _ _ => am_aload_n d_Mach_call_93 rfl rfl) ?_
            refine xW_gI O f_Mach_171 d_Mach_call_94 (fun v21 _ => ?_)
            refine xW_sI O d_Mach_call_97 (fun s22 _ => ?_)
            refine xW_pure (fun _ _ _ _ _ => am_aload_n d_Mach_call_98 rfl rfl) ?_
            refine xW_pure (fun _ _ _ _ _ => am_dup d_Mach_call_99 rfl) ?_
            refine xW_gI O f_Mach_51 d_Mach_call_100 (fun v23 _ => ?_)
            refine xW_pure (fun _ _ _ _ _ => am_iconst (v := 1) d_Mach_call_103 (by decide)) ?_
            refine xW_pure (fun _ _ _ _ _ => am_iadd d_Mach_call_104) ?_
            refine xW_put O f_Mach_51 d_Mach_call_105 (fun q hq => by cases hq; exact ⟨rfl, rfl, rfl⟩) (fun s24 _ => ?_)
            refine xW_pure (fun _ _ _ _ _ => am_aload_n d_Mach_call_108 rfl rfl) ?_
            refine xW_pure (fun _ _ _ _ _ => am_aload d_Mach_call_109 rfl) ?_
            refine xW_pure (fun _ _ _ _ _ => am_iload_n d_Mach_call_111 rfl rfl) ?_
            refine xW_callV O (dx_Mach_enter O T) (fun _ e => ob_Mach_enter e) rfl rfl rfl l_Mach_57 ⟨w_1067, w_42⟩ rfl (Nat.le_of_ble_eq_true rfl) d_Mach_call_112 (fun v26 s25 _ => ?_)
            exact xW_ret (fun _ _ _ _ _ => am_vret rfl d_Mach_call_115)
          · refine xW_pure (fun _ _ _ _ _ => am_aload_n d_Mach_call_50 rfl rfl) ?_
            refine xW_pure (fun _ _ _ _ _ => am_bipush (v := 7) d_Mach_call_51 (by decide)) ?_
            refine xW_callV O (dx_Mach_fail O T) (fun _ e => ob_Mach_fail e) rfl rfl rfl l_Mach_106 ⟨w_1084, w_45⟩ rfl (Nat.le_of_ble_eq_true rfl) d_Mach_call_53 (fun v28 s27 _ => ?_)
            refine xW_pure (fun _ _ _ _ _ => am_goto (tgt := 115) d_Mach_call_56 (by decide)) ?_
            exact xW_ret (fun _ _ _ _ _ => am_vret rfl d_Mach_call_115)
        · refine xW_pure (fun _ _ _ _ _ => am_aload_n d_Mach_call_32 rfl rfl) ?_
          refine xW_pure (fun _ _ _ _ _ => am_bipush (v := 6) d_Mach_call_33 (by decide)) ?_
          refine xW_callV O (dx_Mach_fail O T) (fun _ e => ob_Mach_fail e) rfl rfl rfl l_Mach_106 ⟨w_1084, w_45⟩ rfl (Nat.le_of_ble_eq_true rfl) d_Mach_call_35 (fun v30 s29 _ => ?_)
          refine xW_pure (fun _ _ _ _ _ => am_goto (tgt := 115) d_Mach_call_38 (by decide)) ?_
          exact xW_ret (fun _ _ _ _ _ => am_vret rfl d_Mach_call_115)

theorem ob_Mach_call {d : Nat} {x0 : Nat} {x1 : Int64} {x2 : Int32} {s : HS} {y : Unit × HS} (h : x_Mach_call d x0 x1 x2 s = some y) : isO s x0 6 = true := by
  cases d with
  | zero => cases h
  | succ d => exact (gd_spec h).1

set_option maxRecDepth 100000 in
def x_Out_addText (d : Nat) (x0 : Nat) (x1 : Int64) (x2 : Int64) (s : HS) : Option (Unit × HS) := match d with
  | 0 => none
  | d + 1 => gd s x0 0 (bnd (x_Cell_signsOf d x1 x2 s) fun v2 s1 => (loopK (fun (again10 : Int32 × HS → Option (Unit × HS)) (z10 : Int32 × HS) => (if v2 ≤ z10.1 then (some ((), z10.2)) else (bnd (x_Cell_signAt d x1 x2 z10.1 z10.2) fun v4 s3 => (bnd (x_Out_add d x0 v4 s3) fun v6 s5 => (again10 ((z10.1 + 1), s5)))))) FU (0, s1)))

set_option maxRecDepth 100000 in
set_option maxHeartbeats 4000000 in
theorem dx_Out_addText (O : am_ok K X) (T : am_T K) {d : Nat} {x0 : Nat} {x1 : Int64} {x2 : Int64} {s : HS} : xM cvU K X m_Out_addText d [.ref x0, .long x1, .long x2] s (x_Out_addText d x0 x1 x2 s) := by
  cases d with
  | zero => exact xM_none
  | succ d =>
    unfold x_Out_addText
    refine xM_enter (by decide +kernel) (Nat.le_of_ble_eq_true rfl) ?_
    refine xW_gd (fun _ => ?_)
    refine xW_pure (fun _ _ _ _ _ => am_lload_n d_Out_addText_0 rfl rfl) ?_
    refine xW_pure (fun _ _ _ _ _ => am_lload_n d_Out_addText_1 rfl rfl) ?_
    refine xW_callS O (dx_Cell_signsOf O T) rfl l_Out_23 w_1161 rfl (Nat.le_of_ble_eq_true rfl) d_Out_addText_2 (fun v2 s1 _ => ?_)
    refine xW_pure (fun _ _ _ _ _ => am_istore d_Out_addText_5 (Nat.le_of_ble_eq_true rfl)) ?_
    refine xW_pure (fun _ _ _ _ _ => am_iconst (v := 0) d_Out_addText_7 (by decide)) ?_
    refine xW_pure (fun _ _ _ _ _ => am_istore d_Out_addText_8 (Nat.le_of_ble_eq_true rfl)) ?_
    refine xW_locs (lv' := [(0, .ref x0), (1, .long x1), (3, .long x2), (5, .int v2), (6, .int 0)]) rfl ?_
    refine xW_loop (lvf := fun (z10 : Int32 × HS) => [(0, .ref x0), (1, .long x1), (3, .long x2), (5, .int v2), (6, .int z10.1)]) (hsf := fun (z10 : Int32 × HS) => z10.2) (fun again10 ih10 z10 => ?_) FU (0, s1)
    refine xW_pure (fun _ _ _ _ _ => am_iload d_Out_addText_10 rfl) ?_
    refine xW_pure (fun _ _ _ _ _ => am_iload d_Out_addText_12 rfl) ?_
    refine xW_ite (fun _ _ _ _ _ => am_icmp_ge (tgt := 34) d_Out_addText_14 (by decide)) (fun _ => ?_) (fun _ => ?_)
    · exact xW_ret (fun _ _ _ _ _ => am_vret rfl d_Out_addText_34)
    · refine xW_pure (fun _ _ _ _ _ => am_aload_n d_Out_addText_17 rfl rfl) ?_
      refine xW_pure (fun _ _ _ _ _ => am_lload_n d_Out_addText_18 rfl rfl) ?_
      refine xW_pure (fun _ _ _ _ _ => am_lload_n d_Out_addText_19 rfl rfl) ?_
      refine xW_pure (fun _ _ _ _ _ => am_iload d_Out_addText_20 rfl) ?_
      refine xW_callS O (dx_Cell_signAt O T) rfl l_Out_29 w_1164 rfl (Nat.le_of_ble_eq_true rfl) d_Out_addText_22 (fun v4 s3 _ => ?_)
      refine xW_callV O (dx_Out_add O T) (fun _ e => ob_Out_add e) rfl rfl rfl l_Out_33 ⟨w_1148, w_1149⟩ rfl (Nat.le_of_ble_eq_true rfl) d_Out_addText_25 (fun v6 s5 _ => ?_)
      refine xW_pure (fun _ _ _ _ _ => am_iinc (v := 1) d_Out_addText_28 rfl (by decide) (Nat.le_of_ble_eq_true rfl)) ?_
      refine xW_pure (fun _ _ _ _ _ => am_goto (tgt := 10) d_Out_addText_31 (by decide)) ?_
      refine xW_locs (lv' := [(0, .ref x0), (1, .long x1), (3, .long x2), (5, .int v2), (6, .int (z10.1 + 1))]) rfl ?_
      exact ih10 ((z10.1 + 1), s5)

theorem ob_Out_addText {d : Nat} {x0 : Nat} {x1 : Int64} {x2 : Int64} {s : HS} {y : Unit × HS} (h : x_Out_addText d x0 x1 x2 s = some y) : isO s x0 0 = true := by
  cases d with
  | zero => cases h
  | succ d => exact (gd_spec h).1

set_option maxRecDepth 100000 in
def x_Mach_doConstant (d : Nat) (x0 : Nat) (x1 : Int32) (x2 : Int32) (s : HS) : Option (Unit × HS) := match d with
  | 0 => none
  | d + 1 => gd s x0 6 (if x1 = 11 then (bnd (x_Mach_layNumber d x0 (x2 : Int32).toInt64 s) fun v2 s1 => (some ((), s1))) else (if x1 = 12 then ((gR s x0 6 4).bind fun v3 => (bnd (x_Unit_constant d v3 x2 s) fun v5 s4 => ((gR s4 x0 6 4).bind fun v6 => (bnd (x_Unit_constant d v6 (x2 + 1) s4) fun v8 s7 => (bnd (x_Mach_lay d x0 v5 v8 s7) fun v10 s9 => (some ((), s9))))))) else (bnd (x_Mach_lay d x0 0 0 s) fun v12 s11 => (some ((), s11)))))

set_option maxRecDepth 100000 in
set_option maxHeartbeats 4000000 in
theorem dx_Mach_doConstant (O : am_ok K X) (T : am_T K) {d : Nat} {x0 : Nat} {x1 : Int32} {x2 : Int32} {s : HS} : xM cvU K X m_Mach_doConstant d [.ref x0, .int x1, .int x2] s (x_Mach_doConstant d x0 x1 x2 s) := by
  cases d with
  | zero => exact xM_none
  | succ d =>
    unfold x_Mach_doConstant
    refine xM_enter (by decide +kernel) (Nat.le_of_ble_eq_true rfl) ?_
    refine xW_gd (fun _ => ?_)
    refine xW_pure (fun _ _ _ _ _ => am_iload_n d_Mach_doConstant_0 rfl rfl) ?_
    refine xW_pure (fun _ _ _ _ _ => am_bipush (v := 11) d_Mach_doConstant_1 (by decide)) ?_
    refine xW_ite (fun _ _ _ _ _ k1 k2 => am_icmp_ne (tgt := 15) d_Mach_doConstant_3 (by decide) k2 k1) (fun _ => ?_) (fun _ => ?_)
    · refine xW_pure (fun _ _ _ _ _ => am_aload_n d_Mach_doConstant_6 rfl rfl) ?_
      refine xW_pure (fun _ _ _ _ _ => am_iload_n d_Mach_doConstant_7 rfl rfl) ?_
      refine xW_pure (fun _ _ _ _ _ => am_i2l d_Mach_doConstant_8 rfl) ?_
      refine xW_callV O (dx_Mach_layNumber O T) (fun _ e => ob_Mach_layNumber e) rfl rfl rfl l_Mach_125 ⟨w_1178, w_54⟩ rfl (Nat.le_of_ble_eq_true rfl) d_Mach_doConstant_9 (fun v2 s1 _ => ?_)
      refine xW_pure (fun _ _ _ _ _ => am_goto (tgt := 52) d_Mach_doConstant_12 (by decide)) ?_
      exact xW_ret (fun _ _ _ _ _ => am_vret rfl d_Mach_doConstant_52)
    · refine xW_pure (fun _ _ _ _ _ => am_iload_n d_Mach_doConstant_15 rfl rfl) ?_
      refine xW_pure (fun _ _ _ _ _ => am_bipush (v := 12) d_Mach_doConstant_16 (by decide)) ?_
      refine xW_ite (fun _ _ _ _ _ k1 k2 => am_icmp_ne (tgt := 46) d_Mach_doConstant_18 (by decide) k2 k1) (fun _ => ?_) (fun _ => ?_)
      · refine xW_pure (fun _ _ _ _ _ => am_aload_n d_Mach_doConstant_21 rfl rfl) ?_
        refine xW_pure (fun _ _ _ _ _ => am_aload_n d_Mach_doConstant_22 rfl rfl) ?_
        refine xW_gR O f_Mach_62 d_Mach_doConstant_23 (fun v3 _ => ?_)
        refine xW_pure (fun _ _ _ _ _ => am_iload_n d_Mach_doConstant_26 rfl rfl) ?_
        refine xW_callV O (dx_Unit_constant O T) (fun _ e => ob_Unit_constant e) rfl rfl rfl l_Mach_148 ⟨w_1115, w_1116⟩ rfl (Nat.le_of_ble_eq_true rfl) d_Mach_doConstant_27 (fun v5 s4 _ => ?_)
        refine xW_pure (fun _ _ _ _ _ => am_aload_n d_Mach_doConstant_30 rfl rfl) ?_
        refine xW_gR O f_Mach_62 d_Mach_doConstant_31 (fun v6 _ => ?_)
        refine xW_pure (fun _ _ _ _ _ => am_iload_n d_Mach_doConstant_34 rfl rfl) ?_
        refine xW_pure (fun _ _ _ _ _ => am_iconst (v := 1) d_Mach_doConstant_35 (by decide)) ?_
        refine xW_pure (fun _ _ _ _ _ => am_iadd d_Mach_doConstant_36) ?_
        refine xW_callV O (dx_Unit_constant O T) (fun _ e => ob_Unit_constant e) rfl rfl rfl l_Mach_148 ⟨w_1115, w_1116⟩ rfl (Nat.le_of_ble_eq_true rfl) d_Mach_doConstant_37 (fun v8 s7 _ => ?_)
        refine xW_callV O (dx_Mach_lay O T) (fun _ e => ob_Mach_lay e) rfl rfl rfl l_Mach_121 ⟨w_1080, w_44⟩ rfl (Nat.le_of_ble_eq_true rfl) d_Mach_doConstant_40 (fun v10 s9 _ => ?_)
        refine xW_pure (fun _ _ _ _ _ => am_goto (tgt := 52) d_Mach_doConstant_43 (by decide)) ?_
        exact xW_ret (fun _ _ _ _ _ => am_vret rfl d_Mach_doConstant_52)
      · refine xW_pure (fun _ _ _ _ _ => am_aload_n d_Mach_doConstant_46 rfl rfl) ?_
        refine xW_pure (fun _ _ _ _ _ => am_lconst (v := 0) d_Mach_doConstant_47 (by decide)) ?_
        refine xW_pure (fun _ _ _ _ _ => am_lconst (v := 0) d_Mach_doConstant_48 (by decide)) ?_
        refine xW_callV O (dx_Mach_lay O T) (fun _ e => ob_Mach_lay e) rfl rfl rfl l_Mach_121 ⟨w_1080, w_44⟩ rfl (Nat.le_of_ble_eq_true rfl) d_Mach_doConstant_49 (fun v12 s11 _ => ?_)
        exact xW_ret (fun _ _ _ _ _ => am_vret rfl d_Mach_doConstant_52)

theorem ob_Mach_doConstant {d : Nat} {x0 : Nat} {x1 : Int32} {x2 : Int32} {s : HS} {y : Unit × HS} (h : x_Mach_doConstant d x0 x1 x2 s = some y) : isO s x0 6 = true := by
  cases d with
  | zero => cases h
  | succ d => exact (gd_spec h).1

set_option maxRecDepth 100000 in
def x_Mach_loadField (d : Nat) (x0 : Nat) (x1 : Int64) (s : HS) : Option (Unit × HS) := match d with
  | 0 => none
  | d + 1 => gd s x0 6 (bnd (x_Mach_below d x0 1 s) fun v2 s1 => (bnd (x_Mach_sortAt d x0 v2 s1) fun v4 s3 => (if v4 = 3 then ((gR s3 x0 6 10).bind fun v5 => (bnd (x_Mach_objectAt d x0 v2 s3) fun v7 s6 => (bnd (x_Store_fieldCell d v5 v7 x1 s6) fun v9 s8 => ((pV s8 x0 6 2 (.int v2)).bind fun s10 => (if 0 ≤ v9 then ((gR s10 x0 6 10).bind fun v11 => ((gR s10 v11 10 0).bind fun v12 => ((aL s10 v12 v9).bind fun v13 => ((gR s10 x0 6 10).bind fun v14 => ((gR s10 v14 10 1).bind fun v15 => ((aL s10 v15 v9).bind fun v16 => (bnd (x_Mach_lay d x0 v13 v16 s10) fun v18 s17 => (some ((), s17))))))))) else (bnd (x_Mach_lay d x0 0 0 s10) fun v20 s19 => (some ((), s19)))))))) else (bnd (x_Mach_fail d x0 2 s3) fun v22 s21 => (some ((), s21))))))

set_option maxRecDepth 100000 in
set_option maxHeartbeats 4000000 in
theorem dx_Mach_loadField (O : am_ok K X) (T : am_T K) {d : Nat} {x0 : Nat} {x1 : Int64} {s : HS} : xM cvU K X m_Mach_loadField d [.ref x0, .long x1] s (x_Mach_loadField d x0 x1 s) := by
  cases d with
  | zero => exact xM_none
  | succ d =>
    unfold x_Mach_loadField
    refine xM_enter (by decide +kernel) (Nat.le_of_ble_eq_true rfl) ?_
    refine xW_gd (fun _ => ?_)
    refine xW_pure (fun _ _ _ _ _ => am_aload_n d_Mach_loadField_0 rfl rfl) ?_
    refine xW_pure (fun _ _ _ _ _ => am_iconst (v := 1) d_Mach_loadField_1 (by decide)) ?_
    refine xW_callV O (dx_Mach_below O T) (fun _ e => ob_Mach_below e) rfl rfl rfl l_Mach_133 ⟨w_1071, w_43⟩ rfl (Nat.le_of_ble_eq_true rfl) d_Mach_loadField_2 (fun v2 s1 _ => ?_)
    refine xW_pure (fun _ _ _ _ _ => am_istore_n d_Mach_loadField_5 rfl (Nat.le_of_ble_eq_true rfl)) ?_
    refine xW_pure (fun _ _ _ _ _ => am_aload_n d_Mach_loadField_6 rfl rfl) ?_
    refine xW_pure (fun _ _ _ _ _ => am_iload_n d_Mach_loadField_7 rfl rfl) ?_
    refine xW_callV O (dx_Mach_sortAt O T) (fun _ e => ob_Mach_sortAt e) rfl rfl rfl l_Mach_177 ⟨w_1140, w_52⟩ rfl (Nat.le_of_ble_eq_true rfl) d_Mach_loadField_8 (fun v4 s3 _ => ?_)
    refine xW_pure (fun _ _ _ _ _ => am_iconst (v := 3) d_Mach_loadField_11 (by decide)) ?_
    refine xW_ite (fun _ _ _ _ _ => am_icmp_eq (tgt := 21) d_Mach_loadField_12 (by decide)) (fun _ => ?_) (fun _ => ?_)
    · refine xW_pure (fun _ _ _ _ _ => am_aload_n d_Mach_loadField_21 rfl rfl) ?_
      refine xW_gR O f_Mach_29 d_Mach_loadField_22 (fun v5 _ => ?_)
      refine xW_pure (fun _ _ _ _ _ => am_aload_n d_Mach_loadField_25 rfl rfl) ?_
      refine xW_pure (fun _ _ _ _ _ => am_iload_n d_Mach_loadField_26 rfl rfl) ?_
      refine xW_callV O (dx_Mach_objectAt O T) (fun _ e => ob_Mach_objectAt e) rfl rfl rfl l_Mach_225 ⟨w_1213, w_60⟩ rfl (Nat.le_of_ble_eq_true rfl) d_Mach_loadField_27 (fun v7 s6 _ => ?_)
      refine xW_pure (fun _ _ _ _ _ => am_lload_n d_Mach_loadField_30 rfl rfl) ?_
      refine xW_callV O (dx_Store_fieldCell O T) (fun _ e => ob_Store_fieldCell e) rfl rfl rfl l_Mach_228 ⟨w_1216, w_1217⟩ rfl (Nat.le_of_ble_eq_true rfl) d_Mach_loadField_31 (fun v9 s8 _ => ?_)
      refine xW_pure (fun _ _ _ _ _ => am_istore d_Mach_loadField_34 (Nat.le_of_ble_eq_true rfl)) ?_
      refine xW_pure (fun _ _ _ _ _ => am_aload_n d_Mach_loadField_36 rfl rfl) ?_
      refine xW_pure (fun _ _ _ _ _ => am_iload_n d_Mach_loadField_37 rfl rfl) ?_
      refine xW_put O f_Mach_54 d_Mach_loadField_38 (fun q hq => by cases hq; exact ⟨rfl, rfl, rfl⟩) (fun s10 _ => ?_)
      refine xW_pure (fun _ _ _ _ _ => am_iload d_Mach_loadField_41 rfl) ?_
      refine xW_ite (fun _ _ _ _ _ => am_if_ge (tgt := 55) d_Mach_loadField_43 (by decide)) (fun _ => ?_) (fun _ => ?_)
      · refine xW_pure (fun _ _ _ _ _ => am_aload_n d_Mach_loadField_55 rfl rfl) ?_
        refine xW_pure (fun _ _ _ _ _ => am_aload_n d_Mach_loadField_56 rfl rfl) ?_
        refine xW_gR O f_Mach_29 d_Mach_loadField_57 (fun v11 _ => ?_)
        refine xW_gR O f_Mach_232 d_Mach_loadField_60 (fun v12 _ => ?_)
        refine xW_pure (fun _ _ _ _ _ => am_iload d_Mach_loadField_63 rfl) ?_
        refine xW_aL O d_Mach_loadField_65 (fun v13 _ => ?_)
        refine xW_pure (fun _ _ _ _ _ => am_aload_n d_Mach_loadField_66 rfl rfl) ?_
        refine xW_gR O f_Mach_29 d_Mach_loadField_67 (fun v14 _ => ?_)
        refine xW_gR O f_Mach_233 d_Mach_loadField_70 (fun v15 _ => ?_)
        refine xW_pure (fun _ _ _ _ _ => am_iload d_Mach_loadField_73 rfl) ?_
        refine xW_aL O d_Mach_loadField_75 (fun v16 _ => ?_)
        refine xW_callV O (dx_Mach_lay O T) (fun _ e => ob_Mach_lay e) rfl rfl rfl l_Mach_121 ⟨w_1080, w_44⟩ rfl (Nat.le_of_ble_eq_true rfl) d_Mach_loadField_76 (fun v18 s17 _ => ?_)
        exact xW_ret (fun _ _ _ _ _ => am_vret rfl d_Mach_loadField_79)
      · refine xW_pure (fun _ _ _ _ _ => am_aload_n d_Mach_loadField_46 rfl rfl) ?_
        refine xW_pure (fun _ _ _ _ _ => am_lconst (v := 0) d_Mach_loadField_47 (by decide)) ?_
        refine xW_pure (fun _ _ _ _ _ => am_lconst (v := 0) d_Mach_loadField_48 (by decide)) ?_
        refine xW_callV O (dx_Mach_lay O T) (fun _ e => ob_Mach_lay e) rfl rfl rfl l_Mach_121 ⟨w_1080, w_44⟩ rfl (Nat.le_of_ble_eq_true rfl) d_Mach_loadField_49 (fun v20 s19 _ => ?_)
        refine xW_pure (fun _ _ _ _ _ => am_goto (tgt := 79) d_Mach_loadField_52 (by decide)) ?_
        exact xW_ret (fun _ _ _ _ _ => am_vret rfl d_Mach_loadField_79)
    · refine xW_pure (fun _ _ _ _ _ => am_aload_n d_Mach_loadField_15 rfl rfl) ?_
      refine xW_pure (fun _ _ _ _ _ => am_iconst (v := 2) d_Mach_loadField_16 (by decide)) ?_
      refine xW_callV O (dx_Mach_fail O T) (fun _ e => ob_Mach_fail e) rfl rfl rfl l_Mach_106 ⟨w_1084, w_45⟩ rfl (Nat.le_of_ble_eq_true rfl) d_Mach_loadField_17 (fun v22 s21 _ => ?_)
      exact xW_ret (fun _ _ _ _ _ => am_vret rfl d_Mach_loadField_20)

theorem ob_Mach_loadField {d : Nat} {x0 : Nat} {x1 : Int64} {s : HS} {y : Unit × HS} (h : x_Mach_loadField d x0 x1 s = some y) : isO s x0 6 = true := by
  cases d with
  | zero => cases h
  | succ d => exact (gd_spec h).1

set_option maxRecDepth 100000 in
def x_Store_setField (d : Nat) (x0 : Nat) (x1 : Int32) (x2 : Int64) (x3 : Int64) (x4 : Int64) (s : HS) : Option (Int32 × HS) := match d with
  | 0 => none
  | d + 1 => gd s x0 10 (bnd (x_Store_fieldCell d x0 x1 x2 s) fun v2 s1 => (bnd (x_Cell_sortOf d x3 s1) fun v4 s3 => (if v4 = 0 then (bnd (x_Store_dropField d x0 x1 v2 s3) fun v6 s5 => (some (1, s5))) else (if v2 < 0 then (bnd (x_Store_cellsOf d x0 x1 s3) fun v8 s7 => (if v8 < 16 then (bnd (x_Store_append d x0 x1 x2 0 s7) fun v10 s9 => (bnd (x_Store_append d x0 x1 x3 x4 s9) fun v12 s11 => (okB v12 (some (v12, s11))))) else (some (0, s7)))) else ((gR s3 x0 10 0).bind fun v13 => ((sV s3 .long v13 v2 (.long x3)).bind fun s14 => ((gR s14 x0 10 1).bind fun v15 => ((sV s14 .long v15 v2 (.long x4)).bind fun s16 => (some (1, s16))))))))))

set_option maxRecDepth 100000 in
set_option maxHeartbeats 4000000 in
theorem dx_Store_setField (O : am_ok K X) (T : am_T K) {d : Nat} {x0 : Nat} {x1 : Int32} {x2 : Int64} {x3 : Int64} {x4 : Int64} {s : HS} : xM cvI K X m_Store_setField d [.ref x0, .int x1, .long x2, .long x3, .long x4] s (x_Store_setField d x0 x1 x2 x3 x4 s) := by
  cases d with
  | zero => exact xM_none
  | succ d =>
    unfold x_Store_setField
    refine xM_enter (by decide +kernel) (Nat.le_of_ble_eq_true rfl) ?_
    refine xW_gd (fun _ => ?_)
    refine xW_pure (fun _ _ _ _ _ => am_aload_n d_Store_setField_0 rfl rfl) ?_
    refine xW_pure (fun _ _ _ _ _ => am_iload_n d_Store_setField_1 rfl rfl) ?_
    refine xW_pure (fun _ _ _ _ _ => am_lload_n d_Store_setField_2 rfl rfl) ?_
    refine xW_callV O (dx_Store_fieldCell O T) (fun _ e => ob_Store_fieldCell e) rfl rfl rfl l_Store_65 ⟨w_1216, w_1217⟩ rfl (Nat.le_of_ble_eq_true rfl) d_Store_setField_3 (fun v2 s1 _ => ?_)
    refine xW_pure (fun _ _ _ _ _ => am_istore d_Store_setField_6 (Nat.le_of_ble_eq_true rfl)) ?_
    refine xW_pure (fun _ _ _ _ _ => am_lload d_Store_setField_8 rfl) ?_
    refine xW_callS O (dx_Cell_sortOf O T) rfl l_Store_69 w_1104 rfl (Nat.le_of_ble_eq_true rfl) d_Store_setField_10 (fun v4 s3 _ => ?_)
    refine xW_ite (fun _ _ _ _ _ k1 k2 => am_if_ne (tgt := 25) d_Store_setField_13 (by decide) k2 k1) (fun _ => ?_) (fun _ => ?_)
    · refine xW_pure (fun _ _ _ _ _ => am_aload_n d_Store_setField_16 rfl rfl) ?_
      refine xW_pure (fun _ _ _ _ _ => am_iload_n d_Store_setField_17 rfl rfl) ?_
      refine xW_pure (fun _ _ _ _ _ => am_iload d_Store_setField_18 rfl) ?_
      refine xW_callV O (dx_Store_dropField O T) (fun _ e => ob_Store_dropField e) rfl rfl rfl l_Store_75 ⟨w_1238, w_62⟩ rfl (Nat.le_of_ble_eq_true rfl) d_Store_setField_20 (fun v6 s5 _ => ?_)
      refine xW_pure (fun _ _ _ _ _ => am_iconst (v := 1) d_Store_setField_23 (by decide)) ?_
      exact xW_ret (fun _ _ _ _ _ => am_zret (ty := .boolean) rfl rfl d_Store_setField_24)
    · refine xW_pure (fun _ _ _ _ _ => am_iload d_Store_setField_25 rfl) ?_
      refine xW_ite (fun _ _ _ _ _ => am_if_lt (tgt := 50) d_Store_setField_27 (by decide)) (fun _ => ?_) (fun _ => ?_)
      · refine xW_pure (fun _ _ _ _ _ => am_aload_n d_Store_setField_50 rfl rfl) ?_
        refine xW_pure (fun _ _ _ _ _ => am_iload_n d_Store_setField_51 rfl rfl) ?_
        refine xW_callV O (dx_Store_cellsOf O T) (fun _ e => ob_Store_cellsOf e) rfl rfl rfl l_Store_58 ⟨w_1224, w_1225⟩ rfl (Nat.le_of_ble_eq_true rfl) d_Store_setField_52 (fun v8 s7 _ => ?_)
        refine xW_pure (fun _ _ _ _ _ => am_bipush (v := 16) d_Store_setField_55 (by decide)) ?_
        refine xW_ite (fun _ _ _ _ _ => am_icmp_lt (tgt := 62) d_Store_setField_57 (by decide)) (fun _ => ?_) (fun _ => ?_)
        · refine xW_pure (fun _ _ _ _ _ => am_aload_n d_Store_setField_62 rfl rfl) ?_
          refine xW_pure (fun _ _ _ _ _ => am_iload_n d_Store_setField_63 rfl rfl) ?_
          refine xW_pure (fun _ _ _ _ _ => am_lload_n d_Store_setField_64 rfl rfl) ?_
          refine xW_pure (fun _ _ _ _ _ => am_lconst (v := 0) d_Store_setField_65 (by decide)) ?_
          refine xW_callV O (dx_Store_append O T) (fun _ e => ob_Store_append e) rfl rfl rfl l_Store_79 ⟨w_1241, w_1242⟩ rfl (Nat.le_of_ble_eq_true rfl) d_Store_setField_66 (fun v10 s9 _ => ?_)
          refine xW_pure (fun _ _ _ _ _ => am_pop d_Store_setField_69 rfl) ?_
          refine xW_pure (fun _ _ _ _ _ => am_aload_n d_Store_setField_70 rfl rfl) ?_
          refine xW_pure (fun _ _ _ _ _ => am_iload_n d_Store_setField_71 rfl rfl) ?_
          refine xW_pure (fun _ _ _ _ _ => am_lload d_Store_setField_72 rfl) ?_
          refine xW_pure (fun _ _ _ _ _ => am_lload d_Store_setField_74 rfl) ?_
          refine xW_callV O (dx_Store_append O T) (fun _ e => ob_Store_append e) rfl rfl rfl l_Store_79 ⟨w_1241, w_1242⟩ rfl (Nat.le_of_ble_eq_true rfl) d_Store_setField_76 (fun v12 s11 _ => ?_)
          refine xW_okB (fun hz => ?_)
          exact xW_ret (fun _ _ _ _ _ => am_zret (ty := .boolean) rfl (bz_nar hz) d_Store_setField_79)
        · refine xW_pure (fun _ _ _ _ _ => am_iconst (v := 0) d_Store_setField_60 (by decide)) ?_
          exact xW_ret (fun _ _ _ _ _ => am_zret (ty := .boolean) rfl rfl d_Store_setField_61)
      · refine xW_pure (fun _ _ _ _ _ => am_aload_n d_Store_setField_30 rfl rfl) ?_
        refine xW_gR O f_Store_9 d_Store_setField_31 (fun v13 _ => ?_)
        refine xW_pure (fun _ _ _ _ _ => am_iload d_Store_setField_34 rfl) ?_
        refine xW_pure (fun _ _ _ _ _ => am_lload d_Store_setField_36 rfl) ?_
        refine xW_sL O d_Store_setField_38 (fun s14 _ => ?_)
        refine xW_pure (fun _ _ _ _ _ => am_aload_n d_Store_setField_39 rfl rfl) ?_
        refine xW_gR O f_Store_13 d_Store_setField_40 (fun v15 _ => ?_)
        refine xW_pure (fun _ _ _ _ _ => am_iload d_Store_setField_43 rfl) ?_
        refine xW_pure (fun _ _ _ _ _ => am_lload d_Store_setField_45 rfl) ?_
        refine xW_sL O d_Store_setField_47 (fun s16 _ => ?_)
        refine xW_pure (fun _ _ _ _ _ => am_iconst (v := 1) d_Store_setField_48 (by decide)) ?_
        exact xW_ret (fun _ _ _ _ _ => am_zret (ty := .boolean) rfl rfl d_Store_setField_49)

theorem ob_Store_setField {d : Nat} {x0 : Nat} {x1 : Int32} {x2 : Int64} {x3 : Int64} {x4 : Int64} {s : HS} {y : Int32 × HS} (h : x_Store_setField d x0 x1 x2 x3 x4 s = some y) : isO s x0 10 = true := by
  cases d with
  | zero => cases h
  | succ d => exact (gd_spec h).1

set_option maxRecDepth 100000 in
def x_Mach_makeRecord (d : Nat) (x0 : Nat) (x1 : Int32) (s : HS) : Option (Unit × HS) := match d with
  | 0 => none
  | d + 1 => gd s x0 6 (bnd (x_Mach_below d x0 (2 * x1) s) fun v2 s1 => ((gR s1 x0 6 10).bind fun v3 => (bnd (x_Store_make d v3 s1) fun v5 s4 => (if 0 ≤ v5 then (loopK (fun (again30 : Int32 × HS → Option (Unit × HS)) (z30 : Int32 × HS) => ((gI z30.2 x0 6 2).bind fun v6 => (if v6 ≤ (z30.1 + 1) then ((pV z30.2 x0 6 2 (.int v2)).bind fun s7 => (bnd (x_Cell_headOf d 3 s7) fun v9 s8 => (bnd (x_Mach_lay d x0 v9 (v5 : Int32).toInt64 s8) fun v11 s10 => (some ((), s10))))) else ((gR z30.2 x0 6 10).bind fun v12 => ((gR z30.2 x0 6 0).bind fun v13 => ((aL z30.2 v13 z30.1).bind fun v14 => ((gR z30.2 x0 6 0).bind fun v15 => ((aL z30.2 v15 (z30.1 + 1)).bind fun v16 => ((gR z30.2 x0 6 1).bind fun v17 => ((aL z30.2 v17 (z30.1 + 1)).bind fun v18 => (bnd (x_Store_setField d v12 v5 v14 v16 v18 z30.2) fun v20 s19 => (if v20 = 0 then (bnd (x_Mach_fail d x0 4 s19) fun v22 s21 => (some ((), s21))) else (again30 ((z30.1 + 2), s19)))))))))))))) FU (v2, s4)) else (bnd (x_Mach_fail d x0 8 s4) fun v24 s23 => (some ((), s23)))))))

set_option maxRecDepth 100000 in
set_option maxHeartbeats 4000000 in
theorem dx_Mach_makeRecord (O : am_ok K X) (T : am_T K) {d : Nat} {x0 : Nat} {x1 : Int32} {s : HS} : xM cvU K X m_Mach_makeRecord d [.ref x0, .int x1] s (x_Mach_makeRecord d x0 x1 s) := by
  cases d with
  | zero => exact xM_none
  | succ d =>
    unfold x_Mach_makeRecord
    refine xM_enter (by decide +kernel) (Nat.le_of_ble_eq_true rfl) ?_
    refine xW_gd (fun _ => ?_)
    refine xW_pure (fun _ _ _ _ _ => am_aload_n d_Mach_makeRecord_0 rfl rfl) ?_
    refine xW_pure (fun _ _ _ _ _ => am_iconst (v := 2) d_Mach_makeRecord_1 (by decide)) ?_
    refine xW_pure (fun _ _ _ _ _ => am_iload_n d_Mach_makeRecord_2 rfl rfl) ?_
    refine xW_pure (fun _ _ _ _ _ => am_imul d_Mach_makeRecord_3) ?_
    refine xW_callV O (dx_Mach_below O T) (fun _ e => ob_Mach_below e) rfl rfl rfl l_Mach_133 ⟨w_1071, w_43⟩ rfl (Nat.le_of_ble_eq_true rfl) d_Mach_makeRecord_4 (fun v2 s1 _ => ?_)
    refine xW_pure (fun _ _ _ _ _ => am_istore_n d_Mach_makeRecord_7 rfl (Nat.le_of_ble_eq_true rfl)) ?_
    refine xW_pure (fun _ _ _ _ _ => am_aload_n d_Mach_makeRecord_8 rfl rfl) ?_
    refine xW_gR O f_Mach_29 d_Mach_makeRecord_9 (fun v3 _ => ?_)
    refine xW_callV O (dx_Store_make O T) (fun _ e => ob_Store_make e) rfl rfl rfl l_Mach_275 ⟨w_1274, w_1275⟩ rfl (Nat.le_of_ble_eq_true rfl) d_Mach_makeRecord_12 (fun v5 s4 _ => ?_)
    refine xW_pure (fun _ _ _ _ _ => am_istore_n d_Mach_makeRecord_15 rfl (Nat.le_of_ble_eq_true rfl)) ?_
    refine xW_pure (fun _ _ _ _ _ => am_iload_n d_Mach_makeRecord_16 rfl rfl) ?_
    refine xW_ite (fun _ _ _ _ _ => am_if_ge (tgt := 27) d_Mach_makeRecord_17 (by decide)) (fun _ => ?_) (fun _ => ?_)
    · refine xW_pure (fun _ _ _ _ _ => am_iload_n d_Mach_makeRecord_27 rfl rfl) ?_
      refine xW_pure (fun _ _ _ _ _ => am_istore d_Mach_makeRecord_28 (Nat.le_of_ble_eq_true rfl)) ?_
      refine xW_locs (lv' := [(0, .ref x0), (2, .int v2), (3, .int v5), (4, .int v2)]) rfl ?_
      refine xW_loop (lvf := fun (z30 : Int32 × HS) => [(0, .ref x0), (2, .int v2), (3, .int v5), (4, .int z30.1)]) (hsf := fun (z30 : Int32 × HS) => z30.2) (fun again30 ih30 z30 => ?_) FU (v2, s4)
      refine xW_pure (fun _ _ _ _ _ => am_iload d_Mach_makeRecord_30 rfl) ?_
      refine xW_pure (fun _ _ _ _ _ => am_iconst (v := 1) d_Mach_makeRecord_32 (by decide)) ?_
      refine xW_pure (fun _ _ _ _ _ => am_iadd d_Mach_makeRecord_33) ?_
      refine xW_pure (fun _ _ _ _ _ => am_aload_n d_Mach_makeRecord_34 rfl rfl) ?_
      refine xW_gI O f_Mach_54 d_Mach_makeRecord_35 (fun v6 _ => ?_)
      refine xW_ite (fun _ _ _ _ _ => am_icmp_ge (tgt := 89) d_Mach_makeRecord_38 (by decide)) (fun _ => ?_) (fun _ => ?_)
      · refine xW_pure (fun _ _ _ _ _ => am_aload_n d_Mach_makeRecord_89 rfl rfl) ?_
        refine xW_pure (fun _ _ _ _ _ => am_iload_n d_Mach_makeRecord_90 rfl rfl) ?_
        refine xW_put O f_Mach_54 d_Mach_makeRecord_91 (fun q hq => by cases hq; exact ⟨rfl, rfl, rfl⟩) (fun s7 _ => ?_)
        refine xW_pure (fun _ _ _ _ _ => am_aload_n d_Mach_makeRecord_94 rfl rfl) ?_
        refine xW_pure (fun _ _ _ _ _ => am_iconst (v := 3) d_Mach_makeRecord_95 (by decide)) ?_
        refine xW_callS O (dx_Cell_headOf O T) rfl l_Mach_117 w_594 rfl (Nat.le_of_ble_eq_true rfl) d_Mach_makeRecord_96 (fun v9 s8 _ => ?_)
        refine xW_pure (fun _ _ _ _ _ => am_iload_n d_Mach_makeRecord_99 rfl rfl) ?_
        refine xW_pure (fun _ _ _ _ _ => am_i2l d_Mach_makeRecord_100 rfl) ?_
        refine xW_callV O (dx_Mach_lay O T) (fun _ e => ob_Mach_lay e) rfl rfl rfl l_Mach_121 ⟨w_1080, w_44⟩ rfl (Nat.le_of_ble_eq_true rfl) d_Mach_makeRecord_101 (fun v11 s10 _ => ?_)
        exact xW_ret (fun _ _ _ _ _ => am_vret rfl d_Mach_makeRecord_104)
      · refine xW_pure (fun _ _ _ _ _ => am_aload_n d_Mach_makeRecord_41 rfl rfl) ?_
        refine xW_gR O f_Mach_29 d_Mach_makeRecord_42 (fun v12 _ => ?_)
        refine xW_pure (fun _ _ _ _ _ => am_iload_n d_Mach_makeRecord_45 rfl rfl) ?_
        refine xW_pure (fun _ _ _ _ _ => am_aload_n d_Mach_makeRecord_46 rfl rfl) ?_
        refine xW_gR O f_Mach_7 d_Mach_makeRecord_47 (fun v13 _ => ?_)
        refine xW_pure (fun _ _ _ _ _ => am_iload d_Mach_makeRecord_50 rfl) ?_
        refine xW_aL O d_Mach_makeRecord_52 (fun v14 _ => ?_)
        refine xW_pure (fun _ _ _ _ _ => am_aload_n d_Mach_makeRecord_53 rfl rfl) ?_
        refine xW_gR O f_Mach_7 d_Mach_makeRecord_54 (fun v15 _ => ?_)
        refine xW_pure (fun _ _ _ _ _ => am_iload d_Mach_makeRecord_57 rfl) ?_
        refine xW_pure (fun _ _ _ _ _ => am_iconst (v := 1) d_Mach_makeRecord_59 (by decide)) ?_
        refine xW_pure (fun _ _ _ _ _ => am_iadd d_Mach_makeRecord_60) ?_
        refine xW_aL O d_Mach_makeRecord_61 (fun v16 _ => ?_)
        refine xW_pure (fun _ _ _ _ _ => am_aload_n d_Mach_makeRecord_62 rfl rfl) ?_
        refine xW_gR O f_Mach_13 d_Mach_makeRecord_63 (fun v17 _ => ?_)
        refine xW_pure (fun _ _ _ _ _ => am_iload d_Mach_makeRecord_66 rfl) ?_
        refine xW_pure (fun _ _ _ _ _ => am_iconst (v := 1) d_Mach_makeRecord_68 (by decide)) ?_
        refine xW_pure (fun _ _ _ _ _ => am_iadd d_Mach_makeRecord_69) ?_
        refine xW_aL O d_Mach_makeRecord_70 (fun v18 _ => ?_)
        refine xW_callV O (dx_Store_setField O T) (fun _ e => ob_Store_setField e) rfl rfl rfl l_Mach_234 ⟨w_1232, w_1233⟩ rfl (Nat.le_of_ble_eq_true rfl) d_Mach_makeRecord_71 (fun v20 s19 _ => ?_)
        refine xW_ite (fun _ _ _ _ _ k1 k2 => am_if_ne (tgt := 83) d_Mach_makeRecord_74 (by decide) k2 k1) (fun _ => ?_) (fun _ => ?_)
        · refine xW_pure (fun _ _ _ _ _ => am_aload_n d_Mach_makeRecord_77 rfl rfl) ?_
          refine xW_pure (fun _ _ _ _ _ => am_iconst (v := 4) d_Mach_makeRecord_78 (by decide)) ?_
          refine xW_callV O (dx_Mach_fail O T) (fun _ e => ob_Mach_fail e) rfl rfl rfl l_Mach_106 ⟨w_1084, w_45⟩ rfl (Nat.le_of_ble_eq_true rfl) d_Mach_makeRecord_79 (fun v22 s21 _ => ?_)
          exact xW_ret (fun _ _ _ _ _ => am_vret rfl d_Mach_makeRecord_82)
        · refine xW_pure (fun _ _ _ _ _ => am_iinc (v := 2) d_Mach_makeRecord_83 rfl (by decide) (Nat.le_of_ble_eq_true rfl)) ?_
          refine xW_pure (fun _ _ _ _ _ => am_goto (tgt := 30) d_Mach_makeRecord_86 (by decide)) ?_
          refine xW_locs (lv' := [(0, .ref x0), (2, .int v2), (3, .int v5), (4, .int (z30.1 + 2))]) rfl ?_
          exact ih30 ((z30.1 + 2), s19)
    · refine xW_pure (fun _ _ _ _ _ => am_aload_n d_Mach_makeRecord_20 rfl rfl) ?_
      refine xW_pure (fun _ _ _ _ _ => am_bipush (v := 8) d_Mach_makeRecord_21 (by decide)) ?_
      refine xW_callV O (dx_Mach_fail O T) (fun _ e => ob_Mach_fail e) rfl rfl rfl l_Mach_106 ⟨w_1084, w_45⟩ rfl (Nat.le_of_ble_eq_true rfl) d_Mach_makeRecord_23 (fun v24 s23 _ => ?_)
      exact xW_ret (fun _ _ _ _ _ => am_vret rfl d_Mach_makeRecord_26)

theorem ob_Mach_makeRecord {d : Nat} {x0 : Nat} {x1 : Int32} {s : HS} {y : Unit × HS} (h : x_Mach_makeRecord d x0 x1 s = some y) : isO s x0 6 = true := by
  cases d with
  | zero => cases h
  | succ d => exact (gd_spec h).1

set_option maxRecDepth 100000 in
def x_Mach_reckon_b96 (d : Nat) (l0 : Nat) (l1 : Int32) (l2 : Int32) (l3 : Int32) (s : HS) : Option (Unit × HS) := (gR s l0 6 1).bind fun v14 => ((gR s l0 6 1).bind fun v15 => ((aL s v15 l2).bind fun v16 => ((gR s l0 6 1).bind fun v17 => ((aL s v17 l3).bind fun v18 => (bnd (x_Mach_found d l1 (v16 : Int64).toInt32 (v18 : Int64).toInt32 s) fun v20 s19 => ((sV s19 .long v14 l2 (.long (v20 : Int32).toInt64)).bind fun s21 => (some ((), s21))))))))

set_option maxRecDepth 100000 in
set_option maxHeartbeats 4000000 in
theorem dx_Mach_reckon_b96 (O : am_ok K X) (T : am_T K) {d : Nat} {l0 : Nat} {l1 : Int32} {l2 : Int32} {l3 : Int32} {s : HS} : xW cvU K X m_Mach_reckon (d + 1) 96 [(0, .ref l0), (1, .int l1), (2, .int l2), (3, .int l3)] [] s (x_Mach_reckon_b96 d l0 l1 l2 l3 s) := by
  unfold x_Mach_reckon_b96
  refine xW_pure (fun _ _ _ _ _ => am_aload_n d_Mach_reckon_96 rfl rfl) ?_
  refine xW_gR O f_Mach_13 d_Mach_reckon_97 (fun v14 _ => ?_)
  refine xW_pure (fun _ _ _ _ _ => am_iload_n d_Mach_reckon_100 rfl rfl) ?_
  refine xW_pure (fun _ _ _ _ _ => am_iload_n d_Mach_reckon_101 rfl rfl) ?_
  refine xW_pure (fun _ _ _ _ _ => am_aload_n d_Mach_reckon_102 rfl rfl) ?_
  refine xW_gR O f_Mach_13 d_Mach_reckon_103 (fun v15 _ => ?_)
  refine xW_pure (fun _ _ _ _ _ => am_iload_n d_Mach_reckon_106 rfl rfl) ?_
  refine xW_aL O d_Mach_reckon_107 (fun v16 _ => ?_)
  refine xW_pure (fun _ _ _ _ _ => am_l2i d_Mach_reckon_108 rfl) ?_
  refine xW_pure (fun _ _ _ _ _ => am_aload_n d_Mach_reckon_109 rfl rfl) ?_
  refine xW_gR O f_Mach_13 d_Mach_reckon_110 (fun v17 _ => ?_)
  refine xW_pure (fun _ _ _ _ _ => am_iload_n d_Mach_reckon_113 rfl rfl) ?_
  refine xW_aL O d_Mach_reckon_114 (fun v18 _ => ?_)
  refine xW_pure (fun _ _ _ _ _ => am_l2i d_Mach_reckon_115 rfl) ?_
  refine xW_callS O (dx_Mach_found O T) rfl l_Mach_303 w_1323 rfl (Nat.le_of_ble_eq_true rfl) d_Mach_reckon_116 (fun v20 s19 _ => ?_)
  refine xW_pure (fun _ _ _ _ _ => am_i2l d_Mach_reckon_119 rfl) ?_
  refine xW_sL O d_Mach_reckon_120 (fun s21 _ => ?_)
  exact xW_ret (fun _ _ _ _ _ => am_vret rfl d_Mach_reckon_121)

set_option maxRecDepth 100000 in
def x_Mach_reckon_b77 (d : Nat) (l0 : Nat) (l1 : Int32) (l2 : Int32) (l3 : Int32) (s : HS) : Option (Unit × HS) := (gR s l0 6 1).bind fun v10 => ((aL s v10 l3).bind fun v11 => (if (lg_cmp v11 0) = 0 then (bnd (x_Mach_fail d l0 5 s) fun v13 s12 => (some ((), s12))) else (x_Mach_reckon_b96 d l0 l1 l2 l3 s)))

set_option maxRecDepth 100000 in
set_option maxHeartbeats 4000000 in
theorem dx_Mach_reckon_b77 (O : am_ok K X) (T : am_T K) {d : Nat} {l0 : Nat} {l1 : Int32} {l2 : Int32} {l3 : Int32} {s : HS} : xW cvU K X m_Mach_reckon (d + 1) 77 [(0, .ref l0), (1, .int l1), (2, .int l2), (3, .int l3)] [] s (x_Mach_reckon_b77 d l0 l1 l2 l3 s) := by
  unfold x_Mach_reckon_b77
  refine xW_pure (fun _ _ _ _ _ => am_aload_n d_Mach_reckon_77 rfl rfl) ?_
  refine xW_gR O f_Mach_13 d_Mach_reckon_78 (fun v10 _ => ?_)
  refine xW_pure (fun _ _ _ _ _ => am_iload_n d_Mach_reckon_81 rfl rfl) ?_
  refine xW_aL O d_Mach_reckon_82 (fun v11 _ => ?_)
  refine xW_pure (fun _ _ _ _ _ => am_lconst (v := 0) d_Mach_reckon_83 (by decide)) ?_
  refine xW_pure (fun _ _ _ _ _ => am_lcmp d_Mach_reckon_84) ?_
  refine xW_ite (fun _ _ _ _ _ k1 k2 => am_if_ne (tgt := 96) d_Mach_reckon_85 (by decide) k2 k1) (fun _ => ?_) (fun _ => ?_)
  · refine xW_pure (fun _ _ _ _ _ => am_aload_n d_Mach_reckon_88 rfl rfl) ?_
    refine xW_pure (fun _ _ _ _ _ => am_iconst (v := 5) d_Mach_reckon_89 (by decide)) ?_
    refine xW_callV O (dx_Mach_fail O T) (fun _ e => ob_Mach_fail e) rfl rfl rfl l_Mach_106 ⟨w_1084, w_45⟩ rfl (Nat.le_of_ble_eq_true rfl) d_Mach_reckon_90 (fun v13 s12 _ => ?_)
    refine xW_pure (fun _ _ _ _ _ => am_goto (tgt := 121) d_Mach_reckon_93 (by decide)) ?_
    exact xW_ret (fun _ _ _ _ _ => am_vret rfl d_Mach_reckon_121)
  · refine xW_locs (lv' := [(0, .ref l0), (1, .int l1), (2, .int l2), (3, .int l3)]) rfl ?_
    exact dx_Mach_reckon_b96 O T

set_option maxRecDepth 100000 in
def x_Mach_reckon_b42 (d : Nat) (l0 : Nat) (l1 : Int32) (l2 : Int32) (l3 : Int32) (l4 : Int32) (s : HS) : Option (Unit × HS) := if l4 = 1 then (bnd (x_Mach_sortAt d l0 l3 s) fun v9 s8 => (if v9 = 1 then (if l1 = 35 then (x_Mach_reckon_b77 d l0 l1 l2 l3 s8) else (if l1 = 36 then (x_Mach_reckon_b77 d l0 l1 l2 l3 s8) else (x_Mach_reckon_b96 d l0 l1 l2 l3 s8))) else (bnd (x_Mach_fail d l0 2 s8) fun v23 s22 => (some ((), s22))))) else (bnd (x_Mach_fail d l0 2 s) fun v25 s24 => (some ((), s24)))

set_option maxRecDepth 100000 in
set_option maxHeartbeats 4000000 in
theorem dx_Mach_reckon_b42 (O : am_ok K X) (T : am_T K) {d : Nat} {l0 : Nat} {l1 : Int32} {l2 : Int32} {l3 : Int32} {l4 : Int32} {s : HS} : xW cvU K X m_Mach_reckon (d + 1) 42 [(0, .ref l0), (1, .int l1), (2, .int l2), (3, .int l3), (4, .int l4)] [] s (x_Mach_reckon_b42 d l0 l1 l2 l3 l4 s) := by
  unfold x_Mach_reckon_b42
  refine xW_pure (fun _ _ _ _ _ => am_iload d_Mach_reckon_42 rfl) ?_
  refine xW_pure (fun _ _ _ _ _ => am_iconst (v := 1) d_Mach_reckon_44 (by decide)) ?_
  refine xW_ite (fun _ _ _ _ _ k1 k2 => am_icmp_ne (tgt := 57) d_Mach_reckon_45 (by decide) k2 k1) (fun _ => ?_) (fun _ => ?_)
  · refine xW_pure (fun _ _ _ _ _ => am_aload_n d_Mach_reckon_48 rfl rfl) ?_
    refine xW_pure (fun _ _ _ _ _ => am_iload_n d_Mach_reckon_49 rfl rfl) ?_
    refine xW_callV O (dx_Mach_sortAt O T) (fun _ e => ob_Mach_sortAt e) rfl rfl rfl l_Mach_177 ⟨w_1140, w_52⟩ rfl (Nat.le_of_ble_eq_true rfl) d_Mach_reckon_50 (fun v9 s8 _ => ?_)
    refine xW_pure (fun _ _ _ _ _ => am_iconst (v := 1) d_Mach_reckon_53 (by decide)) ?_
    refine xW_ite (fun _ _ _ _ _ => am_icmp_eq (tgt := 65) d_Mach_reckon_54 (by decide)) (fun _ => ?_) (fun _ => ?_)
    · refine xW_pure (fun _ _ _ _ _ => am_iload_n d_Mach_reckon_65 rfl rfl) ?_
      refine xW_pure (fun _ _ _ _ _ => am_bipush (v := 35) d_Mach_reckon_66 (by decide)) ?_
      refine xW_ite (fun _ _ _ _ _ => am_icmp_eq (tgt := 77) d_Mach_reckon_68 (by decide)) (fun _ => ?_) (fun _ => ?_)
      · refine xW_locs (lv' := [(0, .ref l0), (1, .int l1), (2, .int l2), (3, .int l3)]) rfl ?_
        exact dx_Mach_reckon_b77 O T
      · refine xW_pure (fun _ _ _ _ _ => am_iload_n d_Mach_reckon_71 rfl rfl) ?_
        refine xW_pure (fun _ _ _ _ _ => am_bipush (v := 36) d_Mach_reckon_72 (by decide)) ?_
        refine xW_ite (fun _ _ _ _ _ k1 k2 => am_icmp_ne (tgt := 96) d_Mach_reckon_74 (by decide) k2 k1) (fun _ => ?_) (fun _ => ?_)
        · refine xW_locs (lv' := [(0, .ref l0), (1, .int l1), (2, .int l2), (3, .int l3)]) rfl ?_
          exact dx_Mach_reckon_b77 O T
        · refine xW_locs (lv' := [(0, .ref l0), (1, .int l1), (2, .int l2), (3, .int l3)]) rfl ?_
          exact dx_Mach_reckon_b96 O T
    · refine xW_pure (fun _ _ _ _ _ => am_aload_n d_Mach_reckon_57 rfl rfl) ?_
      refine xW_pure (fun _ _ _ _ _ => am_iconst (v := 2) d_Mach_reckon_58 (by decide)) ?_
      refine xW_callV O (dx_Mach_fail O T) (fun _ e => ob_Mach_fail e) rfl rfl rfl l_Mach_106 ⟨w_1084, w_45⟩ rfl (Nat.le_of_ble_eq_true rfl) d_Mach_reckon_59 (fun v23 s22 _ => ?_)
      refine xW_pure (fun _ _ _ _ _ => am_goto (tgt := 121) d_Mach_reckon_62 (by decide)) ?_
      exact xW_ret (fun _ _ _ _ _ => am_vret rfl d_Mach_reckon_121)
  · refine xW_pure (fun _ _ _ _ _ => am_aload_n d_Mach_reckon_57 rfl rfl) ?_
    refine xW_pure (fun _ _ _ _ _ => am_iconst (v := 2) d_Mach_reckon_58 (by decide)) ?_
    refine xW_callV O (dx_Mach_fail O T) (fun _ e => ob_Mach_fail e) rfl rfl rfl l_Mach_106 ⟨w_1084, w_45⟩ rfl (Nat.le_of_ble_eq_true rfl) d_Mach_reckon_59 (fun v25 s24 _ => ?_)
    refine xW_pure (fun _ _ _ _ _ => am_goto (tgt := 121) d_Mach_reckon_62 (by decide)) ?_
    exact xW_ret (fun _ _ _ _ _ => am_vret rfl d_Mach_reckon_121)

set_option maxRecDepth 100000 in
def x_Mach_reckon (d : Nat) (x0 : Nat) (x1 : Int32) (x2 : Int32) (x3 : Int32) (s : HS) : Option (Unit × HS) := match d with
  | 0 => none
  | d + 1 => gd s x0 6 (bnd (x_Mach_sortAt d x0 x2 s) fun v2 s1 => ((pV s1 x0 6 2 (.int x3)).bind fun s3 => (if x1 = 32 then (if v2 = 2 then (bnd (x_Mach_sortAt d x0 x3 s3) fun v5 s4 => (if v5 = 2 then (bnd (x_Mach_join d x0 x2 x3 s4) fun v7 s6 => (some ((), s6))) else (x_Mach_reckon_b42 d x0 x1 x2 x3 v2 s4))) else (x_Mach_reckon_b42 d x0 x1 x2 x3 v2 s3)) else (x_Mach_reckon_b42 d x0 x1 x2 x3 v2 s3))))

set_option maxRecDepth 100000 in
set_option maxHeartbeats 4000000 in
theorem dx_Mach_reckon (O : am_ok K X) (T : am_T K) {d : Nat} {x0 : Nat} {x1 : Int32} {x2 : Int32} {x3 : Int32} {s : HS} : xM cvU K X m_Mach_reckon d [.ref x0, .int x1, .int x2, .int x3] s (x_Mach_reckon d x0 x1 x2 x3 s) := by
  cases d with
  | zero => exact xM_none
  | succ d =>
    unfold x_Mach_reckon
    refine xM_enter (by decide +kernel) (Nat.le_of_ble_eq_true rfl) ?_
    refine xW_gd (fun _ => ?_)
    refine xW_pure (fun _ _ _ _ _ => am_aload_n d_Mach_reckon_0 rfl rfl) ?_
    refine xW_pure (fun _ _ _ _ _ => am_iload_n d_Mach_reckon_1 rfl rfl) ?_
    refine xW_callV O (dx_Mach_sortAt O T) (fun _ e => ob_Mach_sortAt e) rfl rfl rfl l_Mach_177 ⟨w_1140, w_52⟩ rfl (Nat.le_of_ble_eq_true rfl) d_Mach_reckon_2 (fun v2 s1 _ => ?_)
    refine xW_pure (fun _ _ _ _ _ => am_istore d_Mach_reckon_5 (Nat.le_of_ble_eq_true rfl)) ?_
    refine xW_pure (fun _ _ _ _ _ => am_aload_n d_Mach_reckon_7 rfl rfl) ?_
    refine xW_pure (fun _ _ _ _ _ => am_iload_n d_Mach_reckon_8 rfl rfl) ?_
    refine xW_put O f_Mach_54 d_Mach_reckon_9 (fun q hq => by cases hq; exact ⟨rfl, rfl, rfl⟩) (fun s3 _ => ?_)
    refine xW_pure (fun _ _ _ _ _ => am_iload_n d_Mach_reckon_12 rfl rfl) ?_
    refine xW_pure (fun _ _ _ _ _ => am_bipush (v := 32) d_Mach_reckon_13 (by decide)) ?_
    refine xW_ite (fun _ _ _ _ _ k1 k2 => am_icmp_ne (tgt := 42) d_Mach_reckon_15 (by decide) k2 k1) (fun _ => ?_) (fun _ => ?_)
    · refine xW_pure (fun _ _ _ _ _ => am_iload d_Mach_reckon_18 rfl) ?_
      refine xW_pure (fun _ _ _ _ _ => am_iconst (v := 2) d_Mach_reckon_20 (by decide)) ?_
      refine xW_ite (fun _ _ _ _ _ k1 k2 => am_icmp_ne (tgt := 42) d_Mach_reckon_21 (by decide) k2 k1) (fun _ => ?_) (fun _ => ?_)
      · refine xW_pure (fun _ _ _ _ _ => am_aload_n d_Mach_reckon_24 rfl rfl) ?_
        refine xW_pure (fun _ _ _ _ _ => am_iload_n d_Mach_reckon_25 rfl rfl) ?_
        refine xW_callV O (dx_Mach_sortAt O T) (fun _ e => ob_Mach_sortAt e) rfl rfl rfl l_Mach_177 ⟨w_1140, w_52⟩ rfl (Nat.le_of_ble_eq_true rfl) d_Mach_reckon_26 (fun v5 s4 _ => ?_)
        refine xW_pure (fun _ _ _ _ _ => am_iconst (v := 2) d_Mach_reckon_29 (by decide)) ?_
        refine xW_ite (fun _ _ _ _ _ k1 k2 => am_icmp_ne (tgt := 42) d_Mach_reckon_30 (by decide) k2 k1) (fun _ => ?_) (fun _ => ?_)
        · refine xW_pure (fun _ _ _ _ _ => am_aload_n d_Mach_reckon_33 rfl rfl) ?_
          refine xW_pure (fun _ _ _ _ _ => am_iload_n d_Mach_reckon_34 rfl rfl) ?_
          refine xW_pure (fun _ _ _ _ _ => am_iload_n d_Mach_reckon_35 rfl rfl) ?_
          refine xW_callV O (dx_Mach_join O T) (fun _ e => ob_Mach_join e) rfl rfl rfl l_Mach_300 ⟨w_1320, w_77⟩ rfl (Nat.le_of_ble_eq_true rfl) d_Mach_reckon_36 (fun v7 s6 _ => ?_)
          refine xW_pure (fun _ _ _ _ _ => am_goto (tgt := 121) d_Mach_reckon_39 (by decide)) ?_
          exact xW_ret (fun _ _ _ _ _ => am_vret rfl d_Mach_reckon_121)
        · refine xW_locs (lv' := [(0, .ref x0), (1, .int x1), (2, .int x2), (3, .int x3), (4, .int v2)]) rfl ?_
          exact dx_Mach_reckon_b42 O T
      · refine xW_locs (lv' := [(0, .ref x0), (1, .int x1), (2, .int x2), (3, .int x3), (4, .int v2)]) rfl ?_
        exact dx_Mach_reckon_b42 O T
    · refine xW_locs (lv' := [(0, .ref x0), (1, .int x1), (2, .int x2), (3, .int x3), (4, .int v2)]) rfl ?_
      exact dx_Mach_reckon_b42 O T

theorem ob_Mach_reckon {d : Nat} {x0 : Nat} {x1 : Int32} {x2 : Int32} {x3 : Int32} {s : HS} {y : Unit × HS} (h : x_Mach_reckon d x0 x1 x2 x3 s = some y) : isO s x0 6 = true := by
  cases d with
  | zero => cases h
  | succ d => exact (gd_spec h).1

set_option maxRecDepth 100000 in
def x_Log_commitBytes (d : Nat) (x1 : Nat) (x2 : Nat) (x3 : Int32) (s : HS) : Option (Int32 × HS) := match d with
  | 0 => none
  | d + 1 => bnd (x_Store_objectsChangedSince d x2 x1 s) fun v2 s1 => (bnd (x_Store_rootsChangedSince d x2 x1 s1) fun v4 s3 => (some ((((8 + (16 * v2)) + (6 * v4)) + (3 * x3)), s3)))

set_option maxRecDepth 100000 in
set_option maxHeartbeats 4000000 in
theorem dx_Log_commitBytes (O : am_ok K X) (T : am_T K) {d : Nat} {x1 : Nat} {x2 : Nat} {x3 : Int32} {s : HS} : xM cvI K X m_Log_commitBytes d [.ref x1, .ref x2, .int x3] s (x_Log_commitBytes d x1 x2 x3 s) := by
  cases d with
  | zero => exact xM_none
  | succ d =>
    unfold x_Log_commitBytes
    refine xM_enter (by decide +kernel) (Nat.le_of_ble_eq_true rfl) ?_
    refine xW_pure (fun _ _ _ _ _ => am_bipush (v := 8) d_Log_commitBytes_0 (by decide)) ?_
    refine xW_pure (fun _ _ _ _ _ => am_bipush (v := 16) d_Log_commitBytes_2 (by decide)) ?_
    refine xW_pure (fun _ _ _ _ _ => am_aload_n d_Log_commitBytes_4 rfl rfl) ?_
    refine xW_pure (fun _ _ _ _ _ => am_aload_n d_Log_commitBytes_5 rfl rfl) ?_
    refine xW_callV O (dx_Store_objectsChangedSince O T) (fun _ e => ob_Store_objectsChangedSince e) rfl rfl rfl l_Log_19 ⟨w_1347, w_1348⟩ rfl (Nat.le_of_ble_eq_true rfl) d_Log_commitBytes_6 (fun v2 s1 _ => ?_)
    refine xW_pure (fun _ _ _ _ _ => am_imul d_Log_commitBytes_9) ?_
    refine xW_pure (fun _ _ _ _ _ => am_iadd d_Log_commitBytes_10) ?_
    refine xW_pure (fun _ _ _ _ _ => am_bipush (v := 6) d_Log_commitBytes_11 (by decide)) ?_
    refine xW_pure (fun _ _ _ _ _ => am_aload_n d_Log_commitBytes_13 rfl rfl) ?_
    refine xW_pure (fun _ _ _ _ _ => am_aload_n d_Log_commitBytes_14 rfl rfl) ?_
    refine xW_callV O (dx_Store_rootsChangedSince O T) (fun _ e => ob_Store_rootsChangedSince e) rfl rfl rfl l_Log_23 ⟨w_1355, w_1356⟩ rfl (Nat.le_of_ble_eq_true rfl) d_Log_commitBytes_15 (fun v4 s3 _ => ?_)
    refine xW_pure (fun _ _ _ _ _ => am_imul d_Log_commitBytes_18) ?_
    refine xW_pure (fun _ _ _ _ _ => am_iadd d_Log_commitBytes_19) ?_
    refine xW_pure (fun _ _ _ _ _ => am_iconst (v := 3) d_Log_commitBytes_20 (by decide)) ?_
    refine xW_pure (fun _ _ _ _ _ => am_iload_n d_Log_commitBytes_21 rfl rfl) ?_
    refine xW_pure (fun _ _ _ _ _ => am_imul d_Log_commitBytes_22) ?_
    refine xW_pure (fun _ _ _ _ _ => am_iadd d_Log_commitBytes_23) ?_
    exact xW_ret (fun _ _ _ _ _ => am_iret rfl d_Log_commitBytes_24)

set_option maxRecDepth 100000 in
def x_Log_append (d : Nat) (x0 : Nat) (x1 : Int32) (s : HS) : Option (Unit × HS) := match d with
  | 0 => none
  | d + 1 => gd s x0 7 ((gI s x0 7 2).bind fun v1 => ((pV s x0 7 2 (.int (v1 + 1))).bind fun s2 => ((gR s2 x0 7 1).bind fun v3 => ((gI s2 x0 7 2).bind fun v4 => ((sV s2 .int v3 v4 (.int x1)).bind fun s5 => ((gI s5 x0 7 2).bind fun v6 => (if v6 ≤ 8 then (some ((), s5)) else (bnd (x_Log_settle d x0 1 s5) fun v8 s7 => (some ((), s7))))))))))

set_option maxRecDepth 100000 in
set_option maxHeartbeats 4000000 in
theorem dx_Log_append (O : am_ok K X) (T : am_T K) {d : Nat} {x0 : Nat} {x1 : Int32} {s : HS} : xM cvU K X m_Log_append d [.ref x0, .int x1] s (x_Log_append d x0 x1 s) := by
  cases d with
  | zero => exact xM_none
  | succ d =>
    unfold x_Log_append
    refine xM_enter (by decide +kernel) (Nat.le_of_ble_eq_true rfl) ?_
    refine xW_gd (fun _ => ?_)
    refine xW_pure (fun _ _ _ _ _ => am_aload_n d_Log_append_0 rfl rfl) ?_
    refine xW_pure (fun _ _ _ _ _ => am_dup d_Log_append_1 rfl) ?_
    refine xW_gI O f_Log_27 d_Log_append_2 (fun v1 _ => ?_)
    refine xW_pure (fun _ _ _ _ _ => am_iconst (v := 1) d_Log_append_5 (by decide)) ?_
    refine xW_pure (fun _ _ _ _ _ => am_iadd d_Log_append_6) ?_
    refine xW_put O f_Log_27 d_Log_append_7 (fun q hq => by cases hq; exact ⟨rfl, rfl, rfl⟩) (fun s2 _ => ?_)
    refine xW_pure (fun _ _ _ _ _ => am_aload_n d_Log_append_10 rfl rfl) ?_
    refine xW_gR O f_Log_15 d_Log_append_11 (fun v3 _ => ?_)
    refine xW_pure (fun _ _ _ _ _ => am_aload_n d_Log_append_14 rfl rfl) ?_
    refine xW_gI O f_Log_27 d_Log_append_15 (fun v4 _ => ?_)
    refine xW_pure (fun _ _ _ _ _ => am_iload_n d_Log_append_18 rfl rfl) ?_
    refine xW_sI O d_Log_append_19 (fun s5 _ => ?_)
    refine xW_pure (fun _ _ _ _ _ => am_aload_n d_Log_append_20 rfl rfl) ?_
    refine xW_gI O f_Log_27 d_Log_append_21 (fun v6 _ => ?_)
    refine xW_pure (fun _ _ _ _ _ => am_bipush (v := 8) d_Log_append_24 (by decide)) ?_
    refine xW_ite (fun _ _ _ _ _ => am_icmp_le (tgt := 34) d_Log_append_26 (by decide)) (fun _ => ?_) (fun _ => ?_)
    · exact xW_ret (fun _ _ _ _ _ => am_vret rfl d_Log_append_34)
    · refine xW_pure (fun _ _ _ _ _ => am_aload_n d_Log_append_29 rfl rfl) ?_
      refine xW_pure (fun _ _ _ _ _ => am_iconst (v := 1) d_Log_append_30 (by decide)) ?_
      refine xW_callV O (dx_Log_settle O T) (fun _ e => ob_Log_settle e) rfl rfl rfl l_Log_43 ⟨w_1363, w_1364⟩ rfl (Nat.le_of_ble_eq_true rfl) d_Log_append_31 (fun v8 s7 _ => ?_)
      exact xW_ret (fun _ _ _ _ _ => am_vret rfl d_Log_append_34)

theorem ob_Log_append {d : Nat} {x0 : Nat} {x1 : Int32} {s : HS} {y : Unit × HS} (h : x_Log_append d x0 x1 s = some y) : isO s x0 7 = true := by
  cases d with
  | zero => cases h
  | succ d => exact (gd_spec h).1

set_option maxRecDepth 100000 in
def x_Stow_value (d : Nat) (x0 : Nat) (s : HS) : Option (Int64 × HS) := match d with
  | 0 => none
  | d + 1 => gd s x0 9 ((gL s x0 9 7).bind fun v1 => (bnd (x_Cell_sortOf d v1 s) fun v3 s2 => (if v3 = 2 then ((gR s2 x0 9 2).bind fun v4 => (bnd (x_Out_clear d v4 s2) fun v6 s5 => ((gR s5 x0 9 2).bind fun v7 => ((gL s5 x0 9 7).bind fun v8 => ((gL s5 x0 9 8).bind fun v9 => (bnd (x_Out_addText d v7 v8 v9 s5) fun v11 s10 => ((gL s10 x0 9 7).bind fun v12 => ((gL s10 x0 9 8).bind fun v13 => (bnd (x_Stow_asAnswer d v12 v13 s10) fun v15 s14 => (some (v15, s14))))))))))) else ((gL s2 x0 9 7).bind fun v16 => ((gL s2 x0 9 8).bind fun v17 => (bnd (x_Stow_asAnswer d v16 v17 s2) fun v19 s18 => (some (v19, s18))))))))

set_option maxRecDepth 100000 in
set_option maxHeartbeats 4000000 in
theorem dx_Stow_value (O : am_ok K X) (T : am_T K) {d : Nat} {x0 : Nat} {s : HS} : xM cvL K X m_Stow_value d [.ref x0] s (x_Stow_value d x0 s) := by
  cases d with
  | zero => exact xM_none
  | succ d =>
    unfold x_Stow_value
    refine xM_enter (by decide +kernel) (Nat.le_of_ble_eq_true rfl) ?_
    refine xW_gd (fun _ => ?_)
    refine xW_pure (fun _ _ _ _ _ => am_aload_n d_Stow_value_0 rfl rfl) ?_
    refine xW_gL O f_Stow_93 d_Stow_value_1 (fun v1 _ => ?_)
    refine xW_callS O (dx_Cell_sortOf O T) rfl l_Stow_116 w_1104 rfl (Nat.le_of_ble_eq_true rfl) d_Stow_value_4 (fun v3 s2 _ => ?_)
    refine xW_pure (fun _ _ _ _ _ => am_iconst (v := 2) d_Stow_value_7 (by decide)) ?_
    refine xW_ite (fun _ _ _ _ _ k1 k2 => am_icmp_ne (tgt := 33) d_Stow_value_8 (by decide) k2 k1) (fun _ => ?_) (fun _ => ?_)
    · refine xW_pure (fun _ _ _ _ _ => am_aload_n d_Stow_value_11 rfl rfl) ?_
      refine xW_gR O f_Stow_16 d_Stow_value_12 (fun v4 _ => ?_)
      refine xW_callV O (dx_Out_clear O T) (fun _ e => ob_Out_clear e) rfl rfl rfl l_Stow_60 ⟨w_946, w_947⟩ rfl (Nat.le_of_ble_eq_true rfl) d_Stow_value_15 (fun v6 s5 _ => ?_)
      refine xW_pure (fun _ _ _ _ _ => am_aload_n d_Stow_value_18 rfl rfl) ?_
      refine xW_gR O f_Stow_16 d_Stow_value_19 (fun v7 _ => ?_)
      refine xW_pure (fun _ _ _ _ _ => am_aload_n d_Stow_value_22 rfl rfl) ?_
      refine xW_gL O f_Stow_93 d_Stow_value_23 (fun v8 _ => ?_)
      refine xW_pure (fun _ _ _ _ _ => am_aload_n d_Stow_value_26 rfl rfl) ?_
      refine xW_gL O f_Stow_100 d_Stow_value_27 (fun v9 _ => ?_)
      refine xW_callV O (dx_Out_addText O T) (fun _ e => ob_Out_addText e) rfl rfl rfl l_Stow_122 ⟨w_1157, w_1158⟩ rfl (Nat.le_of_ble_eq_true rfl) d_Stow_value_30 (fun v11 s10 _ => ?_)
      refine xW_pure (fun _ _ _ _ _ => am_aload_n d_Stow_value_33 rfl rfl) ?_
      refine xW_gL O f_Stow_93 d_Stow_value_34 (fun v12 _ => ?_)
      refine xW_pure (fun _ _ _ _ _ => am_aload_n d_Stow_value_37 rfl rfl) ?_
      refine xW_gL O f_Stow_100 d_Stow_value_38 (fun v13 _ => ?_)
      refine xW_callS O (dx_Stow_asAnswer O T) rfl l_Stow_126 w_1377 rfl (Nat.le_of_ble_eq_true rfl) d_Stow_value_41 (fun v15 s14 _ => ?_)
      exact xW_ret (fun _ _ _ _ _ => am_lret rfl d_Stow_value_44)
    · refine xW_pure (fun _ _ _ _ _ => am_aload_n d_Stow_value_33 rfl rfl) ?_
      refine xW_gL O f_Stow_93 d_Stow_value_34 (fun v16 _ => ?_)
      refine xW_pure (fun _ _ _ _ _ => am_aload_n d_Stow_value_37 rfl rfl) ?_
      refine xW_gL O f_Stow_100 d_Stow_value_38 (fun v17 _ => ?_)
      refine xW_callS O (dx_Stow_asAnswer O T) rfl l_Stow_126 w_1377 rfl (Nat.le_of_ble_eq_true rfl) d_Stow_value_41 (fun v19 s18 _ => ?_)
      exact xW_ret (fun _ _ _ _ _ => am_lret rfl d_Stow_value_44)

theorem ob_Stow_value {d : Nat} {x0 : Nat} {s : HS} {y : Int64 × HS} (h : x_Stow_value d x0 s = some y) : isO s x0 9 = true := by
  cases d with
  | zero => cases h
  | succ d => exact (gd_spec h).1

set_option maxRecDepth 100000 in
def x_Sweep_clean (d : Nat) (x0 : Nat) (x1 : Nat) (s : HS) : Option (Int32 × HS) := match d with
  | 0 => none
  | d + 1 => gd s x0 8 (loopK (fun (again2 : Int32 × HS → Option (Int32 × HS)) (z2 : Int32 × HS) => (if 100 ≤ z2.1 then ((pV z2.2 x0 8 2 (.int 0)).bind fun s1 => (loopK (fun (again28 : Int32 × HS → Option (Int32 × HS)) (z28 : Int32 × HS) => (bnd (x_Store_roots d x1 z28.2) fun v3 s2 => (if v3 ≤ z28.1 then (loopK (fun (again60 : Int32 × HS → Option (Int32 × HS)) (z60 : Int32 × HS) => ((gI z60.2 x0 8 2).bind fun v4 => (if v4 ≤ z60.1 then (bnd (x_Sweep_takeUnreached d x0 x1 z60.2) fun v6 s5 => (some (v6, s5))) else (if 100 ≤ z60.1 then (bnd (x_Sweep_takeUnreached d x0 x1 z60.2) fun v8 s7 => (some (v8, s7))) else ((gR z60.2 x0 8 1).bind fun v9 => ((aI z60.2 v9 z60.1).bind fun v10 => (bnd (x_Sweep_reachFrom d x0 x1 v10 z60.2) fun v12 s11 => (again60 ((z60.1 + 1), s11))))))))) FU (0, s2)) else ((gR s2 x1 10 4).bind fun v13 => ((aL s2 v13 z28.1).bind fun v14 => ((gR s2 x1 10 5).bind fun v15 => ((aL s2 v15 z28.1).bind fun v16 => (bnd (x_Sweep_reach d x0 v14 v16 s2) fun v18 s17 => (again28 ((z28.1 + 1), s17)))))))))) FU (0, s1))) else ((gR z2.2 x0 8 0).bind fun v19 => ((sV z2.2 .boolean v19 z2.1 (narrow .boolean (.int 0))).bind fun s20 => (again2 ((z2.1 + 1), s20)))))) FU (0, s))

set_option maxRecDepth 100000 in
set_option maxHeartbeats 4000000 in
theorem dx_Sweep_clean (O : am_ok K X) (T : am_T K) {d : Nat} {x0 : Nat} {x1 : Nat} {s : HS} : xM cvI K X m_Sweep_clean d [.ref x0, .ref x1] s (x_Sweep_clean d x0 x1 s) := by
  cases d with
  | zero => exact xM_none
  | succ d =>
    unfold x_Sweep_clean
    refine xM_enter (by decide +kernel) (Nat.le_of_ble_eq_true rfl) ?_
    refine xW_gd (fun _ => ?_)
    refine xW_pure (fun _ _ _ _ _ => am_iconst (v := 0) d_Sweep_clean_0 (by decide)) ?_
    refine xW_pure (fun _ _ _ _ _ => am_istore_n d_Sweep_clean_1 rfl (Nat.le_of_ble_eq_true rfl)) ?_
    refine xW_locs (lv' := [(0, .ref x0), (1, .ref x1), (2, .int 0)]) rfl ?_
    refine xW_loop (lvf := fun (z2 : Int32 × HS) => [(0, .ref x0), (1, .ref x1), (2, .int z2.1)]) (hsf := fun (z2 : Int32 × HS) => z2.2) (fun again2 ih2 z2 => ?_) FU (0, s)
    refine xW_pure (fun _ _ _ _ _ => am_iload_n d_Sweep_clean_2 rfl rfl) ?_
    refine xW_pure (fun _ _ _ _ _ => am_bipush (v := 100) d_Sweep_clean_3 (by decide)) ?_
    refine xW_ite (fun _ _ _ _ _ => am_icmp_ge (tgt := 21) d_Sweep_clean_5 (by decide)) (fun _ => ?_) (fun _ => ?_)
    · refine xW_pure (fun _ _ _ _ _ => am_aload_n d_Sweep_clean_21 rfl rfl) ?_
      refine xW_pure (fun _ _ _ _ _ => am_iconst (v := 0) d_Sweep_clean_22 (by decide)) ?_
      refine xW_put O f_Sweep_19 d_Sweep_clean_23 (fun q hq => by cases hq; exact ⟨rfl, rfl, rfl⟩) (fun s1 _ => ?_)
      refine xW_pure (fun _ _ _ _ _ => am_iconst (v := 0) d_Sweep_clean_26 (by decide)) ?_
      refine xW_pure (fun _ _ _ _ _ => am_istore_n d_Sweep_clean_27 rfl (Nat.le_of_ble_eq_true rfl)) ?_
      refine xW_locs (lv' := [(0, .ref x0), (1, .ref x1), (2, .int 0)]) rfl ?_
      refine xW_loop (lvf := fun (z28 : Int32 × HS) => [(0, .ref x0), (1, .ref x1), (2, .int z28.1)]) (hsf := fun (z28 : Int32 × HS) => z28.2) (fun again28 ih28 z28 => ?_) FU (0, s1)
      refine xW_pure (fun _ _ _ _ _ => am_iload_n d_Sweep_clean_28 rfl rfl) ?_
      refine xW_pure (fun _ _ _ _ _ => am_aload_n d_Sweep_clean_29 rfl rfl) ?_
      refine xW_callV O (dx_Store_roots O T) (fun _ e => ob_Store_roots e) rfl rfl rfl l_Sweep_23 ⟨w_1435, w_1436⟩ rfl (Nat.le_of_ble_eq_true rfl) d_Sweep_clean_30 (fun v3 s2 _ => ?_)
      refine xW_ite (fun _ _ _ _ _ => am_icmp_ge (tgt := 58) d_Sweep_clean_33 (by decide)) (fun _ => ?_) (fun _ => ?_)
      · refine xW_pure (fun _ _ _ _ _ => am_iconst (v := 0) d_Sweep_clean_58 (by decide)) ?_
        refine xW_pure (fun _ _ _ _ _ => am_istore_n d_Sweep_clean_59 rfl (Nat.le_of_ble_eq_true rfl)) ?_
        refine xW_locs (lv' := [(0, .ref x0), (1, .ref x1), (2, .int 0)]) rfl ?_
        refine xW_loop (lvf := fun (z60 : Int32 × HS) => [(0, .ref x0), (1, .ref x1), (2, .int z60.1)]) (hsf := fun (z60 : Int32 × HS) => z60.2) (fun again60 ih60 z60 => ?_) FU (0, s2)
        refine xW_pure (fun _ _ _ _ _ => am_iload_n d_Sweep_clean_60 rfl rfl) ?_
        refine xW_pure (fun _ _ _ _ _ => am_aload_n d_Sweep_clean_61 rfl rfl) ?_
        refine xW_gI O f_Sweep_19 d_Sweep_clean_62 (fun v4 _ => ?_)
        refine xW_ite (fun _ _ _ _ _ => am_icmp_ge (tgt := 91) d_Sweep_clean_65 (by decide)) (fun _ => ?_) (fun _ => ?_)
        · refine xW_pure (fun _ _ _ _ _ => am_aload_n d_Sweep_clean_91 rfl rfl) ?_
          refine xW_pure (fun _ _ _ _ _ => am_aload_n d_Sweep_clean_92 rfl rfl) ?_
          refine xW_callV O (dx_Sweep_takeUnreached O T) (fun _ e => ob_Sweep_takeUnreached e) rfl rfl rfl l_Sweep_42 ⟨w_1454, w_82⟩ rfl (Nat.le_of_ble_eq_true rfl) d_Sweep_clean_93 (fun v6 s5 _ => ?_)
          exact xW_ret (fun _ _ _ _ _ => am_iret rfl d_Sweep_clean_96)
        · refine xW_pure (fun _ _ _ _ _ => am_iload_n d_Sweep_clean_68 rfl rfl) ?_
          refine xW_pure (fun _ _ _ _ _ => am_bipush (v := 100) d_Sweep_clean_69 (by decide)) ?_
          refine xW_ite (fun _ _ _ _ _ => am_icmp_ge (tgt := 91) d_Sweep_clean_71 (by decide)) (fun _ => ?_) (fun _ => ?_)
          · refine xW_pure (fun _ _ _ _ _ => am_aload_n d_Sweep_clean_91 rfl rfl) ?_
            refine xW_pure (fun _ _ _ _ _ => am_aload_n d_Sweep_clean_92 rfl rfl) ?_
            refine xW_callV O (dx_Sweep_takeUnreached O T) (fun _ e => ob_Sweep_takeUnreached e) rfl rfl rfl l_Sweep_42 ⟨w_1454, w_82⟩ rfl (Nat.le_of_ble_eq_true rfl) d_Sweep_clean_93 (fun v8 s7 _ => ?_)
            exact xW_ret (fun _ _ _ _ _ => am_iret rfl d_Sweep_clean_96)
          · refine xW_pure (fun _ _ _ _ _ => am_aload_n d_Sweep_clean_74 rfl rfl) ?_
            refine xW_pure (fun _ _ _ _ _ => am_aload_n d_Sweep_clean_75 rfl rfl) ?_
            refine xW_pure (fun _ _ _ _ _ => am_aload_n d_Sweep_clean_76 rfl rfl) ?_
            refine xW_gR O f_Sweep_15 d_Sweep_clean_77 (fun v9 _ => ?_)
            refine xW_pure (fun _ _ _ _ _ => am_iload_n d_Sweep_clean_80 rfl rfl) ?_
            refine xW_aI O d_Sweep_clean_81 (fun v10 _ => ?_)
            refine xW_callV O (dx_Sweep_reachFrom O T) (fun _ e => ob_Sweep_reachFrom e) rfl rfl rfl l_Sweep_38 ⟨w_1448, w_81⟩ rfl (Nat.le_of_ble_eq_true rfl) d_Sweep_clean_82 (fun v12 s11 _ => ?_)
            refine xW_pure (fun _ _ _ _ _ => am_iinc (v := 1) d_Sweep_clean_85 rfl (by decide) (Nat.le_of_ble_eq_true rfl)) ?_
            refine xW_pure (fun _ _ _ _ _ => am_goto (tgt := 60) d_Sweep_clean_88 (by decide)) ?_
            refine xW_locs (lv' := [(0, .ref x0), (1, .ref x1), (2, .int (z60.1 + 1))]) rfl ?_
            exact ih60 ((z60.1 + 1), s11)
      · refine xW_pure (fun _ _ _ _ _ => am_aload_n d_Sweep_clean_36 rfl rfl) ?_
        refine xW_pure (fun _ _ _ _ _ => am_aload_n d_Sweep_clean_37 rfl rfl) ?_
        refine xW_gR O f_Sweep_27 d_Sweep_clean_38 (fun v13 _ => ?_)
        refine xW_pure (fun _ _ _ _ _ => am_iload_n d_Sweep_clean_41 rfl rfl) ?_
        refine xW_aL O d_Sweep_clean_42 (fun v14 _ => ?_)
        refine xW_pure (fun _ _ _ _ _ => am_aload_n d_Sweep_clean_43 rfl rfl) ?_
        refine xW_gR O f_Sweep_31 d_Sweep_clean_44 (fun v15 _ => ?_)
        refine xW_pure (fun _ _ _ _ _ => am_iload_n d_Sweep_clean_47 rfl rfl) ?_
        refine xW_aL O d_Sweep_clean_48 (fun v16 _ => ?_)
        refine xW_callV O (dx_Sweep_reach O T) (fun _ e => ob_Sweep_reach e) rfl rfl rfl l_Sweep_34 ⟨w_1440, w_80⟩ rfl (Nat.le_of_ble_eq_true rfl) d_Sweep_clean_49 (fun v18 s17 _ => ?_)
        refine xW_pure (fun _ _ _ _ _ => am_iinc (v := 1) d_Sweep_clean_52 rfl (by decide) (Nat.le_of_ble_eq_true rfl)) ?_
        refine xW_pure (fun _ _ _ _ _ => am_goto (tgt := 28) d_Sweep_clean_55 (by decide)) ?_
        refine xW_locs (lv' := [(0, .ref x0), (1, .ref x1), (2, .int (z28.1 + 1))]) rfl ?_
        exact ih28 ((z28.1 + 1), s17)
    · refine xW_pure (fun _ _ _ _ _ => am_aload_n d_Sweep_clean_8 rfl rfl) ?_
      refine xW_gR O f_Sweep_9 d_Sweep_clean_9 (fun v19 _ => ?_)
      refine xW_pure (fun _ _ _ _ _ => am_iload_n d_Sweep_clean_12 rfl rfl) ?_
      refine xW_pure (fun _ _ _ _ _ => am_iconst (v := 0) d_Sweep_clean_13 (by decide)) ?_
      refine xW_sZ O d_Sweep_clean_14 (fun s20 _ => ?_)
      refine xW_pure (fun _ _ _ _ _ => am_iinc (v := 1) d_Sweep_clean_15 rfl (by decide) (Nat.le_of_ble_eq_true rfl)) ?_
      refine xW_pure (fun _ _ _ _ _ => am_goto (tgt := 2) d_Sweep_clean_18 (by decide)) ?_
      refine xW_locs (lv' := [(0, .ref x0), (1, .ref x1), (2, .int (z2.1 + 1))]) rfl ?_
      exact ih2 ((z2.1 + 1), s20)

theorem ob_Sweep_clean {d : Nat} {x0 : Nat} {x1 : Nat} {s : HS} {y : Int32 × HS} (h : x_Sweep_clean d x0 x1 s = some y) : isO s x0 8 = true := by
  cases d with
  | zero => cases h
  | succ d => exact (gd_spec h).1

set_option maxRecDepth 100000 in
def x_Mod_tellFunctions (d : Nat) (x0 : Nat) (s : HS) : Option (Int32 × HS) := match d with
  | 0 => none
  | d + 1 => gd s x0 14 (loopK (fun (again2 : Int32 × HS → Option (Int32 × HS)) (z2 : Int32 × HS) => ((gI z2.2 x0 14 20).bind fun v1 => (if v1 ≤ z2.1 then (some (0, z2.2)) else ((gR z2.2 x0 14 31).bind fun v2 => ((gR z2.2 x0 14 13).bind fun v3 => ((aL z2.2 v3 z2.1).bind fun v4 => (bnd (x_State_findFunction d v2 v4 z2.2) fun v6 s5 => (if 0 ≤ v6 then ((gR s5 x0 14 17).bind fun v7 => ((aI s5 v7 z2.1).bind fun v8 => (if v8 ≤ 400 then (bnd (x_Mod_fresh d x0 s5) fun v10 s9 => ((gR s9 x0 14 21).bind fun v11 => ((gR s9 x0 14 14).bind fun v12 => ((aI s9 v12 z2.1).bind fun v13 => ((gR s9 x0 14 16).bind fun v14 => ((aI s9 v14 z2.1).bind fun v15 => ((gR s9 x0 14 15).bind fun v16 => ((aI s9 v16 z2.1).bind fun v17 => ((gI s9 x0 14 20).bind fun v18 => (if v18 ≤ (z2.1 + 1) then ((gR s9 x0 14 21).bind fun v19 => ((gI s9 v19 12 3).bind fun v20 => (bnd (x_Code_cut d v10 v11 v13 v15 v17 v20 s9) fun v22 s21 => ((gR s21 x0 14 17).bind fun v23 => ((aI s21 v23 z2.1).bind fun v24 => ((pV s21 v10 12 4 (.int v24)).bind fun s25 => ((gR s25 x0 14 18).bind fun v26 => ((aI s25 v26 z2.1).bind fun v27 => ((pV s25 v10 12 5 (.int v27)).bind fun s28 => ((gR s28 x0 14 19).bind fun v29 => ((aI s28 v29 z2.1).bind fun v30 => ((pV s28 v10 12 6 (.int v30)).bind fun s31 => (if 0 ≤ v6 then ((gR s31 x0 14 31).bind fun v32 => ((gR s31 v32 13 4).bind fun v33 => ((gR s31 x0 14 13).bind fun v34 => ((aL s31 v34 z2.1).bind fun v35 => ((sV s31 .long v33 v6 (.long v35)).bind fun s36 => ((gR s36 x0 14 31).bind fun v37 => ((gR s36 v37 13 7).bind fun v38 => ((sR "StowTongueModel$Code" 12 s36 v38 v6 v10).bind fun s39 => ((gR s39 x0 14 31).bind fun v40 => (bnd (x_Mod_tokensOf d v40 s39) fun v42 s41 => (if v42 ≤ 400 then (again2 ((z2.1 + 1), s41)) else (some (8, s41))))))))))))) else ((gR s31 x0 14 31).bind fun v43 => ((gI s31 v43 13 10).bind fun v44 => ((gR s31 x0 14 31).bind fun v45 => ((gI s31 v45 13 10).bind fun v46 => ((pV s31 v45 13 10 (.int (v46 + 1))).bind fun s47 => ((gR s47 x0 14 31).bind fun v48 => ((gR s47 v48 13 4).bind fun v49 => ((gR s47 x0 14 13).bind fun v50 => ((aL s47 v50 z2.1).bind fun v51 => ((sV s47 .long v49 v44 (.long v51)).bind fun s52 => ((gR s52 x0 14 31).bind fun v53 => ((gR s52 v53 13 7).bind fun v54 => ((sR "StowTongueModel$Code" 12 s52 v54 v44 v10).bind fun s55 => ((gR s55 x0 14 31).bind fun v56 => (bnd (x_Mod_tokensOf d v56 s55) fun v58 s57 => (if v58 ≤ 400 then (again2 ((z2.1 + 1), s57)) else (some (8, s57))))))))))))))))))))))))))))))) else ((gR s9 x0 14 15).bind fun v59 => ((aI s9 v59 (z2.1 + 1)).bind fun v60 => (bnd (x_Code_cut d v10 v11 v13 v15 v17 v60 s9) fun v62 s61 => ((gR s61 x0 14 17).bind fun v63 => ((aI s61 v63 z2.1).bind fun v64 => ((pV s61 v10 12 4 (.int v64)).bind fun s65 => ((gR s65 x0 14 18).bind fun v66 => ((aI s65 v66 z2.1).bind fun v67 => ((pV s65 v10 12 5 (.int v67)).bind fun s68 => ((gR s68 x0 14 19).bind fun v69 => ((aI s68 v69 z2.1).bind fun v70 => ((pV s68 v10 12 6 (.int v70)).bind fun s71 => (if 0 ≤ v6 then ((gR s71 x0 14 31).bind fun v72 => ((gR s71 v72 13 4).bind fun v73 => ((gR s71 x0 14 13).bind fun v74 => ((aL s71 v74 z2.1).bind fun v75 => ((sV s71 .long v73 v6 (.long v75)).bind fun s76 => ((gR s76 x0 14 31).bind fun v77 => ((gR s76 v77 13 7).bind fun v78 => ((sR "StowTongueModel$Code" 12 s76 v78 v6 v10).bind fun s79 => ((gR s79 x0 14 31).bind fun v80 => (bnd (x_Mod_tokensOf d v80 s79) fun v82 s81 => (if v82 ≤ 400 then (again2 ((z2.1 + 1), s81)) else (some (8, s81))))))))))))) else ((gR s71 x0 14 31).bind fun v83 => ((gI s71 v83 13 10).bind fun v84 => ((gR s71 x0 14 31).bind fun v85 => ((gI s71 v85 13 10).bind fun v86 => ((pV s71 v85 13 10 (.int (v86 + 1))).bind fun s87 => ((gR s87 x0 14 31).bind fun v88 => ((gR s87 v88 13 4).bind fun v89 => ((gR s87 x0 14 13).bind fun v90 => ((aL s87 v90 z2.1).bind fun v91 => ((sV s87 .long v89 v84 (.long v91)).bind fun s92 => ((gR s92 x0 14 31).bind fun v93 => ((gR s92 v93 13 7).bind fun v94 => ((sR "StowTongueModel$Code" 12 s92 v94 v84 v10).bind fun s95 => ((gR s95 x0 14 31).bind fun v96 => (bnd (x_Mod_tokensOf d v96 s95) fun v98 s97 => (if v98 ≤ 400 then (again2 ((z2.1 + 1), s97)) else (some (8, s97))))))))))))))))))))))))))))))))))))))))) else (some (8, s5))))) else ((gR s5 x0 14 31).bind fun v99 => ((gI s5 v99 13 10).bind fun v100 => (if v100 = 10 then (some (8, s5)) else ((gR s5 x0 14 17).bind fun v101 => ((aI s5 v101 z2.1).bind fun v102 => (if v102 ≤ 400 then (bnd (x_Mod_fresh d x0 s5) fun v104 s103 => ((gR s103 x0 14 21).bind fun v105 => ((gR s103 x0 14 14).bind fun v106 => ((aI s103 v106 z2.1).bind fun v107 => ((gR s103 x0 14 16).bind fun v108 => ((aI s103 v108 z2.1).bind fun v109 => ((gR s103 x0 14 15).bind fun v110 => ((aI s103 v110 z2.1).bind fun v111 => ((gI s103 x0 14 20).bind fun v112 => (if v112 ≤ (z2.1 + 1) then ((gR s103 x0 14 21).bind fun v113 => ((gI s103 v113 12 3).bind fun v114 => (bnd (x_Code_cut d v104 v105 v107 v109 v111 v114 s103) fun v116 s115 => ((gR s115 x0 14 17).bind fun v117 => ((aI s115 v117 z2.1).bind fun v118 => ((pV s115 v104 12 4 (.int v118)).bind fun s119 => ((gR s119 x0 14 18).bind fun v120 => ((aI s119 v120 z2.1).bind fun v121 => ((pV s119 v104 12 5 (.int v121)).bind fun s122 => ((gR s122 x0 14 19).bind fun v123 => ((aI s122 v123 z2.1).bind fun v124 => ((pV s122 v104 12 6 (.int v124)).bind fun s125 => (if 0 ≤ v6 then ((gR s125 x0 14 31).bind fun v126 => ((gR s125 v126 13 4).bind fun v127 => ((gR s125 x0 14 13).bind fun v128 => ((aL s125 v128 z2.1).bind fun v129 => ((sV s125 .long v127 v6 (.long v129)).bind fun s130 => ((gR s130 x0 14 31).bind fun v131 => ((gR s130 v131 13 7).bind fun v132 => ((sR "StowTongueModel$Code" 12 s130 v132 v6 v104).bind fun s133 => ((gR s133 x0 14 31).bind fun v134 => (bnd (x_Mod_tokensOf d v134 s133) fun v136 s135 => (if v136 ≤ 400 then (again2 ((z2.1 + 1), s135)) else (some (8, s135))))))))))))) else ((gR s125 x0 14 31).bind fun v137 => ((gI s125 v137 13 10).bind fun v138 => ((gR s125 x0 14 31).bind fun v139 => ((gI s125 v139 13 10).bind fun v140 => ((pV s125 v139 13 10 (.int (v140 + 1))).bind fun s141 => ((gR s141 x0 14 31).bind fun v142 => ((gR s141 v142 13 4).bind fun v143 => ((gR s141 x0 14 13).bind fun v144 => ((aL s141 v144 z2.1).bind fun v145 => ((sV s141 .long v143 v138 (.long v145)).bind fun s146 => ((gR s146 x0 14 31).bind fun v147 => ((gR s146 v147 13 7).bind fun v148 => ((sR "StowTongueModel$Code" 12 s146 v148 v138 v104).bind fun s149 => ((gR s149 x0 14 31).bind fun v150 => (bnd (x_Mod_tokensOf d v150 s149) fun v152 s151 => (if v152 ≤ 400 then (again2 ((z2.1 + 1), s151)) else (some (8, s151))))))))))))))))))))))))))))))) else ((gR s103 x0 14 15).bind fun v153 => ((aI s103 v153 (z2.1 + 1)).bind fun v154 => (bnd (x_Code_cut d v104 v105 v107 v109 v111 v154 s103) fun v156 s155 => ((gR s155 x0 14 17).bind fun v157 => ((aI s155 v157 z2.1).bind fun v158 => ((pV s155 v104 12 4 (.int v158)).bind fun s159 => ((gR s159 x0 14 18).bind fun v160 => ((aI s159 v160 z2.1).bind fun v161 => ((pV s159 v104 12 5 (.int v161)).bind fun s162 => ((gR s162 x0 14 19).bind fun v163 => ((aI s162 v163 z2.1).bind fun v164 => ((pV s162 v104 12 6 (.int v164)).bind fun s165 => (if 0 ≤ v6 then ((gR s165 x0 14 31).bind fun v166 => ((gR s165 v166 13 4).bind fun v167 => ((gR s165 x0 14 13).bind fun v168 => ((aL s165 v168 z2.1).bind fun v169 => ((sV s165 .long v167 v6 (.long v169)).bind fun s170 => ((gR s170 x0 14 31).bind fun v171 => ((gR s170 v171 13 7).bind fun v172 => ((sR "StowTongueModel$Code" 12 s170 v172 v6 v104).bind fun s173 => ((gR s173 x0 14 31).bind fun v174 => (bnd (x_Mod_tokensOf d v174 s173) fun v176 s175 => (if v176 ≤ 400 then (again2 ((z2.1 + 1), s175)) else (some (8, s175))))))))))))) else ((gR s165 x0 14 31).bind fun v177 => ((gI s165 v177 13 10).bind fun v178 => ((gR s165 x0 14 31).bind fun v179 => ((gI s165 v179 13 10).bind fun v180 => ((pV s165 v179 13 10 (.int (v180 + 1))).bind fun s181 => ((gR s181 x0 14 31).bind fun v182 => ((gR s181 v182 13 4).bind fun v183 => ((gR s181 x0 14 13).bind fun v184 => ((aL s181 v184 z2.1).bind fun v185 => ((sV s181 .long v183 v178 (.long v185)).bind fun s186 => ((gR s186 x0 14 31).bind fun v187 => ((gR s186 v187 13 7).bind fun v188 => ((sR "StowTongueModel$Code" 12 s186 v188 v178 v104).bind fun s189 => ((gR s189 x0 14 31).bind fun v190 => (bnd (x_Mod_tokensOf d v190 s189) fun v192 s191 => (if v192 ≤ 400 then (again2 ((z2.1 + 1), s191)) else (some (8, s191))))))))))))))))))))))))))))))))))))))))) else (some (8, s5)))))))))))))))) FU (0, s))

set_option maxRecDepth 100000 in
set_option maxHeartbeats 4000000 in
theorem dx_Mod_tellFunctions (O : am_ok K X) (T : am_T K) {d : Nat} {x0 : Nat} {s : HS} : xM cvI K X m_Mod_tellFunctions d [.ref x0] s (x_Mod_tellFunctions d x0 s) := by
  cases d with
  | zero => exact xM_none
  | succ d =>
    unfold x_Mod_tellFunctions
    refine xM_enter (by decide +kernel) (Nat.le_of_ble_eq_true rfl) ?_
    refine xW_gd (fun _ => ?_)
    refine xW_pure (fun _ _ _ _ _ => am_iconst (v := 0) d_Mod_tellFunctions_0 (by decide)) ?_
    refine xW_pure (fun _ _ _ _ _ => am_istore_n d_Mod_tellFunctions_1 rfl (Nat.le_of_ble_eq_true rfl)) ?_
    refine xW_locs (lv' := [(0, .ref x0), (1, .int 0)]) rfl ?_
    refine xW_loop (lvf := fun (z2 : Int32 × HS) => [(0, .ref x0), (1, .int z2.1)]) (hsf := fun (z2 : Int32 × HS) => z2.2) (fun again2 ih2 z2 => ?_) FU (0, s)
    refine xW_pure (fun _ _ _ _ _ => am_iload_n d_Mod_tellFunctions_2 rfl rfl) ?_
    refine xW_pure (fun _ _ _ _ _ => am_aload_n d_Mod_tellFunctions_3 rfl rfl) ?_
    refine xW_gI O f_Mod_137 d_Mod_tellFunctions_4 (fun v1 _ => ?_)
    refine xW_ite (fun _ _ _ _ _ => am_icmp_ge (tgt := 216) d_Mod_tellFunctions_7 (by decide)) (fun _ => ?_) (fun _ => ?_)
    · refine xW_pure (fun _ _ _ _ _ => am_iconst (v := 0) d_Mod_tellFunctions_216 (by decide)) ?_
      exact xW_ret (fun _ _ _ _ _ => am_iret rfl d_Mod_tellFunctions_217)
    · refine xW_pure (fun _ _ _ _ _ => am_aload_n d_Mod_tellFunctions_10 rfl rfl) ?_
      refine xW_gR O f_Mod_353 d_Mod_tellFunctions_11 (fun v2 _ => ?_)
      refine xW_pure (fun _ _ _ _ _ => am_aload_n d_Mod_tellFunctions_14 rfl rfl) ?_
      refine xW_gR O f_Mod_161 d_Mod_tellFunctions_15 (fun v3 _ => ?_)
      refine xW_pure (fun _ _ _ _ _ => am_iload_n d_Mod_tellFunctions_18 rfl rfl) ?_
      refine xW_aL O d_Mod_tellFunctions_19 (fun v4 _ => ?_)
      refine xW_callV O (dx_State_findFunction O T) (fun _ e => ob_State_findFunction e) rfl rfl rfl l_Mod_412 ⟨w_2001, w_2002⟩ rfl (Nat.le_of_ble_eq_true rfl) d_Mod_tellFunctions_20 (fun v6 s5 _ => ?_)
      refine xW_pure (fun _ _ _ _ _ => am_istore_n d_Mod_tellFunctions_23 rfl (Nat.le_of_ble_eq_true rfl)) ?_
      refine xW_pure (fun _ _ _ _ _ => am_iload_n d_Mod_tellFunctions_24 rfl rfl) ?_
      refine xW_ite (fun _ _ _ _ _ => am_if_ge (tgt := 40) d_Mod_tellFunctions_25 (by decide)) (fun _ => ?_) (fun _ => ?_)
      · refine xW_pure (fun _ _ _ _ _ => am_aload_n d_Mod_tellFunctions_40 rfl rfl) ?_
        refine xW_gR O f_Mod_204 d_Mod_tellFunctions_41 (fun v7 _ => ?_)
        refine xW_pure (fun _ _ _ _ _ => am_iload_n d_Mod_tellFunctions_44 rfl rfl) ?_
        refine xW_aI O d_Mod_tellFunctions_45 (fun v8 _ => ?_)
        refine xW_pure (fun _ _ _ _ _ => am_sipush (v := 400) d_Mod_tellFunctions_46 (by decide)) ?_
        refine xW_ite (fun _ _ _ _ _ => am_icmp_le (tgt := 55) d_Mod_tellFunctions_49 (by decide)) (fun _ => ?_) (fun _ => ?_)
        · refine xW_pure (fun _ _ _ _ _ => am_aload_n d_Mod_tellFunctions_55 rfl rfl) ?_
          refine xW_callV O (dx_Mod_fresh O T) (fun _ e => ob_Mod_fresh e) rfl rfl rfl l_Mod_415 ⟨w_2006, w_115⟩ rfl (Nat.le_of_ble_eq_true rfl) d_Mod_tellFunctions_56 (fun v10 s9 _ => ?_)
          refine xW_pure (fun _ _ _ _ _ => am_astore_n d_Mod_tellFunctions_59 rfl (Nat.le_of_ble_eq_true rfl)) ?_
          refine xW_pure (fun _ _ _ _ _ => am_aload_n d_Mod_tellFunctions_60 rfl rfl) ?_
          refine xW_pure (fun _ _ _ _ _ => am_aload_n d_Mod_tellFunctions_61 rfl rfl) ?_
          refine xW_gR O f_Mod_149 d_Mod_tellFunctions_62 (fun v11 _ => ?_)
          refine xW_pure (fun _ _ _ _ _ => am_aload_n d_Mod_tellFunctions_65 rfl rfl) ?_
          refine xW_gR O f_Mod_192 d_Mod_tellFunctions_66 (fun v12 _ => ?_)
          refine xW_pure (fun _ _ _ _ _ => am_iload_n d_Mod_tellFunctions_69 rfl rfl) ?_
          refine xW_aI O d_Mod_tellFunctions_70 (fun v13 _ => ?_)
          refine xW_pure (fun _ _ _ _ _ => am_aload_n d_Mod_tellFunctions_71 rfl rfl) ?_
          refine xW_gR O f_Mod_201 d_Mod_tellFunctions_72 (fun v14 _ => ?_)
          refine xW_pure (fun _ _ _ _ _ => am_iload_n d_Mod_tellFunctions_75 rfl rfl) ?_
          refine xW_aI O d_Mod_tellFunctions_76 (fun v15 _ => ?_)
          refine xW_pure (fun _ _ _ _ _ => am_aload_n d_Mod_tellFunctions_77 rfl rfl) ?_
          refine xW_gR O f_Mod_195 d_Mod_tellFunctions_78 (fun v16 _ => ?_)
          refine xW_pure (fun _ _ _ _ _ => am_iload_n d_Mod_tellFunctions_81 rfl rfl) ?_
          refine xW_aI O d_Mod_tellFunctions_82 (fun v17 _ => ?_)
          refine xW_pure (fun _ _ _ _ _ => am_iload_n d_Mod_tellFunctions_83 rfl rfl) ?_
          refine xW_pure (fun _ _ _ _ _ => am_iconst (v := 1) d_Mod_tellFunctions_84 (by decide)) ?_
          refine xW_pure (fun _ _ _ _ _ => am_iadd d_Mod_tellFunctions_85) ?_
          refine xW_pure (fun _ _ _ _ _ => am_aload_n d_Mod_tellFunctions_86 rfl rfl) ?_
          refine xW_gI O f_Mod_137 d_Mod_tellFunctions_87 (fun v18 _ => ?_)
          refine xW_ite (fun _ _ _ _ _ => am_icmp_ge (tgt := 104) d_Mod_tellFunctions_90 (by decide)) (fun _ => ?_) (fun _ => ?_)
          · refine xW_pure (fun _ _ _ _ _ => am_aload_n d_Mod_tellFunctions_104 rfl rfl) ?_
            refine xW_gR O f_Mod_149 d_Mod_tellFunctions_105 (fun v19 _ => ?_)
            refine xW_gI O f_Mod_111 d_Mod_tellFunctions_108 (fun v20 _ => ?_)
            refine xW_callV O (dx_Code_cut O T) (fun _ e => ob_Code_cut e) rfl rfl rfl l_Mod_419 ⟨w_2013, w_2014⟩ rfl (Nat.le_of_ble_eq_true rfl) d_Mod_tellFunctions_111 (fun v22 s21 _ => ?_)
            refine xW_pure (fun _ _ _ _ _ => am_aload_n d_Mod_tellFunctions_114 rfl rfl) ?_
            refine xW_pure (fun _ _ _ _ _ => am_aload_n d_Mod_tellFunctions_115 rfl rfl) ?_
            refine xW_gR O f_Mod_204 d_Mod_tellFunctions_116 (fun v23 _ => ?_)
            refine xW_pure (fun _ _ _ _ _ => am_iload_n d_Mod_tellFunctions_119 rfl rfl) ?_
            refine xW_aI O d_Mod_tellFunctions_120 (fun v24 _ => ?_)
            refine xW_put O f_Mod_423 d_Mod_tellFunctions_121 (fun q hq => by cases hq; exact ⟨rfl, rfl, rfl⟩) (fun s25 _ => ?_)
            refine xW_pure (fun _ _ _ _ _ => am_aload_n d_Mod_tellFunctions_124 rfl rfl) ?_
            refine xW_pure (fun _ _ _ _ _ => am_aload_n d_Mod_tellFunctions_125 rfl rfl) ?_
            refine xW_gR O f_Mod_189 d_Mod_tellFunctions_126 (fun v26 _ => ?_)
            refine xW_pure (fun _ _ _ _ _ => am_iload_n d_Mod_tellFunctions_129 rfl rfl) ?_
            refine xW_aI O d_Mod_tellFunctions_130 (fun v27 _ => ?_)
            refine xW_put O f_Mod_426 d_Mod_tellFunctions_131 (fun q hq => by cases hq; exact ⟨rfl, rfl, rfl⟩) (fun s28 _ => ?_)
            refine xW_pure (fun _ _ _ _ _ => am_aload_n d_Mod_tellFunctions_134 rfl rfl) ?_
            refine xW_pure (fun _ _ _ _ _ => am_aload_n d_Mod_tellFunctions_135 rfl rfl) ?_
            refine xW_gR O f_Mod_207 d_Mod_tellFunctions_136 (fun v29 _ => ?_)
            refine xW_pure (fun _ _ _ _ _ => am_iload_n d_Mod_tellFunctions_139 rfl rfl) ?_
            refine xW_aI O d_Mod_tellFunctions_140 (fun v30 _ => ?_)
            refine xW_put O f_Mod_160 d_Mod_tellFunctions_141 (fun q hq => by cases hq; exact ⟨rfl, rfl, rfl⟩) (fun s31 _ => ?_)
            refine xW_pure (fun _ _ _ _ _ => am_iload_n d_Mod_tellFunctions_144 rfl rfl) ?_
            refine xW_ite (fun _ _ _ _ _ => am_if_ge (tgt := 169) d_Mod_tellFunctions_145 (by decide)) (fun _ => ?_) (fun _ => ?_)
            · refine xW_pure (fun _ _ _ _ _ => am_aload_n d_Mod_tellFunctions_169 rfl rfl) ?_
              refine xW_gR O f_Mod_353 d_Mod_tellFunctions_170 (fun v32 _ => ?_)
              refine xW_gR O f_Mod_429 d_Mod_tellFunctions_173 (fun v33 _ => ?_)
              refine xW_pure (fun _ _ _ _ _ => am_iload_n d_Mod_tellFunctions_176 rfl rfl) ?_
              refine xW_pure (fun _ _ _ _ _ => am_aload_n d_Mod_tellFunctions_177 rfl rfl) ?_
              refine xW_gR O f_Mod_161 d_Mod_tellFunctions_178 (fun v34 _ => ?_)
              refine xW_pure (fun _ _ _ _ _ => am_iload_n d_Mod_tellFunctions_181 rfl rfl) ?_
              refine xW_aL O d_Mod_tellFunctions_182 (fun v35 _ => ?_)
              refine xW_sL O d_Mod_tellFunctions_183 (fun s36 _ => ?_)
              refine xW_pure (fun _ _ _ _ _ => am_aload_n d_Mod_tellFunctions_184 rfl rfl) ?_
              refine xW_gR O f_Mod_353 d_Mod_tellFunctions_185 (fun v37 _ => ?_)
              refine xW_gR O f_Mod_399 d_Mod_tellFunctions_188 (fun v38 _ => ?_)
              refine xW_pure (fun _ _ _ _ _ => am_iload_n d_Mod_tellFunctions_191 rfl rfl) ?_
              refine xW_pure (fun _ _ _ _ _ => am_aload_n d_Mod_tellFunctions_192 rfl rfl) ?_
              refine xW_sR O (ci := 12) (by rfl) (by rfl) (by decide) d_Mod_tellFunctions_193 (fun s39 _ => ?_)
              refine xW_pure (fun _ _ _ _ _ => am_aload_n d_Mod_tellFunctions_194 rfl rfl) ?_
              refine xW_gR O f_Mod_353 d_Mod_tellFunctions_195 (fun v40 _ => ?_)
              refine xW_callS O (dx_Mod_tokensOf O T) rfl l_Mod_431 w_2019 rfl (Nat.le_of_ble_eq_true rfl) d_Mod_tellFunctions_198 (fun v42 s41 _ => ?_)
              refine xW_pure (fun _ _ _ _ _ => am_sipush (v := 400) d_Mod_tellFunctions_201 (by decide)) ?_
              refine xW_ite (fun _ _ _ _ _ => am_icmp_le (tgt := 210) d_Mod_tellFunctions_204 (by decide)) (fun _ => ?_) (fun _ => ?_)
              · refine xW_pure (fun _ _ _ _ _ => am_iinc (v := 1) d_Mod_tellFunctions_210 rfl (by decide) (Nat.le_of_ble_eq_true rfl)) ?_
                refine xW_pure (fun _ _ _ _ _ => am_goto (tgt := 2) d_Mod_tellFunctions_213 (by decide)) ?_
                refine xW_locs (lv' := [(0, .ref x0), (1, .int (z2.1 + 1))]) rfl ?_
                exact ih2 ((z2.1 + 1), s41)
              · refine xW_pure (fun _ _ _ _ _ => am_bipush (v := 8) d_Mod_tellFunctions_207 (by decide)) ?_
                exact xW_ret (fun _ _ _ _ _ => am_iret rfl d_Mod_tellFunctions_209)
            · refine xW_pure (fun _ _ _ _ _ => am_aload_n d_Mod_tellFunctions_148 rfl rfl) ?_
              refine xW_gR O f_Mod_353 d_Mod_tellFunctions_149 (fun v43 _ => ?_)
              refine xW_gI O f_Mod_396 d_Mod_tellFunctions_152 (fun v44 _ => ?_)
              refine xW_pure (fun _ _ _ _ _ => am_istore_n d_Mod_tellFunctions_155 rfl (Nat.le_of_ble_eq_true rfl)) ?_
              refine xW_pure (fun _ _ _ _ _ => am_aload_n d_Mod_tellFunctions_156 rfl rfl) ?_
              refine xW_gR O f_Mod_353 d_Mod_tellFunctions_157 (fun v45 _ => ?_)
              refine xW_pure (fun _ _ _ _ _ => am_dup d_Mod_tellFunctions_160 rfl) ?_
              refine xW_gI O f_Mod_396 d_Mod_tellFunctions_161 (fun v46 _ => ?_)
              refine xW_pure (fun _ _ _ _ _ => am_iconst (v := 1) d_Mod_tellFunctions_164 (by decide)) ?_
              refine xW_pure (fun _ _ _ _ _ => am_iadd d_Mod_tellFunctions_165) ?_
              refine xW_put O f_Mod_396 d_Mod_tellFunctions_166 (fun q hq => by cases hq; exact ⟨rfl, rfl, rfl⟩) (fun s47 _ => ?_)
              refine xW_pure (fun _ _ _ _ _ => am_aload_n d_Mod_tellFunctions_169 rfl rfl) ?_
              refine xW_gR O f_Mod_353 d_Mod_tellFunctions_170 (fun v48 _ => ?_)
              refine xW_gR O f_Mod_429 d_Mod_tellFunctions_173 (fun v49 _ => ?_)
              refine xW_pure (fun _ _ _ _ _ => am_iload_n d_Mod_tellFunctions_176 rfl rfl) ?_
              refine xW_pure (fun _ _ _ _ _ => am_aload_n d_Mod_tellFunctions_177 rfl rfl) ?_
              refine xW_gR O f_Mod_161 d_Mod_tellFunctions_178 (fun v50 _ => ?_)
              refine xW_pure (fun _ _ _ _ _ => am_iload_n d_Mod_tellFunctions_181 rfl rfl) ?_
              refine xW_aL O d_Mod_tellFunctions_182 (fun v51 _ => ?_)
              refine xW_sL O d_Mod_tellFunctions_183 (fun s52 _ => ?_)
              refine xW_pure (fun _ _ _ _ _ => am_aload_n d_Mod_tellFunctions_184 rfl rfl) ?_
              refine xW_gR O f_Mod_353 d_Mod_tellFunctions_185 (fun v53 _ => ?_)
              refine xW_gR O f_Mod_399 d_Mod_tellFunctions_188 (fun v54 _ => ?_)
              refine xW_pure (fun _ _ _ _ _ => am_iload_n d_Mod_tellFunctions_191 rfl rfl) ?_
              refine xW_pure (fun _ _ _ _ _ => am_aload_n d_Mod_tellFunctions_192 rfl rfl) ?_
              refine xW_sR O (ci := 12) (by rfl) (by rfl) (by decide) d_Mod_tellFunctions_193 (fun s55 _ => ?_)
              refine xW_pure (fun _ _ _ _ _ => am_aload_n d_Mod_tellFunctions_194 rfl rfl) ?_
              refine xW_gR O f_Mod_353 d_Mod_tellFunctions_195 (fun v56 _ => ?_)
              refine xW_callS O (dx_Mod_tokensOf O T) rfl l_Mod_431 w_2019 rfl (Nat.le_of_ble_eq_true rfl) d_Mod_tellFunctions_198 (fun v58 s57 _ => ?_)
              refine xW_pure (fun _ _ _ _ _ => am_sipush (v := 400) d_Mod_tellFunctions_201 (by decide)) ?_
              refine xW_ite (fun _ _ _ _ _ => am_icmp_le (tgt := 210) d_Mod_tellFunctions_204 (by decide)) (fun _ => ?_) (fun _ => ?_)
              · refine xW_pure (fun _ _ _ _ _ => am_iinc (v := 1) d_Mod_tellFunctions_210 rfl (by decide) (Nat.le_of_ble_eq_true rfl)) ?_
                refine xW_pure (fun _ _ _ _ _ => am_goto (tgt := 2) d_Mod_tellFunctions_213 (by decide)) ?_
                refine xW_locs (lv' := [(0, .ref x0), (1, .int (z2.1 + 1))]) rfl ?_
                exact ih2 ((z2.1 + 1), s57)
              · refine xW_pure (fun _ _ _ _ _ => am_bipush (v := 8) d_Mod_tellFunctions_207 (by decide)) ?_
                exact xW_ret (fun _ _ _ _ _ => am_iret rfl d_Mod_tellFunctions_209)
          · refine xW_pure (fun _ _ _ _ _ => am_aload_n d_Mod_tellFunctions_93 rfl rfl) ?_
            refine xW_gR O f_Mod_195 d_Mod_tellFunctions_94 (fun v59 _ => ?_)
            refine xW_pure (fun _ _ _ _ _ => am_iload_n d_Mod_tellFunctions_97 rfl rfl) ?_
            refine xW_pure (fun _ _ _ _ _ => am_iconst (v := 1) d_Mod_tellFunctions_98 (by decide)) ?_
            refine xW_pure (fun _ _ _ _ _ => am_iadd d_Mod_tellFunctions_99) ?_
            refine xW_aI O d_Mod_tellFunctions_100 (fun v60 _ => ?_)
            refine xW_pure (fun _ _ _ _ _ => am_goto (tgt := 111) d_Mod_tellFunctions_101 (by decide)) ?_
            refine xW_callV O (dx_Code_cut O T) (fun _ e => ob_Code_cut e) rfl rfl rfl l_Mod_419 ⟨w_2013, w_2014⟩ rfl (Nat.le_of_ble_eq_true rfl) d_Mod_tellFunctions_111 (fun v62 s61 _ => ?_)
            refine xW_pure (fun _ _ _ _ _ => am_aload_n d_Mod_tellFunctions_114 rfl rfl) ?_
            refine xW_pure (fun _ _ _ _ _ => am_aload_n d_Mod_tellFunctions_115 rfl rfl) ?_
            refine xW_gR O f_Mod_204 d_Mod_tellFunctions_116 (fun v63 _ => ?_)
            refine xW_pure (fun _ _ _ _ _ => am_iload_n d_Mod_tellFunctions_119 rfl rfl) ?_
            refine xW_aI O d_Mod_tellFunctions_120 (fun v64 _ => ?_)
            refine xW_put O f_Mod_423 d_Mod_tellFunctions_121 (fun q hq => by cases hq; exact ⟨rfl, rfl, rfl⟩) (fun s65 _ => ?_)
            refine xW_pure (fun _ _ _ _ _ => am_aload_n d_Mod_tellFunctions_124 rfl rfl) ?_
            refine xW_pure (fun _ _ _ _ _ => am_aload_n d_Mod_tellFunctions_125 rfl rfl) ?_
            refine xW_gR O f_Mod_189 d_Mod_tellFunctions_126 (fun v66 _ => ?_)
            refine xW_pure (fun _ _ _ _ _ => am_iload_n d_Mod_tellFunctions_129 rfl rfl) ?_
            refine xW_aI O d_Mod_tellFunctions_130 (fun v67 _ => ?_)
            refine xW_put O f_Mod_426 d_Mod_tellFunctions_131 (fun q hq => by cases hq; exact ⟨rfl, rfl, rfl⟩) (fun s68 _ => ?_)
            refine xW_pure (fun _ _ _ _ _ => am_aload_n d_Mod_tellFunctions_134 rfl rfl) ?_
            refine xW_pure (fun _ _ _ _ _ => am_aload_n d_Mod_tellFunctions_135 rfl rfl) ?_
            refine xW_gR O f_Mod_207 d_Mod_tellFunctions_136 (fun v69 _ => ?_)
            refine xW_pure (fun _ _ _ _ _ => am_iload_n d_Mod_tellFunctions_139 rfl rfl) ?_
            refine xW_aI O d_Mod_tellFunctions_140 (fun v70 _ => ?_)
            refine xW_put O f_Mod_160 d_Mod_tellFunctions_141 (fun q hq => by cases hq; exact ⟨rfl, rfl, rfl⟩) (fun s71 _ => ?_)
            refine xW_pure (fun _ _ _ _ _ => am_iload_n d_Mod_tellFunctions_144 rfl rfl) ?_
            refine xW_ite (fun _ _ _ _ _ => am_if_ge (tgt := 169) d_Mod_tellFunctions_145 (by decide)) (fun _ => ?_) (fun _ => ?_)
            · refine xW_pure (fun _ _ _ _ _ => am_aload_n d_Mod_tellFunctions_169 rfl rfl) ?_
              refine xW_gR O f_Mod_353 d_Mod_tellFunctions_170 (fun v72 _ => ?_)
              refine xW_gR O f_Mod_429 d_Mod_tellFunctions_173 (fun v73 _ => ?_)
              refine xW_pure (fun _ _ _ _ _ => am_iload_n d_Mod_tellFunctions_176 rfl rfl) ?_
              refine xW_pure (fun _ _ _ _ _ => am_aload_n d_Mod_tellFunctions_177 rfl rfl) ?_
              refine xW_gR O f_Mod_161 d_Mod_tellFunctions_178 (fun v74 _ => ?_)
              refine xW_pure (fun _ _ _ _ _ => am_iload_n d_Mod_tellFunctions_181 rfl rfl) ?_
              refine xW_aL O d_Mod_tellFunctions_182 (fun v75 _ => ?_)
              refine xW_sL O d_Mod_tellFunctions_183 (fun s76 _ => ?_)
              refine xW_pure (fun _ _ _ _ _ => am_aload_n d_Mod_tellFunctions_184 rfl rfl) ?_
              refine xW_gR O f_Mod_353 d_Mod_tellFunctions_185 (fun v77 _ => ?_)
              refine xW_gR O f_Mod_399 d_Mod_tellFunctions_188 (fun v78 _ => ?_)
              refine xW_pure (fun _ _ _ _ _ => am_iload_n d_Mod_tellFunctions_191 rfl rfl) ?_
              refine xW_pure (fun _ _ _ _ _ => am_aload_n d_Mod_tellFunctions_192 rfl rfl) ?_
              refine xW_sR O (ci := 12) (by rfl) (by rfl) (by decide) d_Mod_tellFunctions_193 (fun s79 _ => ?_)
              refine xW_pure (fun _ _ _ _ _ => am_aload_n d_Mod_tellFunctions_194 rfl rfl) ?_
              refine xW_gR O f_Mod_353 d_Mod_tellFunctions_195 (fun v80 _ => ?_)
              refine xW_callS O (dx_Mod_tokensOf O T) rfl l_Mod_431 w_2019 rfl (Nat.le_of_ble_eq_true rfl) d_Mod_tellFunctions_198 (fun v82 s81 _ => ?_)
              refine xW_pure (fun _ _ _ _ _ => am_sipush (v := 400) d_Mod_tellFunctions_201 (by decide)) ?_
              refine xW_ite (fun _ _ _ _ _ => am_icmp_le (tgt := 210) d_Mod_tellFunctions_204 (by decide)) (fun _ => ?_) (fun _ => ?_)
              · refine xW_pure (fun _ _ _ _ _ => am_iinc (v := 1) d_Mod_tellFunctions_210 rfl (by decide) (Nat.le_of_ble_eq_true rfl)) ?_
                refine xW_pure (fun _ _ _ _ _ => am_goto (tgt := 2) d_Mod_tellFunctions_213 (by decide)) ?_
                refine xW_locs (lv' := [(0, .ref x0), (1, .int (z2.1 + 1))]) rfl ?_
                exact ih2 ((z2.1 + 1), s81)
              · refine xW_pure (fun _ _ _ _ _ => am_bipush (v := 8) d_Mod_tellFunctions_207 (by decide)) ?_
                exact xW_ret (fun _ _ _ _ _ => am_iret rfl d_Mod_tellFunctions_209)
            · refine xW_pure (fun _ _ _ _ _ => am_aload_n d_Mod_tellFunctions_148 rfl rfl) ?_
              refine xW_gR O f_Mod_353 d_Mod_tellFunctions_149 (fun v83 _ => ?_)
              refine xW_gI O f_Mod_396 d_Mod_tellFunctions_152 (fun v84 _ => ?_)
              refine xW_pure (fun _ _ _ _ _ => am_istore_n d_Mod_tellFunctions_155 rfl (Nat.le_of_ble_eq_true rfl)) ?_
              refine xW_pure (fun _ _ _ _ _ => am_aload_n d_Mod_tellFunctions_156 rfl rfl) ?_
              refine xW_gR O f_Mod_353 d_Mod_tellFunctions_157 (fun v85 _ => ?_)
              refine xW_pure (fun _ _ _ _ _ => am_dup d_Mod_tellFunctions_160 rfl) ?_
              refine xW_gI O f_Mod_396 d_Mod_tellFunctions_161 (fun v86 _ => ?_)
              refine xW_pure (fun _ _ _ _ _ => am_iconst (v := 1) d_Mod_tellFunctions_164 (by decide)) ?_
              refine xW_pure (fun _ _ _ _ _ => am_iadd d_Mod_tellFunctions_165) ?_
              refine xW_put O f_Mod_396 d_Mod_tellFunctions_166 (fun q hq => by cases hq; exact ⟨rfl, rfl, rfl⟩) (fun s87 _ => ?_)
              refine xW_pure (fun _ _ _ _ _ => am_aload_n d_Mod_tellFunctions_169 rfl rfl) ?_
              refine xW_gR O f_Mod_353 d_Mod_tellFunctions_170 (fun v88 _ => ?_)
              refine xW_gR O f_Mod_429 d_Mod_tellFunctions_173 (fun v89 _ => ?_)
              refine xW_pure (fun _ _ _ _ _ => am_iload_n d_Mod_tellFunctions_176 rfl rfl) ?_
              refine xW_pure (fun _ _ _ _ _ => am_aload_n d_Mod_tellFunctions_177 rfl rfl) ?_
              refine xW_gR O f_Mod_161 d_Mod_tellFunctions_178 (fun v90 _ => ?_)
              refine xW_pure (fun _ _ _ _ _ => am_iload_n d_Mod_tellFunctions_181 rfl rfl) ?_
              refine xW_aL O d_Mod_tellFunctions_182 (fun v91 _ => ?_)
              refine xW_sL O d_Mod_tellFunctions_183 (fun s92 _ => ?_)
              refine xW_pure (fun _ _ _ _ _ => am_aload_n d_Mod_tellFunctions_184 rfl rfl) ?_
              refine xW_gR O f_Mod_353 d_Mod_tellFunctions_185 (fun v93 _ => ?_)
              refine xW_gR O f_Mod_399 d_Mod_tellFunctions_188 (fun v94 _ => ?_)
              refine xW_pure (fun _ _ _ _ _ => am_iload_n d_Mod_tellFunctions_191 rfl rfl) ?_
              refine xW_pure (fun _ _ _ _ _ => am_aload_n d_Mod_tellFunctions_192 rfl rfl) ?_
              refine xW_sR O (ci := 12) (by rfl) (by rfl) (by decide) d_Mod_tellFunctions_193 (fun s95 _ => ?_)
              refine xW_pure (fun _ _ _ _ _ => am_aload_n d_Mod_tellFunctions_194 rfl rfl) ?_
              refine xW_gR O f_Mod_353 d_Mod_tellFunctions_195 (fun v96 _ => ?_)
              refine xW_callS O (dx_Mod_tokensOf O T) rfl l_Mod_431 w_2019 rfl (Nat.le_of_ble_eq_true rfl) d_Mod_tellFunctions_198 (fun v98 s97 _ => ?_)
              refine xW_pure (fun _ _ _ _ _ => am_sipush (v := 400) d_Mod_tellFunctions_201 (by decide)) ?_
              refine xW_ite (fun _ _ _ _ _ => am_icmp_le (tgt := 210) d_Mod_tellFunctions_204 (by decide)) (fun _ => ?_) (fun _ => ?_)
              · refine xW_pure (fun _ _ _ _ _ => am_iinc (v := 1) d_Mod_tellFunctions_210 rfl (by decide) (Nat.le_of_ble_eq_true rfl)) ?_
                refine xW_pure (fun _ _ _ _ _ => am_goto (tgt := 2) d_Mod_tellFunctions_213 (by decide)) ?_
                refine xW_locs (lv' := [(0, .ref x0), (1, .int (z2.1 + 1))]) rfl ?_
                exact ih2 ((z2.1 + 1), s97)
              · refine xW_pure (fun _ _ _ _ _ => am_bipush (v := 8) d_Mod_tellFunctions_207 (by decide)) ?_
                exact xW_ret (fun _ _ _ _ _ => am_iret rfl d_Mod_tellFunctions_209)
        · refine xW_pure (fun _ _ _ _ _ => am_bipush (v := 8) d_Mod_tellFunctions_52 (by decide)) ?_
          exact xW_ret (fun _ _ _ _ _ => am_iret rfl d_Mod_tellFunctions_54)
      · refine xW_pure (fun _ _ _ _ _ => am_aload_n d_Mod_tellFunctions_28 rfl rfl) ?_
        refine xW_gR O f_Mod_353 d_Mod_tellFunctions_29 (fun v99 _ => ?_)
        refine xW_gI O f_Mod_396 d_Mod_tellFunctions_32 (fun v100 _ => ?_)
        refine xW_pure (fun _ _ _ _ _ => am_bipush (v := 10) d_Mod_tellFunctions_35 (by decide)) ?_
        refine xW_ite (fun _ _ _ _ _ => am_icmp_eq (tgt := 52) d_Mod_tellFunctions_37 (by decide)) (fun _ => ?_) (fun _ => ?_)
        · refine xW_pure (fun _ _ _ _ _ => am_bipush (v := 8) d_Mod_tellFunctions_52 (by decide)) ?_
          exact xW_ret (fun _ _ _ _ _ => am_iret rfl d_Mod_tellFunctions_54)
        · refine xW_pure (fun _ _ _ _ _ => am_aload_n d_Mod_tellFunctions_40 rfl rfl) ?_
          refine xW_gR O f_Mod_204 d_Mod_tellFunctions_41 (fun v101 _ => ?_)
          refine xW_pure (fun _ _ _ _ _ => am_iload_n d_Mod_tellFunctions_44 rfl rfl) ?_
          refine xW_aI O d_Mod_tellFunctions_45 (fun v102 _ => ?_)
          refine xW_pure (fun _ _ _ _ _ => am_sipush (v := 400) d_Mod_tellFunctions_46 (by decide)) ?_
          refine xW_ite (fun _ _ _ _ _ => am_icmp_le (tgt := 55) d_Mod_tellFunctions_49 (by decide)) (fun _ => ?_) (fun _ => ?_)
          · refine xW_pure (fun _ _ _ _ _ => am_aload_n d_Mod_tellFunctions_55 rfl rfl) ?_
            refine xW_callV O (dx_Mod_fresh O T) (fun _ e => ob_Mod_fresh e) rfl rfl rfl l_Mod_415 ⟨w_2006, w_115⟩ rfl (Nat.le_of_ble_eq_true rfl) d_Mod_tellFunctions_56 (fun v104 s103 _ => ?_)
            refine xW_pure (fun _ _ _ _ _ => am_astore_n d_Mod_tellFunctions_59 rfl (Nat.le_of_ble_eq_true rfl)) ?_
            refine xW_pure (fun _ _ _ _ _ => am_aload_n d_Mod_tellFunctions_60 rfl rfl) ?_
            refine xW_pure (fun _ _ _ _ _ => am_aload_n d_Mod_tellFunctions_61 rfl rfl) ?_
            refine xW_gR O f_Mod_149 d_Mod_tellFunctions_62 (fun v105 _ => ?_)
            refine xW_pure (fun _ _ _ _ _ => am_aload_n d_Mod_tellFunctions_65 rfl rfl) ?_
            refine xW_gR O f_Mod_192 d_Mod_tellFunctions_66 (fun v106 _ => ?_)
            refine xW_pure (fun _ _ _ _ _ => am_iload_n d_Mod_tellFunctions_69 rfl rfl) ?_
            refine xW_aI O d_Mod_tellFunctions_70 (fun v107 _ => ?_)
            refine xW_pure (fun _ _ _ _ _ => am_aload_n d_Mod_tellFunctions_71 rfl rfl) ?_
            refine xW_gR O f_Mod_201 d_Mod_tellFunctions_72 (fun v108 _ => ?_)
            refine xW_pure (fun _ _ _ _ _ => am_iload_n d_Mod_tellFunctions_75 rfl rfl) ?_
            refine xW_aI O d_Mod_tellFunctions_76 (fun v109 _ => ?_)
            refine xW_pure (fun _ _ _ _ _ => am_aload_n d_Mod_tellFunctions_77 rfl rfl) ?_
            refine xW_gR O f_Mod_195 d_Mod_tellFunctions_78 (fun v110 _ => ?_)
            refine xW_pure (fun _ _ _ _ _ => am_iload_n d_Mod_tellFunctions_81 rfl rfl) ?_
            refine xW_aI O d_Mod_tellFunctions_82 (fun v111 _ => ?_)
            refine xW_pure (fun _ _ _ _ _ => am_iload_n d_Mod_tellFunctions_83 rfl rfl) ?_
            refine xW_pure (fun _ _ _ _ _ => am_iconst (v := 1) d_Mod_tellFunctions_84 (by decide)) ?_
            refine xW_pure (fun _ _ _ _ _ => am_iadd d_Mod_tellFunctions_85) ?_
            refine xW_pure (fun _ _ _ _ _ => am_aload_n d_Mod_tellFunctions_86 rfl rfl) ?_
            refine xW_gI O f_Mod_137 d_Mod_tellFunctions_87 (fun v112 _ => ?_)
            refine xW_ite (fun _ _ _ _ _ => am_icmp_ge (tgt := 104) d_Mod_tellFunctions_90 (by decide)) (fun _ => ?_) (fun _ => ?_)
            · refine xW_pure (fun _ _ _ _ _ => am_aload_n d_Mod_tellFunctions_104 rfl rfl) ?_
              refine xW_gR O f_Mod_149 d_Mod_tellFunctions_105 (fun v113 _ => ?_)
              refine xW_gI O f_Mod_111 d_Mod_tellFunctions_108 (fun v114 _ => ?_)
              refine xW_callV O (dx_Code_cut O T) (fun _ e => ob_Code_cut e) rfl rfl rfl l_Mod_419 ⟨w_2013, w_2014⟩ rfl (Nat.le_of_ble_eq_true rfl) d_Mod_tellFunctions_111 (fun v116 s115 _ => ?_)
              refine xW_pure (fun _ _ _ _ _ => am_aload_n d_Mod_tellFunctions_114 rfl rfl) ?_
              refine xW_pure (fun _ _ _ _ _ => am_aload_n d_Mod_tellFunctions_115 rfl rfl) ?_
              refine xW_gR O f_Mod_204 d_Mod_tellFunctions_116 (fun v117 _ => ?_)
              refine xW_pure (fun _ _ _ _ _ => am_iload_n d_Mod_tellFunctions_119 rfl rfl) ?_
              refine xW_aI O d_Mod_tellFunctions_120 (fun v118 _ => ?_)
              refine xW_put O f_Mod_423 d_Mod_tellFunctions_121 (fun q hq => by cases hq; exact ⟨rfl, rfl, rfl⟩) (fun s119 _ => ?_)
              refine xW_pure (fun _ _ _ _ _ => am_aload_n d_Mod_tellFunctions_124 rfl rfl) ?_
              refine xW_pure (fun _ _ _ _ _ => am_aload_n d_Mod_tellFunctions_125 rfl rfl) ?_
              refine xW_gR O f_Mod_189 d_Mod_tellFunctions_126 (fun v120 _ => ?_)
              refine xW_pure (fun _ _ _ _ _ => am_iload_n d_Mod_tellFunctions_129 rfl rfl) ?_
              refine xW_aI O d_Mod_tellFunctions_130 (fun v121 _ => ?_)
              refine xW_put O f_Mod_426 d_Mod_tellFunctions_131 (fun q hq => by cases hq; exact ⟨rfl, rfl, rfl⟩) (fun s122 _ => ?_)
              refine xW_pure (fun _ _ _ _ _ => am_aload_n d_Mod_tellFunctions_134 rfl rfl) ?_
              refine xW_pure (fun _ _ _ _ _ => am_aload_n d_Mod_tellFunctions_135 rfl rfl) ?_
              refine xW_gR O f_Mod_207 d_Mod_tellFunctions_136 (fun v123 _ => ?_)
              refine xW_pure (fun _ _ _ _ _ => am_iload_n d_Mod_tellFunctions_139 rfl rfl) ?_
              refine xW_aI O d_Mod_tellFunctions_140 (fun v124 _ => ?_)
              refine xW_put O f_Mod_160 d_Mod_tellFunctions_141 (fun q hq => by cases hq; exact ⟨rfl, rfl, rfl⟩) (fun s125 _ => ?_)
              refine xW_pure (fun _ _ _ _ _ => am_iload_n d_Mod_tellFunctions_144 rfl rfl) ?_
              refine xW_ite (fun _ _ _ _ _ => am_if_ge (tgt := 169) d_Mod_tellFunctions_145 (by decide)) (fun _ => ?_) (fun _ => ?_)
              · refine xW_pure (fun _ _ _ _ _ => am_aload_n d_Mod_tellFunctions_169 rfl rfl) ?_
                refine xW_gR O f_Mod_353 d_Mod_tellFunctions_170 (fun v126 _ => ?_)
                refine xW_gR O f_Mod_429 d_Mod_tellFunctions_173 (fun v127 _ => ?_)
                refine xW_pure (fun _ _ _ _ _ => am_iload_n d_Mod_tellFunctions_176 rfl rfl) ?_
                refine xW_pure (fun _ _ _ _ _ => am_aload_n d_Mod_tellFunctions_177 rfl rfl) ?_
                refine xW_gR O f_Mod_161 d_Mod_tellFunctions_178 (fun v128 _ => ?_)
                refine xW_pure (fun _ _ _ _ _ => am_iload_n d_Mod_tellFunctions_181 rfl rfl) ?_
                refine xW_aL O d_Mod_tellFunctions_182 (fun v129 _ => ?_)
                refine xW_sL O d_Mod_tellFunctions_183 (fun s130 _ => ?_)
                refine xW_pure (fun _ _ _ _ _ => am_aload_n d_Mod_tellFunctions_184 rfl rfl) ?_
                refine xW_gR O f_Mod_353 d_Mod_tellFunctions_185 (fun v131 _ => ?_)
                refine xW_gR O f_Mod_399 d_Mod_tellFunctions_188 (fun v132 _ => ?_)
                refine xW_pure (fun _ _ _ _ _ => am_iload_n d_Mod_tellFunctions_191 rfl rfl) ?_
                refine xW_pure (fun _ _ _ _ _ => am_aload_n d_Mod_tellFunctions_192 rfl rfl) ?_
                refine xW_sR O (ci := 12) (by rfl) (by rfl) (by decide) d_Mod_tellFunctions_193 (fun s133 _ => ?_)
                refine xW_pure (fun _ _ _ _ _ => am_aload_n d_Mod_tellFunctions_194 rfl rfl) ?_
                refine xW_gR O f_Mod_353 d_Mod_tellFunctions_195 (fun v134 _ => ?_)
                refine xW_callS O (dx_Mod_tokensOf O T) rfl l_Mod_431 w_2019 rfl (Nat.le_of_ble_eq_true rfl) d_Mod_tellFunctions_198 (fun v136 s135 _ => ?_)
                refine xW_pure (fun _ _ _ _ _ => am_sipush (v := 400) d_Mod_tellFunctions_201 (by decide)) ?_
                refine xW_ite (fun _ _ _ _ _ => am_icmp_le (tgt := 210) d_Mod_tellFunctions_204 (by decide)) (fun _ => ?_) (fun _ => ?_)
                · refine xW_pure (fun _ _ _ _ _ => am_iinc (v := 1) d_Mod_tellFunctions_210 rfl (by decide) (Nat.le_of_ble_eq_true rfl)) ?_
                  refine xW_pure (fun _ _ _ _ _ => am_goto (tgt := 2) d_Mod_tellFunctions_213 (by decide)) ?_
                  refine xW_locs (lv' := [(0, .ref x0), (1, .int (z2.1 + 1))]) rfl ?_
                  exact ih2 ((z2.1 + 1), s135)
                · refine xW_pure (fun _ _ _ _ _ => am_bipush (v := 8) d_Mod_tellFunctions_207 (by decide)) ?_
                  exact xW_ret (fun _ _ _ _ _ => am_iret rfl d_Mod_tellFunctions_209)
              · refine xW_pure (fun _ _ _ _ _ => am_aload_n d_Mod_tellFunctions_148 rfl rfl) ?_
                refine xW_gR O f_Mod_353 d_Mod_tellFunctions_149 (fun v137 _ => ?_)
                refine xW_gI O f_Mod_396 d_Mod_tellFunctions_152 (fun v138 _ => ?_)
                refine xW_pure (fun _ _ _ _ _ => am_istore_n d_Mod_tellFunctions_155 rfl (Nat.le_of_ble_eq_true rfl)) ?_
                refine xW_pure (fun _ _ _ _ _ => am_aload_n d_Mod_tellFunctions_156 rfl rfl) ?_
                refine xW_gR O f_Mod_353 d_Mod_tellFunctions_157 (fun v139 _ => ?_)
                refine xW_pure (fun _ _ _ _ _ => am_dup d_Mod_tellFunctions_160 rfl) ?_
                refine xW_gI O f_Mod_396 d_Mod_tellFunctions_161 (fun v140 _ => ?_)
                refine xW_pure (fun _ _ _ _ _ => am_iconst (v := 1) d_Mod_tellFunctions_164 (by decide)) ?_
                refine xW_pure (fun _ _ _ _ _ => am_iadd d_Mod_tellFunctions_165) ?_
                refine xW_put O f_Mod_396 d_Mod_tellFunctions_166 (fun q hq => by cases hq; exact ⟨rfl, rfl, rfl⟩) (fun s141 _ => ?_)
                refine xW_pure (fun _ _ _ _ _ => am_aload_n d_Mod_tellFunctions_169 rfl rfl) ?_
                refine xW_gR O f_Mod_353 d_Mod_tellFunctions_170 (fun v142 _ => ?_)
                refine xW_gR O f_Mod_429 d_Mod_tellFunctions_173 (fun v143 _ => ?_)
                refine xW_pure (fun _ _ _ _ _ => am_iload_n d_Mod_tellFunctions_176 rfl rfl) ?_
                refine xW_pure (fun _ _ _ _ _ => am_aload_n d_Mod_tellFunctions_177 rfl rfl) ?_
                refine xW_gR O f_Mod_161 d_Mod_tellFunctions_178 (fun v144 _ => ?_)
                refine xW_pure (fun _ _ _ _ _ => am_iload_n d_Mod_tellFunctions_181 rfl rfl) ?_
                refine xW_aL O d_Mod_tellFunctions_182 (fun v145 _ => ?_)
                refine xW_sL O d_Mod_tellFunctions_183 (fun s146 _ => ?_)
                refine xW_pure (fun _ _ _ _ _ => am_aload_n d_Mod_tellFunctions_184 rfl rfl) ?_
                refine xW_gR O f_Mod_353 d_Mod_tellFunctions_185 (fun v147 _ => ?_)
                refine xW_gR O f_Mod_399 d_Mod_tellFunctions_188 (fun v148 _ => ?_)
                refine xW_pure (fun _ _ _ _ _ => am_iload_n d_Mod_tellFunctions_191 rfl rfl) ?_
                refine xW_pure (fun _ _ _ _ _ => am_aload_n d_Mod_tellFunctions_192 rfl rfl) ?_
                refine xW_sR O (ci := 12) (by rfl) (by rfl) (by decide) d_Mod_tellFunctions_193 (fun s149 _ => ?_)
                refine xW_pure (fun _ _ _ _ _ => am_aload_n d_Mod_tellFunctions_194 rfl rfl) ?_
                refine xW_gR O f_Mod_353 d_Mod_tellFunctions_195 (fun v150 _ => ?_)
                refine xW_callS O (dx_Mod_tokensOf O T) rfl l_Mod_431 w_2019 rfl (Nat.le_of_ble_eq_true rfl) d_Mod_tellFunctions_198 (fun v152 s151 _ => ?_)
                refine xW_pure (fun _ _ _ _ _ => am_sipush (v := 400) d_Mod_tellFunctions_201 (by decide)) ?_
                refine xW_ite (fun _ _ _ _ _ => am_icmp_le (tgt := 210) d_Mod_tellFunctions_204 (by decide)) (fun _ => ?_) (fun _ => ?_)
                · refine xW_pure (fun _ _ _ _ _ => am_iinc (v := 1) d_Mod_tellFunctions_210 rfl (by decide) (Nat.le_of_ble_eq_true rfl)) ?_
                  refine xW_pure (fun _ _ _ _ _ => am_goto (tgt := 2) d_Mod_tellFunctions_213 (by decide)) ?_
                  refine xW_locs (lv' := [(0, .ref x0), (1, .int (z2.1 + 1))]) rfl ?_
                  exact ih2 ((z2.1 + 1), s151)
                · refine xW_pure (fun _ _ _ _ _ => am_bipush (v := 8) d_Mod_tellFunctions_207 (by decide)) ?_
                  exact xW_ret (fun _ _ _ _ _ => am_iret rfl d_Mod_tellFunctions_209)
            · refine xW_pure (fun _ _ _ _ _ => am_aload_n d_Mod_tellFunctions_93 rfl rfl) ?_
              refine xW_gR O f_Mod_195 d_Mod_tellFunctions_94 (fun v153 _ => ?_)
              refine xW_pure (fun _ _ _ _ _ => am_iload_n d_Mod_tellFunctions_97 rfl rfl) ?_
              refine xW_pure (fun _ _ _ _ _ => am_iconst (v := 1) d_Mod_tellFunctions_98 (by decide)) ?_
              refine xW_pure (fun _ _ _ _ _ => am_iadd d_Mod_tellFunctions_99) ?_
              refine xW_aI O d_Mod_tellFunctions_100 (fun v154 _ => ?_)
              refine xW_pure (fun _ _ _ _ _ => am_goto (tgt := 111) d_Mod_tellFunctions_101 (by decide)) ?_
              refine xW_callV O (dx_Code_cut O T) (fun _ e => ob_Code_cut e) rfl rfl rfl l_Mod_419 ⟨w_2013, w_2014⟩ rfl (Nat.le_of_ble_eq_true rfl) d_Mod_tellFunctions_111 (fun v156 s155 _ => ?_)
              refine xW_pure (fun _ _ _ _ _ => am_aload_n d_Mod_tellFunctions_114 rfl rfl) ?_
              refine xW_pure (fun _ _ _ _ _ => am_aload_n d_Mod_tellFunctions_115 rfl rfl) ?_
              refine xW_gR O f_Mod_204 d_Mod_tellFunctions_116 (fun v157 _ => ?_)
              refine xW_pure (fun _ _ _ _ _ => am_iload_n d_Mod_tellFunctions_119 rfl rfl) ?_
              refine xW_aI O d_Mod_tellFunctions_120 (fun v158 _ => ?_)
              refine xW_put O f_Mod_423 d_Mod_tellFunctions_121 (fun q hq => by cases hq; exact ⟨rfl, rfl, rfl⟩) (fun s159 _ => ?_)
              refine xW_pure (fun _ _ _ _ _ => am_aload_n d_Mod_tellFunctions_124 rfl rfl) ?_
              refine xW_pure (fun _ _ _ _ _ => am_aload_n d_Mod_tellFunctions_125 rfl rfl) ?_
              refine xW_gR O f_Mod_189 d_Mod_tellFunctions_126 (fun v160 _ => ?_)
              refine xW_pure (fun _ _ _ _ _ => am_iload_n d_Mod_tellFunctions_129 rfl rfl) ?_
              refine xW_aI O d_Mod_tellFunctions_130 (fun v161 _ => ?_)
              refine xW_put O f_Mod_426 d_Mod_tellFunctions_131 (fun q hq => by cases hq; exact ⟨rfl, rfl, rfl⟩) (fun s162 _ => ?_)
              refine xW_pure (fun _ _ _ _ _ => am_aload_n d_Mod_tellFunctions_134 rfl rfl) ?_
              refine xW_pure (fun _ _ _ _ _ => am_aload_n d_Mod_tellFunctions_135 rfl rfl) ?_
              refine xW_gR O f_Mod_207 d_Mod_tellFunctions_136 (fun v163 _ => ?_)
              refine xW_pure (fun _ _ _ _ _ => am_iload_n d_Mod_tellFunctions_139 rfl rfl) ?_
              refine xW_aI O d_Mod_tellFunctions_140 (fun v164 _ => ?_)
              refine xW_put O f_Mod_160 d_Mod_tellFunctions_141 (fun q hq => by cases hq; exact ⟨rfl, rfl, rfl⟩) (fun s165 _ => ?_)
              refine xW_pure (fun _ _ _ _ _ => am_iload_n d_Mod_tellFunctions_144 rfl rfl) ?_
              refine xW_ite (fun _ _ _ _ _ => am_if_ge (tgt := 169) d_Mod_tellFunctions_145 (by decide)) (fun _ => ?_) (fun _ => ?_)
              · refine xW_pure (fun _ _ _ _ _ => am_aload_n d_Mod_tellFunctions_169 rfl rfl) ?_
                refine xW_gR O f_Mod_353 d_Mod_tellFunctions_170 (fun v166 _ => ?_)
                refine xW_gR O f_Mod_429 d_Mod_tellFunctions_173 (fun v167 _ => ?_)
                refine xW_pure (fun _ _ _ _ _ => am_iload_n d_Mod_tellFunctions_176 rfl rfl) ?_
                refine xW_pure (fun _ _ _ _ _ => am_aload_n d_Mod_tellFunctions_177 rfl rfl) ?_
                refine xW_gR O f_Mod_161 d_Mod_tellFunctions_178 (fun v168 _ => ?_)
                refine xW_pure (fun _ _ _ _ _ => am_iload_n d_Mod_tellFunctions_181 rfl rfl) ?_
                refine xW_aL O d_Mod_tellFunctions_182 (fun v169 _ => ?_)
                refine xW_sL O d_Mod_tellFunctions_183 (fun s170 _ => ?_)
                refine xW_pure (fun _ _ _ _ _ => am_aload_n d_Mod_tellFunctions_184 rfl rfl) ?_
                refine xW_gR O f_Mod_353 d_Mod_tellFunctions_185 (fun v171 _ => ?_)
                refine xW_gR O f_Mod_399 d_Mod_tellFunctions_188 (fun v172 _ => ?_)
                refine xW_pure (fun _ _ _ _ _ => am_iload_n d_Mod_tellFunctions_191 rfl rfl) ?_
                refine xW_pure (fun _ _ _ _ _ => am_aload_n d_Mod_tellFunctions_192 rfl rfl) ?_
                refine xW_sR O (ci := 12) (by rfl) (by rfl) (by decide) d_Mod_tellFunctions_193 (fun s173 _ => ?_)
                refine xW_pure (fun _ _ _ _ _ => am_aload_n d_Mod_tellFunctions_194 rfl rfl) ?_
                refine xW_gR O f_Mod_353 d_Mod_tellFunctions_195 (fun v174 _ => ?_)
                refine xW_callS O (dx_Mod_tokensOf O T) rfl l_Mod_431 w_2019 rfl (Nat.le_of_ble_eq_true rfl) d_Mod_tellFunctions_198 (fun v176 s175 _ => ?_)
                refine xW_pure (fun _ _ _ _ _ => am_sipush (v := 400) d_Mod_tellFunctions_201 (by decide)) ?_
                refine xW_ite (fun _ _ _ _ _ => am_icmp_le (tgt := 210) d_Mod_tellFunctions_204 (by decide)) (fun _ => ?_) (fun _ => ?_)
                · refine xW_pure (fun _ _ _ _ _ => am_iinc (v := 1) d_Mod_tellFunctions_210 rfl (by decide) (Nat.le_of_ble_eq_true rfl)) ?_
                  refine xW_pure (fun _ _ _ _ _ => am_goto (tgt := 2) d_Mod_tellFunctions_213 (by decide)) ?_
                  refine xW_locs (lv' := [(0, .ref x0), (1, .int (z2.1 + 1))]) rfl ?_
                  exact ih2 ((z2.1 + 1), s175)
                · refine xW_pure (fun _ _ _ _ _ => am_bipush (v := 8) d_Mod_tellFunctions_207 (by decide)) ?_
                  exact xW_ret (fun _ _ _ _ _ => am_iret rfl d_Mod_tellFunctions_209)
              · refine xW_pure (fun _ _ _ _ _ => am_aload_n d_Mod_tellFunctions_148 rfl rfl) ?_
                refine xW_gR O f_Mod_353 d_Mod_tellFunctions_149 (fun v177 _ => ?_)
                refine xW_gI O f_Mod_396 d_Mod_tellFunctions_152 (fun v178 _ => ?_)
                refine xW_pure (fun _ _ _ _ _ => am_istore_n d_Mod_tellFunctions_155 rfl (Nat.le_of_ble_eq_true rfl)) ?_
                refine xW_pure (fun _ _ _ _ _ => am_aload_n d_Mod_tellFunctions_156 rfl rfl) ?_
                refine xW_gR O f_Mod_353 d_Mod_tellFunctions_157 (fun v179 _ => ?_)
                refine xW_pure (fun _ _ _ _ _ => am_dup d_Mod_tellFunctions_160 rfl) ?_
                refine xW_gI O f_Mod_396 d_Mod_tellFunctions_161 (fun v180 _ => ?_)
                refine xW_pure (fun _ _ _ _ _ => am_iconst (v := 1) d_Mod_tellFunctions_164 (by decide)) ?_
                refine xW_pure (fun _ _ _ _ _ => am_iadd d_Mod_tellFunctions_165) ?_
                refine xW_put O f_Mod_396 d_Mod_tellFunctions_166 (fun q hq => by cases hq; exact ⟨rfl, rfl, rfl⟩) (fun s181 _ => ?_)
                refine xW_pure (fun _ _ _ _ _ => am_aload_n d_Mod_tellFunctions_169 rfl rfl) ?_
                refine xW_gR O f_Mod_353 d_Mod_tellFunctions_170 (fun v182 _ => ?_)
                refine xW_gR O f_Mod_429 d_Mod_tellFunctions_173 (fun v183 _ => ?_)
                refine xW_pure (fun _ _ _ _ _ => am_iload_n d_Mod_tellFunctions_176 rfl rfl) ?_
                refine xW_pure (fun _ _ _ _ _ => am_aload_n d_Mod_tellFunctions_177 rfl rfl) ?_
                refine xW_gR O f_Mod_161 d_Mod_tellFunctions_178 (fun v184 _ => ?_)
                refine xW_pure (fun _ _ _ _ _ => am_iload_n d_Mod_tellFunctions_181 rfl rfl) ?_
                refine xW_aL O d_Mod_tellFunctions_182 (fun v185 _ => ?_)
                refine xW_sL O d_Mod_tellFunctions_183 (fun s186 _ => ?_)
                refine xW_pure (fun _ _ _ _ _ => am_aload_n d_Mod_tellFunctions_184 rfl rfl) ?_
                refine xW_gR O f_Mod_353 d_Mod_tellFunctions_185 (fun v187 _ => ?_)
                refine xW_gR O f_Mod_399 d_Mod_tellFunctions_188 (fun v188 _ => ?_)
                refine xW_pure (fun _ _ _ _ _ => am_iload_n d_Mod_tellFunctions_191 rfl rfl) ?_
                refine xW_pure (fun _ _ _ _ _ => am_aload_n d_Mod_tellFunctions_192 rfl rfl) ?_
                refine xW_sR O (ci := 12) (by rfl) (by rfl) (by decide) d_Mod_tellFunctions_193 (fun s189 _ => ?_)
                refine xW_pure (fun _ _ _ _ _ => am_aload_n d_Mod_tellFunctions_194 rfl rfl) ?_
                refine xW_gR O f_Mod_353 d_Mod_tellFunctions_195 (fun v190 _ => ?_)
                refine xW_callS O (dx_Mod_tokensOf O T) rfl l_Mod_431 w_2019 rfl (Nat.le_of_ble_eq_true rfl) d_Mod_tellFunctions_198 (fun v192 s191 _ => ?_)
                refine xW_pure (fun _ _ _ _ _ => am_sipush (v := 400) d_Mod_tellFunctions_201 (by decide)) ?_
                refine xW_ite (fun _ _ _ _ _ => am_icmp_le (tgt := 210) d_Mod_tellFunctions_204 (by decide)) (fun _ => ?_) (fun _ => ?_)
                · refine xW_pure (fun _ _ _ _ _ => am_iinc (v := 1) d_Mod_tellFunctions_210 rfl (by decide) (Nat.le_of_ble_eq_true rfl)) ?_
                  refine xW_pure (fun _ _ _ _ _ => am_goto (tgt := 2) d_Mod_tellFunctions_213 (by decide)) ?_
                  refine xW_locs (lv' := [(0, .ref x0), (1, .int (z2.1 + 1))]) rfl ?_
                  exact ih2 ((z2.1 + 1), s191)
                · refine xW_pure (fun _ _ _ _ _ => am_bipush (v := 8) d_Mod_tellFunctions_207 (by decide)) ?_
                  exact xW_ret (fun _ _ _ _ _ => am_iret rfl d_Mod_tellFunctions_209)
          · refine xW_pure (fun _ _ _ _ _ => am_bipush (v := 8) d_Mod_tellFunctions_52 (by decide)) ?_
            exact xW_ret (fun _ _ _ _ _ => am_iret rfl d_Mod_tellFunctions_54)

theorem ob_Mod_tellFunctions {d : Nat} {x0 : Nat} {s : HS} {y : Int32 × HS} (h : x_Mod_tellFunctions d x0 s = some y) : isO s x0 14 = true := by
  cases d with
  | zero => cases h
  | succ d => exact (gd_spec h).1
end
