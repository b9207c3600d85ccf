section
variable {K : am_K} {X : Nat → am_C}
set_option maxRecDepth 100000 in
def x_Mod_take (d : Nat) (x0 : Nat) (x1 : Nat) (s : HS) : Option (Int32 × HS) := match d with
  | 0 => none
  | d + 1 => gd s x0 14 (bnd (x_Mod_is d x0 x1 s) fun v2 s1 => (if v2 = 0 then (bnd (x_Mod_bad d x0 s1) fun v4 s3 => (okB v4 (some (v4, s3)))) else (bnd (x_Mod_step d x0 s1) fun v6 s5 => (some (1, s5)))))

set_option maxRecDepth 100000 in
set_option maxHeartbeats 4000000 in
theorem dx_Mod_take (O : am_ok K X) (T : am_T K) {d : Nat} {x0 : Nat} {x1 : Nat} {s : HS} : xM cvI K X m_Mod_take d [.ref x0, .ref x1] s (x_Mod_take d x0 x1 s) := by
  cases d with
  | zero => exact xM_none
  | succ d =>
    unfold x_Mod_take
    refine xM_enter (by decide +kernel) (Nat.le_of_ble_eq_true rfl) ?_
    refine xW_gd (fun _ => ?_)
    refine xW_pure (fun _ _ _ _ _ => am_aload_n d_Mod_take_0 rfl rfl) ?_
    refine xW_pure (fun _ _ _ _ _ => am_aload_n d_Mod_take_1 rfl rfl) ?_
    refine xW_callV O (dx_Mod_is O T) (fun _ e => ob_Mod_is e) rfl rfl rfl l_Mod_80 ⟨w_1833, w_86⟩ rfl (Nat.le_of_ble_eq_true rfl) d_Mod_take_2 (fun v2 s1 _ => ?_)
    refine xW_ite (fun _ _ _ _ _ k1 k2 => am_if_ne (tgt := 13) d_Mod_take_5 (by decide) k2 k1) (fun _ => ?_) (fun _ => ?_)
    · refine xW_pure (fun _ _ _ _ _ => am_aload_n d_Mod_take_8 rfl rfl) ?_
      refine xW_callV O (dx_Mod_bad O T) (fun _ e => ob_Mod_bad e) rfl rfl rfl l_Mod_84 ⟨w_1841, w_88⟩ rfl (Nat.le_of_ble_eq_true rfl) d_Mod_take_9 (fun v4 s3 _ => ?_)
      refine xW_okB (fun hz => ?_)
      exact xW_ret (fun _ _ _ _ _ => am_zret (ty := .boolean) rfl (bz_nar hz) d_Mod_take_12)
    · refine xW_pure (fun _ _ _ _ _ => am_aload_n d_Mod_take_13 rfl rfl) ?_
      refine xW_callV O (dx_Mod_step O T) (fun _ e => ob_Mod_step e) rfl rfl rfl l_Mod_87 ⟨w_1808, w_84⟩ rfl (Nat.le_of_ble_eq_true rfl) d_Mod_take_14 (fun v6 s5 _ => ?_)
      refine xW_pure (fun _ _ _ _ _ => am_iconst (v := 1) d_Mod_take_17 (by decide)) ?_
      exact xW_ret (fun _ _ _ _ _ => am_zret (ty := .boolean) rfl rfl d_Mod_take_18)

theorem ob_Mod_take {d : Nat} {x0 : Nat} {x1 : Nat} {s : HS} {y : Int32 × HS} (h : x_Mod_take d x0 x1 s = some y) : isO s x0 14 = true := by
  cases d with
  | zero => cases h
  | succ d => exact (gd_spec h).1

set_option maxRecDepth 100000 in
def x_Mod_value_IIJJ (d : Nat) (x0 : Nat) (x1 : Int32) (x2 : Int32) (x3 : Int64) (x4 : Int64) (s : HS) : Option (Unit × HS) := match d with
  | 0 => none
  | d + 1 => gd s x0 14 ((gR s x0 14 22).bind fun v1 => ((gR s v1 12 1).bind fun v2 => ((gR s x0 14 22).bind fun v3 => ((gI s v3 12 3).bind fun v4 => (bnd (x_Vals_set d v2 v4 x1 x2 x3 x4 s) fun v6 s5 => ((gR s5 x0 14 22).bind fun v7 => ((gI s5 v7 12 3).bind fun v8 => (bnd (x_Mod_put_II d x0 0 v8 s5) fun v10 s9 => ((gR s9 x0 14 22).bind fun v11 => ((gI s9 v11 12 3).bind fun v12 => ((pV s9 v11 12 3 (.int (v12 + 1))).bind fun s13 => (some ((), s13)))))))))))))

set_option maxRecDepth 100000 in
set_option maxHeartbeats 4000000 in
theorem dx_Mod_value_IIJJ (O : am_ok K X) (T : am_T K) {d : Nat} {x0 : Nat} {x1 : Int32} {x2 : Int32} {x3 : Int64} {x4 : Int64} {s : HS} : xM cvU K X m_Mod_value_IIJJ d [.ref x0, .int x1, .int x2, .long x3, .long x4] s (x_Mod_value_IIJJ d x0 x1 x2 x3 x4 s) := by
  cases d with
  | zero => exact xM_none
  | succ d =>
    unfold x_Mod_value_IIJJ
    refine xM_enter (by decide +kernel) (Nat.le_of_ble_eq_true rfl) ?_
    refine xW_gd (fun _ => ?_)
    refine xW_pure (fun _ _ _ _ _ => am_aload_n d_Mod_value_IIJJ_0 rfl rfl) ?_
    refine xW_gR O f_Mod_91 d_Mod_value_IIJJ_1 (fun v1 _ => ?_)
    refine xW_gR O f_Mod_107 d_Mod_value_IIJJ_4 (fun v2 _ => ?_)
    refine xW_pure (fun _ _ _ _ _ => am_aload_n d_Mod_value_IIJJ_7 rfl rfl) ?_
    refine xW_gR O f_Mod_91 d_Mod_value_IIJJ_8 (fun v3 _ => ?_)
    refine xW_gI O f_Mod_111 d_Mod_value_IIJJ_11 (fun v4 _ => ?_)
    refine xW_pure (fun _ _ _ _ _ => am_iload_n d_Mod_value_IIJJ_14 rfl rfl) ?_
    refine xW_pure (fun _ _ _ _ _ => am_iload_n d_Mod_value_IIJJ_15 rfl rfl) ?_
    refine xW_pure (fun _ _ _ _ _ => am_lload_n d_Mod_value_IIJJ_16 rfl rfl) ?_
    refine xW_pure (fun _ _ _ _ _ => am_lload d_Mod_value_IIJJ_17 rfl) ?_
    refine xW_callV O (dx_Vals_set O T) (fun _ e => ob_Vals_set e) rfl rfl rfl l_Mod_114 ⟨w_1914, w_1915⟩ rfl (Nat.le_of_ble_eq_true rfl) d_Mod_value_IIJJ_19 (fun v6 s5 _ => ?_)
    refine xW_pure (fun _ _ _ _ _ => am_aload_n d_Mod_value_IIJJ_22 rfl rfl) ?_
    refine xW_pure (fun _ _ _ _ _ => am_iconst (v := 0) d_Mod_value_IIJJ_23 (by decide)) ?_
    refine xW_pure (fun _ _ _ _ _ => am_aload_n d_Mod_value_IIJJ_24 rfl rfl) ?_
    refine xW_gR O f_Mod_91 d_Mod_value_IIJJ_25 (fun v7 _ => ?_)
    refine xW_gI O f_Mod_111 d_Mod_value_IIJJ_28 (fun v8 _ => ?_)
    refine xW_callV O (dx_Mod_put_II O T) (fun _ e => ob_Mod_put_II e) rfl rfl rfl l_Mod_120 ⟨w_1919, w_104⟩ rfl (Nat.le_of_ble_eq_true rfl) d_Mod_value_IIJJ_31 (fun v10 s9 _ => ?_)
    refine xW_pure (fun _ _ _ _ _ => am_aload_n d_Mod_value_IIJJ_34 rfl rfl) ?_
    refine xW_gR O f_Mod_91 d_Mod_value_IIJJ_35 (fun v11 _ => ?_)
    refine xW_pure (fun _ _ _ _ _ => am_dup d_Mod_value_IIJJ_38 rfl) ?_
    refine xW_gI O f_Mod_111 d_Mod_value_IIJJ_39 (fun v12 _ => ?_)
    refine xW_pure (fun _ _ _ _ _ => am_iconst (v := 1) d_Mod_value_IIJJ_42 (by decide)) ?_
    refine xW_pure (fun _ _ _ _ _ => am_iadd d_Mod_value_IIJJ_43) ?_
    refine xW_put O f_Mod_111 d_Mod_value_IIJJ_44 (fun q hq => by cases hq; exact ⟨rfl, rfl, rfl⟩) (fun s13 _ => ?_)
    exact xW_ret (fun _ _ _ _ _ => am_vret rfl d_Mod_value_IIJJ_47)

theorem ob_Mod_value_IIJJ {d : Nat} {x0 : Nat} {x1 : Int32} {x2 : Int32} {x3 : Int64} {x4 : Int64} {s : HS} {y : Unit × HS} (h : x_Mod_value_IIJJ d x0 x1 x2 x3 x4 s = some y) : isO s x0 14 = true := by
  cases d with
  | zero => cases h
  | succ d => exact (gd_spec h).1

set_option maxRecDepth 100000 in
def x_State_copy (d : Nat) (x0 : Nat) (x1 : Nat) (s : HS) : Option (Unit × HS) := match d with
  | 0 => none
  | d + 1 => gd s x0 13 ((gR s x1 13 0).bind fun v1 => ((gR s x0 13 0).bind fun v2 => ((cpA s v1 0 v2 0 100).bind fun s3 => ((gR s3 x1 13 1).bind fun v4 => ((gR s3 x0 13 1).bind fun v5 => ((cpA s3 v4 0 v5 0 100).bind fun s6 => ((gR s6 x1 13 2).bind fun v7 => ((gR s6 x0 13 2).bind fun v8 => ((cpA s6 v7 0 v8 0 800).bind fun s9 => ((gR s9 x1 13 5).bind fun v10 => ((gR s9 v10 11 0).bind fun v11 => ((gR s9 x0 13 5).bind fun v12 => ((gR s9 v12 11 0).bind fun v13 => ((cpA s9 v11 0 v13 0 2000).bind fun s14 => ((gR s14 x1 13 5).bind fun v15 => ((gR s14 v15 11 1).bind fun v16 => ((gR s14 x0 13 5).bind fun v17 => ((gR s14 v17 11 1).bind fun v18 => ((cpA s14 v16 0 v18 0 2000).bind fun s19 => ((gR s19 x1 13 5).bind fun v20 => ((gR s19 v20 11 2).bind fun v21 => ((gR s19 x0 13 5).bind fun v22 => ((gR s19 v22 11 2).bind fun v23 => ((cpA s19 v21 0 v23 0 2000).bind fun s24 => ((gR s24 x1 13 5).bind fun v25 => ((gR s24 v25 11 3).bind fun v26 => ((gR s24 x0 13 5).bind fun v27 => ((gR s24 v27 11 3).bind fun v28 => ((cpA s24 v26 0 v28 0 2000).bind fun s29 => ((gR s29 x1 13 3).bind fun v30 => ((gR s29 x0 13 3).bind fun v31 => ((cpA s29 v30 0 v31 0 12).bind fun s32 => (loopK (fun (again151 : Int32 × HS → Option (Unit × HS)) (z151 : Int32 × HS) => ((gI z151.2 x1 13 9).bind fun v33 => (if v33 ≤ z151.1 then ((gR z151.2 x1 13 4).bind fun v34 => ((gR z151.2 x0 13 4).bind fun v35 => ((cpA z151.2 v34 0 v35 0 10).bind fun s36 => ((gR s36 x1 13 7).bind fun v37 => ((gR s36 x0 13 7).bind fun v38 => ((cpQ "StowTongueModel$Code" 12 s36 v37 0 v38 0 10).bind fun s39 => ((gI s39 x1 13 8).bind fun v40 => ((pV s39 x0 13 8 (.int v40)).bind fun s41 => ((gI s41 x1 13 9).bind fun v42 => ((pV s41 x0 13 9 (.int v42)).bind fun s43 => ((gI s43 x1 13 10).bind fun v44 => ((pV s43 x0 13 10 (.int v44)).bind fun s45 => (some ((), s45)))))))))))))) else ((gR z151.2 x0 13 6).bind fun v46 => ((gR z151.2 x1 13 6).bind fun v47 => (bnd (x_Vals_copy d v46 z151.1 v47 z151.1 z151.2) fun v49 s48 => (again151 ((z151.1 + 1), s48)))))))) FU (0, s32))))))))))))))))))))))))))))))))))

set_option maxRecDepth 100000 in
set_option maxHeartbeats 4000000 in
theorem dx_State_copy (O : am_ok K X) (T : am_T K) {d : Nat} {x0 : Nat} {x1 : Nat} {s : HS} : xM cvU K X m_State_copy d [.ref x0, .ref x1] s (x_State_copy d x0 x1 s) := by
  cases d with
  | zero => exact xM_none
  | succ d =>
    unfold x_State_copy
    refine xM_enter (by decide +kernel) (Nat.le_of_ble_eq_true rfl) ?_
    refine xW_gd (fun _ => ?_)
    refine xW_pure (fun _ _ _ _ _ => am_aload_n d_State_copy_0 rfl rfl) ?_
    refine xW_gR O f_State_9 d_State_copy_1 (fun v1 _ => ?_)
    refine xW_pure (fun _ _ _ _ _ => am_iconst (v := 0) d_State_copy_4 (by decide)) ?_
    refine xW_pure (fun _ _ _ _ _ => am_aload_n d_State_copy_5 rfl rfl) ?_
    refine xW_gR O f_State_9 d_State_copy_6 (fun v2 _ => ?_)
    refine xW_pure (fun _ _ _ _ _ => am_iconst (v := 0) d_State_copy_9 (by decide)) ?_
    refine xW_pure (fun _ _ _ _ _ => am_bipush (v := 100) d_State_copy_10 (by decide)) ?_
    refine xW_copy O w_1990 w_735 w_734 w_167 d_State_copy_12 (Nat.le_of_ble_eq_true rfl) (fun s3 _ => ?_)
    refine xW_pure (fun _ _ _ _ _ => am_aload_n d_State_copy_15 rfl rfl) ?_
    refine xW_gR O f_State_15 d_State_copy_16 (fun v4 _ => ?_)
    refine xW_pure (fun _ _ _ _ _ => am_iconst (v := 0) d_State_copy_19 (by decide)) ?_
    refine xW_pure (fun _ _ _ _ _ => am_aload_n d_State_copy_20 rfl rfl) ?_
    refine xW_gR O f_State_15 d_State_copy_21 (fun v5 _ => ?_)
    refine xW_pure (fun _ _ _ _ _ => am_iconst (v := 0) d_State_copy_24 (by decide)) ?_
    refine xW_pure (fun _ _ _ _ _ => am_bipush (v := 100) d_State_copy_25 (by decide)) ?_
    refine xW_copy O w_1990 w_735 w_734 w_167 d_State_copy_27 (Nat.le_of_ble_eq_true rfl) (fun s6 _ => ?_)
    refine xW_pure (fun _ _ _ _ _ => am_aload_n d_State_copy_30 rfl rfl) ?_
    refine xW_gR O f_State_18 d_State_copy_31 (fun v7 _ => ?_)
    refine xW_pure (fun _ _ _ _ _ => am_iconst (v := 0) d_State_copy_34 (by decide)) ?_
    refine xW_pure (fun _ _ _ _ _ => am_aload_n d_State_copy_35 rfl rfl) ?_
    refine xW_gR O f_State_18 d_State_copy_36 (fun v8 _ => ?_)
    refine xW_pure (fun _ _ _ _ _ => am_iconst (v := 0) d_State_copy_39 (by decide)) ?_
    refine xW_pure (fun _ _ _ _ _ => am_sipush (v := 800) d_State_copy_40 (by decide)) ?_
    refine xW_copy O w_1990 w_735 w_734 w_167 d_State_copy_43 (Nat.le_of_ble_eq_true rfl) (fun s9 _ => ?_)
    refine xW_pure (fun _ _ _ _ _ => am_aload_n d_State_copy_46 rfl rfl) ?_
    refine xW_gR O f_State_33 d_State_copy_47 (fun v10 _ => ?_)
    refine xW_gR O f_State_52 d_State_copy_50 (fun v11 _ => ?_)
    refine xW_pure (fun _ _ _ _ _ => am_iconst (v := 0) d_State_copy_53 (by decide)) ?_
    refine xW_pure (fun _ _ _ _ _ => am_aload_n d_State_copy_54 rfl rfl) ?_
    refine xW_gR O f_State_33 d_State_copy_55 (fun v12 _ => ?_)
    refine xW_gR O f_State_52 d_State_copy_58 (fun v13 _ => ?_)
    refine xW_pure (fun _ _ _ _ _ => am_iconst (v := 0) d_State_copy_61 (by decide)) ?_
    refine xW_pure (fun _ _ _ _ _ => am_sipush (v := 2000) d_State_copy_62 (by decide)) ?_
    refine xW_copy O w_1990 w_735 w_734 w_167 d_State_copy_65 (Nat.le_of_ble_eq_true rfl) (fun s14 _ => ?_)
    refine xW_pure (fun _ _ _ _ _ => am_aload_n d_State_copy_68 rfl rfl) ?_
    refine xW_gR O f_State_33 d_State_copy_69 (fun v15 _ => ?_)
    refine xW_gR O f_State_53 d_State_copy_72 (fun v16 _ => ?_)
    refine xW_pure (fun _ _ _ _ _ => am_iconst (v := 0) d_State_copy_75 (by decide)) ?_
    refine xW_pure (fun _ _ _ _ _ => am_aload_n d_State_copy_76 rfl rfl) ?_
    refine xW_gR O f_State_33 d_State_copy_77 (fun v17 _ => ?_)
    refine xW_gR O f_State_53 d_State_copy_80 (fun v18 _ => ?_)
    refine xW_pure (fun _ _ _ _ _ => am_iconst (v := 0) d_State_copy_83 (by decide)) ?_
    refine xW_pure (fun _ _ _ _ _ => am_sipush (v := 2000) d_State_copy_84 (by decide)) ?_
    refine xW_copy O w_1990 w_735 w_734 w_167 d_State_copy_87 (Nat.le_of_ble_eq_true rfl) (fun s19 _ => ?_)
    refine xW_pure (fun _ _ _ _ _ => am_aload_n d_State_copy_90 rfl rfl) ?_
    refine xW_gR O f_State_33 d_State_copy_91 (fun v20 _ => ?_)
    refine xW_gR O f_State_54 d_State_copy_94 (fun v21 _ => ?_)
    refine xW_pure (fun _ _ _ _ _ => am_iconst (v := 0) d_State_copy_97 (by decide)) ?_
    refine xW_pure (fun _ _ _ _ _ => am_aload_n d_State_copy_98 rfl rfl) ?_
    refine xW_gR O f_State_33 d_State_copy_99 (fun v22 _ => ?_)
    refine xW_gR O f_State_54 d_State_copy_102 (fun v23 _ => ?_)
    refine xW_pure (fun _ _ _ _ _ => am_iconst (v := 0) d_State_copy_105 (by decide)) ?_
    refine xW_pure (fun _ _ _ _ _ => am_sipush (v := 2000) d_State_copy_106 (by decide)) ?_
    refine xW_copy O w_1990 w_735 w_734 w_167 d_State_copy_109 (Nat.le_of_ble_eq_true rfl) (fun s24 _ => ?_)
    refine xW_pure (fun _ _ _ _ _ => am_aload_n d_State_copy_112 rfl rfl) ?_
    refine xW_gR O f_State_33 d_State_copy_113 (fun v25 _ => ?_)
    refine xW_gR O f_State_57 d_State_copy_116 (fun v26 _ => ?_)
    refine xW_pure (fun _ _ _ _ _ => am_iconst (v := 0) d_State_copy_119 (by decide)) ?_
    refine xW_pure (fun _ _ _ _ _ => am_aload_n d_State_copy_120 rfl rfl) ?_
    refine xW_gR O f_State_33 d_State_copy_121 (fun v27 _ => ?_)
    refine xW_gR O f_State_57 d_State_copy_124 (fun v28 _ => ?_)
    refine xW_pure (fun _ _ _ _ _ => am_iconst (v := 0) d_State_copy_127 (by decide)) ?_
    refine xW_pure (fun _ _ _ _ _ => am_sipush (v := 2000) d_State_copy_128 (by decide)) ?_
    refine xW_copy O w_1990 w_735 w_734 w_167 d_State_copy_131 (Nat.le_of_ble_eq_true rfl) (fun s29 _ => ?_)
    refine xW_pure (fun _ _ _ _ _ => am_aload_n d_State_copy_134 rfl rfl) ?_
    refine xW_gR O f_State_22 d_State_copy_135 (fun v30 _ => ?_)
    refine xW_pure (fun _ _ _ _ _ => am_iconst (v := 0) d_State_copy_138 (by decide)) ?_
    refine xW_pure (fun _ _ _ _ _ => am_aload_n d_State_copy_139 rfl rfl) ?_
    refine xW_gR O f_State_22 d_State_copy_140 (fun v31 _ => ?_)
    refine xW_pure (fun _ _ _ _ _ => am_iconst (v := 0) d_State_copy_143 (by decide)) ?_
    refine xW_pure (fun _ _ _ _ _ => am_bipush (v := 12) d_State_copy_144 (by decide)) ?_
    refine xW_copy O w_1990 w_735 w_734 w_167 d_State_copy_146 (Nat.le_of_ble_eq_true rfl) (fun s32 _ => ?_)
    refine xW_pure (fun _ _ _ _ _ => am_iconst (v := 0) d_State_copy_149 (by decide)) ?_
    refine xW_pure (fun _ _ _ _ _ => am_istore_n d_State_copy_150 rfl (Nat.le_of_ble_eq_true rfl)) ?_
    refine xW_locs (lv' := [(0, .ref x0), (1, .ref x1), (2, .int 0)]) rfl ?_
    refine xW_loop (lvf := fun (z151 : Int32 × HS) => [(0, .ref x0), (1, .ref x1), (2, .int z151.1)]) (hsf := fun (z151 : Int32 × HS) => z151.2) (fun again151 ih151 z151 => ?_) FU (0, s32)
    refine xW_pure (fun _ _ _ _ _ => am_iload_n d_State_copy_151 rfl rfl) ?_
    refine xW_pure (fun _ _ _ _ _ => am_aload_n d_State_copy_152 rfl rfl) ?_
    refine xW_gI O f_State_60 d_State_copy_153 (fun v33 _ => ?_)
    refine xW_ite (fun _ _ _ _ _ => am_icmp_ge (tgt := 178) d_State_copy_156 (by decide)) (fun _ => ?_) (fun _ => ?_)
    · refine xW_pure (fun _ _ _ _ _ => am_aload_n d_State_copy_178 rfl rfl) ?_
      refine xW_gR O f_State_25 d_State_copy_179 (fun v34 _ => ?_)
      refine xW_pure (fun _ _ _ _ _ => am_iconst (v := 0) d_State_copy_182 (by decide)) ?_
      refine xW_pure (fun _ _ _ _ _ => am_aload_n d_State_copy_183 rfl rfl) ?_
      refine xW_gR O f_State_25 d_State_copy_184 (fun v35 _ => ?_)
      refine xW_pure (fun _ _ _ _ _ => am_iconst (v := 0) d_State_copy_187 (by decide)) ?_
      refine xW_pure (fun _ _ _ _ _ => am_bipush (v := 10) d_State_copy_188 (by decide)) ?_
      refine xW_copy O w_1990 w_735 w_734 w_167 d_State_copy_190 (Nat.le_of_ble_eq_true rfl) (fun s36 _ => ?_)
      refine xW_pure (fun _ _ _ _ _ => am_aload_n d_State_copy_193 rfl rfl) ?_
      refine xW_gR O f_State_42 d_State_copy_194 (fun v37 _ => ?_)
      refine xW_pure (fun _ _ _ _ _ => am_iconst (v := 0) d_State_copy_197 (by decide)) ?_
      refine xW_pure (fun _ _ _ _ _ => am_aload_n d_State_copy_198 rfl rfl) ?_
      refine xW_gR O f_State_42 d_State_copy_199 (fun v38 _ => ?_)
      refine xW_pure (fun _ _ _ _ _ => am_iconst (v := 0) d_State_copy_202 (by decide)) ?_
      refine xW_pure (fun _ _ _ _ _ => am_bipush (v := 10) d_State_copy_203 (by decide)) ?_
      refine xW_copyq (C := "StowTongueModel$Code") (ci := 12) O (by rfl) (by rfl) (by decide) w_1990 w_735 w_734 w_167 d_State_copy_205 (Nat.le_of_ble_eq_true rfl) (fun s39 _ => ?_)
      refine xW_pure (fun _ _ _ _ _ => am_aload_n d_State_copy_208 rfl rfl) ?_
      refine xW_pure (fun _ _ _ _ _ => am_aload_n d_State_copy_209 rfl rfl) ?_
      refine xW_gI O f_State_68 d_State_copy_210 (fun v40 _ => ?_)
      refine xW_put O f_State_68 d_State_copy_213 (fun q hq => by cases hq; exact ⟨rfl, rfl, rfl⟩) (fun s41 _ => ?_)
      refine xW_pure (fun _ _ _ _ _ => am_aload_n d_State_copy_216 rfl rfl) ?_
      refine xW_pure (fun _ _ _ _ _ => am_aload_n d_State_copy_217 rfl rfl) ?_
      refine xW_gI O f_State_60 d_State_copy_218 (fun v42 _ => ?_)
      refine xW_put O f_State_60 d_State_copy_221 (fun q hq => by cases hq; exact ⟨rfl, rfl, rfl⟩) (fun s43 _ => ?_)
      refine xW_pure (fun _ _ _ _ _ => am_aload_n d_State_copy_224 rfl rfl) ?_
      refine xW_pure (fun _ _ _ _ _ => am_aload_n d_State_copy_225 rfl rfl) ?_
      refine xW_gI O f_State_71 d_State_copy_226 (fun v44 _ => ?_)
      refine xW_put O f_State_71 d_State_copy_229 (fun q hq => by cases hq; exact ⟨rfl, rfl, rfl⟩) (fun s45 _ => ?_)
      exact xW_ret (fun _ _ _ _ _ => am_vret rfl d_State_copy_232)
    · refine xW_pure (fun _ _ _ _ _ => am_aload_n d_State_copy_159 rfl rfl) ?_
      refine xW_gR O f_State_37 d_State_copy_160 (fun v46 _ => ?_)
      refine xW_pure (fun _ _ _ _ _ => am_iload_n d_State_copy_163 rfl rfl) ?_
      refine xW_pure (fun _ _ _ _ _ => am_aload_n d_State_copy_164 rfl rfl) ?_
      refine xW_gR O f_State_37 d_State_copy_165 (fun v47 _ => ?_)
      refine xW_pure (fun _ _ _ _ _ => am_iload_n d_State_copy_168 rfl rfl) ?_
      refine xW_callV O (dx_Vals_copy O T) (fun _ e => ob_Vals_copy e) rfl rfl rfl l_State_64 ⟨w_1992, w_1993⟩ rfl (Nat.le_of_ble_eq_true rfl) d_State_copy_169 (fun v49 s48 _ => ?_)
      refine xW_pure (fun _ _ _ _ _ => am_iinc (v := 1) d_State_copy_172 rfl (by decide) (Nat.le_of_ble_eq_true rfl)) ?_
      refine xW_pure (fun _ _ _ _ _ => am_goto (tgt := 151) d_State_copy_175 (by decide)) ?_
      refine xW_locs (lv' := [(0, .ref x0), (1, .ref x1), (2, .int (z151.1 + 1))]) rfl ?_
      exact ih151 ((z151.1 + 1), s48)

theorem ob_State_copy {d : Nat} {x0 : Nat} {x1 : Nat} {s : HS} {y : Unit × HS} (h : x_State_copy d x0 x1 s = some y) : isO s x0 13 = true := by
  cases d with
  | zero => cases h
  | succ d => exact (gd_spec h).1

set_option maxRecDepth 100000 in
def x_Mod_fresh (d : Nat) (x0 : Nat) (s : HS) : Option (Nat × HS) := match d with
  | 0 => none
  | d + 1 => gd s x0 14 ((gR s x0 14 36).bind fun v1 => ((lenA s v1).bind fun v2 => (loopK (fun (again10 : Int32 × HS → Option (Nat × HS)) (z10 : Int32 × HS) => (if v2 ≤ z10.1 then ((gR z10.2 x0 14 30).bind fun v3 => (bnd (x_Mod_mark d x0 v3 z10.2) fun v5 s4 => ((gR s4 x0 14 31).bind fun v6 => (bnd (x_Mod_mark d x0 v6 s4) fun v8 s7 => ((gR s7 x0 14 32).bind fun v9 => (bnd (x_Mod_mark d x0 v9 s7) fun v11 s10 => (loopK (fun (again58 : Int32 × HS → Option (Nat × HS)) (z58 : Int32 × HS) => ((gI z58.2 x0 14 34).bind fun v12 => (if v12 ≤ z58.1 then (loopK (fun (again84 : Int32 × HS → Option (Nat × HS)) (z84 : Int32 × HS) => ((gR z84.2 x0 14 36).bind fun v13 => ((aR "StowTongueModel$Code" z84.2 v13 z84.1).bind fun v14 => ((gI z84.2 v14 12 9).bind fun v15 => (if v15 = 0 then ((gR z84.2 x0 14 36).bind fun v16 => ((aR "StowTongueModel$Code" z84.2 v16 z84.1).bind fun v17 => (some (v17, z84.2)))) else (again84 ((z84.1 + 1), z84.2))))))) FU (0, z58.2)) else ((gR z58.2 x0 14 33).bind fun v18 => ((aR "StowTongueModel$State" z58.2 v18 z58.1).bind fun v19 => (bnd (x_Mod_mark d x0 v19 z58.2) fun v21 s20 => (again58 ((z58.1 + 1), s20)))))))) FU (0, s10)))))))) else ((aR "StowTongueModel$Code" z10.2 v1 z10.1).bind fun v22 => ((pV z10.2 v22 12 9 (.int 0)).bind fun s23 => (again10 ((z10.1 + 1), s23)))))) FU (0, s))))

set_option maxRecDepth 100000 in
set_option maxHeartbeats 4000000 in
theorem dx_Mod_fresh (O : am_ok K X) (T : am_T K) {d : Nat} {x0 : Nat} {s : HS} : xM cvR K X m_Mod_fresh d [.ref x0] s (x_Mod_fresh d x0 s) := by
  cases d with
  | zero => exact xM_none
  | succ d =>
    unfold x_Mod_fresh
    refine xM_enter (by decide +kernel) (Nat.le_of_ble_eq_true rfl) ?_
    refine xW_gd (fun _ => ?_)
    refine xW_pure (fun _ _ _ _ _ => am_aload_n d_Mod_fresh_0 rfl rfl) ?_
    refine xW_gR O f_Mod_363 d_Mod_fresh_1 (fun v1 _ => ?_)
    refine xW_pure (fun _ _ _ _ _ => am_astore_n d_Mod_fresh_4 rfl (Nat.le_of_ble_eq_true rfl)) ?_
    refine xW_pure (fun _ _ _ _ _ => am_aload_n d_Mod_fresh_5 rfl rfl) ?_
    refine xW_len O d_Mod_fresh_6 (fun v2 _ => ?_)
    refine xW_pure (fun _ _ _ _ _ => am_istore_n d_Mod_fresh_7 rfl (Nat.le_of_ble_eq_true rfl)) ?_
    refine xW_pure (fun _ _ _ _ _ => am_iconst (v := 0) d_Mod_fresh_8 (by decide)) ?_
    refine xW_pure (fun _ _ _ _ _ => am_istore_n d_Mod_fresh_9 rfl (Nat.le_of_ble_eq_true rfl)) ?_
    refine xW_locs (lv' := [(0, .ref x0), (1, .ref v1), (2, .int v2), (3, .int 0)]) rfl ?_
    refine xW_loop (lvf := fun (z10 : Int32 × HS) => [(0, .ref x0), (1, .ref v1), (2, .int v2), (3, .int z10.1)]) (hsf := fun (z10 : Int32 × HS) => z10.2) (fun again10 ih10 z10 => ?_) FU (0, s)
    refine xW_pure (fun _ _ _ _ _ => am_iload_n d_Mod_fresh_10 rfl rfl) ?_
    refine xW_pure (fun _ _ _ _ _ => am_iload_n d_Mod_fresh_11 rfl rfl) ?_
    refine xW_ite (fun _ _ _ _ _ => am_icmp_ge (tgt := 32) d_Mod_fresh_12 (by decide)) (fun _ => ?_) (fun _ => ?_)
    · refine xW_pure (fun _ _ _ _ _ => am_aload_n d_Mod_fresh_32 rfl rfl) ?_
      refine xW_pure (fun _ _ _ _ _ => am_aload_n d_Mod_fresh_33 rfl rfl) ?_
      refine xW_gR O f_Mod_349 d_Mod_fresh_34 (fun v3 _ => ?_)
      refine xW_callV O (dx_Mod_mark O T) (fun _ e => ob_Mod_mark e) rfl rfl rfl l_Mod_405 ⟨w_2010, w_116⟩ rfl (Nat.le_of_ble_eq_true rfl) d_Mod_fresh_37 (fun v5 s4 _ => ?_)
      refine xW_pure (fun _ _ _ _ _ => am_aload_n d_Mod_fresh_40 rfl rfl) ?_
      refine xW_pure (fun _ _ _ _ _ => am_aload_n d_Mod_fresh_41 rfl rfl) ?_
      refine xW_gR O f_Mod_353 d_Mod_fresh_42 (fun v6 _ => ?_)
      refine xW_callV O (dx_Mod_mark O T) (fun _ e => ob_Mod_mark e) rfl rfl rfl l_Mod_405 ⟨w_2010, w_116⟩ rfl (Nat.le_of_ble_eq_true rfl) d_Mod_fresh_45 (fun v8 s7 _ => ?_)
      refine xW_pure (fun _ _ _ _ _ => am_aload_n d_Mod_fresh_48 rfl rfl) ?_
      refine xW_pure (fun _ _ _ _ _ => am_aload_n d_Mod_fresh_49 rfl rfl) ?_
      refine xW_gR O f_Mod_356 d_Mod_fresh_50 (fun v9 _ => ?_)
      refine xW_callV O (dx_Mod_mark O T) (fun _ e => ob_Mod_mark e) rfl rfl rfl l_Mod_405 ⟨w_2010, w_116⟩ rfl (Nat.le_of_ble_eq_true rfl) d_Mod_fresh_53 (fun v11 s10 _ => ?_)
      refine xW_pure (fun _ _ _ _ _ => am_iconst (v := 0) d_Mod_fresh_56 (by decide)) ?_
      refine xW_pure (fun _ _ _ _ _ => am_istore_n d_Mod_fresh_57 rfl (Nat.le_of_ble_eq_true rfl)) ?_
      refine xW_locs (lv' := [(0, .ref x0), (1, .int 0)]) rfl ?_
      refine xW_loop (lvf := fun (z58 : Int32 × HS) => [(0, .ref x0), (1, .int z58.1)]) (hsf := fun (z58 : Int32 × HS) => z58.2) (fun again58 ih58 z58 => ?_) FU (0, s10)
      refine xW_pure (fun _ _ _ _ _ => am_iload_n d_Mod_fresh_58 rfl rfl) ?_
      refine xW_pure (fun _ _ _ _ _ => am_aload_n d_Mod_fresh_59 rfl rfl) ?_
      refine xW_gI O f_Mod_409 d_Mod_fresh_60 (fun v12 _ => ?_)
      refine xW_ite (fun _ _ _ _ _ => am_icmp_ge (tgt := 82) d_Mod_fresh_63 (by decide)) (fun _ => ?_) (fun _ => ?_)
      · refine xW_pure (fun _ _ _ _ _ => am_iconst (v := 0) d_Mod_fresh_82 (by decide)) ?_
        refine xW_pure (fun _ _ _ _ _ => am_istore_n d_Mod_fresh_83 rfl (Nat.le_of_ble_eq_true rfl)) ?_
        refine xW_locs (lv' := [(0, .ref x0), (1, .int 0)]) rfl ?_
        refine xW_loop (lvf := fun (z84 : Int32 × HS) => [(0, .ref x0), (1, .int z84.1)]) (hsf := fun (z84 : Int32 × HS) => z84.2) (fun again84 ih84 z84 => ?_) FU (0, z58.2)
        refine xW_pure (fun _ _ _ _ _ => am_aload_n d_Mod_fresh_84 rfl rfl) ?_
        refine xW_gR O f_Mod_363 d_Mod_fresh_85 (fun v13 _ => ?_)
        refine xW_pure (fun _ _ _ _ _ => am_iload_n d_Mod_fresh_88 rfl rfl) ?_
        refine xW_aR O (by decide) d_Mod_fresh_89 (fun v14 _ => ?_)
        refine xW_gI O f_Mod_402 d_Mod_fresh_90 (fun v15 _ => ?_)
        refine xW_ite (fun _ _ _ _ _ => am_if_eq (tgt := 102) d_Mod_fresh_93 (by decide)) (fun _ => ?_) (fun _ => ?_)
        · refine xW_pure (fun _ _ _ _ _ => am_aload_n d_Mod_fresh_102 rfl rfl) ?_
          refine xW_gR O f_Mod_363 d_Mod_fresh_103 (fun v16 _ => ?_)
          refine xW_pure (fun _ _ _ _ _ => am_iload_n d_Mod_fresh_106 rfl rfl) ?_
          refine xW_aR O (by decide) d_Mod_fresh_107 (fun v17 _ => ?_)
          exact xW_ret (fun _ _ _ _ _ => am_aret rfl (Or.inl ⟨_, rfl⟩) d_Mod_fresh_108)
        · refine xW_pure (fun _ _ _ _ _ => am_iinc (v := 1) d_Mod_fresh_96 rfl (by decide) (Nat.le_of_ble_eq_true rfl)) ?_
          refine xW_pure (fun _ _ _ _ _ => am_goto (tgt := 84) d_Mod_fresh_99 (by decide)) ?_
          refine xW_locs (lv' := [(0, .ref x0), (1, .int (z84.1 + 1))]) rfl ?_
          exact ih84 ((z84.1 + 1), z84.2)
      · refine xW_pure (fun _ _ _ _ _ => am_aload_n d_Mod_fresh_66 rfl rfl) ?_
        refine xW_pure (fun _ _ _ _ _ => am_aload_n d_Mod_fresh_67 rfl rfl) ?_
        refine xW_gR O f_Mod_359 d_Mod_fresh_68 (fun v18 _ => ?_)
        refine xW_pure (fun _ _ _ _ _ => am_iload_n d_Mod_fresh_71 rfl rfl) ?_
        refine xW_aR O (by decide) d_Mod_fresh_72 (fun v19 _ => ?_)
        refine xW_callV O (dx_Mod_mark O T) (fun _ e => ob_Mod_mark e) rfl rfl rfl l_Mod_405 ⟨w_2010, w_116⟩ rfl (Nat.le_of_ble_eq_true rfl) d_Mod_fresh_73 (fun v21 s20 _ => ?_)
        refine xW_pure (fun _ _ _ _ _ => am_iinc (v := 1) d_Mod_fresh_76 rfl (by decide) (Nat.le_of_ble_eq_true rfl)) ?_
        refine xW_pure (fun _ _ _ _ _ => am_goto (tgt := 58) d_Mod_fresh_79 (by decide)) ?_
        refine xW_locs (lv' := [(0, .ref x0), (1, .int (z58.1 + 1))]) rfl ?_
        exact ih58 ((z58.1 + 1), s20)
    · refine xW_pure (fun _ _ _ _ _ => am_aload_n d_Mod_fresh_15 rfl rfl) ?_
      refine xW_pure (fun _ _ _ _ _ => am_iload_n d_Mod_fresh_16 rfl rfl) ?_
      refine xW_aR O (by decide) d_Mod_fresh_17 (fun v22 _ => ?_)
      refine xW_pure (fun _ _ _ _ _ => am_astore d_Mod_fresh_18 (Nat.le_of_ble_eq_true rfl)) ?_
      refine xW_pure (fun _ _ _ _ _ => am_aload d_Mod_fresh_20 rfl) ?_
      refine xW_pure (fun _ _ _ _ _ => am_iconst (v := 0) d_Mod_fresh_22 (by decide)) ?_
      refine xW_put O f_Mod_402 d_Mod_fresh_23 (fun q hq => by cases hq; exact ⟨rfl, rfl, rfl⟩) (fun s23 _ => ?_)
      refine xW_pure (fun _ _ _ _ _ => am_iinc (v := 1) d_Mod_fresh_26 rfl (by decide) (Nat.le_of_ble_eq_true rfl)) ?_
      refine xW_pure (fun _ _ _ _ _ => am_goto (tgt := 10) d_Mod_fresh_29 (by decide)) ?_
      refine xW_locs (lv' := [(0, .ref x0), (1, .ref v1), (2, .int v2), (3, .int (z10.1 + 1))]) rfl ?_
      exact ih10 ((z10.1 + 1), s23)

theorem ob_Mod_fresh {d : Nat} {x0 : Nat} {s : HS} {y : Nat × HS} (h : x_Mod_fresh d x0 s = some y) : isO s x0 14 = true := by
  cases d with
  | zero => cases h
  | succ d => exact (gd_spec h).1

set_option maxRecDepth 100000 in
def x_Mod_print_b207 (d : Nat) (l0 : Nat) (t0 : Nat) (t1 : Int32) (s : HS) : Option (Int32 × HS) := bnd (x_Mod_say d t0 t1 s) fun v38 s37 => (bnd (x_Mod_say d l0 10 s37) fun v40 s39 => (if v40 = 0 then (some (9, s39)) else (some ((-1), s39))))

set_option maxRecDepth 100000 in
set_option maxHeartbeats 4000000 in
theorem dx_Mod_print_b207 (O : am_ok K X) (T : am_T K) {d : Nat} {l0 : Nat} {t0 : Nat} {t1 : Int32} {s : HS} : xW cvI K X m_Mod_print (d + 1) 207 [(0, .ref l0)] [.int t1, .ref t0] s (x_Mod_print_b207 d l0 t0 t1 s) := by
  unfold x_Mod_print_b207
  refine xW_callV O (dx_Mod_say O T) (fun _ e => ob_Mod_say e) rfl rfl rfl l_Mod_599 ⟨w_2069, w_127⟩ rfl (Nat.le_of_ble_eq_true rfl) d_Mod_print_207 (fun v38 s37 _ => ?_)
  refine xW_pure (fun _ _ _ _ _ => am_pop d_Mod_print_210 rfl) ?_
  refine xW_pure (fun _ _ _ _ _ => am_aload_n d_Mod_print_211 rfl rfl) ?_
  refine xW_pure (fun _ _ _ _ _ => am_bipush (v := 10) d_Mod_print_212 (by decide)) ?_
  refine xW_callV O (dx_Mod_say O T) (fun _ e => ob_Mod_say e) rfl rfl rfl l_Mod_599 ⟨w_2069, w_127⟩ rfl (Nat.le_of_ble_eq_true rfl) d_Mod_print_214 (fun v40 s39 _ => ?_)
  refine xW_ite (fun _ _ _ _ _ => am_if_eq (tgt := 224) d_Mod_print_217 (by decide)) (fun _ => ?_) (fun _ => ?_)
  · refine xW_pure (fun _ _ _ _ _ => am_bipush (v := 9) d_Mod_print_224 (by decide)) ?_
    exact xW_ret (fun _ _ _ _ _ => am_iret rfl d_Mod_print_226)
  · refine xW_pure (fun _ _ _ _ _ => am_iconst (v := (-1)) d_Mod_print_220 (by decide)) ?_
    refine xW_pure (fun _ _ _ _ _ => am_goto (tgt := 226) d_Mod_print_221 (by decide)) ?_
    exact xW_ret (fun _ _ _ _ _ => am_iret rfl d_Mod_print_226)

set_option maxRecDepth 100000 in
def x_Mod_print (d : Nat) (x0 : Nat) (s : HS) : Option (Int32 × HS) := match d with
  | 0 => none
  | d + 1 => gd s x0 14 ((gI s x0 14 41).bind fun v1 => ((pV s x0 14 41 (.int (v1 - 1))).bind fun s2 => ((gR s2 x0 14 37).bind fun v3 => ((gR s2 v3 11 0).bind fun v4 => ((gI s2 x0 14 41).bind fun v5 => ((aI s2 v4 v5).bind fun v6 => (if v6 = 1 then ((gR s2 x0 14 37).bind fun v7 => ((gR s2 v7 11 2).bind fun v8 => ((gI s2 x0 14 41).bind fun v9 => ((aL s2 v8 v9).bind fun v10 => ((gR s2 x0 14 37).bind fun v11 => ((gR s2 v11 11 2).bind fun v12 => ((gI s2 x0 14 41).bind fun v13 => ((aL s2 v12 v13).bind fun v14 => (if 0 ≤ (lg_cmp v14 0) then (loopK (fun (again71 : Int64 × HS → Option (Int32 × HS)) (z71 : Int64 × HS) => (if z71.1 = 0 then none else (if (lg_cmp ((if 0 < v10 then v10 else -v10) / z71.1) 9) ≤ 0 then (loopK (fun (again97 : Int64 × HS → Option (Int32 × HS)) (z97 : Int64 × HS) => (if (lg_cmp z97.1 0) ≤ 0 then (bnd (x_Mod_say d x0 10 z97.2) fun v16 s15 => (if v16 = 0 then (some (9, s15)) else (some ((-1), s15)))) else (if z97.1 = 0 then none else (bnd (x_Mod_say d x0 ((48 + (((if 0 < v10 then v10 else -v10) / z97.1) - ((if 0 < v10 then v10 else -v10) / z97.1) / 10 * 10)) : Int64).toInt32 z97.2) fun v18 s17 => (again97 ((z97.1 / 10), s17)))))) FU (z71.1, z71.2)) else (again71 ((z71.1 * 10), z71.2))))) FU (1, s2)) else (bnd (x_Mod_say d x0 45 s2) fun v20 s19 => (loopK (fun (again71 : Int64 × HS → Option (Int32 × HS)) (z71 : Int64 × HS) => (if z71.1 = 0 then none else (if (lg_cmp ((if 0 < v10 then v10 else -v10) / z71.1) 9) ≤ 0 then (loopK (fun (again97 : Int64 × HS → Option (Int32 × HS)) (z97 : Int64 × HS) => (if (lg_cmp z97.1 0) ≤ 0 then (bnd (x_Mod_say d x0 10 z97.2) fun v22 s21 => (if v22 = 0 then (some (9, s21)) else (some ((-1), s21)))) else (if z97.1 = 0 then none else (bnd (x_Mod_say d x0 ((48 + (((if 0 < v10 then v10 else -v10) / z97.1) - ((if 0 < v10 then v10 else -v10) / z97.1) / 10 * 10)) : Int64).toInt32 z97.2) fun v24 s23 => (again97 ((z97.1 / 10), s23)))))) FU (z71.1, z71.2)) else (again71 ((z71.1 * 10), z71.2))))) FU (1, s19)))))))))))) else (if v6 = 2 then (loopK (fun (again143 : Int32 × HS → Option (Int32 × HS)) (z143 : Int32 × HS) => ((gR z143.2 x0 14 37).bind fun v25 => ((gR z143.2 v25 11 1).bind fun v26 => ((gI z143.2 x0 14 41).bind fun v27 => ((aI z143.2 v26 v27).bind fun v28 => (if v28 ≤ z143.1 then (bnd (x_Mod_say d x0 10 z143.2) fun v30 s29 => (if v30 = 0 then (some (9, s29)) else (some ((-1), s29)))) else ((gR z143.2 x0 14 37).bind fun v31 => ((gI z143.2 x0 14 41).bind fun v32 => (bnd (x_Vals_sign d v31 v32 z143.1 z143.2) fun v34 s33 => (bnd (x_Mod_say d x0 v34 s33) fun v36 s35 => (again143 ((z143.1 + 1), s35)))))))))))) FU (0, s2)) else (if v6 = 0 then (x_Mod_print_b207 d x0 x0 110 s2) else (if v6 = 3 then (x_Mod_print_b207 d x0 x0 114 s2) else (x_Mod_print_b207 d x0 x0 119 s2)))))))))))

set_option maxRecDepth 100000 in
set_option maxHeartbeats 4000000 in
theorem dx_Mod_print (O : am_ok K X) (T : am_T K) {d : Nat} {x0 : Nat} {s : HS} : xM cvI K X m_Mod_print d [.ref x0] s (x_Mod_print d x0 s) := by
  cases d with
  | zero => exact xM_none
  | succ d =>
    unfold x_Mod_print
    refine xM_enter (by decide +kernel) (Nat.le_of_ble_eq_true rfl) ?_
    refine xW_gd (fun _ => ?_)
    refine xW_pure (fun _ _ _ _ _ => am_aload_n d_Mod_print_0 rfl rfl) ?_
    refine xW_pure (fun _ _ _ _ _ => am_dup d_Mod_print_1 rfl) ?_
    refine xW_gI O f_Mod_486 d_Mod_print_2 (fun v1 _ => ?_)
    refine xW_pure (fun _ _ _ _ _ => am_iconst (v := 1) d_Mod_print_5 (by decide)) ?_
    refine xW_pure (fun _ _ _ _ _ => am_isub d_Mod_print_6) ?_
    refine xW_put O f_Mod_486 d_Mod_print_7 (fun q hq => by cases hq; exact ⟨rfl, rfl, rfl⟩) (fun s2 _ => ?_)
    refine xW_pure (fun _ _ _ _ _ => am_aload_n d_Mod_print_10 rfl rfl) ?_
    refine xW_gR O f_Mod_368 d_Mod_print_11 (fun v3 _ => ?_)
    refine xW_gR O f_Mod_515 d_Mod_print_14 (fun v4 _ => ?_)
    refine xW_pure (fun _ _ _ _ _ => am_aload_n d_Mod_print_17 rfl rfl) ?_
    refine xW_gI O f_Mod_486 d_Mod_print_18 (fun v5 _ => ?_)
    refine xW_aI O d_Mod_print_21 (fun v6 _ => ?_)
    refine xW_pure (fun _ _ _ _ _ => am_istore_n d_Mod_print_22 rfl (Nat.le_of_ble_eq_true rfl)) ?_
    refine xW_pure (fun _ _ _ _ _ => am_iload_n d_Mod_print_23 rfl rfl) ?_
    refine xW_pure (fun _ _ _ _ _ => am_iconst (v := 1) d_Mod_print_24 (by decide)) ?_
    refine xW_ite (fun _ _ _ _ _ k1 k2 => am_icmp_ne (tgt := 136) d_Mod_print_25 (by decide) k2 k1) (fun _ => ?_) (fun _ => ?_)
    · refine xW_pure (fun _ _ _ _ _ => am_aload_n d_Mod_print_28 rfl rfl) ?_
      refine xW_gR O f_Mod_368 d_Mod_print_29 (fun v7 _ => ?_)
      refine xW_gR O f_Mod_508 d_Mod_print_32 (fun v8 _ => ?_)
      refine xW_pure (fun _ _ _ _ _ => am_aload_n d_Mod_print_35 rfl rfl) ?_
      refine xW_gI O f_Mod_486 d_Mod_print_36 (fun v9 _ => ?_)
      refine xW_aL O d_Mod_print_39 (fun v10 _ => ?_)
      refine xW_pure (fun _ _ _ _ _ => am_mabsL w_2066 w_1152 w_164 w_1153 d_Mod_print_40 (Nat.le_of_ble_eq_true rfl) (by omega)) ?_
      refine xW_pure (fun _ _ _ _ _ => am_lstore_n d_Mod_print_43 rfl (Nat.le_of_ble_eq_true rfl)) ?_
      refine xW_pure (fun _ _ _ _ _ => am_lconst (v := 1) d_Mod_print_44 (by decide)) ?_
      refine xW_pure (fun _ _ _ _ _ => am_lstore d_Mod_print_45 (Nat.le_of_ble_eq_true rfl)) ?_
      refine xW_pure (fun _ _ _ _ _ => am_aload_n d_Mod_print_47 rfl rfl) ?_
      refine xW_gR O f_Mod_368 d_Mod_print_48 (fun v11 _ => ?_)
      refine xW_gR O f_Mod_508 d_Mod_print_51 (fun v12 _ => ?_)
      refine xW_pure (fun _ _ _ _ _ => am_aload_n d_Mod_print_54 rfl rfl) ?_
      refine xW_gI O f_Mod_486 d_Mod_print_55 (fun v13 _ => ?_)
      refine xW_aL O d_Mod_print_58 (fun v14 _ => ?_)
      refine xW_pure (fun _ _ _ _ _ => am_lconst (v := 0) d_Mod_print_59 (by decide)) ?_
      refine xW_pure (fun _ _ _ _ _ => am_lcmp d_Mod_print_60) ?_
      refine xW_ite (fun _ _ _ _ _ => am_if_ge (tgt := 71) d_Mod_print_61 (by decide)) (fun _ => ?_) (fun _ => ?_)
      · refine xW_locs (lv' := [(0, .ref x0), (2, .long (if 0 < v10 then v10 else -v10)), (4, .long 1)]) rfl ?_
        refine xW_loop (lvf := fun (z71 : Int64 × HS) => [(0, .ref x0), (2, .long (if 0 < v10 then v10 else -v10)), (4, .long z71.1)]) (hsf := fun (z71 : Int64 × HS) => z71.2) (fun again71 ih71 z71 => ?_) FU (1, s2)
        refine xW_pure (fun _ _ _ _ _ => am_lload_n d_Mod_print_71 rfl rfl) ?_
        refine xW_pure (fun _ _ _ _ _ => am_lload d_Mod_print_72 rfl) ?_
        refine xW_by (fun _ => xW_none) (fun c74 => ?_)
        refine xW_pure (fun _ _ _ _ _ => am_ldiv d_Mod_print_74 c74) ?_
        refine xW_pure (fun _ _ _ _ _ => am_ldc2 (v := 9) w_2071 d_Mod_print_75) ?_
        refine xW_pure (fun _ _ _ _ _ => am_lcmp d_Mod_print_78) ?_
        refine xW_ite (fun _ _ _ _ _ => am_if_le (tgt := 93) d_Mod_print_79 (by decide)) (fun _ => ?_) (fun _ => ?_)
        · refine xW_pure (fun _ _ _ _ _ => am_lload d_Mod_print_93 rfl) ?_
          refine xW_pure (fun _ _ _ _ _ => am_lstore d_Mod_print_95 (Nat.le_of_ble_eq_true rfl)) ?_
          refine xW_locs (lv' := [(0, .ref x0), (2, .long (if 0 < v10 then v10 else -v10)), (6, .long z71.1)]) rfl ?_
          refine xW_loop (lvf := fun (z97 : Int64 × HS) => [(0, .ref x0), (2, .long (if 0 < v10 then v10 else -v10)), (6, .long z97.1)]) (hsf := fun (z97 : Int64 × HS) => z97.2) (fun again97 ih97 z97 => ?_) FU (z71.1, z71.2)
          refine xW_pure (fun _ _ _ _ _ => am_lload d_Mod_print_97 rfl) ?_
          refine xW_pure (fun _ _ _ _ _ => am_lconst (v := 0) d_Mod_print_99 (by decide)) ?_
          refine xW_pure (fun _ _ _ _ _ => am_lcmp d_Mod_print_100) ?_
          refine xW_ite (fun _ _ _ _ _ => am_if_le (tgt := 133) d_Mod_print_101 (by decide)) (fun _ => ?_) (fun _ => ?_)
          · refine xW_pure (fun _ _ _ _ _ => am_goto (tgt := 211) d_Mod_print_133 (by decide)) ?_
            refine xW_pure (fun _ _ _ _ _ => am_aload_n d_Mod_print_211 rfl rfl) ?_
            refine xW_pure (fun _ _ _ _ _ => am_bipush (v := 10) d_Mod_print_212 (by decide)) ?_
            refine xW_callV O (dx_Mod_say O T) (fun _ e => ob_Mod_say e) rfl rfl rfl l_Mod_599 ⟨w_2069, w_127⟩ rfl (Nat.le_of_ble_eq_true rfl) d_Mod_print_214 (fun v16 s15 _ => ?_)
            refine xW_ite (fun _ _ _ _ _ => am_if_eq (tgt := 224) d_Mod_print_217 (by decide)) (fun _ => ?_) (fun _ => ?_)
            · refine xW_pure (fun _ _ _ _ _ => am_bipush (v := 9) d_Mod_print_224 (by decide)) ?_
              exact xW_ret (fun _ _ _ _ _ => am_iret rfl d_Mod_print_226)
            · refine xW_pure (fun _ _ _ _ _ => am_iconst (v := (-1)) d_Mod_print_220 (by decide)) ?_
              refine xW_pure (fun _ _ _ _ _ => am_goto (tgt := 226) d_Mod_print_221 (by decide)) ?_
              exact xW_ret (fun _ _ _ _ _ => am_iret rfl d_Mod_print_226)
          · refine xW_pure (fun _ _ _ _ _ => am_aload_n d_Mod_print_104 rfl rfl) ?_
            refine xW_pure (fun _ _ _ _ _ => am_ldc2 (v := 48) w_1825 d_Mod_print_105) ?_
            refine xW_pure (fun _ _ _ _ _ => am_lload_n d_Mod_print_108 rfl rfl) ?_
            refine xW_pure (fun _ _ _ _ _ => am_lload d_Mod_print_109 rfl) ?_
            refine xW_by (fun _ => xW_none) (fun c111 => ?_)
            refine xW_pure (fun _ _ _ _ _ => am_ldiv d_Mod_print_111 c111) ?_
            refine xW_pure (fun _ _ _ _ _ => am_ldc2 (v := 10) w_1824 d_Mod_print_112) ?_
            refine xW_pure (fun _ _ _ _ _ => am_lrem d_Mod_print_115 (by decide)) ?_
            refine xW_pure (fun _ _ _ _ _ => am_ladd d_Mod_print_116) ?_
            refine xW_pure (fun _ _ _ _ _ => am_l2i d_Mod_print_117 rfl) ?_
            refine xW_callV O (dx_Mod_say O T) (fun _ e => ob_Mod_say e) rfl rfl rfl l_Mod_599 ⟨w_2069, w_127⟩ rfl (Nat.le_of_ble_eq_true rfl) d_Mod_print_118 (fun v18 s17 _ => ?_)
            refine xW_pure (fun _ _ _ _ _ => am_pop d_Mod_print_121 rfl) ?_
            refine xW_pure (fun _ _ _ _ _ => am_lload d_Mod_print_122 rfl) ?_
            refine xW_pure (fun _ _ _ _ _ => am_ldc2 (v := 10) w_1824 d_Mod_print_124) ?_
            refine xW_pure (fun _ _ _ _ _ => am_ldiv d_Mod_print_127 (by decide)) ?_
            refine xW_pure (fun _ _ _ _ _ => am_lstore d_Mod_print_128 (Nat.le_of_ble_eq_true rfl)) ?_
            refine xW_pure (fun _ _ _ _ _ => am_goto (tgt := 97) d_Mod_print_130 (by decide)) ?_
            refine xW_locs (lv' := [(0, .ref x0), (2, .long (if 0 < v10 then v10 else -v10)), (6, .long (z97.1 / 10))]) rfl ?_
            exact ih97 ((z97.1 / 10), s17)
        · refine xW_pure (fun _ _ _ _ _ => am_lload d_Mod_print_82 rfl) ?_
          refine xW_pure (fun _ _ _ _ _ => am_ldc2 (v := 10) w_1824 d_Mod_print_84) ?_
          refine xW_pure (fun _ _ _ _ _ => am_lmul d_Mod_print_87) ?_
          refine xW_pure (fun _ _ _ _ _ => am_lstore d_Mod_print_88 (Nat.le_of_ble_eq_true rfl)) ?_
          refine xW_pure (fun _ _ _ _ _ => am_goto (tgt := 71) d_Mod_print_90 (by decide)) ?_
          refine xW_locs (lv' := [(0, .ref x0), (2, .long (if 0 < v10 then v10 else -v10)), (4, .long (z71.1 * 10))]) rfl ?_
          exact ih71 ((z71.1 * 10), z71.2)
      · refine xW_pure (fun _ _ _ _ _ => am_aload_n d_Mod_print_64 rfl rfl) ?_
        refine xW_pure (fun _ _ _ _ _ => am_bipush (v := 45) d_Mod_print_65 (by decide)) ?_
        refine xW_callV O (dx_Mod_say O T) (fun _ e => ob_Mod_say e) rfl rfl rfl l_Mod_599 ⟨w_2069, w_127⟩ rfl (Nat.le_of_ble_eq_true rfl) d_Mod_print_67 (fun v20 s19 _ => ?_)
        refine xW_pure (fun _ _ _ _ _ => am_pop d_Mod_print_70 rfl) ?_
        refine xW_locs (lv' := [(0, .ref x0), (2, .long (if 0 < v10 then v10 else -v10)), (4, .long 1)]) rfl ?_
        refine xW_loop (lvf := fun (z71 : Int64 × HS) => [(0, .ref x0), (2, .long (if 0 < v10 then v10 else -v10)), (4, .long z71.1)]) (hsf := fun (z71 : Int64 × HS) => z71.2) (fun again71 ih71 z71 => ?_) FU (1, s19)
        refine xW_pure (fun _ _ _ _ _ => am_lload_n d_Mod_print_71 rfl rfl) ?_
        refine xW_pure (fun _ _ _ _ _ => am_lload d_Mod_print_72 rfl) ?_
        refine xW_by (fun _ => xW_none) (fun c74 => ?_)
        refine xW_pure (fun _ _ _ _ _ => am_ldiv d_Mod_print_74 c74) ?_
        refine xW_pure (fun _ _ _ _ _ => am_ldc2 (v := 9) w_2071 d_Mod_print_75) ?_
        refine xW_pure (fun _ _ _ _ _ => am_lcmp d_Mod_print_78) ?_
        refine xW_ite (fun _ _ _ _ _ => am_if_le (tgt := 93) d_Mod_print_79 (by decide)) (fun _ => ?_) (fun _ => ?_)
        · refine xW_pure (fun _ _ _ _ _ => am_lload d_Mod_print_93 rfl) ?_
          refine xW_pure (fun _ _ _ _ _ => am_lstore d_Mod_print_95 (Nat.le_of_ble_eq_true rfl)) ?_
          refine xW_locs (lv' := [(0, .ref x0), (2, .long (if 0 < v10 then v10 else -v10)), (6, .long z71.1)]) rfl ?_
          refine xW_loop (lvf := fun (z97 : Int64 × HS) => [(0, .ref x0), (2, .long (if 0 < v10 then v10 else -v10)), (6, .long z97.1)]) (hsf := fun (z97 : Int64 × HS) => z97.2) (fun again97 ih97 z97 => ?_) FU (z71.1, z71.2)
          refine xW_pure (fun _ _ _ _ _ => am_lload d_Mod_print_97 rfl) ?_
          refine xW_pure (fun _ _ _ _ _ => am_lconst (v := 0) d_Mod_print_99 (by decide)) ?_
          refine xW_pure (fun _ _ _ _ _ => am_lcmp d_Mod_print_100) ?_
          refine xW_ite (fun _ _ _ _ _ => am_if_le (tgt := 133) d_Mod_print_101 (by decide)) (fun _ => ?_) (fun _ => ?_)
          · refine xW_pure (fun _ _ _ _ _ => am_goto (tgt := 211) d_Mod_print_133 (by decide)) ?_
            refine xW_pure (fun _ _ _ _ _ => am_aload_n d_Mod_print_211 rfl rfl) ?_
            refine xW_pure (fun _ _ _ _ _ => am_bipush (v := 10) d_Mod_print_212 (by decide)) ?_
            refine xW_callV O (dx_Mod_say O T) (fun _ e => ob_Mod_say e) rfl rfl rfl l_Mod_599 ⟨w_2069, w_127⟩ rfl (Nat.le_of_ble_eq_true rfl) d_Mod_print_214 (fun v22 s21 _ => ?_)
            refine xW_ite (fun _ _ _ _ _ => am_if_eq (tgt := 224) d_Mod_print_217 (by decide)) (fun _ => ?_) (fun _ => ?_)
            · refine xW_pure (fun _ _ _ _ _ => am_bipush (v := 9) d_Mod_print_224 (by decide)) ?_
              exact xW_ret (fun _ _ _ _ _ => am_iret rfl d_Mod_print_226)
            · refine xW_pure (fun _ _ _ _ _ => am_iconst (v := (-1)) d_Mod_print_220 (by decide)) ?_
              refine xW_pure (fun _ _ _ _ _ => am_goto (tgt := 226) d_Mod_print_221 (by decide)) ?_
              exact xW_ret (fun _ _ _ _ _ => am_iret rfl d_Mod_print_226)
          · refine xW_pure (fun _ _ _ _ _ => am_aload_n d_Mod_print_104 rfl rfl) ?_
            refine xW_pure (fun _ _ _ _ _ => am_ldc2 (v := 48) w_1825 d_Mod_print_105) ?_
            refine xW_pure (fun _ _ _ _ _ => am_lload_n d_Mod_print_108 rfl rfl) ?_
            refine xW_pure (fun _ _ _ _ _ => am_lload d_Mod_print_109 rfl) ?_
            refine xW_by (fun _ => xW_none) (fun c111 => ?_)
            refine xW_pure (fun _ _ _ _ _ => am_ldiv d_Mod_print_111 c111) ?_
            refine xW_pure (fun _ _ _ _ _ => am_ldc2 (v := 10) w_1824 d_Mod_print_112) ?_
            refine xW_pure (fun _ _ _ _ _ => am_lrem d_Mod_print_115 (by decide)) ?_
            refine xW_pure (fun _ _ _ _ _ => am_ladd d_Mod_print_116) ?_
            refine xW_pure (fun _ _ _ _ _ => am_l2i d_Mod_print_117 rfl) ?_
            refine xW_callV O (dx_Mod_say O T) (fun _ e => ob_Mod_say e) rfl rfl rfl l_Mod_599 ⟨w_2069, w_127⟩ rfl (Nat.le_of_ble_eq_true rfl) d_Mod_print_118 (fun v24 s23 _ => ?_)
            refine xW_pure (fun _ _ _ _ _ => am_pop d_Mod_print_121 rfl) ?_
            refine xW_pure (fun _ _ _ _ _ => am_lload d_Mod_print_122 rfl) ?_
            refine xW_pure (fun _ _ _ _ _ => am_ldc2 (v := 10) w_1824 d_Mod_print_124) ?_
            refine xW_pure (fun _ _ _ _ _ => am_ldiv d_Mod_print_127 (by decide)) ?_
            refine xW_pure (fun _ _ _ _ _ => am_lstore d_Mod_print_128 (Nat.le_of_ble_eq_true rfl)) ?_
            refine xW_pure (fun _ _ _ _ _ => am_goto (tgt := 97) d_Mod_print_130 (by decide)) ?_
            refine xW_locs (lv' := [(0, .ref x0), (2, .long (if 0 < v10 then v10 else -v10)), (6, .long (z97.1 / 10))]) rfl ?_
            exact ih97 ((z97.1 / 10), s23)
        · refine xW_pure (fun _ _ _ _ _ => am_lload d_Mod_print_82 rfl) ?_
          refine xW_pure (fun _ _ _ _ _ => am_ldc2 (v := 10) w_1824 d_Mod_print_84) ?_
          refine xW_pure (fun _ _ _ _ _ => am_lmul d_Mod_print_87) ?_
          refine xW_pure (fun _ _ _ _ _ => am_lstore d_Mod_print_88 (Nat.le_of_ble_eq_true rfl)) ?_
          refine xW_pure (fun _ _ _ _ _ => am_goto (tgt := 71) d_Mod_print_90 (by decide)) ?_
          refine xW_locs (lv' := [(0, .ref x0), (2, .long (if 0 < v10 then v10 else -v10)), (4, .long (z71.1 * 10))]) rfl ?_
          exact ih71 ((z71.1 * 10), z71.2)
    · refine xW_pure (fun _ _ _ _ _ => am_iload_n d_Mod_print_136 rfl rfl) ?_
      refine xW_pure (fun _ _ _ _ _ => am_iconst (v := 2) d_Mod_print_137 (by decide)) ?_
      refine xW_ite (fun _ _ _ _ _ k1 k2 => am_icmp_ne (tgt := 185) d_Mod_print_138 (by decide) k2 k1) (fun _ => ?_) (fun _ => ?_)
      · refine xW_pure (fun _ _ _ _ _ => am_iconst (v := 0) d_Mod_print_141 (by decide)) ?_
        refine xW_pure (fun _ _ _ _ _ => am_istore_n d_Mod_print_142 rfl (Nat.le_of_ble_eq_true rfl)) ?_
        refine xW_locs (lv' := [(0, .ref x0), (2, .int 0)]) rfl ?_
        refine xW_loop (lvf := fun (z143 : Int32 × HS) => [(0, .ref x0), (2, .int z143.1)]) (hsf := fun (z143 : Int32 × HS) => z143.2) (fun again143 ih143 z143 => ?_) FU (0, s2)
        refine xW_pure (fun _ _ _ _ _ => am_iload_n d_Mod_print_143 rfl rfl) ?_
        refine xW_pure (fun _ _ _ _ _ => am_aload_n d_Mod_print_144 rfl rfl) ?_
        refine xW_gR O f_Mod_368 d_Mod_print_145 (fun v25 _ => ?_)
        refine xW_gR O f_Mod_565 d_Mod_print_148 (fun v26 _ => ?_)
        refine xW_pure (fun _ _ _ _ _ => am_aload_n d_Mod_print_151 rfl rfl) ?_
        refine xW_gI O f_Mod_486 d_Mod_print_152 (fun v27 _ => ?_)
        refine xW_aI O d_Mod_print_155 (fun v28 _ => ?_)
        refine xW_ite (fun _ _ _ _ _ => am_icmp_ge (tgt := 182) d_Mod_print_156 (by decide)) (fun _ => ?_) (fun _ => ?_)
        · refine xW_pure (fun _ _ _ _ _ => am_goto (tgt := 211) d_Mod_print_182 (by decide)) ?_
          refine xW_pure (fun _ _ _ _ _ => am_aload_n d_Mod_print_211 rfl rfl) ?_
          refine xW_pure (fun _ _ _ _ _ => am_bipush (v := 10) d_Mod_print_212 (by decide)) ?_
          refine xW_callV O (dx_Mod_say O T) (fun _ e => ob_Mod_say e) rfl rfl rfl l_Mod_599 ⟨w_2069, w_127⟩ rfl (Nat.le_of_ble_eq_true rfl) d_Mod_print_214 (fun v30 s29 _ => ?_)
          refine xW_ite (fun _ _ _ _ _ => am_if_eq (tgt := 224) d_Mod_print_217 (by decide)) (fun _ => ?_) (fun _ => ?_)
          · refine xW_pure (fun _ _ _ _ _ => am_bipush (v := 9) d_Mod_print_224 (by decide)) ?_
            exact xW_ret (fun _ _ _ _ _ => am_iret rfl d_Mod_print_226)
          · refine xW_pure (fun _ _ _ _ _ => am_iconst (v := (-1)) d_Mod_print_220 (by decide)) ?_
            refine xW_pure (fun _ _ _ _ _ => am_goto (tgt := 226) d_Mod_print_221 (by decide)) ?_
            exact xW_ret (fun _ _ _ _ _ => am_iret rfl d_Mod_print_226)
        · refine xW_pure (fun _ _ _ _ _ => am_aload_n d_Mod_print_159 rfl rfl) ?_
          refine xW_pure (fun _ _ _ _ _ => am_aload_n d_Mod_print_160 rfl rfl) ?_
          refine xW_gR O f_Mod_368 d_Mod_print_161 (fun v31 _ => ?_)
          refine xW_pure (fun _ _ _ _ _ => am_aload_n d_Mod_print_164 rfl rfl) ?_
          refine xW_gI O f_Mod_486 d_Mod_print_165 (fun v32 _ => ?_)
          refine xW_pure (fun _ _ _ _ _ => am_iload_n d_Mod_print_168 rfl rfl) ?_
          refine xW_callV O (dx_Vals_sign O T) (fun _ e => ob_Vals_sign e) rfl rfl rfl l_Mod_574 ⟨w_2073, w_2074⟩ rfl (Nat.le_of_ble_eq_true rfl) d_Mod_print_169 (fun v34 s33 _ => ?_)
          refine xW_callV O (dx_Mod_say O T) (fun _ e => ob_Mod_say e) rfl rfl rfl l_Mod_599 ⟨w_2069, w_127⟩ rfl (Nat.le_of_ble_eq_true rfl) d_Mod_print_172 (fun v36 s35 _ => ?_)
          refine xW_pure (fun _ _ _ _ _ => am_pop d_Mod_print_175 rfl) ?_
          refine xW_pure (fun _ _ _ _ _ => am_iinc (v := 1) d_Mod_print_176 rfl (by decide) (Nat.le_of_ble_eq_true rfl)) ?_
          refine xW_pure (fun _ _ _ _ _ => am_goto (tgt := 143) d_Mod_print_179 (by decide)) ?_
          refine xW_locs (lv' := [(0, .ref x0), (2, .int (z143.1 + 1))]) rfl ?_
          exact ih143 ((z143.1 + 1), s35)
      · refine xW_pure (fun _ _ _ _ _ => am_aload_n d_Mod_print_185 rfl rfl) ?_
        refine xW_pure (fun _ _ _ _ _ => am_iload_n d_Mod_print_186 rfl rfl) ?_
        refine xW_ite (fun _ _ _ _ _ k1 k2 => am_if_ne (tgt := 195) d_Mod_print_187 (by decide) k2 k1) (fun _ => ?_) (fun _ => ?_)
        · refine xW_pure (fun _ _ _ _ _ => am_bipush (v := 110) d_Mod_print_190 (by decide)) ?_
          refine xW_pure (fun _ _ _ _ _ => am_goto (tgt := 207) d_Mod_print_192 (by decide)) ?_
          refine xW_locs (lv' := [(0, .ref x0)]) rfl ?_
          exact dx_Mod_print_b207 O T
        · refine xW_pure (fun _ _ _ _ _ => am_iload_n d_Mod_print_195 rfl rfl) ?_
          refine xW_pure (fun _ _ _ _ _ => am_iconst (v := 3) d_Mod_print_196 (by decide)) ?_
          refine xW_ite (fun _ _ _ _ _ k1 k2 => am_icmp_ne (tgt := 205) d_Mod_print_197 (by decide) k2 k1) (fun _ => ?_) (fun _ => ?_)
          · refine xW_pure (fun _ _ _ _ _ => am_bipush (v := 114) d_Mod_print_200 (by decide)) ?_
            refine xW_pure (fun _ _ _ _ _ => am_goto (tgt := 207) d_Mod_print_202 (by decide)) ?_
            refine xW_locs (lv' := [(0, .ref x0)]) rfl ?_
            exact dx_Mod_print_b207 O T
          · refine xW_pure (fun _ _ _ _ _ => am_bipush (v := 119) d_Mod_print_205 (by decide)) ?_
            refine xW_locs (lv' := [(0, .ref x0)]) rfl ?_
            exact dx_Mod_print_b207 O T

theorem ob_Mod_print {d : Nat} {x0 : Nat} {s : HS} {y : Int32 × HS} (h : x_Mod_print d x0 s = some y) : isO s x0 14 = true := by
  cases d with
  | zero => cases h
  | succ d => exact (gd_spec h).1

set_option maxRecDepth 100000 in
def x_Mod_parts_b230 (d : Nat) (l0 : Nat) (l1 : Int32) (l2 : Int32) (t0 : Nat) (t1 : Int32) (t2 : Int32) (t3 : Int32) (s : HS) : Option (Int32 × HS) := bnd (x_Mod_placeOf d t0 t1 t2 t3 s) fun v46 s45 => (if 0 ≤ v46 then (if l1 = 8 then ((gI s45 l0 14 41).bind fun v47 => ((pV s45 l0 14 41 (.int (v47 - 3))).bind fun s48 => ((gR s48 l0 14 31).bind fun v49 => ((gR s48 v49 13 5).bind fun v50 => ((gR s48 l0 14 37).bind fun v51 => ((gR s48 v51 11 2).bind fun v52 => ((aL s48 v52 l2).bind fun v53 => ((gR s48 l0 14 37).bind fun v54 => (bnd (x_Vals_copy d v50 ((20 * (v53 : Int64).toInt32) + v46) v54 (l2 + 2) s48) fun v56 s55 => (some ((-1), s55))))))))))) else ((gI s45 l0 14 41).bind fun v57 => ((pV s45 l0 14 41 (.int (v57 - 1))).bind fun s58 => ((gR s58 l0 14 37).bind fun v59 => ((gR s58 v59 11 0).bind fun v60 => ((aI s58 v60 l2).bind fun v61 => (if v61 = 4 then ((gR s58 l0 14 37).bind fun v62 => ((gR s58 l0 14 31).bind fun v63 => ((gR s58 v63 13 5).bind fun v64 => ((gR s58 l0 14 37).bind fun v65 => ((gR s58 v65 11 2).bind fun v66 => ((aL s58 v66 l2).bind fun v67 => (bnd (x_Vals_copy d v62 l2 v64 ((20 * (v67 : Int64).toInt32) + v46) s58) fun v69 s68 => (some ((-1), s68))))))))) else ((gR s58 l0 14 37).bind fun v70 => (bnd (x_Vals_sign d v70 l2 v46 s58) fun v72 s71 => ((gR s71 l0 14 37).bind fun v73 => (bnd (x_Vals_set d v73 l2 2 0 0 0 s71) fun v75 s74 => ((gR s74 l0 14 37).bind fun v76 => (bnd (x_Vals_add d v76 l2 v72 s74) fun v78 s77 => (some ((-1), s77))))))))))))))) else (some (((-1) - v46), s45)))

set_option maxRecDepth 100000 in
set_option maxHeartbeats 4000000 in
theorem dx_Mod_parts_b230 (O : am_ok K X) (T : am_T K) {d : Nat} {l0 : Nat} {l1 : Int32} {l2 : Int32} {t0 : Nat} {t1 : Int32} {t2 : Int32} {t3 : Int32} {s : HS} : xW cvI K X m_Mod_parts (d + 1) 230 [(0, .ref l0), (1, .int l1), (2, .int l2)] [.int t3, .int t2, .int t1, .ref t0] s (x_Mod_parts_b230 d l0 l1 l2 t0 t1 t2 t3 s) := by
  unfold x_Mod_parts_b230
  refine xW_callV O (dx_Mod_placeOf O T) (fun _ e => ob_Mod_placeOf e) rfl rfl rfl l_Mod_570 ⟨w_2102, w_133⟩ rfl (Nat.le_of_ble_eq_true rfl) d_Mod_parts_230 (fun v46 s45 _ => ?_)
  refine xW_pure (fun _ _ _ _ _ => am_istore_n d_Mod_parts_233 rfl (Nat.le_of_ble_eq_true rfl)) ?_
  refine xW_pure (fun _ _ _ _ _ => am_iload_n d_Mod_parts_234 rfl rfl) ?_
  refine xW_ite (fun _ _ _ _ _ => am_if_ge (tgt := 242) d_Mod_parts_235 (by decide)) (fun _ => ?_) (fun _ => ?_)
  · refine xW_pure (fun _ _ _ _ _ => am_iload_n d_Mod_parts_242 rfl rfl) ?_
    refine xW_pure (fun _ _ _ _ _ => am_bipush (v := 8) d_Mod_parts_243 (by decide)) ?_
    refine xW_ite (fun _ _ _ _ _ k1 k2 => am_icmp_ne (tgt := 292) d_Mod_parts_245 (by decide) k2 k1) (fun _ => ?_) (fun _ => ?_)
    · refine xW_pure (fun _ _ _ _ _ => am_aload_n d_Mod_parts_248 rfl rfl) ?_
      refine xW_pure (fun _ _ _ _ _ => am_dup d_Mod_parts_249 rfl) ?_
      refine xW_gI O f_Mod_486 d_Mod_parts_250 (fun v47 _ => ?_)
      refine xW_pure (fun _ _ _ _ _ => am_iconst (v := 3) d_Mod_parts_253 (by decide)) ?_
      refine xW_pure (fun _ _ _ _ _ => am_isub d_Mod_parts_254) ?_
      refine xW_put O f_Mod_486 d_Mod_parts_255 (fun q hq => by cases hq; exact ⟨rfl, rfl, rfl⟩) (fun s48 _ => ?_)
      refine xW_pure (fun _ _ _ _ _ => am_aload_n d_Mod_parts_258 rfl rfl) ?_
      refine xW_gR O f_Mod_353 d_Mod_parts_259 (fun v49 _ => ?_)
      refine xW_gR O f_Mod_562 d_Mod_parts_262 (fun v50 _ => ?_)
      refine xW_pure (fun _ _ _ _ _ => am_bipush (v := 20) d_Mod_parts_265 (by decide)) ?_
      refine xW_pure (fun _ _ _ _ _ => am_aload_n d_Mod_parts_267 rfl rfl) ?_
      refine xW_gR O f_Mod_368 d_Mod_parts_268 (fun v51 _ => ?_)
      refine xW_gR O f_Mod_508 d_Mod_parts_271 (fun v52 _ => ?_)
      refine xW_pure (fun _ _ _ _ _ => am_iload_n d_Mod_parts_274 rfl rfl) ?_
      refine xW_aL O d_Mod_parts_275 (fun v53 _ => ?_)
      refine xW_pure (fun _ _ _ _ _ => am_l2i d_Mod_parts_276 rfl) ?_
      refine xW_pure (fun _ _ _ _ _ => am_imul d_Mod_parts_277) ?_
      refine xW_pure (fun _ _ _ _ _ => am_iload_n d_Mod_parts_278 rfl rfl) ?_
      refine xW_pure (fun _ _ _ _ _ => am_iadd d_Mod_parts_279) ?_
      refine xW_pure (fun _ _ _ _ _ => am_aload_n d_Mod_parts_280 rfl rfl) ?_
      refine xW_gR O f_Mod_368 d_Mod_parts_281 (fun v54 _ => ?_)
      refine xW_pure (fun _ _ _ _ _ => am_iload_n d_Mod_parts_284 rfl rfl) ?_
      refine xW_pure (fun _ _ _ _ _ => am_iconst (v := 2) d_Mod_parts_285 (by decide)) ?_
      refine xW_pure (fun _ _ _ _ _ => am_iadd d_Mod_parts_286) ?_
      refine xW_callV O (dx_Vals_copy O T) (fun _ e => ob_Vals_copy e) rfl rfl rfl l_Mod_505 ⟨w_1992, w_1993⟩ rfl (Nat.le_of_ble_eq_true rfl) d_Mod_parts_287 (fun v56 s55 _ => ?_)
      refine xW_pure (fun _ _ _ _ _ => am_iconst (v := (-1)) d_Mod_parts_290 (by decide)) ?_
      exact xW_ret (fun _ _ _ _ _ => am_iret rfl d_Mod_parts_291)
    · refine xW_pure (fun _ _ _ _ _ => am_aload_n d_Mod_parts_292 rfl rfl) ?_
      refine xW_pure (fun _ _ _ _ _ => am_dup d_Mod_parts_293 rfl) ?_
      refine xW_gI O f_Mod_486 d_Mod_parts_294 (fun v57 _ => ?_)
      refine xW_pure (fun _ _ _ _ _ => am_iconst (v := 1) d_Mod_parts_297 (by decide)) ?_
      refine xW_pure (fun _ _ _ _ _ => am_isub d_Mod_parts_298) ?_
      refine xW_put O f_Mod_486 d_Mod_parts_299 (fun q hq => by cases hq; exact ⟨rfl, rfl, rfl⟩) (fun s58 _ => ?_)
      refine xW_pure (fun _ _ _ _ _ => am_aload_n d_Mod_parts_302 rfl rfl) ?_
      refine xW_gR O f_Mod_368 d_Mod_parts_303 (fun v59 _ => ?_)
      refine xW_gR O f_Mod_515 d_Mod_parts_306 (fun v60 _ => ?_)
      refine xW_pure (fun _ _ _ _ _ => am_iload_n d_Mod_parts_309 rfl rfl) ?_
      refine xW_aI O d_Mod_parts_310 (fun v61 _ => ?_)
      refine xW_pure (fun _ _ _ _ _ => am_iconst (v := 4) d_Mod_parts_311 (by decide)) ?_
      refine xW_ite (fun _ _ _ _ _ k1 k2 => am_icmp_ne (tgt := 348) d_Mod_parts_312 (by decide) k2 k1) (fun _ => ?_) (fun _ => ?_)
      · refine xW_pure (fun _ _ _ _ _ => am_aload_n d_Mod_parts_315 rfl rfl) ?_
        refine xW_gR O f_Mod_368 d_Mod_parts_316 (fun v62 _ => ?_)
        refine xW_pure (fun _ _ _ _ _ => am_iload_n d_Mod_parts_319 rfl rfl) ?_
        refine xW_pure (fun _ _ _ _ _ => am_aload_n d_Mod_parts_320 rfl rfl) ?_
        refine xW_gR O f_Mod_353 d_Mod_parts_321 (fun v63 _ => ?_)
        refine xW_gR O f_Mod_562 d_Mod_parts_324 (fun v64 _ => ?_)
        refine xW_pure (fun _ _ _ _ _ => am_bipush (v := 20) d_Mod_parts_327 (by decide)) ?_
        refine xW_pure (fun _ _ _ _ _ => am_aload_n d_Mod_parts_329 rfl rfl) ?_
        refine xW_gR O f_Mod_368 d_Mod_parts_330 (fun v65 _ => ?_)
        refine xW_gR O f_Mod_508 d_Mod_parts_333 (fun v66 _ => ?_)
        refine xW_pure (fun _ _ _ _ _ => am_iload_n d_Mod_parts_336 rfl rfl) ?_
        refine xW_aL O d_Mod_parts_337 (fun v67 _ => ?_)
        refine xW_pure (fun _ _ _ _ _ => am_l2i d_Mod_parts_338 rfl) ?_
        refine xW_pure (fun _ _ _ _ _ => am_imul d_Mod_parts_339) ?_
        refine xW_pure (fun _ _ _ _ _ => am_iload_n d_Mod_parts_340 rfl rfl) ?_
        refine xW_pure (fun _ _ _ _ _ => am_iadd d_Mod_parts_341) ?_
        refine xW_callV O (dx_Vals_copy O T) (fun _ e => ob_Vals_copy e) rfl rfl rfl l_Mod_505 ⟨w_1992, w_1993⟩ rfl (Nat.le_of_ble_eq_true rfl) d_Mod_parts_342 (fun v69 s68 _ => ?_)
        refine xW_pure (fun _ _ _ _ _ => am_goto (tgt := 381) d_Mod_parts_345 (by decide)) ?_
        refine xW_pure (fun _ _ _ _ _ => am_iconst (v := (-1)) d_Mod_parts_381 (by decide)) ?_
        exact xW_ret (fun _ _ _ _ _ => am_iret rfl d_Mod_parts_382)
      · refine xW_pure (fun _ _ _ _ _ => am_aload_n d_Mod_parts_348 rfl rfl) ?_
        refine xW_gR O f_Mod_368 d_Mod_parts_349 (fun v70 _ => ?_)
        refine xW_pure (fun _ _ _ _ _ => am_iload_n d_Mod_parts_352 rfl rfl) ?_
        refine xW_pure (fun _ _ _ _ _ => am_iload_n d_Mod_parts_353 rfl rfl) ?_
        refine xW_callV O (dx_Vals_sign O T) (fun _ e => ob_Vals_sign e) rfl rfl rfl l_Mod_574 ⟨w_2073, w_2074⟩ rfl (Nat.le_of_ble_eq_true rfl) d_Mod_parts_354 (fun v72 s71 _ => ?_)
        refine xW_pure (fun _ _ _ _ _ => am_istore d_Mod_parts_357 (Nat.le_of_ble_eq_true rfl)) ?_
        refine xW_pure (fun _ _ _ _ _ => am_aload_n d_Mod_parts_359 rfl rfl) ?_
        refine xW_gR O f_Mod_368 d_Mod_parts_360 (fun v73 _ => ?_)
        refine xW_pure (fun _ _ _ _ _ => am_iload_n d_Mod_parts_363 rfl rfl) ?_
        refine xW_pure (fun _ _ _ _ _ => am_iconst (v := 2) d_Mod_parts_364 (by decide)) ?_
        refine xW_pure (fun _ _ _ _ _ => am_iconst (v := 0) d_Mod_parts_365 (by decide)) ?_
        refine xW_pure (fun _ _ _ _ _ => am_lconst (v := 0) d_Mod_parts_366 (by decide)) ?_
        refine xW_pure (fun _ _ _ _ _ => am_lconst (v := 0) d_Mod_parts_367 (by decide)) ?_
        refine xW_callV O (dx_Vals_set O T) (fun _ e => ob_Vals_set e) rfl rfl rfl l_Mod_114 ⟨w_1914, w_1915⟩ rfl (Nat.le_of_ble_eq_true rfl) d_Mod_parts_368 (fun v75 s74 _ => ?_)
        refine xW_pure (fun _ _ _ _ _ => am_aload_n d_Mod_parts_371 rfl rfl) ?_
        refine xW_gR O f_Mod_368 d_Mod_parts_372 (fun v76 _ => ?_)
        refine xW_pure (fun _ _ _ _ _ => am_iload_n d_Mod_parts_375 rfl rfl) ?_
        refine xW_pure (fun _ _ _ _ _ => am_iload d_Mod_parts_376 rfl) ?_
        refine xW_callV O (dx_Vals_add O T) (fun _ e => ob_Vals_add e) rfl rfl rfl l_Mod_308 ⟨w_1922, w_1923⟩ rfl (Nat.le_of_ble_eq_true rfl) d_Mod_parts_378 (fun v78 s77 _ => ?_)
        refine xW_pure (fun _ _ _ _ _ => am_iconst (v := (-1)) d_Mod_parts_381 (by decide)) ?_
        exact xW_ret (fun _ _ _ _ _ => am_iret rfl d_Mod_parts_382)
  · refine xW_pure (fun _ _ _ _ _ => am_iconst (v := (-1)) d_Mod_parts_238 (by decide)) ?_
    refine xW_pure (fun _ _ _ _ _ => am_iload_n d_Mod_parts_239 rfl rfl) ?_
    refine xW_pure (fun _ _ _ _ _ => am_isub d_Mod_parts_240) ?_
    exact xW_ret (fun _ _ _ _ _ => am_iret rfl d_Mod_parts_241)

set_option maxRecDepth 100000 in
def x_Mod_parts_b213 (d : Nat) (l0 : Nat) (l1 : Int32) (t0 : Int32) (s : HS) : Option (Int32 × HS) := if l1 = 7 then (x_Mod_parts_b230 d l0 l1 t0 l0 t0 (t0 + 1) 1 s) else (x_Mod_parts_b230 d l0 l1 t0 l0 t0 (t0 + 1) 0 s)

set_option maxRecDepth 100000 in
set_option maxHeartbeats 4000000 in
theorem dx_Mod_parts_b213 (O : am_ok K X) (T : am_T K) {d : Nat} {l0 : Nat} {l1 : Int32} {t0 : Int32} {s : HS} : xW cvI K X m_Mod_parts (d + 1) 213 [(0, .ref l0), (1, .int l1)] [.int t0] s (x_Mod_parts_b213 d l0 l1 t0 s) := by
  unfold x_Mod_parts_b213
  refine xW_pure (fun _ _ _ _ _ => am_istore_n d_Mod_parts_213 rfl (Nat.le_of_ble_eq_true rfl)) ?_
  refine xW_pure (fun _ _ _ _ _ => am_aload_n d_Mod_parts_214 rfl rfl) ?_
  refine xW_pure (fun _ _ _ _ _ => am_iload_n d_Mod_parts_215 rfl rfl) ?_
  refine xW_pure (fun _ _ _ _ _ => am_iload_n d_Mod_parts_216 rfl rfl) ?_
  refine xW_pure (fun _ _ _ _ _ => am_iconst (v := 1) d_Mod_parts_217 (by decide)) ?_
  refine xW_pure (fun _ _ _ _ _ => am_iadd d_Mod_parts_218) ?_
  refine xW_pure (fun _ _ _ _ _ => am_iload_n d_Mod_parts_219 rfl rfl) ?_
  refine xW_pure (fun _ _ _ _ _ => am_bipush (v := 7) d_Mod_parts_220 (by decide)) ?_
  refine xW_ite (fun _ _ _ _ _ k1 k2 => am_icmp_ne (tgt := 229) d_Mod_parts_222 (by decide) k2 k1) (fun _ => ?_) (fun _ => ?_)
  · refine xW_pure (fun _ _ _ _ _ => am_iconst (v := 1) d_Mod_parts_225 (by decide)) ?_
    refine xW_pure (fun _ _ _ _ _ => am_goto (tgt := 230) d_Mod_parts_226 (by decide)) ?_
    refine xW_locs (lv' := [(0, .ref l0), (1, .int l1), (2, .int t0)]) rfl ?_
    exact dx_Mod_parts_b230 O T
  · refine xW_pure (fun _ _ _ _ _ => am_iconst (v := 0) d_Mod_parts_229 (by decide)) ?_
    refine xW_locs (lv' := [(0, .ref l0), (1, .int l1), (2, .int t0)]) rfl ?_
    exact dx_Mod_parts_b230 O T

set_option maxRecDepth 100000 in
def x_Mod_parts (d : Nat) (x0 : Nat) (x1 : Int32) (s : HS) : Option (Int32 × HS) := match d with
  | 0 => none
  | d + 1 => gd s x0 14 (if x1 = 5 then (bnd (x_Mod_next d x0 s) fun v2 s1 => (bnd (x_Mod_text d x0 v2 s1) fun v4 s3 => ((gR s3 x0 14 37).bind fun v5 => ((gR s3 v5 11 0).bind fun v6 => ((gI s3 x0 14 41).bind fun v7 => ((aI s3 v6 (v7 - 1)).bind fun v8 => (if v8 = 3 then ((gR s3 x0 14 37).bind fun v9 => ((gR s3 v9 11 2).bind fun v10 => ((gI s3 x0 14 41).bind fun v11 => ((aL s3 v10 (v11 - 1)).bind fun v12 => ((gR s3 x0 14 31).bind fun v13 => (bnd (x_State_findField d v13 (v12 : Int64).toInt32 v4 s3) fun v15 s14 => (if 0 ≤ v15 then ((gR s14 x0 14 37).bind fun v16 => ((gI s14 x0 14 41).bind fun v17 => ((gR s14 x0 14 31).bind fun v18 => ((gR s14 v18 13 5).bind fun v19 => (bnd (x_Vals_copy d v16 (v17 - 1) v19 ((20 * (v12 : Int64).toInt32) + v15) s14) fun v21 s20 => (some ((-1), s20))))))) else ((gR s14 x0 14 37).bind fun v22 => ((gI s14 x0 14 41).bind fun v23 => (bnd (x_Vals_set d v22 (v23 - 1) 0 0 0 0 s14) fun v25 s24 => (some ((-1), s24)))))))))))) else (some (2, s3))))))))) else (if x1 = 6 then (bnd (x_Mod_next d x0 s) fun v27 s26 => (bnd (x_Mod_text d x0 v27 s26) fun v29 s28 => ((gI s28 x0 14 41).bind fun v30 => ((pV s28 x0 14 41 (.int (v30 - 2))).bind fun s31 => ((gR s31 x0 14 37).bind fun v32 => ((gR s31 v32 11 0).bind fun v33 => ((gI s31 x0 14 41).bind fun v34 => ((aI s31 v33 v34).bind fun v35 => (if v35 = 3 then ((gR s31 x0 14 37).bind fun v36 => ((gR s31 v36 11 2).bind fun v37 => ((gI s31 x0 14 41).bind fun v38 => ((aL s31 v37 v38).bind fun v39 => ((gR s31 x0 14 37).bind fun v40 => ((gI s31 x0 14 41).bind fun v41 => (bnd (x_Mod_setField d x0 (v39 : Int64).toInt32 v29 v40 (v41 + 1) s31) fun v43 s42 => (some (v43, s42))))))))) else (some (2, s31))))))))))) else (if x1 = 7 then ((gI s x0 14 41).bind fun v44 => (x_Mod_parts_b213 d x0 x1 (v44 - 2) s)) else ((gI s x0 14 41).bind fun v79 => (x_Mod_parts_b213 d x0 x1 (v79 - 3) s)))))

set_option maxRecDepth 100000 in
set_option maxHeartbeats 4000000 in
theorem dx_Mod_parts (O : am_ok K X) (T : am_T K) {d : Nat} {x0 : Nat} {x1 : Int32} {s : HS} : xM cvI K X m_Mod_parts d [.ref x0, .int x1] s (x_Mod_parts d x0 x1 s) := by
  cases d with
  | zero => exact xM_none
  | succ d =>
    unfold x_Mod_parts
    refine xM_enter (by decide +kernel) (Nat.le_of_ble_eq_true rfl) ?_
    refine xW_gd (fun _ => ?_)
    refine xW_pure (fun _ _ _ _ _ => am_iload_n d_Mod_parts_0 rfl rfl) ?_
    refine xW_pure (fun _ _ _ _ _ => am_iconst (v := 5) d_Mod_parts_1 (by decide)) ?_
    refine xW_ite (fun _ _ _ _ _ k1 k2 => am_icmp_ne (tgt := 118) d_Mod_parts_2 (by decide) k2 k1) (fun _ => ?_) (fun _ => ?_)
    · refine xW_pure (fun _ _ _ _ _ => am_aload_n d_Mod_parts_5 rfl rfl) ?_
      refine xW_pure (fun _ _ _ _ _ => am_aload_n d_Mod_parts_6 rfl rfl) ?_
      refine xW_callV O (dx_Mod_next O T) (fun _ e => ob_Mod_next e) rfl rfl rfl l_Mod_516 ⟨w_2036, w_120⟩ rfl (Nat.le_of_ble_eq_true rfl) d_Mod_parts_7 (fun v2 s1 _ => ?_)
      refine xW_callV O (dx_Mod_text O T) (fun _ e => ob_Mod_text e) rfl rfl rfl l_Mod_518 ⟨w_2040, w_121⟩ rfl (Nat.le_of_ble_eq_true rfl) d_Mod_parts_10 (fun v4 s3 _ => ?_)
      refine xW_pure (fun _ _ _ _ _ => am_lstore_n d_Mod_parts_13 rfl (Nat.le_of_ble_eq_true rfl)) ?_
      refine xW_pure (fun _ _ _ _ _ => am_aload_n d_Mod_parts_14 rfl rfl) ?_
      refine xW_gR O f_Mod_368 d_Mod_parts_15 (fun v5 _ => ?_)
      refine xW_gR O f_Mod_515 d_Mod_parts_18 (fun v6 _ => ?_)
      refine xW_pure (fun _ _ _ _ _ => am_aload_n d_Mod_parts_21 rfl rfl) ?_
      refine xW_gI O f_Mod_486 d_Mod_parts_22 (fun v7 _ => ?_)
      refine xW_pure (fun _ _ _ _ _ => am_iconst (v := 1) d_Mod_parts_25 (by decide)) ?_
      refine xW_pure (fun _ _ _ _ _ => am_isub d_Mod_parts_26) ?_
      refine xW_aI O d_Mod_parts_27 (fun v8 _ => ?_)
      refine xW_pure (fun _ _ _ _ _ => am_iconst (v := 3) d_Mod_parts_28 (by decide)) ?_
      refine xW_ite (fun _ _ _ _ _ => am_icmp_eq (tgt := 34) d_Mod_parts_29 (by decide)) (fun _ => ?_) (fun _ => ?_)
      · refine xW_pure (fun _ _ _ _ _ => am_aload_n d_Mod_parts_34 rfl rfl) ?_
        refine xW_gR O f_Mod_368 d_Mod_parts_35 (fun v9 _ => ?_)
        refine xW_gR O f_Mod_508 d_Mod_parts_38 (fun v10 _ => ?_)
        refine xW_pure (fun _ _ _ _ _ => am_aload_n d_Mod_parts_41 rfl rfl) ?_
        refine xW_gI O f_Mod_486 d_Mod_parts_42 (fun v11 _ => ?_)
        refine xW_pure (fun _ _ _ _ _ => am_iconst (v := 1) d_Mod_parts_45 (by decide)) ?_
        refine xW_pure (fun _ _ _ _ _ => am_isub d_Mod_parts_46) ?_
        refine xW_aL O d_Mod_parts_47 (fun v12 _ => ?_)
        refine xW_pure (fun _ _ _ _ _ => am_l2i d_Mod_parts_48 rfl) ?_
        refine xW_pure (fun _ _ _ _ _ => am_istore d_Mod_parts_49 (Nat.le_of_ble_eq_true rfl)) ?_
        refine xW_pure (fun _ _ _ _ _ => am_aload_n d_Mod_parts_51 rfl rfl) ?_
        refine xW_gR O f_Mod_353 d_Mod_parts_52 (fun v13 _ => ?_)
        refine xW_pure (fun _ _ _ _ _ => am_iload d_Mod_parts_55 rfl) ?_
        refine xW_pure (fun _ _ _ _ _ => am_lload_n d_Mod_parts_57 rfl rfl) ?_
        refine xW_callV O (dx_State_findField O T) (fun _ e => ob_State_findField e) rfl rfl rfl l_Mod_554 ⟨w_2093, w_2094⟩ rfl (Nat.le_of_ble_eq_true rfl) d_Mod_parts_58 (fun v15 s14 _ => ?_)
        refine xW_pure (fun _ _ _ _ _ => am_istore d_Mod_parts_61 (Nat.le_of_ble_eq_true rfl)) ?_
        refine xW_pure (fun _ _ _ _ _ => am_iload d_Mod_parts_63 rfl) ?_
        refine xW_ite (fun _ _ _ _ _ => am_if_ge (tgt := 88) d_Mod_parts_65 (by decide)) (fun _ => ?_) (fun _ => ?_)
        · refine xW_pure (fun _ _ _ _ _ => am_aload_n d_Mod_parts_88 rfl rfl) ?_
          refine xW_gR O f_Mod_368 d_Mod_parts_89 (fun v16 _ => ?_)
          refine xW_pure (fun _ _ _ _ _ => am_aload_n d_Mod_parts_92 rfl rfl) ?_
          refine xW_gI O f_Mod_486 d_Mod_parts_93 (fun v17 _ => ?_)
          refine xW_pure (fun _ _ _ _ _ => am_iconst (v := 1) d_Mod_parts_96 (by decide)) ?_
          refine xW_pure (fun _ _ _ _ _ => am_isub d_Mod_parts_97) ?_
          refine xW_pure (fun _ _ _ _ _ => am_aload_n d_Mod_parts_98 rfl rfl) ?_
          refine xW_gR O f_Mod_353 d_Mod_parts_99 (fun v18 _ => ?_)
          refine xW_gR O f_Mod_562 d_Mod_parts_102 (fun v19 _ => ?_)
          refine xW_pure (fun _ _ _ _ _ => am_bipush (v := 20) d_Mod_parts_105 (by decide)) ?_
          refine xW_pure (fun _ _ _ _ _ => am_iload d_Mod_parts_107 rfl) ?_
          refine xW_pure (fun _ _ _ _ _ => am_imul d_Mod_parts_109) ?_
          refine xW_pure (fun _ _ _ _ _ => am_iload d_Mod_parts_110 rfl) ?_
          refine xW_pure (fun _ _ _ _ _ => am_iadd d_Mod_parts_112) ?_
          refine xW_callV O (dx_Vals_copy O T) (fun _ e => ob_Vals_copy e) rfl rfl rfl l_Mod_505 ⟨w_1992, w_1993⟩ rfl (Nat.le_of_ble_eq_true rfl) d_Mod_parts_113 (fun v21 s20 _ => ?_)
          refine xW_pure (fun _ _ _ _ _ => am_iconst (v := (-1)) d_Mod_parts_116 (by decide)) ?_
          exact xW_ret (fun _ _ _ _ _ => am_iret rfl d_Mod_parts_117)
        · refine xW_pure (fun _ _ _ _ _ => am_aload_n d_Mod_parts_68 rfl rfl) ?_
          refine xW_gR O f_Mod_368 d_Mod_parts_69 (fun v22 _ => ?_)
          refine xW_pure (fun _ _ _ _ _ => am_aload_n d_Mod_parts_72 rfl rfl) ?_
          refine xW_gI O f_Mod_486 d_Mod_parts_73 (fun v23 _ => ?_)
          refine xW_pure (fun _ _ _ _ _ => am_iconst (v := 1) d_Mod_parts_76 (by decide)) ?_
          refine xW_pure (fun _ _ _ _ _ => am_isub d_Mod_parts_77) ?_
          refine xW_pure (fun _ _ _ _ _ => am_iconst (v := 0) d_Mod_parts_78 (by decide)) ?_
          refine xW_pure (fun _ _ _ _ _ => am_iconst (v := 0) d_Mod_parts_79 (by decide)) ?_
          refine xW_pure (fun _ _ _ _ _ => am_lconst (v := 0) d_Mod_parts_80 (by decide)) ?_
          refine xW_pure (fun _ _ _ _ _ => am_lconst (v := 0) d_Mod_parts_81 (by decide)) ?_
          refine xW_callV O (dx_Vals_set O T) (fun _ e => ob_Vals_set e) rfl rfl rfl l_Mod_114 ⟨w_1914, w_1915⟩ rfl (Nat.le_of_ble_eq_true rfl) d_Mod_parts_82 (fun v25 s24 _ => ?_)
          refine xW_pure (fun _ _ _ _ _ => am_goto (tgt := 116) d_Mod_parts_85 (by decide)) ?_
          refine xW_pure (fun _ _ _ _ _ => am_iconst (v := (-1)) d_Mod_parts_116 (by decide)) ?_
          exact xW_ret (fun _ _ _ _ _ => am_iret rfl d_Mod_parts_117)
      · refine xW_pure (fun _ _ _ _ _ => am_iconst (v := 2) d_Mod_parts_32 (by decide)) ?_
        exact xW_ret (fun _ _ _ _ _ => am_iret rfl d_Mod_parts_33)
    · refine xW_pure (fun _ _ _ _ _ => am_iload_n d_Mod_parts_118 rfl rfl) ?_
      refine xW_pure (fun _ _ _ _ _ => am_bipush (v := 6) d_Mod_parts_119 (by decide)) ?_
      refine xW_ite (fun _ _ _ _ _ k1 k2 => am_icmp_ne (tgt := 192) d_Mod_parts_121 (by decide) k2 k1) (fun _ => ?_) (fun _ => ?_)
      · refine xW_pure (fun _ _ _ _ _ => am_aload_n d_Mod_parts_124 rfl rfl) ?_
        refine xW_pure (fun _ _ _ _ _ => am_aload_n d_Mod_parts_125 rfl rfl) ?_
        refine xW_callV O (dx_Mod_next O T) (fun _ e => ob_Mod_next e) rfl rfl rfl l_Mod_516 ⟨w_2036, w_120⟩ rfl (Nat.le_of_ble_eq_true rfl) d_Mod_parts_126 (fun v27 s26 _ => ?_)
        refine xW_callV O (dx_Mod_text O T) (fun _ e => ob_Mod_text e) rfl rfl rfl l_Mod_518 ⟨w_2040, w_121⟩ rfl (Nat.le_of_ble_eq_true rfl) d_Mod_parts_129 (fun v29 s28 _ => ?_)
        refine xW_pure (fun _ _ _ _ _ => am_lstore_n d_Mod_parts_132 rfl (Nat.le_of_ble_eq_true rfl)) ?_
        refine xW_pure (fun _ _ _ _ _ => am_aload_n d_Mod_parts_133 rfl rfl) ?_
        refine xW_pure (fun _ _ _ _ _ => am_dup d_Mod_parts_134 rfl) ?_
        refine xW_gI O f_Mod_486 d_Mod_parts_135 (fun v30 _ => ?_)
        refine xW_pure (fun _ _ _ _ _ => am_iconst (v := 2) d_Mod_parts_138 (by decide)) ?_
        refine xW_pure (fun _ _ _ _ _ => am_isub d_Mod_parts_139) ?_
        refine xW_put O f_Mod_486 d_Mod_parts_140 (fun q hq => by cases hq; exact ⟨rfl, rfl, rfl⟩) (fun s31 _ => ?_)
        refine xW_pure (fun _ _ _ _ _ => am_aload_n d_Mod_parts_143 rfl rfl) ?_
        refine xW_gR O f_Mod_368 d_Mod_parts_144 (fun v32 _ => ?_)
        refine xW_gR O f_Mod_515 d_Mod_parts_147 (fun v33 _ => ?_)
        refine xW_pure (fun _ _ _ _ _ => am_aload_n d_Mod_parts_150 rfl rfl) ?_
        refine xW_gI O f_Mod_486 d_Mod_parts_151 (fun v34 _ => ?_)
        refine xW_aI O d_Mod_parts_154 (fun v35 _ => ?_)
        refine xW_pure (fun _ _ _ _ _ => am_iconst (v := 3) d_Mod_parts_155 (by decide)) ?_
        refine xW_ite (fun _ _ _ _ _ k1 k2 => am_icmp_ne (tgt := 190) d_Mod_parts_156 (by decide) k2 k1) (fun _ => ?_) (fun _ => ?_)
        · refine xW_pure (fun _ _ _ _ _ => am_aload_n d_Mod_parts_159 rfl rfl) ?_
          refine xW_pure (fun _ _ _ _ _ => am_aload_n d_Mod_parts_160 rfl rfl) ?_
          refine xW_gR O f_Mod_368 d_Mod_parts_161 (fun v36 _ => ?_)
          refine xW_gR O f_Mod_508 d_Mod_parts_164 (fun v37 _ => ?_)
          refine xW_pure (fun _ _ _ _ _ => am_aload_n d_Mod_parts_167 rfl rfl) ?_
          refine xW_gI O f_Mod_486 d_Mod_parts_168 (fun v38 _ => ?_)
          refine xW_aL O d_Mod_parts_171 (fun v39 _ => ?_)
          refine xW_pure (fun _ _ _ _ _ => am_l2i d_Mod_parts_172 rfl) ?_
          refine xW_pure (fun _ _ _ _ _ => am_lload_n d_Mod_parts_173 rfl rfl) ?_
          refine xW_pure (fun _ _ _ _ _ => am_aload_n d_Mod_parts_174 rfl rfl) ?_
          refine xW_gR O f_Mod_368 d_Mod_parts_175 (fun v40 _ => ?_)
          refine xW_pure (fun _ _ _ _ _ => am_aload_n d_Mod_parts_178 rfl rfl) ?_
          refine xW_gI O f_Mod_486 d_Mod_parts_179 (fun v41 _ => ?_)
          refine xW_pure (fun _ _ _ _ _ => am_iconst (v := 1) d_Mod_parts_182 (by decide)) ?_
          refine xW_pure (fun _ _ _ _ _ => am_iadd d_Mod_parts_183) ?_
          refine xW_callV O (dx_Mod_setField O T) (fun _ e => ob_Mod_setField e) rfl rfl rfl l_Mod_566 ⟨w_2098, w_132⟩ rfl (Nat.le_of_ble_eq_true rfl) d_Mod_parts_184 (fun v43 s42 _ => ?_)
          refine xW_pure (fun _ _ _ _ _ => am_goto (tgt := 191) d_Mod_parts_187 (by decide)) ?_
          exact xW_ret (fun _ _ _ _ _ => am_iret rfl d_Mod_parts_191)
        · refine xW_pure (fun _ _ _ _ _ => am_iconst (v := 2) d_Mod_parts_190 (by decide)) ?_
          exact xW_ret (fun _ _ _ _ _ => am_iret rfl d_Mod_parts_191)
      · refine xW_pure (fun _ _ _ _ _ => am_iload_n d_Mod_parts_192 rfl rfl) ?_
        refine xW_pure (fun _ _ _ _ _ => am_bipush (v := 7) d_Mod_parts_193 (by decide)) ?_
        refine xW_ite (fun _ _ _ _ _ k1 k2 => am_icmp_ne (tgt := 207) d_Mod_parts_195 (by decide) k2 k1) (fun _ => ?_) (fun _ => ?_)
        · refine xW_pure (fun _ _ _ _ _ => am_aload_n d_Mod_parts_198 rfl rfl) ?_
          refine xW_gI O f_Mod_486 d_Mod_parts_199 (fun v44 _ => ?_)
          refine xW_pure (fun _ _ _ _ _ => am_iconst (v := 2) d_Mod_parts_202 (by decide)) ?_
          refine xW_pure (fun _ _ _ _ _ => am_isub d_Mod_parts_203) ?_
          refine xW_pure (fun _ _ _ _ _ => am_goto (tgt := 213) d_Mod_parts_204 (by decide)) ?_
          refine xW_locs (lv' := [(0, .ref x0), (1, .int x1)]) rfl ?_
          exact dx_Mod_parts_b213 O T
        · refine xW_pure (fun _ _ _ _ _ => am_aload_n d_Mod_parts_207 rfl rfl) ?_
          refine xW_gI O f_Mod_486 d_Mod_parts_208 (fun v79 _ => ?_)
          refine xW_pure (fun _ _ _ _ _ => am_iconst (v := 3) d_Mod_parts_211 (by decide)) ?_
          refine xW_pure (fun _ _ _ _ _ => am_isub d_Mod_parts_212) ?_
          refine xW_locs (lv' := [(0, .ref x0), (1, .int x1)]) rfl ?_
          exact dx_Mod_parts_b213 O T

theorem ob_Mod_parts {d : Nat} {x0 : Nat} {x1 : Int32} {s : HS} {y : Int32 × HS} (h : x_Mod_parts d x0 x1 s = some y) : isO s x0 14 = true := by
  cases d with
  | zero => cases h
  | succ d => exact (gd_spec h).1

set_option maxRecDepth 100000 in
def x_Mod_reckon_b376 (d : Nat) (l0 : Nat) (l2 : Int32) (l7 : Int32) (s : HS) : Option (Int32 × HS) := (gI s l0 14 41).bind fun v25 => ((pV s l0 14 41 (.int (v25 - 1))).bind fun s26 => ((gR s26 l0 14 37).bind fun v27 => (if l7 = 0 then (bnd (x_Vals_set d v27 l2 1 0 0 0 s26) fun v29 s28 => (some ((-1), s28))) else (bnd (x_Vals_set d v27 l2 1 0 1 0 s26) fun v31 s30 => (some ((-1), s30))))))

set_option maxRecDepth 100000 in
set_option maxHeartbeats 4000000 in
theorem dx_Mod_reckon_b376 (O : am_ok K X) (T : am_T K) {d : Nat} {l0 : Nat} {l2 : Int32} {l7 : Int32} {s : HS} : xW cvI K X m_Mod_reckon (d + 1) 376 [(0, .ref l0), (2, .int l2), (7, .int l7)] [] s (x_Mod_reckon_b376 d l0 l2 l7 s) := by
  unfold x_Mod_reckon_b376
  refine xW_pure (fun _ _ _ _ _ => am_aload_n d_Mod_reckon_376 rfl rfl) ?_
  refine xW_pure (fun _ _ _ _ _ => am_dup d_Mod_reckon_377 rfl) ?_
  refine xW_gI O f_Mod_486 d_Mod_reckon_378 (fun v25 _ => ?_)
  refine xW_pure (fun _ _ _ _ _ => am_iconst (v := 1) d_Mod_reckon_381 (by decide)) ?_
  refine xW_pure (fun _ _ _ _ _ => am_isub d_Mod_reckon_382) ?_
  refine xW_put O f_Mod_486 d_Mod_reckon_383 (fun q hq => by cases hq; exact ⟨rfl, rfl, rfl⟩) (fun s26 _ => ?_)
  refine xW_pure (fun _ _ _ _ _ => am_aload_n d_Mod_reckon_386 rfl rfl) ?_
  refine xW_gR O f_Mod_368 d_Mod_reckon_387 (fun v27 _ => ?_)
  refine xW_pure (fun _ _ _ _ _ => am_iload_n d_Mod_reckon_390 rfl rfl) ?_
  refine xW_pure (fun _ _ _ _ _ => am_iconst (v := 1) d_Mod_reckon_391 (by decide)) ?_
  refine xW_pure (fun _ _ _ _ _ => am_iconst (v := 0) d_Mod_reckon_392 (by decide)) ?_
  refine xW_pure (fun _ _ _ _ _ => am_iload d_Mod_reckon_393 rfl) ?_
  refine xW_ite (fun _ _ _ _ _ => am_if_eq (tgt := 402) d_Mod_reckon_395 (by decide)) (fun _ => ?_) (fun _ => ?_)
  · refine xW_pure (fun _ _ _ _ _ => am_lconst (v := 0) d_Mod_reckon_402 (by decide)) ?_
    refine xW_pure (fun _ _ _ _ _ => am_lconst (v := 0) d_Mod_reckon_403 (by decide)) ?_
    refine xW_callV O (dx_Vals_set O T) (fun _ e => ob_Vals_set e) rfl rfl rfl l_Mod_114 ⟨w_1914, w_1915⟩ rfl (Nat.le_of_ble_eq_true rfl) d_Mod_reckon_404 (fun v29 s28 _ => ?_)
    refine xW_pure (fun _ _ _ _ _ => am_iconst (v := (-1)) d_Mod_reckon_407 (by decide)) ?_
    exact xW_ret (fun _ _ _ _ _ => am_iret rfl d_Mod_reckon_408)
  · refine xW_pure (fun _ _ _ _ _ => am_lconst (v := 1) d_Mod_reckon_398 (by decide)) ?_
    refine xW_pure (fun _ _ _ _ _ => am_goto (tgt := 403) d_Mod_reckon_399 (by decide)) ?_
    refine xW_pure (fun _ _ _ _ _ => am_lconst (v := 0) d_Mod_reckon_403 (by decide)) ?_
    refine xW_callV O (dx_Vals_set O T) (fun _ e => ob_Vals_set e) rfl rfl rfl l_Mod_114 ⟨w_1914, w_1915⟩ rfl (Nat.le_of_ble_eq_true rfl) d_Mod_reckon_404 (fun v31 s30 _ => ?_)
    refine xW_pure (fun _ _ _ _ _ => am_iconst (v := (-1)) d_Mod_reckon_407 (by decide)) ?_
    exact xW_ret (fun _ _ _ _ _ => am_iret rfl d_Mod_reckon_408)

set_option maxRecDepth 100000 in
def x_Mod_reckon_b217 (d : Nat) (l0 : Nat) (l2 : Int32) (t0 : Int32) (s : HS) : Option (Int32 × HS) := x_Mod_reckon_b376 d l0 l2 t0 s

set_option maxRecDepth 100000 in
set_option maxHeartbeats 4000000 in
theorem dx_Mod_reckon_b217 (O : am_ok K X) (T : am_T K) {d : Nat} {l0 : Nat} {l2 : Int32} {t0 : Int32} {s : HS} : xW cvI K X m_Mod_reckon (d + 1) 217 [(0, .ref l0), (2, .int l2)] [.int t0] s (x_Mod_reckon_b217 d l0 l2 t0 s) := by
  unfold x_Mod_reckon_b217
  refine xW_pure (fun _ _ _ _ _ => am_istore d_Mod_reckon_217 (Nat.le_of_ble_eq_true rfl)) ?_
  refine xW_pure (fun _ _ _ _ _ => am_goto (tgt := 376) d_Mod_reckon_219 (by decide)) ?_
  refine xW_locs (lv' := [(0, .ref l0), (2, .int l2), (7, .int t0)]) rfl ?_
  exact dx_Mod_reckon_b376 O T

set_option maxRecDepth 100000 in
def x_Mod_reckon_b209 (d : Nat) (l0 : Nat) (l2 : Int32) (t0 : Int32) (t1 : Int32) (s : HS) : Option (Int32 × HS) := if t0 = t1 then (x_Mod_reckon_b217 d l0 l2 1 s) else (x_Mod_reckon_b217 d l0 l2 0 s)

set_option maxRecDepth 100000 in
set_option maxHeartbeats 4000000 in
theorem dx_Mod_reckon_b209 (O : am_ok K X) (T : am_T K) {d : Nat} {l0 : Nat} {l2 : Int32} {t0 : Int32} {t1 : Int32} {s : HS} : xW cvI K X m_Mod_reckon (d + 1) 209 [(0, .ref l0), (2, .int l2)] [.int t1, .int t0] s (x_Mod_reckon_b209 d l0 l2 t0 t1 s) := by
  unfold x_Mod_reckon_b209
  refine xW_ite (fun _ _ _ _ _ k1 k2 => am_icmp_ne (tgt := 216) d_Mod_reckon_209 (by decide) k2 k1) (fun _ => ?_) (fun _ => ?_)
  · refine xW_pure (fun _ _ _ _ _ => am_iconst (v := 1) d_Mod_reckon_212 (by decide)) ?_
    refine xW_pure (fun _ _ _ _ _ => am_goto (tgt := 217) d_Mod_reckon_213 (by decide)) ?_
    refine xW_locs (lv' := [(0, .ref l0), (2, .int l2)]) rfl ?_
    exact dx_Mod_reckon_b217 O T
  · refine xW_pure (fun _ _ _ _ _ => am_iconst (v := 0) d_Mod_reckon_216 (by decide)) ?_
    refine xW_locs (lv' := [(0, .ref l0), (2, .int l2)]) rfl ?_
    exact dx_Mod_reckon_b217 O T

set_option maxRecDepth 100000 in
def x_Mod_reckon_b301 (d : Nat) (l0 : Nat) (l2 : Int32) (t0 : Int32) (s : HS) : Option (Int32 × HS) := x_Mod_reckon_b376 d l0 l2 t0 s

set_option maxRecDepth 100000 in
set_option maxHeartbeats 4000000 in
theorem dx_Mod_reckon_b301 (O : am_ok K X) (T : am_T K) {d : Nat} {l0 : Nat} {l2 : Int32} {t0 : Int32} {s : HS} : xW cvI K X m_Mod_reckon (d + 1) 301 [(0, .ref l0), (2, .int l2)] [.int t0] s (x_Mod_reckon_b301 d l0 l2 t0 s) := by
  unfold x_Mod_reckon_b301
  refine xW_pure (fun _ _ _ _ _ => am_istore d_Mod_reckon_301 (Nat.le_of_ble_eq_true rfl)) ?_
  refine xW_pure (fun _ _ _ _ _ => am_goto (tgt := 376) d_Mod_reckon_303 (by decide)) ?_
  refine xW_locs (lv' := [(0, .ref l0), (2, .int l2), (7, .int t0)]) rfl ?_
  exact dx_Mod_reckon_b376 O T

set_option maxRecDepth 100000 in
def x_Mod_reckon_b296 (d : Nat) (l0 : Nat) (l2 : Int32) (s : HS) : Option (Int32 × HS) := x_Mod_reckon_b301 d l0 l2 1 s

set_option maxRecDepth 100000 in
set_option maxHeartbeats 4000000 in
theorem dx_Mod_reckon_b296 (O : am_ok K X) (T : am_T K) {d : Nat} {l0 : Nat} {l2 : Int32} {s : HS} : xW cvI K X m_Mod_reckon (d + 1) 296 [(0, .ref l0), (2, .int l2)] [] s (x_Mod_reckon_b296 d l0 l2 s) := by
  unfold x_Mod_reckon_b296
  refine xW_pure (fun _ _ _ _ _ => am_iconst (v := 1) d_Mod_reckon_296 (by decide)) ?_
  refine xW_pure (fun _ _ _ _ _ => am_goto (tgt := 301) d_Mod_reckon_297 (by decide)) ?_
  refine xW_locs (lv' := [(0, .ref l0), (2, .int l2)]) rfl ?_
  exact dx_Mod_reckon_b301 O T

set_option maxRecDepth 100000 in
def x_Mod_reckon_b300 (d : Nat) (l0 : Nat) (l2 : Int32) (s : HS) : Option (Int32 × HS) := x_Mod_reckon_b301 d l0 l2 0 s

set_option maxRecDepth 100000 in
set_option maxHeartbeats 4000000 in
theorem dx_Mod_reckon_b300 (O : am_ok K X) (T : am_T K) {d : Nat} {l0 : Nat} {l2 : Int32} {s : HS} : xW cvI K X m_Mod_reckon (d + 1) 300 [(0, .ref l0), (2, .int l2)] [] s (x_Mod_reckon_b300 d l0 l2 s) := by
  unfold x_Mod_reckon_b300
  refine xW_pure (fun _ _ _ _ _ => am_iconst (v := 0) d_Mod_reckon_300 (by decide)) ?_
  refine xW_locs (lv' := [(0, .ref l0), (2, .int l2)]) rfl ?_
  exact dx_Mod_reckon_b301 O T

set_option maxRecDepth 100000 in
def x_Mod_reckon_b274 (d : Nat) (l0 : Nat) (l2 : Int32) (l4 : Int32) (t0 : Int64) (s : HS) : Option (Int32 × HS) := if (lg_cmp t0 0) < 0 then (x_Mod_reckon_b296 d l0 l2 s) else (if (lg_cmp t0 0) = 0 then (if l4 = 1 then (x_Mod_reckon_b296 d l0 l2 s) else (x_Mod_reckon_b300 d l0 l2 s)) else (x_Mod_reckon_b300 d l0 l2 s))

set_option maxRecDepth 100000 in
set_option maxHeartbeats 4000000 in
theorem dx_Mod_reckon_b274 (O : am_ok K X) (T : am_T K) {d : Nat} {l0 : Nat} {l2 : Int32} {l4 : Int32} {t0 : Int64} {s : HS} : xW cvI K X m_Mod_reckon (d + 1) 274 [(0, .ref l0), (2, .int l2), (4, .int l4)] [.long t0] s (x_Mod_reckon_b274 d l0 l2 l4 t0 s) := by
  unfold x_Mod_reckon_b274
  refine xW_pure (fun _ _ _ _ _ => am_lstore d_Mod_reckon_274 (Nat.le_of_ble_eq_true rfl)) ?_
  refine xW_pure (fun _ _ _ _ _ => am_lload d_Mod_reckon_276 rfl) ?_
  refine xW_pure (fun _ _ _ _ _ => am_lconst (v := 0) d_Mod_reckon_278 (by decide)) ?_
  refine xW_pure (fun _ _ _ _ _ => am_lcmp d_Mod_reckon_279) ?_
  refine xW_ite (fun _ _ _ _ _ => am_if_lt (tgt := 296) d_Mod_reckon_280 (by decide)) (fun _ => ?_) (fun _ => ?_)
  · refine xW_locs (lv' := [(0, .ref l0), (2, .int l2)]) rfl ?_
    exact dx_Mod_reckon_b296 O T
  · refine xW_pure (fun _ _ _ _ _ => am_lload d_Mod_reckon_283 rfl) ?_
    refine xW_pure (fun _ _ _ _ _ => am_lconst (v := 0) d_Mod_reckon_285 (by decide)) ?_
    refine xW_pure (fun _ _ _ _ _ => am_lcmp d_Mod_reckon_286) ?_
    refine xW_ite (fun _ _ _ _ _ k1 k2 => am_if_ne (tgt := 300) d_Mod_reckon_287 (by decide) k2 k1) (fun _ => ?_) (fun _ => ?_)
    · refine xW_pure (fun _ _ _ _ _ => am_iload d_Mod_reckon_290 rfl) ?_
      refine xW_pure (fun _ _ _ _ _ => am_iconst (v := 1) d_Mod_reckon_292 (by decide)) ?_
      refine xW_ite (fun _ _ _ _ _ k1 k2 => am_icmp_ne (tgt := 300) d_Mod_reckon_293 (by decide) k2 k1) (fun _ => ?_) (fun _ => ?_)
      · refine xW_locs (lv' := [(0, .ref l0), (2, .int l2)]) rfl ?_
        exact dx_Mod_reckon_b296 O T
      · refine xW_locs (lv' := [(0, .ref l0), (2, .int l2)]) rfl ?_
        exact dx_Mod_reckon_b300 O T
    · refine xW_locs (lv' := [(0, .ref l0), (2, .int l2)]) rfl ?_
      exact dx_Mod_reckon_b300 O T

set_option maxRecDepth 100000 in
def x_Mod_reckon_b240 (d : Nat) (l0 : Nat) (l2 : Int32) (l3 : Int32) (l4 : Int32) (l5 : Int32) (s : HS) : Option (Int32 × HS) := if l5 = 0 then (bnd (x_Mod_order d l0 l2 l3 s) fun v35 s34 => (x_Mod_reckon_b274 d l0 l2 l4 (v35 : Int32).toInt64 s34)) else ((gR s l0 14 37).bind fun v36 => ((gR s v36 11 2).bind fun v37 => ((aL s v37 l2).bind fun v38 => ((gR s l0 14 37).bind fun v39 => ((gR s v39 11 2).bind fun v40 => ((aL s v40 l3).bind fun v41 => (x_Mod_reckon_b274 d l0 l2 l4 (v38 - v41) s)))))))

set_option maxRecDepth 100000 in
set_option maxHeartbeats 4000000 in
theorem dx_Mod_reckon_b240 (O : am_ok K X) (T : am_T K) {d : Nat} {l0 : Nat} {l2 : Int32} {l3 : Int32} {l4 : Int32} {l5 : Int32} {s : HS} : xW cvI K X m_Mod_reckon (d + 1) 240 [(0, .ref l0), (2, .int l2), (3, .int l3), (4, .int l4), (5, .int l5)] [] s (x_Mod_reckon_b240 d l0 l2 l3 l4 l5 s) := by
  unfold x_Mod_reckon_b240
  refine xW_pure (fun _ _ _ _ _ => am_iload d_Mod_reckon_240 rfl) ?_
  refine xW_ite (fun _ _ _ _ _ => am_if_eq (tgt := 267) d_Mod_reckon_242 (by decide)) (fun _ => ?_) (fun _ => ?_)
  · refine xW_pure (fun _ _ _ _ _ => am_aload_n d_Mod_reckon_267 rfl rfl) ?_
    refine xW_pure (fun _ _ _ _ _ => am_iload_n d_Mod_reckon_268 rfl rfl) ?_
    refine xW_pure (fun _ _ _ _ _ => am_iload_n d_Mod_reckon_269 rfl rfl) ?_
    refine xW_callV O (dx_Mod_order O T) (fun _ e => ob_Mod_order e) rfl rfl rfl l_Mod_586 ⟨w_2114, w_135⟩ rfl (Nat.le_of_ble_eq_true rfl) d_Mod_reckon_270 (fun v35 s34 _ => ?_)
    refine xW_pure (fun _ _ _ _ _ => am_i2l d_Mod_reckon_273 rfl) ?_
    refine xW_locs (lv' := [(0, .ref l0), (2, .int l2), (4, .int l4)]) rfl ?_
    exact dx_Mod_reckon_b274 O T
  · refine xW_pure (fun _ _ _ _ _ => am_aload_n d_Mod_reckon_245 rfl rfl) ?_
    refine xW_gR O f_Mod_368 d_Mod_reckon_246 (fun v36 _ => ?_)
    refine xW_gR O f_Mod_508 d_Mod_reckon_249 (fun v37 _ => ?_)
    refine xW_pure (fun _ _ _ _ _ => am_iload_n d_Mod_reckon_252 rfl rfl) ?_
    refine xW_aL O d_Mod_reckon_253 (fun v38 _ => ?_)
    refine xW_pure (fun _ _ _ _ _ => am_aload_n d_Mod_reckon_254 rfl rfl) ?_
    refine xW_gR O f_Mod_368 d_Mod_reckon_255 (fun v39 _ => ?_)
    refine xW_gR O f_Mod_508 d_Mod_reckon_258 (fun v40 _ => ?_)
    refine xW_pure (fun _ _ _ _ _ => am_iload_n d_Mod_reckon_261 rfl rfl) ?_
    refine xW_aL O d_Mod_reckon_262 (fun v41 _ => ?_)
    refine xW_pure (fun _ _ _ _ _ => am_lsub d_Mod_reckon_263) ?_
    refine xW_pure (fun _ _ _ _ _ => am_goto (tgt := 274) d_Mod_reckon_264 (by decide)) ?_
    refine xW_locs (lv' := [(0, .ref l0), (2, .int l2), (4, .int l4)]) rfl ?_
    exact dx_Mod_reckon_b274 O T

set_option maxRecDepth 100000 in
def x_Mod_reckon_b341 (d : Nat) (l0 : Nat) (l2 : Int32) (l3 : Int32) (l4 : Int32) (l5 : Int32) (s : HS) : Option (Int32 × HS) := if l5 = 0 then (some (2, s)) else ((gR s l0 14 37).bind fun v46 => ((gR s v46 11 2).bind fun v47 => ((aL s v47 l2).bind fun v48 => ((gR s l0 14 37).bind fun v49 => ((gR s v49 11 2).bind fun v50 => ((aL s v50 l3).bind fun v51 => (bnd (x_Mod_sum_IIJJ d l0 l4 l2 v48 v51 s) fun v53 s52 => (some (v53, s52)))))))))

set_option maxRecDepth 100000 in
set_option maxHeartbeats 4000000 in
theorem dx_Mod_reckon_b341 (O : am_ok K X) (T : am_T K) {d : Nat} {l0 : Nat} {l2 : Int32} {l3 : Int32} {l4 : Int32} {l5 : Int32} {s : HS} : xW cvI K X m_Mod_reckon (d + 1) 341 [(0, .ref l0), (2, .int l2), (3, .int l3), (4, .int l4), (5, .int l5)] [] s (x_Mod_reckon_b341 d l0 l2 l3 l4 l5 s) := by
  unfold x_Mod_reckon_b341
  refine xW_pure (fun _ _ _ _ _ => am_iload d_Mod_reckon_341 rfl) ?_
  refine xW_ite (fun _ _ _ _ _ => am_if_eq (tgt := 374) d_Mod_reckon_343 (by decide)) (fun _ => ?_) (fun _ => ?_)
  · refine xW_pure (fun _ _ _ _ _ => am_iconst (v := 2) d_Mod_reckon_374 (by decide)) ?_
    exact xW_ret (fun _ _ _ _ _ => am_iret rfl d_Mod_reckon_375)
  · refine xW_pure (fun _ _ _ _ _ => am_aload_n d_Mod_reckon_346 rfl rfl) ?_
    refine xW_pure (fun _ _ _ _ _ => am_iload d_Mod_reckon_347 rfl) ?_
    refine xW_pure (fun _ _ _ _ _ => am_iload_n d_Mod_reckon_349 rfl rfl) ?_
    refine xW_pure (fun _ _ _ _ _ => am_aload_n d_Mod_reckon_350 rfl rfl) ?_
    refine xW_gR O f_Mod_368 d_Mod_reckon_351 (fun v46 _ => ?_)
    refine xW_gR O f_Mod_508 d_Mod_reckon_354 (fun v47 _ => ?_)
    refine xW_pure (fun _ _ _ _ _ => am_iload_n d_Mod_reckon_357 rfl rfl) ?_
    refine xW_aL O d_Mod_reckon_358 (fun v48 _ => ?_)
    refine xW_pure (fun _ _ _ _ _ => am_aload_n d_Mod_reckon_359 rfl rfl) ?_
    refine xW_gR O f_Mod_368 d_Mod_reckon_360 (fun v49 _ => ?_)
    refine xW_gR O f_Mod_508 d_Mod_reckon_363 (fun v50 _ => ?_)
    refine xW_pure (fun _ _ _ _ _ => am_iload_n d_Mod_reckon_366 rfl rfl) ?_
    refine xW_aL O d_Mod_reckon_367 (fun v51 _ => ?_)
    refine xW_callV O (dx_Mod_sum_IIJJ O T) (fun _ e => ob_Mod_sum_IIJJ e) rfl rfl rfl l_Mod_592 ⟨w_2123, w_137⟩ rfl (Nat.le_of_ble_eq_true rfl) d_Mod_reckon_368 (fun v53 s52 _ => ?_)
    refine xW_pure (fun _ _ _ _ _ => am_goto (tgt := 375) d_Mod_reckon_371 (by decide)) ?_
    exact xW_ret (fun _ _ _ _ _ => am_iret rfl d_Mod_reckon_375)

set_option maxRecDepth 100000 in
def x_Mod_reckon_b86 (d : Nat) (l0 : Nat) (l1 : Int32) (l2 : Int32) (l3 : Int32) (l5 : Int32) (t0 : Int32) (s : HS) : Option (Int32 × HS) := if l1 = 10 then ((gR s l0 14 37).bind fun v3 => ((gR s v3 11 0).bind fun v4 => ((aI s v4 l3).bind fun v5 => (if v5 = 1 then ((gR s l0 14 37).bind fun v6 => ((gR s v6 11 2).bind fun v7 => ((gR s l0 14 37).bind fun v8 => ((gR s v8 11 2).bind fun v9 => ((aL s v9 l3).bind fun v10 => ((sV s .long v7 l3 (.long (((-v10) : Int64).toInt32 : Int32).toInt64)).bind fun s11 => (some ((-1), s11)))))))) else (some (2, s)))))) else (if l1 = 11 then ((gR s l0 14 37).bind fun v12 => (bnd (x_Mod_isTrue d l0 l3 s) fun v14 s13 => (if v14 = 0 then (bnd (x_Vals_set d v12 l3 1 0 1 0 s13) fun v16 s15 => (some ((-1), s15))) else (bnd (x_Vals_set d v12 l3 1 0 0 0 s13) fun v18 s17 => (some ((-1), s17)))))) else (if l1 = 12 then ((gR s l0 14 37).bind fun v19 => ((gR s l0 14 37).bind fun v20 => (bnd (x_Vals_isLike d v19 l2 v20 l3 s) fun v22 s21 => (bnd (x_Mod_next d l0 s21) fun v24 s23 => (if v24 = 0 then (x_Mod_reckon_b209 d l0 l2 v22 1 s23) else (x_Mod_reckon_b209 d l0 l2 v22 0 s23)))))) else (if l1 = 13 then (bnd (x_Mod_next d l0 s) fun v33 s32 => (if l5 = 0 then (if t0 = 0 then (some (2, s32)) else (x_Mod_reckon_b240 d l0 l2 l3 v33 l5 s32)) else (x_Mod_reckon_b240 d l0 l2 l3 v33 l5 s32))) else (bnd (x_Mod_next d l0 s) fun v43 s42 => ((gI s42 l0 14 41).bind fun v44 => ((pV s42 l0 14 41 (.int (v44 - 1))).bind fun s45 => (if v43 = 43 then (if t0 = 0 then (x_Mod_reckon_b341 d l0 l2 l3 v43 l5 s45) else (bnd (x_Mod_join d l0 l2 l3 s45) fun v55 s54 => (some (v55, s54)))) else (x_Mod_reckon_b341 d l0 l2 l3 v43 l5 s45))))))))

set_option maxRecDepth 100000 in
set_option maxHeartbeats 4000000 in
theorem dx_Mod_reckon_b86 (O : am_ok K X) (T : am_T K) {d : Nat} {l0 : Nat} {l1 : Int32} {l2 : Int32} {l3 : Int32} {l5 : Int32} {t0 : Int32} {s : HS} : xW cvI K X m_Mod_reckon (d + 1) 86 [(0, .ref l0), (1, .int l1), (2, .int l2), (3, .int l3), (5, .int l5)] [.int t0] s (x_Mod_reckon_b86 d l0 l1 l2 l3 l5 t0 s) := by
  unfold x_Mod_reckon_b86
  refine xW_pure (fun _ _ _ _ _ => am_istore d_Mod_reckon_86 (Nat.le_of_ble_eq_true rfl)) ?_
  refine xW_pure (fun _ _ _ _ _ => am_iload_n d_Mod_reckon_88 rfl rfl) ?_
  refine xW_by (fun c89_0 => ?_) (fun c89_0 => ?_)
  · refine xW_pure (fun _ _ _ _ _ => am_tableIn (off := 31) (tgt := 120) d_Mod_reckon_89 (by rw [c89_0]; decide) (by rw [c89_0]; decide) (by rw [c89_0]; rfl) (by decide)) ?_
    refine xW_pure (fun _ _ _ _ _ => am_aload_n d_Mod_reckon_120 rfl rfl) ?_
    refine xW_gR O f_Mod_368 d_Mod_reckon_121 (fun v3 _ => ?_)
    refine xW_gR O f_Mod_515 d_Mod_reckon_124 (fun v4 _ => ?_)
    refine xW_pure (fun _ _ _ _ _ => am_iload_n d_Mod_reckon_127 rfl rfl) ?_
    refine xW_aI O d_Mod_reckon_128 (fun v5 _ => ?_)
    refine xW_pure (fun _ _ _ _ _ => am_iconst (v := 1) d_Mod_reckon_129 (by decide)) ?_
    refine xW_ite (fun _ _ _ _ _ => am_icmp_eq (tgt := 135) d_Mod_reckon_130 (by decide)) (fun _ => ?_) (fun _ => ?_)
    · refine xW_pure (fun _ _ _ _ _ => am_aload_n d_Mod_reckon_135 rfl rfl) ?_
      refine xW_gR O f_Mod_368 d_Mod_reckon_136 (fun v6 _ => ?_)
      refine xW_gR O f_Mod_508 d_Mod_reckon_139 (fun v7 _ => ?_)
      refine xW_pure (fun _ _ _ _ _ => am_iload_n d_Mod_reckon_142 rfl rfl) ?_
      refine xW_pure (fun _ _ _ _ _ => am_aload_n d_Mod_reckon_143 rfl rfl) ?_
      refine xW_gR O f_Mod_368 d_Mod_reckon_144 (fun v8 _ => ?_)
      refine xW_gR O f_Mod_508 d_Mod_reckon_147 (fun v9 _ => ?_)
      refine xW_pure (fun _ _ _ _ _ => am_iload_n d_Mod_reckon_150 rfl rfl) ?_
      refine xW_aL O d_Mod_reckon_151 (fun v10 _ => ?_)
      refine xW_pure (fun _ _ _ _ _ => am_lneg d_Mod_reckon_152) ?_
      refine xW_pure (fun _ _ _ _ _ => am_l2i d_Mod_reckon_153 rfl) ?_
      refine xW_pure (fun _ _ _ _ _ => am_i2l d_Mod_reckon_154 rfl) ?_
      refine xW_sL O d_Mod_reckon_155 (fun s11 _ => ?_)
      refine xW_pure (fun _ _ _ _ _ => am_iconst (v := (-1)) d_Mod_reckon_156 (by decide)) ?_
      exact xW_ret (fun _ _ _ _ _ => am_iret rfl d_Mod_reckon_157)
    · refine xW_pure (fun _ _ _ _ _ => am_iconst (v := 2) d_Mod_reckon_133 (by decide)) ?_
      exact xW_ret (fun _ _ _ _ _ => am_iret rfl d_Mod_reckon_134)
  · refine xW_by (fun c89_1 => ?_) (fun c89_1 => ?_)
    · refine xW_pure (fun _ _ _ _ _ => am_tableIn (off := 69) (tgt := 158) d_Mod_reckon_89 (by rw [c89_1]; decide) (by rw [c89_1]; decide) (by rw [c89_1]; rfl) (by decide)) ?_
      refine xW_pure (fun _ _ _ _ _ => am_aload_n d_Mod_reckon_158 rfl rfl) ?_
      refine xW_gR O f_Mod_368 d_Mod_reckon_159 (fun v12 _ => ?_)
      refine xW_pure (fun _ _ _ _ _ => am_iload_n d_Mod_reckon_162 rfl rfl) ?_
      refine xW_pure (fun _ _ _ _ _ => am_iconst (v := 1) d_Mod_reckon_163 (by decide)) ?_
      refine xW_pure (fun _ _ _ _ _ => am_iconst (v := 0) d_Mod_reckon_164 (by decide)) ?_
      refine xW_pure (fun _ _ _ _ _ => am_aload_n d_Mod_reckon_165 rfl rfl) ?_
      refine xW_pure (fun _ _ _ _ _ => am_iload_n d_Mod_reckon_166 rfl rfl) ?_
      refine xW_callV O (dx_Mod_isTrue O T) (fun _ e => ob_Mod_isTrue e) rfl rfl rfl l_Mod_527 ⟨w_2056, w_124⟩ rfl (Nat.le_of_ble_eq_true rfl) d_Mod_reckon_167 (fun v14 s13 _ => ?_)
      refine xW_ite (fun _ _ _ _ _ => am_if_eq (tgt := 177) d_Mod_reckon_170 (by decide)) (fun _ => ?_) (fun _ => ?_)
      · refine xW_pure (fun _ _ _ _ _ => am_lconst (v := 1) d_Mod_reckon_177 (by decide)) ?_
        refine xW_pure (fun _ _ _ _ _ => am_lconst (v := 0) d_Mod_reckon_178 (by decide)) ?_
        refine xW_callV O (dx_Vals_set O T) (fun _ e => ob_Vals_set e) rfl rfl rfl l_Mod_114 ⟨w_1914, w_1915⟩ rfl (Nat.le_of_ble_eq_true rfl) d_Mod_reckon_179 (fun v16 s15 _ => ?_)
        refine xW_pure (fun _ _ _ _ _ => am_iconst (v := (-1)) d_Mod_reckon_182 (by decide)) ?_
        exact xW_ret (fun _ _ _ _ _ => am_iret rfl d_Mod_reckon_183)
      · refine xW_pure (fun _ _ _ _ _ => am_lconst (v := 0) d_Mod_reckon_173 (by decide)) ?_
        refine xW_pure (fun _ _ _ _ _ => am_goto (tgt := 178) d_Mod_reckon_174 (by decide)) ?_
        refine xW_pure (fun _ _ _ _ _ => am_lconst (v := 0) d_Mod_reckon_178 (by decide)) ?_
        refine xW_callV O (dx_Vals_set O T) (fun _ e => ob_Vals_set e) rfl rfl rfl l_Mod_114 ⟨w_1914, w_1915⟩ rfl (Nat.le_of_ble_eq_true rfl) d_Mod_reckon_179 (fun v18 s17 _ => ?_)
        refine xW_pure (fun _ _ _ _ _ => am_iconst (v := (-1)) d_Mod_reckon_182 (by decide)) ?_
        exact xW_ret (fun _ _ _ _ _ => am_iret rfl d_Mod_reckon_183)
    · refine xW_by (fun c89_2 => ?_) (fun c89_2 => ?_)
      · refine xW_pure (fun _ _ _ _ _ => am_tableIn (off := 95) (tgt := 184) d_Mod_reckon_89 (by rw [c89_2]; decide) (by rw [c89_2]; decide) (by rw [c89_2]; rfl) (by decide)) ?_
        refine xW_pure (fun _ _ _ _ _ => am_aload_n d_Mod_reckon_184 rfl rfl) ?_
        refine xW_gR O f_Mod_368 d_Mod_reckon_185 (fun v19 _ => ?_)
        refine xW_pure (fun _ _ _ _ _ => am_iload_n d_Mod_reckon_188 rfl rfl) ?_
        refine xW_pure (fun _ _ _ _ _ => am_aload_n d_Mod_reckon_189 rfl rfl) ?_
        refine xW_gR O f_Mod_368 d_Mod_reckon_190 (fun v20 _ => ?_)
        refine xW_pure (fun _ _ _ _ _ => am_iload_n d_Mod_reckon_193 rfl rfl) ?_
        refine xW_callV O (dx_Vals_isLike O T) (fun _ e => ob_Vals_isLike e) rfl rfl rfl l_Mod_473 ⟨w_2109, w_2110⟩ rfl (Nat.le_of_ble_eq_true rfl) d_Mod_reckon_194 (fun v22 s21 _ => ?_)
        refine xW_pure (fun _ _ _ _ _ => am_aload_n d_Mod_reckon_197 rfl rfl) ?_
        refine xW_callV O (dx_Mod_next O T) (fun _ e => ob_Mod_next e) rfl rfl rfl l_Mod_516 ⟨w_2036, w_120⟩ rfl (Nat.le_of_ble_eq_true rfl) d_Mod_reckon_198 (fun v24 s23 _ => ?_)
        refine xW_ite (fun _ _ _ _ _ k1 k2 => am_if_ne (tgt := 208) d_Mod_reckon_201 (by decide) k2 k1) (fun _ => ?_) (fun _ => ?_)
        · refine xW_pure (fun _ _ _ _ _ => am_iconst (v := 1) d_Mod_reckon_204 (by decide)) ?_
          refine xW_pure (fun _ _ _ _ _ => am_goto (tgt := 209) d_Mod_reckon_205 (by decide)) ?_
          refine xW_locs (lv' := [(0, .ref l0), (2, .int l2)]) rfl ?_
          exact dx_Mod_reckon_b209 O T
        · refine xW_pure (fun _ _ _ _ _ => am_iconst (v := 0) d_Mod_reckon_208 (by decide)) ?_
          refine xW_locs (lv' := [(0, .ref l0), (2, .int l2)]) rfl ?_
          exact dx_Mod_reckon_b209 O T
      · refine xW_by (fun c89_3 => ?_) (fun c89_3 => ?_)
        · refine xW_pure (fun _ _ _ _ _ => am_tableIn (off := 133) (tgt := 222) d_Mod_reckon_89 (by rw [c89_3]; decide) (by rw [c89_3]; decide) (by rw [c89_3]; rfl) (by decide)) ?_
          refine xW_pure (fun _ _ _ _ _ => am_aload_n d_Mod_reckon_222 rfl rfl) ?_
          refine xW_callV O (dx_Mod_next O T) (fun _ e => ob_Mod_next e) rfl rfl rfl l_Mod_516 ⟨w_2036, w_120⟩ rfl (Nat.le_of_ble_eq_true rfl) d_Mod_reckon_223 (fun v33 s32 _ => ?_)
          refine xW_pure (fun _ _ _ _ _ => am_istore d_Mod_reckon_226 (Nat.le_of_ble_eq_true rfl)) ?_
          refine xW_pure (fun _ _ _ _ _ => am_iload d_Mod_reckon_228 rfl) ?_
          refine xW_ite (fun _ _ _ _ _ k1 k2 => am_if_ne (tgt := 240) d_Mod_reckon_230 (by decide) k2 k1) (fun _ => ?_) (fun _ => ?_)
          · refine xW_pure (fun _ _ _ _ _ => am_iload d_Mod_reckon_233 rfl) ?_
            refine xW_ite (fun _ _ _ _ _ k1 k2 => am_if_ne (tgt := 240) d_Mod_reckon_235 (by decide) k2 k1) (fun _ => ?_) (fun _ => ?_)
            · refine xW_pure (fun _ _ _ _ _ => am_iconst (v := 2) d_Mod_reckon_238 (by decide)) ?_
              exact xW_ret (fun _ _ _ _ _ => am_iret rfl d_Mod_reckon_239)
            · refine xW_locs (lv' := [(0, .ref l0), (2, .int l2), (3, .int l3), (4, .int v33), (5, .int l5)]) rfl ?_
              exact dx_Mod_reckon_b240 O T
          · refine xW_locs (lv' := [(0, .ref l0), (2, .int l2), (3, .int l3), (4, .int v33), (5, .int l5)]) rfl ?_
            exact dx_Mod_reckon_b240 O T
        · have e89_0 := lk_ne c89_0 (show (10 : Int32).toInt = 10 by decide)
          have e89_1 := lk_ne c89_1 (show (11 : Int32).toInt = 11 by decide)
          have e89_2 := lk_ne c89_2 (show (12 : Int32).toInt = 12 by decide)
          have e89_3 := lk_ne c89_3 (show (13 : Int32).toInt = 13 by decide)
          refine xW_pure (fun _ _ _ _ _ => am_tableOut (tgt := 306) d_Mod_reckon_89 (by omega) (by decide)) ?_
          refine xW_pure (fun _ _ _ _ _ => am_aload_n d_Mod_reckon_306 rfl rfl) ?_
          refine xW_callV O (dx_Mod_next O T) (fun _ e => ob_Mod_next e) rfl rfl rfl l_Mod_516 ⟨w_2036, w_120⟩ rfl (Nat.le_of_ble_eq_true rfl) d_Mod_reckon_307 (fun v43 s42 _ => ?_)
          refine xW_pure (fun _ _ _ _ _ => am_istore d_Mod_reckon_310 (Nat.le_of_ble_eq_true rfl)) ?_
          refine xW_pure (fun _ _ _ _ _ => am_aload_n d_Mod_reckon_312 rfl rfl) ?_
          refine xW_pure (fun _ _ _ _ _ => am_dup d_Mod_reckon_313 rfl) ?_
          refine xW_gI O f_Mod_486 d_Mod_reckon_314 (fun v44 _ => ?_)
          refine xW_pure (fun _ _ _ _ _ => am_iconst (v := 1) d_Mod_reckon_317 (by decide)) ?_
          refine xW_pure (fun _ _ _ _ _ => am_isub d_Mod_reckon_318) ?_
          refine xW_put O f_Mod_486 d_Mod_reckon_319 (fun q hq => by cases hq; exact ⟨rfl, rfl, rfl⟩) (fun s45 _ => ?_)
          refine xW_pure (fun _ _ _ _ _ => am_iload d_Mod_reckon_322 rfl) ?_
          refine xW_pure (fun _ _ _ _ _ => am_bipush (v := 43) d_Mod_reckon_324 (by decide)) ?_
          refine xW_ite (fun _ _ _ _ _ k1 k2 => am_icmp_ne (tgt := 341) d_Mod_reckon_326 (by decide) k2 k1) (fun _ => ?_) (fun _ => ?_)
          · refine xW_pure (fun _ _ _ _ _ => am_iload d_Mod_reckon_329 rfl) ?_
            refine xW_ite (fun _ _ _ _ _ => am_if_eq (tgt := 341) d_Mod_reckon_331 (by decide)) (fun _ => ?_) (fun _ => ?_)
            · refine xW_locs (lv' := [(0, .ref l0), (2, .int l2), (3, .int l3), (4, .int v43), (5, .int l5)]) rfl ?_
              exact dx_Mod_reckon_b341 O T
            · refine xW_pure (fun _ _ _ _ _ => am_aload_n d_Mod_reckon_334 rfl rfl) ?_
              refine xW_pure (fun _ _ _ _ _ => am_iload_n d_Mod_reckon_335 rfl rfl) ?_
              refine xW_pure (fun _ _ _ _ _ => am_iload_n d_Mod_reckon_336 rfl rfl) ?_
              refine xW_callV O (dx_Mod_join O T) (fun _ e => ob_Mod_join e) rfl rfl rfl l_Mod_589 ⟨w_2119, w_136⟩ rfl (Nat.le_of_ble_eq_true rfl) d_Mod_reckon_337 (fun v55 s54 _ => ?_)
              exact xW_ret (fun _ _ _ _ _ => am_iret rfl d_Mod_reckon_340)
          · refine xW_locs (lv' := [(0, .ref l0), (2, .int l2), (3, .int l3), (4, .int v43), (5, .int l5)]) rfl ?_
            exact dx_Mod_reckon_b341 O T

set_option maxRecDepth 100000 in
def x_Mod_reckon_b85 (d : Nat) (l0 : Nat) (l1 : Int32) (l2 : Int32) (l3 : Int32) (l5 : Int32) (s : HS) : Option (Int32 × HS) := x_Mod_reckon_b86 d l0 l1 l2 l3 l5 0 s

set_option maxRecDepth 100000 in
set_option maxHeartbeats 4000000 in
theorem dx_Mod_reckon_b85 (O : am_ok K X) (T : am_T K) {d : Nat} {l0 : Nat} {l1 : Int32} {l2 : Int32} {l3 : Int32} {l5 : Int32} {s : HS} : xW cvI K X m_Mod_reckon (d + 1) 85 [(0, .ref l0), (1, .int l1), (2, .int l2), (3, .int l3), (5, .int l5)] [] s (x_Mod_reckon_b85 d l0 l1 l2 l3 l5 s) := by
  unfold x_Mod_reckon_b85
  refine xW_pure (fun _ _ _ _ _ => am_iconst (v := 0) d_Mod_reckon_85 (by decide)) ?_
  refine xW_locs (lv' := [(0, .ref l0), (1, .int l1), (2, .int l2), (3, .int l3), (5, .int l5)]) rfl ?_
  exact dx_Mod_reckon_b86 O T

set_option maxRecDepth 100000 in
def x_Mod_reckon_b49 (d : Nat) (l0 : Nat) (l1 : Int32) (l2 : Int32) (l3 : Int32) (t0 : Int32) (s : HS) : Option (Int32 × HS) := if l2 < 0 then (x_Mod_reckon_b85 d l0 l1 l2 l3 t0 s) else ((gR s l0 14 37).bind fun v56 => ((gR s v56 11 0).bind fun v57 => ((aI s v57 l2).bind fun v58 => (if v58 = 2 then ((gR s l0 14 37).bind fun v59 => ((gR s v59 11 0).bind fun v60 => ((aI s v60 l3).bind fun v61 => (if v61 = 2 then (x_Mod_reckon_b86 d l0 l1 l2 l3 t0 1 s) else (x_Mod_reckon_b85 d l0 l1 l2 l3 t0 s))))) else (x_Mod_reckon_b85 d l0 l1 l2 l3 t0 s)))))

set_option maxRecDepth 100000 in
set_option maxHeartbeats 4000000 in
theorem dx_Mod_reckon_b49 (O : am_ok K X) (T : am_T K) {d : Nat} {l0 : Nat} {l1 : Int32} {l2 : Int32} {l3 : Int32} {t0 : Int32} {s : HS} : xW cvI K X m_Mod_reckon (d + 1) 49 [(0, .ref l0), (1, .int l1), (2, .int l2), (3, .int l3)] [.int t0] s (x_Mod_reckon_b49 d l0 l1 l2 l3 t0 s) := by
  unfold x_Mod_reckon_b49
  refine xW_pure (fun _ _ _ _ _ => am_istore d_Mod_reckon_49 (Nat.le_of_ble_eq_true rfl)) ?_
  refine xW_pure (fun _ _ _ _ _ => am_iload_n d_Mod_reckon_51 rfl rfl) ?_
  refine xW_ite (fun _ _ _ _ _ => am_if_lt (tgt := 85) d_Mod_reckon_52 (by decide)) (fun _ => ?_) (fun _ => ?_)
  · refine xW_locs (lv' := [(0, .ref l0), (1, .int l1), (2, .int l2), (3, .int l3), (5, .int t0)]) rfl ?_
    exact dx_Mod_reckon_b85 O T
  · refine xW_pure (fun _ _ _ _ _ => am_aload_n d_Mod_reckon_55 rfl rfl) ?_
    refine xW_gR O f_Mod_368 d_Mod_reckon_56 (fun v56 _ => ?_)
    refine xW_gR O f_Mod_515 d_Mod_reckon_59 (fun v57 _ => ?_)
    refine xW_pure (fun _ _ _ _ _ => am_iload_n d_Mod_reckon_62 rfl rfl) ?_
    refine xW_aI O d_Mod_reckon_63 (fun v58 _ => ?_)
    refine xW_pure (fun _ _ _ _ _ => am_iconst (v := 2) d_Mod_reckon_64 (by decide)) ?_
    refine xW_ite (fun _ _ _ _ _ k1 k2 => am_icmp_ne (tgt := 85) d_Mod_reckon_65 (by decide) k2 k1) (fun _ => ?_) (fun _ => ?_)
    · refine xW_pure (fun _ _ _ _ _ => am_aload_n d_Mod_reckon_68 rfl rfl) ?_
      refine xW_gR O f_Mod_368 d_Mod_reckon_69 (fun v59 _ => ?_)
      refine xW_gR O f_Mod_515 d_Mod_reckon_72 (fun v60 _ => ?_)
      refine xW_pure (fun _ _ _ _ _ => am_iload_n d_Mod_reckon_75 rfl rfl) ?_
      refine xW_aI O d_Mod_reckon_76 (fun v61 _ => ?_)
      refine xW_pure (fun _ _ _ _ _ => am_iconst (v := 2) d_Mod_reckon_77 (by decide)) ?_
      refine xW_ite (fun _ _ _ _ _ k1 k2 => am_icmp_ne (tgt := 85) d_Mod_reckon_78 (by decide) k2 k1) (fun _ => ?_) (fun _ => ?_)
      · refine xW_pure (fun _ _ _ _ _ => am_iconst (v := 1) d_Mod_reckon_81 (by decide)) ?_
        refine xW_pure (fun _ _ _ _ _ => am_goto (tgt := 86) d_Mod_reckon_82 (by decide)) ?_
        refine xW_locs (lv' := [(0, .ref l0), (1, .int l1), (2, .int l2), (3, .int l3), (5, .int t0)]) rfl ?_
        exact dx_Mod_reckon_b86 O T
      · refine xW_locs (lv' := [(0, .ref l0), (1, .int l1), (2, .int l2), (3, .int l3), (5, .int t0)]) rfl ?_
        exact dx_Mod_reckon_b85 O T
    · refine xW_locs (lv' := [(0, .ref l0), (1, .int l1), (2, .int l2), (3, .int l3), (5, .int t0)]) rfl ?_
      exact dx_Mod_reckon_b85 O T

set_option maxRecDepth 100000 in
def x_Mod_reckon_b48 (d : Nat) (l0 : Nat) (l1 : Int32) (l2 : Int32) (l3 : Int32) (s : HS) : Option (Int32 × HS) := x_Mod_reckon_b49 d l0 l1 l2 l3 0 s

set_option maxRecDepth 100000 in
set_option maxHeartbeats 4000000 in
theorem dx_Mod_reckon_b48 (O : am_ok K X) (T : am_T K) {d : Nat} {l0 : Nat} {l1 : Int32} {l2 : Int32} {l3 : Int32} {s : HS} : xW cvI K X m_Mod_reckon (d + 1) 48 [(0, .ref l0), (1, .int l1), (2, .int l2), (3, .int l3)] [] s (x_Mod_reckon_b48 d l0 l1 l2 l3 s) := by
  unfold x_Mod_reckon_b48
  refine xW_pure (fun _ _ _ _ _ => am_iconst (v := 0) d_Mod_reckon_48 (by decide)) ?_
  refine xW_locs (lv' := [(0, .ref l0), (1, .int l1), (2, .int l2), (3, .int l3)]) rfl ?_
  exact dx_Mod_reckon_b49 O T

set_option maxRecDepth 100000 in
def x_Mod_reckon (d : Nat) (x0 : Nat) (x1 : Int32) (s : HS) : Option (Int32 × HS) := match d with
  | 0 => none
  | d + 1 => gd s x0 14 ((gI s x0 14 41).bind fun v1 => ((gI s x0 14 41).bind fun v2 => (if (v1 - 2) < 0 then (x_Mod_reckon_b48 d x0 x1 (v1 - 2) (v2 - 1) s) else ((gR s x0 14 37).bind fun v62 => ((gR s v62 11 0).bind fun v63 => ((aI s v63 (v1 - 2)).bind fun v64 => (if v64 = 1 then ((gR s x0 14 37).bind fun v65 => ((gR s v65 11 0).bind fun v66 => ((aI s v66 (v2 - 1)).bind fun v67 => (if v67 = 1 then (x_Mod_reckon_b49 d x0 x1 (v1 - 2) (v2 - 1) 1 s) else (x_Mod_reckon_b48 d x0 x1 (v1 - 2) (v2 - 1) s))))) else (x_Mod_reckon_b48 d x0 x1 (v1 - 2) (v2 - 1) s))))))))

set_option maxRecDepth 100000 in
set_option maxHeartbeats 4000000 in
theorem dx_Mod_reckon (O : am_ok K X) (T : am_T K) {d : Nat} {x0 : Nat} {x1 : Int32} {s : HS} : xM cvI K X m_Mod_reckon d [.ref x0, .int x1] s (x_Mod_reckon d x0 x1 s) := by
  cases d with
  | zero => exact xM_none
  | succ d =>
    unfold x_Mod_reckon
    refine xM_enter (by decide +kernel) (Nat.le_of_ble_eq_true rfl) ?_
    refine xW_gd (fun _ => ?_)
    refine xW_pure (fun _ _ _ _ _ => am_aload_n d_Mod_reckon_0 rfl rfl) ?_
    refine xW_gI O f_Mod_486 d_Mod_reckon_1 (fun v1 _ => ?_)
    refine xW_pure (fun _ _ _ _ _ => am_iconst (v := 2) d_Mod_reckon_4 (by decide)) ?_
    refine xW_pure (fun _ _ _ _ _ => am_isub d_Mod_reckon_5) ?_
    refine xW_pure (fun _ _ _ _ _ => am_istore_n d_Mod_reckon_6 rfl (Nat.le_of_ble_eq_true rfl)) ?_
    refine xW_pure (fun _ _ _ _ _ => am_aload_n d_Mod_reckon_7 rfl rfl) ?_
    refine xW_gI O f_Mod_486 d_Mod_reckon_8 (fun v2 _ => ?_)
    refine xW_pure (fun _ _ _ _ _ => am_iconst (v := 1) d_Mod_reckon_11 (by decide)) ?_
    refine xW_pure (fun _ _ _ _ _ => am_isub d_Mod_reckon_12) ?_
    refine xW_pure (fun _ _ _ _ _ => am_istore_n d_Mod_reckon_13 rfl (Nat.le_of_ble_eq_true rfl)) ?_
    refine xW_pure (fun _ _ _ _ _ => am_iload_n d_Mod_reckon_14 rfl rfl) ?_
    refine xW_ite (fun _ _ _ _ _ => am_if_lt (tgt := 48) d_Mod_reckon_15 (by decide)) (fun _ => ?_) (fun _ => ?_)
    · refine xW_locs (lv' := [(0, .ref x0), (1, .int x1), (2, .int (v1 - 2)), (3, .int (v2 - 1))]) rfl ?_
      exact dx_Mod_reckon_b48 O T
    · refine xW_pure (fun _ _ _ _ _ => am_aload_n d_Mod_reckon_18 rfl rfl) ?_
      refine xW_gR O f_Mod_368 d_Mod_reckon_19 (fun v62 _ => ?_)
      refine xW_gR O f_Mod_515 d_Mod_reckon_22 (fun v63 _ => ?_)
      refine xW_pure (fun _ _ _ _ _ => am_iload_n d_Mod_reckon_25 rfl rfl) ?_
      refine xW_aI O d_Mod_reckon_26 (fun v64 _ => ?_)
      refine xW_pure (fun _ _ _ _ _ => am_iconst (v := 1) d_Mod_reckon_27 (by decide)) ?_
      refine xW_ite (fun _ _ _ _ _ k1 k2 => am_icmp_ne (tgt := 48) d_Mod_reckon_28 (by decide) k2 k1) (fun _ => ?_) (fun _ => ?_)
      · refine xW_pure (fun _ _ _ _ _ => am_aload_n d_Mod_reckon_31 rfl rfl) ?_
        refine xW_gR O f_Mod_368 d_Mod_reckon_32 (fun v65 _ => ?_)
        refine xW_gR O f_Mod_515 d_Mod_reckon_35 (fun v66 _ => ?_)
        refine xW_pure (fun _ _ _ _ _ => am_iload_n d_Mod_reckon_38 rfl rfl) ?_
        refine xW_aI O d_Mod_reckon_39 (fun v67 _ => ?_)
        refine xW_pure (fun _ _ _ _ _ => am_iconst (v := 1) d_Mod_reckon_40 (by decide)) ?_
        refine xW_ite (fun _ _ _ _ _ k1 k2 => am_icmp_ne (tgt := 48) d_Mod_reckon_41 (by decide) k2 k1) (fun _ => ?_) (fun _ => ?_)
        · refine xW_pure (fun _ _ _ _ _ => am_iconst (v := 1) d_Mod_reckon_44 (by decide)) ?_
          refine xW_pure (fun _ _ _ _ _ => am_goto (tgt := 49) d_Mod_reckon_45 (by decide)) ?_
          refine xW_locs (lv' := [(0, .ref x0), (1, .int x1), (2, .int (v1 - 2)), (3, .int (v2 - 1))]) rfl ?_
          exact dx_Mod_reckon_b49 O T
        · refine xW_locs (lv' := [(0, .ref x0), (1, .int x1), (2, .int (v1 - 2)), (3, .int (v2 - 1))]) rfl ?_
          exact dx_Mod_reckon_b48 O T
      · refine xW_locs (lv' := [(0, .ref x0), (1, .int x1), (2, .int (v1 - 2)), (3, .int (v2 - 1))]) rfl ?_
        exact dx_Mod_reckon_b48 O T

theorem ob_Mod_reckon {d : Nat} {x0 : Nat} {x1 : Int32} {s : HS} {y : Int32 × HS} (h : x_Mod_reckon d x0 x1 s = some y) : isO s x0 14 = true := by
  cases d with
  | zero => cases h
  | succ d => exact (gd_spec h).1
end
