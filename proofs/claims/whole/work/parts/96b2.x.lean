section
variable {K : am_K} {X : Nat → am_C}
set_option maxRecDepth 100000 in
def x_Store_copyFrom (d : Nat) (x0 : Nat) (x1 : Nat) (s : HS) : Option (Unit × HS) := match d with
  | 0 => none
  | d + 1 => gd s x0 10 ((gR s x1 10 0).bind fun v1 => ((gR s x0 10 0).bind fun v2 => ((gR s x0 10 0).bind fun v3 => ((lenA s v3).bind fun v4 => ((cpA s v1 0 v2 0 v4).bind fun s5 => ((gR s5 x1 10 1).bind fun v6 => ((gR s5 x0 10 1).bind fun v7 => ((gR s5 x0 10 1).bind fun v8 => ((lenA s5 v8).bind fun v9 => ((cpA s5 v6 0 v7 0 v9).bind fun s10 => ((gR s10 x1 10 2).bind fun v11 => ((gR s10 x0 10 2).bind fun v12 => ((gR s10 x0 10 2).bind fun v13 => ((lenA s10 v13).bind fun v14 => ((cpA s10 v11 0 v12 0 v14).bind fun s15 => ((gR s15 x1 10 3).bind fun v16 => ((gR s15 x0 10 3).bind fun v17 => ((gR s15 x0 10 3).bind fun v18 => ((lenA s15 v18).bind fun v19 => ((cpA s15 v16 0 v17 0 v19).bind fun s20 => ((gR s20 x1 10 4).bind fun v21 => ((gR s20 x0 10 4).bind fun v22 => ((gR s20 x0 10 4).bind fun v23 => ((lenA s20 v23).bind fun v24 => ((cpA s20 v21 0 v22 0 v24).bind fun s25 => ((gR s25 x1 10 5).bind fun v26 => ((gR s25 x0 10 5).bind fun v27 => ((gR s25 x0 10 5).bind fun v28 => ((lenA s25 v28).bind fun v29 => ((cpA s25 v26 0 v27 0 v29).bind fun s30 => (loopK (fun (again110 : Int32 × HS → Option (Unit × HS)) (z110 : Int32 × HS) => (if 10 ≤ z110.1 then ((gI z110.2 x1 10 6).bind fun v31 => ((pV z110.2 x0 10 6 (.int v31)).bind fun s32 => ((gI s32 x1 10 8).bind fun v33 => ((pV s32 x0 10 8 (.int v33)).bind fun s34 => (some ((), s34)))))) else ((gR z110.2 x0 10 7).bind fun v35 => ((gR z110.2 x1 10 7).bind fun v36 => ((aN "StowTongue$Unit" z110.2 v36 z110.1).bind fun y => y.elim ((sV z110.2 (.object "StowTongue$Unit") v35 z110.1 .null).bind fun s38 => (again110 ((z110.1 + 1), s38))) (fun v37 => (sR "StowTongue$Unit" 4 z110.2 v35 z110.1 v37).bind fun s39 => (again110 ((z110.1 + 1), s39)))))))) FU (0, s30))))))))))))))))))))))))))))))))

set_option maxRecDepth 100000 in
set_option maxHeartbeats 4000000 in
theorem dx_Store_copyFrom (O : am_ok K X) (T : am_T K) {d : Nat} {x0 : Nat} {x1 : Nat} {s : HS} : xM cvU K X m_Store_copyFrom d [.ref x0, .ref x1] s (x_Store_copyFrom d x0 x1 s) := by
  cases d with
  | zero => exact xM_none
  | succ d =>
    unfold x_Store_copyFrom
    refine xM_enter (by decide +kernel) (Nat.le_of_ble_eq_true rfl) ?_
    refine xW_gd (fun _ => ?_)
    refine xW_pure (fun _ _ _ _ _ => am_aload_n d_Store_copyFrom_0 rfl rfl) ?_
    refine xW_gR O f_Store_9 d_Store_copyFrom_1 (fun v1 _ => ?_)
    refine xW_pure (fun _ _ _ _ _ => am_iconst (v := 0) d_Store_copyFrom_4 (by decide)) ?_
    refine xW_pure (fun _ _ _ _ _ => am_aload_n d_Store_copyFrom_5 rfl rfl) ?_
    refine xW_gR O f_Store_9 d_Store_copyFrom_6 (fun v2 _ => ?_)
    refine xW_pure (fun _ _ _ _ _ => am_iconst (v := 0) d_Store_copyFrom_9 (by decide)) ?_
    refine xW_pure (fun _ _ _ _ _ => am_aload_n d_Store_copyFrom_10 rfl rfl) ?_
    refine xW_gR O f_Store_9 d_Store_copyFrom_11 (fun v3 _ => ?_)
    refine xW_len O d_Store_copyFrom_14 (fun v4 _ => ?_)
    refine xW_copy O w_1016 w_735 w_734 w_167 d_Store_copyFrom_15 (Nat.le_of_ble_eq_true rfl) (fun s5 _ => ?_)
    refine xW_pure (fun _ _ _ _ _ => am_aload_n d_Store_copyFrom_18 rfl rfl) ?_
    refine xW_gR O f_Store_13 d_Store_copyFrom_19 (fun v6 _ => ?_)
    refine xW_pure (fun _ _ _ _ _ => am_iconst (v := 0) d_Store_copyFrom_22 (by decide)) ?_
    refine xW_pure (fun _ _ _ _ _ => am_aload_n d_Store_copyFrom_23 rfl rfl) ?_
    refine xW_gR O f_Store_13 d_Store_copyFrom_24 (fun v7 _ => ?_)
    refine xW_pure (fun _ _ _ _ _ => am_iconst (v := 0) d_Store_copyFrom_27 (by decide)) ?_
    refine xW_pure (fun _ _ _ _ _ => am_aload_n d_Store_copyFrom_28 rfl rfl) ?_
    refine xW_gR O f_Store_13 d_Store_copyFrom_29 (fun v8 _ => ?_)
    refine xW_len O d_Store_copyFrom_32 (fun v9 _ => ?_)
    refine xW_copy O w_1016 w_735 w_734 w_167 d_Store_copyFrom_33 (Nat.le_of_ble_eq_true rfl) (fun s10 _ => ?_)
    refine xW_pure (fun _ _ _ _ _ => am_aload_n d_Store_copyFrom_36 rfl rfl) ?_
    refine xW_gR O f_Store_16 d_Store_copyFrom_37 (fun v11 _ => ?_)
    refine xW_pure (fun _ _ _ _ _ => am_iconst (v := 0) d_Store_copyFrom_40 (by decide)) ?_
    refine xW_pure (fun _ _ _ _ _ => am_aload_n d_Store_copyFrom_41 rfl rfl) ?_
    refine xW_gR O f_Store_16 d_Store_copyFrom_42 (fun v12 _ => ?_)
    refine xW_pure (fun _ _ _ _ _ => am_iconst (v := 0) d_Store_copyFrom_45 (by decide)) ?_
    refine xW_pure (fun _ _ _ _ _ => am_aload_n d_Store_copyFrom_46 rfl rfl) ?_
    refine xW_gR O f_Store_16 d_Store_copyFrom_47 (fun v13 _ => ?_)
    refine xW_len O d_Store_copyFrom_50 (fun v14 _ => ?_)
    refine xW_copy O w_1016 w_735 w_734 w_167 d_Store_copyFrom_51 (Nat.le_of_ble_eq_true rfl) (fun s15 _ => ?_)
    refine xW_pure (fun _ _ _ _ _ => am_aload_n d_Store_copyFrom_54 rfl rfl) ?_
    refine xW_gR O f_Store_20 d_Store_copyFrom_55 (fun v16 _ => ?_)
    refine xW_pure (fun _ _ _ _ _ => am_iconst (v := 0) d_Store_copyFrom_58 (by decide)) ?_
    refine xW_pure (fun _ _ _ _ _ => am_aload_n d_Store_copyFrom_59 rfl rfl) ?_
    refine xW_gR O f_Store_20 d_Store_copyFrom_60 (fun v17 _ => ?_)
    refine xW_pure (fun _ _ _ _ _ => am_iconst (v := 0) d_Store_copyFrom_63 (by decide)) ?_
    refine xW_pure (fun _ _ _ _ _ => am_aload_n d_Store_copyFrom_64 rfl rfl) ?_
    refine xW_gR O f_Store_20 d_Store_copyFrom_65 (fun v18 _ => ?_)
    refine xW_len O d_Store_copyFrom_68 (fun v19 _ => ?_)
    refine xW_copy O w_1016 w_735 w_734 w_167 d_Store_copyFrom_69 (Nat.le_of_ble_eq_true rfl) (fun s20 _ => ?_)
    refine xW_pure (fun _ _ _ _ _ => am_aload_n d_Store_copyFrom_72 rfl rfl) ?_
    refine xW_gR O f_Store_23 d_Store_copyFrom_73 (fun v21 _ => ?_)
    refine xW_pure (fun _ _ _ _ _ => am_iconst (v := 0) d_Store_copyFrom_76 (by decide)) ?_
    refine xW_pure (fun _ _ _ _ _ => am_aload_n d_Store_copyFrom_77 rfl rfl) ?_
    refine xW_gR O f_Store_23 d_Store_copyFrom_78 (fun v22 _ => ?_)
    refine xW_pure (fun _ _ _ _ _ => am_iconst (v := 0) d_Store_copyFrom_81 (by decide)) ?_
    refine xW_pure (fun _ _ _ _ _ => am_aload_n d_Store_copyFrom_82 rfl rfl) ?_
    refine xW_gR O f_Store_23 d_Store_copyFrom_83 (fun v23 _ => ?_)
    refine xW_len O d_Store_copyFrom_86 (fun v24 _ => ?_)
    refine xW_copy O w_1016 w_735 w_734 w_167 d_Store_copyFrom_87 (Nat.le_of_ble_eq_true rfl) (fun s25 _ => ?_)
    refine xW_pure (fun _ _ _ _ _ => am_aload_n d_Store_copyFrom_90 rfl rfl) ?_
    refine xW_gR O f_Store_26 d_Store_copyFrom_91 (fun v26 _ => ?_)
    refine xW_pure (fun _ _ _ _ _ => am_iconst (v := 0) d_Store_copyFrom_94 (by decide)) ?_
    refine xW_pure (fun _ _ _ _ _ => am_aload_n d_Store_copyFrom_95 rfl rfl) ?_
    refine xW_gR O f_Store_26 d_Store_copyFrom_96 (fun v27 _ => ?_)
    refine xW_pure (fun _ _ _ _ _ => am_iconst (v := 0) d_Store_copyFrom_99 (by decide)) ?_
    refine xW_pure (fun _ _ _ _ _ => am_aload_n d_Store_copyFrom_100 rfl rfl) ?_
    refine xW_gR O f_Store_26 d_Store_copyFrom_101 (fun v28 _ => ?_)
    refine xW_len O d_Store_copyFrom_104 (fun v29 _ => ?_)
    refine xW_copy O w_1016 w_735 w_734 w_167 d_Store_copyFrom_105 (Nat.le_of_ble_eq_true rfl) (fun s30 _ => ?_)
    refine xW_pure (fun _ _ _ _ _ => am_iconst (v := 0) d_Store_copyFrom_108 (by decide)) ?_
    refine xW_pure (fun _ _ _ _ _ => am_istore_n d_Store_copyFrom_109 rfl (Nat.le_of_ble_eq_true rfl)) ?_
    refine xW_locs (lv' := [(0, .ref x0), (1, .ref x1), (2, .int 0)]) rfl ?_
    refine xW_loop (lvf := fun (z110 : Int32 × HS) => [(0, .ref x0), (1, .ref x1), (2, .int z110.1)]) (hsf := fun (z110 : Int32 × HS) => z110.2) (fun again110 ih110 z110 => ?_) FU (0, s30)
    refine xW_pure (fun _ _ _ _ _ => am_iload_n d_Store_copyFrom_110 rfl rfl) ?_
    refine xW_pure (fun _ _ _ _ _ => am_bipush (v := 10) d_Store_copyFrom_111 (by decide)) ?_
    refine xW_ite (fun _ _ _ _ _ => am_icmp_ge (tgt := 134) d_Store_copyFrom_113 (by decide)) (fun _ => ?_) (fun _ => ?_)
    · refine xW_pure (fun _ _ _ _ _ => am_aload_n d_Store_copyFrom_134 rfl rfl) ?_
      refine xW_pure (fun _ _ _ _ _ => am_aload_n d_Store_copyFrom_135 rfl rfl) ?_
      refine xW_gI O f_Store_47 d_Store_copyFrom_136 (fun v31 _ => ?_)
      refine xW_put O f_Store_47 d_Store_copyFrom_139 (fun q hq => by cases hq; exact ⟨rfl, rfl, rfl⟩) (fun s32 _ => ?_)
      refine xW_pure (fun _ _ _ _ _ => am_aload_n d_Store_copyFrom_142 rfl rfl) ?_
      refine xW_pure (fun _ _ _ _ _ => am_aload_n d_Store_copyFrom_143 rfl rfl) ?_
      refine xW_gI O f_Store_51 d_Store_copyFrom_144 (fun v33 _ => ?_)
      refine xW_put O f_Store_51 d_Store_copyFrom_147 (fun q hq => by cases hq; exact ⟨rfl, rfl, rfl⟩) (fun s34 _ => ?_)
      exact xW_ret (fun _ _ _ _ _ => am_vret rfl d_Store_copyFrom_150)
    · refine xW_pure (fun _ _ _ _ _ => am_aload_n d_Store_copyFrom_116 rfl rfl) ?_
      refine xW_gR O f_Store_31 d_Store_copyFrom_117 (fun v35 _ => ?_)
      refine xW_pure (fun _ _ _ _ _ => am_iload_n d_Store_copyFrom_120 rfl rfl) ?_
      refine xW_pure (fun _ _ _ _ _ => am_aload_n d_Store_copyFrom_121 rfl rfl) ?_
      refine xW_gR O f_Store_31 d_Store_copyFrom_122 (fun v36 _ => ?_)
      refine xW_pure (fun _ _ _ _ _ => am_iload_n d_Store_copyFrom_125 rfl rfl) ?_
      refine xW_aN O (by decide) d_Store_copyFrom_126 (fun _ => ?_) (fun v37 _ => ?_)
      · refine xW_sN O (by decide) d_Store_copyFrom_127 (fun s38 _ => ?_)
        refine xW_pure (fun _ _ _ _ _ => am_iinc (v := 1) d_Store_copyFrom_128 rfl (by decide) (Nat.le_of_ble_eq_true rfl)) ?_
        refine xW_pure (fun _ _ _ _ _ => am_goto (tgt := 110) d_Store_copyFrom_131 (by decide)) ?_
        refine xW_locs (lv' := [(0, .ref x0), (1, .ref x1), (2, .int (z110.1 + 1))]) rfl ?_
        exact ih110 ((z110.1 + 1), s38)
      · refine xW_sR O (ci := 4) (by rfl) (by rfl) (by decide) d_Store_copyFrom_127 (fun s39 _ => ?_)
        refine xW_pure (fun _ _ _ _ _ => am_iinc (v := 1) d_Store_copyFrom_128 rfl (by decide) (Nat.le_of_ble_eq_true rfl)) ?_
        refine xW_pure (fun _ _ _ _ _ => am_goto (tgt := 110) d_Store_copyFrom_131 (by decide)) ?_
        refine xW_locs (lv' := [(0, .ref x0), (1, .ref x1), (2, .int (z110.1 + 1))]) rfl ?_
        exact ih110 ((z110.1 + 1), s39)

theorem ob_Store_copyFrom {d : Nat} {x0 : Nat} {x1 : Nat} {s : HS} {y : Unit × HS} (h : x_Store_copyFrom d x0 x1 s = some y) : isO s x0 10 = true := by
  cases d with
  | zero => cases h
  | succ d => exact (gd_spec h).1

set_option maxRecDepth 100000 in
def x_Unit_name (d : Nat) (x0 : Nat) (s : HS) : Option (Int64 × HS) := gd s x0 4 ((gL s x0 4 0).bind fun v1 => (some (v1, s)))

set_option maxRecDepth 100000 in
set_option maxHeartbeats 4000000 in
theorem dx_Unit_name (O : am_ok K X) (T : am_T K) {d : Nat} {x0 : Nat} {s : HS} : xM cvL K X m_Unit_name d [.ref x0] s (x_Unit_name d x0 s) := by
  unfold x_Unit_name
  refine xM_enter (by decide +kernel) (Nat.le_of_ble_eq_true rfl) ?_
  refine xW_gd (fun _ => ?_)
  refine xW_pure (fun _ _ _ _ _ => am_aload_n d_Unit_name_0 rfl rfl) ?_
  refine xW_gL O f_Unit_7 d_Unit_name_1 (fun v1 _ => ?_)
  exact xW_ret (fun _ _ _ _ _ => am_lret rfl d_Unit_name_4)

theorem ob_Unit_name {d : Nat} {x0 : Nat} {s : HS} {y : Int64 × HS} (h : x_Unit_name d x0 s = some y) : isO s x0 4 = true := (gd_spec h).1

set_option maxRecDepth 100000 in
def x_Store_functionAt (d : Nat) (x0 : Nat) (x1 : Int64) (s : HS) : Option (Int32 × HS) := match d with
  | 0 => none
  | d + 1 => gd s x0 10 (loopK (fun (again2 : Int32 × HS → Option (Int32 × HS)) (z2 : Int32 × HS) => ((gI z2.2 x0 10 8).bind fun v1 => (if v1 ≤ z2.1 then (some ((-1), z2.2)) else ((gR z2.2 x0 10 7).bind fun v2 => ((aR "StowTongue$Unit" z2.2 v2 z2.1).bind fun v3 => ((gR z2.2 x0 10 7).bind fun v4 => ((aR "StowTongue$Unit" z2.2 v4 z2.1).bind fun v5 => (bnd (x_Unit_name d v5 z2.2) fun v7 s6 => (if (lg_cmp v7 x1) = 0 then (some (z2.1, s6)) else (again2 ((z2.1 + 1), s6))))))))))) FU (0, s))

set_option maxRecDepth 100000 in
set_option maxHeartbeats 4000000 in
theorem dx_Store_functionAt (O : am_ok K X) (T : am_T K) {d : Nat} {x0 : Nat} {x1 : Int64} {s : HS} : xM cvI K X m_Store_functionAt d [.ref x0, .long x1] s (x_Store_functionAt d x0 x1 s) := by
  cases d with
  | zero => exact xM_none
  | succ d =>
    unfold x_Store_functionAt
    refine xM_enter (by decide +kernel) (Nat.le_of_ble_eq_true rfl) ?_
    refine xW_gd (fun _ => ?_)
    refine xW_pure (fun _ _ _ _ _ => am_iconst (v := 0) d_Store_functionAt_0 (by decide)) ?_
    refine xW_pure (fun _ _ _ _ _ => am_istore_n d_Store_functionAt_1 rfl (Nat.le_of_ble_eq_true rfl)) ?_
    refine xW_locs (lv' := [(0, .ref x0), (1, .long x1), (3, .int 0)]) rfl ?_
    refine xW_loop (lvf := fun (z2 : Int32 × HS) => [(0, .ref x0), (1, .long x1), (3, .int z2.1)]) (hsf := fun (z2 : Int32 × HS) => z2.2) (fun again2 ih2 z2 => ?_) FU (0, s)
    refine xW_pure (fun _ _ _ _ _ => am_iload_n d_Store_functionAt_2 rfl rfl) ?_
    refine xW_pure (fun _ _ _ _ _ => am_aload_n d_Store_functionAt_3 rfl rfl) ?_
    refine xW_gI O f_Store_51 d_Store_functionAt_4 (fun v1 _ => ?_)
    refine xW_ite (fun _ _ _ _ _ => am_icmp_ge (tgt := 41) d_Store_functionAt_7 (by decide)) (fun _ => ?_) (fun _ => ?_)
    · refine xW_pure (fun _ _ _ _ _ => am_iconst (v := (-1)) d_Store_functionAt_41 (by decide)) ?_
      exact xW_ret (fun _ _ _ _ _ => am_iret rfl d_Store_functionAt_42)
    · refine xW_pure (fun _ _ _ _ _ => am_aload_n d_Store_functionAt_10 rfl rfl) ?_
      refine xW_gR O f_Store_31 d_Store_functionAt_11 (fun v2 _ => ?_)
      refine xW_pure (fun _ _ _ _ _ => am_iload_n d_Store_functionAt_14 rfl rfl) ?_
      refine xW_aR O (by decide) d_Store_functionAt_15 (fun v3 _ => ?_)
      refine xW_pure (fun _ _ _ _ _ => am_ifnullR d_Store_functionAt_16) ?_
      refine xW_pure (fun _ _ _ _ _ => am_aload_n d_Store_functionAt_19 rfl rfl) ?_
      refine xW_gR O f_Store_31 d_Store_functionAt_20 (fun v4 _ => ?_)
      refine xW_pure (fun _ _ _ _ _ => am_iload_n d_Store_functionAt_23 rfl rfl) ?_
      refine xW_aR O (by decide) d_Store_functionAt_24 (fun v5 _ => ?_)
      refine xW_callV O (dx_Unit_name O T) (fun _ e => ob_Unit_name e) rfl rfl rfl l_Store_93 ⟨w_1042, w_1043⟩ rfl (Nat.le_of_ble_eq_true rfl) d_Store_functionAt_25 (fun v7 s6 _ => ?_)
      refine xW_pure (fun _ _ _ _ _ => am_lload_n d_Store_functionAt_28 rfl rfl) ?_
      refine xW_pure (fun _ _ _ _ _ => am_lcmp d_Store_functionAt_29) ?_
      refine xW_ite (fun _ _ _ _ _ k1 k2 => am_if_ne (tgt := 35) d_Store_functionAt_30 (by decide) k2 k1) (fun _ => ?_) (fun _ => ?_)
      · refine xW_pure (fun _ _ _ _ _ => am_iload_n d_Store_functionAt_33 rfl rfl) ?_
        exact xW_ret (fun _ _ _ _ _ => am_iret rfl d_Store_functionAt_34)
      · refine xW_pure (fun _ _ _ _ _ => am_iinc (v := 1) d_Store_functionAt_35 rfl (by decide) (Nat.le_of_ble_eq_true rfl)) ?_
        refine xW_pure (fun _ _ _ _ _ => am_goto (tgt := 2) d_Store_functionAt_38 (by decide)) ?_
        refine xW_locs (lv' := [(0, .ref x0), (1, .long x1), (3, .int (z2.1 + 1))]) rfl ?_
        exact ih2 ((z2.1 + 1), s6)

theorem ob_Store_functionAt {d : Nat} {x0 : Nat} {x1 : Int64} {s : HS} {y : Int32 × HS} (h : x_Store_functionAt d x0 x1 s = some y) : isO s x0 10 = true := by
  cases d with
  | zero => cases h
  | succ d => exact (gd_spec h).1

set_option maxRecDepth 100000 in
def x_Unit_tokens (d : Nat) (x0 : Nat) (s : HS) : Option (Int32 × HS) := gd s x0 4 ((gI s x0 4 3).bind fun v1 => (some (v1, s)))

set_option maxRecDepth 100000 in
set_option maxHeartbeats 4000000 in
theorem dx_Unit_tokens (O : am_ok K X) (T : am_T K) {d : Nat} {x0 : Nat} {s : HS} : xM cvI K X m_Unit_tokens d [.ref x0] s (x_Unit_tokens d x0 s) := by
  unfold x_Unit_tokens
  refine xM_enter (by decide +kernel) (Nat.le_of_ble_eq_true rfl) ?_
  refine xW_gd (fun _ => ?_)
  refine xW_pure (fun _ _ _ _ _ => am_aload_n d_Unit_tokens_0 rfl rfl) ?_
  refine xW_gI O f_Unit_20 d_Unit_tokens_1 (fun v1 _ => ?_)
  exact xW_ret (fun _ _ _ _ _ => am_iret rfl d_Unit_tokens_4)

theorem ob_Unit_tokens {d : Nat} {x0 : Nat} {s : HS} {y : Int32 × HS} (h : x_Unit_tokens d x0 s = some y) : isO s x0 4 = true := (gd_spec h).1

set_option maxRecDepth 100000 in
def x_Pars_program (d : Nat) (x0 : Nat) (s : HS) : Option (Nat × HS) := gd s x0 5 ((gR s x0 5 5).bind fun v1 => (some (v1, s)))

set_option maxRecDepth 100000 in
set_option maxHeartbeats 4000000 in
theorem dx_Pars_program (O : am_ok K X) (T : am_T K) {d : Nat} {x0 : Nat} {s : HS} : xM cvR K X m_Pars_program d [.ref x0] s (x_Pars_program d x0 s) := by
  unfold x_Pars_program
  refine xM_enter (by decide +kernel) (Nat.le_of_ble_eq_true rfl) ?_
  refine xW_gd (fun _ => ?_)
  refine xW_pure (fun _ _ _ _ _ => am_aload_n d_Pars_program_0 rfl rfl) ?_
  refine xW_gR O f_Pars_43 d_Pars_program_1 (fun v1 _ => ?_)
  exact xW_ret (fun _ _ _ _ _ => am_aret rfl (Or.inl ⟨_, rfl⟩) d_Pars_program_4)

theorem ob_Pars_program {d : Nat} {x0 : Nat} {s : HS} {y : Nat × HS} (h : x_Pars_program d x0 s = some y) : isO s x0 5 = true := (gd_spec h).1

set_option maxRecDepth 100000 in
def x_Mach_below (d : Nat) (x0 : Nat) (x1 : Int32) (s : HS) : Option (Int32 × HS) := match d with
  | 0 => none
  | d + 1 => gd s x0 6 ((gI s x0 6 2).bind fun v1 => (some ((if 0 < (v1 - x1) then (v1 - x1) else 0), s)))

set_option maxRecDepth 100000 in
set_option maxHeartbeats 4000000 in
theorem dx_Mach_below (O : am_ok K X) (T : am_T K) {d : Nat} {x0 : Nat} {x1 : Int32} {s : HS} : xM cvI K X m_Mach_below d [.ref x0, .int x1] s (x_Mach_below d x0 x1 s) := by
  cases d with
  | zero => exact xM_none
  | succ d =>
    unfold x_Mach_below
    refine xM_enter (by decide +kernel) (Nat.le_of_ble_eq_true rfl) ?_
    refine xW_gd (fun _ => ?_)
    refine xW_pure (fun _ _ _ _ _ => am_iconst (v := 0) d_Mach_below_0 (by decide)) ?_
    refine xW_pure (fun _ _ _ _ _ => am_aload_n d_Mach_below_1 rfl rfl) ?_
    refine xW_gI O f_Mach_54 d_Mach_below_2 (fun v1 _ => ?_)
    refine xW_pure (fun _ _ _ _ _ => am_iload_n d_Mach_below_5 rfl rfl) ?_
    refine xW_pure (fun _ _ _ _ _ => am_isub d_Mach_below_6) ?_
    refine xW_pure (fun _ _ _ _ _ => am_mmax w_1073 w_623 w_164 w_624 d_Mach_below_7 (Nat.le_of_ble_eq_true rfl) (by omega)) ?_
    exact xW_ret (fun _ _ _ _ _ => am_iret rfl d_Mach_below_10)

theorem ob_Mach_below {d : Nat} {x0 : Nat} {x1 : Int32} {s : HS} {y : Int32 × HS} (h : x_Mach_below d x0 x1 s = some y) : isO s x0 6 = true := by
  cases d with
  | zero => cases h
  | succ d => exact (gd_spec h).1

set_option maxRecDepth 100000 in
def x_Unit_locals (d : Nat) (x0 : Nat) (s : HS) : Option (Int32 × HS) := gd s x0 4 ((gI s x0 4 2).bind fun v1 => (some (v1, s)))

set_option maxRecDepth 100000 in
set_option maxHeartbeats 4000000 in
theorem dx_Unit_locals (O : am_ok K X) (T : am_T K) {d : Nat} {x0 : Nat} {s : HS} : xM cvI K X m_Unit_locals d [.ref x0] s (x_Unit_locals d x0 s) := by
  unfold x_Unit_locals
  refine xM_enter (by decide +kernel) (Nat.le_of_ble_eq_true rfl) ?_
  refine xW_gd (fun _ => ?_)
  refine xW_pure (fun _ _ _ _ _ => am_aload_n d_Unit_locals_0 rfl rfl) ?_
  refine xW_gI O f_Unit_17 d_Unit_locals_1 (fun v1 _ => ?_)
  exact xW_ret (fun _ _ _ _ _ => am_iret rfl d_Unit_locals_4)

theorem ob_Unit_locals {d : Nat} {x0 : Nat} {s : HS} {y : Int32 × HS} (h : x_Unit_locals d x0 s = some y) : isO s x0 4 = true := (gd_spec h).1

set_option maxRecDepth 100000 in
def x_Mach_fail (d : Nat) (x0 : Nat) (x1 : Int32) (s : HS) : Option (Unit × HS) := gd s x0 6 ((pV s x0 6 14 (.int x1)).bind fun s1 => ((pV s1 x0 6 15 (.int 1)).bind fun s2 => (some ((), s2))))

set_option maxRecDepth 100000 in
set_option maxHeartbeats 4000000 in
theorem dx_Mach_fail (O : am_ok K X) (T : am_T K) {d : Nat} {x0 : Nat} {x1 : Int32} {s : HS} : xM cvU K X m_Mach_fail d [.ref x0, .int x1] s (x_Mach_fail d x0 x1 s) := by
  unfold x_Mach_fail
  refine xM_enter (by decide +kernel) (Nat.le_of_ble_eq_true rfl) ?_
  refine xW_gd (fun _ => ?_)
  refine xW_pure (fun _ _ _ _ _ => am_aload_n d_Mach_fail_0 rfl rfl) ?_
  refine xW_pure (fun _ _ _ _ _ => am_iload_n d_Mach_fail_1 rfl rfl) ?_
  refine xW_put O f_Mach_44 d_Mach_fail_2 (fun q hq => by cases hq; exact ⟨rfl, rfl, rfl⟩) (fun s1 _ => ?_)
  refine xW_pure (fun _ _ _ _ _ => am_aload_n d_Mach_fail_5 rfl rfl) ?_
  refine xW_pure (fun _ _ _ _ _ => am_iconst (v := 1) d_Mach_fail_6 (by decide)) ?_
  refine xW_put O f_Mach_47 d_Mach_fail_7 (fun q hq => by cases hq; exact ⟨rfl, rfl, rfl⟩) (fun s2 _ => ?_)
  exact xW_ret (fun _ _ _ _ _ => am_vret rfl d_Mach_fail_10)

theorem ob_Mach_fail {d : Nat} {x0 : Nat} {x1 : Int32} {s : HS} {y : Unit × HS} (h : x_Mach_fail d x0 x1 s = some y) : isO s x0 6 = true := (gd_spec h).1

set_option maxRecDepth 100000 in
def x_Unit_op (d : Nat) (x0 : Nat) (x1 : Int32) (s : HS) : Option (Int32 × HS) := gd s x0 4 (if (2 * x1) < 0 then (some (6, s)) else ((gR s x0 4 4).bind fun v1 => ((lenA s v1).bind fun v2 => (if v2 ≤ (2 * x1) then (some (6, s)) else ((gR s x0 4 4).bind fun v3 => ((aI s v3 (2 * x1)).bind fun v4 => (some (v4, s))))))))

set_option maxRecDepth 100000 in
set_option maxHeartbeats 4000000 in
theorem dx_Unit_op (O : am_ok K X) (T : am_T K) {d : Nat} {x0 : Nat} {x1 : Int32} {s : HS} : xM cvI K X m_Unit_op d [.ref x0, .int x1] s (x_Unit_op d x0 x1 s) := by
  unfold x_Unit_op
  refine xM_enter (by decide +kernel) (Nat.le_of_ble_eq_true rfl) ?_
  refine xW_gd (fun _ => ?_)
  refine xW_pure (fun _ _ _ _ _ => am_iconst (v := 2) d_Unit_op_0 (by decide)) ?_
  refine xW_pure (fun _ _ _ _ _ => am_iload_n d_Unit_op_1 rfl rfl) ?_
  refine xW_pure (fun _ _ _ _ _ => am_imul d_Unit_op_2) ?_
  refine xW_pure (fun _ _ _ _ _ => am_istore_n d_Unit_op_3 rfl (Nat.le_of_ble_eq_true rfl)) ?_
  refine xW_pure (fun _ _ _ _ _ => am_iload_n d_Unit_op_4 rfl rfl) ?_
  refine xW_ite (fun _ _ _ _ _ => am_if_lt (tgt := 26) d_Unit_op_5 (by decide)) (fun _ => ?_) (fun _ => ?_)
  · refine xW_pure (fun _ _ _ _ _ => am_bipush (v := 6) d_Unit_op_26 (by decide)) ?_
    exact xW_ret (fun _ _ _ _ _ => am_iret rfl d_Unit_op_28)
  · refine xW_pure (fun _ _ _ _ _ => am_iload_n d_Unit_op_8 rfl rfl) ?_
    refine xW_pure (fun _ _ _ _ _ => am_aload_n d_Unit_op_9 rfl rfl) ?_
    refine xW_gR O f_Unit_23 d_Unit_op_10 (fun v1 _ => ?_)
    refine xW_len O d_Unit_op_13 (fun v2 _ => ?_)
    refine xW_ite (fun _ _ _ _ _ => am_icmp_ge (tgt := 26) d_Unit_op_14 (by decide)) (fun _ => ?_) (fun _ => ?_)
    · refine xW_pure (fun _ _ _ _ _ => am_bipush (v := 6) d_Unit_op_26 (by decide)) ?_
      exact xW_ret (fun _ _ _ _ _ => am_iret rfl d_Unit_op_28)
    · refine xW_pure (fun _ _ _ _ _ => am_aload_n d_Unit_op_17 rfl rfl) ?_
      refine xW_gR O f_Unit_23 d_Unit_op_18 (fun v3 _ => ?_)
      refine xW_pure (fun _ _ _ _ _ => am_iload_n d_Unit_op_21 rfl rfl) ?_
      refine xW_aI O d_Unit_op_22 (fun v4 _ => ?_)
      refine xW_pure (fun _ _ _ _ _ => am_goto (tgt := 28) d_Unit_op_23 (by decide)) ?_
      exact xW_ret (fun _ _ _ _ _ => am_iret rfl d_Unit_op_28)

theorem ob_Unit_op {d : Nat} {x0 : Nat} {x1 : Int32} {s : HS} {y : Int32 × HS} (h : x_Unit_op d x0 x1 s = some y) : isO s x0 4 = true := (gd_spec h).1

set_option maxRecDepth 100000 in
def x_Unit_argument (d : Nat) (x0 : Nat) (x1 : Int32) (s : HS) : Option (Int32 × HS) := gd s x0 4 (if ((2 * x1) + 1) < 1 then (some (0, s)) else ((gR s x0 4 4).bind fun v1 => ((lenA s v1).bind fun v2 => (if v2 ≤ ((2 * x1) + 1) then (some (0, s)) else ((gR s x0 4 4).bind fun v3 => ((aI s v3 ((2 * x1) + 1)).bind fun v4 => (some (v4, s))))))))

set_option maxRecDepth 100000 in
set_option maxHeartbeats 4000000 in
theorem dx_Unit_argument (O : am_ok K X) (T : am_T K) {d : Nat} {x0 : Nat} {x1 : Int32} {s : HS} : xM cvI K X m_Unit_argument d [.ref x0, .int x1] s (x_Unit_argument d x0 x1 s) := by
  unfold x_Unit_argument
  refine xM_enter (by decide +kernel) (Nat.le_of_ble_eq_true rfl) ?_
  refine xW_gd (fun _ => ?_)
  refine xW_pure (fun _ _ _ _ _ => am_iconst (v := 2) d_Unit_argument_0 (by decide)) ?_
  refine xW_pure (fun _ _ _ _ _ => am_iload_n d_Unit_argument_1 rfl rfl) ?_
  refine xW_pure (fun _ _ _ _ _ => am_imul d_Unit_argument_2) ?_
  refine xW_pure (fun _ _ _ _ _ => am_iconst (v := 1) d_Unit_argument_3 (by decide)) ?_
  refine xW_pure (fun _ _ _ _ _ => am_iadd d_Unit_argument_4) ?_
  refine xW_pure (fun _ _ _ _ _ => am_istore_n d_Unit_argument_5 rfl (Nat.le_of_ble_eq_true rfl)) ?_
  refine xW_pure (fun _ _ _ _ _ => am_iload_n d_Unit_argument_6 rfl rfl) ?_
  refine xW_pure (fun _ _ _ _ _ => am_iconst (v := 1) d_Unit_argument_7 (by decide)) ?_
  refine xW_ite (fun _ _ _ _ _ => am_icmp_lt (tgt := 29) d_Unit_argument_8 (by decide)) (fun _ => ?_) (fun _ => ?_)
  · refine xW_pure (fun _ _ _ _ _ => am_iconst (v := 0) d_Unit_argument_29 (by decide)) ?_
    exact xW_ret (fun _ _ _ _ _ => am_iret rfl d_Unit_argument_30)
  · refine xW_pure (fun _ _ _ _ _ => am_iload_n d_Unit_argument_11 rfl rfl) ?_
    refine xW_pure (fun _ _ _ _ _ => am_aload_n d_Unit_argument_12 rfl rfl) ?_
    refine xW_gR O f_Unit_23 d_Unit_argument_13 (fun v1 _ => ?_)
    refine xW_len O d_Unit_argument_16 (fun v2 _ => ?_)
    refine xW_ite (fun _ _ _ _ _ => am_icmp_ge (tgt := 29) d_Unit_argument_17 (by decide)) (fun _ => ?_) (fun _ => ?_)
    · refine xW_pure (fun _ _ _ _ _ => am_iconst (v := 0) d_Unit_argument_29 (by decide)) ?_
      exact xW_ret (fun _ _ _ _ _ => am_iret rfl d_Unit_argument_30)
    · refine xW_pure (fun _ _ _ _ _ => am_aload_n d_Unit_argument_20 rfl rfl) ?_
      refine xW_gR O f_Unit_23 d_Unit_argument_21 (fun v3 _ => ?_)
      refine xW_pure (fun _ _ _ _ _ => am_iload_n d_Unit_argument_24 rfl rfl) ?_
      refine xW_aI O d_Unit_argument_25 (fun v4 _ => ?_)
      refine xW_pure (fun _ _ _ _ _ => am_goto (tgt := 30) d_Unit_argument_26 (by decide)) ?_
      exact xW_ret (fun _ _ _ _ _ => am_iret rfl d_Unit_argument_30)

theorem ob_Unit_argument {d : Nat} {x0 : Nat} {x1 : Int32} {s : HS} {y : Int32 × HS} (h : x_Unit_argument d x0 x1 s = some y) : isO s x0 4 = true := (gd_spec h).1

set_option maxRecDepth 100000 in
def x_Cell_sortOf (d : Nat) (x1 : Int64) (s : HS) : Option (Int32 × HS) := some ((((x1 : Int64).toUInt64 >>> ((56 : Int32).toInt64.toUInt64 &&& Int64.toUInt64 63)).toInt64 : Int64).toInt32, s)

set_option maxRecDepth 100000 in
set_option maxHeartbeats 4000000 in
theorem dx_Cell_sortOf (O : am_ok K X) (T : am_T K) {d : Nat} {x1 : Int64} {s : HS} : xM cvI K X m_Cell_sortOf d [.long x1] s (x_Cell_sortOf d x1 s) := by
  unfold x_Cell_sortOf
  refine xM_enter (by decide +kernel) (Nat.le_of_ble_eq_true rfl) ?_
  refine xW_pure (fun _ _ _ _ _ => am_lload_n d_Cell_sortOf_0 rfl rfl) ?_
  refine xW_pure (fun _ _ _ _ _ => am_bipush (v := 56) d_Cell_sortOf_1 (by decide)) ?_
  refine xW_pure (fun _ _ _ _ _ => am_lushr d_Cell_sortOf_3 rfl) ?_
  refine xW_pure (fun _ _ _ _ _ => am_l2i d_Cell_sortOf_4 rfl) ?_
  exact xW_ret (fun _ _ _ _ _ => am_iret rfl d_Cell_sortOf_5)

set_option maxRecDepth 100000 in
def x_Mach_burn (d : Nat) (x0 : Nat) (s : HS) : Option (Int32 × HS) := match d with
  | 0 => none
  | d + 1 => gd s x0 6 ((gI s x0 6 13).bind fun v1 => ((gI s x0 6 12).bind fun v2 => (if v1 < v2 then ((gI s x0 6 13).bind fun v3 => ((pV s x0 6 13 (.int (v3 + 1))).bind fun s4 => (some (1, s4)))) else (bnd (x_Mach_fail d x0 1 s) fun v6 s5 => (some (0, s5))))))

set_option maxRecDepth 100000 in
set_option maxHeartbeats 4000000 in
theorem dx_Mach_burn (O : am_ok K X) (T : am_T K) {d : Nat} {x0 : Nat} {s : HS} : xM cvI K X m_Mach_burn d [.ref x0] s (x_Mach_burn d x0 s) := by
  cases d with
  | zero => exact xM_none
  | succ d =>
    unfold x_Mach_burn
    refine xM_enter (by decide +kernel) (Nat.le_of_ble_eq_true rfl) ?_
    refine xW_gd (fun _ => ?_)
    refine xW_pure (fun _ _ _ _ _ => am_aload_n d_Mach_burn_0 rfl rfl) ?_
    refine xW_gI O f_Mach_41 d_Mach_burn_1 (fun v1 _ => ?_)
    refine xW_pure (fun _ _ _ _ _ => am_aload_n d_Mach_burn_4 rfl rfl) ?_
    refine xW_gI O f_Mach_37 d_Mach_burn_5 (fun v2 _ => ?_)
    refine xW_ite (fun _ _ _ _ _ => am_icmp_lt (tgt := 18) d_Mach_burn_8 (by decide)) (fun _ => ?_) (fun _ => ?_)
    · refine xW_pure (fun _ _ _ _ _ => am_aload_n d_Mach_burn_18 rfl rfl) ?_
      refine xW_pure (fun _ _ _ _ _ => am_dup d_Mach_burn_19 rfl) ?_
      refine xW_gI O f_Mach_41 d_Mach_burn_20 (fun v3 _ => ?_)
      refine xW_pure (fun _ _ _ _ _ => am_iconst (v := 1) d_Mach_burn_23 (by decide)) ?_
      refine xW_pure (fun _ _ _ _ _ => am_iadd d_Mach_burn_24) ?_
      refine xW_put O f_Mach_41 d_Mach_burn_25 (fun q hq => by cases hq; exact ⟨rfl, rfl, rfl⟩) (fun s4 _ => ?_)
      refine xW_pure (fun _ _ _ _ _ => am_iconst (v := 1) d_Mach_burn_28 (by decide)) ?_
      exact xW_ret (fun _ _ _ _ _ => am_zret (ty := .boolean) rfl rfl d_Mach_burn_29)
    · refine xW_pure (fun _ _ _ _ _ => am_aload_n d_Mach_burn_11 rfl rfl) ?_
      refine xW_pure (fun _ _ _ _ _ => am_iconst (v := 1) d_Mach_burn_12 (by decide)) ?_
      refine xW_callV O (dx_Mach_fail O T) (fun _ e => ob_Mach_fail e) rfl rfl rfl l_Mach_106 ⟨w_1084, w_45⟩ rfl (Nat.le_of_ble_eq_true rfl) d_Mach_burn_13 (fun v6 s5 _ => ?_)
      refine xW_pure (fun _ _ _ _ _ => am_iconst (v := 0) d_Mach_burn_16 (by decide)) ?_
      exact xW_ret (fun _ _ _ _ _ => am_zret (ty := .boolean) rfl rfl d_Mach_burn_17)

theorem ob_Mach_burn {d : Nat} {x0 : Nat} {s : HS} {y : Int32 × HS} (h : x_Mach_burn d x0 s = some y) : isO s x0 6 = true := by
  cases d with
  | zero => cases h
  | succ d => exact (gd_spec h).1

set_option maxRecDepth 100000 in
def x_Mach_keepLeft (d : Nat) (x0 : Nat) (x1 : Int32) (x2 : Int32) (s : HS) : Option (Unit × HS) := match d with
  | 0 => none
  | d + 1 => gd s x0 6 (if x1 = 0 then (bnd (x_Mach_below d x0 1 s) fun v2 s1 => ((pV s1 x0 6 2 (.int v2)).bind fun s3 => (some ((), s3)))) else ((pV s x0 6 5 (.int x2)).bind fun s4 => (some ((), s4))))

set_option maxRecDepth 100000 in
set_option maxHeartbeats 4000000 in
theorem dx_Mach_keepLeft (O : am_ok K X) (T : am_T K) {d : Nat} {x0 : Nat} {x1 : Int32} {x2 : Int32} {s : HS} : xM cvU K X m_Mach_keepLeft d [.ref x0, .int x1, .int x2] s (x_Mach_keepLeft d x0 x1 x2 s) := by
  cases d with
  | zero => exact xM_none
  | succ d =>
    unfold x_Mach_keepLeft
    refine xM_enter (by decide +kernel) (Nat.le_of_ble_eq_true rfl) ?_
    refine xW_gd (fun _ => ?_)
    refine xW_pure (fun _ _ _ _ _ => am_iload_n d_Mach_keepLeft_0 rfl rfl) ?_
    refine xW_ite (fun _ _ _ _ _ => am_if_eq (tgt := 12) d_Mach_keepLeft_1 (by decide)) (fun _ => ?_) (fun _ => ?_)
    · refine xW_pure (fun _ _ _ _ _ => am_aload_n d_Mach_keepLeft_12 rfl rfl) ?_
      refine xW_pure (fun _ _ _ _ _ => am_aload_n d_Mach_keepLeft_13 rfl rfl) ?_
      refine xW_pure (fun _ _ _ _ _ => am_iconst (v := 1) d_Mach_keepLeft_14 (by decide)) ?_
      refine xW_callV O (dx_Mach_below O T) (fun _ e => ob_Mach_below e) rfl rfl rfl l_Mach_133 ⟨w_1071, w_43⟩ rfl (Nat.le_of_ble_eq_true rfl) d_Mach_keepLeft_15 (fun v2 s1 _ => ?_)
      refine xW_put O f_Mach_54 d_Mach_keepLeft_18 (fun q hq => by cases hq; exact ⟨rfl, rfl, rfl⟩) (fun s3 _ => ?_)
      exact xW_ret (fun _ _ _ _ _ => am_vret rfl d_Mach_keepLeft_21)
    · refine xW_pure (fun _ _ _ _ _ => am_aload_n d_Mach_keepLeft_4 rfl rfl) ?_
      refine xW_pure (fun _ _ _ _ _ => am_iload_n d_Mach_keepLeft_5 rfl rfl) ?_
      refine xW_put O f_Mach_66 d_Mach_keepLeft_6 (fun q hq => by cases hq; exact ⟨rfl, rfl, rfl⟩) (fun s4 _ => ?_)
      refine xW_pure (fun _ _ _ _ _ => am_goto (tgt := 21) d_Mach_keepLeft_9 (by decide)) ?_
      exact xW_ret (fun _ _ _ _ _ => am_vret rfl d_Mach_keepLeft_21)

theorem ob_Mach_keepLeft {d : Nat} {x0 : Nat} {x1 : Int32} {x2 : Int32} {s : HS} {y : Unit × HS} (h : x_Mach_keepLeft d x0 x1 x2 s = some y) : isO s x0 6 = true := by
  cases d with
  | zero => cases h
  | succ d => exact (gd_spec h).1

set_option maxRecDepth 100000 in
def x_Unit_constant (d : Nat) (x0 : Nat) (x1 : Int32) (s : HS) : Option (Int64 × HS) := gd s x0 4 (if x1 < 0 then (some (0, s)) else ((gR s x0 4 5).bind fun v1 => ((lenA s v1).bind fun v2 => (if v2 ≤ x1 then (some (0, s)) else ((gR s x0 4 5).bind fun v3 => ((aL s v3 x1).bind fun v4 => (some (v4, s))))))))

set_option maxRecDepth 100000 in
set_option maxHeartbeats 4000000 in
theorem dx_Unit_constant (O : am_ok K X) (T : am_T K) {d : Nat} {x0 : Nat} {x1 : Int32} {s : HS} : xM cvL K X m_Unit_constant d [.ref x0, .int x1] s (x_Unit_constant d x0 x1 s) := by
  unfold x_Unit_constant
  refine xM_enter (by decide +kernel) (Nat.le_of_ble_eq_true rfl) ?_
  refine xW_gd (fun _ => ?_)
  refine xW_pure (fun _ _ _ _ _ => am_iload_n d_Unit_constant_0 rfl rfl) ?_
  refine xW_ite (fun _ _ _ _ _ => am_if_lt (tgt := 22) d_Unit_constant_1 (by decide)) (fun _ => ?_) (fun _ => ?_)
  · refine xW_pure (fun _ _ _ _ _ => am_lconst (v := 0) d_Unit_constant_22 (by decide)) ?_
    exact xW_ret (fun _ _ _ _ _ => am_lret rfl d_Unit_constant_23)
  · refine xW_pure (fun _ _ _ _ _ => am_iload_n d_Unit_constant_4 rfl rfl) ?_
    refine xW_pure (fun _ _ _ _ _ => am_aload_n d_Unit_constant_5 rfl rfl) ?_
    refine xW_gR O f_Unit_27 d_Unit_constant_6 (fun v1 _ => ?_)
    refine xW_len O d_Unit_constant_9 (fun v2 _ => ?_)
    refine xW_ite (fun _ _ _ _ _ => am_icmp_ge (tgt := 22) d_Unit_constant_10 (by decide)) (fun _ => ?_) (fun _ => ?_)
    · refine xW_pure (fun _ _ _ _ _ => am_lconst (v := 0) d_Unit_constant_22 (by decide)) ?_
      exact xW_ret (fun _ _ _ _ _ => am_lret rfl d_Unit_constant_23)
    · refine xW_pure (fun _ _ _ _ _ => am_aload_n d_Unit_constant_13 rfl rfl) ?_
      refine xW_gR O f_Unit_27 d_Unit_constant_14 (fun v3 _ => ?_)
      refine xW_pure (fun _ _ _ _ _ => am_iload_n d_Unit_constant_17 rfl rfl) ?_
      refine xW_aL O d_Unit_constant_18 (fun v4 _ => ?_)
      refine xW_pure (fun _ _ _ _ _ => am_goto (tgt := 23) d_Unit_constant_19 (by decide)) ?_
      exact xW_ret (fun _ _ _ _ _ => am_lret rfl d_Unit_constant_23)

theorem ob_Unit_constant {d : Nat} {x0 : Nat} {x1 : Int32} {s : HS} {y : Int64 × HS} (h : x_Unit_constant d x0 x1 s = some y) : isO s x0 4 = true := (gd_spec h).1

set_option maxRecDepth 100000 in
def x_Store_functionOf (d : Nat) (x0 : Nat) (x1 : Int64) (s : HS) : Option (Option Nat × HS) := match d with
  | 0 => none
  | d + 1 => gd s x0 10 (bnd (x_Store_functionAt d x0 x1 s) fun v2 s1 => (if 0 ≤ v2 then ((gR s1 x0 10 7).bind fun v3 => ((aR "StowTongue$Unit" s1 v3 v2).bind fun v4 => (some (some v4, s1)))) else (some (none, s1))))

set_option maxRecDepth 100000 in
set_option maxHeartbeats 4000000 in
theorem dx_Store_functionOf (O : am_ok K X) (T : am_T K) {d : Nat} {x0 : Nat} {x1 : Int64} {s : HS} : xM cvN K X m_Store_functionOf d [.ref x0, .long x1] s (x_Store_functionOf d x0 x1 s) := by
  cases d with
  | zero => exact xM_none
  | succ d =>
    unfold x_Store_functionOf
    refine xM_enter (by decide +kernel) (Nat.le_of_ble_eq_true rfl) ?_
    refine xW_gd (fun _ => ?_)
    refine xW_pure (fun _ _ _ _ _ => am_aload_n d_Store_functionOf_0 rfl rfl) ?_
    refine xW_pure (fun _ _ _ _ _ => am_lload_n d_Store_functionOf_1 rfl rfl) ?_
    refine xW_callV O (dx_Store_functionAt O T) (fun _ e => ob_Store_functionAt e) rfl rfl rfl l_Store_90 ⟨w_1047, w_41⟩ rfl (Nat.le_of_ble_eq_true rfl) d_Store_functionOf_2 (fun v2 s1 _ => ?_)
    refine xW_pure (fun _ _ _ _ _ => am_istore_n d_Store_functionOf_5 rfl (Nat.le_of_ble_eq_true rfl)) ?_
    refine xW_pure (fun _ _ _ _ _ => am_iload_n d_Store_functionOf_6 rfl rfl) ?_
    refine xW_ite (fun _ _ _ _ _ => am_if_ge (tgt := 14) d_Store_functionOf_7 (by decide)) (fun _ => ?_) (fun _ => ?_)
    · refine xW_pure (fun _ _ _ _ _ => am_aload_n d_Store_functionOf_14 rfl rfl) ?_
      refine xW_gR O f_Store_31 d_Store_functionOf_15 (fun v3 _ => ?_)
      refine xW_pure (fun _ _ _ _ _ => am_iload_n d_Store_functionOf_18 rfl rfl) ?_
      refine xW_aR O (by decide) d_Store_functionOf_19 (fun v4 _ => ?_)
      exact xW_ret (fun _ _ _ _ _ => am_aret rfl (Or.inl ⟨_, rfl⟩) d_Store_functionOf_20)
    · refine xW_pure (fun _ _ _ _ _ => am_null d_Store_functionOf_10) ?_
      refine xW_pure (fun _ _ _ _ _ => am_goto (tgt := 20) d_Store_functionOf_11 (by decide)) ?_
      exact xW_ret (fun _ _ _ _ _ => am_aretN rfl (Or.inl ⟨_, rfl⟩) d_Store_functionOf_20)

theorem ob_Store_functionOf {d : Nat} {x0 : Nat} {x1 : Int64} {s : HS} {y : Option Nat × HS} (h : x_Store_functionOf d x0 x1 s = some y) : isO s x0 10 = true := by
  cases d with
  | zero => cases h
  | succ d => exact (gd_spec h).1

set_option maxRecDepth 100000 in
def x_Unit_names (d : Nat) (x0 : Nat) (s : HS) : Option (Int32 × HS) := gd s x0 4 ((gI s x0 4 1).bind fun v1 => (some (v1, s)))

set_option maxRecDepth 100000 in
set_option maxHeartbeats 4000000 in
theorem dx_Unit_names (O : am_ok K X) (T : am_T K) {d : Nat} {x0 : Nat} {s : HS} : xM cvI K X m_Unit_names d [.ref x0] s (x_Unit_names d x0 s) := by
  unfold x_Unit_names
  refine xM_enter (by decide +kernel) (Nat.le_of_ble_eq_true rfl) ?_
  refine xW_gd (fun _ => ?_)
  refine xW_pure (fun _ _ _ _ _ => am_aload_n d_Unit_names_0 rfl rfl) ?_
  refine xW_gI O f_Unit_13 d_Unit_names_1 (fun v1 _ => ?_)
  exact xW_ret (fun _ _ _ _ _ => am_iret rfl d_Unit_names_4)

theorem ob_Unit_names {d : Nat} {x0 : Nat} {s : HS} {y : Int32 × HS} (h : x_Unit_names d x0 s = some y) : isO s x0 4 = true := (gd_spec h).1

set_option maxRecDepth 100000 in
def x_Mach_sortAt (d : Nat) (x0 : Nat) (x1 : Int32) (s : HS) : Option (Int32 × HS) := match d with
  | 0 => none
  | d + 1 => gd s x0 6 ((gR s x0 6 0).bind fun v1 => ((aL s v1 x1).bind fun v2 => (bnd (x_Cell_sortOf d v2 s) fun v4 s3 => (some (v4, s3)))))

set_option maxRecDepth 100000 in
set_option maxHeartbeats 4000000 in
theorem dx_Mach_sortAt (O : am_ok K X) (T : am_T K) {d : Nat} {x0 : Nat} {x1 : Int32} {s : HS} : xM cvI K X m_Mach_sortAt d [.ref x0, .int x1] s (x_Mach_sortAt d x0 x1 s) := by
  cases d with
  | zero => exact xM_none
  | succ d =>
    unfold x_Mach_sortAt
    refine xM_enter (by decide +kernel) (Nat.le_of_ble_eq_true rfl) ?_
    refine xW_gd (fun _ => ?_)
    refine xW_pure (fun _ _ _ _ _ => am_aload_n d_Mach_sortAt_0 rfl rfl) ?_
    refine xW_gR O f_Mach_7 d_Mach_sortAt_1 (fun v1 _ => ?_)
    refine xW_pure (fun _ _ _ _ _ => am_iload_n d_Mach_sortAt_4 rfl rfl) ?_
    refine xW_aL O d_Mach_sortAt_5 (fun v2 _ => ?_)
    refine xW_callS O (dx_Cell_sortOf O T) rfl l_Mach_129 w_1104 rfl (Nat.le_of_ble_eq_true rfl) d_Mach_sortAt_6 (fun v4 s3 _ => ?_)
    exact xW_ret (fun _ _ _ _ _ => am_iret rfl d_Mach_sortAt_9)

theorem ob_Mach_sortAt {d : Nat} {x0 : Nat} {x1 : Int32} {s : HS} {y : Int32 × HS} (h : x_Mach_sortAt d x0 x1 s = some y) : isO s x0 6 = true := by
  cases d with
  | zero => cases h
  | succ d => exact (gd_spec h).1

set_option maxRecDepth 100000 in
def x_Out_add (d : Nat) (x0 : Nat) (x1 : Int32) (s : HS) : Option (Unit × HS) := gd s x0 0 ((gI s x0 0 1).bind fun v1 => (if 600 ≤ v1 then ((pV s x0 0 2 (.int 1)).bind fun s2 => (some ((), s2))) else ((gR s x0 0 0).bind fun v3 => ((gI s x0 0 1).bind fun v4 => ((sV s .byte v3 v4 (.int ((x1 : Int32).toInt8.toInt32 : Int32).toInt8.toInt32)).bind fun s5 => ((gI s5 x0 0 1).bind fun v6 => ((pV s5 x0 0 1 (.int (v6 + 1))).bind fun s7 => (some ((), s7)))))))))

set_option maxRecDepth 100000 in
set_option maxHeartbeats 4000000 in
theorem dx_Out_add (O : am_ok K X) (T : am_T K) {d : Nat} {x0 : Nat} {x1 : Int32} {s : HS} : xM cvU K X m_Out_add d [.ref x0, .int x1] s (x_Out_add d x0 x1 s) := by
  unfold x_Out_add
  refine xM_enter (by decide +kernel) (Nat.le_of_ble_eq_true rfl) ?_
  refine xW_gd (fun _ => ?_)
  refine xW_pure (fun _ _ _ _ _ => am_aload_n d_Out_add_0 rfl rfl) ?_
  refine xW_gI O f_Out_15 d_Out_add_1 (fun v1 _ => ?_)
  refine xW_pure (fun _ _ _ _ _ => am_sipush (v := 600) d_Out_add_4 (by decide)) ?_
  refine xW_ite (fun _ _ _ _ _ => am_icmp_ge (tgt := 34) d_Out_add_7 (by decide)) (fun _ => ?_) (fun _ => ?_)
  · refine xW_pure (fun _ _ _ _ _ => am_aload_n d_Out_add_34 rfl rfl) ?_
    refine xW_pure (fun _ _ _ _ _ => am_iconst (v := 1) d_Out_add_35 (by decide)) ?_
    refine xW_put O f_Out_19 d_Out_add_36 (fun q hq => by cases hq; exact ⟨rfl, rfl, rfl⟩) (fun s2 _ => ?_)
    exact xW_ret (fun _ _ _ _ _ => am_vret rfl d_Out_add_39)
  · refine xW_pure (fun _ _ _ _ _ => am_aload_n d_Out_add_10 rfl rfl) ?_
    refine xW_gR O f_Out_11 d_Out_add_11 (fun v3 _ => ?_)
    refine xW_pure (fun _ _ _ _ _ => am_aload_n d_Out_add_14 rfl rfl) ?_
    refine xW_gI O f_Out_15 d_Out_add_15 (fun v4 _ => ?_)
    refine xW_pure (fun _ _ _ _ _ => am_iload_n d_Out_add_18 rfl rfl) ?_
    refine xW_pure (fun _ _ _ _ _ => am_i2b d_Out_add_19 rfl) ?_
    refine xW_sB O d_Out_add_20 (fun s5 _ => ?_)
    refine xW_pure (fun _ _ _ _ _ => am_aload_n d_Out_add_21 rfl rfl) ?_
    refine xW_pure (fun _ _ _ _ _ => am_dup d_Out_add_22 rfl) ?_
    refine xW_gI O f_Out_15 d_Out_add_23 (fun v6 _ => ?_)
    refine xW_pure (fun _ _ _ _ _ => am_iconst (v := 1) d_Out_add_26 (by decide)) ?_
    refine xW_pure (fun _ _ _ _ _ => am_iadd d_Out_add_27) ?_
    refine xW_put O f_Out_15 d_Out_add_28 (fun q hq => by cases hq; exact ⟨rfl, rfl, rfl⟩) (fun s7 _ => ?_)
    refine xW_pure (fun _ _ _ _ _ => am_goto (tgt := 39) d_Out_add_31 (by decide)) ?_
    exact xW_ret (fun _ _ _ _ _ => am_vret rfl d_Out_add_39)

theorem ob_Out_add {d : Nat} {x0 : Nat} {x1 : Int32} {s : HS} {y : Unit × HS} (h : x_Out_add d x0 x1 s = some y) : isO s x0 0 = true := (gd_spec h).1

set_option maxRecDepth 100000 in
def x_Cell_signAt_b12 (d : Nat) (l4 : Int32) (t0 : Int64) (s : HS) : Option (Int32 × HS) := some (((((t0 : Int64).toUInt64 >>> (((7 * (7 - (l4 &&& 7))) : Int32).toInt64.toUInt64 &&& Int64.toUInt64 63)).toInt64 : Int64).toInt32 &&& 127), s)

set_option maxRecDepth 100000 in
set_option maxHeartbeats 4000000 in
theorem dx_Cell_signAt_b12 (O : am_ok K X) (T : am_T K) {d : Nat} {l4 : Int32} {t0 : Int64} {s : HS} : xW cvI K X m_Cell_signAt d 12 [(4, .int l4)] [.long t0] s (x_Cell_signAt_b12 d l4 t0 s) := by
  unfold x_Cell_signAt_b12
  refine xW_pure (fun _ _ _ _ _ => am_lstore d_Cell_signAt_12 (Nat.le_of_ble_eq_true rfl)) ?_
  refine xW_pure (fun _ _ _ _ _ => am_lload d_Cell_signAt_14 rfl) ?_
  refine xW_pure (fun _ _ _ _ _ => am_bipush (v := 7) d_Cell_signAt_16 (by decide)) ?_
  refine xW_pure (fun _ _ _ _ _ => am_bipush (v := 7) d_Cell_signAt_18 (by decide)) ?_
  refine xW_pure (fun _ _ _ _ _ => am_iload d_Cell_signAt_20 rfl) ?_
  refine xW_pure (fun _ _ _ _ _ => am_bipush (v := 7) d_Cell_signAt_22 (by decide)) ?_
  refine xW_pure (fun _ _ _ _ _ => am_iand d_Cell_signAt_24) ?_
  refine xW_pure (fun _ _ _ _ _ => am_isub d_Cell_signAt_25) ?_
  refine xW_pure (fun _ _ _ _ _ => am_imul d_Cell_signAt_26) ?_
  refine xW_pure (fun _ _ _ _ _ => am_lushr d_Cell_signAt_27 rfl) ?_
  refine xW_pure (fun _ _ _ _ _ => am_l2i d_Cell_signAt_28 rfl) ?_
  refine xW_pure (fun _ _ _ _ _ => am_bipush (v := 127) d_Cell_signAt_29 (by decide)) ?_
  refine xW_pure (fun _ _ _ _ _ => am_iand d_Cell_signAt_31) ?_
  exact xW_ret (fun _ _ _ _ _ => am_iret rfl d_Cell_signAt_32)

set_option maxRecDepth 100000 in
def x_Cell_signAt (d : Nat) (x1 : Int64) (x2 : Int64) (x3 : Int32) (s : HS) : Option (Int32 × HS) := if 8 ≤ x3 then (x_Cell_signAt_b12 d x3 x2 s) else (x_Cell_signAt_b12 d x3 x1 s)

set_option maxRecDepth 100000 in
set_option maxHeartbeats 4000000 in
theorem dx_Cell_signAt (O : am_ok K X) (T : am_T K) {d : Nat} {x1 : Int64} {x2 : Int64} {x3 : Int32} {s : HS} : xM cvI K X m_Cell_signAt d [.long x1, .long x2, .int x3] s (x_Cell_signAt d x1 x2 x3 s) := by
  unfold x_Cell_signAt
  refine xM_enter (by decide +kernel) (Nat.le_of_ble_eq_true rfl) ?_
  refine xW_pure (fun _ _ _ _ _ => am_iload d_Cell_signAt_0 rfl) ?_
  refine xW_pure (fun _ _ _ _ _ => am_bipush (v := 8) d_Cell_signAt_2 (by decide)) ?_
  refine xW_ite (fun _ _ _ _ _ => am_icmp_ge (tgt := 11) d_Cell_signAt_4 (by decide)) (fun _ => ?_) (fun _ => ?_)
  · refine xW_pure (fun _ _ _ _ _ => am_lload_n d_Cell_signAt_11 rfl rfl) ?_
    refine xW_locs (lv' := [(4, .int x3)]) rfl ?_
    exact dx_Cell_signAt_b12 O T
  · refine xW_pure (fun _ _ _ _ _ => am_lload_n d_Cell_signAt_7 rfl rfl) ?_
    refine xW_pure (fun _ _ _ _ _ => am_goto (tgt := 12) d_Cell_signAt_8 (by decide)) ?_
    refine xW_locs (lv' := [(4, .int x3)]) rfl ?_
    exact dx_Cell_signAt_b12 O T

set_option maxRecDepth 100000 in
def x_Out_spilled (d : Nat) (x0 : Nat) (s : HS) : Option (Int32 × HS) := gd s x0 0 ((gI s x0 0 2).bind fun v1 => (okB v1 (some (v1, s))))

set_option maxRecDepth 100000 in
set_option maxHeartbeats 4000000 in
theorem dx_Out_spilled (O : am_ok K X) (T : am_T K) {d : Nat} {x0 : Nat} {s : HS} : xM cvI K X m_Out_spilled d [.ref x0] s (x_Out_spilled d x0 s) := by
  unfold x_Out_spilled
  refine xM_enter (by decide +kernel) (Nat.le_of_ble_eq_true rfl) ?_
  refine xW_gd (fun _ => ?_)
  refine xW_pure (fun _ _ _ _ _ => am_aload_n d_Out_spilled_0 rfl rfl) ?_
  refine xW_gI O f_Out_19 d_Out_spilled_1 (fun v1 _ => ?_)
  refine xW_okB (fun hz => ?_)
  exact xW_ret (fun _ _ _ _ _ => am_zret (ty := .boolean) rfl (bz_nar hz) d_Out_spilled_4)

theorem ob_Out_spilled {d : Nat} {x0 : Nat} {s : HS} {y : Int32 × HS} (h : x_Out_spilled d x0 s = some y) : isO s x0 0 = true := (gd_spec h).1

set_option maxRecDepth 100000 in
def x_Mach_localAt (d : Nat) (x0 : Nat) (x1 : Int32) (s : HS) : Option (Int32 × HS) := gd s x0 6 ((gI s x0 6 3).bind fun v1 => (if (v1 + x1) < 0 then (some (0, s)) else ((gR s x0 6 0).bind fun v2 => ((lenA s v2).bind fun v3 => (if v3 ≤ (v1 + x1) then (some (0, s)) else (some ((v1 + x1), s)))))))

set_option maxRecDepth 100000 in
set_option maxHeartbeats 4000000 in
theorem dx_Mach_localAt (O : am_ok K X) (T : am_T K) {d : Nat} {x0 : Nat} {x1 : Int32} {s : HS} : xM cvI K X m_Mach_localAt d [.ref x0, .int x1] s (x_Mach_localAt d x0 x1 s) := by
  unfold x_Mach_localAt
  refine xM_enter (by decide +kernel) (Nat.le_of_ble_eq_true rfl) ?_
  refine xW_gd (fun _ => ?_)
  refine xW_pure (fun _ _ _ _ _ => am_aload_n d_Mach_localAt_0 rfl rfl) ?_
  refine xW_gI O f_Mach_171 d_Mach_localAt_1 (fun v1 _ => ?_)
  refine xW_pure (fun _ _ _ _ _ => am_iload_n d_Mach_localAt_4 rfl rfl) ?_
  refine xW_pure (fun _ _ _ _ _ => am_iadd d_Mach_localAt_5) ?_
  refine xW_pure (fun _ _ _ _ _ => am_istore_n d_Mach_localAt_6 rfl (Nat.le_of_ble_eq_true rfl)) ?_
  refine xW_pure (fun _ _ _ _ _ => am_iload_n d_Mach_localAt_7 rfl rfl) ?_
  refine xW_ite (fun _ _ _ _ _ => am_if_lt (tgt := 24) d_Mach_localAt_8 (by decide)) (fun _ => ?_) (fun _ => ?_)
  · refine xW_pure (fun _ _ _ _ _ => am_iconst (v := 0) d_Mach_localAt_24 (by decide)) ?_
    exact xW_ret (fun _ _ _ _ _ => am_iret rfl d_Mach_localAt_25)
  · refine xW_pure (fun _ _ _ _ _ => am_iload_n d_Mach_localAt_11 rfl rfl) ?_
    refine xW_pure (fun _ _ _ _ _ => am_aload_n d_Mach_localAt_12 rfl rfl) ?_
    refine xW_gR O f_Mach_7 d_Mach_localAt_13 (fun v2 _ => ?_)
    refine xW_len O d_Mach_localAt_16 (fun v3 _ => ?_)
    refine xW_ite (fun _ _ _ _ _ => am_icmp_ge (tgt := 24) d_Mach_localAt_17 (by decide)) (fun _ => ?_) (fun _ => ?_)
    · refine xW_pure (fun _ _ _ _ _ => am_iconst (v := 0) d_Mach_localAt_24 (by decide)) ?_
      exact xW_ret (fun _ _ _ _ _ => am_iret rfl d_Mach_localAt_25)
    · refine xW_pure (fun _ _ _ _ _ => am_iload_n d_Mach_localAt_20 rfl rfl) ?_
      refine xW_pure (fun _ _ _ _ _ => am_goto (tgt := 25) d_Mach_localAt_21 (by decide)) ?_
      exact xW_ret (fun _ _ _ _ _ => am_iret rfl d_Mach_localAt_25)

theorem ob_Mach_localAt {d : Nat} {x0 : Nat} {x1 : Int32} {s : HS} {y : Int32 × HS} (h : x_Mach_localAt d x0 x1 s = some y) : isO s x0 6 = true := (gd_spec h).1

set_option maxRecDepth 100000 in
def x_Store_rootAt (d : Nat) (x0 : Nat) (x1 : Int64) (s : HS) : Option (Int32 × HS) := gd s x0 10 (loopK (fun (again2 : Int32 × HS → Option (Int32 × HS)) (z2 : Int32 × HS) => ((gI z2.2 x0 10 6).bind fun v1 => (if v1 ≤ z2.1 then (some ((-1), z2.2)) else ((gR z2.2 x0 10 3).bind fun v2 => ((aL z2.2 v2 z2.1).bind fun v3 => (if (lg_cmp v3 x1) = 0 then (some (z2.1, z2.2)) else (again2 ((z2.1 + 1), z2.2)))))))) FU (0, s))

set_option maxRecDepth 100000 in
set_option maxHeartbeats 4000000 in
theorem dx_Store_rootAt (O : am_ok K X) (T : am_T K) {d : Nat} {x0 : Nat} {x1 : Int64} {s : HS} : xM cvI K X m_Store_rootAt d [.ref x0, .long x1] s (x_Store_rootAt d x0 x1 s) := by
  unfold x_Store_rootAt
  refine xM_enter (by decide +kernel) (Nat.le_of_ble_eq_true rfl) ?_
  refine xW_gd (fun _ => ?_)
  refine xW_pure (fun _ _ _ _ _ => am_iconst (v := 0) d_Store_rootAt_0 (by decide)) ?_
  refine xW_pure (fun _ _ _ _ _ => am_istore_n d_Store_rootAt_1 rfl (Nat.le_of_ble_eq_true rfl)) ?_
  refine xW_locs (lv' := [(0, .ref x0), (1, .long x1), (3, .int 0)]) rfl ?_
  refine xW_loop (lvf := fun (z2 : Int32 × HS) => [(0, .ref x0), (1, .long x1), (3, .int z2.1)]) (hsf := fun (z2 : Int32 × HS) => z2.2) (fun again2 ih2 z2 => ?_) FU (0, s)
  refine xW_pure (fun _ _ _ _ _ => am_iload_n d_Store_rootAt_2 rfl rfl) ?_
  refine xW_pure (fun _ _ _ _ _ => am_aload_n d_Store_rootAt_3 rfl rfl) ?_
  refine xW_gI O f_Store_47 d_Store_rootAt_4 (fun v1 _ => ?_)
  refine xW_ite (fun _ _ _ _ _ => am_icmp_ge (tgt := 29) d_Store_rootAt_7 (by decide)) (fun _ => ?_) (fun _ => ?_)
  · refine xW_pure (fun _ _ _ _ _ => am_iconst (v := (-1)) d_Store_rootAt_29 (by decide)) ?_
    exact xW_ret (fun _ _ _ _ _ => am_iret rfl d_Store_rootAt_30)
  · refine xW_pure (fun _ _ _ _ _ => am_aload_n d_Store_rootAt_10 rfl rfl) ?_
    refine xW_gR O f_Store_20 d_Store_rootAt_11 (fun v2 _ => ?_)
    refine xW_pure (fun _ _ _ _ _ => am_iload_n d_Store_rootAt_14 rfl rfl) ?_
    refine xW_aL O d_Store_rootAt_15 (fun v3 _ => ?_)
    refine xW_pure (fun _ _ _ _ _ => am_lload_n d_Store_rootAt_16 rfl rfl) ?_
    refine xW_pure (fun _ _ _ _ _ => am_lcmp d_Store_rootAt_17) ?_
    refine xW_ite (fun _ _ _ _ _ k1 k2 => am_if_ne (tgt := 23) d_Store_rootAt_18 (by decide) k2 k1) (fun _ => ?_) (fun _ => ?_)
    · refine xW_pure (fun _ _ _ _ _ => am_iload_n d_Store_rootAt_21 rfl rfl) ?_
      exact xW_ret (fun _ _ _ _ _ => am_iret rfl d_Store_rootAt_22)
    · refine xW_pure (fun _ _ _ _ _ => am_iinc (v := 1) d_Store_rootAt_23 rfl (by decide) (Nat.le_of_ble_eq_true rfl)) ?_
      refine xW_pure (fun _ _ _ _ _ => am_goto (tgt := 2) d_Store_rootAt_26 (by decide)) ?_
      refine xW_locs (lv' := [(0, .ref x0), (1, .long x1), (3, .int (z2.1 + 1))]) rfl ?_
      exact ih2 ((z2.1 + 1), z2.2)

theorem ob_Store_rootAt {d : Nat} {x0 : Nat} {x1 : Int64} {s : HS} {y : Int32 × HS} (h : x_Store_rootAt d x0 x1 s = some y) : isO s x0 10 = true := (gd_spec h).1

set_option maxRecDepth 100000 in
def x_Store_dropRoot (d : Nat) (x0 : Nat) (x1 : Int32) (s : HS) : Option (Unit × HS) := gd s x0 10 (if 0 ≤ x1 then ((gI s x0 10 6).bind fun v1 => ((pV s x0 10 6 (.int (v1 - 1))).bind fun s2 => ((gR s2 x0 10 3).bind fun v3 => ((gR s2 x0 10 3).bind fun v4 => ((gI s2 x0 10 6).bind fun v5 => ((aL s2 v4 v5).bind fun v6 => ((sV s2 .long v3 x1 (.long v6)).bind fun s7 => ((gR s7 x0 10 4).bind fun v8 => ((gR s7 x0 10 4).bind fun v9 => ((gI s7 x0 10 6).bind fun v10 => ((aL s7 v9 v10).bind fun v11 => ((sV s7 .long v8 x1 (.long v11)).bind fun s12 => ((gR s12 x0 10 5).bind fun v13 => ((gR s12 x0 10 5).bind fun v14 => ((gI s12 x0 10 6).bind fun v15 => ((aL s12 v14 v15).bind fun v16 => ((sV s12 .long v13 x1 (.long v16)).bind fun s17 => (some ((), s17))))))))))))))))))) else (some ((), s)))

set_option maxRecDepth 100000 in
set_option maxHeartbeats 4000000 in
theorem dx_Store_dropRoot (O : am_ok K X) (T : am_T K) {d : Nat} {x0 : Nat} {x1 : Int32} {s : HS} : xM cvU K X m_Store_dropRoot d [.ref x0, .int x1] s (x_Store_dropRoot d x0 x1 s) := by
  unfold x_Store_dropRoot
  refine xM_enter (by decide +kernel) (Nat.le_of_ble_eq_true rfl) ?_
  refine xW_gd (fun _ => ?_)
  refine xW_pure (fun _ _ _ _ _ => am_iload_n d_Store_dropRoot_0 rfl rfl) ?_
  refine xW_ite (fun _ _ _ _ _ => am_if_ge (tgt := 5) d_Store_dropRoot_1 (by decide)) (fun _ => ?_) (fun _ => ?_)
  · refine xW_pure (fun _ _ _ _ _ => am_aload_n d_Store_dropRoot_5 rfl rfl) ?_
    refine xW_pure (fun _ _ _ _ _ => am_dup d_Store_dropRoot_6 rfl) ?_
    refine xW_gI O f_Store_47 d_Store_dropRoot_7 (fun v1 _ => ?_)
    refine xW_pure (fun _ _ _ _ _ => am_iconst (v := 1) d_Store_dropRoot_10 (by decide)) ?_
    refine xW_pure (fun _ _ _ _ _ => am_isub d_Store_dropRoot_11) ?_
    refine xW_put O f_Store_47 d_Store_dropRoot_12 (fun q hq => by cases hq; exact ⟨rfl, rfl, rfl⟩) (fun s2 _ => ?_)
    refine xW_pure (fun _ _ _ _ _ => am_aload_n d_Store_dropRoot_15 rfl rfl) ?_
    refine xW_gR O f_Store_20 d_Store_dropRoot_16 (fun v3 _ => ?_)
    refine xW_pure (fun _ _ _ _ _ => am_iload_n d_Store_dropRoot_19 rfl rfl) ?_
    refine xW_pure (fun _ _ _ _ _ => am_aload_n d_Store_dropRoot_20 rfl rfl) ?_
    refine xW_gR O f_Store_20 d_Store_dropRoot_21 (fun v4 _ => ?_)
    refine xW_pure (fun _ _ _ _ _ => am_aload_n d_Store_dropRoot_24 rfl rfl) ?_
    refine xW_gI O f_Store_47 d_Store_dropRoot_25 (fun v5 _ => ?_)
    refine xW_aL O d_Store_dropRoot_28 (fun v6 _ => ?_)
    refine xW_sL O d_Store_dropRoot_29 (fun s7 _ => ?_)
    refine xW_pure (fun _ _ _ _ _ => am_aload_n d_Store_dropRoot_30 rfl rfl) ?_
    refine xW_gR O f_Store_23 d_Store_dropRoot_31 (fun v8 _ => ?_)
    refine xW_pure (fun _ _ _ _ _ => am_iload_n d_Store_dropRoot_34 rfl rfl) ?_
    refine xW_pure (fun _ _ _ _ _ => am_aload_n d_Store_dropRoot_35 rfl rfl) ?_
    refine xW_gR O f_Store_23 d_Store_dropRoot_36 (fun v9 _ => ?_)
    refine xW_pure (fun _ _ _ _ _ => am_aload_n d_Store_dropRoot_39 rfl rfl) ?_
    refine xW_gI O f_Store_47 d_Store_dropRoot_40 (fun v10 _ => ?_)
    refine xW_aL O d_Store_dropRoot_43 (fun v11 _ => ?_)
    refine xW_sL O d_Store_dropRoot_44 (fun s12 _ => ?_)
    refine xW_pure (fun _ _ _ _ _ => am_aload_n d_Store_dropRoot_45 rfl rfl) ?_
    refine xW_gR O f_Store_26 d_Store_dropRoot_46 (fun v13 _ => ?_)
    refine xW_pure (fun _ _ _ _ _ => am_iload_n d_Store_dropRoot_49 rfl rfl) ?_
    refine xW_pure (fun _ _ _ _ _ => am_aload_n d_Store_dropRoot_50 rfl rfl) ?_
    refine xW_gR O f_Store_26 d_Store_dropRoot_51 (fun v14 _ => ?_)
    refine xW_pure (fun _ _ _ _ _ => am_aload_n d_Store_dropRoot_54 rfl rfl) ?_
    refine xW_gI O f_Store_47 d_Store_dropRoot_55 (fun v15 _ => ?_)
    refine xW_aL O d_Store_dropRoot_58 (fun v16 _ => ?_)
    refine xW_sL O d_Store_dropRoot_59 (fun s17 _ => ?_)
    exact xW_ret (fun _ _ _ _ _ => am_vret rfl d_Store_dropRoot_60)
  · exact xW_ret (fun _ _ _ _ _ => am_vret rfl d_Store_dropRoot_4)

theorem ob_Store_dropRoot {d : Nat} {x0 : Nat} {x1 : Int32} {s : HS} {y : Unit × HS} (h : x_Store_dropRoot d x0 x1 s = some y) : isO s x0 10 = true := (gd_spec h).1

set_option maxRecDepth 100000 in
def x_Mach_objectAt (d : Nat) (x0 : Nat) (x1 : Int32) (s : HS) : Option (Int32 × HS) := gd s x0 6 ((gR s x0 6 1).bind fun v1 => ((aL s v1 x1).bind fun v2 => (some ((v2 : Int64).toInt32, s))))

set_option maxRecDepth 100000 in
set_option maxHeartbeats 4000000 in
theorem dx_Mach_objectAt (O : am_ok K X) (T : am_T K) {d : Nat} {x0 : Nat} {x1 : Int32} {s : HS} : xM cvI K X m_Mach_objectAt d [.ref x0, .int x1] s (x_Mach_objectAt d x0 x1 s) := by
  unfold x_Mach_objectAt
  refine xM_enter (by decide +kernel) (Nat.le_of_ble_eq_true rfl) ?_
  refine xW_gd (fun _ => ?_)
  refine xW_pure (fun _ _ _ _ _ => am_aload_n d_Mach_objectAt_0 rfl rfl) ?_
  refine xW_gR O f_Mach_13 d_Mach_objectAt_1 (fun v1 _ => ?_)
  refine xW_pure (fun _ _ _ _ _ => am_iload_n d_Mach_objectAt_4 rfl rfl) ?_
  refine xW_aL O d_Mach_objectAt_5 (fun v2 _ => ?_)
  refine xW_pure (fun _ _ _ _ _ => am_l2i d_Mach_objectAt_6 rfl) ?_
  exact xW_ret (fun _ _ _ _ _ => am_iret rfl d_Mach_objectAt_7)

theorem ob_Mach_objectAt {d : Nat} {x0 : Nat} {x1 : Int32} {s : HS} {y : Int32 × HS} (h : x_Mach_objectAt d x0 x1 s = some y) : isO s x0 6 = true := (gd_spec h).1

set_option maxRecDepth 100000 in
def x_Store_firstCell (d : Nat) (x0 : Nat) (x1 : Int32) (s : HS) : Option (Int32 × HS) := gd s x0 10 (if x1 < 0 then (some (0, s)) else (if 100 ≤ x1 then (some (0, s)) else (some ((x1 * 20), s))))

set_option maxRecDepth 100000 in
set_option maxHeartbeats 4000000 in
theorem dx_Store_firstCell (O : am_ok K X) (T : am_T K) {d : Nat} {x0 : Nat} {x1 : Int32} {s : HS} : xM cvI K X m_Store_firstCell d [.ref x0, .int x1] s (x_Store_firstCell d x0 x1 s) := by
  unfold x_Store_firstCell
  refine xM_enter (by decide +kernel) (Nat.le_of_ble_eq_true rfl) ?_
  refine xW_gd (fun _ => ?_)
  refine xW_pure (fun _ _ _ _ _ => am_iload_n d_Store_firstCell_0 rfl rfl) ?_
  refine xW_ite (fun _ _ _ _ _ => am_if_lt (tgt := 17) d_Store_firstCell_1 (by decide)) (fun _ => ?_) (fun _ => ?_)
  · refine xW_pure (fun _ _ _ _ _ => am_iconst (v := 0) d_Store_firstCell_17 (by decide)) ?_
    exact xW_ret (fun _ _ _ _ _ => am_iret rfl d_Store_firstCell_18)
  · refine xW_pure (fun _ _ _ _ _ => am_iload_n d_Store_firstCell_4 rfl rfl) ?_
    refine xW_pure (fun _ _ _ _ _ => am_bipush (v := 100) d_Store_firstCell_5 (by decide)) ?_
    refine xW_ite (fun _ _ _ _ _ => am_icmp_ge (tgt := 17) d_Store_firstCell_7 (by decide)) (fun _ => ?_) (fun _ => ?_)
    · refine xW_pure (fun _ _ _ _ _ => am_iconst (v := 0) d_Store_firstCell_17 (by decide)) ?_
      exact xW_ret (fun _ _ _ _ _ => am_iret rfl d_Store_firstCell_18)
    · refine xW_pure (fun _ _ _ _ _ => am_iload_n d_Store_firstCell_10 rfl rfl) ?_
      refine xW_pure (fun _ _ _ _ _ => am_bipush (v := 20) d_Store_firstCell_11 (by decide)) ?_
      refine xW_pure (fun _ _ _ _ _ => am_imul d_Store_firstCell_13) ?_
      refine xW_pure (fun _ _ _ _ _ => am_goto (tgt := 18) d_Store_firstCell_14 (by decide)) ?_
      exact xW_ret (fun _ _ _ _ _ => am_iret rfl d_Store_firstCell_18)

theorem ob_Store_firstCell {d : Nat} {x0 : Nat} {x1 : Int32} {s : HS} {y : Int32 × HS} (h : x_Store_firstCell d x0 x1 s = some y) : isO s x0 10 = true := (gd_spec h).1

set_option maxRecDepth 100000 in
def x_Store_cellsOf_b25 (d : Nat) (l0 : Nat) (l1 : Int32) (t0 : Int32) (s : HS) : Option (Int32 × HS) := if t0 = 0 then (some (0, s)) else ((gR s l0 10 2).bind fun v1 => ((aI s v1 l1).bind fun v2 => (some (v2, s))))

set_option maxRecDepth 100000 in
set_option maxHeartbeats 4000000 in
theorem dx_Store_cellsOf_b25 (O : am_ok K X) (T : am_T K) {d : Nat} {l0 : Nat} {l1 : Int32} {t0 : Int32} {s : HS} : xW cvI K X m_Store_cellsOf d 25 [(0, .ref l0), (1, .int l1)] [.int t0] s (x_Store_cellsOf_b25 d l0 l1 t0 s) := by
  unfold x_Store_cellsOf_b25
  refine xW_pure (fun _ _ _ _ _ => am_istore_n d_Store_cellsOf_25 rfl (Nat.le_of_ble_eq_true rfl)) ?_
  refine xW_pure (fun _ _ _ _ _ => am_iload_n d_Store_cellsOf_26 rfl rfl) ?_
  refine xW_ite (fun _ _ _ _ _ => am_if_eq (tgt := 39) d_Store_cellsOf_27 (by decide)) (fun _ => ?_) (fun _ => ?_)
  · refine xW_pure (fun _ _ _ _ _ => am_iconst (v := 0) d_Store_cellsOf_39 (by decide)) ?_
    exact xW_ret (fun _ _ _ _ _ => am_iret rfl d_Store_cellsOf_40)
  · refine xW_pure (fun _ _ _ _ _ => am_aload_n d_Store_cellsOf_30 rfl rfl) ?_
    refine xW_gR O f_Store_16 d_Store_cellsOf_31 (fun v1 _ => ?_)
    refine xW_pure (fun _ _ _ _ _ => am_iload_n d_Store_cellsOf_34 rfl rfl) ?_
    refine xW_aI O d_Store_cellsOf_35 (fun v2 _ => ?_)
    refine xW_pure (fun _ _ _ _ _ => am_goto (tgt := 40) d_Store_cellsOf_36 (by decide)) ?_
    exact xW_ret (fun _ _ _ _ _ => am_iret rfl d_Store_cellsOf_40)

set_option maxRecDepth 100000 in
def x_Store_cellsOf_b24 (d : Nat) (l0 : Nat) (l1 : Int32) (s : HS) : Option (Int32 × HS) := x_Store_cellsOf_b25 d l0 l1 0 s

set_option maxRecDepth 100000 in
set_option maxHeartbeats 4000000 in
theorem dx_Store_cellsOf_b24 (O : am_ok K X) (T : am_T K) {d : Nat} {l0 : Nat} {l1 : Int32} {s : HS} : xW cvI K X m_Store_cellsOf d 24 [(0, .ref l0), (1, .int l1)] [] s (x_Store_cellsOf_b24 d l0 l1 s) := by
  unfold x_Store_cellsOf_b24
  refine xW_pure (fun _ _ _ _ _ => am_iconst (v := 0) d_Store_cellsOf_24 (by decide)) ?_
  refine xW_locs (lv' := [(0, .ref l0), (1, .int l1)]) rfl ?_
  exact dx_Store_cellsOf_b25 O T

set_option maxRecDepth 100000 in
def x_Store_cellsOf (d : Nat) (x0 : Nat) (x1 : Int32) (s : HS) : Option (Int32 × HS) := gd s x0 10 (if x1 < 0 then (x_Store_cellsOf_b24 d x0 x1 s) else (if 100 ≤ x1 then (x_Store_cellsOf_b24 d x0 x1 s) else ((gR s x0 10 2).bind fun v3 => ((aI s v3 x1).bind fun v4 => (if v4 = (-1) then (x_Store_cellsOf_b24 d x0 x1 s) else (x_Store_cellsOf_b25 d x0 x1 1 s))))))

set_option maxRecDepth 100000 in
set_option maxHeartbeats 4000000 in
theorem dx_Store_cellsOf (O : am_ok K X) (T : am_T K) {d : Nat} {x0 : Nat} {x1 : Int32} {s : HS} : xM cvI K X m_Store_cellsOf d [.ref x0, .int x1] s (x_Store_cellsOf d x0 x1 s) := by
  unfold x_Store_cellsOf
  refine xM_enter (by decide +kernel) (Nat.le_of_ble_eq_true rfl) ?_
  refine xW_gd (fun _ => ?_)
  refine xW_pure (fun _ _ _ _ _ => am_iload_n d_Store_cellsOf_0 rfl rfl) ?_
  refine xW_ite (fun _ _ _ _ _ => am_if_lt (tgt := 24) d_Store_cellsOf_1 (by decide)) (fun _ => ?_) (fun _ => ?_)
  · refine xW_locs (lv' := [(0, .ref x0), (1, .int x1)]) rfl ?_
    exact dx_Store_cellsOf_b24 O T
  · refine xW_pure (fun _ _ _ _ _ => am_iload_n d_Store_cellsOf_4 rfl rfl) ?_
    refine xW_pure (fun _ _ _ _ _ => am_bipush (v := 100) d_Store_cellsOf_5 (by decide)) ?_
    refine xW_ite (fun _ _ _ _ _ => am_icmp_ge (tgt := 24) d_Store_cellsOf_7 (by decide)) (fun _ => ?_) (fun _ => ?_)
    · refine xW_locs (lv' := [(0, .ref x0), (1, .int x1)]) rfl ?_
      exact dx_Store_cellsOf_b24 O T
    · refine xW_pure (fun _ _ _ _ _ => am_aload_n d_Store_cellsOf_10 rfl rfl) ?_
      refine xW_gR O f_Store_16 d_Store_cellsOf_11 (fun v3 _ => ?_)
      refine xW_pure (fun _ _ _ _ _ => am_iload_n d_Store_cellsOf_14 rfl rfl) ?_
      refine xW_aI O d_Store_cellsOf_15 (fun v4 _ => ?_)
      refine xW_pure (fun _ _ _ _ _ => am_iconst (v := (-1)) d_Store_cellsOf_16 (by decide)) ?_
      refine xW_ite (fun _ _ _ _ _ => am_icmp_eq (tgt := 24) d_Store_cellsOf_17 (by decide)) (fun _ => ?_) (fun _ => ?_)
      · refine xW_locs (lv' := [(0, .ref x0), (1, .int x1)]) rfl ?_
        exact dx_Store_cellsOf_b24 O T
      · refine xW_pure (fun _ _ _ _ _ => am_iconst (v := 1) d_Store_cellsOf_20 (by decide)) ?_
        refine xW_pure (fun _ _ _ _ _ => am_goto (tgt := 25) d_Store_cellsOf_21 (by decide)) ?_
        refine xW_locs (lv' := [(0, .ref x0), (1, .int x1)]) rfl ?_
        exact dx_Store_cellsOf_b25 O T

theorem ob_Store_cellsOf {d : Nat} {x0 : Nat} {x1 : Int32} {s : HS} {y : Int32 × HS} (h : x_Store_cellsOf d x0 x1 s = some y) : isO s x0 10 = true := (gd_spec h).1

set_option maxRecDepth 100000 in
def x_Store_dropField (d : Nat) (x0 : Nat) (x1 : Int32) (x2 : Int32) (s : HS) : Option (Unit × HS) := match d with
  | 0 => none
  | d + 1 => gd s x0 10 (if 0 ≤ x2 then (bnd (x_Store_firstCell d x0 x1 s) fun v2 s1 => (bnd (x_Store_cellsOf d x0 x1 s1) fun v4 s3 => ((gR s3 x0 10 0).bind fun v5 => ((gR s3 x0 10 0).bind fun v6 => ((cpA s3 v5 (x2 + 1) v6 (x2 - 1) ((v2 + v4) - (x2 + 1))).bind fun s7 => ((gR s7 x0 10 1).bind fun v8 => ((gR s7 x0 10 1).bind fun v9 => ((cpA s7 v8 (x2 + 1) v9 (x2 - 1) ((v2 + v4) - (x2 + 1))).bind fun s10 => ((gR s10 x0 10 2).bind fun v11 => ((aI s10 v11 x1).bind fun v12 => ((sV s10 .int v11 x1 (.int (v12 - 2))).bind fun s13 => (some ((), s13))))))))))))) else (some ((), s)))

set_option maxRecDepth 100000 in
set_option maxHeartbeats 4000000 in
theorem dx_Store_dropField (O : am_ok K X) (T : am_T K) {d : Nat} {x0 : Nat} {x1 : Int32} {x2 : Int32} {s : HS} : xM cvU K X m_Store_dropField d [.ref x0, .int x1, .int x2] s (x_Store_dropField d x0 x1 x2 s) := by
  cases d with
  | zero => exact xM_none
  | succ d =>
    unfold x_Store_dropField
    refine xM_enter (by decide +kernel) (Nat.le_of_ble_eq_true rfl) ?_
    refine xW_gd (fun _ => ?_)
    refine xW_pure (fun _ _ _ _ _ => am_iload_n d_Store_dropField_0 rfl rfl) ?_
    refine xW_ite (fun _ _ _ _ _ => am_if_ge (tgt := 5) d_Store_dropField_1 (by decide)) (fun _ => ?_) (fun _ => ?_)
    · refine xW_pure (fun _ _ _ _ _ => am_iload_n d_Store_dropField_5 rfl rfl) ?_
      refine xW_pure (fun _ _ _ _ _ => am_iconst (v := 1) d_Store_dropField_6 (by decide)) ?_
      refine xW_pure (fun _ _ _ _ _ => am_iadd d_Store_dropField_7) ?_
      refine xW_pure (fun _ _ _ _ _ => am_istore_n d_Store_dropField_8 rfl (Nat.le_of_ble_eq_true rfl)) ?_
      refine xW_pure (fun _ _ _ _ _ => am_aload_n d_Store_dropField_9 rfl rfl) ?_
      refine xW_pure (fun _ _ _ _ _ => am_iload_n d_Store_dropField_10 rfl rfl) ?_
      refine xW_callV O (dx_Store_firstCell O T) (fun _ e => ob_Store_firstCell e) rfl rfl rfl l_Store_62 ⟨w_1220, w_1221⟩ rfl (Nat.le_of_ble_eq_true rfl) d_Store_dropField_11 (fun v2 s1 _ => ?_)
      refine xW_pure (fun _ _ _ _ _ => am_aload_n d_Store_dropField_14 rfl rfl) ?_
      refine xW_pure (fun _ _ _ _ _ => am_iload_n d_Store_dropField_15 rfl rfl) ?_
      refine xW_callV O (dx_Store_cellsOf O T) (fun _ e => ob_Store_cellsOf e) rfl rfl rfl l_Store_58 ⟨w_1224, w_1225⟩ rfl (Nat.le_of_ble_eq_true rfl) d_Store_dropField_16 (fun v4 s3 _ => ?_)
      refine xW_pure (fun _ _ _ _ _ => am_iadd d_Store_dropField_19) ?_
      refine xW_pure (fun _ _ _ _ _ => am_iload_n d_Store_dropField_20 rfl rfl) ?_
      refine xW_pure (fun _ _ _ _ _ => am_isub d_Store_dropField_21) ?_
      refine xW_pure (fun _ _ _ _ _ => am_istore d_Store_dropField_22 (Nat.le_of_ble_eq_true rfl)) ?_
      refine xW_pure (fun _ _ _ _ _ => am_aload_n d_Store_dropField_24 rfl rfl) ?_
      refine xW_gR O f_Store_9 d_Store_dropField_25 (fun v5 _ => ?_)
      refine xW_pure (fun _ _ _ _ _ => am_iload_n d_Store_dropField_28 rfl rfl) ?_
      refine xW_pure (fun _ _ _ _ _ => am_aload_n d_Store_dropField_29 rfl rfl) ?_
      refine xW_gR O f_Store_9 d_Store_dropField_30 (fun v6 _ => ?_)
      refine xW_pure (fun _ _ _ _ _ => am_iload_n d_Store_dropField_33 rfl rfl) ?_
      refine xW_pure (fun _ _ _ _ _ => am_iconst (v := 1) d_Store_dropField_34 (by decide)) ?_
      refine xW_pure (fun _ _ _ _ _ => am_isub d_Store_dropField_35) ?_
      refine xW_pure (fun _ _ _ _ _ => am_iload d_Store_dropField_36 rfl) ?_
      refine xW_copy O w_1016 w_735 w_734 w_167 d_Store_dropField_38 (Nat.le_of_ble_eq_true rfl) (fun s7 _ => ?_)
      refine xW_pure (fun _ _ _ _ _ => am_aload_n d_Store_dropField_41 rfl rfl) ?_
      refine xW_gR O f_Store_13 d_Store_dropField_42 (fun v8 _ => ?_)
      refine xW_pure (fun _ _ _ _ _ => am_iload_n d_Store_dropField_45 rfl rfl) ?_
      refine xW_pure (fun _ _ _ _ _ => am_aload_n d_Store_dropField_46 rfl rfl) ?_
      refine xW_gR O f_Store_13 d_Store_dropField_47 (fun v9 _ => ?_)
      refine xW_pure (fun _ _ _ _ _ => am_iload_n d_Store_dropField_50 rfl rfl) ?_
      refine xW_pure (fun _ _ _ _ _ => am_iconst (v := 1) d_Store_dropField_51 (by decide)) ?_
      refine xW_pure (fun _ _ _ _ _ => am_isub d_Store_dropField_52) ?_
      refine xW_pure (fun _ _ _ _ _ => am_iload d_Store_dropField_53 rfl) ?_
      refine xW_copy O w_1016 w_735 w_734 w_167 d_Store_dropField_55 (Nat.le_of_ble_eq_true rfl) (fun s10 _ => ?_)
      refine xW_pure (fun _ _ _ _ _ => am_aload_n d_Store_dropField_58 rfl rfl) ?_
      refine xW_gR O f_Store_16 d_Store_dropField_59 (fun v11 _ => ?_)
      refine xW_pure (fun _ _ _ _ _ => am_iload_n d_Store_dropField_62 rfl rfl) ?_
      refine xW_pure (fun _ _ _ _ _ => am_dup2 d_Store_dropField_63 rfl rfl) ?_
      refine xW_aI O d_Store_dropField_64 (fun v12 _ => ?_)
      refine xW_pure (fun _ _ _ _ _ => am_iconst (v := 2) d_Store_dropField_65 (by decide)) ?_
      refine xW_pure (fun _ _ _ _ _ => am_isub d_Store_dropField_66) ?_
      refine xW_sI O d_Store_dropField_67 (fun s13 _ => ?_)
      exact xW_ret (fun _ _ _ _ _ => am_vret rfl d_Store_dropField_68)
    · exact xW_ret (fun _ _ _ _ _ => am_vret rfl d_Store_dropField_4)

theorem ob_Store_dropField {d : Nat} {x0 : Nat} {x1 : Int32} {x2 : Int32} {s : HS} {y : Unit × HS} (h : x_Store_dropField d x0 x1 x2 s = some y) : isO s x0 10 = true := by
  cases d with
  | zero => cases h
  | succ d => exact (gd_spec h).1

set_option maxRecDepth 100000 in
def x_Store_isThere (d : Nat) (x0 : Nat) (x1 : Int32) (s : HS) : Option (Int32 × HS) := gd s x0 10 (if x1 < 0 then (some (0, s)) else (if 100 ≤ x1 then (some (0, s)) else ((gR s x0 10 2).bind fun v1 => ((aI s v1 x1).bind fun v2 => (if v2 = (-1) then (some (0, s)) else (some (1, s)))))))

set_option maxRecDepth 100000 in
set_option maxHeartbeats 4000000 in
theorem dx_Store_isThere (O : am_ok K X) (T : am_T K) {d : Nat} {x0 : Nat} {x1 : Int32} {s : HS} : xM cvI K X m_Store_isThere d [.ref x0, .int x1] s (x_Store_isThere d x0 x1 s) := by
  unfold x_Store_isThere
  refine xM_enter (by decide +kernel) (Nat.le_of_ble_eq_true rfl) ?_
  refine xW_gd (fun _ => ?_)
  refine xW_pure (fun _ _ _ _ _ => am_iload_n d_Store_isThere_0 rfl rfl) ?_
  refine xW_ite (fun _ _ _ _ _ => am_if_lt (tgt := 24) d_Store_isThere_1 (by decide)) (fun _ => ?_) (fun _ => ?_)
  · refine xW_pure (fun _ _ _ _ _ => am_iconst (v := 0) d_Store_isThere_24 (by decide)) ?_
    exact xW_ret (fun _ _ _ _ _ => am_zret (ty := .boolean) rfl rfl d_Store_isThere_25)
  · refine xW_pure (fun _ _ _ _ _ => am_iload_n d_Store_isThere_4 rfl rfl) ?_
    refine xW_pure (fun _ _ _ _ _ => am_bipush (v := 100) d_Store_isThere_5 (by decide)) ?_
    refine xW_ite (fun _ _ _ _ _ => am_icmp_ge (tgt := 24) d_Store_isThere_7 (by decide)) (fun _ => ?_) (fun _ => ?_)
    · refine xW_pure (fun _ _ _ _ _ => am_iconst (v := 0) d_Store_isThere_24 (by decide)) ?_
      exact xW_ret (fun _ _ _ _ _ => am_zret (ty := .boolean) rfl rfl d_Store_isThere_25)
    · refine xW_pure (fun _ _ _ _ _ => am_aload_n d_Store_isThere_10 rfl rfl) ?_
      refine xW_gR O f_Store_16 d_Store_isThere_11 (fun v1 _ => ?_)
      refine xW_pure (fun _ _ _ _ _ => am_iload_n d_Store_isThere_14 rfl rfl) ?_
      refine xW_aI O d_Store_isThere_15 (fun v2 _ => ?_)
      refine xW_pure (fun _ _ _ _ _ => am_iconst (v := (-1)) d_Store_isThere_16 (by decide)) ?_
      refine xW_ite (fun _ _ _ _ _ => am_icmp_eq (tgt := 24) d_Store_isThere_17 (by decide)) (fun _ => ?_) (fun _ => ?_)
      · refine xW_pure (fun _ _ _ _ _ => am_iconst (v := 0) d_Store_isThere_24 (by decide)) ?_
        exact xW_ret (fun _ _ _ _ _ => am_zret (ty := .boolean) rfl rfl d_Store_isThere_25)
      · refine xW_pure (fun _ _ _ _ _ => am_iconst (v := 1) d_Store_isThere_20 (by decide)) ?_
        refine xW_pure (fun _ _ _ _ _ => am_goto (tgt := 25) d_Store_isThere_21 (by decide)) ?_
        exact xW_ret (fun _ _ _ _ _ => am_zret (ty := .boolean) rfl rfl d_Store_isThere_25)

theorem ob_Store_isThere {d : Nat} {x0 : Nat} {x1 : Int32} {s : HS} {y : Int32 × HS} (h : x_Store_isThere d x0 x1 s = some y) : isO s x0 10 = true := (gd_spec h).1

set_option maxRecDepth 100000 in
def x_Mach_isWithin (d : Nat) (x0 : Nat) (x1 : Int32) (x2 : Int32) (s : HS) : Option (Int32 × HS) := match d with
  | 0 => none
  | d + 1 => gd s x0 6 (bnd (x_Mach_sortAt d x0 x1 s) fun v2 s1 => (if v2 = 1 then ((gR s1 x0 6 1).bind fun v3 => ((aL s1 v3 x1).bind fun v4 => (if (lg_cmp v4 0) < 0 then (bnd (x_Mach_fail d x0 3 s1) fun v6 s5 => (some (0, s5))) else ((gR s1 x0 6 1).bind fun v7 => ((aL s1 v7 x1).bind fun v8 => (if (lg_cmp v8 (x2 : Int32).toInt64) < 0 then (some (1, s1)) else (bnd (x_Mach_fail d x0 3 s1) fun v10 s9 => (some (0, s9))))))))) else (bnd (x_Mach_fail d x0 2 s1) fun v12 s11 => (some (0, s11)))))

set_option maxRecDepth 100000 in
set_option maxHeartbeats 4000000 in
theorem dx_Mach_isWithin (O : am_ok K X) (T : am_T K) {d : Nat} {x0 : Nat} {x1 : Int32} {x2 : Int32} {s : HS} : xM cvI K X m_Mach_isWithin d [.ref x0, .int x1, .int x2] s (x_Mach_isWithin d x0 x1 x2 s) := by
  cases d with
  | zero => exact xM_none
  | succ d =>
    unfold x_Mach_isWithin
    refine xM_enter (by decide +kernel) (Nat.le_of_ble_eq_true rfl) ?_
    refine xW_gd (fun _ => ?_)
    refine xW_pure (fun _ _ _ _ _ => am_aload_n d_Mach_isWithin_0 rfl rfl) ?_
    refine xW_pure (fun _ _ _ _ _ => am_iload_n d_Mach_isWithin_1 rfl rfl) ?_
    refine xW_callV O (dx_Mach_sortAt O T) (fun _ e => ob_Mach_sortAt e) rfl rfl rfl l_Mach_177 ⟨w_1140, w_52⟩ rfl (Nat.le_of_ble_eq_true rfl) d_Mach_isWithin_2 (fun v2 s1 _ => ?_)
    refine xW_pure (fun _ _ _ _ _ => am_iconst (v := 1) d_Mach_isWithin_5 (by decide)) ?_
    refine xW_ite (fun _ _ _ _ _ => am_icmp_eq (tgt := 17) d_Mach_isWithin_6 (by decide)) (fun _ => ?_) (fun _ => ?_)
    · refine xW_pure (fun _ _ _ _ _ => am_aload_n d_Mach_isWithin_17 rfl rfl) ?_
      refine xW_gR O f_Mach_13 d_Mach_isWithin_18 (fun v3 _ => ?_)
      refine xW_pure (fun _ _ _ _ _ => am_iload_n d_Mach_isWithin_21 rfl rfl) ?_
      refine xW_aL O d_Mach_isWithin_22 (fun v4 _ => ?_)
      refine xW_pure (fun _ _ _ _ _ => am_lconst (v := 0) d_Mach_isWithin_23 (by decide)) ?_
      refine xW_pure (fun _ _ _ _ _ => am_lcmp d_Mach_isWithin_24) ?_
      refine xW_ite (fun _ _ _ _ _ => am_if_lt (tgt := 40) d_Mach_isWithin_25 (by decide)) (fun _ => ?_) (fun _ => ?_)
      · refine xW_pure (fun _ _ _ _ _ => am_aload_n d_Mach_isWithin_40 rfl rfl) ?_
        refine xW_pure (fun _ _ _ _ _ => am_iconst (v := 3) d_Mach_isWithin_41 (by decide)) ?_
        refine xW_callV O (dx_Mach_fail O T) (fun _ e => ob_Mach_fail e) rfl rfl rfl l_Mach_106 ⟨w_1084, w_45⟩ rfl (Nat.le_of_ble_eq_true rfl) d_Mach_isWithin_42 (fun v6 s5 _ => ?_)
        refine xW_pure (fun _ _ _ _ _ => am_goto (tgt := 50) d_Mach_isWithin_45 (by decide)) ?_
        refine xW_pure (fun _ _ _ _ _ => am_iconst (v := 0) d_Mach_isWithin_50 (by decide)) ?_
        exact xW_ret (fun _ _ _ _ _ => am_zret (ty := .boolean) rfl rfl d_Mach_isWithin_51)
      · refine xW_pure (fun _ _ _ _ _ => am_aload_n d_Mach_isWithin_28 rfl rfl) ?_
        refine xW_gR O f_Mach_13 d_Mach_isWithin_29 (fun v7 _ => ?_)
        refine xW_pure (fun _ _ _ _ _ => am_iload_n d_Mach_isWithin_32 rfl rfl) ?_
        refine xW_aL O d_Mach_isWithin_33 (fun v8 _ => ?_)
        refine xW_pure (fun _ _ _ _ _ => am_iload_n d_Mach_isWithin_34 rfl rfl) ?_
        refine xW_pure (fun _ _ _ _ _ => am_i2l d_Mach_isWithin_35 rfl) ?_
        refine xW_pure (fun _ _ _ _ _ => am_lcmp d_Mach_isWithin_36) ?_
        refine xW_ite (fun _ _ _ _ _ => am_if_lt (tgt := 48) d_Mach_isWithin_37 (by decide)) (fun _ => ?_) (fun _ => ?_)
        · refine xW_pure (fun _ _ _ _ _ => am_iconst (v := 1) d_Mach_isWithin_48 (by decide)) ?_
          exact xW_ret (fun _ _ _ _ _ => am_zret (ty := .boolean) rfl rfl d_Mach_isWithin_49)
        · refine xW_pure (fun _ _ _ _ _ => am_aload_n d_Mach_isWithin_40 rfl rfl) ?_
          refine xW_pure (fun _ _ _ _ _ => am_iconst (v := 3) d_Mach_isWithin_41 (by decide)) ?_
          refine xW_callV O (dx_Mach_fail O T) (fun _ e => ob_Mach_fail e) rfl rfl rfl l_Mach_106 ⟨w_1084, w_45⟩ rfl (Nat.le_of_ble_eq_true rfl) d_Mach_isWithin_42 (fun v10 s9 _ => ?_)
          refine xW_pure (fun _ _ _ _ _ => am_goto (tgt := 50) d_Mach_isWithin_45 (by decide)) ?_
          refine xW_pure (fun _ _ _ _ _ => am_iconst (v := 0) d_Mach_isWithin_50 (by decide)) ?_
          exact xW_ret (fun _ _ _ _ _ => am_zret (ty := .boolean) rfl rfl d_Mach_isWithin_51)
    · refine xW_pure (fun _ _ _ _ _ => am_aload_n d_Mach_isWithin_9 rfl rfl) ?_
      refine xW_pure (fun _ _ _ _ _ => am_iconst (v := 2) d_Mach_isWithin_10 (by decide)) ?_
      refine xW_callV O (dx_Mach_fail O T) (fun _ e => ob_Mach_fail e) rfl rfl rfl l_Mach_106 ⟨w_1084, w_45⟩ rfl (Nat.le_of_ble_eq_true rfl) d_Mach_isWithin_11 (fun v12 s11 _ => ?_)
      refine xW_pure (fun _ _ _ _ _ => am_goto (tgt := 50) d_Mach_isWithin_14 (by decide)) ?_
      refine xW_pure (fun _ _ _ _ _ => am_iconst (v := 0) d_Mach_isWithin_50 (by decide)) ?_
      exact xW_ret (fun _ _ _ _ _ => am_zret (ty := .boolean) rfl rfl d_Mach_isWithin_51)

theorem ob_Mach_isWithin {d : Nat} {x0 : Nat} {x1 : Int32} {x2 : Int32} {s : HS} {y : Int32 × HS} (h : x_Mach_isWithin d x0 x1 x2 s = some y) : isO s x0 6 = true := by
  cases d with
  | zero => cases h
  | succ d => exact (gd_spec h).1

set_option maxRecDepth 100000 in
def x_Mach_storeItem (d : Nat) (x0 : Nat) (s : HS) : Option (Unit × HS) := match d with
  | 0 => none
  | d + 1 => gd s x0 6 (bnd (x_Mach_below d x0 3 s) fun v2 s1 => (bnd (x_Mach_below d x0 2 s1) fun v4 s3 => (bnd (x_Mach_below d x0 1 s3) fun v6 s5 => ((pV s5 x0 6 2 (.int v2)).bind fun s7 => (bnd (x_Mach_sortAt d x0 v2 s7) fun v9 s8 => (if v9 = 4 then ((gR s8 x0 6 10).bind fun v10 => (bnd (x_Mach_objectAt d x0 v2 s8) fun v12 s11 => (bnd (x_Store_cellsOf d v10 v12 s11) fun v14 s13 => (bnd (x_Mach_isWithin d x0 v4 v14 s13) fun v16 s15 => (if v16 = 0 then (some ((), s15)) else ((gR s15 x0 6 10).bind fun v17 => (bnd (x_Mach_objectAt d x0 v2 s15) fun v19 s18 => (bnd (x_Store_firstCell d v17 v19 s18) fun v21 s20 => ((gR s20 x0 6 1).bind fun v22 => ((aL s20 v22 v4).bind fun v23 => ((gR s20 x0 6 10).bind fun v24 => ((gR s20 v24 10 0).bind fun v25 => ((gR s20 x0 6 0).bind fun v26 => ((aL s20 v26 v6).bind fun v27 => ((sV s20 .long v25 (v21 + (v23 : Int64).toInt32) (.long v27)).bind fun s28 => ((gR s28 x0 6 10).bind fun v29 => ((gR s28 v29 10 1).bind fun v30 => ((gR s28 x0 6 1).bind fun v31 => ((aL s28 v31 v6).bind fun v32 => ((sV s28 .long v30 (v21 + (v23 : Int64).toInt32) (.long v32)).bind fun s33 => (some ((), s33)))))))))))))))))))))) else (bnd (x_Mach_fail d x0 2 s8) fun v35 s34 => (some ((), s34)))))))))

set_option maxRecDepth 100000 in
set_option maxHeartbeats 4000000 in
theorem dx_Mach_storeItem (O : am_ok K X) (T : am_T K) {d : Nat} {x0 : Nat} {s : HS} : xM cvU K X m_Mach_storeItem d [.ref x0] s (x_Mach_storeItem d x0 s) := by
  cases d with
  | zero => exact xM_none
  | succ d =>
    unfold x_Mach_storeItem
    refine xM_enter (by decide +kernel) (Nat.le_of_ble_eq_true rfl) ?_
    refine xW_gd (fun _ => ?_)
    refine xW_pure (fun _ _ _ _ _ => am_aload_n d_Mach_storeItem_0 rfl rfl) ?_
    refine xW_pure (fun _ _ _ _ _ => am_iconst (v := 3) d_Mach_storeItem_1 (by decide)) ?_
    refine xW_callV O (dx_Mach_below O T) (fun _ e => ob_Mach_below e) rfl rfl rfl l_Mach_133 ⟨w_1071, w_43⟩ rfl (Nat.le_of_ble_eq_true rfl) d_Mach_storeItem_2 (fun v2 s1 _ => ?_)
    refine xW_pure (fun _ _ _ _ _ => am_istore_n d_Mach_storeItem_5 rfl (Nat.le_of_ble_eq_true rfl)) ?_
    refine xW_pure (fun _ _ _ _ _ => am_aload_n d_Mach_storeItem_6 rfl rfl) ?_
    refine xW_pure (fun _ _ _ _ _ => am_iconst (v := 2) d_Mach_storeItem_7 (by decide)) ?_
    refine xW_callV O (dx_Mach_below O T) (fun _ e => ob_Mach_below e) rfl rfl rfl l_Mach_133 ⟨w_1071, w_43⟩ rfl (Nat.le_of_ble_eq_true rfl) d_Mach_storeItem_8 (fun v4 s3 _ => ?_)
    refine xW_pure (fun _ _ _ _ _ => am_istore_n d_Mach_storeItem_11 rfl (Nat.le_of_ble_eq_true rfl)) ?_
    refine xW_pure (fun _ _ _ _ _ => am_aload_n d_Mach_storeItem_12 rfl rfl) ?_
    refine xW_pure (fun _ _ _ _ _ => am_iconst (v := 1) d_Mach_storeItem_13 (by decide)) ?_
    refine xW_callV O (dx_Mach_below O T) (fun _ e => ob_Mach_below e) rfl rfl rfl l_Mach_133 ⟨w_1071, w_43⟩ rfl (Nat.le_of_ble_eq_true rfl) d_Mach_storeItem_14 (fun v6 s5 _ => ?_)
    refine xW_pure (fun _ _ _ _ _ => am_istore_n d_Mach_storeItem_17 rfl (Nat.le_of_ble_eq_true rfl)) ?_
    refine xW_pure (fun _ _ _ _ _ => am_aload_n d_Mach_storeItem_18 rfl rfl) ?_
    refine xW_pure (fun _ _ _ _ _ => am_iload_n d_Mach_storeItem_19 rfl rfl) ?_
    refine xW_put O f_Mach_54 d_Mach_storeItem_20 (fun q hq => by cases hq; exact ⟨rfl, rfl, rfl⟩) (fun s7 _ => ?_)
    refine xW_pure (fun _ _ _ _ _ => am_aload_n d_Mach_storeItem_23 rfl rfl) ?_
    refine xW_pure (fun _ _ _ _ _ => am_iload_n d_Mach_storeItem_24 rfl rfl) ?_
    refine xW_callV O (dx_Mach_sortAt O T) (fun _ e => ob_Mach_sortAt e) rfl rfl rfl l_Mach_177 ⟨w_1140, w_52⟩ rfl (Nat.le_of_ble_eq_true rfl) d_Mach_storeItem_25 (fun v9 s8 _ => ?_)
    refine xW_pure (fun _ _ _ _ _ => am_iconst (v := 4) d_Mach_storeItem_28 (by decide)) ?_
    refine xW_ite (fun _ _ _ _ _ => am_icmp_eq (tgt := 40) d_Mach_storeItem_29 (by decide)) (fun _ => ?_) (fun _ => ?_)
    · refine xW_pure (fun _ _ _ _ _ => am_aload_n d_Mach_storeItem_40 rfl rfl) ?_
      refine xW_pure (fun _ _ _ _ _ => am_iload_n d_Mach_storeItem_41 rfl rfl) ?_
      refine xW_pure (fun _ _ _ _ _ => am_aload_n d_Mach_storeItem_42 rfl rfl) ?_
      refine xW_gR O f_Mach_29 d_Mach_storeItem_43 (fun v10 _ => ?_)
      refine xW_pure (fun _ _ _ _ _ => am_aload_n d_Mach_storeItem_46 rfl rfl) ?_
      refine xW_pure (fun _ _ _ _ _ => am_iload_n d_Mach_storeItem_47 rfl rfl) ?_
      refine xW_callV O (dx_Mach_objectAt O T) (fun _ e => ob_Mach_objectAt e) rfl rfl rfl l_Mach_225 ⟨w_1213, w_60⟩ rfl (Nat.le_of_ble_eq_true rfl) d_Mach_storeItem_48 (fun v12 s11 _ => ?_)
      refine xW_callV O (dx_Store_cellsOf O T) (fun _ e => ob_Store_cellsOf e) rfl rfl rfl l_Mach_238 ⟨w_1224, w_1225⟩ rfl (Nat.le_of_ble_eq_true rfl) d_Mach_storeItem_51 (fun v14 s13 _ => ?_)
      refine xW_callV O (dx_Mach_isWithin O T) (fun _ e => ob_Mach_isWithin e) rfl rfl rfl l_Mach_241 ⟨w_1255, w_64⟩ rfl (Nat.le_of_ble_eq_true rfl) d_Mach_storeItem_54 (fun v16 s15 _ => ?_)
      refine xW_ite (fun _ _ _ _ _ => am_if_eq (tgt := 114) d_Mach_storeItem_57 (by decide)) (fun _ => ?_) (fun _ => ?_)
      · exact xW_ret (fun _ _ _ _ _ => am_vret rfl d_Mach_storeItem_114)
      · refine xW_pure (fun _ _ _ _ _ => am_aload_n d_Mach_storeItem_60 rfl rfl) ?_
        refine xW_gR O f_Mach_29 d_Mach_storeItem_61 (fun v17 _ => ?_)
        refine xW_pure (fun _ _ _ _ _ => am_aload_n d_Mach_storeItem_64 rfl rfl) ?_
        refine xW_pure (fun _ _ _ _ _ => am_iload_n d_Mach_storeItem_65 rfl rfl) ?_
        refine xW_callV O (dx_Mach_objectAt O T) (fun _ e => ob_Mach_objectAt e) rfl rfl rfl l_Mach_225 ⟨w_1213, w_60⟩ rfl (Nat.le_of_ble_eq_true rfl) d_Mach_storeItem_66 (fun v19 s18 _ => ?_)
        refine xW_callV O (dx_Store_firstCell O T) (fun _ e => ob_Store_firstCell e) rfl rfl rfl l_Mach_245 ⟨w_1220, w_1221⟩ rfl (Nat.le_of_ble_eq_true rfl) d_Mach_storeItem_69 (fun v21 s20 _ => ?_)
        refine xW_pure (fun _ _ _ _ _ => am_aload_n d_Mach_storeItem_72 rfl rfl) ?_
        refine xW_gR O f_Mach_13 d_Mach_storeItem_73 (fun v22 _ => ?_)
        refine xW_pure (fun _ _ _ _ _ => am_iload_n d_Mach_storeItem_76 rfl rfl) ?_
        refine xW_aL O d_Mach_storeItem_77 (fun v23 _ => ?_)
        refine xW_pure (fun _ _ _ _ _ => am_l2i d_Mach_storeItem_78 rfl) ?_
        refine xW_pure (fun _ _ _ _ _ => am_iadd d_Mach_storeItem_79) ?_
        refine xW_pure (fun _ _ _ _ _ => am_istore d_Mach_storeItem_80 (Nat.le_of_ble_eq_true rfl)) ?_
        refine xW_pure (fun _ _ _ _ _ => am_aload_n d_Mach_storeItem_82 rfl rfl) ?_
        refine xW_gR O f_Mach_29 d_Mach_storeItem_83 (fun v24 _ => ?_)
        refine xW_gR O f_Mach_232 d_Mach_storeItem_86 (fun v25 _ => ?_)
        refine xW_pure (fun _ _ _ _ _ => am_iload d_Mach_storeItem_89 rfl) ?_
        refine xW_pure (fun _ _ _ _ _ => am_aload_n d_Mach_storeItem_91 rfl rfl) ?_
        refine xW_gR O f_Mach_7 d_Mach_storeItem_92 (fun v26 _ => ?_)
        refine xW_pure (fun _ _ _ _ _ => am_iload_n d_Mach_storeItem_95 rfl rfl) ?_
        refine xW_aL O d_Mach_storeItem_96 (fun v27 _ => ?_)
        refine xW_sL O d_Mach_storeItem_97 (fun s28 _ => ?_)
        refine xW_pure (fun _ _ _ _ _ => am_aload_n d_Mach_storeItem_98 rfl rfl) ?_
        refine xW_gR O f_Mach_29 d_Mach_storeItem_99 (fun v29 _ => ?_)
        refine xW_gR O f_Mach_233 d_Mach_storeItem_102 (fun v30 _ => ?_)
        refine xW_pure (fun _ _ _ _ _ => am_iload d_Mach_storeItem_105 rfl) ?_
        refine xW_pure (fun _ _ _ _ _ => am_aload_n d_Mach_storeItem_107 rfl rfl) ?_
        refine xW_gR O f_Mach_13 d_Mach_storeItem_108 (fun v31 _ => ?_)
        refine xW_pure (fun _ _ _ _ _ => am_iload_n d_Mach_storeItem_111 rfl rfl) ?_
        refine xW_aL O d_Mach_storeItem_112 (fun v32 _ => ?_)
        refine xW_sL O d_Mach_storeItem_113 (fun s33 _ => ?_)
        exact xW_ret (fun _ _ _ _ _ => am_vret rfl d_Mach_storeItem_114)
    · refine xW_pure (fun _ _ _ _ _ => am_aload_n d_Mach_storeItem_32 rfl rfl) ?_
      refine xW_pure (fun _ _ _ _ _ => am_iconst (v := 2) d_Mach_storeItem_33 (by decide)) ?_
      refine xW_callV O (dx_Mach_fail O T) (fun _ e => ob_Mach_fail e) rfl rfl rfl l_Mach_106 ⟨w_1084, w_45⟩ rfl (Nat.le_of_ble_eq_true rfl) d_Mach_storeItem_34 (fun v35 s34 _ => ?_)
      refine xW_pure (fun _ _ _ _ _ => am_goto (tgt := 114) d_Mach_storeItem_37 (by decide)) ?_
      exact xW_ret (fun _ _ _ _ _ => am_vret rfl d_Mach_storeItem_114)

theorem ob_Mach_storeItem {d : Nat} {x0 : Nat} {s : HS} {y : Unit × HS} (h : x_Mach_storeItem d x0 s = some y) : isO s x0 6 = true := by
  cases d with
  | zero => cases h
  | succ d => exact (gd_spec h).1

set_option maxRecDepth 100000 in
def x_Store_make (d : Nat) (x0 : Nat) (s : HS) : Option (Int32 × HS) := gd s x0 10 (loopK (fun (again2 : Int32 × HS → Option (Int32 × HS)) (z2 : Int32 × HS) => (if 100 ≤ z2.1 then (some ((-1), z2.2)) else ((gR z2.2 x0 10 2).bind fun v1 => ((aI z2.2 v1 z2.1).bind fun v2 => (if v2 = (-1) then ((gR z2.2 x0 10 2).bind fun v3 => ((sV z2.2 .int v3 z2.1 (.int 0)).bind fun s4 => (some (z2.1, s4)))) else (again2 ((z2.1 + 1), z2.2))))))) FU (0, s))

set_option maxRecDepth 100000 in
set_option maxHeartbeats 4000000 in
theorem dx_Store_make (O : am_ok K X) (T : am_T K) {d : Nat} {x0 : Nat} {s : HS} : xM cvI K X m_Store_make d [.ref x0] s (x_Store_make d x0 s) := by
  unfold x_Store_make
  refine xM_enter (by decide +kernel) (Nat.le_of_ble_eq_true rfl) ?_
  refine xW_gd (fun _ => ?_)
  refine xW_pure (fun _ _ _ _ _ => am_iconst (v := 0) d_Store_make_0 (by decide)) ?_
  refine xW_pure (fun _ _ _ _ _ => am_istore_n d_Store_make_1 rfl (Nat.le_of_ble_eq_true rfl)) ?_
  refine xW_locs (lv' := [(0, .ref x0), (1, .int 0)]) rfl ?_
  refine xW_loop (lvf := fun (z2 : Int32 × HS) => [(0, .ref x0), (1, .int z2.1)]) (hsf := fun (z2 : Int32 × HS) => z2.2) (fun again2 ih2 z2 => ?_) FU (0, s)
  refine xW_pure (fun _ _ _ _ _ => am_iload_n d_Store_make_2 rfl rfl) ?_
  refine xW_pure (fun _ _ _ _ _ => am_bipush (v := 100) d_Store_make_3 (by decide)) ?_
  refine xW_ite (fun _ _ _ _ _ => am_icmp_ge (tgt := 33) d_Store_make_5 (by decide)) (fun _ => ?_) (fun _ => ?_)
  · refine xW_pure (fun _ _ _ _ _ => am_iconst (v := (-1)) d_Store_make_33 (by decide)) ?_
    exact xW_ret (fun _ _ _ _ _ => am_iret rfl d_Store_make_34)
  · refine xW_pure (fun _ _ _ _ _ => am_aload_n d_Store_make_8 rfl rfl) ?_
    refine xW_gR O f_Store_16 d_Store_make_9 (fun v1 _ => ?_)
    refine xW_pure (fun _ _ _ _ _ => am_iload_n d_Store_make_12 rfl rfl) ?_
    refine xW_aI O d_Store_make_13 (fun v2 _ => ?_)
    refine xW_pure (fun _ _ _ _ _ => am_iconst (v := (-1)) d_Store_make_14 (by decide)) ?_
    refine xW_ite (fun _ _ _ _ _ k1 k2 => am_icmp_ne (tgt := 27) d_Store_make_15 (by decide) k2 k1) (fun _ => ?_) (fun _ => ?_)
    · refine xW_pure (fun _ _ _ _ _ => am_aload_n d_Store_make_18 rfl rfl) ?_
      refine xW_gR O f_Store_16 d_Store_make_19 (fun v3 _ => ?_)
      refine xW_pure (fun _ _ _ _ _ => am_iload_n d_Store_make_22 rfl rfl) ?_
      refine xW_pure (fun _ _ _ _ _ => am_iconst (v := 0) d_Store_make_23 (by decide)) ?_
      refine xW_sI O d_Store_make_24 (fun s4 _ => ?_)
      refine xW_pure (fun _ _ _ _ _ => am_iload_n d_Store_make_25 rfl rfl) ?_
      exact xW_ret (fun _ _ _ _ _ => am_iret rfl d_Store_make_26)
    · refine xW_pure (fun _ _ _ _ _ => am_iinc (v := 1) d_Store_make_27 rfl (by decide) (Nat.le_of_ble_eq_true rfl)) ?_
      refine xW_pure (fun _ _ _ _ _ => am_goto (tgt := 2) d_Store_make_30 (by decide)) ?_
      refine xW_locs (lv' := [(0, .ref x0), (1, .int (z2.1 + 1))]) rfl ?_
      exact ih2 ((z2.1 + 1), z2.2)

theorem ob_Store_make {d : Nat} {x0 : Nat} {s : HS} {y : Int32 × HS} (h : x_Store_make d x0 s = some y) : isO s x0 10 = true := (gd_spec h).1

set_option maxRecDepth 100000 in
def x_Store_dropLast (d : Nat) (x0 : Nat) (x1 : Int32) (s : HS) : Option (Unit × HS) := match d with
  | 0 => none
  | d + 1 => gd s x0 10 (bnd (x_Store_cellsOf d x0 x1 s) fun v2 s1 => (if v2 ≤ 0 then (some ((), s1)) else ((gR s1 x0 10 2).bind fun v3 => ((aI s1 v3 x1).bind fun v4 => ((sV s1 .int v3 x1 (.int (v4 - 1))).bind fun s5 => (some ((), s5)))))))

set_option maxRecDepth 100000 in
set_option maxHeartbeats 4000000 in
theorem dx_Store_dropLast (O : am_ok K X) (T : am_T K) {d : Nat} {x0 : Nat} {x1 : Int32} {s : HS} : xM cvU K X m_Store_dropLast d [.ref x0, .int x1] s (x_Store_dropLast d x0 x1 s) := by
  cases d with
  | zero => exact xM_none
  | succ d =>
    unfold x_Store_dropLast
    refine xM_enter (by decide +kernel) (Nat.le_of_ble_eq_true rfl) ?_
    refine xW_gd (fun _ => ?_)
    refine xW_pure (fun _ _ _ _ _ => am_aload_n d_Store_dropLast_0 rfl rfl) ?_
    refine xW_pure (fun _ _ _ _ _ => am_iload_n d_Store_dropLast_1 rfl rfl) ?_
    refine xW_callV O (dx_Store_cellsOf O T) (fun _ e => ob_Store_cellsOf e) rfl rfl rfl l_Store_58 ⟨w_1224, w_1225⟩ rfl (Nat.le_of_ble_eq_true rfl) d_Store_dropLast_2 (fun v2 s1 _ => ?_)
    refine xW_ite (fun _ _ _ _ _ => am_if_le (tgt := 18) d_Store_dropLast_5 (by decide)) (fun _ => ?_) (fun _ => ?_)
    · exact xW_ret (fun _ _ _ _ _ => am_vret rfl d_Store_dropLast_18)
    · refine xW_pure (fun _ _ _ _ _ => am_aload_n d_Store_dropLast_8 rfl rfl) ?_
      refine xW_gR O f_Store_16 d_Store_dropLast_9 (fun v3 _ => ?_)
      refine xW_pure (fun _ _ _ _ _ => am_iload_n d_Store_dropLast_12 rfl rfl) ?_
      refine xW_pure (fun _ _ _ _ _ => am_dup2 d_Store_dropLast_13 rfl rfl) ?_
      refine xW_aI O d_Store_dropLast_14 (fun v4 _ => ?_)
      refine xW_pure (fun _ _ _ _ _ => am_iconst (v := 1) d_Store_dropLast_15 (by decide)) ?_
      refine xW_pure (fun _ _ _ _ _ => am_isub d_Store_dropLast_16) ?_
      refine xW_sI O d_Store_dropLast_17 (fun s5 _ => ?_)
      exact xW_ret (fun _ _ _ _ _ => am_vret rfl d_Store_dropLast_18)

theorem ob_Store_dropLast {d : Nat} {x0 : Nat} {x1 : Int32} {s : HS} {y : Unit × HS} (h : x_Store_dropLast d x0 x1 s = some y) : isO s x0 10 = true := by
  cases d with
  | zero => cases h
  | succ d => exact (gd_spec h).1

set_option maxRecDepth 100000 in
def x_Mach_found (d : Nat) (x1 : Int32) (x2 : Int32) (x3 : Int32) (s : HS) : Option (Int32 × HS) := if x1 = 32 then (some ((x2 + x3), s)) else (if x1 = 33 then (some ((x2 - x3), s)) else (if x1 = 34 then (some ((x2 * x3), s)) else (if x1 = 35 then (if x3 = 0 then (some (0, s)) else (if x3 = 0 then none else (some ((x2 / x3), s)))) else (if x3 = 0 then (some (0, s)) else (if x3 = 0 then none else (some ((x2 - x2 / x3 * x3), s)))))))

set_option maxRecDepth 100000 in
set_option maxHeartbeats 4000000 in
theorem dx_Mach_found (O : am_ok K X) (T : am_T K) {d : Nat} {x1 : Int32} {x2 : Int32} {x3 : Int32} {s : HS} : xM cvI K X m_Mach_found d [.int x1, .int x2, .int x3] s (x_Mach_found d x1 x2 x3 s) := by
  unfold x_Mach_found
  refine xM_enter (by decide +kernel) (Nat.le_of_ble_eq_true rfl) ?_
  refine xW_pure (fun _ _ _ _ _ => am_iload_n d_Mach_found_0 rfl rfl) ?_
  refine xW_by (fun c1_0 => ?_) (fun c1_0 => ?_)
  · refine xW_pure (fun _ _ _ _ _ => am_tableIn (off := 31) (tgt := 32) d_Mach_found_1 (by rw [c1_0]; decide) (by rw [c1_0]; decide) (by rw [c1_0]; rfl) (by decide)) ?_
    refine xW_pure (fun _ _ _ _ _ => am_iload_n d_Mach_found_32 rfl rfl) ?_
    refine xW_pure (fun _ _ _ _ _ => am_iload_n d_Mach_found_33 rfl rfl) ?_
    refine xW_pure (fun _ _ _ _ _ => am_iadd d_Mach_found_34) ?_
    exact xW_ret (fun _ _ _ _ _ => am_iret rfl d_Mach_found_35)
  · refine xW_by (fun c1_1 => ?_) (fun c1_1 => ?_)
    · refine xW_pure (fun _ _ _ _ _ => am_tableIn (off := 35) (tgt := 36) d_Mach_found_1 (by rw [c1_1]; decide) (by rw [c1_1]; decide) (by rw [c1_1]; rfl) (by decide)) ?_
      refine xW_pure (fun _ _ _ _ _ => am_iload_n d_Mach_found_36 rfl rfl) ?_
      refine xW_pure (fun _ _ _ _ _ => am_iload_n d_Mach_found_37 rfl rfl) ?_
      refine xW_pure (fun _ _ _ _ _ => am_isub d_Mach_found_38) ?_
      exact xW_ret (fun _ _ _ _ _ => am_iret rfl d_Mach_found_39)
    · refine xW_by (fun c1_2 => ?_) (fun c1_2 => ?_)
      · refine xW_pure (fun _ _ _ _ _ => am_tableIn (off := 39) (tgt := 40) d_Mach_found_1 (by rw [c1_2]; decide) (by rw [c1_2]; decide) (by rw [c1_2]; rfl) (by decide)) ?_
        refine xW_pure (fun _ _ _ _ _ => am_iload_n d_Mach_found_40 rfl rfl) ?_
        refine xW_pure (fun _ _ _ _ _ => am_iload_n d_Mach_found_41 rfl rfl) ?_
        refine xW_pure (fun _ _ _ _ _ => am_imul d_Mach_found_42) ?_
        exact xW_ret (fun _ _ _ _ _ => am_iret rfl d_Mach_found_43)
      · refine xW_by (fun c1_3 => ?_) (fun c1_3 => ?_)
        · refine xW_pure (fun _ _ _ _ _ => am_tableIn (off := 43) (tgt := 44) d_Mach_found_1 (by rw [c1_3]; decide) (by rw [c1_3]; decide) (by rw [c1_3]; rfl) (by decide)) ?_
          refine xW_pure (fun _ _ _ _ _ => am_iload_n d_Mach_found_44 rfl rfl) ?_
          refine xW_ite (fun _ _ _ _ _ k1 k2 => am_if_ne (tgt := 52) d_Mach_found_45 (by decide) k2 k1) (fun _ => ?_) (fun _ => ?_)
          · refine xW_pure (fun _ _ _ _ _ => am_iconst (v := 0) d_Mach_found_48 (by decide)) ?_
            refine xW_pure (fun _ _ _ _ _ => am_goto (tgt := 55) d_Mach_found_49 (by decide)) ?_
            exact xW_ret (fun _ _ _ _ _ => am_iret rfl d_Mach_found_55)
          · refine xW_pure (fun _ _ _ _ _ => am_iload_n d_Mach_found_52 rfl rfl) ?_
            refine xW_pure (fun _ _ _ _ _ => am_iload_n d_Mach_found_53 rfl rfl) ?_
            refine xW_by (fun _ => xW_none) (fun c54 => ?_)
            refine xW_pure (fun _ _ _ _ _ => am_idiv d_Mach_found_54 c54) ?_
            exact xW_ret (fun _ _ _ _ _ => am_iret rfl d_Mach_found_55)
        · have e1_0 := lk_ne c1_0 (show (32 : Int32).toInt = 32 by decide)
          have e1_1 := lk_ne c1_1 (show (33 : Int32).toInt = 33 by decide)
          have e1_2 := lk_ne c1_2 (show (34 : Int32).toInt = 34 by decide)
          have e1_3 := lk_ne c1_3 (show (35 : Int32).toInt = 35 by decide)
          refine xW_pure (fun _ _ _ _ _ => am_tableOut (tgt := 56) d_Mach_found_1 (by omega) (by decide)) ?_
          refine xW_pure (fun _ _ _ _ _ => am_iload_n d_Mach_found_56 rfl rfl) ?_
          refine xW_ite (fun _ _ _ _ _ k1 k2 => am_if_ne (tgt := 64) d_Mach_found_57 (by decide) k2 k1) (fun _ => ?_) (fun _ => ?_)
          · refine xW_pure (fun _ _ _ _ _ => am_iconst (v := 0) d_Mach_found_60 (by decide)) ?_
            refine xW_pure (fun _ _ _ _ _ => am_goto (tgt := 67) d_Mach_found_61 (by decide)) ?_
            exact xW_ret (fun _ _ _ _ _ => am_iret rfl d_Mach_found_67)
          · refine xW_pure (fun _ _ _ _ _ => am_iload_n d_Mach_found_64 rfl rfl) ?_
            refine xW_pure (fun _ _ _ _ _ => am_iload_n d_Mach_found_65 rfl rfl) ?_
            refine xW_by (fun _ => xW_none) (fun c66 => ?_)
            refine xW_pure (fun _ _ _ _ _ => am_irem d_Mach_found_66 c66) ?_
            exact xW_ret (fun _ _ _ _ _ => am_iret rfl d_Mach_found_67)

set_option maxRecDepth 100000 in
def x_Mach_taken (d : Nat) (x0 : Nat) (s : HS) : Option (Int32 × HS) := gd s x0 6 ((gI s x0 6 13).bind fun v1 => (some (v1, s)))

set_option maxRecDepth 100000 in
set_option maxHeartbeats 4000000 in
theorem dx_Mach_taken (O : am_ok K X) (T : am_T K) {d : Nat} {x0 : Nat} {s : HS} : xM cvI K X m_Mach_taken d [.ref x0] s (x_Mach_taken d x0 s) := by
  unfold x_Mach_taken
  refine xM_enter (by decide +kernel) (Nat.le_of_ble_eq_true rfl) ?_
  refine xW_gd (fun _ => ?_)
  refine xW_pure (fun _ _ _ _ _ => am_aload_n d_Mach_taken_0 rfl rfl) ?_
  refine xW_gI O f_Mach_41 d_Mach_taken_1 (fun v1 _ => ?_)
  exact xW_ret (fun _ _ _ _ _ => am_iret rfl d_Mach_taken_4)

theorem ob_Mach_taken {d : Nat} {x0 : Nat} {s : HS} {y : Int32 × HS} (h : x_Mach_taken d x0 s = some y) : isO s x0 6 = true := (gd_spec h).1

set_option maxRecDepth 100000 in
def x_Mach_resultHead (d : Nat) (x0 : Nat) (s : HS) : Option (Int64 × HS) := gd s x0 6 ((gL s x0 6 16).bind fun v1 => (some (v1, s)))

set_option maxRecDepth 100000 in
set_option maxHeartbeats 4000000 in
theorem dx_Mach_resultHead (O : am_ok K X) (T : am_T K) {d : Nat} {x0 : Nat} {s : HS} : xM cvL K X m_Mach_resultHead d [.ref x0] s (x_Mach_resultHead d x0 s) := by
  unfold x_Mach_resultHead
  refine xM_enter (by decide +kernel) (Nat.le_of_ble_eq_true rfl) ?_
  refine xW_gd (fun _ => ?_)
  refine xW_pure (fun _ _ _ _ _ => am_aload_n d_Mach_resultHead_0 rfl rfl) ?_
  refine xW_gL O f_Mach_93 d_Mach_resultHead_1 (fun v1 _ => ?_)
  exact xW_ret (fun _ _ _ _ _ => am_lret rfl d_Mach_resultHead_4)

theorem ob_Mach_resultHead {d : Nat} {x0 : Nat} {s : HS} {y : Int64 × HS} (h : x_Mach_resultHead d x0 s = some y) : isO s x0 6 = true := (gd_spec h).1

set_option maxRecDepth 100000 in
def x_Mach_resultTail (d : Nat) (x0 : Nat) (s : HS) : Option (Int64 × HS) := gd s x0 6 ((gL s x0 6 17).bind fun v1 => (some (v1, s)))

set_option maxRecDepth 100000 in
set_option maxHeartbeats 4000000 in
theorem dx_Mach_resultTail (O : am_ok K X) (T : am_T K) {d : Nat} {x0 : Nat} {s : HS} : xM cvL K X m_Mach_resultTail d [.ref x0] s (x_Mach_resultTail d x0 s) := by
  unfold x_Mach_resultTail
  refine xM_enter (by decide +kernel) (Nat.le_of_ble_eq_true rfl) ?_
  refine xW_gd (fun _ => ?_)
  refine xW_pure (fun _ _ _ _ _ => am_aload_n d_Mach_resultTail_0 rfl rfl) ?_
  refine xW_gL O f_Mach_97 d_Mach_resultTail_1 (fun v1 _ => ?_)
  exact xW_ret (fun _ _ _ _ _ => am_lret rfl d_Mach_resultTail_4)

theorem ob_Mach_resultTail {d : Nat} {x0 : Nat} {s : HS} {y : Int64 × HS} (h : x_Mach_resultTail d x0 s = some y) : isO s x0 6 = true := (gd_spec h).1

set_option maxRecDepth 100000 in
def x_Store_sameObject (d : Nat) (x0 : Nat) (x1 : Nat) (x2 : Int32) (s : HS) : Option (Int32 × HS) := match d with
  | 0 => none
  | d + 1 => gd s x0 10 ((gR s x0 10 2).bind fun v1 => ((aI s v1 x2).bind fun v2 => ((gR s x1 10 2).bind fun v3 => ((aI s v3 x2).bind fun v4 => (if v2 = v4 then (bnd (x_Store_firstCell d x0 x2 s) fun v6 s5 => (loopK (fun (again26 : Int32 × HS → Option (Int32 × HS)) (z26 : Int32 × HS) => ((gR z26.2 x0 10 2).bind fun v7 => ((aI z26.2 v7 x2).bind fun v8 => (if (v6 + v8) ≤ z26.1 then (some (1, z26.2)) else ((gR z26.2 x0 10 0).bind fun v9 => ((aL z26.2 v9 z26.1).bind fun v10 => ((gR z26.2 x1 10 0).bind fun v11 => ((aL z26.2 v11 z26.1).bind fun v12 => (if (lg_cmp v10 v12) = 0 then ((gR z26.2 x0 10 1).bind fun v13 => ((aL z26.2 v13 z26.1).bind fun v14 => ((gR z26.2 x1 10 1).bind fun v15 => ((aL z26.2 v15 z26.1).bind fun v16 => (if (lg_cmp v14 v16) = 0 then (again26 ((z26.1 + 1), z26.2)) else (some (0, z26.2))))))) else (some (0, z26.2))))))))))) FU (v6, s5))) else (some (0, s)))))))

set_option maxRecDepth 100000 in
set_option maxHeartbeats 4000000 in
theorem dx_Store_sameObject (O : am_ok K X) (T : am_T K) {d : Nat} {x0 : Nat} {x1 : Nat} {x2 : Int32} {s : HS} : xM cvI K X m_Store_sameObject d [.ref x0, .ref x1, .int x2] s (x_Store_sameObject d x0 x1 x2 s) := by
  cases d with
  | zero => exact xM_none
  | succ d =>
    unfold x_Store_sameObject
    refine xM_enter (by decide +kernel) (Nat.le_of_ble_eq_true rfl) ?_
    refine xW_gd (fun _ => ?_)
    refine xW_pure (fun _ _ _ _ _ => am_aload_n d_Store_sameObject_0 rfl rfl) ?_
    refine xW_gR O f_Store_16 d_Store_sameObject_1 (fun v1 _ => ?_)
    refine xW_pure (fun _ _ _ _ _ => am_iload_n d_Store_sameObject_4 rfl rfl) ?_
    refine xW_aI O d_Store_sameObject_5 (fun v2 _ => ?_)
    refine xW_pure (fun _ _ _ _ _ => am_aload_n d_Store_sameObject_6 rfl rfl) ?_
    refine xW_gR O f_Store_16 d_Store_sameObject_7 (fun v3 _ => ?_)
    refine xW_pure (fun _ _ _ _ _ => am_iload_n d_Store_sameObject_10 rfl rfl) ?_
    refine xW_aI O d_Store_sameObject_11 (fun v4 _ => ?_)
    refine xW_ite (fun _ _ _ _ _ => am_icmp_eq (tgt := 17) d_Store_sameObject_12 (by decide)) (fun _ => ?_) (fun _ => ?_)
    · refine xW_pure (fun _ _ _ _ _ => am_aload_n d_Store_sameObject_17 rfl rfl) ?_
      refine xW_pure (fun _ _ _ _ _ => am_iload_n d_Store_sameObject_18 rfl rfl) ?_
      refine xW_callV O (dx_Store_firstCell O T) (fun _ e => ob_Store_firstCell e) rfl rfl rfl l_Store_62 ⟨w_1220, w_1221⟩ rfl (Nat.le_of_ble_eq_true rfl) d_Store_sameObject_19 (fun v6 s5 _ => ?_)
      refine xW_pure (fun _ _ _ _ _ => am_istore_n d_Store_sameObject_22 rfl (Nat.le_of_ble_eq_true rfl)) ?_
      refine xW_pure (fun _ _ _ _ _ => am_iload_n d_Store_sameObject_23 rfl rfl) ?_
      refine xW_pure (fun _ _ _ _ _ => am_istore d_Store_sameObject_24 (Nat.le_of_ble_eq_true rfl)) ?_
      refine xW_locs (lv' := [(0, .ref x0), (1, .ref x1), (2, .int x2), (3, .int v6), (4, .int v6)]) rfl ?_
      refine xW_loop (lvf := fun (z26 : Int32 × HS) => [(0, .ref x0), (1, .ref x1), (2, .int x2), (3, .int v6), (4, .int z26.1)]) (hsf := fun (z26 : Int32 × HS) => z26.2) (fun again26 ih26 z26 => ?_) FU (v6, s5)
      refine xW_pure (fun _ _ _ _ _ => am_iload d_Store_sameObject_26 rfl) ?_
      refine xW_pure (fun _ _ _ _ _ => am_iload_n d_Store_sameObject_28 rfl rfl) ?_
      refine xW_pure (fun _ _ _ _ _ => am_aload_n d_Store_sameObject_29 rfl rfl) ?_
      refine xW_gR O f_Store_16 d_Store_sameObject_30 (fun v7 _ => ?_)
      refine xW_pure (fun _ _ _ _ _ => am_iload_n d_Store_sameObject_33 rfl rfl) ?_
      refine xW_aI O d_Store_sameObject_34 (fun v8 _ => ?_)
      refine xW_pure (fun _ _ _ _ _ => am_iadd d_Store_sameObject_35) ?_
      refine xW_ite (fun _ _ _ _ _ => am_icmp_ge (tgt := 83) d_Store_sameObject_36 (by decide)) (fun _ => ?_) (fun _ => ?_)
      · refine xW_pure (fun _ _ _ _ _ => am_iconst (v := 1) d_Store_sameObject_83 (by decide)) ?_
        exact xW_ret (fun _ _ _ _ _ => am_zret (ty := .boolean) rfl rfl d_Store_sameObject_84)
      · refine xW_pure (fun _ _ _ _ _ => am_aload_n d_Store_sameObject_39 rfl rfl) ?_
        refine xW_gR O f_Store_9 d_Store_sameObject_40 (fun v9 _ => ?_)
        refine xW_pure (fun _ _ _ _ _ => am_iload d_Store_sameObject_43 rfl) ?_
        refine xW_aL O d_Store_sameObject_45 (fun v10 _ => ?_)
        refine xW_pure (fun _ _ _ _ _ => am_aload_n d_Store_sameObject_46 rfl rfl) ?_
        refine xW_gR O f_Store_9 d_Store_sameObject_47 (fun v11 _ => ?_)
        refine xW_pure (fun _ _ _ _ _ => am_iload d_Store_sameObject_50 rfl) ?_
        refine xW_aL O d_Store_sameObject_52 (fun v12 _ => ?_)
        refine xW_pure (fun _ _ _ _ _ => am_lcmp d_Store_sameObject_53) ?_
        refine xW_ite (fun _ _ _ _ _ k1 k2 => am_if_ne (tgt := 75) d_Store_sameObject_54 (by decide) k2 k1) (fun _ => ?_) (fun _ => ?_)
        · refine xW_pure (fun _ _ _ _ _ => am_aload_n d_Store_sameObject_57 rfl rfl) ?_
          refine xW_gR O f_Store_13 d_Store_sameObject_58 (fun v13 _ => ?_)
          refine xW_pure (fun _ _ _ _ _ => am_iload d_Store_sameObject_61 rfl) ?_
          refine xW_aL O d_Store_sameObject_63 (fun v14 _ => ?_)
          refine xW_pure (fun _ _ _ _ _ => am_aload_n d_Store_sameObject_64 rfl rfl) ?_
          refine xW_gR O f_Store_13 d_Store_sameObject_65 (fun v15 _ => ?_)
          refine xW_pure (fun _ _ _ _ _ => am_iload d_Store_sameObject_68 rfl) ?_
          refine xW_aL O d_Store_sameObject_70 (fun v16 _ => ?_)
          refine xW_pure (fun _ _ _ _ _ => am_lcmp d_Store_sameObject_71) ?_
          refine xW_ite (fun _ _ _ _ _ => am_if_eq (tgt := 77) d_Store_sameObject_72 (by decide)) (fun _ => ?_) (fun _ => ?_)
          · refine xW_pure (fun _ _ _ _ _ => am_iinc (v := 1) d_Store_sameObject_77 rfl (by decide) (Nat.le_of_ble_eq_true rfl)) ?_
            refine xW_pure (fun _ _ _ _ _ => am_goto (tgt := 26) d_Store_sameObject_80 (by decide)) ?_
            refine xW_locs (lv' := [(0, .ref x0), (1, .ref x1), (2, .int x2), (3, .int v6), (4, .int (z26.1 + 1))]) rfl ?_
            exact ih26 ((z26.1 + 1), z26.2)
          · refine xW_pure (fun _ _ _ _ _ => am_iconst (v := 0) d_Store_sameObject_75 (by decide)) ?_
            exact xW_ret (fun _ _ _ _ _ => am_zret (ty := .boolean) rfl rfl d_Store_sameObject_76)
        · refine xW_pure (fun _ _ _ _ _ => am_iconst (v := 0) d_Store_sameObject_75 (by decide)) ?_
          exact xW_ret (fun _ _ _ _ _ => am_zret (ty := .boolean) rfl rfl d_Store_sameObject_76)
    · refine xW_pure (fun _ _ _ _ _ => am_iconst (v := 0) d_Store_sameObject_15 (by decide)) ?_
      exact xW_ret (fun _ _ _ _ _ => am_zret (ty := .boolean) rfl rfl d_Store_sameObject_16)

theorem ob_Store_sameObject {d : Nat} {x0 : Nat} {x1 : Nat} {x2 : Int32} {s : HS} {y : Int32 × HS} (h : x_Store_sameObject d x0 x1 x2 s = some y) : isO s x0 10 = true := by
  cases d with
  | zero => cases h
  | succ d => exact (gd_spec h).1
end
