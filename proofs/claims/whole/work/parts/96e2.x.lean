section
variable {K : am_K} {X : Nat → am_C}
set_option maxRecDepth 100000 in
def x_Mod_leave (d : Nat) (x0 : Nat) (s : HS) : Option (Int32 × HS) := match d with
  | 0 => none
  | d + 1 => gd s x0 14 ((gI s x0 14 41).bind fun v1 => ((pV s x0 14 41 (.int (v1 - 1))).bind fun s2 => ((gR s2 x0 14 40).bind fun v3 => ((gR s2 x0 14 37).bind fun v4 => ((gI s2 x0 14 41).bind fun v5 => (bnd (x_Vals_copy d v3 0 v4 v5 s2) fun v7 s6 => ((gI s6 x0 14 45).bind fun v8 => ((pV s6 x0 14 45 (.int (v8 - 1))).bind fun s9 => ((gI s9 x0 14 45).bind fun v10 => (if v10 = 0 then ((gR s9 x0 14 39).bind fun v11 => ((gR s9 x0 14 40).bind fun v12 => (bnd (x_Vals_copy d v11 0 v12 0 s9) fun v14 s13 => (some (0, s13))))) else ((gR s9 x0 14 49).bind fun v15 => ((gI s9 x0 14 45).bind fun v16 => ((aI s9 v15 v16).bind fun v17 => ((pV s9 x0 14 42 (.int v17)).bind fun s18 => ((gR s18 x0 14 48).bind fun v19 => ((gI s18 x0 14 45).bind fun v20 => ((aI s18 v19 v20).bind fun v21 => ((pV s18 x0 14 46 (.int v21)).bind fun s22 => ((gR s22 x0 14 37).bind fun v23 => ((gI s22 x0 14 41).bind fun v24 => ((gR s22 x0 14 40).bind fun v25 => (bnd (x_Vals_copy d v23 v24 v25 0 s22) fun v27 s26 => ((gI s26 x0 14 41).bind fun v28 => ((pV s26 x0 14 41 (.int (v28 + 1))).bind fun s29 => (some ((-1), s29))))))))))))))))))))))))))

set_option maxRecDepth 100000 in
set_option maxHeartbeats 4000000 in
theorem dx_Mod_leave (O : am_ok K X) (T : am_T K) {d : Nat} {x0 : Nat} {s : HS} : xM cvI K X m_Mod_leave d [.ref x0] s (x_Mod_leave d x0 s) := by
  cases d with
  | zero => exact xM_none
  | succ d =>
    unfold x_Mod_leave
    refine xM_enter (by decide +kernel) (Nat.le_of_ble_eq_true rfl) ?_
    refine xW_gd (fun _ => ?_)
    refine xW_pure (fun _ _ _ _ _ => am_aload_n d_Mod_leave_0 rfl rfl) ?_
    refine xW_pure (fun _ _ _ _ _ => am_dup d_Mod_leave_1 rfl) ?_
    refine xW_gI O f_Mod_486 d_Mod_leave_2 (fun v1 _ => ?_)
    refine xW_pure (fun _ _ _ _ _ => am_iconst (v := 1) d_Mod_leave_5 (by decide)) ?_
    refine xW_pure (fun _ _ _ _ _ => am_isub d_Mod_leave_6) ?_
    refine xW_put O f_Mod_486 d_Mod_leave_7 (fun q hq => by cases hq; exact ⟨rfl, rfl, rfl⟩) (fun s2 _ => ?_)
    refine xW_pure (fun _ _ _ _ _ => am_aload_n d_Mod_leave_10 rfl rfl) ?_
    refine xW_gR O f_Mod_377 d_Mod_leave_11 (fun v3 _ => ?_)
    refine xW_pure (fun _ _ _ _ _ => am_iconst (v := 0) d_Mod_leave_14 (by decide)) ?_
    refine xW_pure (fun _ _ _ _ _ => am_aload_n d_Mod_leave_15 rfl rfl) ?_
    refine xW_gR O f_Mod_368 d_Mod_leave_16 (fun v4 _ => ?_)
    refine xW_pure (fun _ _ _ _ _ => am_aload_n d_Mod_leave_19 rfl rfl) ?_
    refine xW_gI O f_Mod_486 d_Mod_leave_20 (fun v5 _ => ?_)
    refine xW_callV O (dx_Vals_copy O T) (fun _ e => ob_Vals_copy e) rfl rfl rfl l_Mod_505 ⟨w_1992, w_1993⟩ rfl (Nat.le_of_ble_eq_true rfl) d_Mod_leave_23 (fun v7 s6 _ => ?_)
    refine xW_pure (fun _ _ _ _ _ => am_aload_n d_Mod_leave_26 rfl rfl) ?_
    refine xW_pure (fun _ _ _ _ _ => am_dup d_Mod_leave_27 rfl) ?_
    refine xW_gI O f_Mod_492 d_Mod_leave_28 (fun v8 _ => ?_)
    refine xW_pure (fun _ _ _ _ _ => am_iconst (v := 1) d_Mod_leave_31 (by decide)) ?_
    refine xW_pure (fun _ _ _ _ _ => am_isub d_Mod_leave_32) ?_
    refine xW_put O f_Mod_492 d_Mod_leave_33 (fun q hq => by cases hq; exact ⟨rfl, rfl, rfl⟩) (fun s9 _ => ?_)
    refine xW_pure (fun _ _ _ _ _ => am_aload_n d_Mod_leave_36 rfl rfl) ?_
    refine xW_gI O f_Mod_492 d_Mod_leave_37 (fun v10 _ => ?_)
    refine xW_ite (fun _ _ _ _ _ k1 k2 => am_if_ne (tgt := 58) d_Mod_leave_40 (by decide) k2 k1) (fun _ => ?_) (fun _ => ?_)
    · refine xW_pure (fun _ _ _ _ _ => am_aload_n d_Mod_leave_43 rfl rfl) ?_
      refine xW_gR O f_Mod_374 d_Mod_leave_44 (fun v11 _ => ?_)
      refine xW_pure (fun _ _ _ _ _ => am_iconst (v := 0) d_Mod_leave_47 (by decide)) ?_
      refine xW_pure (fun _ _ _ _ _ => am_aload_n d_Mod_leave_48 rfl rfl) ?_
      refine xW_gR O f_Mod_377 d_Mod_leave_49 (fun v12 _ => ?_)
      refine xW_pure (fun _ _ _ _ _ => am_iconst (v := 0) d_Mod_leave_52 (by decide)) ?_
      refine xW_callV O (dx_Vals_copy O T) (fun _ e => ob_Vals_copy e) rfl rfl rfl l_Mod_505 ⟨w_1992, w_1993⟩ rfl (Nat.le_of_ble_eq_true rfl) d_Mod_leave_53 (fun v14 s13 _ => ?_)
      refine xW_pure (fun _ _ _ _ _ => am_iconst (v := 0) d_Mod_leave_56 (by decide)) ?_
      exact xW_ret (fun _ _ _ _ _ => am_iret rfl d_Mod_leave_57)
    · refine xW_pure (fun _ _ _ _ _ => am_aload_n d_Mod_leave_58 rfl rfl) ?_
      refine xW_pure (fun _ _ _ _ _ => am_aload_n d_Mod_leave_59 rfl rfl) ?_
      refine xW_gR O f_Mod_386 d_Mod_leave_60 (fun v15 _ => ?_)
      refine xW_pure (fun _ _ _ _ _ => am_aload_n d_Mod_leave_63 rfl rfl) ?_
      refine xW_gI O f_Mod_492 d_Mod_leave_64 (fun v16 _ => ?_)
      refine xW_aI O d_Mod_leave_67 (fun v17 _ => ?_)
      refine xW_put O f_Mod_489 d_Mod_leave_68 (fun q hq => by cases hq; exact ⟨rfl, rfl, rfl⟩) (fun s18 _ => ?_)
      refine xW_pure (fun _ _ _ _ _ => am_aload_n d_Mod_leave_71 rfl rfl) ?_
      refine xW_pure (fun _ _ _ _ _ => am_aload_n d_Mod_leave_72 rfl rfl) ?_
      refine xW_gR O f_Mod_383 d_Mod_leave_73 (fun v19 _ => ?_)
      refine xW_pure (fun _ _ _ _ _ => am_aload_n d_Mod_leave_76 rfl rfl) ?_
      refine xW_gI O f_Mod_492 d_Mod_leave_77 (fun v20 _ => ?_)
      refine xW_aI O d_Mod_leave_80 (fun v21 _ => ?_)
      refine xW_put O f_Mod_502 d_Mod_leave_81 (fun q hq => by cases hq; exact ⟨rfl, rfl, rfl⟩) (fun s22 _ => ?_)
      refine xW_pure (fun _ _ _ _ _ => am_aload_n d_Mod_leave_84 rfl rfl) ?_
      refine xW_gR O f_Mod_368 d_Mod_leave_85 (fun v23 _ => ?_)
      refine xW_pure (fun _ _ _ _ _ => am_aload_n d_Mod_leave_88 rfl rfl) ?_
      refine xW_gI O f_Mod_486 d_Mod_leave_89 (fun v24 _ => ?_)
      refine xW_pure (fun _ _ _ _ _ => am_aload_n d_Mod_leave_92 rfl rfl) ?_
      refine xW_gR O f_Mod_377 d_Mod_leave_93 (fun v25 _ => ?_)
      refine xW_pure (fun _ _ _ _ _ => am_iconst (v := 0) d_Mod_leave_96 (by decide)) ?_
      refine xW_callV O (dx_Vals_copy O T) (fun _ e => ob_Vals_copy e) rfl rfl rfl l_Mod_505 ⟨w_1992, w_1993⟩ rfl (Nat.le_of_ble_eq_true rfl) d_Mod_leave_97 (fun v27 s26 _ => ?_)
      refine xW_pure (fun _ _ _ _ _ => am_aload_n d_Mod_leave_100 rfl rfl) ?_
      refine xW_pure (fun _ _ _ _ _ => am_dup d_Mod_leave_101 rfl) ?_
      refine xW_gI O f_Mod_486 d_Mod_leave_102 (fun v28 _ => ?_)
      refine xW_pure (fun _ _ _ _ _ => am_iconst (v := 1) d_Mod_leave_105 (by decide)) ?_
      refine xW_pure (fun _ _ _ _ _ => am_iadd d_Mod_leave_106) ?_
      refine xW_put O f_Mod_486 d_Mod_leave_107 (fun q hq => by cases hq; exact ⟨rfl, rfl, rfl⟩) (fun s29 _ => ?_)
      refine xW_pure (fun _ _ _ _ _ => am_iconst (v := (-1)) d_Mod_leave_110 (by decide)) ?_
      exact xW_ret (fun _ _ _ _ _ => am_iret rfl d_Mod_leave_111)

theorem ob_Mod_leave {d : Nat} {x0 : Nat} {s : HS} {y : Int32 × HS} (h : x_Mod_leave d x0 s = some y) : isO s x0 14 = true := by
  cases d with
  | zero => cases h
  | succ d => exact (gd_spec h).1

set_option maxRecDepth 100000 in
def x_Mod_push (d : Nat) (x0 : Nat) (x1 : Int32) (x2 : Int64) (s : HS) : Option (Unit × HS) := match d with
  | 0 => none
  | d + 1 => gd s x0 14 ((gR s x0 14 37).bind fun v1 => ((gI s x0 14 41).bind fun v2 => (bnd (x_Vals_set d v1 v2 x1 0 x2 0 s) fun v4 s3 => ((gI s3 x0 14 41).bind fun v5 => ((pV s3 x0 14 41 (.int (v5 + 1))).bind fun s6 => (some ((), s6)))))))

set_option maxRecDepth 100000 in
set_option maxHeartbeats 4000000 in
theorem dx_Mod_push (O : am_ok K X) (T : am_T K) {d : Nat} {x0 : Nat} {x1 : Int32} {x2 : Int64} {s : HS} : xM cvU K X m_Mod_push d [.ref x0, .int x1, .long x2] s (x_Mod_push d x0 x1 x2 s) := by
  cases d with
  | zero => exact xM_none
  | succ d =>
    unfold x_Mod_push
    refine xM_enter (by decide +kernel) (Nat.le_of_ble_eq_true rfl) ?_
    refine xW_gd (fun _ => ?_)
    refine xW_pure (fun _ _ _ _ _ => am_aload_n d_Mod_push_0 rfl rfl) ?_
    refine xW_gR O f_Mod_368 d_Mod_push_1 (fun v1 _ => ?_)
    refine xW_pure (fun _ _ _ _ _ => am_aload_n d_Mod_push_4 rfl rfl) ?_
    refine xW_gI O f_Mod_486 d_Mod_push_5 (fun v2 _ => ?_)
    refine xW_pure (fun _ _ _ _ _ => am_iload_n d_Mod_push_8 rfl rfl) ?_
    refine xW_pure (fun _ _ _ _ _ => am_iconst (v := 0) d_Mod_push_9 (by decide)) ?_
    refine xW_pure (fun _ _ _ _ _ => am_lload_n d_Mod_push_10 rfl rfl) ?_
    refine xW_pure (fun _ _ _ _ _ => am_lconst (v := 0) d_Mod_push_11 (by decide)) ?_
    refine xW_callV O (dx_Vals_set O T) (fun _ e => ob_Vals_set e) rfl rfl rfl l_Mod_114 ⟨w_1914, w_1915⟩ rfl (Nat.le_of_ble_eq_true rfl) d_Mod_push_12 (fun v4 s3 _ => ?_)
    refine xW_pure (fun _ _ _ _ _ => am_aload_n d_Mod_push_15 rfl rfl) ?_
    refine xW_pure (fun _ _ _ _ _ => am_dup d_Mod_push_16 rfl) ?_
    refine xW_gI O f_Mod_486 d_Mod_push_17 (fun v5 _ => ?_)
    refine xW_pure (fun _ _ _ _ _ => am_iconst (v := 1) d_Mod_push_20 (by decide)) ?_
    refine xW_pure (fun _ _ _ _ _ => am_iadd d_Mod_push_21) ?_
    refine xW_put O f_Mod_486 d_Mod_push_22 (fun q hq => by cases hq; exact ⟨rfl, rfl, rfl⟩) (fun s6 _ => ?_)
    exact xW_ret (fun _ _ _ _ _ => am_vret rfl d_Mod_push_25)

theorem ob_Mod_push {d : Nat} {x0 : Nat} {x1 : Int32} {x2 : Int64} {s : HS} {y : Unit × HS} (h : x_Mod_push d x0 x1 x2 s = some y) : isO s x0 14 = true := by
  cases d with
  | zero => cases h
  | succ d => exact (gd_spec h).1

set_option maxRecDepth 100000 in
def x_State_findField (d : Nat) (x0 : Nat) (x1 : Int32) (x2 : Int64) (s : HS) : Option (Int32 × HS) := gd s x0 13 (loopK (fun (again3 : Int32 × HS → Option (Int32 × HS)) (z3 : Int32 × HS) => ((gR z3.2 x0 13 1).bind fun v1 => ((aI z3.2 v1 x1).bind fun v2 => (if v2 ≤ z3.1 then (some ((-1), z3.2)) else ((gR z3.2 x0 13 2).bind fun v3 => ((aL z3.2 v3 ((8 * x1) + z3.1)).bind fun v4 => (if (lg_cmp v4 x2) = 0 then (some (z3.1, z3.2)) else (again3 ((z3.1 + 1), z3.2))))))))) FU (0, s))

set_option maxRecDepth 100000 in
set_option maxHeartbeats 4000000 in
theorem dx_State_findField (O : am_ok K X) (T : am_T K) {d : Nat} {x0 : Nat} {x1 : Int32} {x2 : Int64} {s : HS} : xM cvI K X m_State_findField d [.ref x0, .int x1, .long x2] s (x_State_findField d x0 x1 x2 s) := by
  unfold x_State_findField
  refine xM_enter (by decide +kernel) (Nat.le_of_ble_eq_true rfl) ?_
  refine xW_gd (fun _ => ?_)
  refine xW_pure (fun _ _ _ _ _ => am_iconst (v := 0) d_State_findField_0 (by decide)) ?_
  refine xW_pure (fun _ _ _ _ _ => am_istore d_State_findField_1 (Nat.le_of_ble_eq_true rfl)) ?_
  refine xW_locs (lv' := [(0, .ref x0), (1, .int x1), (2, .long x2), (4, .int 0)]) rfl ?_
  refine xW_loop (lvf := fun (z3 : Int32 × HS) => [(0, .ref x0), (1, .int x1), (2, .long x2), (4, .int z3.1)]) (hsf := fun (z3 : Int32 × HS) => z3.2) (fun again3 ih3 z3 => ?_) FU (0, s)
  refine xW_pure (fun _ _ _ _ _ => am_iload d_State_findField_3 rfl) ?_
  refine xW_pure (fun _ _ _ _ _ => am_aload_n d_State_findField_5 rfl rfl) ?_
  refine xW_gR O f_State_15 d_State_findField_6 (fun v1 _ => ?_)
  refine xW_pure (fun _ _ _ _ _ => am_iload_n d_State_findField_9 rfl rfl) ?_
  refine xW_aI O d_State_findField_10 (fun v2 _ => ?_)
  refine xW_ite (fun _ _ _ _ _ => am_icmp_ge (tgt := 40) d_State_findField_11 (by decide)) (fun _ => ?_) (fun _ => ?_)
  · refine xW_pure (fun _ _ _ _ _ => am_iconst (v := (-1)) d_State_findField_40 (by decide)) ?_
    exact xW_ret (fun _ _ _ _ _ => am_iret rfl d_State_findField_41)
  · refine xW_pure (fun _ _ _ _ _ => am_aload_n d_State_findField_14 rfl rfl) ?_
    refine xW_gR O f_State_18 d_State_findField_15 (fun v3 _ => ?_)
    refine xW_pure (fun _ _ _ _ _ => am_bipush (v := 8) d_State_findField_18 (by decide)) ?_
    refine xW_pure (fun _ _ _ _ _ => am_iload_n d_State_findField_20 rfl rfl) ?_
    refine xW_pure (fun _ _ _ _ _ => am_imul d_State_findField_21) ?_
    refine xW_pure (fun _ _ _ _ _ => am_iload d_State_findField_22 rfl) ?_
    refine xW_pure (fun _ _ _ _ _ => am_iadd d_State_findField_24) ?_
    refine xW_aL O d_State_findField_25 (fun v4 _ => ?_)
    refine xW_pure (fun _ _ _ _ _ => am_lload_n d_State_findField_26 rfl rfl) ?_
    refine xW_pure (fun _ _ _ _ _ => am_lcmp d_State_findField_27) ?_
    refine xW_ite (fun _ _ _ _ _ k1 k2 => am_if_ne (tgt := 34) d_State_findField_28 (by decide) k2 k1) (fun _ => ?_) (fun _ => ?_)
    · refine xW_pure (fun _ _ _ _ _ => am_iload d_State_findField_31 rfl) ?_
      exact xW_ret (fun _ _ _ _ _ => am_iret rfl d_State_findField_33)
    · refine xW_pure (fun _ _ _ _ _ => am_iinc (v := 1) d_State_findField_34 rfl (by decide) (Nat.le_of_ble_eq_true rfl)) ?_
      refine xW_pure (fun _ _ _ _ _ => am_goto (tgt := 3) d_State_findField_37 (by decide)) ?_
      refine xW_locs (lv' := [(0, .ref x0), (1, .int x1), (2, .long x2), (4, .int (z3.1 + 1))]) rfl ?_
      exact ih3 ((z3.1 + 1), z3.2)

theorem ob_State_findField {d : Nat} {x0 : Nat} {x1 : Int32} {x2 : Int64} {s : HS} {y : Int32 × HS} (h : x_State_findField d x0 x1 x2 s = some y) : isO s x0 13 = true := (gd_spec h).1

set_option maxRecDepth 100000 in
def x_Mod_setField_b196 (d : Nat) (l0 : Nat) (l4 : Nat) (l5 : Int32) (l6 : Int32) (l7 : Int32) (s : HS) : Option (Int32 × HS) := (gR s l0 14 31).bind fun v25 => ((gR s v25 13 5).bind fun v26 => (bnd (x_Vals_copy d v26 (l7 + l6) l4 l5 s) fun v28 s27 => (some ((-1), s27))))

set_option maxRecDepth 100000 in
set_option maxHeartbeats 4000000 in
theorem dx_Mod_setField_b196 (O : am_ok K X) (T : am_T K) {d : Nat} {l0 : Nat} {l4 : Nat} {l5 : Int32} {l6 : Int32} {l7 : Int32} {s : HS} : xW cvI K X m_Mod_setField (d + 1) 196 [(0, .ref l0), (4, .ref l4), (5, .int l5), (6, .int l6), (7, .int l7)] [] s (x_Mod_setField_b196 d l0 l4 l5 l6 l7 s) := by
  unfold x_Mod_setField_b196
  refine xW_pure (fun _ _ _ _ _ => am_aload_n d_Mod_setField_196 rfl rfl) ?_
  refine xW_gR O f_Mod_353 d_Mod_setField_197 (fun v25 _ => ?_)
  refine xW_gR O f_Mod_562 d_Mod_setField_200 (fun v26 _ => ?_)
  refine xW_pure (fun _ _ _ _ _ => am_iload d_Mod_setField_203 rfl) ?_
  refine xW_pure (fun _ _ _ _ _ => am_iload d_Mod_setField_205 rfl) ?_
  refine xW_pure (fun _ _ _ _ _ => am_iadd d_Mod_setField_207) ?_
  refine xW_pure (fun _ _ _ _ _ => am_aload d_Mod_setField_208 rfl) ?_
  refine xW_pure (fun _ _ _ _ _ => am_iload d_Mod_setField_210 rfl) ?_
  refine xW_callV O (dx_Vals_copy O T) (fun _ e => ob_Vals_copy e) rfl rfl rfl l_Mod_505 ⟨w_1992, w_1993⟩ rfl (Nat.le_of_ble_eq_true rfl) d_Mod_setField_212 (fun v28 s27 _ => ?_)
  refine xW_pure (fun _ _ _ _ _ => am_iconst (v := (-1)) d_Mod_setField_215 (by decide)) ?_
  exact xW_ret (fun _ _ _ _ _ => am_iret rfl d_Mod_setField_216)

set_option maxRecDepth 100000 in
def x_Mod_setField (d : Nat) (x0 : Nat) (x1 : Int32) (x2 : Int64) (x3 : Nat) (x4 : Int32) (s : HS) : Option (Int32 × HS) := match d with
  | 0 => none
  | d + 1 => gd s x0 14 ((gR s x0 14 31).bind fun v1 => (bnd (x_State_findField d v1 x1 x2 s) fun v3 s2 => ((gR s2 x3 11 0).bind fun v4 => ((aI s2 v4 x4).bind fun v5 => (if v5 = 0 then (if 0 ≤ v3 then ((gR s2 x0 14 31).bind fun v6 => ((gR s2 v6 13 1).bind fun v7 => ((aI s2 v7 x1).bind fun v8 => ((sV s2 .int v7 x1 (.int (v8 - 1))).bind fun s9 => (loopK (fun (again52 : Int32 × HS → Option (Int32 × HS)) (z52 : Int32 × HS) => ((gR z52.2 x0 14 31).bind fun v10 => ((gR z52.2 v10 13 1).bind fun v11 => ((aI z52.2 v11 x1).bind fun v12 => (if v12 ≤ z52.1 then (some ((-1), z52.2)) else ((gR z52.2 x0 14 31).bind fun v13 => ((gR z52.2 v13 13 2).bind fun v14 => ((gR z52.2 x0 14 31).bind fun v15 => ((gR z52.2 v15 13 2).bind fun v16 => ((aL z52.2 v16 (((8 * x1) + z52.1) + 1)).bind fun v17 => ((sV z52.2 .long v14 ((8 * x1) + z52.1) (.long v17)).bind fun s18 => ((gR s18 x0 14 31).bind fun v19 => ((gR s18 v19 13 5).bind fun v20 => ((gR s18 x0 14 31).bind fun v21 => ((gR s18 v21 13 5).bind fun v22 => (bnd (x_Vals_copy d v20 ((20 * x1) + z52.1) v22 (((20 * x1) + z52.1) + 1) s18) fun v24 s23 => (again52 ((z52.1 + 1), s23)))))))))))))))))) FU (v3, s9)))))) else (some ((-1), s2))) else (if 0 ≤ v3 then (x_Mod_setField_b196 d x0 x3 x4 v3 (20 * x1) s2) else ((gR s2 x0 14 31).bind fun v29 => ((gR s2 v29 13 1).bind fun v30 => ((aI s2 v30 x1).bind fun v31 => (if v31 = 8 then (some (4, s2)) else ((gR s2 x0 14 31).bind fun v32 => ((gR s2 v32 13 1).bind fun v33 => ((aI s2 v33 x1).bind fun v34 => ((gR s2 x0 14 31).bind fun v35 => ((gR s2 v35 13 1).bind fun v36 => ((aI s2 v36 x1).bind fun v37 => ((sV s2 .int v36 x1 (.int (v37 + 1))).bind fun s38 => ((gR s38 x0 14 31).bind fun v39 => ((gR s38 v39 13 2).bind fun v40 => ((sV s38 .long v40 ((8 * x1) + v34) (.long x2)).bind fun s41 => (x_Mod_setField_b196 d x0 x3 x4 v34 (20 * x1) s41)))))))))))))))))))))

set_option maxRecDepth 100000 in
set_option maxHeartbeats 4000000 in
theorem dx_Mod_setField (O : am_ok K X) (T : am_T K) {d : Nat} {x0 : Nat} {x1 : Int32} {x2 : Int64} {x3 : Nat} {x4 : Int32} {s : HS} : xM cvI K X m_Mod_setField d [.ref x0, .int x1, .long x2, .ref x3, .int x4] s (x_Mod_setField d x0 x1 x2 x3 x4 s) := by
  cases d with
  | zero => exact xM_none
  | succ d =>
    unfold x_Mod_setField
    refine xM_enter (by decide +kernel) (Nat.le_of_ble_eq_true rfl) ?_
    refine xW_gd (fun _ => ?_)
    refine xW_pure (fun _ _ _ _ _ => am_aload_n d_Mod_setField_0 rfl rfl) ?_
    refine xW_gR O f_Mod_353 d_Mod_setField_1 (fun v1 _ => ?_)
    refine xW_pure (fun _ _ _ _ _ => am_iload_n d_Mod_setField_4 rfl rfl) ?_
    refine xW_pure (fun _ _ _ _ _ => am_lload_n d_Mod_setField_5 rfl rfl) ?_
    refine xW_callV O (dx_State_findField O T) (fun _ e => ob_State_findField e) rfl rfl rfl l_Mod_554 ⟨w_2093, w_2094⟩ rfl (Nat.le_of_ble_eq_true rfl) d_Mod_setField_6 (fun v3 s2 _ => ?_)
    refine xW_pure (fun _ _ _ _ _ => am_istore d_Mod_setField_9 (Nat.le_of_ble_eq_true rfl)) ?_
    refine xW_pure (fun _ _ _ _ _ => am_bipush (v := 20) d_Mod_setField_11 (by decide)) ?_
    refine xW_pure (fun _ _ _ _ _ => am_iload_n d_Mod_setField_13 rfl rfl) ?_
    refine xW_pure (fun _ _ _ _ _ => am_imul d_Mod_setField_14) ?_
    refine xW_pure (fun _ _ _ _ _ => am_istore d_Mod_setField_15 (Nat.le_of_ble_eq_true rfl)) ?_
    refine xW_pure (fun _ _ _ _ _ => am_aload d_Mod_setField_17 rfl) ?_
    refine xW_gR O f_Mod_515 d_Mod_setField_19 (fun v4 _ => ?_)
    refine xW_pure (fun _ _ _ _ _ => am_iload d_Mod_setField_22 rfl) ?_
    refine xW_aI O d_Mod_setField_24 (fun v5 _ => ?_)
    refine xW_ite (fun _ _ _ _ _ k1 k2 => am_if_ne (tgt := 135) d_Mod_setField_25 (by decide) k2 k1) (fun _ => ?_) (fun _ => ?_)
    · refine xW_pure (fun _ _ _ _ _ => am_iload d_Mod_setField_28 rfl) ?_
      refine xW_ite (fun _ _ _ _ _ => am_if_ge (tgt := 35) d_Mod_setField_30 (by decide)) (fun _ => ?_) (fun _ => ?_)
      · refine xW_pure (fun _ _ _ _ _ => am_aload_n d_Mod_setField_35 rfl rfl) ?_
        refine xW_gR O f_Mod_353 d_Mod_setField_36 (fun v6 _ => ?_)
        refine xW_gR O f_Mod_558 d_Mod_setField_39 (fun v7 _ => ?_)
        refine xW_pure (fun _ _ _ _ _ => am_iload_n d_Mod_setField_42 rfl rfl) ?_
        refine xW_pure (fun _ _ _ _ _ => am_dup2 d_Mod_setField_43 rfl rfl) ?_
        refine xW_aI O d_Mod_setField_44 (fun v8 _ => ?_)
        refine xW_pure (fun _ _ _ _ _ => am_iconst (v := 1) d_Mod_setField_45 (by decide)) ?_
        refine xW_pure (fun _ _ _ _ _ => am_isub d_Mod_setField_46) ?_
        refine xW_sI O d_Mod_setField_47 (fun s9 _ => ?_)
        refine xW_pure (fun _ _ _ _ _ => am_iload d_Mod_setField_48 rfl) ?_
        refine xW_pure (fun _ _ _ _ _ => am_istore d_Mod_setField_50 (Nat.le_of_ble_eq_true rfl)) ?_
        refine xW_locs (lv' := [(0, .ref x0), (1, .int x1), (7, .int (20 * x1)), (8, .int v3)]) rfl ?_
        refine xW_loop (lvf := fun (z52 : Int32 × HS) => [(0, .ref x0), (1, .int x1), (7, .int (20 * x1)), (8, .int z52.1)]) (hsf := fun (z52 : Int32 × HS) => z52.2) (fun again52 ih52 z52 => ?_) FU (v3, s9)
        refine xW_pure (fun _ _ _ _ _ => am_iload d_Mod_setField_52 rfl) ?_
        refine xW_pure (fun _ _ _ _ _ => am_aload_n d_Mod_setField_54 rfl rfl) ?_
        refine xW_gR O f_Mod_353 d_Mod_setField_55 (fun v10 _ => ?_)
        refine xW_gR O f_Mod_558 d_Mod_setField_58 (fun v11 _ => ?_)
        refine xW_pure (fun _ _ _ _ _ => am_iload_n d_Mod_setField_61 rfl rfl) ?_
        refine xW_aI O d_Mod_setField_62 (fun v12 _ => ?_)
        refine xW_ite (fun _ _ _ _ _ => am_icmp_ge (tgt := 133) d_Mod_setField_63 (by decide)) (fun _ => ?_) (fun _ => ?_)
        · refine xW_pure (fun _ _ _ _ _ => am_iconst (v := (-1)) d_Mod_setField_133 (by decide)) ?_
          exact xW_ret (fun _ _ _ _ _ => am_iret rfl d_Mod_setField_134)
        · refine xW_pure (fun _ _ _ _ _ => am_aload_n d_Mod_setField_66 rfl rfl) ?_
          refine xW_gR O f_Mod_353 d_Mod_setField_67 (fun v13 _ => ?_)
          refine xW_gR O f_Mod_560 d_Mod_setField_70 (fun v14 _ => ?_)
          refine xW_pure (fun _ _ _ _ _ => am_bipush (v := 8) d_Mod_setField_73 (by decide)) ?_
          refine xW_pure (fun _ _ _ _ _ => am_iload_n d_Mod_setField_75 rfl rfl) ?_
          refine xW_pure (fun _ _ _ _ _ => am_imul d_Mod_setField_76) ?_
          refine xW_pure (fun _ _ _ _ _ => am_iload d_Mod_setField_77 rfl) ?_
          refine xW_pure (fun _ _ _ _ _ => am_iadd d_Mod_setField_79) ?_
          refine xW_pure (fun _ _ _ _ _ => am_aload_n d_Mod_setField_80 rfl rfl) ?_
          refine xW_gR O f_Mod_353 d_Mod_setField_81 (fun v15 _ => ?_)
          refine xW_gR O f_Mod_560 d_Mod_setField_84 (fun v16 _ => ?_)
          refine xW_pure (fun _ _ _ _ _ => am_bipush (v := 8) d_Mod_setField_87 (by decide)) ?_
          refine xW_pure (fun _ _ _ _ _ => am_iload_n d_Mod_setField_89 rfl rfl) ?_
          refine xW_pure (fun _ _ _ _ _ => am_imul d_Mod_setField_90) ?_
          refine xW_pure (fun _ _ _ _ _ => am_iload d_Mod_setField_91 rfl) ?_
          refine xW_pure (fun _ _ _ _ _ => am_iadd d_Mod_setField_93) ?_
          refine xW_pure (fun _ _ _ _ _ => am_iconst (v := 1) d_Mod_setField_94 (by decide)) ?_
          refine xW_pure (fun _ _ _ _ _ => am_iadd d_Mod_setField_95) ?_
          refine xW_aL O d_Mod_setField_96 (fun v17 _ => ?_)
          refine xW_sL O d_Mod_setField_97 (fun s18 _ => ?_)
          refine xW_pure (fun _ _ _ _ _ => am_aload_n d_Mod_setField_98 rfl rfl) ?_
          refine xW_gR O f_Mod_353 d_Mod_setField_99 (fun v19 _ => ?_)
          refine xW_gR O f_Mod_562 d_Mod_setField_102 (fun v20 _ => ?_)
          refine xW_pure (fun _ _ _ _ _ => am_iload d_Mod_setField_105 rfl) ?_
          refine xW_pure (fun _ _ _ _ _ => am_iload d_Mod_setField_107 rfl) ?_
          refine xW_pure (fun _ _ _ _ _ => am_iadd d_Mod_setField_109) ?_
          refine xW_pure (fun _ _ _ _ _ => am_aload_n d_Mod_setField_110 rfl rfl) ?_
          refine xW_gR O f_Mod_353 d_Mod_setField_111 (fun v21 _ => ?_)
          refine xW_gR O f_Mod_562 d_Mod_setField_114 (fun v22 _ => ?_)
          refine xW_pure (fun _ _ _ _ _ => am_iload d_Mod_setField_117 rfl) ?_
          refine xW_pure (fun _ _ _ _ _ => am_iload d_Mod_setField_119 rfl) ?_
          refine xW_pure (fun _ _ _ _ _ => am_iadd d_Mod_setField_121) ?_
          refine xW_pure (fun _ _ _ _ _ => am_iconst (v := 1) d_Mod_setField_122 (by decide)) ?_
          refine xW_pure (fun _ _ _ _ _ => am_iadd d_Mod_setField_123) ?_
          refine xW_callV O (dx_Vals_copy O T) (fun _ e => ob_Vals_copy e) rfl rfl rfl l_Mod_505 ⟨w_1992, w_1993⟩ rfl (Nat.le_of_ble_eq_true rfl) d_Mod_setField_124 (fun v24 s23 _ => ?_)
          refine xW_pure (fun _ _ _ _ _ => am_iinc (v := 1) d_Mod_setField_127 rfl (by decide) (Nat.le_of_ble_eq_true rfl)) ?_
          refine xW_pure (fun _ _ _ _ _ => am_goto (tgt := 52) d_Mod_setField_130 (by decide)) ?_
          refine xW_locs (lv' := [(0, .ref x0), (1, .int x1), (7, .int (20 * x1)), (8, .int (z52.1 + 1))]) rfl ?_
          exact ih52 ((z52.1 + 1), s23)
      · refine xW_pure (fun _ _ _ _ _ => am_iconst (v := (-1)) d_Mod_setField_33 (by decide)) ?_
        exact xW_ret (fun _ _ _ _ _ => am_iret rfl d_Mod_setField_34)
    · refine xW_pure (fun _ _ _ _ _ => am_iload d_Mod_setField_135 rfl) ?_
      refine xW_ite (fun _ _ _ _ _ => am_if_ge (tgt := 196) d_Mod_setField_137 (by decide)) (fun _ => ?_) (fun _ => ?_)
      · refine xW_locs (lv' := [(0, .ref x0), (4, .ref x3), (5, .int x4), (6, .int v3), (7, .int (20 * x1))]) rfl ?_
        exact dx_Mod_setField_b196 O T
      · refine xW_pure (fun _ _ _ _ _ => am_aload_n d_Mod_setField_140 rfl rfl) ?_
        refine xW_gR O f_Mod_353 d_Mod_setField_141 (fun v29 _ => ?_)
        refine xW_gR O f_Mod_558 d_Mod_setField_144 (fun v30 _ => ?_)
        refine xW_pure (fun _ _ _ _ _ => am_iload_n d_Mod_setField_147 rfl rfl) ?_
        refine xW_aI O d_Mod_setField_148 (fun v31 _ => ?_)
        refine xW_pure (fun _ _ _ _ _ => am_bipush (v := 8) d_Mod_setField_149 (by decide)) ?_
        refine xW_ite (fun _ _ _ _ _ k1 k2 => am_icmp_ne (tgt := 156) d_Mod_setField_151 (by decide) k2 k1) (fun _ => ?_) (fun _ => ?_)
        · refine xW_pure (fun _ _ _ _ _ => am_iconst (v := 4) d_Mod_setField_154 (by decide)) ?_
          exact xW_ret (fun _ _ _ _ _ => am_iret rfl d_Mod_setField_155)
        · refine xW_pure (fun _ _ _ _ _ => am_aload_n d_Mod_setField_156 rfl rfl) ?_
          refine xW_gR O f_Mod_353 d_Mod_setField_157 (fun v32 _ => ?_)
          refine xW_gR O f_Mod_558 d_Mod_setField_160 (fun v33 _ => ?_)
          refine xW_pure (fun _ _ _ _ _ => am_iload_n d_Mod_setField_163 rfl rfl) ?_
          refine xW_aI O d_Mod_setField_164 (fun v34 _ => ?_)
          refine xW_pure (fun _ _ _ _ _ => am_istore d_Mod_setField_165 (Nat.le_of_ble_eq_true rfl)) ?_
          refine xW_pure (fun _ _ _ _ _ => am_aload_n d_Mod_setField_167 rfl rfl) ?_
          refine xW_gR O f_Mod_353 d_Mod_setField_168 (fun v35 _ => ?_)
          refine xW_gR O f_Mod_558 d_Mod_setField_171 (fun v36 _ => ?_)
          refine xW_pure (fun _ _ _ _ _ => am_iload_n d_Mod_setField_174 rfl rfl) ?_
          refine xW_pure (fun _ _ _ _ _ => am_dup2 d_Mod_setField_175 rfl rfl) ?_
          refine xW_aI O d_Mod_setField_176 (fun v37 _ => ?_)
          refine xW_pure (fun _ _ _ _ _ => am_iconst (v := 1) d_Mod_setField_177 (by decide)) ?_
          refine xW_pure (fun _ _ _ _ _ => am_iadd d_Mod_setField_178) ?_
          refine xW_sI O d_Mod_setField_179 (fun s38 _ => ?_)
          refine xW_pure (fun _ _ _ _ _ => am_aload_n d_Mod_setField_180 rfl rfl) ?_
          refine xW_gR O f_Mod_353 d_Mod_setField_181 (fun v39 _ => ?_)
          refine xW_gR O f_Mod_560 d_Mod_setField_184 (fun v40 _ => ?_)
          refine xW_pure (fun _ _ _ _ _ => am_bipush (v := 8) d_Mod_setField_187 (by decide)) ?_
          refine xW_pure (fun _ _ _ _ _ => am_iload_n d_Mod_setField_189 rfl rfl) ?_
          refine xW_pure (fun _ _ _ _ _ => am_imul d_Mod_setField_190) ?_
          refine xW_pure (fun _ _ _ _ _ => am_iload d_Mod_setField_191 rfl) ?_
          refine xW_pure (fun _ _ _ _ _ => am_iadd d_Mod_setField_193) ?_
          refine xW_pure (fun _ _ _ _ _ => am_lload_n d_Mod_setField_194 rfl rfl) ?_
          refine xW_sL O d_Mod_setField_195 (fun s41 _ => ?_)
          refine xW_locs (lv' := [(0, .ref x0), (4, .ref x3), (5, .int x4), (6, .int v34), (7, .int (20 * x1))]) rfl ?_
          exact dx_Mod_setField_b196 O T

theorem ob_Mod_setField {d : Nat} {x0 : Nat} {x1 : Int32} {x2 : Int64} {x3 : Nat} {x4 : Int32} {s : HS} {y : Int32 × HS} (h : x_Mod_setField d x0 x1 x2 x3 x4 s = some y) : isO s x0 14 = true := by
  cases d with
  | zero => cases h
  | succ d => exact (gd_spec h).1

set_option maxRecDepth 100000 in
def x_Mod_placeOf_b93 (d : Nat) (l0 : Nat) (l2 : Int32) (t0 : Int32) (s : HS) : Option (Int32 × HS) := (gR s l0 14 37).bind fun v13 => ((gR s v13 11 2).bind fun v14 => ((aL s v14 l2).bind fun v15 => (bnd (x_Mod_in d v15 0 ((t0 - 1) : Int32).toInt64 s) fun v17 s16 => (if v17 = 0 then (some ((-4), s16)) else ((gR s16 l0 14 37).bind fun v18 => ((gR s16 v18 11 2).bind fun v19 => ((aL s16 v19 l2).bind fun v20 => (some ((v20 : Int64).toInt32, s16)))))))))

set_option maxRecDepth 100000 in
set_option maxHeartbeats 4000000 in
theorem dx_Mod_placeOf_b93 (O : am_ok K X) (T : am_T K) {d : Nat} {l0 : Nat} {l2 : Int32} {t0 : Int32} {s : HS} : xW cvI K X m_Mod_placeOf (d + 1) 93 [(0, .ref l0), (2, .int l2)] [.int t0] s (x_Mod_placeOf_b93 d l0 l2 t0 s) := by
  unfold x_Mod_placeOf_b93
  refine xW_pure (fun _ _ _ _ _ => am_istore d_Mod_placeOf_93 (Nat.le_of_ble_eq_true rfl)) ?_
  refine xW_pure (fun _ _ _ _ _ => am_aload_n d_Mod_placeOf_95 rfl rfl) ?_
  refine xW_gR O f_Mod_368 d_Mod_placeOf_96 (fun v13 _ => ?_)
  refine xW_gR O f_Mod_508 d_Mod_placeOf_99 (fun v14 _ => ?_)
  refine xW_pure (fun _ _ _ _ _ => am_iload_n d_Mod_placeOf_102 rfl rfl) ?_
  refine xW_aL O d_Mod_placeOf_103 (fun v15 _ => ?_)
  refine xW_pure (fun _ _ _ _ _ => am_lconst (v := 0) d_Mod_placeOf_104 (by decide)) ?_
  refine xW_pure (fun _ _ _ _ _ => am_iload d_Mod_placeOf_105 rfl) ?_
  refine xW_pure (fun _ _ _ _ _ => am_iconst (v := 1) d_Mod_placeOf_107 (by decide)) ?_
  refine xW_pure (fun _ _ _ _ _ => am_isub d_Mod_placeOf_108) ?_
  refine xW_pure (fun _ _ _ _ _ => am_i2l d_Mod_placeOf_109 rfl) ?_
  refine xW_callS O (dx_Mod_in O T) rfl l_Mod_70 w_1791 rfl (Nat.le_of_ble_eq_true rfl) d_Mod_placeOf_110 (fun v17 s16 _ => ?_)
  refine xW_ite (fun _ _ _ _ _ => am_if_eq (tgt := 129) d_Mod_placeOf_113 (by decide)) (fun _ => ?_) (fun _ => ?_)
  · refine xW_pure (fun _ _ _ _ _ => am_bipush (v := (-4)) d_Mod_placeOf_129 (by decide)) ?_
    exact xW_ret (fun _ _ _ _ _ => am_iret rfl d_Mod_placeOf_131)
  · refine xW_pure (fun _ _ _ _ _ => am_aload_n d_Mod_placeOf_116 rfl rfl) ?_
    refine xW_gR O f_Mod_368 d_Mod_placeOf_117 (fun v18 _ => ?_)
    refine xW_gR O f_Mod_508 d_Mod_placeOf_120 (fun v19 _ => ?_)
    refine xW_pure (fun _ _ _ _ _ => am_iload_n d_Mod_placeOf_123 rfl rfl) ?_
    refine xW_aL O d_Mod_placeOf_124 (fun v20 _ => ?_)
    refine xW_pure (fun _ _ _ _ _ => am_l2i d_Mod_placeOf_125 rfl) ?_
    refine xW_pure (fun _ _ _ _ _ => am_goto (tgt := 131) d_Mod_placeOf_126 (by decide)) ?_
    exact xW_ret (fun _ _ _ _ _ => am_iret rfl d_Mod_placeOf_131)

set_option maxRecDepth 100000 in
def x_Mod_placeOf_b42 (d : Nat) (l0 : Nat) (l1 : Int32) (l2 : Int32) (l4 : Int32) (s : HS) : Option (Int32 × HS) := (gR s l0 14 37).bind fun v7 => ((gR s v7 11 0).bind fun v8 => ((aI s v8 l2).bind fun v9 => (if v9 = 1 then (if l4 = 0 then ((gR s l0 14 37).bind fun v10 => ((gR s v10 11 1).bind fun v11 => ((aI s v11 l1).bind fun v12 => (x_Mod_placeOf_b93 d l0 l2 v12 s)))) else ((gR s l0 14 31).bind fun v21 => ((gR s v21 13 1).bind fun v22 => ((gR s l0 14 37).bind fun v23 => ((gR s v23 11 2).bind fun v24 => ((aL s v24 l1).bind fun v25 => ((aI s v22 (v25 : Int64).toInt32).bind fun v26 => (x_Mod_placeOf_b93 d l0 l2 v26 s)))))))) else (some ((-3), s)))))

set_option maxRecDepth 100000 in
set_option maxHeartbeats 4000000 in
theorem dx_Mod_placeOf_b42 (O : am_ok K X) (T : am_T K) {d : Nat} {l0 : Nat} {l1 : Int32} {l2 : Int32} {l4 : Int32} {s : HS} : xW cvI K X m_Mod_placeOf (d + 1) 42 [(0, .ref l0), (1, .int l1), (2, .int l2), (4, .int l4)] [] s (x_Mod_placeOf_b42 d l0 l1 l2 l4 s) := by
  unfold x_Mod_placeOf_b42
  refine xW_pure (fun _ _ _ _ _ => am_aload_n d_Mod_placeOf_42 rfl rfl) ?_
  refine xW_gR O f_Mod_368 d_Mod_placeOf_43 (fun v7 _ => ?_)
  refine xW_gR O f_Mod_515 d_Mod_placeOf_46 (fun v8 _ => ?_)
  refine xW_pure (fun _ _ _ _ _ => am_iload_n d_Mod_placeOf_49 rfl rfl) ?_
  refine xW_aI O d_Mod_placeOf_50 (fun v9 _ => ?_)
  refine xW_pure (fun _ _ _ _ _ => am_iconst (v := 1) d_Mod_placeOf_51 (by decide)) ?_
  refine xW_ite (fun _ _ _ _ _ => am_icmp_eq (tgt := 58) d_Mod_placeOf_52 (by decide)) (fun _ => ?_) (fun _ => ?_)
  · refine xW_pure (fun _ _ _ _ _ => am_iload d_Mod_placeOf_58 rfl) ?_
    refine xW_ite (fun _ _ _ _ _ => am_if_eq (tgt := 84) d_Mod_placeOf_60 (by decide)) (fun _ => ?_) (fun _ => ?_)
    · refine xW_pure (fun _ _ _ _ _ => am_aload_n d_Mod_placeOf_84 rfl rfl) ?_
      refine xW_gR O f_Mod_368 d_Mod_placeOf_85 (fun v10 _ => ?_)
      refine xW_gR O f_Mod_565 d_Mod_placeOf_88 (fun v11 _ => ?_)
      refine xW_pure (fun _ _ _ _ _ => am_iload_n d_Mod_placeOf_91 rfl rfl) ?_
      refine xW_aI O d_Mod_placeOf_92 (fun v12 _ => ?_)
      refine xW_locs (lv' := [(0, .ref l0), (2, .int l2)]) rfl ?_
      exact dx_Mod_placeOf_b93 O T
    · refine xW_pure (fun _ _ _ _ _ => am_aload_n d_Mod_placeOf_63 rfl rfl) ?_
      refine xW_gR O f_Mod_353 d_Mod_placeOf_64 (fun v21 _ => ?_)
      refine xW_gR O f_Mod_558 d_Mod_placeOf_67 (fun v22 _ => ?_)
      refine xW_pure (fun _ _ _ _ _ => am_aload_n d_Mod_placeOf_70 rfl rfl) ?_
      refine xW_gR O f_Mod_368 d_Mod_placeOf_71 (fun v23 _ => ?_)
      refine xW_gR O f_Mod_508 d_Mod_placeOf_74 (fun v24 _ => ?_)
      refine xW_pure (fun _ _ _ _ _ => am_iload_n d_Mod_placeOf_77 rfl rfl) ?_
      refine xW_aL O d_Mod_placeOf_78 (fun v25 _ => ?_)
      refine xW_pure (fun _ _ _ _ _ => am_l2i d_Mod_placeOf_79 rfl) ?_
      refine xW_aI O d_Mod_placeOf_80 (fun v26 _ => ?_)
      refine xW_pure (fun _ _ _ _ _ => am_goto (tgt := 93) d_Mod_placeOf_81 (by decide)) ?_
      refine xW_locs (lv' := [(0, .ref l0), (2, .int l2)]) rfl ?_
      exact dx_Mod_placeOf_b93 O T
  · refine xW_pure (fun _ _ _ _ _ => am_bipush (v := (-3)) d_Mod_placeOf_55 (by decide)) ?_
    exact xW_ret (fun _ _ _ _ _ => am_iret rfl d_Mod_placeOf_57)

set_option maxRecDepth 100000 in
def x_Mod_placeOf_b18 (d : Nat) (l0 : Nat) (l1 : Int32) (l2 : Int32) (l3 : Int32) (t0 : Int32) (s : HS) : Option (Int32 × HS) := if t0 = 0 then (if l3 = 0 then (some ((-3), s)) else ((gR s l0 14 37).bind fun v4 => ((gR s v4 11 0).bind fun v5 => ((aI s v5 l1).bind fun v6 => (if v6 = 2 then (x_Mod_placeOf_b42 d l0 l1 l2 t0 s) else (some ((-3), s))))))) else (x_Mod_placeOf_b42 d l0 l1 l2 t0 s)

set_option maxRecDepth 100000 in
set_option maxHeartbeats 4000000 in
theorem dx_Mod_placeOf_b18 (O : am_ok K X) (T : am_T K) {d : Nat} {l0 : Nat} {l1 : Int32} {l2 : Int32} {l3 : Int32} {t0 : Int32} {s : HS} : xW cvI K X m_Mod_placeOf (d + 1) 18 [(0, .ref l0), (1, .int l1), (2, .int l2), (3, .int l3)] [.int t0] s (x_Mod_placeOf_b18 d l0 l1 l2 l3 t0 s) := by
  unfold x_Mod_placeOf_b18
  refine xW_pure (fun _ _ _ _ _ => am_istore d_Mod_placeOf_18 (Nat.le_of_ble_eq_true rfl)) ?_
  refine xW_pure (fun _ _ _ _ _ => am_iload d_Mod_placeOf_20 rfl) ?_
  refine xW_ite (fun _ _ _ _ _ k1 k2 => am_if_ne (tgt := 42) d_Mod_placeOf_22 (by decide) k2 k1) (fun _ => ?_) (fun _ => ?_)
  · refine xW_pure (fun _ _ _ _ _ => am_iload_n d_Mod_placeOf_25 rfl rfl) ?_
    refine xW_ite (fun _ _ _ _ _ => am_if_eq (tgt := 55) d_Mod_placeOf_26 (by decide)) (fun _ => ?_) (fun _ => ?_)
    · refine xW_pure (fun _ _ _ _ _ => am_bipush (v := (-3)) d_Mod_placeOf_55 (by decide)) ?_
      exact xW_ret (fun _ _ _ _ _ => am_iret rfl d_Mod_placeOf_57)
    · refine xW_pure (fun _ _ _ _ _ => am_aload_n d_Mod_placeOf_29 rfl rfl) ?_
      refine xW_gR O f_Mod_368 d_Mod_placeOf_30 (fun v4 _ => ?_)
      refine xW_gR O f_Mod_515 d_Mod_placeOf_33 (fun v5 _ => ?_)
      refine xW_pure (fun _ _ _ _ _ => am_iload_n d_Mod_placeOf_36 rfl rfl) ?_
      refine xW_aI O d_Mod_placeOf_37 (fun v6 _ => ?_)
      refine xW_pure (fun _ _ _ _ _ => am_iconst (v := 2) d_Mod_placeOf_38 (by decide)) ?_
      refine xW_ite (fun _ _ _ _ _ k1 k2 => am_icmp_ne (tgt := 55) d_Mod_placeOf_39 (by decide) k2 k1) (fun _ => ?_) (fun _ => ?_)
      · refine xW_locs (lv' := [(0, .ref l0), (1, .int l1), (2, .int l2), (4, .int t0)]) rfl ?_
        exact dx_Mod_placeOf_b42 O T
      · refine xW_pure (fun _ _ _ _ _ => am_bipush (v := (-3)) d_Mod_placeOf_55 (by decide)) ?_
        exact xW_ret (fun _ _ _ _ _ => am_iret rfl d_Mod_placeOf_57)
  · refine xW_locs (lv' := [(0, .ref l0), (1, .int l1), (2, .int l2), (4, .int t0)]) rfl ?_
    exact dx_Mod_placeOf_b42 O T

set_option maxRecDepth 100000 in
def x_Mod_placeOf (d : Nat) (x0 : Nat) (x1 : Int32) (x2 : Int32) (x3 : Int32) (s : HS) : Option (Int32 × HS) := match d with
  | 0 => none
  | d + 1 => gd s x0 14 ((gR s x0 14 37).bind fun v1 => ((gR s v1 11 0).bind fun v2 => ((aI s v2 x1).bind fun v3 => (if v3 = 4 then (x_Mod_placeOf_b18 d x0 x1 x2 x3 1 s) else (x_Mod_placeOf_b18 d x0 x1 x2 x3 0 s)))))

set_option maxRecDepth 100000 in
set_option maxHeartbeats 4000000 in
theorem dx_Mod_placeOf (O : am_ok K X) (T : am_T K) {d : Nat} {x0 : Nat} {x1 : Int32} {x2 : Int32} {x3 : Int32} {s : HS} : xM cvI K X m_Mod_placeOf d [.ref x0, .int x1, .int x2, .int x3] s (x_Mod_placeOf d x0 x1 x2 x3 s) := by
  cases d with
  | zero => exact xM_none
  | succ d =>
    unfold x_Mod_placeOf
    refine xM_enter (by decide +kernel) (Nat.le_of_ble_eq_true rfl) ?_
    refine xW_gd (fun _ => ?_)
    refine xW_pure (fun _ _ _ _ _ => am_aload_n d_Mod_placeOf_0 rfl rfl) ?_
    refine xW_gR O f_Mod_368 d_Mod_placeOf_1 (fun v1 _ => ?_)
    refine xW_gR O f_Mod_515 d_Mod_placeOf_4 (fun v2 _ => ?_)
    refine xW_pure (fun _ _ _ _ _ => am_iload_n d_Mod_placeOf_7 rfl rfl) ?_
    refine xW_aI O d_Mod_placeOf_8 (fun v3 _ => ?_)
    refine xW_pure (fun _ _ _ _ _ => am_iconst (v := 4) d_Mod_placeOf_9 (by decide)) ?_
    refine xW_ite (fun _ _ _ _ _ k1 k2 => am_icmp_ne (tgt := 17) d_Mod_placeOf_10 (by decide) k2 k1) (fun _ => ?_) (fun _ => ?_)
    · refine xW_pure (fun _ _ _ _ _ => am_iconst (v := 1) d_Mod_placeOf_13 (by decide)) ?_
      refine xW_pure (fun _ _ _ _ _ => am_goto (tgt := 18) d_Mod_placeOf_14 (by decide)) ?_
      refine xW_locs (lv' := [(0, .ref x0), (1, .int x1), (2, .int x2), (3, .int x3)]) rfl ?_
      exact dx_Mod_placeOf_b18 O T
    · refine xW_pure (fun _ _ _ _ _ => am_iconst (v := 0) d_Mod_placeOf_17 (by decide)) ?_
      refine xW_locs (lv' := [(0, .ref x0), (1, .int x1), (2, .int x2), (3, .int x3)]) rfl ?_
      exact dx_Mod_placeOf_b18 O T

theorem ob_Mod_placeOf {d : Nat} {x0 : Nat} {x1 : Int32} {x2 : Int32} {x3 : Int32} {s : HS} {y : Int32 × HS} (h : x_Mod_placeOf d x0 x1 x2 x3 s = some y) : isO s x0 14 = true := by
  cases d with
  | zero => cases h
  | succ d => exact (gd_spec h).1

set_option maxRecDepth 100000 in
def x_Vals_isLike (d : Nat) (x0 : Nat) (x1 : Int32) (x2 : Nat) (x3 : Int32) (s : HS) : Option (Int32 × HS) := gd s x0 11 ((gR s x0 11 0).bind fun v1 => ((aI s v1 x1).bind fun v2 => ((gR s x2 11 0).bind fun v3 => ((aI s v3 x3).bind fun v4 => (if v2 = v4 then ((gR s x0 11 1).bind fun v5 => ((aI s v5 x1).bind fun v6 => ((gR s x2 11 1).bind fun v7 => ((aI s v7 x3).bind fun v8 => (if v6 = v8 then ((gR s x0 11 2).bind fun v9 => ((aL s v9 x1).bind fun v10 => ((gR s x2 11 2).bind fun v11 => ((aL s v11 x3).bind fun v12 => (if (lg_cmp v10 v12) = 0 then ((gR s x0 11 3).bind fun v13 => ((aL s v13 x1).bind fun v14 => ((gR s x2 11 3).bind fun v15 => ((aL s v15 x3).bind fun v16 => (if (lg_cmp v14 v16) = 0 then (some (1, s)) else (some (0, s))))))) else (some (0, s))))))) else (some (0, s))))))) else (some (0, s)))))))

set_option maxRecDepth 100000 in
set_option maxHeartbeats 4000000 in
theorem dx_Vals_isLike (O : am_ok K X) (T : am_T K) {d : Nat} {x0 : Nat} {x1 : Int32} {x2 : Nat} {x3 : Int32} {s : HS} : xM cvI K X m_Vals_isLike d [.ref x0, .int x1, .ref x2, .int x3] s (x_Vals_isLike d x0 x1 x2 x3 s) := by
  unfold x_Vals_isLike
  refine xM_enter (by decide +kernel) (Nat.le_of_ble_eq_true rfl) ?_
  refine xW_gd (fun _ => ?_)
  refine xW_pure (fun _ _ _ _ _ => am_aload_n d_Vals_isLike_0 rfl rfl) ?_
  refine xW_gR O f_Vals_7 d_Vals_isLike_1 (fun v1 _ => ?_)
  refine xW_pure (fun _ _ _ _ _ => am_iload_n d_Vals_isLike_4 rfl rfl) ?_
  refine xW_aI O d_Vals_isLike_5 (fun v2 _ => ?_)
  refine xW_pure (fun _ _ _ _ _ => am_aload_n d_Vals_isLike_6 rfl rfl) ?_
  refine xW_gR O f_Vals_7 d_Vals_isLike_7 (fun v3 _ => ?_)
  refine xW_pure (fun _ _ _ _ _ => am_iload_n d_Vals_isLike_10 rfl rfl) ?_
  refine xW_aI O d_Vals_isLike_11 (fun v4 _ => ?_)
  refine xW_ite (fun _ _ _ _ _ k1 k2 => am_icmp_ne (tgt := 66) d_Vals_isLike_12 (by decide) k2 k1) (fun _ => ?_) (fun _ => ?_)
  · refine xW_pure (fun _ _ _ _ _ => am_aload_n d_Vals_isLike_15 rfl rfl) ?_
    refine xW_gR O f_Vals_13 d_Vals_isLike_16 (fun v5 _ => ?_)
    refine xW_pure (fun _ _ _ _ _ => am_iload_n d_Vals_isLike_19 rfl rfl) ?_
    refine xW_aI O d_Vals_isLike_20 (fun v6 _ => ?_)
    refine xW_pure (fun _ _ _ _ _ => am_aload_n d_Vals_isLike_21 rfl rfl) ?_
    refine xW_gR O f_Vals_13 d_Vals_isLike_22 (fun v7 _ => ?_)
    refine xW_pure (fun _ _ _ _ _ => am_iload_n d_Vals_isLike_25 rfl rfl) ?_
    refine xW_aI O d_Vals_isLike_26 (fun v8 _ => ?_)
    refine xW_ite (fun _ _ _ _ _ k1 k2 => am_icmp_ne (tgt := 66) d_Vals_isLike_27 (by decide) k2 k1) (fun _ => ?_) (fun _ => ?_)
    · refine xW_pure (fun _ _ _ _ _ => am_aload_n d_Vals_isLike_30 rfl rfl) ?_
      refine xW_gR O f_Vals_16 d_Vals_isLike_31 (fun v9 _ => ?_)
      refine xW_pure (fun _ _ _ _ _ => am_iload_n d_Vals_isLike_34 rfl rfl) ?_
      refine xW_aL O d_Vals_isLike_35 (fun v10 _ => ?_)
      refine xW_pure (fun _ _ _ _ _ => am_aload_n d_Vals_isLike_36 rfl rfl) ?_
      refine xW_gR O f_Vals_16 d_Vals_isLike_37 (fun v11 _ => ?_)
      refine xW_pure (fun _ _ _ _ _ => am_iload_n d_Vals_isLike_40 rfl rfl) ?_
      refine xW_aL O d_Vals_isLike_41 (fun v12 _ => ?_)
      refine xW_pure (fun _ _ _ _ _ => am_lcmp d_Vals_isLike_42) ?_
      refine xW_ite (fun _ _ _ _ _ k1 k2 => am_if_ne (tgt := 66) d_Vals_isLike_43 (by decide) k2 k1) (fun _ => ?_) (fun _ => ?_)
      · refine xW_pure (fun _ _ _ _ _ => am_aload_n d_Vals_isLike_46 rfl rfl) ?_
        refine xW_gR O f_Vals_20 d_Vals_isLike_47 (fun v13 _ => ?_)
        refine xW_pure (fun _ _ _ _ _ => am_iload_n d_Vals_isLike_50 rfl rfl) ?_
        refine xW_aL O d_Vals_isLike_51 (fun v14 _ => ?_)
        refine xW_pure (fun _ _ _ _ _ => am_aload_n d_Vals_isLike_52 rfl rfl) ?_
        refine xW_gR O f_Vals_20 d_Vals_isLike_53 (fun v15 _ => ?_)
        refine xW_pure (fun _ _ _ _ _ => am_iload_n d_Vals_isLike_56 rfl rfl) ?_
        refine xW_aL O d_Vals_isLike_57 (fun v16 _ => ?_)
        refine xW_pure (fun _ _ _ _ _ => am_lcmp d_Vals_isLike_58) ?_
        refine xW_ite (fun _ _ _ _ _ k1 k2 => am_if_ne (tgt := 66) d_Vals_isLike_59 (by decide) k2 k1) (fun _ => ?_) (fun _ => ?_)
        · refine xW_pure (fun _ _ _ _ _ => am_iconst (v := 1) d_Vals_isLike_62 (by decide)) ?_
          refine xW_pure (fun _ _ _ _ _ => am_goto (tgt := 67) d_Vals_isLike_63 (by decide)) ?_
          exact xW_ret (fun _ _ _ _ _ => am_zret (ty := .boolean) rfl rfl d_Vals_isLike_67)
        · refine xW_pure (fun _ _ _ _ _ => am_iconst (v := 0) d_Vals_isLike_66 (by decide)) ?_
          exact xW_ret (fun _ _ _ _ _ => am_zret (ty := .boolean) rfl rfl d_Vals_isLike_67)
      · refine xW_pure (fun _ _ _ _ _ => am_iconst (v := 0) d_Vals_isLike_66 (by decide)) ?_
        exact xW_ret (fun _ _ _ _ _ => am_zret (ty := .boolean) rfl rfl d_Vals_isLike_67)
    · refine xW_pure (fun _ _ _ _ _ => am_iconst (v := 0) d_Vals_isLike_66 (by decide)) ?_
      exact xW_ret (fun _ _ _ _ _ => am_zret (ty := .boolean) rfl rfl d_Vals_isLike_67)
  · refine xW_pure (fun _ _ _ _ _ => am_iconst (v := 0) d_Vals_isLike_66 (by decide)) ?_
    exact xW_ret (fun _ _ _ _ _ => am_zret (ty := .boolean) rfl rfl d_Vals_isLike_67)

theorem ob_Vals_isLike {d : Nat} {x0 : Nat} {x1 : Int32} {x2 : Nat} {x3 : Int32} {s : HS} {y : Int32 × HS} (h : x_Vals_isLike d x0 x1 x2 x3 s = some y) : isO s x0 11 = true := (gd_spec h).1

set_option maxRecDepth 100000 in
def x_Mod_order (d : Nat) (x0 : Nat) (x1 : Int32) (x2 : Int32) (s : HS) : Option (Int32 × HS) := match d with
  | 0 => none
  | d + 1 => gd s x0 14 ((gR s x0 14 37).bind fun v1 => ((gR s v1 11 1).bind fun v2 => ((aI s v2 x1).bind fun v3 => ((gR s x0 14 37).bind fun v4 => ((gR s v4 11 1).bind fun v5 => ((aI s v5 x2).bind fun v6 => (loopK (fun (again25 : Int32 × HS → Option (Int32 × HS)) (z25 : Int32 × HS) => (if (if v6 < v3 then v6 else v3) ≤ z25.1 then ((gR z25.2 x0 14 37).bind fun v7 => ((gR z25.2 v7 11 1).bind fun v8 => ((aI z25.2 v8 x1).bind fun v9 => ((gR z25.2 x0 14 37).bind fun v10 => ((gR z25.2 v10 11 1).bind fun v11 => ((aI z25.2 v11 x2).bind fun v12 => (some ((v9 - v12), z25.2)))))))) else ((gR z25.2 x0 14 37).bind fun v13 => (bnd (x_Vals_sign d v13 x1 z25.1 z25.2) fun v15 s14 => ((gR s14 x0 14 37).bind fun v16 => (bnd (x_Vals_sign d v16 x2 z25.1 s14) fun v18 s17 => (if v15 = v18 then (again25 ((z25.1 + 1), s17)) else ((gR s17 x0 14 37).bind fun v19 => (bnd (x_Vals_sign d v19 x1 z25.1 s17) fun v21 s20 => ((gR s20 x0 14 37).bind fun v22 => (bnd (x_Vals_sign d v22 x2 z25.1 s20) fun v24 s23 => (some ((v21 - v24), s23))))))))))))) FU (0, s))))))))

set_option maxRecDepth 100000 in
set_option maxHeartbeats 4000000 in
theorem dx_Mod_order (O : am_ok K X) (T : am_T K) {d : Nat} {x0 : Nat} {x1 : Int32} {x2 : Int32} {s : HS} : xM cvI K X m_Mod_order d [.ref x0, .int x1, .int x2] s (x_Mod_order d x0 x1 x2 s) := by
  cases d with
  | zero => exact xM_none
  | succ d =>
    unfold x_Mod_order
    refine xM_enter (by decide +kernel) (Nat.le_of_ble_eq_true rfl) ?_
    refine xW_gd (fun _ => ?_)
    refine xW_pure (fun _ _ _ _ _ => am_aload_n d_Mod_order_0 rfl rfl) ?_
    refine xW_gR O f_Mod_368 d_Mod_order_1 (fun v1 _ => ?_)
    refine xW_gR O f_Mod_565 d_Mod_order_4 (fun v2 _ => ?_)
    refine xW_pure (fun _ _ _ _ _ => am_iload_n d_Mod_order_7 rfl rfl) ?_
    refine xW_aI O d_Mod_order_8 (fun v3 _ => ?_)
    refine xW_pure (fun _ _ _ _ _ => am_aload_n d_Mod_order_9 rfl rfl) ?_
    refine xW_gR O f_Mod_368 d_Mod_order_10 (fun v4 _ => ?_)
    refine xW_gR O f_Mod_565 d_Mod_order_13 (fun v5 _ => ?_)
    refine xW_pure (fun _ _ _ _ _ => am_iload_n d_Mod_order_16 rfl rfl) ?_
    refine xW_aI O d_Mod_order_17 (fun v6 _ => ?_)
    refine xW_pure (fun _ _ _ _ _ => am_mmin w_2116 w_551 w_164 w_552 d_Mod_order_18 (Nat.le_of_ble_eq_true rfl) (by omega)) ?_
    refine xW_pure (fun _ _ _ _ _ => am_istore_n d_Mod_order_21 rfl (Nat.le_of_ble_eq_true rfl)) ?_
    refine xW_pure (fun _ _ _ _ _ => am_iconst (v := 0) d_Mod_order_22 (by decide)) ?_
    refine xW_pure (fun _ _ _ _ _ => am_istore d_Mod_order_23 (Nat.le_of_ble_eq_true rfl)) ?_
    refine xW_locs (lv' := [(0, .ref x0), (1, .int x1), (2, .int x2), (3, .int (if v6 < v3 then v6 else v3)), (4, .int 0)]) rfl ?_
    refine xW_loop (lvf := fun (z25 : Int32 × HS) => [(0, .ref x0), (1, .int x1), (2, .int x2), (3, .int (if v6 < v3 then v6 else v3)), (4, .int z25.1)]) (hsf := fun (z25 : Int32 × HS) => z25.2) (fun again25 ih25 z25 => ?_) FU (0, s)
    refine xW_pure (fun _ _ _ _ _ => am_iload d_Mod_order_25 rfl) ?_
    refine xW_pure (fun _ _ _ _ _ => am_iload_n d_Mod_order_27 rfl rfl) ?_
    refine xW_ite (fun _ _ _ _ _ => am_icmp_ge (tgt := 82) d_Mod_order_28 (by decide)) (fun _ => ?_) (fun _ => ?_)
    · refine xW_pure (fun _ _ _ _ _ => am_aload_n d_Mod_order_82 rfl rfl) ?_
      refine xW_gR O f_Mod_368 d_Mod_order_83 (fun v7 _ => ?_)
      refine xW_gR O f_Mod_565 d_Mod_order_86 (fun v8 _ => ?_)
      refine xW_pure (fun _ _ _ _ _ => am_iload_n d_Mod_order_89 rfl rfl) ?_
      refine xW_aI O d_Mod_order_90 (fun v9 _ => ?_)
      refine xW_pure (fun _ _ _ _ _ => am_aload_n d_Mod_order_91 rfl rfl) ?_
      refine xW_gR O f_Mod_368 d_Mod_order_92 (fun v10 _ => ?_)
      refine xW_gR O f_Mod_565 d_Mod_order_95 (fun v11 _ => ?_)
      refine xW_pure (fun _ _ _ _ _ => am_iload_n d_Mod_order_98 rfl rfl) ?_
      refine xW_aI O d_Mod_order_99 (fun v12 _ => ?_)
      refine xW_pure (fun _ _ _ _ _ => am_isub d_Mod_order_100) ?_
      exact xW_ret (fun _ _ _ _ _ => am_iret rfl d_Mod_order_101)
    · refine xW_pure (fun _ _ _ _ _ => am_aload_n d_Mod_order_31 rfl rfl) ?_
      refine xW_gR O f_Mod_368 d_Mod_order_32 (fun v13 _ => ?_)
      refine xW_pure (fun _ _ _ _ _ => am_iload_n d_Mod_order_35 rfl rfl) ?_
      refine xW_pure (fun _ _ _ _ _ => am_iload d_Mod_order_36 rfl) ?_
      refine xW_callV O (dx_Vals_sign O T) (fun _ e => ob_Vals_sign e) rfl rfl rfl l_Mod_574 ⟨w_2073, w_2074⟩ rfl (Nat.le_of_ble_eq_true rfl) d_Mod_order_38 (fun v15 s14 _ => ?_)
      refine xW_pure (fun _ _ _ _ _ => am_aload_n d_Mod_order_41 rfl rfl) ?_
      refine xW_gR O f_Mod_368 d_Mod_order_42 (fun v16 _ => ?_)
      refine xW_pure (fun _ _ _ _ _ => am_iload_n d_Mod_order_45 rfl rfl) ?_
      refine xW_pure (fun _ _ _ _ _ => am_iload d_Mod_order_46 rfl) ?_
      refine xW_callV O (dx_Vals_sign O T) (fun _ e => ob_Vals_sign e) rfl rfl rfl l_Mod_574 ⟨w_2073, w_2074⟩ rfl (Nat.le_of_ble_eq_true rfl) d_Mod_order_48 (fun v18 s17 _ => ?_)
      refine xW_ite (fun _ _ _ _ _ => am_icmp_eq (tgt := 76) d_Mod_order_51 (by decide)) (fun _ => ?_) (fun _ => ?_)
      · refine xW_pure (fun _ _ _ _ _ => am_iinc (v := 1) d_Mod_order_76 rfl (by decide) (Nat.le_of_ble_eq_true rfl)) ?_
        refine xW_pure (fun _ _ _ _ _ => am_goto (tgt := 25) d_Mod_order_79 (by decide)) ?_
        refine xW_locs (lv' := [(0, .ref x0), (1, .int x1), (2, .int x2), (3, .int (if v6 < v3 then v6 else v3)), (4, .int (z25.1 + 1))]) rfl ?_
        exact ih25 ((z25.1 + 1), s17)
      · refine xW_pure (fun _ _ _ _ _ => am_aload_n d_Mod_order_54 rfl rfl) ?_
        refine xW_gR O f_Mod_368 d_Mod_order_55 (fun v19 _ => ?_)
        refine xW_pure (fun _ _ _ _ _ => am_iload_n d_Mod_order_58 rfl rfl) ?_
        refine xW_pure (fun _ _ _ _ _ => am_iload d_Mod_order_59 rfl) ?_
        refine xW_callV O (dx_Vals_sign O T) (fun _ e => ob_Vals_sign e) rfl rfl rfl l_Mod_574 ⟨w_2073, w_2074⟩ rfl (Nat.le_of_ble_eq_true rfl) d_Mod_order_61 (fun v21 s20 _ => ?_)
        refine xW_pure (fun _ _ _ _ _ => am_aload_n d_Mod_order_64 rfl rfl) ?_
        refine xW_gR O f_Mod_368 d_Mod_order_65 (fun v22 _ => ?_)
        refine xW_pure (fun _ _ _ _ _ => am_iload_n d_Mod_order_68 rfl rfl) ?_
        refine xW_pure (fun _ _ _ _ _ => am_iload d_Mod_order_69 rfl) ?_
        refine xW_callV O (dx_Vals_sign O T) (fun _ e => ob_Vals_sign e) rfl rfl rfl l_Mod_574 ⟨w_2073, w_2074⟩ rfl (Nat.le_of_ble_eq_true rfl) d_Mod_order_71 (fun v24 s23 _ => ?_)
        refine xW_pure (fun _ _ _ _ _ => am_isub d_Mod_order_74) ?_
        exact xW_ret (fun _ _ _ _ _ => am_iret rfl d_Mod_order_75)

theorem ob_Mod_order {d : Nat} {x0 : Nat} {x1 : Int32} {x2 : Int32} {s : HS} {y : Int32 × HS} (h : x_Mod_order d x0 x1 x2 s = some y) : isO s x0 14 = true := by
  cases d with
  | zero => cases h
  | succ d => exact (gd_spec h).1

set_option maxRecDepth 100000 in
def x_Mod_join (d : Nat) (x0 : Nat) (x1 : Int32) (x2 : Int32) (s : HS) : Option (Int32 × HS) := match d with
  | 0 => none
  | d + 1 => gd s x0 14 ((gR s x0 14 37).bind fun v1 => ((gR s v1 11 1).bind fun v2 => ((aI s v2 x1).bind fun v3 => ((gR s x0 14 37).bind fun v4 => ((gR s v4 11 1).bind fun v5 => ((aI s v5 x2).bind fun v6 => (if (v3 + v6) ≤ 16 then (loopK (fun (again28 : Int32 × HS → Option (Int32 × HS)) (z28 : Int32 × HS) => ((gR z28.2 x0 14 37).bind fun v7 => ((gR z28.2 v7 11 1).bind fun v8 => ((aI z28.2 v8 x2).bind fun v9 => (if v9 ≤ z28.1 then (some ((-1), z28.2)) else ((gR z28.2 x0 14 37).bind fun v10 => ((gR z28.2 x0 14 37).bind fun v11 => (bnd (x_Vals_sign d v11 x2 z28.1 z28.2) fun v13 s12 => (bnd (x_Vals_add d v10 x1 v13 s12) fun v15 s14 => (again28 ((z28.1 + 1), s14))))))))))) FU (0, s)) else (some (4, s)))))))))

set_option maxRecDepth 100000 in
set_option maxHeartbeats 4000000 in
theorem dx_Mod_join (O : am_ok K X) (T : am_T K) {d : Nat} {x0 : Nat} {x1 : Int32} {x2 : Int32} {s : HS} : xM cvI K X m_Mod_join d [.ref x0, .int x1, .int x2] s (x_Mod_join d x0 x1 x2 s) := by
  cases d with
  | zero => exact xM_none
  | succ d =>
    unfold x_Mod_join
    refine xM_enter (by decide +kernel) (Nat.le_of_ble_eq_true rfl) ?_
    refine xW_gd (fun _ => ?_)
    refine xW_pure (fun _ _ _ _ _ => am_aload_n d_Mod_join_0 rfl rfl) ?_
    refine xW_gR O f_Mod_368 d_Mod_join_1 (fun v1 _ => ?_)
    refine xW_gR O f_Mod_565 d_Mod_join_4 (fun v2 _ => ?_)
    refine xW_pure (fun _ _ _ _ _ => am_iload_n d_Mod_join_7 rfl rfl) ?_
    refine xW_aI O d_Mod_join_8 (fun v3 _ => ?_)
    refine xW_pure (fun _ _ _ _ _ => am_aload_n d_Mod_join_9 rfl rfl) ?_
    refine xW_gR O f_Mod_368 d_Mod_join_10 (fun v4 _ => ?_)
    refine xW_gR O f_Mod_565 d_Mod_join_13 (fun v5 _ => ?_)
    refine xW_pure (fun _ _ _ _ _ => am_iload_n d_Mod_join_16 rfl rfl) ?_
    refine xW_aI O d_Mod_join_17 (fun v6 _ => ?_)
    refine xW_pure (fun _ _ _ _ _ => am_iadd d_Mod_join_18) ?_
    refine xW_pure (fun _ _ _ _ _ => am_bipush (v := 16) d_Mod_join_19 (by decide)) ?_
    refine xW_ite (fun _ _ _ _ _ => am_icmp_le (tgt := 26) d_Mod_join_21 (by decide)) (fun _ => ?_) (fun _ => ?_)
    · refine xW_pure (fun _ _ _ _ _ => am_iconst (v := 0) d_Mod_join_26 (by decide)) ?_
      refine xW_pure (fun _ _ _ _ _ => am_istore_n d_Mod_join_27 rfl (Nat.le_of_ble_eq_true rfl)) ?_
      refine xW_locs (lv' := [(0, .ref x0), (1, .int x1), (2, .int x2), (3, .int 0)]) rfl ?_
      refine xW_loop (lvf := fun (z28 : Int32 × HS) => [(0, .ref x0), (1, .int x1), (2, .int x2), (3, .int z28.1)]) (hsf := fun (z28 : Int32 × HS) => z28.2) (fun again28 ih28 z28 => ?_) FU (0, s)
      refine xW_pure (fun _ _ _ _ _ => am_iload_n d_Mod_join_28 rfl rfl) ?_
      refine xW_pure (fun _ _ _ _ _ => am_aload_n d_Mod_join_29 rfl rfl) ?_
      refine xW_gR O f_Mod_368 d_Mod_join_30 (fun v7 _ => ?_)
      refine xW_gR O f_Mod_565 d_Mod_join_33 (fun v8 _ => ?_)
      refine xW_pure (fun _ _ _ _ _ => am_iload_n d_Mod_join_36 rfl rfl) ?_
      refine xW_aI O d_Mod_join_37 (fun v9 _ => ?_)
      refine xW_ite (fun _ _ _ _ _ => am_icmp_ge (tgt := 64) d_Mod_join_38 (by decide)) (fun _ => ?_) (fun _ => ?_)
      · refine xW_pure (fun _ _ _ _ _ => am_iconst (v := (-1)) d_Mod_join_64 (by decide)) ?_
        exact xW_ret (fun _ _ _ _ _ => am_iret rfl d_Mod_join_65)
      · refine xW_pure (fun _ _ _ _ _ => am_aload_n d_Mod_join_41 rfl rfl) ?_
        refine xW_gR O f_Mod_368 d_Mod_join_42 (fun v10 _ => ?_)
        refine xW_pure (fun _ _ _ _ _ => am_iload_n d_Mod_join_45 rfl rfl) ?_
        refine xW_pure (fun _ _ _ _ _ => am_aload_n d_Mod_join_46 rfl rfl) ?_
        refine xW_gR O f_Mod_368 d_Mod_join_47 (fun v11 _ => ?_)
        refine xW_pure (fun _ _ _ _ _ => am_iload_n d_Mod_join_50 rfl rfl) ?_
        refine xW_pure (fun _ _ _ _ _ => am_iload_n d_Mod_join_51 rfl rfl) ?_
        refine xW_callV O (dx_Vals_sign O T) (fun _ e => ob_Vals_sign e) rfl rfl rfl l_Mod_574 ⟨w_2073, w_2074⟩ rfl (Nat.le_of_ble_eq_true rfl) d_Mod_join_52 (fun v13 s12 _ => ?_)
        refine xW_callV O (dx_Vals_add O T) (fun _ e => ob_Vals_add e) rfl rfl rfl l_Mod_308 ⟨w_1922, w_1923⟩ rfl (Nat.le_of_ble_eq_true rfl) d_Mod_join_55 (fun v15 s14 _ => ?_)
        refine xW_pure (fun _ _ _ _ _ => am_iinc (v := 1) d_Mod_join_58 rfl (by decide) (Nat.le_of_ble_eq_true rfl)) ?_
        refine xW_pure (fun _ _ _ _ _ => am_goto (tgt := 28) d_Mod_join_61 (by decide)) ?_
        refine xW_locs (lv' := [(0, .ref x0), (1, .int x1), (2, .int x2), (3, .int (z28.1 + 1))]) rfl ?_
        exact ih28 ((z28.1 + 1), s14)
    · refine xW_pure (fun _ _ _ _ _ => am_iconst (v := 4) d_Mod_join_24 (by decide)) ?_
      exact xW_ret (fun _ _ _ _ _ => am_iret rfl d_Mod_join_25)

theorem ob_Mod_join {d : Nat} {x0 : Nat} {x1 : Int32} {x2 : Int32} {s : HS} {y : Int32 × HS} (h : x_Mod_join d x0 x1 x2 s = some y) : isO s x0 14 = true := by
  cases d with
  | zero => cases h
  | succ d => exact (gd_spec h).1

set_option maxRecDepth 100000 in
def x_Mod_sum_IIJJ_b77 (d : Nat) (l0 : Nat) (l2 : Int32) (t0 : Int64) (s : HS) : Option (Int32 × HS) := (gR s l0 14 37).bind fun v1 => ((gR s v1 11 2).bind fun v2 => ((sV s .long v2 l2 (.long ((t0 : Int64).toInt32 : Int32).toInt64)).bind fun s3 => (some ((-1), s3))))

set_option maxRecDepth 100000 in
set_option maxHeartbeats 4000000 in
theorem dx_Mod_sum_IIJJ_b77 (O : am_ok K X) (T : am_T K) {d : Nat} {l0 : Nat} {l2 : Int32} {t0 : Int64} {s : HS} : xW cvI K X m_Mod_sum_IIJJ d 77 [(0, .ref l0), (2, .int l2)] [.long t0] s (x_Mod_sum_IIJJ_b77 d l0 l2 t0 s) := by
  unfold x_Mod_sum_IIJJ_b77
  refine xW_pure (fun _ _ _ _ _ => am_lstore d_Mod_sum_IIJJ_77 (Nat.le_of_ble_eq_true rfl)) ?_
  refine xW_pure (fun _ _ _ _ _ => am_aload_n d_Mod_sum_IIJJ_79 rfl rfl) ?_
  refine xW_gR O f_Mod_368 d_Mod_sum_IIJJ_80 (fun v1 _ => ?_)
  refine xW_gR O f_Mod_508 d_Mod_sum_IIJJ_83 (fun v2 _ => ?_)
  refine xW_pure (fun _ _ _ _ _ => am_iload_n d_Mod_sum_IIJJ_86 rfl rfl) ?_
  refine xW_pure (fun _ _ _ _ _ => am_lload d_Mod_sum_IIJJ_87 rfl) ?_
  refine xW_pure (fun _ _ _ _ _ => am_l2i d_Mod_sum_IIJJ_89 rfl) ?_
  refine xW_pure (fun _ _ _ _ _ => am_i2l d_Mod_sum_IIJJ_90 rfl) ?_
  refine xW_sL O d_Mod_sum_IIJJ_91 (fun s3 _ => ?_)
  refine xW_pure (fun _ _ _ _ _ => am_iconst (v := (-1)) d_Mod_sum_IIJJ_92 (by decide)) ?_
  exact xW_ret (fun _ _ _ _ _ => am_iret rfl d_Mod_sum_IIJJ_93)

set_option maxRecDepth 100000 in
def x_Mod_sum_IIJJ_b21 (d : Nat) (l0 : Nat) (l1 : Int32) (l2 : Int32) (l3 : Int64) (l5 : Int64) (s : HS) : Option (Int32 × HS) := if l1 = 43 then (x_Mod_sum_IIJJ_b77 d l0 l2 (l3 + l5) s) else (if l1 = 45 then (x_Mod_sum_IIJJ_b77 d l0 l2 (l3 - l5) s) else (if l1 = 42 then (x_Mod_sum_IIJJ_b77 d l0 l2 (l3 * l5) s) else (if l1 = 47 then (if l5 = 0 then none else (x_Mod_sum_IIJJ_b77 d l0 l2 (l3 / l5) s)) else (if l5 = 0 then none else (x_Mod_sum_IIJJ_b77 d l0 l2 (l3 - l3 / l5 * l5) s)))))

set_option maxRecDepth 100000 in
set_option maxHeartbeats 4000000 in
theorem dx_Mod_sum_IIJJ_b21 (O : am_ok K X) (T : am_T K) {d : Nat} {l0 : Nat} {l1 : Int32} {l2 : Int32} {l3 : Int64} {l5 : Int64} {s : HS} : xW cvI K X m_Mod_sum_IIJJ d 21 [(0, .ref l0), (1, .int l1), (2, .int l2), (3, .long l3), (5, .long l5)] [] s (x_Mod_sum_IIJJ_b21 d l0 l1 l2 l3 l5 s) := by
  unfold x_Mod_sum_IIJJ_b21
  refine xW_pure (fun _ _ _ _ _ => am_iload_n d_Mod_sum_IIJJ_21 rfl rfl) ?_
  refine xW_pure (fun _ _ _ _ _ => am_bipush (v := 43) d_Mod_sum_IIJJ_22 (by decide)) ?_
  refine xW_ite (fun _ _ _ _ _ k1 k2 => am_icmp_ne (tgt := 34) d_Mod_sum_IIJJ_24 (by decide) k2 k1) (fun _ => ?_) (fun _ => ?_)
  · refine xW_pure (fun _ _ _ _ _ => am_lload_n d_Mod_sum_IIJJ_27 rfl rfl) ?_
    refine xW_pure (fun _ _ _ _ _ => am_lload d_Mod_sum_IIJJ_28 rfl) ?_
    refine xW_pure (fun _ _ _ _ _ => am_ladd d_Mod_sum_IIJJ_30) ?_
    refine xW_pure (fun _ _ _ _ _ => am_goto (tgt := 77) d_Mod_sum_IIJJ_31 (by decide)) ?_
    refine xW_locs (lv' := [(0, .ref l0), (2, .int l2)]) rfl ?_
    exact dx_Mod_sum_IIJJ_b77 O T
  · refine xW_pure (fun _ _ _ _ _ => am_iload_n d_Mod_sum_IIJJ_34 rfl rfl) ?_
    refine xW_pure (fun _ _ _ _ _ => am_bipush (v := 45) d_Mod_sum_IIJJ_35 (by decide)) ?_
    refine xW_ite (fun _ _ _ _ _ k1 k2 => am_icmp_ne (tgt := 47) d_Mod_sum_IIJJ_37 (by decide) k2 k1) (fun _ => ?_) (fun _ => ?_)
    · refine xW_pure (fun _ _ _ _ _ => am_lload_n d_Mod_sum_IIJJ_40 rfl rfl) ?_
      refine xW_pure (fun _ _ _ _ _ => am_lload d_Mod_sum_IIJJ_41 rfl) ?_
      refine xW_pure (fun _ _ _ _ _ => am_lsub d_Mod_sum_IIJJ_43) ?_
      refine xW_pure (fun _ _ _ _ _ => am_goto (tgt := 77) d_Mod_sum_IIJJ_44 (by decide)) ?_
      refine xW_locs (lv' := [(0, .ref l0), (2, .int l2)]) rfl ?_
      exact dx_Mod_sum_IIJJ_b77 O T
    · refine xW_pure (fun _ _ _ _ _ => am_iload_n d_Mod_sum_IIJJ_47 rfl rfl) ?_
      refine xW_pure (fun _ _ _ _ _ => am_bipush (v := 42) d_Mod_sum_IIJJ_48 (by decide)) ?_
      refine xW_ite (fun _ _ _ _ _ k1 k2 => am_icmp_ne (tgt := 60) d_Mod_sum_IIJJ_50 (by decide) k2 k1) (fun _ => ?_) (fun _ => ?_)
      · refine xW_pure (fun _ _ _ _ _ => am_lload_n d_Mod_sum_IIJJ_53 rfl rfl) ?_
        refine xW_pure (fun _ _ _ _ _ => am_lload d_Mod_sum_IIJJ_54 rfl) ?_
        refine xW_pure (fun _ _ _ _ _ => am_lmul d_Mod_sum_IIJJ_56) ?_
        refine xW_pure (fun _ _ _ _ _ => am_goto (tgt := 77) d_Mod_sum_IIJJ_57 (by decide)) ?_
        refine xW_locs (lv' := [(0, .ref l0), (2, .int l2)]) rfl ?_
        exact dx_Mod_sum_IIJJ_b77 O T
      · refine xW_pure (fun _ _ _ _ _ => am_iload_n d_Mod_sum_IIJJ_60 rfl rfl) ?_
        refine xW_pure (fun _ _ _ _ _ => am_bipush (v := 47) d_Mod_sum_IIJJ_61 (by decide)) ?_
        refine xW_ite (fun _ _ _ _ _ k1 k2 => am_icmp_ne (tgt := 73) d_Mod_sum_IIJJ_63 (by decide) k2 k1) (fun _ => ?_) (fun _ => ?_)
        · refine xW_pure (fun _ _ _ _ _ => am_lload_n d_Mod_sum_IIJJ_66 rfl rfl) ?_
          refine xW_pure (fun _ _ _ _ _ => am_lload d_Mod_sum_IIJJ_67 rfl) ?_
          refine xW_by (fun _ => xW_none) (fun c69 => ?_)
          refine xW_pure (fun _ _ _ _ _ => am_ldiv d_Mod_sum_IIJJ_69 c69) ?_
          refine xW_pure (fun _ _ _ _ _ => am_goto (tgt := 77) d_Mod_sum_IIJJ_70 (by decide)) ?_
          refine xW_locs (lv' := [(0, .ref l0), (2, .int l2)]) rfl ?_
          exact dx_Mod_sum_IIJJ_b77 O T
        · refine xW_pure (fun _ _ _ _ _ => am_lload_n d_Mod_sum_IIJJ_73 rfl rfl) ?_
          refine xW_pure (fun _ _ _ _ _ => am_lload d_Mod_sum_IIJJ_74 rfl) ?_
          refine xW_by (fun _ => xW_none) (fun c76 => ?_)
          refine xW_pure (fun _ _ _ _ _ => am_lrem d_Mod_sum_IIJJ_76 c76) ?_
          refine xW_locs (lv' := [(0, .ref l0), (2, .int l2)]) rfl ?_
          exact dx_Mod_sum_IIJJ_b77 O T

set_option maxRecDepth 100000 in
def x_Mod_sum_IIJJ_b12 (d : Nat) (l0 : Nat) (l1 : Int32) (l2 : Int32) (l3 : Int64) (l5 : Int64) (s : HS) : Option (Int32 × HS) := if (lg_cmp l5 0) = 0 then (some (5, s)) else (x_Mod_sum_IIJJ_b21 d l0 l1 l2 l3 l5 s)

set_option maxRecDepth 100000 in
set_option maxHeartbeats 4000000 in
theorem dx_Mod_sum_IIJJ_b12 (O : am_ok K X) (T : am_T K) {d : Nat} {l0 : Nat} {l1 : Int32} {l2 : Int32} {l3 : Int64} {l5 : Int64} {s : HS} : xW cvI K X m_Mod_sum_IIJJ d 12 [(0, .ref l0), (1, .int l1), (2, .int l2), (3, .long l3), (5, .long l5)] [] s (x_Mod_sum_IIJJ_b12 d l0 l1 l2 l3 l5 s) := by
  unfold x_Mod_sum_IIJJ_b12
  refine xW_pure (fun _ _ _ _ _ => am_lload d_Mod_sum_IIJJ_12 rfl) ?_
  refine xW_pure (fun _ _ _ _ _ => am_lconst (v := 0) d_Mod_sum_IIJJ_14 (by decide)) ?_
  refine xW_pure (fun _ _ _ _ _ => am_lcmp d_Mod_sum_IIJJ_15) ?_
  refine xW_ite (fun _ _ _ _ _ k1 k2 => am_if_ne (tgt := 21) d_Mod_sum_IIJJ_16 (by decide) k2 k1) (fun _ => ?_) (fun _ => ?_)
  · refine xW_pure (fun _ _ _ _ _ => am_iconst (v := 5) d_Mod_sum_IIJJ_19 (by decide)) ?_
    exact xW_ret (fun _ _ _ _ _ => am_iret rfl d_Mod_sum_IIJJ_20)
  · refine xW_locs (lv' := [(0, .ref l0), (1, .int l1), (2, .int l2), (3, .long l3), (5, .long l5)]) rfl ?_
    exact dx_Mod_sum_IIJJ_b21 O T

set_option maxRecDepth 100000 in
def x_Mod_sum_IIJJ (d : Nat) (x0 : Nat) (x1 : Int32) (x2 : Int32) (x3 : Int64) (x4 : Int64) (s : HS) : Option (Int32 × HS) := gd s x0 14 (if x1 = 47 then (x_Mod_sum_IIJJ_b12 d x0 x1 x2 x3 x4 s) else (if x1 = 37 then (x_Mod_sum_IIJJ_b12 d x0 x1 x2 x3 x4 s) else (x_Mod_sum_IIJJ_b21 d x0 x1 x2 x3 x4 s)))

set_option maxRecDepth 100000 in
set_option maxHeartbeats 4000000 in
theorem dx_Mod_sum_IIJJ (O : am_ok K X) (T : am_T K) {d : Nat} {x0 : Nat} {x1 : Int32} {x2 : Int32} {x3 : Int64} {x4 : Int64} {s : HS} : xM cvI K X m_Mod_sum_IIJJ d [.ref x0, .int x1, .int x2, .long x3, .long x4] s (x_Mod_sum_IIJJ d x0 x1 x2 x3 x4 s) := by
  unfold x_Mod_sum_IIJJ
  refine xM_enter (by decide +kernel) (Nat.le_of_ble_eq_true rfl) ?_
  refine xW_gd (fun _ => ?_)
  refine xW_pure (fun _ _ _ _ _ => am_iload_n d_Mod_sum_IIJJ_0 rfl rfl) ?_
  refine xW_pure (fun _ _ _ _ _ => am_bipush (v := 47) d_Mod_sum_IIJJ_1 (by decide)) ?_
  refine xW_ite (fun _ _ _ _ _ => am_icmp_eq (tgt := 12) d_Mod_sum_IIJJ_3 (by decide)) (fun _ => ?_) (fun _ => ?_)
  · refine xW_locs (lv' := [(0, .ref x0), (1, .int x1), (2, .int x2), (3, .long x3), (5, .long x4)]) rfl ?_
    exact dx_Mod_sum_IIJJ_b12 O T
  · refine xW_pure (fun _ _ _ _ _ => am_iload_n d_Mod_sum_IIJJ_6 rfl rfl) ?_
    refine xW_pure (fun _ _ _ _ _ => am_bipush (v := 37) d_Mod_sum_IIJJ_7 (by decide)) ?_
    refine xW_ite (fun _ _ _ _ _ k1 k2 => am_icmp_ne (tgt := 21) d_Mod_sum_IIJJ_9 (by decide) k2 k1) (fun _ => ?_) (fun _ => ?_)
    · refine xW_locs (lv' := [(0, .ref x0), (1, .int x1), (2, .int x2), (3, .long x3), (5, .long x4)]) rfl ?_
      exact dx_Mod_sum_IIJJ_b12 O T
    · refine xW_locs (lv' := [(0, .ref x0), (1, .int x1), (2, .int x2), (3, .long x3), (5, .long x4)]) rfl ?_
      exact dx_Mod_sum_IIJJ_b21 O T

theorem ob_Mod_sum_IIJJ {d : Nat} {x0 : Nat} {x1 : Int32} {x2 : Int32} {x3 : Int64} {x4 : Int64} {s : HS} {y : Int32 × HS} (h : x_Mod_sum_IIJJ d x0 x1 x2 x3 x4 s = some y) : isO s x0 14 = true := (gd_spec h).1

set_option maxRecDepth 100000 in
def x_Mod_make (d : Nat) (x0 : Nat) (x1 : Int32) (s : HS) : Option (Int32 × HS) := gd s x0 14 ((gR s x0 14 31).bind fun v1 => ((gI s v1 13 8).bind fun v2 => (if v2 = 100 then (some ((-1), s)) else (loopK (fun (again16 : Int32 × HS → Option (Int32 × HS)) (z16 : Int32 × HS) => ((gR z16.2 x0 14 31).bind fun v3 => ((gR z16.2 v3 13 0).bind fun v4 => ((aI z16.2 v4 z16.1).bind fun v5 => (if v5 = 0 then ((gR z16.2 x0 14 31).bind fun v6 => ((gR z16.2 v6 13 0).bind fun v7 => ((sV z16.2 .int v7 z16.1 (.int x1)).bind fun s8 => ((gR s8 x0 14 31).bind fun v9 => ((gR s8 v9 13 1).bind fun v10 => ((sV s8 .int v10 z16.1 (.int 0)).bind fun s11 => ((gR s11 x0 14 31).bind fun v12 => ((gI s11 v12 13 8).bind fun v13 => ((pV s11 v12 13 8 (.int (v13 + 1))).bind fun s14 => (some (z16.1, s14))))))))))) else (again16 ((z16.1 + 1), z16.2))))))) FU (0, s)))))

set_option maxRecDepth 100000 in
set_option maxHeartbeats 4000000 in
theorem dx_Mod_make (O : am_ok K X) (T : am_T K) {d : Nat} {x0 : Nat} {x1 : Int32} {s : HS} : xM cvI K X m_Mod_make d [.ref x0, .int x1] s (x_Mod_make d x0 x1 s) := by
  unfold x_Mod_make
  refine xM_enter (by decide +kernel) (Nat.le_of_ble_eq_true rfl) ?_
  refine xW_gd (fun _ => ?_)
  refine xW_pure (fun _ _ _ _ _ => am_aload_n d_Mod_make_0 rfl rfl) ?_
  refine xW_gR O f_Mod_353 d_Mod_make_1 (fun v1 _ => ?_)
  refine xW_gI O f_Mod_578 d_Mod_make_4 (fun v2 _ => ?_)
  refine xW_pure (fun _ _ _ _ _ => am_bipush (v := 100) d_Mod_make_7 (by decide)) ?_
  refine xW_ite (fun _ _ _ _ _ k1 k2 => am_icmp_ne (tgt := 14) d_Mod_make_9 (by decide) k2 k1) (fun _ => ?_) (fun _ => ?_)
  · refine xW_pure (fun _ _ _ _ _ => am_iconst (v := (-1)) d_Mod_make_12 (by decide)) ?_
    exact xW_ret (fun _ _ _ _ _ => am_iret rfl d_Mod_make_13)
  · refine xW_pure (fun _ _ _ _ _ => am_iconst (v := 0) d_Mod_make_14 (by decide)) ?_
    refine xW_pure (fun _ _ _ _ _ => am_istore_n d_Mod_make_15 rfl (Nat.le_of_ble_eq_true rfl)) ?_
    refine xW_locs (lv' := [(0, .ref x0), (1, .int x1), (2, .int 0)]) rfl ?_
    refine xW_loop (lvf := fun (z16 : Int32 × HS) => [(0, .ref x0), (1, .int x1), (2, .int z16.1)]) (hsf := fun (z16 : Int32 × HS) => z16.2) (fun again16 ih16 z16 => ?_) FU (0, s)
    refine xW_pure (fun _ _ _ _ _ => am_aload_n d_Mod_make_16 rfl rfl) ?_
    refine xW_gR O f_Mod_353 d_Mod_make_17 (fun v3 _ => ?_)
    refine xW_gR O f_Mod_457 d_Mod_make_20 (fun v4 _ => ?_)
    refine xW_pure (fun _ _ _ _ _ => am_iload_n d_Mod_make_23 rfl rfl) ?_
    refine xW_aI O d_Mod_make_24 (fun v5 _ => ?_)
    refine xW_ite (fun _ _ _ _ _ => am_if_eq (tgt := 34) d_Mod_make_25 (by decide)) (fun _ => ?_) (fun _ => ?_)
    · refine xW_pure (fun _ _ _ _ _ => am_aload_n d_Mod_make_34 rfl rfl) ?_
      refine xW_gR O f_Mod_353 d_Mod_make_35 (fun v6 _ => ?_)
      refine xW_gR O f_Mod_457 d_Mod_make_38 (fun v7 _ => ?_)
      refine xW_pure (fun _ _ _ _ _ => am_iload_n d_Mod_make_41 rfl rfl) ?_
      refine xW_pure (fun _ _ _ _ _ => am_iload_n d_Mod_make_42 rfl rfl) ?_
      refine xW_sI O d_Mod_make_43 (fun s8 _ => ?_)
      refine xW_pure (fun _ _ _ _ _ => am_aload_n d_Mod_make_44 rfl rfl) ?_
      refine xW_gR O f_Mod_353 d_Mod_make_45 (fun v9 _ => ?_)
      refine xW_gR O f_Mod_558 d_Mod_make_48 (fun v10 _ => ?_)
      refine xW_pure (fun _ _ _ _ _ => am_iload_n d_Mod_make_51 rfl rfl) ?_
      refine xW_pure (fun _ _ _ _ _ => am_iconst (v := 0) d_Mod_make_52 (by decide)) ?_
      refine xW_sI O d_Mod_make_53 (fun s11 _ => ?_)
      refine xW_pure (fun _ _ _ _ _ => am_aload_n d_Mod_make_54 rfl rfl) ?_
      refine xW_gR O f_Mod_353 d_Mod_make_55 (fun v12 _ => ?_)
      refine xW_pure (fun _ _ _ _ _ => am_dup d_Mod_make_58 rfl) ?_
      refine xW_gI O f_Mod_578 d_Mod_make_59 (fun v13 _ => ?_)
      refine xW_pure (fun _ _ _ _ _ => am_iconst (v := 1) d_Mod_make_62 (by decide)) ?_
      refine xW_pure (fun _ _ _ _ _ => am_iadd d_Mod_make_63) ?_
      refine xW_put O f_Mod_578 d_Mod_make_64 (fun q hq => by cases hq; exact ⟨rfl, rfl, rfl⟩) (fun s14 _ => ?_)
      refine xW_pure (fun _ _ _ _ _ => am_iload_n d_Mod_make_67 rfl rfl) ?_
      exact xW_ret (fun _ _ _ _ _ => am_iret rfl d_Mod_make_68)
    · refine xW_pure (fun _ _ _ _ _ => am_iinc (v := 1) d_Mod_make_28 rfl (by decide) (Nat.le_of_ble_eq_true rfl)) ?_
      refine xW_pure (fun _ _ _ _ _ => am_goto (tgt := 16) d_Mod_make_31 (by decide)) ?_
      refine xW_locs (lv' := [(0, .ref x0), (1, .int x1), (2, .int (z16.1 + 1))]) rfl ?_
      exact ih16 ((z16.1 + 1), z16.2)

theorem ob_Mod_make {d : Nat} {x0 : Nat} {x1 : Int32} {s : HS} {y : Int32 × HS} (h : x_Mod_make d x0 x1 s = some y) : isO s x0 14 = true := (gd_spec h).1

set_option maxRecDepth 100000 in
def x_State_isSame_b35 (d : Nat) (l0 : Nat) (l1 : Int32) (l2 : Nat) (t0 : Int32) (s : HS) : Option (Int32 × HS) := loopK (fun (again39 : Int32 × Int32 × HS → Option (Int32 × HS)) (z39 : Int32 × Int32 × HS) => ((gR z39.2.2 l0 13 1).bind fun v9 => ((aI z39.2.2 v9 l1).bind fun v10 => (if v10 ≤ z39.2.1 then (okB z39.1 (some (z39.1, z39.2.2))) else (if z39.1 = 0 then (okB z39.1 (some (z39.1, z39.2.2))) else ((gR z39.2.2 l0 13 5).bind fun v11 => ((gR z39.2.2 l2 13 5).bind fun v12 => (bnd (x_Vals_isLike d v11 ((20 * l1) + z39.2.1) v12 ((20 * l1) + z39.2.1) z39.2.2) fun v14 s13 => (if v14 = 0 then (again39 (0, (z39.2.1 + 1), s13)) else ((gR s13 l0 13 0).bind fun v15 => ((aI s13 v15 l1).bind fun v16 => (if v16 = 4 then (again39 (1, (z39.2.1 + 1), s13)) else ((gR s13 l0 13 2).bind fun v17 => ((aL s13 v17 ((8 * l1) + z39.2.1)).bind fun v18 => ((gR s13 l2 13 2).bind fun v19 => ((aL s13 v19 ((8 * l1) + z39.2.1)).bind fun v20 => (if (lg_cmp v18 v20) = 0 then (again39 (1, (z39.2.1 + 1), s13)) else (again39 (0, (z39.2.1 + 1), s13))))))))))))))))))) FU (t0, 0, s)

set_option maxRecDepth 100000 in
set_option maxHeartbeats 4000000 in
theorem dx_State_isSame_b35 (O : am_ok K X) (T : am_T K) {d : Nat} {l0 : Nat} {l1 : Int32} {l2 : Nat} {t0 : Int32} {s : HS} : xW cvI K X m_State_isSame (d + 1) 35 [(0, .ref l0), (1, .int l1), (2, .ref l2)] [.int t0] s (x_State_isSame_b35 d l0 l1 l2 t0 s) := by
  unfold x_State_isSame_b35
  refine xW_pure (fun _ _ _ _ _ => am_istore_n d_State_isSame_35 rfl (Nat.le_of_ble_eq_true rfl)) ?_
  refine xW_pure (fun _ _ _ _ _ => am_iconst (v := 0) d_State_isSame_36 (by decide)) ?_
  refine xW_pure (fun _ _ _ _ _ => am_istore d_State_isSame_37 (Nat.le_of_ble_eq_true rfl)) ?_
  refine xW_locs (lv' := [(0, .ref l0), (1, .int l1), (2, .ref l2), (3, .int t0), (4, .int 0)]) rfl ?_
  refine xW_loop (lvf := fun (z39 : Int32 × Int32 × HS) => [(0, .ref l0), (1, .int l1), (2, .ref l2), (3, .int z39.1), (4, .int z39.2.1)]) (hsf := fun (z39 : Int32 × Int32 × HS) => z39.2.2) (fun again39 ih39 z39 => ?_) FU (t0, 0, s)
  refine xW_pure (fun _ _ _ _ _ => am_iload d_State_isSame_39 rfl) ?_
  refine xW_pure (fun _ _ _ _ _ => am_aload_n d_State_isSame_41 rfl rfl) ?_
  refine xW_gR O f_State_15 d_State_isSame_42 (fun v9 _ => ?_)
  refine xW_pure (fun _ _ _ _ _ => am_iload_n d_State_isSame_45 rfl rfl) ?_
  refine xW_aI O d_State_isSame_46 (fun v10 _ => ?_)
  refine xW_ite (fun _ _ _ _ _ => am_icmp_ge (tgt := 132) d_State_isSame_47 (by decide)) (fun _ => ?_) (fun _ => ?_)
  · refine xW_pure (fun _ _ _ _ _ => am_iload_n d_State_isSame_132 rfl rfl) ?_
    refine xW_okB (fun hz => ?_)
    exact xW_ret (fun _ _ _ _ _ => am_zret (ty := .boolean) rfl (bz_nar hz) d_State_isSame_133)
  · refine xW_pure (fun _ _ _ _ _ => am_iload_n d_State_isSame_50 rfl rfl) ?_
    refine xW_ite (fun _ _ _ _ _ => am_if_eq (tgt := 132) d_State_isSame_51 (by decide)) (fun _ => ?_) (fun _ => ?_)
    · refine xW_pure (fun _ _ _ _ _ => am_iload_n d_State_isSame_132 rfl rfl) ?_
      refine xW_okB (fun hz => ?_)
      exact xW_ret (fun _ _ _ _ _ => am_zret (ty := .boolean) rfl (bz_nar hz) d_State_isSame_133)
    · refine xW_pure (fun _ _ _ _ _ => am_aload_n d_State_isSame_54 rfl rfl) ?_
      refine xW_gR O f_State_33 d_State_isSame_55 (fun v11 _ => ?_)
      refine xW_pure (fun _ _ _ _ _ => am_bipush (v := 20) d_State_isSame_58 (by decide)) ?_
      refine xW_pure (fun _ _ _ _ _ => am_iload_n d_State_isSame_60 rfl rfl) ?_
      refine xW_pure (fun _ _ _ _ _ => am_imul d_State_isSame_61) ?_
      refine xW_pure (fun _ _ _ _ _ => am_iload d_State_isSame_62 rfl) ?_
      refine xW_pure (fun _ _ _ _ _ => am_iadd d_State_isSame_64) ?_
      refine xW_pure (fun _ _ _ _ _ => am_aload_n d_State_isSame_65 rfl rfl) ?_
      refine xW_gR O f_State_33 d_State_isSame_66 (fun v12 _ => ?_)
      refine xW_pure (fun _ _ _ _ _ => am_bipush (v := 20) d_State_isSame_69 (by decide)) ?_
      refine xW_pure (fun _ _ _ _ _ => am_iload_n d_State_isSame_71 rfl rfl) ?_
      refine xW_pure (fun _ _ _ _ _ => am_imul d_State_isSame_72) ?_
      refine xW_pure (fun _ _ _ _ _ => am_iload d_State_isSame_73 rfl) ?_
      refine xW_pure (fun _ _ _ _ _ => am_iadd d_State_isSame_75) ?_
      refine xW_callV O (dx_Vals_isLike O T) (fun _ e => ob_Vals_isLike e) rfl rfl rfl l_State_74 ⟨w_2109, w_2110⟩ rfl (Nat.le_of_ble_eq_true rfl) d_State_isSame_76 (fun v14 s13 _ => ?_)
      refine xW_ite (fun _ _ _ _ _ => am_if_eq (tgt := 124) d_State_isSame_79 (by decide)) (fun _ => ?_) (fun _ => ?_)
      · refine xW_pure (fun _ _ _ _ _ => am_iconst (v := 0) d_State_isSame_124 (by decide)) ?_
        refine xW_pure (fun _ _ _ _ _ => am_istore_n d_State_isSame_125 rfl (Nat.le_of_ble_eq_true rfl)) ?_
        refine xW_pure (fun _ _ _ _ _ => am_iinc (v := 1) d_State_isSame_126 rfl (by decide) (Nat.le_of_ble_eq_true rfl)) ?_
        refine xW_pure (fun _ _ _ _ _ => am_goto (tgt := 39) d_State_isSame_129 (by decide)) ?_
        refine xW_locs (lv' := [(0, .ref l0), (1, .int l1), (2, .ref l2), (3, .int 0), (4, .int (z39.2.1 + 1))]) rfl ?_
        exact ih39 (0, (z39.2.1 + 1), s13)
      · refine xW_pure (fun _ _ _ _ _ => am_aload_n d_State_isSame_82 rfl rfl) ?_
        refine xW_gR O f_State_9 d_State_isSame_83 (fun v15 _ => ?_)
        refine xW_pure (fun _ _ _ _ _ => am_iload_n d_State_isSame_86 rfl rfl) ?_
        refine xW_aI O d_State_isSame_87 (fun v16 _ => ?_)
        refine xW_pure (fun _ _ _ _ _ => am_iconst (v := 4) d_State_isSame_88 (by decide)) ?_
        refine xW_ite (fun _ _ _ _ _ => am_icmp_eq (tgt := 120) d_State_isSame_89 (by decide)) (fun _ => ?_) (fun _ => ?_)
        · refine xW_pure (fun _ _ _ _ _ => am_iconst (v := 1) d_State_isSame_120 (by decide)) ?_
          refine xW_pure (fun _ _ _ _ _ => am_goto (tgt := 125) d_State_isSame_121 (by decide)) ?_
          refine xW_pure (fun _ _ _ _ _ => am_istore_n d_State_isSame_125 rfl (Nat.le_of_ble_eq_true rfl)) ?_
          refine xW_pure (fun _ _ _ _ _ => am_iinc (v := 1) d_State_isSame_126 rfl (by decide) (Nat.le_of_ble_eq_true rfl)) ?_
          refine xW_pure (fun _ _ _ _ _ => am_goto (tgt := 39) d_State_isSame_129 (by decide)) ?_
          refine xW_locs (lv' := [(0, .ref l0), (1, .int l1), (2, .ref l2), (3, .int 1), (4, .int (z39.2.1 + 1))]) rfl ?_
          exact ih39 (1, (z39.2.1 + 1), s13)
        · refine xW_pure (fun _ _ _ _ _ => am_aload_n d_State_isSame_92 rfl rfl) ?_
          refine xW_gR O f_State_18 d_State_isSame_93 (fun v17 _ => ?_)
          refine xW_pure (fun _ _ _ _ _ => am_bipush (v := 8) d_State_isSame_96 (by decide)) ?_
          refine xW_pure (fun _ _ _ _ _ => am_iload_n d_State_isSame_98 rfl rfl) ?_
          refine xW_pure (fun _ _ _ _ _ => am_imul d_State_isSame_99) ?_
          refine xW_pure (fun _ _ _ _ _ => am_iload d_State_isSame_100 rfl) ?_
          refine xW_pure (fun _ _ _ _ _ => am_iadd d_State_isSame_102) ?_
          refine xW_aL O d_State_isSame_103 (fun v18 _ => ?_)
          refine xW_pure (fun _ _ _ _ _ => am_aload_n d_State_isSame_104 rfl rfl) ?_
          refine xW_gR O f_State_18 d_State_isSame_105 (fun v19 _ => ?_)
          refine xW_pure (fun _ _ _ _ _ => am_bipush (v := 8) d_State_isSame_108 (by decide)) ?_
          refine xW_pure (fun _ _ _ _ _ => am_iload_n d_State_isSame_110 rfl rfl) ?_
          refine xW_pure (fun _ _ _ _ _ => am_imul d_State_isSame_111) ?_
          refine xW_pure (fun _ _ _ _ _ => am_iload d_State_isSame_112 rfl) ?_
          refine xW_pure (fun _ _ _ _ _ => am_iadd d_State_isSame_114) ?_
          refine xW_aL O d_State_isSame_115 (fun v20 _ => ?_)
          refine xW_pure (fun _ _ _ _ _ => am_lcmp d_State_isSame_116) ?_
          refine xW_ite (fun _ _ _ _ _ k1 k2 => am_if_ne (tgt := 124) d_State_isSame_117 (by decide) k2 k1) (fun _ => ?_) (fun _ => ?_)
          · refine xW_pure (fun _ _ _ _ _ => am_iconst (v := 1) d_State_isSame_120 (by decide)) ?_
            refine xW_pure (fun _ _ _ _ _ => am_goto (tgt := 125) d_State_isSame_121 (by decide)) ?_
            refine xW_pure (fun _ _ _ _ _ => am_istore_n d_State_isSame_125 rfl (Nat.le_of_ble_eq_true rfl)) ?_
            refine xW_pure (fun _ _ _ _ _ => am_iinc (v := 1) d_State_isSame_126 rfl (by decide) (Nat.le_of_ble_eq_true rfl)) ?_
            refine xW_pure (fun _ _ _ _ _ => am_goto (tgt := 39) d_State_isSame_129 (by decide)) ?_
            refine xW_locs (lv' := [(0, .ref l0), (1, .int l1), (2, .ref l2), (3, .int 1), (4, .int (z39.2.1 + 1))]) rfl ?_
            exact ih39 (1, (z39.2.1 + 1), s13)
          · refine xW_pure (fun _ _ _ _ _ => am_iconst (v := 0) d_State_isSame_124 (by decide)) ?_
            refine xW_pure (fun _ _ _ _ _ => am_istore_n d_State_isSame_125 rfl (Nat.le_of_ble_eq_true rfl)) ?_
            refine xW_pure (fun _ _ _ _ _ => am_iinc (v := 1) d_State_isSame_126 rfl (by decide) (Nat.le_of_ble_eq_true rfl)) ?_
            refine xW_pure (fun _ _ _ _ _ => am_goto (tgt := 39) d_State_isSame_129 (by decide)) ?_
            refine xW_locs (lv' := [(0, .ref l0), (1, .int l1), (2, .ref l2), (3, .int 0), (4, .int (z39.2.1 + 1))]) rfl ?_
            exact ih39 (0, (z39.2.1 + 1), s13)

set_option maxRecDepth 100000 in
def x_State_isSame_b34 (d : Nat) (l0 : Nat) (l1 : Int32) (l2 : Nat) (s : HS) : Option (Int32 × HS) := x_State_isSame_b35 d l0 l1 l2 0 s

set_option maxRecDepth 100000 in
set_option maxHeartbeats 4000000 in
theorem dx_State_isSame_b34 (O : am_ok K X) (T : am_T K) {d : Nat} {l0 : Nat} {l1 : Int32} {l2 : Nat} {s : HS} : xW cvI K X m_State_isSame (d + 1) 34 [(0, .ref l0), (1, .int l1), (2, .ref l2)] [] s (x_State_isSame_b34 d l0 l1 l2 s) := by
  unfold x_State_isSame_b34
  refine xW_pure (fun _ _ _ _ _ => am_iconst (v := 0) d_State_isSame_34 (by decide)) ?_
  refine xW_locs (lv' := [(0, .ref l0), (1, .int l1), (2, .ref l2)]) rfl ?_
  exact dx_State_isSame_b35 O T

set_option maxRecDepth 100000 in
def x_State_isSame (d : Nat) (x0 : Nat) (x1 : Int32) (x2 : Nat) (s : HS) : Option (Int32 × HS) := match d with
  | 0 => none
  | d + 1 => gd s x0 13 ((gR s x0 13 0).bind fun v1 => ((aI s v1 x1).bind fun v2 => ((gR s x2 13 0).bind fun v3 => ((aI s v3 x1).bind fun v4 => (if v2 = v4 then ((gR s x0 13 1).bind fun v5 => ((aI s v5 x1).bind fun v6 => ((gR s x2 13 1).bind fun v7 => ((aI s v7 x1).bind fun v8 => (if v6 = v8 then (x_State_isSame_b35 d x0 x1 x2 1 s) else (x_State_isSame_b34 d x0 x1 x2 s)))))) else (x_State_isSame_b34 d x0 x1 x2 s))))))

set_option maxRecDepth 100000 in
set_option maxHeartbeats 4000000 in
theorem dx_State_isSame (O : am_ok K X) (T : am_T K) {d : Nat} {x0 : Nat} {x1 : Int32} {x2 : Nat} {s : HS} : xM cvI K X m_State_isSame d [.ref x0, .int x1, .ref x2] s (x_State_isSame d x0 x1 x2 s) := by
  cases d with
  | zero => exact xM_none
  | succ d =>
    unfold x_State_isSame
    refine xM_enter (by decide +kernel) (Nat.le_of_ble_eq_true rfl) ?_
    refine xW_gd (fun _ => ?_)
    refine xW_pure (fun _ _ _ _ _ => am_aload_n d_State_isSame_0 rfl rfl) ?_
    refine xW_gR O f_State_9 d_State_isSame_1 (fun v1 _ => ?_)
    refine xW_pure (fun _ _ _ _ _ => am_iload_n d_State_isSame_4 rfl rfl) ?_
    refine xW_aI O d_State_isSame_5 (fun v2 _ => ?_)
    refine xW_pure (fun _ _ _ _ _ => am_aload_n d_State_isSame_6 rfl rfl) ?_
    refine xW_gR O f_State_9 d_State_isSame_7 (fun v3 _ => ?_)
    refine xW_pure (fun _ _ _ _ _ => am_iload_n d_State_isSame_10 rfl rfl) ?_
    refine xW_aI O d_State_isSame_11 (fun v4 _ => ?_)
    refine xW_ite (fun _ _ _ _ _ k1 k2 => am_icmp_ne (tgt := 34) d_State_isSame_12 (by decide) k2 k1) (fun _ => ?_) (fun _ => ?_)
    · refine xW_pure (fun _ _ _ _ _ => am_aload_n d_State_isSame_15 rfl rfl) ?_
      refine xW_gR O f_State_15 d_State_isSame_16 (fun v5 _ => ?_)
      refine xW_pure (fun _ _ _ _ _ => am_iload_n d_State_isSame_19 rfl rfl) ?_
      refine xW_aI O d_State_isSame_20 (fun v6 _ => ?_)
      refine xW_pure (fun _ _ _ _ _ => am_aload_n d_State_isSame_21 rfl rfl) ?_
      refine xW_gR O f_State_15 d_State_isSame_22 (fun v7 _ => ?_)
      refine xW_pure (fun _ _ _ _ _ => am_iload_n d_State_isSame_25 rfl rfl) ?_
      refine xW_aI O d_State_isSame_26 (fun v8 _ => ?_)
      refine xW_ite (fun _ _ _ _ _ k1 k2 => am_icmp_ne (tgt := 34) d_State_isSame_27 (by decide) k2 k1) (fun _ => ?_) (fun _ => ?_)
      · refine xW_pure (fun _ _ _ _ _ => am_iconst (v := 1) d_State_isSame_30 (by decide)) ?_
        refine xW_pure (fun _ _ _ _ _ => am_goto (tgt := 35) d_State_isSame_31 (by decide)) ?_
        refine xW_locs (lv' := [(0, .ref x0), (1, .int x1), (2, .ref x2)]) rfl ?_
        exact dx_State_isSame_b35 O T
      · refine xW_locs (lv' := [(0, .ref x0), (1, .int x1), (2, .ref x2)]) rfl ?_
        exact dx_State_isSame_b34 O T
    · refine xW_locs (lv' := [(0, .ref x0), (1, .int x1), (2, .ref x2)]) rfl ?_
      exact dx_State_isSame_b34 O T

theorem ob_State_isSame {d : Nat} {x0 : Nat} {x1 : Int32} {x2 : Nat} {s : HS} {y : Int32 × HS} (h : x_State_isSame d x0 x1 x2 s = some y) : isO s x0 13 = true := by
  cases d with
  | zero => cases h
  | succ d => exact (gd_spec h).1

set_option maxRecDepth 100000 in
def x_Mod_reach (d : Nat) (x0 : Nat) (x1 : Int32) (x2 : Int64) (s : HS) : Option (Unit × HS) := gd s x0 14 (if x1 < 3 then (some ((), s)) else ((gR s x0 14 50).bind fun v1 => ((aZ s v1 (x2 : Int64).toInt32).bind fun v2 => (if v2 = 0 then ((gR s x0 14 50).bind fun v3 => ((sV s .boolean v3 (x2 : Int64).toInt32 (narrow .boolean (.int 1))).bind fun s4 => ((gR s4 x0 14 51).bind fun v5 => ((gI s4 x0 14 52).bind fun v6 => ((sV s4 .int v5 v6 (.int (x2 : Int64).toInt32)).bind fun s7 => ((gI s7 x0 14 52).bind fun v8 => ((pV s7 x0 14 52 (.int (v8 + 1))).bind fun s9 => (some ((), s9))))))))) else (some ((), s))))))

set_option maxRecDepth 100000 in
set_option maxHeartbeats 4000000 in
theorem dx_Mod_reach (O : am_ok K X) (T : am_T K) {d : Nat} {x0 : Nat} {x1 : Int32} {x2 : Int64} {s : HS} : xM cvU K X m_Mod_reach d [.ref x0, .int x1, .long x2] s (x_Mod_reach d x0 x1 x2 s) := by
  unfold x_Mod_reach
  refine xM_enter (by decide +kernel) (Nat.le_of_ble_eq_true rfl) ?_
  refine xW_gd (fun _ => ?_)
  refine xW_pure (fun _ _ _ _ _ => am_iload_n d_Mod_reach_0 rfl rfl) ?_
  refine xW_pure (fun _ _ _ _ _ => am_iconst (v := 3) d_Mod_reach_1 (by decide)) ?_
  refine xW_ite (fun _ _ _ _ _ => am_icmp_lt (tgt := 15) d_Mod_reach_2 (by decide)) (fun _ => ?_) (fun _ => ?_)
  · exact xW_ret (fun _ _ _ _ _ => am_vret rfl d_Mod_reach_15)
  · refine xW_pure (fun _ _ _ _ _ => am_aload_n d_Mod_reach_5 rfl rfl) ?_
    refine xW_gR O f_Mod_389 d_Mod_reach_6 (fun v1 _ => ?_)
    refine xW_pure (fun _ _ _ _ _ => am_lload_n d_Mod_reach_9 rfl rfl) ?_
    refine xW_pure (fun _ _ _ _ _ => am_l2i d_Mod_reach_10 rfl) ?_
    refine xW_aZ O d_Mod_reach_11 (fun v2 _ => ?_)
    refine xW_ite (fun _ _ _ _ _ => am_if_eq (tgt := 16) d_Mod_reach_12 (by decide)) (fun _ => ?_) (fun _ => ?_)
    · refine xW_pure (fun _ _ _ _ _ => am_aload_n d_Mod_reach_16 rfl rfl) ?_
      refine xW_gR O f_Mod_389 d_Mod_reach_17 (fun v3 _ => ?_)
      refine xW_pure (fun _ _ _ _ _ => am_lload_n d_Mod_reach_20 rfl rfl) ?_
      refine xW_pure (fun _ _ _ _ _ => am_l2i d_Mod_reach_21 rfl) ?_
      refine xW_pure (fun _ _ _ _ _ => am_iconst (v := 1) d_Mod_reach_22 (by decide)) ?_
      refine xW_sZ O d_Mod_reach_23 (fun s4 _ => ?_)
      refine xW_pure (fun _ _ _ _ _ => am_aload_n d_Mod_reach_24 rfl rfl) ?_
      refine xW_gR O f_Mod_393 d_Mod_reach_25 (fun v5 _ => ?_)
      refine xW_pure (fun _ _ _ _ _ => am_aload_n d_Mod_reach_28 rfl rfl) ?_
      refine xW_gI O f_Mod_604 d_Mod_reach_29 (fun v6 _ => ?_)
      refine xW_pure (fun _ _ _ _ _ => am_lload_n d_Mod_reach_32 rfl rfl) ?_
      refine xW_pure (fun _ _ _ _ _ => am_l2i d_Mod_reach_33 rfl) ?_
      refine xW_sI O d_Mod_reach_34 (fun s7 _ => ?_)
      refine xW_pure (fun _ _ _ _ _ => am_aload_n d_Mod_reach_35 rfl rfl) ?_
      refine xW_pure (fun _ _ _ _ _ => am_dup d_Mod_reach_36 rfl) ?_
      refine xW_gI O f_Mod_604 d_Mod_reach_37 (fun v8 _ => ?_)
      refine xW_pure (fun _ _ _ _ _ => am_iconst (v := 1) d_Mod_reach_40 (by decide)) ?_
      refine xW_pure (fun _ _ _ _ _ => am_iadd d_Mod_reach_41) ?_
      refine xW_put O f_Mod_604 d_Mod_reach_42 (fun q hq => by cases hq; exact ⟨rfl, rfl, rfl⟩) (fun s9 _ => ?_)
      exact xW_ret (fun _ _ _ _ _ => am_vret rfl d_Mod_reach_45)
    · exact xW_ret (fun _ _ _ _ _ => am_vret rfl d_Mod_reach_15)

theorem ob_Mod_reach {d : Nat} {x0 : Nat} {x1 : Int32} {x2 : Int64} {s : HS} {y : Unit × HS} (h : x_Mod_reach d x0 x1 x2 s = some y) : isO s x0 14 = true := (gd_spec h).1

set_option maxRecDepth 100000 in
def x_Mod_value_ (d : Nat) (x0 : Nat) (s : HS) : Option (Int64 × HS) := match d with
  | 0 => none
  | d + 1 => gd s x0 14 ((gR s x0 14 39).bind fun v1 => ((gR s v1 11 0).bind fun v2 => ((aI s v2 0).bind fun v3 => (if v3 = 0 then (some (1099511627776, s)) else (if v3 = 1 then ((gR s x0 14 39).bind fun v4 => ((gR s v4 11 2).bind fun v5 => ((aL s v5 0).bind fun v6 => (some (v6, s))))) else (if v3 = 2 then ((pV s x0 14 3 (.int 0)).bind fun s7 => (loopK (fun (again61 : Int32 × HS → Option (Int64 × HS)) (z61 : Int32 × HS) => ((gR z61.2 x0 14 39).bind fun v8 => ((gR z61.2 v8 11 1).bind fun v9 => ((aI z61.2 v9 0).bind fun v10 => (if v10 ≤ z61.1 then (some (1099511627777, z61.2)) else ((gR z61.2 x0 14 39).bind fun v11 => (bnd (x_Vals_sign d v11 0 z61.1 z61.2) fun v13 s12 => (bnd (x_Mod_say d x0 v13 s12) fun v15 s14 => (again61 ((z61.1 + 1), s14)))))))))) FU (0, s7))) else (if v3 = 3 then (some (1099511627778, s)) else (some (1099511627779, s)))))))))

set_option maxRecDepth 100000 in
set_option maxHeartbeats 4000000 in
theorem dx_Mod_value_ (O : am_ok K X) (T : am_T K) {d : Nat} {x0 : Nat} {s : HS} : xM cvL K X m_Mod_value_ d [.ref x0] s (x_Mod_value_ d x0 s) := by
  cases d with
  | zero => exact xM_none
  | succ d =>
    unfold x_Mod_value_
    refine xM_enter (by decide +kernel) (Nat.le_of_ble_eq_true rfl) ?_
    refine xW_gd (fun _ => ?_)
    refine xW_pure (fun _ _ _ _ _ => am_aload_n d_Mod_value__0 rfl rfl) ?_
    refine xW_gR O f_Mod_374 d_Mod_value__1 (fun v1 _ => ?_)
    refine xW_gR O f_Mod_515 d_Mod_value__4 (fun v2 _ => ?_)
    refine xW_pure (fun _ _ _ _ _ => am_iconst (v := 0) d_Mod_value__7 (by decide)) ?_
    refine xW_aI O d_Mod_value__8 (fun v3 _ => ?_)
    refine xW_by (fun c9_0 => ?_) (fun c9_0 => ?_)
    · refine xW_pure (fun _ _ _ _ _ => am_tableIn (off := 31) (tgt := 40) d_Mod_value__9 (by rw [c9_0]; decide) (by rw [c9_0]; decide) (by rw [c9_0]; rfl) (by decide)) ?_
      refine xW_pure (fun _ _ _ _ _ => am_ldc2 (v := 1099511627776) w_1823 d_Mod_value__40) ?_
      exact xW_ret (fun _ _ _ _ _ => am_lret rfl d_Mod_value__43)
    · refine xW_by (fun c9_1 => ?_) (fun c9_1 => ?_)
      · refine xW_pure (fun _ _ _ _ _ => am_tableIn (off := 35) (tgt := 44) d_Mod_value__9 (by rw [c9_1]; decide) (by rw [c9_1]; decide) (by rw [c9_1]; rfl) (by decide)) ?_
        refine xW_pure (fun _ _ _ _ _ => am_aload_n d_Mod_value__44 rfl rfl) ?_
        refine xW_gR O f_Mod_374 d_Mod_value__45 (fun v4 _ => ?_)
        refine xW_gR O f_Mod_508 d_Mod_value__48 (fun v5 _ => ?_)
        refine xW_pure (fun _ _ _ _ _ => am_iconst (v := 0) d_Mod_value__51 (by decide)) ?_
        refine xW_aL O d_Mod_value__52 (fun v6 _ => ?_)
        exact xW_ret (fun _ _ _ _ _ => am_lret rfl d_Mod_value__53)
      · refine xW_by (fun c9_2 => ?_) (fun c9_2 => ?_)
        · refine xW_pure (fun _ _ _ _ _ => am_tableIn (off := 45) (tgt := 54) d_Mod_value__9 (by rw [c9_2]; decide) (by rw [c9_2]; decide) (by rw [c9_2]; rfl) (by decide)) ?_
          refine xW_pure (fun _ _ _ _ _ => am_aload_n d_Mod_value__54 rfl rfl) ?_
          refine xW_pure (fun _ _ _ _ _ => am_iconst (v := 0) d_Mod_value__55 (by decide)) ?_
          refine xW_put O f_Mod_440 d_Mod_value__56 (fun q hq => by cases hq; exact ⟨rfl, rfl, rfl⟩) (fun s7 _ => ?_)
          refine xW_pure (fun _ _ _ _ _ => am_iconst (v := 0) d_Mod_value__59 (by decide)) ?_
          refine xW_pure (fun _ _ _ _ _ => am_istore_n d_Mod_value__60 rfl (Nat.le_of_ble_eq_true rfl)) ?_
          refine xW_locs (lv' := [(0, .ref x0), (1, .int 0)]) rfl ?_
          refine xW_loop (lvf := fun (z61 : Int32 × HS) => [(0, .ref x0), (1, .int z61.1)]) (hsf := fun (z61 : Int32 × HS) => z61.2) (fun again61 ih61 z61 => ?_) FU (0, s7)
          refine xW_pure (fun _ _ _ _ _ => am_iload_n d_Mod_value__61 rfl rfl) ?_
          refine xW_pure (fun _ _ _ _ _ => am_aload_n d_Mod_value__62 rfl rfl) ?_
          refine xW_gR O f_Mod_374 d_Mod_value__63 (fun v8 _ => ?_)
          refine xW_gR O f_Mod_565 d_Mod_value__66 (fun v9 _ => ?_)
          refine xW_pure (fun _ _ _ _ _ => am_iconst (v := 0) d_Mod_value__69 (by decide)) ?_
          refine xW_aI O d_Mod_value__70 (fun v10 _ => ?_)
          refine xW_ite (fun _ _ _ _ _ => am_icmp_ge (tgt := 94) d_Mod_value__71 (by decide)) (fun _ => ?_) (fun _ => ?_)
          · refine xW_pure (fun _ _ _ _ _ => am_ldc2 (v := 1099511627777) w_2165 d_Mod_value__94) ?_
            exact xW_ret (fun _ _ _ _ _ => am_lret rfl d_Mod_value__97)
          · refine xW_pure (fun _ _ _ _ _ => am_aload_n d_Mod_value__74 rfl rfl) ?_
            refine xW_pure (fun _ _ _ _ _ => am_aload_n d_Mod_value__75 rfl rfl) ?_
            refine xW_gR O f_Mod_374 d_Mod_value__76 (fun v11 _ => ?_)
            refine xW_pure (fun _ _ _ _ _ => am_iconst (v := 0) d_Mod_value__79 (by decide)) ?_
            refine xW_pure (fun _ _ _ _ _ => am_iload_n d_Mod_value__80 rfl rfl) ?_
            refine xW_callV O (dx_Vals_sign O T) (fun _ e => ob_Vals_sign e) rfl rfl rfl l_Mod_574 ⟨w_2073, w_2074⟩ rfl (Nat.le_of_ble_eq_true rfl) d_Mod_value__81 (fun v13 s12 _ => ?_)
            refine xW_callV O (dx_Mod_say O T) (fun _ e => ob_Mod_say e) rfl rfl rfl l_Mod_599 ⟨w_2069, w_127⟩ rfl (Nat.le_of_ble_eq_true rfl) d_Mod_value__84 (fun v15 s14 _ => ?_)
            refine xW_pure (fun _ _ _ _ _ => am_pop d_Mod_value__87 rfl) ?_
            refine xW_pure (fun _ _ _ _ _ => am_iinc (v := 1) d_Mod_value__88 rfl (by decide) (Nat.le_of_ble_eq_true rfl)) ?_
            refine xW_pure (fun _ _ _ _ _ => am_goto (tgt := 61) d_Mod_value__91 (by decide)) ?_
            refine xW_locs (lv' := [(0, .ref x0), (1, .int (z61.1 + 1))]) rfl ?_
            exact ih61 ((z61.1 + 1), s14)
        · refine xW_by (fun c9_3 => ?_) (fun c9_3 => ?_)
          · refine xW_pure (fun _ _ _ _ _ => am_tableIn (off := 89) (tgt := 98) d_Mod_value__9 (by rw [c9_3]; decide) (by rw [c9_3]; decide) (by rw [c9_3]; rfl) (by decide)) ?_
            refine xW_pure (fun _ _ _ _ _ => am_ldc2 (v := 1099511627778) w_2166 d_Mod_value__98) ?_
            exact xW_ret (fun _ _ _ _ _ => am_lret rfl d_Mod_value__101)
          · have e9_0 := lk_ne c9_0 (show (0 : Int32).toInt = 0 by decide)
            have e9_1 := lk_ne c9_1 (show (1 : Int32).toInt = 1 by decide)
            have e9_2 := lk_ne c9_2 (show (2 : Int32).toInt = 2 by decide)
            have e9_3 := lk_ne c9_3 (show (3 : Int32).toInt = 3 by decide)
            refine xW_pure (fun _ _ _ _ _ => am_tableOut (tgt := 102) d_Mod_value__9 (by omega) (by decide)) ?_
            refine xW_pure (fun _ _ _ _ _ => am_ldc2 (v := 1099511627779) w_2167 d_Mod_value__102) ?_
            exact xW_ret (fun _ _ _ _ _ => am_lret rfl d_Mod_value__105)

theorem ob_Mod_value_ {d : Nat} {x0 : Nat} {s : HS} {y : Int64 × HS} (h : x_Mod_value_ d x0 s = some y) : isO s x0 14 = true := by
  cases d with
  | zero => cases h
  | succ d => exact (gd_spec h).1
end
