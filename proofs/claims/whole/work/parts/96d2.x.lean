section
variable {K : am_K} {X : Nat → am_C}
set_option maxRecDepth 100000 in
def x_Mod_bad (d : Nat) (x0 : Nat) (s : HS) : Option (Int32 × HS) := gd s x0 14 ((gI s x0 14 9).bind fun v1 => (if 0 ≤ v1 then (some (0, s)) else ((gI s x0 14 7).bind fun v2 => ((pV s x0 14 9 (.int v2)).bind fun s3 => (some (0, s3))))))

set_option maxRecDepth 100000 in
set_option maxHeartbeats 4000000 in
theorem dx_Mod_bad (O : am_ok K X) (T : am_T K) {d : Nat} {x0 : Nat} {s : HS} : xM cvI K X m_Mod_bad d [.ref x0] s (x_Mod_bad d x0 s) := by
  unfold x_Mod_bad
  refine xM_enter (by decide +kernel) (Nat.le_of_ble_eq_true rfl) ?_
  refine xW_gd (fun _ => ?_)
  refine xW_pure (fun _ _ _ _ _ => am_aload_n d_Mod_bad_0 rfl rfl) ?_
  refine xW_gI O f_Mod_77 d_Mod_bad_1 (fun v1 _ => ?_)
  refine xW_ite (fun _ _ _ _ _ => am_if_ge (tgt := 15) d_Mod_bad_4 (by decide)) (fun _ => ?_) (fun _ => ?_)
  · refine xW_pure (fun _ _ _ _ _ => am_iconst (v := 0) d_Mod_bad_15 (by decide)) ?_
    exact xW_ret (fun _ _ _ _ _ => am_zret (ty := .boolean) rfl rfl d_Mod_bad_16)
  · refine xW_pure (fun _ _ _ _ _ => am_aload_n d_Mod_bad_7 rfl rfl) ?_
    refine xW_pure (fun _ _ _ _ _ => am_aload_n d_Mod_bad_8 rfl rfl) ?_
    refine xW_gI O f_Mod_9 d_Mod_bad_9 (fun v2 _ => ?_)
    refine xW_put O f_Mod_77 d_Mod_bad_12 (fun q hq => by cases hq; exact ⟨rfl, rfl, rfl⟩) (fun s3 _ => ?_)
    refine xW_pure (fun _ _ _ _ _ => am_iconst (v := 0) d_Mod_bad_15 (by decide)) ?_
    exact xW_ret (fun _ _ _ _ _ => am_zret (ty := .boolean) rfl rfl d_Mod_bad_16)

theorem ob_Mod_bad {d : Nat} {x0 : Nat} {s : HS} {y : Int32 × HS} (h : x_Mod_bad d x0 s = some y) : isO s x0 14 = true := (gd_spec h).1

set_option maxRecDepth 100000 in
def x_Mod_name (d : Nat) (x0 : Nat) (s : HS) : Option (Int64 × HS) := gd s x0 14 ((gI s x0 14 7).bind fun v1 => (loopK (fun (again7 : Int64 × Int32 × HS → Option (Int64 × HS)) (z7 : Int64 × Int32 × HS) => ((gI z7.2.2 x0 14 8).bind fun v2 => (if v2 ≤ z7.2.1 then (some (z7.1, z7.2.2)) else ((gR z7.2.2 x0 14 0).bind fun v3 => ((aB z7.2.2 v3 z7.2.1).bind fun v4 => (again7 ((((z7.1 : Int64) <<< ((8 : Int32).toInt64 &&& 63)) ||| (v4 : Int32).toInt64), (z7.2.1 + 1), z7.2.2))))))) FU (0, v1, s)))

set_option maxRecDepth 100000 in
set_option maxHeartbeats 4000000 in
theorem dx_Mod_name (O : am_ok K X) (T : am_T K) {d : Nat} {x0 : Nat} {s : HS} : xM cvL K X m_Mod_name d [.ref x0] s (x_Mod_name d x0 s) := by
  unfold x_Mod_name
  refine xM_enter (by decide +kernel) (Nat.le_of_ble_eq_true rfl) ?_
  refine xW_gd (fun _ => ?_)
  refine xW_pure (fun _ _ _ _ _ => am_lconst (v := 0) d_Mod_name_0 (by decide)) ?_
  refine xW_pure (fun _ _ _ _ _ => am_lstore_n d_Mod_name_1 rfl (Nat.le_of_ble_eq_true rfl)) ?_
  refine xW_pure (fun _ _ _ _ _ => am_aload_n d_Mod_name_2 rfl rfl) ?_
  refine xW_gI O f_Mod_9 d_Mod_name_3 (fun v1 _ => ?_)
  refine xW_pure (fun _ _ _ _ _ => am_istore_n d_Mod_name_6 rfl (Nat.le_of_ble_eq_true rfl)) ?_
  refine xW_locs (lv' := [(0, .ref x0), (1, .long 0), (3, .int v1)]) rfl ?_
  refine xW_loop (lvf := fun (z7 : Int64 × Int32 × HS) => [(0, .ref x0), (1, .long z7.1), (3, .int z7.2.1)]) (hsf := fun (z7 : Int64 × Int32 × HS) => z7.2.2) (fun again7 ih7 z7 => ?_) FU (0, v1, s)
  refine xW_pure (fun _ _ _ _ _ => am_iload_n d_Mod_name_7 rfl rfl) ?_
  refine xW_pure (fun _ _ _ _ _ => am_aload_n d_Mod_name_8 rfl rfl) ?_
  refine xW_gI O f_Mod_74 d_Mod_name_9 (fun v2 _ => ?_)
  refine xW_ite (fun _ _ _ _ _ => am_icmp_ge (tgt := 34) d_Mod_name_12 (by decide)) (fun _ => ?_) (fun _ => ?_)
  · refine xW_pure (fun _ _ _ _ _ => am_lload_n d_Mod_name_34 rfl rfl) ?_
    exact xW_ret (fun _ _ _ _ _ => am_lret rfl d_Mod_name_35)
  · refine xW_pure (fun _ _ _ _ _ => am_lload_n d_Mod_name_15 rfl rfl) ?_
    refine xW_pure (fun _ _ _ _ _ => am_bipush (v := 8) d_Mod_name_16 (by decide)) ?_
    refine xW_pure (fun _ _ _ _ _ => am_lshl d_Mod_name_18 rfl) ?_
    refine xW_pure (fun _ _ _ _ _ => am_aload_n d_Mod_name_19 rfl rfl) ?_
    refine xW_gR O f_Mod_22 d_Mod_name_20 (fun v3 _ => ?_)
    refine xW_pure (fun _ _ _ _ _ => am_iload_n d_Mod_name_23 rfl rfl) ?_
    refine xW_aB O d_Mod_name_24 (fun v4 _ => ?_)
    refine xW_pure (fun _ _ _ _ _ => am_i2l d_Mod_name_25 rfl) ?_
    refine xW_pure (fun _ _ _ _ _ => am_lor d_Mod_name_26) ?_
    refine xW_pure (fun _ _ _ _ _ => am_lstore_n d_Mod_name_27 rfl (Nat.le_of_ble_eq_true rfl)) ?_
    refine xW_pure (fun _ _ _ _ _ => am_iinc (v := 1) d_Mod_name_28 rfl (by decide) (Nat.le_of_ble_eq_true rfl)) ?_
    refine xW_pure (fun _ _ _ _ _ => am_goto (tgt := 7) d_Mod_name_31 (by decide)) ?_
    refine xW_locs (lv' := [(0, .ref x0), (1, .long (((z7.1 : Int64) <<< ((8 : Int32).toInt64 &&& 63)) ||| (v4 : Int32).toInt64)), (3, .int (z7.2.1 + 1))]) rfl ?_
    exact ih7 ((((z7.1 : Int64) <<< ((8 : Int32).toInt64 &&& 63)) ||| (v4 : Int32).toInt64), (z7.2.1 + 1), z7.2.2)

theorem ob_Mod_name {d : Nat} {x0 : Nat} {s : HS} {y : Int64 × HS} (h : x_Mod_name d x0 s = some y) : isO s x0 14 = true := (gd_spec h).1

set_option maxRecDepth 100000 in
def x_Mod_localOf (d : Nat) (x0 : Nat) (x1 : Int64) (s : HS) : Option (Int32 × HS) := gd s x0 14 ((gI s x0 14 24).bind fun v1 => (loopK (fun (again7 : Int32 × HS → Option (Int32 × HS)) (z7 : Int32 × HS) => (if z7.1 < 0 then (some ((-1), z7.2)) else ((gR z7.2 x0 14 23).bind fun v2 => ((aL z7.2 v2 z7.1).bind fun v3 => (if (lg_cmp v3 x1) = 0 then (some (z7.1, z7.2)) else (again7 ((z7.1 + (-1)), z7.2))))))) FU ((v1 - 1), s)))

set_option maxRecDepth 100000 in
set_option maxHeartbeats 4000000 in
theorem dx_Mod_localOf (O : am_ok K X) (T : am_T K) {d : Nat} {x0 : Nat} {x1 : Int64} {s : HS} : xM cvI K X m_Mod_localOf d [.ref x0, .long x1] s (x_Mod_localOf d x0 x1 s) := by
  unfold x_Mod_localOf
  refine xM_enter (by decide +kernel) (Nat.le_of_ble_eq_true rfl) ?_
  refine xW_gd (fun _ => ?_)
  refine xW_pure (fun _ _ _ _ _ => am_aload_n d_Mod_localOf_0 rfl rfl) ?_
  refine xW_gI O f_Mod_123 d_Mod_localOf_1 (fun v1 _ => ?_)
  refine xW_pure (fun _ _ _ _ _ => am_iconst (v := 1) d_Mod_localOf_4 (by decide)) ?_
  refine xW_pure (fun _ _ _ _ _ => am_isub d_Mod_localOf_5) ?_
  refine xW_pure (fun _ _ _ _ _ => am_istore_n d_Mod_localOf_6 rfl (Nat.le_of_ble_eq_true rfl)) ?_
  refine xW_locs (lv' := [(0, .ref x0), (1, .long x1), (3, .int (v1 - 1))]) rfl ?_
  refine xW_loop (lvf := fun (z7 : Int32 × HS) => [(0, .ref x0), (1, .long x1), (3, .int z7.1)]) (hsf := fun (z7 : Int32 × HS) => z7.2) (fun again7 ih7 z7 => ?_) FU ((v1 - 1), s)
  refine xW_pure (fun _ _ _ _ _ => am_iload_n d_Mod_localOf_7 rfl rfl) ?_
  refine xW_ite (fun _ _ _ _ _ => am_if_lt (tgt := 30) d_Mod_localOf_8 (by decide)) (fun _ => ?_) (fun _ => ?_)
  · refine xW_pure (fun _ _ _ _ _ => am_iconst (v := (-1)) d_Mod_localOf_30 (by decide)) ?_
    exact xW_ret (fun _ _ _ _ _ => am_iret rfl d_Mod_localOf_31)
  · refine xW_pure (fun _ _ _ _ _ => am_aload_n d_Mod_localOf_11 rfl rfl) ?_
    refine xW_gR O f_Mod_126 d_Mod_localOf_12 (fun v2 _ => ?_)
    refine xW_pure (fun _ _ _ _ _ => am_iload_n d_Mod_localOf_15 rfl rfl) ?_
    refine xW_aL O d_Mod_localOf_16 (fun v3 _ => ?_)
    refine xW_pure (fun _ _ _ _ _ => am_lload_n d_Mod_localOf_17 rfl rfl) ?_
    refine xW_pure (fun _ _ _ _ _ => am_lcmp d_Mod_localOf_18) ?_
    refine xW_ite (fun _ _ _ _ _ k1 k2 => am_if_ne (tgt := 24) d_Mod_localOf_19 (by decide) k2 k1) (fun _ => ?_) (fun _ => ?_)
    · refine xW_pure (fun _ _ _ _ _ => am_iload_n d_Mod_localOf_22 rfl rfl) ?_
      exact xW_ret (fun _ _ _ _ _ => am_iret rfl d_Mod_localOf_23)
    · refine xW_pure (fun _ _ _ _ _ => am_iinc (v := (-1)) d_Mod_localOf_24 rfl (by decide) (Nat.le_of_ble_eq_true rfl)) ?_
      refine xW_pure (fun _ _ _ _ _ => am_goto (tgt := 7) d_Mod_localOf_27 (by decide)) ?_
      refine xW_locs (lv' := [(0, .ref x0), (1, .long x1), (3, .int (z7.1 + (-1)))]) rfl ?_
      exact ih7 ((z7.1 + (-1)), z7.2)

theorem ob_Mod_localOf {d : Nat} {x0 : Nat} {x1 : Int64} {s : HS} {y : Int32 × HS} (h : x_Mod_localOf d x0 x1 s = some y) : isO s x0 14 = true := (gd_spec h).1

set_option maxRecDepth 100000 in
def x_Mod_let (d : Nat) (x0 : Nat) (x1 : Int64) (s : HS) : Option (Int32 × HS) := match d with
  | 0 => none
  | d + 1 => gd s x0 14 (bnd (x_Mod_localOf d x0 x1 s) fun v2 s1 => (if v2 < 0 then ((gR s1 x0 14 23).bind fun v3 => ((gI s1 x0 14 24).bind fun v4 => ((sV s1 .long v3 v4 (.long x1)).bind fun s5 => ((gI s5 x0 14 24).bind fun v6 => ((pV s5 x0 14 24 (.int (v6 + 1))).bind fun s7 => ((gI s7 x0 14 24).bind fun v8 => (some ((v8 - 1), s7)))))))) else (some (v2, s1))))

set_option maxRecDepth 100000 in
set_option maxHeartbeats 4000000 in
theorem dx_Mod_let (O : am_ok K X) (T : am_T K) {d : Nat} {x0 : Nat} {x1 : Int64} {s : HS} : xM cvI K X m_Mod_let d [.ref x0, .long x1] s (x_Mod_let d x0 x1 s) := by
  cases d with
  | zero => exact xM_none
  | succ d =>
    unfold x_Mod_let
    refine xM_enter (by decide +kernel) (Nat.le_of_ble_eq_true rfl) ?_
    refine xW_gd (fun _ => ?_)
    refine xW_pure (fun _ _ _ _ _ => am_aload_n d_Mod_let_0 rfl rfl) ?_
    refine xW_pure (fun _ _ _ _ _ => am_lload_n d_Mod_let_1 rfl rfl) ?_
    refine xW_callV O (dx_Mod_localOf O T) (fun _ e => ob_Mod_localOf e) rfl rfl rfl l_Mod_130 ⟨w_1857, w_91⟩ rfl (Nat.le_of_ble_eq_true rfl) d_Mod_let_2 (fun v2 s1 _ => ?_)
    refine xW_pure (fun _ _ _ _ _ => am_istore_n d_Mod_let_5 rfl (Nat.le_of_ble_eq_true rfl)) ?_
    refine xW_pure (fun _ _ _ _ _ => am_iload_n d_Mod_let_6 rfl rfl) ?_
    refine xW_ite (fun _ _ _ _ _ => am_if_lt (tgt := 12) d_Mod_let_7 (by decide)) (fun _ => ?_) (fun _ => ?_)
    · refine xW_pure (fun _ _ _ _ _ => am_aload_n d_Mod_let_12 rfl rfl) ?_
      refine xW_gR O f_Mod_126 d_Mod_let_13 (fun v3 _ => ?_)
      refine xW_pure (fun _ _ _ _ _ => am_aload_n d_Mod_let_16 rfl rfl) ?_
      refine xW_gI O f_Mod_123 d_Mod_let_17 (fun v4 _ => ?_)
      refine xW_pure (fun _ _ _ _ _ => am_lload_n d_Mod_let_20 rfl rfl) ?_
      refine xW_sL O d_Mod_let_21 (fun s5 _ => ?_)
      refine xW_pure (fun _ _ _ _ _ => am_aload_n d_Mod_let_22 rfl rfl) ?_
      refine xW_pure (fun _ _ _ _ _ => am_dup d_Mod_let_23 rfl) ?_
      refine xW_gI O f_Mod_123 d_Mod_let_24 (fun v6 _ => ?_)
      refine xW_pure (fun _ _ _ _ _ => am_iconst (v := 1) d_Mod_let_27 (by decide)) ?_
      refine xW_pure (fun _ _ _ _ _ => am_iadd d_Mod_let_28) ?_
      refine xW_put O f_Mod_123 d_Mod_let_29 (fun q hq => by cases hq; exact ⟨rfl, rfl, rfl⟩) (fun s7 _ => ?_)
      refine xW_pure (fun _ _ _ _ _ => am_aload_n d_Mod_let_32 rfl rfl) ?_
      refine xW_gI O f_Mod_123 d_Mod_let_33 (fun v8 _ => ?_)
      refine xW_pure (fun _ _ _ _ _ => am_iconst (v := 1) d_Mod_let_36 (by decide)) ?_
      refine xW_pure (fun _ _ _ _ _ => am_isub d_Mod_let_37) ?_
      exact xW_ret (fun _ _ _ _ _ => am_iret rfl d_Mod_let_38)
    · refine xW_pure (fun _ _ _ _ _ => am_iload_n d_Mod_let_10 rfl rfl) ?_
      exact xW_ret (fun _ _ _ _ _ => am_iret rfl d_Mod_let_11)

theorem ob_Mod_let {d : Nat} {x0 : Nat} {x1 : Int64} {s : HS} {y : Int32 × HS} (h : x_Mod_let d x0 x1 s = some y) : isO s x0 14 = true := by
  cases d with
  | zero => cases h
  | succ d => exact (gd_spec h).1

set_option maxRecDepth 100000 in
def x_Mod_put_I (d : Nat) (x0 : Nat) (x1 : Int32) (s : HS) : Option (Int32 × HS) := gd s x0 14 ((gR s x0 14 22).bind fun v1 => ((gR s v1 12 0).bind fun v2 => ((gR s x0 14 22).bind fun v3 => ((gI s v3 12 2).bind fun v4 => ((sV s .int v2 v4 (.int x1)).bind fun s5 => ((gR s5 x0 14 22).bind fun v6 => ((gI s5 v6 12 2).bind fun v7 => ((pV s5 v6 12 2 (.int (v7 + 1))).bind fun s8 => ((gR s8 x0 14 22).bind fun v9 => ((gI s8 v9 12 2).bind fun v10 => (some ((v10 - 1), s8))))))))))))

set_option maxRecDepth 100000 in
set_option maxHeartbeats 4000000 in
theorem dx_Mod_put_I (O : am_ok K X) (T : am_T K) {d : Nat} {x0 : Nat} {x1 : Int32} {s : HS} : xM cvI K X m_Mod_put_I d [.ref x0, .int x1] s (x_Mod_put_I d x0 x1 s) := by
  unfold x_Mod_put_I
  refine xM_enter (by decide +kernel) (Nat.le_of_ble_eq_true rfl) ?_
  refine xW_gd (fun _ => ?_)
  refine xW_pure (fun _ _ _ _ _ => am_aload_n d_Mod_put_I_0 rfl rfl) ?_
  refine xW_gR O f_Mod_91 d_Mod_put_I_1 (fun v1 _ => ?_)
  refine xW_gR O f_Mod_95 d_Mod_put_I_4 (fun v2 _ => ?_)
  refine xW_pure (fun _ _ _ _ _ => am_aload_n d_Mod_put_I_7 rfl rfl) ?_
  refine xW_gR O f_Mod_91 d_Mod_put_I_8 (fun v3 _ => ?_)
  refine xW_gI O f_Mod_100 d_Mod_put_I_11 (fun v4 _ => ?_)
  refine xW_pure (fun _ _ _ _ _ => am_iload_n d_Mod_put_I_14 rfl rfl) ?_
  refine xW_sI O d_Mod_put_I_15 (fun s5 _ => ?_)
  refine xW_pure (fun _ _ _ _ _ => am_aload_n d_Mod_put_I_16 rfl rfl) ?_
  refine xW_gR O f_Mod_91 d_Mod_put_I_17 (fun v6 _ => ?_)
  refine xW_pure (fun _ _ _ _ _ => am_dup d_Mod_put_I_20 rfl) ?_
  refine xW_gI O f_Mod_100 d_Mod_put_I_21 (fun v7 _ => ?_)
  refine xW_pure (fun _ _ _ _ _ => am_iconst (v := 1) d_Mod_put_I_24 (by decide)) ?_
  refine xW_pure (fun _ _ _ _ _ => am_iadd d_Mod_put_I_25) ?_
  refine xW_put O f_Mod_100 d_Mod_put_I_26 (fun q hq => by cases hq; exact ⟨rfl, rfl, rfl⟩) (fun s8 _ => ?_)
  refine xW_pure (fun _ _ _ _ _ => am_aload_n d_Mod_put_I_29 rfl rfl) ?_
  refine xW_gR O f_Mod_91 d_Mod_put_I_30 (fun v9 _ => ?_)
  refine xW_gI O f_Mod_100 d_Mod_put_I_33 (fun v10 _ => ?_)
  refine xW_pure (fun _ _ _ _ _ => am_iconst (v := 1) d_Mod_put_I_36 (by decide)) ?_
  refine xW_pure (fun _ _ _ _ _ => am_isub d_Mod_put_I_37) ?_
  exact xW_ret (fun _ _ _ _ _ => am_iret rfl d_Mod_put_I_38)

theorem ob_Mod_put_I {d : Nat} {x0 : Nat} {x1 : Int32} {s : HS} {y : Int32 × HS} (h : x_Mod_put_I d x0 x1 s = some y) : isO s x0 14 = true := (gd_spec h).1

set_option maxRecDepth 100000 in
def x_Vals_set (d : Nat) (x0 : Nat) (x1 : Int32) (x2 : Int32) (x3 : Int32) (x4 : Int64) (x5 : Int64) (s : HS) : Option (Unit × HS) := gd s x0 11 ((gR s x0 11 0).bind fun v1 => ((sV s .int v1 x1 (.int x2)).bind fun s2 => ((gR s2 x0 11 1).bind fun v3 => ((sV s2 .int v3 x1 (.int x3)).bind fun s4 => ((gR s4 x0 11 2).bind fun v5 => ((sV s4 .long v5 x1 (.long x4)).bind fun s6 => ((gR s6 x0 11 3).bind fun v7 => ((sV s6 .long v7 x1 (.long x5)).bind fun s8 => (some ((), s8))))))))))

set_option maxRecDepth 100000 in
set_option maxHeartbeats 4000000 in
theorem dx_Vals_set (O : am_ok K X) (T : am_T K) {d : Nat} {x0 : Nat} {x1 : Int32} {x2 : Int32} {x3 : Int32} {x4 : Int64} {x5 : Int64} {s : HS} : xM cvU K X m_Vals_set d [.ref x0, .int x1, .int x2, .int x3, .long x4, .long x5] s (x_Vals_set d x0 x1 x2 x3 x4 x5 s) := by
  unfold x_Vals_set
  refine xM_enter (by decide +kernel) (Nat.le_of_ble_eq_true rfl) ?_
  refine xW_gd (fun _ => ?_)
  refine xW_pure (fun _ _ _ _ _ => am_aload_n d_Vals_set_0 rfl rfl) ?_
  refine xW_gR O f_Vals_7 d_Vals_set_1 (fun v1 _ => ?_)
  refine xW_pure (fun _ _ _ _ _ => am_iload_n d_Vals_set_4 rfl rfl) ?_
  refine xW_pure (fun _ _ _ _ _ => am_iload_n d_Vals_set_5 rfl rfl) ?_
  refine xW_sI O d_Vals_set_6 (fun s2 _ => ?_)
  refine xW_pure (fun _ _ _ _ _ => am_aload_n d_Vals_set_7 rfl rfl) ?_
  refine xW_gR O f_Vals_13 d_Vals_set_8 (fun v3 _ => ?_)
  refine xW_pure (fun _ _ _ _ _ => am_iload_n d_Vals_set_11 rfl rfl) ?_
  refine xW_pure (fun _ _ _ _ _ => am_iload_n d_Vals_set_12 rfl rfl) ?_
  refine xW_sI O d_Vals_set_13 (fun s4 _ => ?_)
  refine xW_pure (fun _ _ _ _ _ => am_aload_n d_Vals_set_14 rfl rfl) ?_
  refine xW_gR O f_Vals_16 d_Vals_set_15 (fun v5 _ => ?_)
  refine xW_pure (fun _ _ _ _ _ => am_iload_n d_Vals_set_18 rfl rfl) ?_
  refine xW_pure (fun _ _ _ _ _ => am_lload d_Vals_set_19 rfl) ?_
  refine xW_sL O d_Vals_set_21 (fun s6 _ => ?_)
  refine xW_pure (fun _ _ _ _ _ => am_aload_n d_Vals_set_22 rfl rfl) ?_
  refine xW_gR O f_Vals_20 d_Vals_set_23 (fun v7 _ => ?_)
  refine xW_pure (fun _ _ _ _ _ => am_iload_n d_Vals_set_26 rfl rfl) ?_
  refine xW_pure (fun _ _ _ _ _ => am_lload d_Vals_set_27 rfl) ?_
  refine xW_sL O d_Vals_set_29 (fun s8 _ => ?_)
  exact xW_ret (fun _ _ _ _ _ => am_vret rfl d_Vals_set_30)

theorem ob_Vals_set {d : Nat} {x0 : Nat} {x1 : Int32} {x2 : Int32} {x3 : Int32} {x4 : Int64} {x5 : Int64} {s : HS} {y : Unit × HS} (h : x_Vals_set d x0 x1 x2 x3 x4 x5 s = some y) : isO s x0 11 = true := (gd_spec h).1

set_option maxRecDepth 100000 in
def x_Mod_put_II (d : Nat) (x0 : Nat) (x1 : Int32) (x2 : Int32) (s : HS) : Option (Unit × HS) := match d with
  | 0 => none
  | d + 1 => gd s x0 14 (bnd (x_Mod_put_I d x0 x1 s) fun v2 s1 => (bnd (x_Mod_put_I d x0 x2 s1) fun v4 s3 => (some ((), s3))))

set_option maxRecDepth 100000 in
set_option maxHeartbeats 4000000 in
theorem dx_Mod_put_II (O : am_ok K X) (T : am_T K) {d : Nat} {x0 : Nat} {x1 : Int32} {x2 : Int32} {s : HS} : xM cvU K X m_Mod_put_II d [.ref x0, .int x1, .int x2] s (x_Mod_put_II d x0 x1 x2 s) := by
  cases d with
  | zero => exact xM_none
  | succ d =>
    unfold x_Mod_put_II
    refine xM_enter (by decide +kernel) (Nat.le_of_ble_eq_true rfl) ?_
    refine xW_gd (fun _ => ?_)
    refine xW_pure (fun _ _ _ _ _ => am_aload_n d_Mod_put_II_0 rfl rfl) ?_
    refine xW_pure (fun _ _ _ _ _ => am_iload_n d_Mod_put_II_1 rfl rfl) ?_
    refine xW_callV O (dx_Mod_put_I O T) (fun _ e => ob_Mod_put_I e) rfl rfl rfl l_Mod_103 ⟨w_1875, w_95⟩ rfl (Nat.le_of_ble_eq_true rfl) d_Mod_put_II_2 (fun v2 s1 _ => ?_)
    refine xW_pure (fun _ _ _ _ _ => am_pop d_Mod_put_II_5 rfl) ?_
    refine xW_pure (fun _ _ _ _ _ => am_aload_n d_Mod_put_II_6 rfl rfl) ?_
    refine xW_pure (fun _ _ _ _ _ => am_iload_n d_Mod_put_II_7 rfl rfl) ?_
    refine xW_callV O (dx_Mod_put_I O T) (fun _ e => ob_Mod_put_I e) rfl rfl rfl l_Mod_103 ⟨w_1875, w_95⟩ rfl (Nat.le_of_ble_eq_true rfl) d_Mod_put_II_8 (fun v4 s3 _ => ?_)
    refine xW_pure (fun _ _ _ _ _ => am_pop d_Mod_put_II_11 rfl) ?_
    exact xW_ret (fun _ _ _ _ _ => am_vret rfl d_Mod_put_II_12)

theorem ob_Mod_put_II {d : Nat} {x0 : Nat} {x1 : Int32} {x2 : Int32} {s : HS} {y : Unit × HS} (h : x_Mod_put_II d x0 x1 x2 s = some y) : isO s x0 14 = true := by
  cases d with
  | zero => cases h
  | succ d => exact (gd_spec h).1

set_option maxRecDepth 100000 in
def x_Vals_add_b50 (d : Nat) (l0 : Nat) (l1 : Int32) (s : HS) : Option (Unit × HS) := (gR s l0 11 1).bind fun v8 => ((aI s v8 l1).bind fun v9 => ((sV s .int v8 l1 (.int (v9 + 1))).bind fun s10 => (some ((), s10))))

set_option maxRecDepth 100000 in
set_option maxHeartbeats 4000000 in
theorem dx_Vals_add_b50 (O : am_ok K X) (T : am_T K) {d : Nat} {l0 : Nat} {l1 : Int32} {s : HS} : xW cvU K X m_Vals_add d 50 [(0, .ref l0), (1, .int l1)] [] s (x_Vals_add_b50 d l0 l1 s) := by
  unfold x_Vals_add_b50
  refine xW_pure (fun _ _ _ _ _ => am_aload_n d_Vals_add_50 rfl rfl) ?_
  refine xW_gR O f_Vals_13 d_Vals_add_51 (fun v8 _ => ?_)
  refine xW_pure (fun _ _ _ _ _ => am_iload_n d_Vals_add_54 rfl rfl) ?_
  refine xW_pure (fun _ _ _ _ _ => am_dup2 d_Vals_add_55 rfl rfl) ?_
  refine xW_aI O d_Vals_add_56 (fun v9 _ => ?_)
  refine xW_pure (fun _ _ _ _ _ => am_iconst (v := 1) d_Vals_add_57 (by decide)) ?_
  refine xW_pure (fun _ _ _ _ _ => am_iadd d_Vals_add_58) ?_
  refine xW_sI O d_Vals_add_59 (fun s10 _ => ?_)
  exact xW_ret (fun _ _ _ _ _ => am_vret rfl d_Vals_add_60)

set_option maxRecDepth 100000 in
def x_Vals_add (d : Nat) (x0 : Nat) (x1 : Int32) (x2 : Int32) (s : HS) : Option (Unit × HS) := gd s x0 11 ((gR s x0 11 1).bind fun v1 => ((aI s v1 x1).bind fun v2 => ((gR s x0 11 1).bind fun v3 => ((aI s v3 x1).bind fun v4 => (if 8 ≤ v4 then ((gR s x0 11 3).bind fun v5 => ((aL s v5 x1).bind fun v6 => ((sV s .long v5 x1 (.long (v6 ||| (((x2 : Int32).toInt64 : Int64) <<< (((8 * (v2 &&& 7)) : Int32).toInt64 &&& 63))))).bind fun s7 => (x_Vals_add_b50 d x0 x1 s7)))) else ((gR s x0 11 2).bind fun v11 => ((aL s v11 x1).bind fun v12 => ((sV s .long v11 x1 (.long (v12 ||| (((x2 : Int32).toInt64 : Int64) <<< (((8 * (v2 &&& 7)) : Int32).toInt64 &&& 63))))).bind fun s13 => (x_Vals_add_b50 d x0 x1 s13)))))))))

set_option maxRecDepth 100000 in
set_option maxHeartbeats 4000000 in
theorem dx_Vals_add (O : am_ok K X) (T : am_T K) {d : Nat} {x0 : Nat} {x1 : Int32} {x2 : Int32} {s : HS} : xM cvU K X m_Vals_add d [.ref x0, .int x1, .int x2] s (x_Vals_add d x0 x1 x2 s) := by
  unfold x_Vals_add
  refine xM_enter (by decide +kernel) (Nat.le_of_ble_eq_true rfl) ?_
  refine xW_gd (fun _ => ?_)
  refine xW_pure (fun _ _ _ _ _ => am_iload_n d_Vals_add_0 rfl rfl) ?_
  refine xW_pure (fun _ _ _ _ _ => am_i2l d_Vals_add_1 rfl) ?_
  refine xW_pure (fun _ _ _ _ _ => am_bipush (v := 8) d_Vals_add_2 (by decide)) ?_
  refine xW_pure (fun _ _ _ _ _ => am_aload_n d_Vals_add_4 rfl rfl) ?_
  refine xW_gR O f_Vals_13 d_Vals_add_5 (fun v1 _ => ?_)
  refine xW_pure (fun _ _ _ _ _ => am_iload_n d_Vals_add_8 rfl rfl) ?_
  refine xW_aI O d_Vals_add_9 (fun v2 _ => ?_)
  refine xW_pure (fun _ _ _ _ _ => am_bipush (v := 7) d_Vals_add_10 (by decide)) ?_
  refine xW_pure (fun _ _ _ _ _ => am_iand d_Vals_add_12) ?_
  refine xW_pure (fun _ _ _ _ _ => am_imul d_Vals_add_13) ?_
  refine xW_pure (fun _ _ _ _ _ => am_lshl d_Vals_add_14 rfl) ?_
  refine xW_pure (fun _ _ _ _ _ => am_lstore_n d_Vals_add_15 rfl (Nat.le_of_ble_eq_true rfl)) ?_
  refine xW_pure (fun _ _ _ _ _ => am_aload_n d_Vals_add_16 rfl rfl) ?_
  refine xW_gR O f_Vals_13 d_Vals_add_17 (fun v3 _ => ?_)
  refine xW_pure (fun _ _ _ _ _ => am_iload_n d_Vals_add_20 rfl rfl) ?_
  refine xW_aI O d_Vals_add_21 (fun v4 _ => ?_)
  refine xW_pure (fun _ _ _ _ _ => am_bipush (v := 8) d_Vals_add_22 (by decide)) ?_
  refine xW_ite (fun _ _ _ _ _ => am_icmp_ge (tgt := 40) d_Vals_add_24 (by decide)) (fun _ => ?_) (fun _ => ?_)
  · refine xW_pure (fun _ _ _ _ _ => am_aload_n d_Vals_add_40 rfl rfl) ?_
    refine xW_gR O f_Vals_20 d_Vals_add_41 (fun v5 _ => ?_)
    refine xW_pure (fun _ _ _ _ _ => am_iload_n d_Vals_add_44 rfl rfl) ?_
    refine xW_pure (fun _ _ _ _ _ => am_dup2 d_Vals_add_45 rfl rfl) ?_
    refine xW_aL O d_Vals_add_46 (fun v6 _ => ?_)
    refine xW_pure (fun _ _ _ _ _ => am_lload_n d_Vals_add_47 rfl rfl) ?_
    refine xW_pure (fun _ _ _ _ _ => am_lor d_Vals_add_48) ?_
    refine xW_sL O d_Vals_add_49 (fun s7 _ => ?_)
    refine xW_locs (lv' := [(0, .ref x0), (1, .int x1)]) rfl ?_
    exact dx_Vals_add_b50 O T
  · refine xW_pure (fun _ _ _ _ _ => am_aload_n d_Vals_add_27 rfl rfl) ?_
    refine xW_gR O f_Vals_16 d_Vals_add_28 (fun v11 _ => ?_)
    refine xW_pure (fun _ _ _ _ _ => am_iload_n d_Vals_add_31 rfl rfl) ?_
    refine xW_pure (fun _ _ _ _ _ => am_dup2 d_Vals_add_32 rfl rfl) ?_
    refine xW_aL O d_Vals_add_33 (fun v12 _ => ?_)
    refine xW_pure (fun _ _ _ _ _ => am_lload_n d_Vals_add_34 rfl rfl) ?_
    refine xW_pure (fun _ _ _ _ _ => am_lor d_Vals_add_35) ?_
    refine xW_sL O d_Vals_add_36 (fun s13 _ => ?_)
    refine xW_pure (fun _ _ _ _ _ => am_goto (tgt := 50) d_Vals_add_37 (by decide)) ?_
    refine xW_locs (lv' := [(0, .ref x0), (1, .int x1)]) rfl ?_
    exact dx_Vals_add_b50 O T

theorem ob_Vals_add {d : Nat} {x0 : Nat} {x1 : Int32} {x2 : Int32} {s : HS} {y : Unit × HS} (h : x_Vals_add d x0 x1 x2 s = some y) : isO s x0 11 = true := (gd_spec h).1

set_option maxRecDepth 100000 in
def x_Mod_nameValue (d : Nat) (x0 : Nat) (x1 : Int64) (s : HS) : Option (Int32 × HS) := match d with
  | 0 => none
  | d + 1 => gd s x0 14 ((gR s x0 14 22).bind fun v1 => ((gR s v1 12 1).bind fun v2 => ((gR s x0 14 22).bind fun v3 => ((gI s v3 12 3).bind fun v4 => (bnd (x_Vals_set d v2 v4 1 0 x1 0 s) fun v6 s5 => ((gR s5 x0 14 22).bind fun v7 => ((gI s5 v7 12 3).bind fun v8 => ((pV s5 v7 12 3 (.int (v8 + 1))).bind fun s9 => ((gR s9 x0 14 22).bind fun v10 => ((gI s9 v10 12 3).bind fun v11 => (some ((v11 - 1), s9))))))))))))

set_option maxRecDepth 100000 in
set_option maxHeartbeats 4000000 in
theorem dx_Mod_nameValue (O : am_ok K X) (T : am_T K) {d : Nat} {x0 : Nat} {x1 : Int64} {s : HS} : xM cvI K X m_Mod_nameValue d [.ref x0, .long x1] s (x_Mod_nameValue d x0 x1 s) := by
  cases d with
  | zero => exact xM_none
  | succ d =>
    unfold x_Mod_nameValue
    refine xM_enter (by decide +kernel) (Nat.le_of_ble_eq_true rfl) ?_
    refine xW_gd (fun _ => ?_)
    refine xW_pure (fun _ _ _ _ _ => am_aload_n d_Mod_nameValue_0 rfl rfl) ?_
    refine xW_gR O f_Mod_91 d_Mod_nameValue_1 (fun v1 _ => ?_)
    refine xW_gR O f_Mod_107 d_Mod_nameValue_4 (fun v2 _ => ?_)
    refine xW_pure (fun _ _ _ _ _ => am_aload_n d_Mod_nameValue_7 rfl rfl) ?_
    refine xW_gR O f_Mod_91 d_Mod_nameValue_8 (fun v3 _ => ?_)
    refine xW_gI O f_Mod_111 d_Mod_nameValue_11 (fun v4 _ => ?_)
    refine xW_pure (fun _ _ _ _ _ => am_iconst (v := 1) d_Mod_nameValue_14 (by decide)) ?_
    refine xW_pure (fun _ _ _ _ _ => am_iconst (v := 0) d_Mod_nameValue_15 (by decide)) ?_
    refine xW_pure (fun _ _ _ _ _ => am_lload_n d_Mod_nameValue_16 rfl rfl) ?_
    refine xW_pure (fun _ _ _ _ _ => am_lconst (v := 0) d_Mod_nameValue_17 (by decide)) ?_
    refine xW_callV O (dx_Vals_set O T) (fun _ e => ob_Vals_set e) rfl rfl rfl l_Mod_114 ⟨w_1914, w_1915⟩ rfl (Nat.le_of_ble_eq_true rfl) d_Mod_nameValue_18 (fun v6 s5 _ => ?_)
    refine xW_pure (fun _ _ _ _ _ => am_aload_n d_Mod_nameValue_21 rfl rfl) ?_
    refine xW_gR O f_Mod_91 d_Mod_nameValue_22 (fun v7 _ => ?_)
    refine xW_pure (fun _ _ _ _ _ => am_dup d_Mod_nameValue_25 rfl) ?_
    refine xW_gI O f_Mod_111 d_Mod_nameValue_26 (fun v8 _ => ?_)
    refine xW_pure (fun _ _ _ _ _ => am_iconst (v := 1) d_Mod_nameValue_29 (by decide)) ?_
    refine xW_pure (fun _ _ _ _ _ => am_iadd d_Mod_nameValue_30) ?_
    refine xW_put O f_Mod_111 d_Mod_nameValue_31 (fun q hq => by cases hq; exact ⟨rfl, rfl, rfl⟩) (fun s9 _ => ?_)
    refine xW_pure (fun _ _ _ _ _ => am_aload_n d_Mod_nameValue_34 rfl rfl) ?_
    refine xW_gR O f_Mod_91 d_Mod_nameValue_35 (fun v10 _ => ?_)
    refine xW_gI O f_Mod_111 d_Mod_nameValue_38 (fun v11 _ => ?_)
    refine xW_pure (fun _ _ _ _ _ => am_iconst (v := 1) d_Mod_nameValue_41 (by decide)) ?_
    refine xW_pure (fun _ _ _ _ _ => am_isub d_Mod_nameValue_42) ?_
    exact xW_ret (fun _ _ _ _ _ => am_iret rfl d_Mod_nameValue_43)

theorem ob_Mod_nameValue {d : Nat} {x0 : Nat} {x1 : Int64} {s : HS} {y : Int32 × HS} (h : x_Mod_nameValue d x0 x1 s = some y) : isO s x0 14 = true := by
  cases d with
  | zero => cases h
  | succ d => exact (gd_spec h).1

set_option maxRecDepth 100000 in
def x_Vals_copy (d : Nat) (x0 : Nat) (x1 : Int32) (x2 : Nat) (x3 : Int32) (s : HS) : Option (Unit × HS) := match d with
  | 0 => none
  | d + 1 => gd s x0 11 ((gR s x2 11 0).bind fun v1 => ((aI s v1 x3).bind fun v2 => ((gR s x2 11 1).bind fun v3 => ((aI s v3 x3).bind fun v4 => ((gR s x2 11 2).bind fun v5 => ((aL s v5 x3).bind fun v6 => ((gR s x2 11 3).bind fun v7 => ((aL s v7 x3).bind fun v8 => (bnd (x_Vals_set d x0 x1 v2 v4 v6 v8 s) fun v10 s9 => (some ((), s9)))))))))))

set_option maxRecDepth 100000 in
set_option maxHeartbeats 4000000 in
theorem dx_Vals_copy (O : am_ok K X) (T : am_T K) {d : Nat} {x0 : Nat} {x1 : Int32} {x2 : Nat} {x3 : Int32} {s : HS} : xM cvU K X m_Vals_copy d [.ref x0, .int x1, .ref x2, .int x3] s (x_Vals_copy d x0 x1 x2 x3 s) := by
  cases d with
  | zero => exact xM_none
  | succ d =>
    unfold x_Vals_copy
    refine xM_enter (by decide +kernel) (Nat.le_of_ble_eq_true rfl) ?_
    refine xW_gd (fun _ => ?_)
    refine xW_pure (fun _ _ _ _ _ => am_aload_n d_Vals_copy_0 rfl rfl) ?_
    refine xW_pure (fun _ _ _ _ _ => am_iload_n d_Vals_copy_1 rfl rfl) ?_
    refine xW_pure (fun _ _ _ _ _ => am_aload_n d_Vals_copy_2 rfl rfl) ?_
    refine xW_gR O f_Vals_7 d_Vals_copy_3 (fun v1 _ => ?_)
    refine xW_pure (fun _ _ _ _ _ => am_iload_n d_Vals_copy_6 rfl rfl) ?_
    refine xW_aI O d_Vals_copy_7 (fun v2 _ => ?_)
    refine xW_pure (fun _ _ _ _ _ => am_aload_n d_Vals_copy_8 rfl rfl) ?_
    refine xW_gR O f_Vals_13 d_Vals_copy_9 (fun v3 _ => ?_)
    refine xW_pure (fun _ _ _ _ _ => am_iload_n d_Vals_copy_12 rfl rfl) ?_
    refine xW_aI O d_Vals_copy_13 (fun v4 _ => ?_)
    refine xW_pure (fun _ _ _ _ _ => am_aload_n d_Vals_copy_14 rfl rfl) ?_
    refine xW_gR O f_Vals_16 d_Vals_copy_15 (fun v5 _ => ?_)
    refine xW_pure (fun _ _ _ _ _ => am_iload_n d_Vals_copy_18 rfl rfl) ?_
    refine xW_aL O d_Vals_copy_19 (fun v6 _ => ?_)
    refine xW_pure (fun _ _ _ _ _ => am_aload_n d_Vals_copy_20 rfl rfl) ?_
    refine xW_gR O f_Vals_20 d_Vals_copy_21 (fun v7 _ => ?_)
    refine xW_pure (fun _ _ _ _ _ => am_iload_n d_Vals_copy_24 rfl rfl) ?_
    refine xW_aL O d_Vals_copy_25 (fun v8 _ => ?_)
    refine xW_callV O (dx_Vals_set O T) (fun _ e => ob_Vals_set e) rfl rfl rfl l_Vals_23 ⟨w_1914, w_1915⟩ rfl (Nat.le_of_ble_eq_true rfl) d_Vals_copy_26 (fun v10 s9 _ => ?_)
    exact xW_ret (fun _ _ _ _ _ => am_vret rfl d_Vals_copy_29)

theorem ob_Vals_copy {d : Nat} {x0 : Nat} {x1 : Int32} {x2 : Nat} {x3 : Int32} {s : HS} {y : Unit × HS} (h : x_Vals_copy d x0 x1 x2 x3 s = some y) : isO s x0 11 = true := by
  cases d with
  | zero => cases h
  | succ d => exact (gd_spec h).1

set_option maxRecDepth 100000 in
def x_State_findFunction (d : Nat) (x0 : Nat) (x1 : Int64) (s : HS) : Option (Int32 × HS) := gd s x0 13 (loopK (fun (again2 : Int32 × HS → Option (Int32 × HS)) (z2 : Int32 × HS) => ((gI z2.2 x0 13 10).bind fun v1 => (if v1 ≤ z2.1 then (some ((-1), z2.2)) else ((gR z2.2 x0 13 4).bind fun v2 => ((aL z2.2 v2 z2.1).bind fun v3 => (if (lg_cmp v3 x1) = 0 then (some (z2.1, z2.2)) else (again2 ((z2.1 + 1), z2.2)))))))) FU (0, s))

set_option maxRecDepth 100000 in
set_option maxHeartbeats 4000000 in
theorem dx_State_findFunction (O : am_ok K X) (T : am_T K) {d : Nat} {x0 : Nat} {x1 : Int64} {s : HS} : xM cvI K X m_State_findFunction d [.ref x0, .long x1] s (x_State_findFunction d x0 x1 s) := by
  unfold x_State_findFunction
  refine xM_enter (by decide +kernel) (Nat.le_of_ble_eq_true rfl) ?_
  refine xW_gd (fun _ => ?_)
  refine xW_pure (fun _ _ _ _ _ => am_iconst (v := 0) d_State_findFunction_0 (by decide)) ?_
  refine xW_pure (fun _ _ _ _ _ => am_istore_n d_State_findFunction_1 rfl (Nat.le_of_ble_eq_true rfl)) ?_
  refine xW_locs (lv' := [(0, .ref x0), (1, .long x1), (3, .int 0)]) rfl ?_
  refine xW_loop (lvf := fun (z2 : Int32 × HS) => [(0, .ref x0), (1, .long x1), (3, .int z2.1)]) (hsf := fun (z2 : Int32 × HS) => z2.2) (fun again2 ih2 z2 => ?_) FU (0, s)
  refine xW_pure (fun _ _ _ _ _ => am_iload_n d_State_findFunction_2 rfl rfl) ?_
  refine xW_pure (fun _ _ _ _ _ => am_aload_n d_State_findFunction_3 rfl rfl) ?_
  refine xW_gI O f_State_71 d_State_findFunction_4 (fun v1 _ => ?_)
  refine xW_ite (fun _ _ _ _ _ => am_icmp_ge (tgt := 29) d_State_findFunction_7 (by decide)) (fun _ => ?_) (fun _ => ?_)
  · refine xW_pure (fun _ _ _ _ _ => am_iconst (v := (-1)) d_State_findFunction_29 (by decide)) ?_
    exact xW_ret (fun _ _ _ _ _ => am_iret rfl d_State_findFunction_30)
  · refine xW_pure (fun _ _ _ _ _ => am_aload_n d_State_findFunction_10 rfl rfl) ?_
    refine xW_gR O f_State_25 d_State_findFunction_11 (fun v2 _ => ?_)
    refine xW_pure (fun _ _ _ _ _ => am_iload_n d_State_findFunction_14 rfl rfl) ?_
    refine xW_aL O d_State_findFunction_15 (fun v3 _ => ?_)
    refine xW_pure (fun _ _ _ _ _ => am_lload_n d_State_findFunction_16 rfl rfl) ?_
    refine xW_pure (fun _ _ _ _ _ => am_lcmp d_State_findFunction_17) ?_
    refine xW_ite (fun _ _ _ _ _ k1 k2 => am_if_ne (tgt := 23) d_State_findFunction_18 (by decide) k2 k1) (fun _ => ?_) (fun _ => ?_)
    · refine xW_pure (fun _ _ _ _ _ => am_iload_n d_State_findFunction_21 rfl rfl) ?_
      exact xW_ret (fun _ _ _ _ _ => am_iret rfl d_State_findFunction_22)
    · refine xW_pure (fun _ _ _ _ _ => am_iinc (v := 1) d_State_findFunction_23 rfl (by decide) (Nat.le_of_ble_eq_true rfl)) ?_
      refine xW_pure (fun _ _ _ _ _ => am_goto (tgt := 2) d_State_findFunction_26 (by decide)) ?_
      refine xW_locs (lv' := [(0, .ref x0), (1, .long x1), (3, .int (z2.1 + 1))]) rfl ?_
      exact ih2 ((z2.1 + 1), z2.2)

theorem ob_State_findFunction {d : Nat} {x0 : Nat} {x1 : Int64} {s : HS} {y : Int32 × HS} (h : x_State_findFunction d x0 x1 s = some y) : isO s x0 13 = true := (gd_spec h).1

set_option maxRecDepth 100000 in
def x_Mod_mark (d : Nat) (x0 : Nat) (x1 : Nat) (s : HS) : Option (Unit × HS) := gd s x0 14 (loopK (fun (again2 : Int32 × HS → Option (Unit × HS)) (z2 : Int32 × HS) => ((gI z2.2 x1 13 10).bind fun v1 => (if v1 ≤ z2.1 then (some ((), z2.2)) else ((gR z2.2 x1 13 7).bind fun v2 => ((aR "StowTongueModel$Code" z2.2 v2 z2.1).bind fun v3 => ((pV z2.2 v3 12 9 (.int 1)).bind fun s4 => (again2 ((z2.1 + 1), s4)))))))) FU (0, s))

set_option maxRecDepth 100000 in
set_option maxHeartbeats 4000000 in
theorem dx_Mod_mark (O : am_ok K X) (T : am_T K) {d : Nat} {x0 : Nat} {x1 : Nat} {s : HS} : xM cvU K X m_Mod_mark d [.ref x0, .ref x1] s (x_Mod_mark d x0 x1 s) := by
  unfold x_Mod_mark
  refine xM_enter (by decide +kernel) (Nat.le_of_ble_eq_true rfl) ?_
  refine xW_gd (fun _ => ?_)
  refine xW_pure (fun _ _ _ _ _ => am_iconst (v := 0) d_Mod_mark_0 (by decide)) ?_
  refine xW_pure (fun _ _ _ _ _ => am_istore_n d_Mod_mark_1 rfl (Nat.le_of_ble_eq_true rfl)) ?_
  refine xW_locs (lv' := [(1, .ref x1), (2, .int 0)]) rfl ?_
  refine xW_loop (lvf := fun (z2 : Int32 × HS) => [(1, .ref x1), (2, .int z2.1)]) (hsf := fun (z2 : Int32 × HS) => z2.2) (fun again2 ih2 z2 => ?_) FU (0, s)
  refine xW_pure (fun _ _ _ _ _ => am_iload_n d_Mod_mark_2 rfl rfl) ?_
  refine xW_pure (fun _ _ _ _ _ => am_aload_n d_Mod_mark_3 rfl rfl) ?_
  refine xW_gI O f_Mod_396 d_Mod_mark_4 (fun v1 _ => ?_)
  refine xW_ite (fun _ _ _ _ _ => am_icmp_ge (tgt := 26) d_Mod_mark_7 (by decide)) (fun _ => ?_) (fun _ => ?_)
  · exact xW_ret (fun _ _ _ _ _ => am_vret rfl d_Mod_mark_26)
  · refine xW_pure (fun _ _ _ _ _ => am_aload_n d_Mod_mark_10 rfl rfl) ?_
    refine xW_gR O f_Mod_399 d_Mod_mark_11 (fun v2 _ => ?_)
    refine xW_pure (fun _ _ _ _ _ => am_iload_n d_Mod_mark_14 rfl rfl) ?_
    refine xW_aR O (by decide) d_Mod_mark_15 (fun v3 _ => ?_)
    refine xW_pure (fun _ _ _ _ _ => am_iconst (v := 1) d_Mod_mark_16 (by decide)) ?_
    refine xW_put O f_Mod_402 d_Mod_mark_17 (fun q hq => by cases hq; exact ⟨rfl, rfl, rfl⟩) (fun s4 _ => ?_)
    refine xW_pure (fun _ _ _ _ _ => am_iinc (v := 1) d_Mod_mark_20 rfl (by decide) (Nat.le_of_ble_eq_true rfl)) ?_
    refine xW_pure (fun _ _ _ _ _ => am_goto (tgt := 2) d_Mod_mark_23 (by decide)) ?_
    refine xW_locs (lv' := [(1, .ref x1), (2, .int (z2.1 + 1))]) rfl ?_
    exact ih2 ((z2.1 + 1), s4)

theorem ob_Mod_mark {d : Nat} {x0 : Nat} {x1 : Nat} {s : HS} {y : Unit × HS} (h : x_Mod_mark d x0 x1 s = some y) : isO s x0 14 = true := (gd_spec h).1

set_option maxRecDepth 100000 in
def x_Code_cut (d : Nat) (x0 : Nat) (x1 : Nat) (x2 : Int32) (x3 : Int32) (x4 : Int32) (x5 : Int32) (s : HS) : Option (Unit × HS) := match d with
  | 0 => none
  | d + 1 => gd s x0 12 ((gR s x1 12 0).bind fun v1 => ((gR s x0 12 0).bind fun v2 => ((cpA s v1 x2 v2 0 (x3 - x2)).bind fun s3 => ((pV s3 x0 12 2 (.int (x3 - x2))).bind fun s4 => (loopK (fun (again27 : Int32 × HS → Option (Unit × HS)) (z27 : Int32 × HS) => (if x5 ≤ z27.1 then ((pV z27.2 x0 12 3 (.int (x5 - x4))).bind fun s5 => ((pV s5 x0 12 7 (.int x2)).bind fun s6 => ((pV s6 x0 12 8 (.int x4)).bind fun s7 => (some ((), s7))))) else ((gR z27.2 x0 12 1).bind fun v8 => ((gR z27.2 x1 12 1).bind fun v9 => (bnd (x_Vals_copy d v8 (z27.1 - x4) v9 z27.1 z27.2) fun v11 s10 => (again27 ((z27.1 + 1), s10))))))) FU (x4, s4))))))

set_option maxRecDepth 100000 in
set_option maxHeartbeats 4000000 in
theorem dx_Code_cut (O : am_ok K X) (T : am_T K) {d : Nat} {x0 : Nat} {x1 : Nat} {x2 : Int32} {x3 : Int32} {x4 : Int32} {x5 : Int32} {s : HS} : xM cvU K X m_Code_cut d [.ref x0, .ref x1, .int x2, .int x3, .int x4, .int x5] s (x_Code_cut d x0 x1 x2 x3 x4 x5 s) := by
  cases d with
  | zero => exact xM_none
  | succ d =>
    unfold x_Code_cut
    refine xM_enter (by decide +kernel) (Nat.le_of_ble_eq_true rfl) ?_
    refine xW_gd (fun _ => ?_)
    refine xW_pure (fun _ _ _ _ _ => am_aload_n d_Code_cut_0 rfl rfl) ?_
    refine xW_gR O f_Code_7 d_Code_cut_1 (fun v1 _ => ?_)
    refine xW_pure (fun _ _ _ _ _ => am_iload_n d_Code_cut_4 rfl rfl) ?_
    refine xW_pure (fun _ _ _ _ _ => am_aload_n d_Code_cut_5 rfl rfl) ?_
    refine xW_gR O f_Code_7 d_Code_cut_6 (fun v2 _ => ?_)
    refine xW_pure (fun _ _ _ _ _ => am_iconst (v := 0) d_Code_cut_9 (by decide)) ?_
    refine xW_pure (fun _ _ _ _ _ => am_iload_n d_Code_cut_10 rfl rfl) ?_
    refine xW_pure (fun _ _ _ _ _ => am_iload_n d_Code_cut_11 rfl rfl) ?_
    refine xW_pure (fun _ _ _ _ _ => am_isub d_Code_cut_12) ?_
    refine xW_copy O w_2016 w_735 w_734 w_167 d_Code_cut_13 (Nat.le_of_ble_eq_true rfl) (fun s3 _ => ?_)
    refine xW_pure (fun _ _ _ _ _ => am_aload_n d_Code_cut_16 rfl rfl) ?_
    refine xW_pure (fun _ _ _ _ _ => am_iload_n d_Code_cut_17 rfl rfl) ?_
    refine xW_pure (fun _ _ _ _ _ => am_iload_n d_Code_cut_18 rfl rfl) ?_
    refine xW_pure (fun _ _ _ _ _ => am_isub d_Code_cut_19) ?_
    refine xW_put O f_Code_22 d_Code_cut_20 (fun q hq => by cases hq; exact ⟨rfl, rfl, rfl⟩) (fun s4 _ => ?_)
    refine xW_pure (fun _ _ _ _ _ => am_iload d_Code_cut_23 rfl) ?_
    refine xW_pure (fun _ _ _ _ _ => am_istore d_Code_cut_25 (Nat.le_of_ble_eq_true rfl)) ?_
    refine xW_locs (lv' := [(0, .ref x0), (1, .ref x1), (2, .int x2), (4, .int x4), (5, .int x5), (6, .int x4)]) rfl ?_
    refine xW_loop (lvf := fun (z27 : Int32 × HS) => [(0, .ref x0), (1, .ref x1), (2, .int x2), (4, .int x4), (5, .int x5), (6, .int z27.1)]) (hsf := fun (z27 : Int32 × HS) => z27.2) (fun again27 ih27 z27 => ?_) FU (x4, s4)
    refine xW_pure (fun _ _ _ _ _ => am_iload d_Code_cut_27 rfl) ?_
    refine xW_pure (fun _ _ _ _ _ => am_iload d_Code_cut_29 rfl) ?_
    refine xW_ite (fun _ _ _ _ _ => am_icmp_ge (tgt := 58) d_Code_cut_31 (by decide)) (fun _ => ?_) (fun _ => ?_)
    · refine xW_pure (fun _ _ _ _ _ => am_aload_n d_Code_cut_58 rfl rfl) ?_
      refine xW_pure (fun _ _ _ _ _ => am_iload d_Code_cut_59 rfl) ?_
      refine xW_pure (fun _ _ _ _ _ => am_iload d_Code_cut_61 rfl) ?_
      refine xW_pure (fun _ _ _ _ _ => am_isub d_Code_cut_63) ?_
      refine xW_put O f_Code_26 d_Code_cut_64 (fun q hq => by cases hq; exact ⟨rfl, rfl, rfl⟩) (fun s5 _ => ?_)
      refine xW_pure (fun _ _ _ _ _ => am_aload_n d_Code_cut_67 rfl rfl) ?_
      refine xW_pure (fun _ _ _ _ _ => am_iload_n d_Code_cut_68 rfl rfl) ?_
      refine xW_put O f_Code_48 d_Code_cut_69 (fun q hq => by cases hq; exact ⟨rfl, rfl, rfl⟩) (fun s6 _ => ?_)
      refine xW_pure (fun _ _ _ _ _ => am_aload_n d_Code_cut_72 rfl rfl) ?_
      refine xW_pure (fun _ _ _ _ _ => am_iload d_Code_cut_73 rfl) ?_
      refine xW_put O f_Code_51 d_Code_cut_75 (fun q hq => by cases hq; exact ⟨rfl, rfl, rfl⟩) (fun s7 _ => ?_)
      exact xW_ret (fun _ _ _ _ _ => am_vret rfl d_Code_cut_78)
    · refine xW_pure (fun _ _ _ _ _ => am_aload_n d_Code_cut_34 rfl rfl) ?_
      refine xW_gR O f_Code_18 d_Code_cut_35 (fun v8 _ => ?_)
      refine xW_pure (fun _ _ _ _ _ => am_iload d_Code_cut_38 rfl) ?_
      refine xW_pure (fun _ _ _ _ _ => am_iload d_Code_cut_40 rfl) ?_
      refine xW_pure (fun _ _ _ _ _ => am_isub d_Code_cut_42) ?_
      refine xW_pure (fun _ _ _ _ _ => am_aload_n d_Code_cut_43 rfl rfl) ?_
      refine xW_gR O f_Code_18 d_Code_cut_44 (fun v9 _ => ?_)
      refine xW_pure (fun _ _ _ _ _ => am_iload d_Code_cut_47 rfl) ?_
      refine xW_callV O (dx_Vals_copy O T) (fun _ e => ob_Vals_copy e) rfl rfl rfl l_Code_44 ⟨w_1992, w_1993⟩ rfl (Nat.le_of_ble_eq_true rfl) d_Code_cut_49 (fun v11 s10 _ => ?_)
      refine xW_pure (fun _ _ _ _ _ => am_iinc (v := 1) d_Code_cut_52 rfl (by decide) (Nat.le_of_ble_eq_true rfl)) ?_
      refine xW_pure (fun _ _ _ _ _ => am_goto (tgt := 27) d_Code_cut_55 (by decide)) ?_
      refine xW_locs (lv' := [(0, .ref x0), (1, .ref x1), (2, .int x2), (4, .int x4), (5, .int x5), (6, .int (z27.1 + 1))]) rfl ?_
      exact ih27 ((z27.1 + 1), s10)

theorem ob_Code_cut {d : Nat} {x0 : Nat} {x1 : Nat} {x2 : Int32} {x3 : Int32} {x4 : Int32} {x5 : Int32} {s : HS} {y : Unit × HS} (h : x_Code_cut d x0 x1 x2 x3 x4 x5 s = some y) : isO s x0 12 = true := by
  cases d with
  | zero => cases h
  | succ d => exact (gd_spec h).1

set_option maxRecDepth 100000 in
def x_Mod_tokensOf (d : Nat) (x1 : Nat) (s : HS) : Option (Int32 × HS) := loopK (fun (again4 : Int32 × Int32 × HS → Option (Int32 × HS)) (z4 : Int32 × Int32 × HS) => ((gI z4.2.2 x1 13 10).bind fun v1 => (if v1 ≤ z4.2.1 then (some (z4.1, z4.2.2)) else ((gR z4.2.2 x1 13 7).bind fun v2 => ((aR "StowTongueModel$Code" z4.2.2 v2 z4.2.1).bind fun v3 => ((gI z4.2.2 v3 12 4).bind fun v4 => (again4 ((z4.1 + v4), (z4.2.1 + 1), z4.2.2)))))))) FU (0, 0, s)

set_option maxRecDepth 100000 in
set_option maxHeartbeats 4000000 in
theorem dx_Mod_tokensOf (O : am_ok K X) (T : am_T K) {d : Nat} {x1 : Nat} {s : HS} : xM cvI K X m_Mod_tokensOf d [.ref x1] s (x_Mod_tokensOf d x1 s) := by
  unfold x_Mod_tokensOf
  refine xM_enter (by decide +kernel) (Nat.le_of_ble_eq_true rfl) ?_
  refine xW_pure (fun _ _ _ _ _ => am_iconst (v := 0) d_Mod_tokensOf_0 (by decide)) ?_
  refine xW_pure (fun _ _ _ _ _ => am_istore_n d_Mod_tokensOf_1 rfl (Nat.le_of_ble_eq_true rfl)) ?_
  refine xW_pure (fun _ _ _ _ _ => am_iconst (v := 0) d_Mod_tokensOf_2 (by decide)) ?_
  refine xW_pure (fun _ _ _ _ _ => am_istore_n d_Mod_tokensOf_3 rfl (Nat.le_of_ble_eq_true rfl)) ?_
  refine xW_locs (lv' := [(0, .ref x1), (1, .int 0), (2, .int 0)]) rfl ?_
  refine xW_loop (lvf := fun (z4 : Int32 × Int32 × HS) => [(0, .ref x1), (1, .int z4.1), (2, .int z4.2.1)]) (hsf := fun (z4 : Int32 × Int32 × HS) => z4.2.2) (fun again4 ih4 z4 => ?_) FU (0, 0, s)
  refine xW_pure (fun _ _ _ _ _ => am_iload_n d_Mod_tokensOf_4 rfl rfl) ?_
  refine xW_pure (fun _ _ _ _ _ => am_aload_n d_Mod_tokensOf_5 rfl rfl) ?_
  refine xW_gI O f_Mod_396 d_Mod_tokensOf_6 (fun v1 _ => ?_)
  refine xW_ite (fun _ _ _ _ _ => am_icmp_ge (tgt := 30) d_Mod_tokensOf_9 (by decide)) (fun _ => ?_) (fun _ => ?_)
  · refine xW_pure (fun _ _ _ _ _ => am_iload_n d_Mod_tokensOf_30 rfl rfl) ?_
    exact xW_ret (fun _ _ _ _ _ => am_iret rfl d_Mod_tokensOf_31)
  · refine xW_pure (fun _ _ _ _ _ => am_iload_n d_Mod_tokensOf_12 rfl rfl) ?_
    refine xW_pure (fun _ _ _ _ _ => am_aload_n d_Mod_tokensOf_13 rfl rfl) ?_
    refine xW_gR O f_Mod_399 d_Mod_tokensOf_14 (fun v2 _ => ?_)
    refine xW_pure (fun _ _ _ _ _ => am_iload_n d_Mod_tokensOf_17 rfl rfl) ?_
    refine xW_aR O (by decide) d_Mod_tokensOf_18 (fun v3 _ => ?_)
    refine xW_gI O f_Mod_423 d_Mod_tokensOf_19 (fun v4 _ => ?_)
    refine xW_pure (fun _ _ _ _ _ => am_iadd d_Mod_tokensOf_22) ?_
    refine xW_pure (fun _ _ _ _ _ => am_istore_n d_Mod_tokensOf_23 rfl (Nat.le_of_ble_eq_true rfl)) ?_
    refine xW_pure (fun _ _ _ _ _ => am_iinc (v := 1) d_Mod_tokensOf_24 rfl (by decide) (Nat.le_of_ble_eq_true rfl)) ?_
    refine xW_pure (fun _ _ _ _ _ => am_goto (tgt := 4) d_Mod_tokensOf_27 (by decide)) ?_
    refine xW_locs (lv' := [(0, .ref x1), (1, .int (z4.1 + v4)), (2, .int (z4.2.1 + 1))]) rfl ?_
    exact ih4 ((z4.1 + v4), (z4.2.1 + 1), z4.2.2)

set_option maxRecDepth 100000 in
def x_Mod_enter (d : Nat) (x0 : Nat) (x1 : Nat) (x2 : Int32) (s : HS) : Option (Unit × HS) := match d with
  | 0 => none
  | d + 1 => gd s x0 14 ((gR s x0 14 47).bind fun v1 => ((gI s x0 14 45).bind fun v2 => ((sR "StowTongueModel$Code" 12 s v1 v2 x1).bind fun s3 => ((gR s3 x0 14 48).bind fun v4 => ((gI s3 x0 14 45).bind fun v5 => ((gI s3 x0 14 46).bind fun v6 => ((sV s3 .int v4 v5 (.int v6)).bind fun s7 => ((gR s7 x0 14 49).bind fun v8 => ((gI s7 x0 14 45).bind fun v9 => ((gI s7 x0 14 42).bind fun v10 => ((sV s7 .int v8 v9 (.int v10)).bind fun s11 => (loopK (fun (again38 : Int32 × HS → Option (Unit × HS)) (z38 : Int32 × HS) => ((gI z38.2 x1 12 6).bind fun v12 => (if v12 ≤ z38.1 then (loopK (fun (again71 : Int32 × HS → Option (Unit × HS)) (z71 : Int32 × HS) => (if x2 ≤ z71.1 then ((gI z71.2 x0 14 41).bind fun v13 => ((pV z71.2 x0 14 41 (.int (v13 - x2))).bind fun s14 => ((gI s14 x0 14 42).bind fun v15 => ((gI s14 x1 12 6).bind fun v16 => ((pV s14 x0 14 42 (.int (v15 + v16))).bind fun s17 => ((gI s17 x0 14 45).bind fun v18 => ((pV s17 x0 14 45 (.int (v18 + 1))).bind fun s19 => ((pV s19 x0 14 46 (.int 0)).bind fun s20 => (some ((), s20)))))))))) else ((gR z71.2 x0 14 38).bind fun v21 => ((gI z71.2 x0 14 42).bind fun v22 => ((gR z71.2 x0 14 37).bind fun v23 => ((gI z71.2 x0 14 41).bind fun v24 => (bnd (x_Vals_copy d v21 (v22 + z71.1) v23 ((v24 - x2) + z71.1) z71.2) fun v26 s25 => (again71 ((z71.1 + 1), s25))))))))) FU (0, z38.2)) else ((gR z38.2 x0 14 38).bind fun v27 => ((gI z38.2 x0 14 42).bind fun v28 => (bnd (x_Vals_set d v27 (v28 + z38.1) 0 0 0 0 z38.2) fun v30 s29 => (again38 ((z38.1 + 1), s29)))))))) FU (0, s11)))))))))))))

set_option maxRecDepth 100000 in
set_option maxHeartbeats 4000000 in
theorem dx_Mod_enter (O : am_ok K X) (T : am_T K) {d : Nat} {x0 : Nat} {x1 : Nat} {x2 : Int32} {s : HS} : xM cvU K X m_Mod_enter d [.ref x0, .ref x1, .int x2] s (x_Mod_enter d x0 x1 x2 s) := by
  cases d with
  | zero => exact xM_none
  | succ d =>
    unfold x_Mod_enter
    refine xM_enter (by decide +kernel) (Nat.le_of_ble_eq_true rfl) ?_
    refine xW_gd (fun _ => ?_)
    refine xW_pure (fun _ _ _ _ _ => am_aload_n d_Mod_enter_0 rfl rfl) ?_
    refine xW_gR O f_Mod_380 d_Mod_enter_1 (fun v1 _ => ?_)
    refine xW_pure (fun _ _ _ _ _ => am_aload_n d_Mod_enter_4 rfl rfl) ?_
    refine xW_gI O f_Mod_492 d_Mod_enter_5 (fun v2 _ => ?_)
    refine xW_pure (fun _ _ _ _ _ => am_aload_n d_Mod_enter_8 rfl rfl) ?_
    refine xW_sR O (ci := 12) (by rfl) (by rfl) (by decide) d_Mod_enter_9 (fun s3 _ => ?_)
    refine xW_pure (fun _ _ _ _ _ => am_aload_n d_Mod_enter_10 rfl rfl) ?_
    refine xW_gR O f_Mod_383 d_Mod_enter_11 (fun v4 _ => ?_)
    refine xW_pure (fun _ _ _ _ _ => am_aload_n d_Mod_enter_14 rfl rfl) ?_
    refine xW_gI O f_Mod_492 d_Mod_enter_15 (fun v5 _ => ?_)
    refine xW_pure (fun _ _ _ _ _ => am_aload_n d_Mod_enter_18 rfl rfl) ?_
    refine xW_gI O f_Mod_502 d_Mod_enter_19 (fun v6 _ => ?_)
    refine xW_sI O d_Mod_enter_22 (fun s7 _ => ?_)
    refine xW_pure (fun _ _ _ _ _ => am_aload_n d_Mod_enter_23 rfl rfl) ?_
    refine xW_gR O f_Mod_386 d_Mod_enter_24 (fun v8 _ => ?_)
    refine xW_pure (fun _ _ _ _ _ => am_aload_n d_Mod_enter_27 rfl rfl) ?_
    refine xW_gI O f_Mod_492 d_Mod_enter_28 (fun v9 _ => ?_)
    refine xW_pure (fun _ _ _ _ _ => am_aload_n d_Mod_enter_31 rfl rfl) ?_
    refine xW_gI O f_Mod_489 d_Mod_enter_32 (fun v10 _ => ?_)
    refine xW_sI O d_Mod_enter_35 (fun s11 _ => ?_)
    refine xW_pure (fun _ _ _ _ _ => am_iconst (v := 0) d_Mod_enter_36 (by decide)) ?_
    refine xW_pure (fun _ _ _ _ _ => am_istore_n d_Mod_enter_37 rfl (Nat.le_of_ble_eq_true rfl)) ?_
    refine xW_locs (lv' := [(0, .ref x0), (1, .ref x1), (2, .int x2), (3, .int 0)]) rfl ?_
    refine xW_loop (lvf := fun (z38 : Int32 × HS) => [(0, .ref x0), (1, .ref x1), (2, .int x2), (3, .int z38.1)]) (hsf := fun (z38 : Int32 × HS) => z38.2) (fun again38 ih38 z38 => ?_) FU (0, s11)
    refine xW_pure (fun _ _ _ _ _ => am_iload_n d_Mod_enter_38 rfl rfl) ?_
    refine xW_pure (fun _ _ _ _ _ => am_aload_n d_Mod_enter_39 rfl rfl) ?_
    refine xW_gI O f_Mod_160 d_Mod_enter_40 (fun v12 _ => ?_)
    refine xW_ite (fun _ _ _ _ _ => am_icmp_ge (tgt := 69) d_Mod_enter_43 (by decide)) (fun _ => ?_) (fun _ => ?_)
    · refine xW_pure (fun _ _ _ _ _ => am_iconst (v := 0) d_Mod_enter_69 (by decide)) ?_
      refine xW_pure (fun _ _ _ _ _ => am_istore_n d_Mod_enter_70 rfl (Nat.le_of_ble_eq_true rfl)) ?_
      refine xW_locs (lv' := [(0, .ref x0), (1, .ref x1), (2, .int x2), (3, .int 0)]) rfl ?_
      refine xW_loop (lvf := fun (z71 : Int32 × HS) => [(0, .ref x0), (1, .ref x1), (2, .int x2), (3, .int z71.1)]) (hsf := fun (z71 : Int32 × HS) => z71.2) (fun again71 ih71 z71 => ?_) FU (0, z38.2)
      refine xW_pure (fun _ _ _ _ _ => am_iload_n d_Mod_enter_71 rfl rfl) ?_
      refine xW_pure (fun _ _ _ _ _ => am_iload_n d_Mod_enter_72 rfl rfl) ?_
      refine xW_ite (fun _ _ _ _ _ => am_icmp_ge (tgt := 107) d_Mod_enter_73 (by decide)) (fun _ => ?_) (fun _ => ?_)
      · refine xW_pure (fun _ _ _ _ _ => am_aload_n d_Mod_enter_107 rfl rfl) ?_
        refine xW_pure (fun _ _ _ _ _ => am_dup d_Mod_enter_108 rfl) ?_
        refine xW_gI O f_Mod_486 d_Mod_enter_109 (fun v13 _ => ?_)
        refine xW_pure (fun _ _ _ _ _ => am_iload_n d_Mod_enter_112 rfl rfl) ?_
        refine xW_pure (fun _ _ _ _ _ => am_isub d_Mod_enter_113) ?_
        refine xW_put O f_Mod_486 d_Mod_enter_114 (fun q hq => by cases hq; exact ⟨rfl, rfl, rfl⟩) (fun s14 _ => ?_)
        refine xW_pure (fun _ _ _ _ _ => am_aload_n d_Mod_enter_117 rfl rfl) ?_
        refine xW_pure (fun _ _ _ _ _ => am_dup d_Mod_enter_118 rfl) ?_
        refine xW_gI O f_Mod_489 d_Mod_enter_119 (fun v15 _ => ?_)
        refine xW_pure (fun _ _ _ _ _ => am_aload_n d_Mod_enter_122 rfl rfl) ?_
        refine xW_gI O f_Mod_160 d_Mod_enter_123 (fun v16 _ => ?_)
        refine xW_pure (fun _ _ _ _ _ => am_iadd d_Mod_enter_126) ?_
        refine xW_put O f_Mod_489 d_Mod_enter_127 (fun q hq => by cases hq; exact ⟨rfl, rfl, rfl⟩) (fun s17 _ => ?_)
        refine xW_pure (fun _ _ _ _ _ => am_aload_n d_Mod_enter_130 rfl rfl) ?_
        refine xW_pure (fun _ _ _ _ _ => am_dup d_Mod_enter_131 rfl) ?_
        refine xW_gI O f_Mod_492 d_Mod_enter_132 (fun v18 _ => ?_)
        refine xW_pure (fun _ _ _ _ _ => am_iconst (v := 1) d_Mod_enter_135 (by decide)) ?_
        refine xW_pure (fun _ _ _ _ _ => am_iadd d_Mod_enter_136) ?_
        refine xW_put O f_Mod_492 d_Mod_enter_137 (fun q hq => by cases hq; exact ⟨rfl, rfl, rfl⟩) (fun s19 _ => ?_)
        refine xW_pure (fun _ _ _ _ _ => am_aload_n d_Mod_enter_140 rfl rfl) ?_
        refine xW_pure (fun _ _ _ _ _ => am_iconst (v := 0) d_Mod_enter_141 (by decide)) ?_
        refine xW_put O f_Mod_502 d_Mod_enter_142 (fun q hq => by cases hq; exact ⟨rfl, rfl, rfl⟩) (fun s20 _ => ?_)
        exact xW_ret (fun _ _ _ _ _ => am_vret rfl d_Mod_enter_145)
      · refine xW_pure (fun _ _ _ _ _ => am_aload_n d_Mod_enter_76 rfl rfl) ?_
        refine xW_gR O f_Mod_371 d_Mod_enter_77 (fun v21 _ => ?_)
        refine xW_pure (fun _ _ _ _ _ => am_aload_n d_Mod_enter_80 rfl rfl) ?_
        refine xW_gI O f_Mod_489 d_Mod_enter_81 (fun v22 _ => ?_)
        refine xW_pure (fun _ _ _ _ _ => am_iload_n d_Mod_enter_84 rfl rfl) ?_
        refine xW_pure (fun _ _ _ _ _ => am_iadd d_Mod_enter_85) ?_
        refine xW_pure (fun _ _ _ _ _ => am_aload_n d_Mod_enter_86 rfl rfl) ?_
        refine xW_gR O f_Mod_368 d_Mod_enter_87 (fun v23 _ => ?_)
        refine xW_pure (fun _ _ _ _ _ => am_aload_n d_Mod_enter_90 rfl rfl) ?_
        refine xW_gI O f_Mod_486 d_Mod_enter_91 (fun v24 _ => ?_)
        refine xW_pure (fun _ _ _ _ _ => am_iload_n d_Mod_enter_94 rfl rfl) ?_
        refine xW_pure (fun _ _ _ _ _ => am_isub d_Mod_enter_95) ?_
        refine xW_pure (fun _ _ _ _ _ => am_iload_n d_Mod_enter_96 rfl rfl) ?_
        refine xW_pure (fun _ _ _ _ _ => am_iadd d_Mod_enter_97) ?_
        refine xW_callV O (dx_Vals_copy O T) (fun _ e => ob_Vals_copy e) rfl rfl rfl l_Mod_505 ⟨w_1992, w_1993⟩ rfl (Nat.le_of_ble_eq_true rfl) d_Mod_enter_98 (fun v26 s25 _ => ?_)
        refine xW_pure (fun _ _ _ _ _ => am_iinc (v := 1) d_Mod_enter_101 rfl (by decide) (Nat.le_of_ble_eq_true rfl)) ?_
        refine xW_pure (fun _ _ _ _ _ => am_goto (tgt := 71) d_Mod_enter_104 (by decide)) ?_
        refine xW_locs (lv' := [(0, .ref x0), (1, .ref x1), (2, .int x2), (3, .int (z71.1 + 1))]) rfl ?_
        exact ih71 ((z71.1 + 1), s25)
    · refine xW_pure (fun _ _ _ _ _ => am_aload_n d_Mod_enter_46 rfl rfl) ?_
      refine xW_gR O f_Mod_371 d_Mod_enter_47 (fun v27 _ => ?_)
      refine xW_pure (fun _ _ _ _ _ => am_aload_n d_Mod_enter_50 rfl rfl) ?_
      refine xW_gI O f_Mod_489 d_Mod_enter_51 (fun v28 _ => ?_)
      refine xW_pure (fun _ _ _ _ _ => am_iload_n d_Mod_enter_54 rfl rfl) ?_
      refine xW_pure (fun _ _ _ _ _ => am_iadd d_Mod_enter_55) ?_
      refine xW_pure (fun _ _ _ _ _ => am_iconst (v := 0) d_Mod_enter_56 (by decide)) ?_
      refine xW_pure (fun _ _ _ _ _ => am_iconst (v := 0) d_Mod_enter_57 (by decide)) ?_
      refine xW_pure (fun _ _ _ _ _ => am_lconst (v := 0) d_Mod_enter_58 (by decide)) ?_
      refine xW_pure (fun _ _ _ _ _ => am_lconst (v := 0) d_Mod_enter_59 (by decide)) ?_
      refine xW_callV O (dx_Vals_set O T) (fun _ e => ob_Vals_set e) rfl rfl rfl l_Mod_114 ⟨w_1914, w_1915⟩ rfl (Nat.le_of_ble_eq_true rfl) d_Mod_enter_60 (fun v30 s29 _ => ?_)
      refine xW_pure (fun _ _ _ _ _ => am_iinc (v := 1) d_Mod_enter_63 rfl (by decide) (Nat.le_of_ble_eq_true rfl)) ?_
      refine xW_pure (fun _ _ _ _ _ => am_goto (tgt := 38) d_Mod_enter_66 (by decide)) ?_
      refine xW_locs (lv' := [(0, .ref x0), (1, .ref x1), (2, .int x2), (3, .int (z38.1 + 1))]) rfl ?_
      exact ih38 ((z38.1 + 1), s29)

theorem ob_Mod_enter {d : Nat} {x0 : Nat} {x1 : Nat} {x2 : Int32} {s : HS} {y : Unit × HS} (h : x_Mod_enter d x0 x1 x2 s = some y) : isO s x0 14 = true := by
  cases d with
  | zero => cases h
  | succ d => exact (gd_spec h).1

set_option maxRecDepth 100000 in
def x_Mod_next (d : Nat) (x0 : Nat) (s : HS) : Option (Int32 × HS) := gd s x0 14 ((gI s x0 14 46).bind fun v1 => ((pV s x0 14 46 (.int (v1 + 1))).bind fun s2 => ((gR s2 x0 14 47).bind fun v3 => ((gI s2 x0 14 45).bind fun v4 => ((aR "StowTongueModel$Code" s2 v3 (v4 - 1)).bind fun v5 => ((gR s2 v5 12 0).bind fun v6 => ((gI s2 x0 14 46).bind fun v7 => ((aI s2 v6 (v7 - 1)).bind fun v8 => (some (v8, s2))))))))))

set_option maxRecDepth 100000 in
set_option maxHeartbeats 4000000 in
theorem dx_Mod_next (O : am_ok K X) (T : am_T K) {d : Nat} {x0 : Nat} {s : HS} : xM cvI K X m_Mod_next d [.ref x0] s (x_Mod_next d x0 s) := by
  unfold x_Mod_next
  refine xM_enter (by decide +kernel) (Nat.le_of_ble_eq_true rfl) ?_
  refine xW_gd (fun _ => ?_)
  refine xW_pure (fun _ _ _ _ _ => am_aload_n d_Mod_next_0 rfl rfl) ?_
  refine xW_pure (fun _ _ _ _ _ => am_dup d_Mod_next_1 rfl) ?_
  refine xW_gI O f_Mod_502 d_Mod_next_2 (fun v1 _ => ?_)
  refine xW_pure (fun _ _ _ _ _ => am_iconst (v := 1) d_Mod_next_5 (by decide)) ?_
  refine xW_pure (fun _ _ _ _ _ => am_iadd d_Mod_next_6) ?_
  refine xW_put O f_Mod_502 d_Mod_next_7 (fun q hq => by cases hq; exact ⟨rfl, rfl, rfl⟩) (fun s2 _ => ?_)
  refine xW_pure (fun _ _ _ _ _ => am_aload_n d_Mod_next_10 rfl rfl) ?_
  refine xW_gR O f_Mod_380 d_Mod_next_11 (fun v3 _ => ?_)
  refine xW_pure (fun _ _ _ _ _ => am_aload_n d_Mod_next_14 rfl rfl) ?_
  refine xW_gI O f_Mod_492 d_Mod_next_15 (fun v4 _ => ?_)
  refine xW_pure (fun _ _ _ _ _ => am_iconst (v := 1) d_Mod_next_18 (by decide)) ?_
  refine xW_pure (fun _ _ _ _ _ => am_isub d_Mod_next_19) ?_
  refine xW_aR O (by decide) d_Mod_next_20 (fun v5 _ => ?_)
  refine xW_gR O f_Mod_95 d_Mod_next_21 (fun v6 _ => ?_)
  refine xW_pure (fun _ _ _ _ _ => am_aload_n d_Mod_next_24 rfl rfl) ?_
  refine xW_gI O f_Mod_502 d_Mod_next_25 (fun v7 _ => ?_)
  refine xW_pure (fun _ _ _ _ _ => am_iconst (v := 1) d_Mod_next_28 (by decide)) ?_
  refine xW_pure (fun _ _ _ _ _ => am_isub d_Mod_next_29) ?_
  refine xW_aI O d_Mod_next_30 (fun v8 _ => ?_)
  exact xW_ret (fun _ _ _ _ _ => am_iret rfl d_Mod_next_31)

theorem ob_Mod_next {d : Nat} {x0 : Nat} {s : HS} {y : Int32 × HS} (h : x_Mod_next d x0 s = some y) : isO s x0 14 = true := (gd_spec h).1

set_option maxRecDepth 100000 in
def x_Mod_text (d : Nat) (x0 : Nat) (x1 : Int32) (s : HS) : Option (Int64 × HS) := gd s x0 14 ((gR s x0 14 47).bind fun v1 => ((gI s x0 14 45).bind fun v2 => ((aR "StowTongueModel$Code" s v1 (v2 - 1)).bind fun v3 => ((gR s v3 12 1).bind fun v4 => ((gR s v4 11 2).bind fun v5 => ((gI s v3 12 8).bind fun v6 => ((aL s v5 (x1 - v6)).bind fun v7 => (some (v7, s)))))))))

set_option maxRecDepth 100000 in
set_option maxHeartbeats 4000000 in
theorem dx_Mod_text (O : am_ok K X) (T : am_T K) {d : Nat} {x0 : Nat} {x1 : Int32} {s : HS} : xM cvL K X m_Mod_text d [.ref x0, .int x1] s (x_Mod_text d x0 x1 s) := by
  unfold x_Mod_text
  refine xM_enter (by decide +kernel) (Nat.le_of_ble_eq_true rfl) ?_
  refine xW_gd (fun _ => ?_)
  refine xW_pure (fun _ _ _ _ _ => am_aload_n d_Mod_text_0 rfl rfl) ?_
  refine xW_gR O f_Mod_380 d_Mod_text_1 (fun v1 _ => ?_)
  refine xW_pure (fun _ _ _ _ _ => am_aload_n d_Mod_text_4 rfl rfl) ?_
  refine xW_gI O f_Mod_492 d_Mod_text_5 (fun v2 _ => ?_)
  refine xW_pure (fun _ _ _ _ _ => am_iconst (v := 1) d_Mod_text_8 (by decide)) ?_
  refine xW_pure (fun _ _ _ _ _ => am_isub d_Mod_text_9) ?_
  refine xW_aR O (by decide) d_Mod_text_10 (fun v3 _ => ?_)
  refine xW_pure (fun _ _ _ _ _ => am_astore_n d_Mod_text_11 rfl (Nat.le_of_ble_eq_true rfl)) ?_
  refine xW_pure (fun _ _ _ _ _ => am_aload_n d_Mod_text_12 rfl rfl) ?_
  refine xW_gR O f_Mod_107 d_Mod_text_13 (fun v4 _ => ?_)
  refine xW_gR O f_Mod_508 d_Mod_text_16 (fun v5 _ => ?_)
  refine xW_pure (fun _ _ _ _ _ => am_iload_n d_Mod_text_19 rfl rfl) ?_
  refine xW_pure (fun _ _ _ _ _ => am_aload_n d_Mod_text_20 rfl rfl) ?_
  refine xW_gI O f_Mod_510 d_Mod_text_21 (fun v6 _ => ?_)
  refine xW_pure (fun _ _ _ _ _ => am_isub d_Mod_text_24) ?_
  refine xW_aL O d_Mod_text_25 (fun v7 _ => ?_)
  exact xW_ret (fun _ _ _ _ _ => am_lret rfl d_Mod_text_26)

theorem ob_Mod_text {d : Nat} {x0 : Nat} {x1 : Int32} {s : HS} {y : Int64 × HS} (h : x_Mod_text d x0 x1 s = some y) : isO s x0 14 = true := (gd_spec h).1

set_option maxRecDepth 100000 in
def x_State_findRoot (d : Nat) (x0 : Nat) (x1 : Int64) (s : HS) : Option (Int32 × HS) := gd s x0 13 (loopK (fun (again2 : Int32 × HS → Option (Int32 × HS)) (z2 : Int32 × HS) => ((gI z2.2 x0 13 9).bind fun v1 => (if v1 ≤ z2.1 then (some ((-1), z2.2)) else ((gR z2.2 x0 13 3).bind fun v2 => ((aL z2.2 v2 z2.1).bind fun v3 => (if (lg_cmp v3 x1) = 0 then (some (z2.1, z2.2)) else (again2 ((z2.1 + 1), z2.2)))))))) FU (0, s))

set_option maxRecDepth 100000 in
set_option maxHeartbeats 4000000 in
theorem dx_State_findRoot (O : am_ok K X) (T : am_T K) {d : Nat} {x0 : Nat} {x1 : Int64} {s : HS} : xM cvI K X m_State_findRoot d [.ref x0, .long x1] s (x_State_findRoot d x0 x1 s) := by
  unfold x_State_findRoot
  refine xM_enter (by decide +kernel) (Nat.le_of_ble_eq_true rfl) ?_
  refine xW_gd (fun _ => ?_)
  refine xW_pure (fun _ _ _ _ _ => am_iconst (v := 0) d_State_findRoot_0 (by decide)) ?_
  refine xW_pure (fun _ _ _ _ _ => am_istore_n d_State_findRoot_1 rfl (Nat.le_of_ble_eq_true rfl)) ?_
  refine xW_locs (lv' := [(0, .ref x0), (1, .long x1), (3, .int 0)]) rfl ?_
  refine xW_loop (lvf := fun (z2 : Int32 × HS) => [(0, .ref x0), (1, .long x1), (3, .int z2.1)]) (hsf := fun (z2 : Int32 × HS) => z2.2) (fun again2 ih2 z2 => ?_) FU (0, s)
  refine xW_pure (fun _ _ _ _ _ => am_iload_n d_State_findRoot_2 rfl rfl) ?_
  refine xW_pure (fun _ _ _ _ _ => am_aload_n d_State_findRoot_3 rfl rfl) ?_
  refine xW_gI O f_State_60 d_State_findRoot_4 (fun v1 _ => ?_)
  refine xW_ite (fun _ _ _ _ _ => am_icmp_ge (tgt := 29) d_State_findRoot_7 (by decide)) (fun _ => ?_) (fun _ => ?_)
  · refine xW_pure (fun _ _ _ _ _ => am_iconst (v := (-1)) d_State_findRoot_29 (by decide)) ?_
    exact xW_ret (fun _ _ _ _ _ => am_iret rfl d_State_findRoot_30)
  · refine xW_pure (fun _ _ _ _ _ => am_aload_n d_State_findRoot_10 rfl rfl) ?_
    refine xW_gR O f_State_22 d_State_findRoot_11 (fun v2 _ => ?_)
    refine xW_pure (fun _ _ _ _ _ => am_iload_n d_State_findRoot_14 rfl rfl) ?_
    refine xW_aL O d_State_findRoot_15 (fun v3 _ => ?_)
    refine xW_pure (fun _ _ _ _ _ => am_lload_n d_State_findRoot_16 rfl rfl) ?_
    refine xW_pure (fun _ _ _ _ _ => am_lcmp d_State_findRoot_17) ?_
    refine xW_ite (fun _ _ _ _ _ k1 k2 => am_if_ne (tgt := 23) d_State_findRoot_18 (by decide) k2 k1) (fun _ => ?_) (fun _ => ?_)
    · refine xW_pure (fun _ _ _ _ _ => am_iload_n d_State_findRoot_21 rfl rfl) ?_
      exact xW_ret (fun _ _ _ _ _ => am_iret rfl d_State_findRoot_22)
    · refine xW_pure (fun _ _ _ _ _ => am_iinc (v := 1) d_State_findRoot_23 rfl (by decide) (Nat.le_of_ble_eq_true rfl)) ?_
      refine xW_pure (fun _ _ _ _ _ => am_goto (tgt := 2) d_State_findRoot_26 (by decide)) ?_
      refine xW_locs (lv' := [(0, .ref x0), (1, .long x1), (3, .int (z2.1 + 1))]) rfl ?_
      exact ih2 ((z2.1 + 1), z2.2)

theorem ob_State_findRoot {d : Nat} {x0 : Nat} {x1 : Int64} {s : HS} {y : Int32 × HS} (h : x_State_findRoot d x0 x1 s = some y) : isO s x0 13 = true := (gd_spec h).1

set_option maxRecDepth 100000 in
def x_Mod_setRoot_b154 (d : Nat) (l0 : Nat) (l3 : Int32) (s : HS) : Option (Int32 × HS) := (gR s l0 14 31).bind fun v29 => ((gR s v29 13 6).bind fun v30 => ((gR s l0 14 37).bind fun v31 => ((gI s l0 14 41).bind fun v32 => (bnd (x_Vals_copy d v30 l3 v31 v32 s) fun v34 s33 => (some ((-1), s33))))))

set_option maxRecDepth 100000 in
set_option maxHeartbeats 4000000 in
theorem dx_Mod_setRoot_b154 (O : am_ok K X) (T : am_T K) {d : Nat} {l0 : Nat} {l3 : Int32} {s : HS} : xW cvI K X m_Mod_setRoot (d + 1) 154 [(0, .ref l0), (3, .int l3)] [] s (x_Mod_setRoot_b154 d l0 l3 s) := by
  unfold x_Mod_setRoot_b154
  refine xW_pure (fun _ _ _ _ _ => am_aload_n d_Mod_setRoot_154 rfl rfl) ?_
  refine xW_gR O f_Mod_353 d_Mod_setRoot_155 (fun v29 _ => ?_)
  refine xW_gR O f_Mod_472 d_Mod_setRoot_158 (fun v30 _ => ?_)
  refine xW_pure (fun _ _ _ _ _ => am_iload_n d_Mod_setRoot_161 rfl rfl) ?_
  refine xW_pure (fun _ _ _ _ _ => am_aload_n d_Mod_setRoot_162 rfl rfl) ?_
  refine xW_gR O f_Mod_368 d_Mod_setRoot_163 (fun v31 _ => ?_)
  refine xW_pure (fun _ _ _ _ _ => am_aload_n d_Mod_setRoot_166 rfl rfl) ?_
  refine xW_gI O f_Mod_486 d_Mod_setRoot_167 (fun v32 _ => ?_)
  refine xW_callV O (dx_Vals_copy O T) (fun _ e => ob_Vals_copy e) rfl rfl rfl l_Mod_505 ⟨w_1992, w_1993⟩ rfl (Nat.le_of_ble_eq_true rfl) d_Mod_setRoot_170 (fun v34 s33 _ => ?_)
  refine xW_pure (fun _ _ _ _ _ => am_iconst (v := (-1)) d_Mod_setRoot_173 (by decide)) ?_
  exact xW_ret (fun _ _ _ _ _ => am_iret rfl d_Mod_setRoot_174)

set_option maxRecDepth 100000 in
def x_Mod_setRoot (d : Nat) (x0 : Nat) (x1 : Int64) (s : HS) : Option (Int32 × HS) := match d with
  | 0 => none
  | d + 1 => gd s x0 14 ((gI s x0 14 41).bind fun v1 => ((pV s x0 14 41 (.int (v1 - 1))).bind fun s2 => ((gR s2 x0 14 31).bind fun v3 => (bnd (x_State_findRoot d v3 x1 s2) fun v5 s4 => ((gR s4 x0 14 37).bind fun v6 => ((gR s4 v6 11 0).bind fun v7 => ((gI s4 x0 14 41).bind fun v8 => ((aI s4 v7 v8).bind fun v9 => (if v9 = 0 then (if 0 ≤ v5 then ((gR s4 x0 14 31).bind fun v10 => ((gI s4 v10 13 9).bind fun v11 => ((pV s4 v10 13 9 (.int (v11 - 1))).bind fun s12 => ((gR s12 x0 14 31).bind fun v13 => ((gR s12 v13 13 3).bind fun v14 => ((gR s12 x0 14 31).bind fun v15 => ((gR s12 v15 13 3).bind fun v16 => ((gR s12 x0 14 31).bind fun v17 => ((gI s12 v17 13 9).bind fun v18 => ((aL s12 v16 v18).bind fun v19 => ((sV s12 .long v14 v5 (.long v19)).bind fun s20 => ((gR s20 x0 14 31).bind fun v21 => ((gR s20 v21 13 6).bind fun v22 => ((gR s20 x0 14 31).bind fun v23 => ((gR s20 v23 13 6).bind fun v24 => ((gR s20 x0 14 31).bind fun v25 => ((gI s20 v25 13 9).bind fun v26 => (bnd (x_Vals_copy d v22 v5 v24 v26 s20) fun v28 s27 => (some ((-1), s27)))))))))))))))))))) else (some ((-1), s4))) else (if 0 ≤ v5 then (x_Mod_setRoot_b154 d x0 v5 s4) else ((gR s4 x0 14 31).bind fun v35 => ((gI s4 v35 13 9).bind fun v36 => (if v36 = 12 then (some (8, s4)) else ((gR s4 x0 14 31).bind fun v37 => ((gI s4 v37 13 9).bind fun v38 => ((gR s4 x0 14 31).bind fun v39 => ((gI s4 v39 13 9).bind fun v40 => ((pV s4 v39 13 9 (.int (v40 + 1))).bind fun s41 => ((gR s41 x0 14 31).bind fun v42 => ((gR s41 v42 13 3).bind fun v43 => ((sV s41 .long v43 v38 (.long x1)).bind fun s44 => (x_Mod_setRoot_b154 d x0 v38 s44))))))))))))))))))))))

set_option maxRecDepth 100000 in
set_option maxHeartbeats 4000000 in
theorem dx_Mod_setRoot (O : am_ok K X) (T : am_T K) {d : Nat} {x0 : Nat} {x1 : Int64} {s : HS} : xM cvI K X m_Mod_setRoot d [.ref x0, .long x1] s (x_Mod_setRoot d x0 x1 s) := by
  cases d with
  | zero => exact xM_none
  | succ d =>
    unfold x_Mod_setRoot
    refine xM_enter (by decide +kernel) (Nat.le_of_ble_eq_true rfl) ?_
    refine xW_gd (fun _ => ?_)
    refine xW_pure (fun _ _ _ _ _ => am_aload_n d_Mod_setRoot_0 rfl rfl) ?_
    refine xW_pure (fun _ _ _ _ _ => am_dup d_Mod_setRoot_1 rfl) ?_
    refine xW_gI O f_Mod_486 d_Mod_setRoot_2 (fun v1 _ => ?_)
    refine xW_pure (fun _ _ _ _ _ => am_iconst (v := 1) d_Mod_setRoot_5 (by decide)) ?_
    refine xW_pure (fun _ _ _ _ _ => am_isub d_Mod_setRoot_6) ?_
    refine xW_put O f_Mod_486 d_Mod_setRoot_7 (fun q hq => by cases hq; exact ⟨rfl, rfl, rfl⟩) (fun s2 _ => ?_)
    refine xW_pure (fun _ _ _ _ _ => am_aload_n d_Mod_setRoot_10 rfl rfl) ?_
    refine xW_gR O f_Mod_353 d_Mod_setRoot_11 (fun v3 _ => ?_)
    refine xW_pure (fun _ _ _ _ _ => am_lload_n d_Mod_setRoot_14 rfl rfl) ?_
    refine xW_callV O (dx_State_findRoot O T) (fun _ e => ob_State_findRoot e) rfl rfl rfl l_Mod_469 ⟨w_2043, w_2044⟩ rfl (Nat.le_of_ble_eq_true rfl) d_Mod_setRoot_15 (fun v5 s4 _ => ?_)
    refine xW_pure (fun _ _ _ _ _ => am_istore_n d_Mod_setRoot_18 rfl (Nat.le_of_ble_eq_true rfl)) ?_
    refine xW_pure (fun _ _ _ _ _ => am_aload_n d_Mod_setRoot_19 rfl rfl) ?_
    refine xW_gR O f_Mod_368 d_Mod_setRoot_20 (fun v6 _ => ?_)
    refine xW_gR O f_Mod_515 d_Mod_setRoot_23 (fun v7 _ => ?_)
    refine xW_pure (fun _ _ _ _ _ => am_aload_n d_Mod_setRoot_26 rfl rfl) ?_
    refine xW_gI O f_Mod_486 d_Mod_setRoot_27 (fun v8 _ => ?_)
    refine xW_aI O d_Mod_setRoot_30 (fun v9 _ => ?_)
    refine xW_ite (fun _ _ _ _ _ k1 k2 => am_if_ne (tgt := 104) d_Mod_setRoot_31 (by decide) k2 k1) (fun _ => ?_) (fun _ => ?_)
    · refine xW_pure (fun _ _ _ _ _ => am_iload_n d_Mod_setRoot_34 rfl rfl) ?_
      refine xW_ite (fun _ _ _ _ _ => am_if_ge (tgt := 40) d_Mod_setRoot_35 (by decide)) (fun _ => ?_) (fun _ => ?_)
      · refine xW_pure (fun _ _ _ _ _ => am_aload_n d_Mod_setRoot_40 rfl rfl) ?_
        refine xW_gR O f_Mod_353 d_Mod_setRoot_41 (fun v10 _ => ?_)
        refine xW_pure (fun _ _ _ _ _ => am_dup d_Mod_setRoot_44 rfl) ?_
        refine xW_gI O f_Mod_463 d_Mod_setRoot_45 (fun v11 _ => ?_)
        refine xW_pure (fun _ _ _ _ _ => am_iconst (v := 1) d_Mod_setRoot_48 (by decide)) ?_
        refine xW_pure (fun _ _ _ _ _ => am_isub d_Mod_setRoot_49) ?_
        refine xW_put O f_Mod_463 d_Mod_setRoot_50 (fun q hq => by cases hq; exact ⟨rfl, rfl, rfl⟩) (fun s12 _ => ?_)
        refine xW_pure (fun _ _ _ _ _ => am_aload_n d_Mod_setRoot_53 rfl rfl) ?_
        refine xW_gR O f_Mod_353 d_Mod_setRoot_54 (fun v13 _ => ?_)
        refine xW_gR O f_Mod_466 d_Mod_setRoot_57 (fun v14 _ => ?_)
        refine xW_pure (fun _ _ _ _ _ => am_iload_n d_Mod_setRoot_60 rfl rfl) ?_
        refine xW_pure (fun _ _ _ _ _ => am_aload_n d_Mod_setRoot_61 rfl rfl) ?_
        refine xW_gR O f_Mod_353 d_Mod_setRoot_62 (fun v15 _ => ?_)
        refine xW_gR O f_Mod_466 d_Mod_setRoot_65 (fun v16 _ => ?_)
        refine xW_pure (fun _ _ _ _ _ => am_aload_n d_Mod_setRoot_68 rfl rfl) ?_
        refine xW_gR O f_Mod_353 d_Mod_setRoot_69 (fun v17 _ => ?_)
        refine xW_gI O f_Mod_463 d_Mod_setRoot_72 (fun v18 _ => ?_)
        refine xW_aL O d_Mod_setRoot_75 (fun v19 _ => ?_)
        refine xW_sL O d_Mod_setRoot_76 (fun s20 _ => ?_)
        refine xW_pure (fun _ _ _ _ _ => am_aload_n d_Mod_setRoot_77 rfl rfl) ?_
        refine xW_gR O f_Mod_353 d_Mod_setRoot_78 (fun v21 _ => ?_)
        refine xW_gR O f_Mod_472 d_Mod_setRoot_81 (fun v22 _ => ?_)
        refine xW_pure (fun _ _ _ _ _ => am_iload_n d_Mod_setRoot_84 rfl rfl) ?_
        refine xW_pure (fun _ _ _ _ _ => am_aload_n d_Mod_setRoot_85 rfl rfl) ?_
        refine xW_gR O f_Mod_353 d_Mod_setRoot_86 (fun v23 _ => ?_)
        refine xW_gR O f_Mod_472 d_Mod_setRoot_89 (fun v24 _ => ?_)
        refine xW_pure (fun _ _ _ _ _ => am_aload_n d_Mod_setRoot_92 rfl rfl) ?_
        refine xW_gR O f_Mod_353 d_Mod_setRoot_93 (fun v25 _ => ?_)
        refine xW_gI O f_Mod_463 d_Mod_setRoot_96 (fun v26 _ => ?_)
        refine xW_callV O (dx_Vals_copy O T) (fun _ e => ob_Vals_copy e) rfl rfl rfl l_Mod_505 ⟨w_1992, w_1993⟩ rfl (Nat.le_of_ble_eq_true rfl) d_Mod_setRoot_99 (fun v28 s27 _ => ?_)
        refine xW_pure (fun _ _ _ _ _ => am_iconst (v := (-1)) d_Mod_setRoot_102 (by decide)) ?_
        exact xW_ret (fun _ _ _ _ _ => am_iret rfl d_Mod_setRoot_103)
      · refine xW_pure (fun _ _ _ _ _ => am_iconst (v := (-1)) d_Mod_setRoot_38 (by decide)) ?_
        exact xW_ret (fun _ _ _ _ _ => am_iret rfl d_Mod_setRoot_39)
    · refine xW_pure (fun _ _ _ _ _ => am_iload_n d_Mod_setRoot_104 rfl rfl) ?_
      refine xW_ite (fun _ _ _ _ _ => am_if_ge (tgt := 154) d_Mod_setRoot_105 (by decide)) (fun _ => ?_) (fun _ => ?_)
      · refine xW_locs (lv' := [(0, .ref x0), (3, .int v5)]) rfl ?_
        exact dx_Mod_setRoot_b154 O T
      · refine xW_pure (fun _ _ _ _ _ => am_aload_n d_Mod_setRoot_108 rfl rfl) ?_
        refine xW_gR O f_Mod_353 d_Mod_setRoot_109 (fun v35 _ => ?_)
        refine xW_gI O f_Mod_463 d_Mod_setRoot_112 (fun v36 _ => ?_)
        refine xW_pure (fun _ _ _ _ _ => am_bipush (v := 12) d_Mod_setRoot_115 (by decide)) ?_
        refine xW_ite (fun _ _ _ _ _ k1 k2 => am_icmp_ne (tgt := 123) d_Mod_setRoot_117 (by decide) k2 k1) (fun _ => ?_) (fun _ => ?_)
        · refine xW_pure (fun _ _ _ _ _ => am_bipush (v := 8) d_Mod_setRoot_120 (by decide)) ?_
          exact xW_ret (fun _ _ _ _ _ => am_iret rfl d_Mod_setRoot_122)
        · refine xW_pure (fun _ _ _ _ _ => am_aload_n d_Mod_setRoot_123 rfl rfl) ?_
          refine xW_gR O f_Mod_353 d_Mod_setRoot_124 (fun v37 _ => ?_)
          refine xW_gI O f_Mod_463 d_Mod_setRoot_127 (fun v38 _ => ?_)
          refine xW_pure (fun _ _ _ _ _ => am_istore_n d_Mod_setRoot_130 rfl (Nat.le_of_ble_eq_true rfl)) ?_
          refine xW_pure (fun _ _ _ _ _ => am_aload_n d_Mod_setRoot_131 rfl rfl) ?_
          refine xW_gR O f_Mod_353 d_Mod_setRoot_132 (fun v39 _ => ?_)
          refine xW_pure (fun _ _ _ _ _ => am_dup d_Mod_setRoot_135 rfl) ?_
          refine xW_gI O f_Mod_463 d_Mod_setRoot_136 (fun v40 _ => ?_)
          refine xW_pure (fun _ _ _ _ _ => am_iconst (v := 1) d_Mod_setRoot_139 (by decide)) ?_
          refine xW_pure (fun _ _ _ _ _ => am_iadd d_Mod_setRoot_140) ?_
          refine xW_put O f_Mod_463 d_Mod_setRoot_141 (fun q hq => by cases hq; exact ⟨rfl, rfl, rfl⟩) (fun s41 _ => ?_)
          refine xW_pure (fun _ _ _ _ _ => am_aload_n d_Mod_setRoot_144 rfl rfl) ?_
          refine xW_gR O f_Mod_353 d_Mod_setRoot_145 (fun v42 _ => ?_)
          refine xW_gR O f_Mod_466 d_Mod_setRoot_148 (fun v43 _ => ?_)
          refine xW_pure (fun _ _ _ _ _ => am_iload_n d_Mod_setRoot_151 rfl rfl) ?_
          refine xW_pure (fun _ _ _ _ _ => am_lload_n d_Mod_setRoot_152 rfl rfl) ?_
          refine xW_sL O d_Mod_setRoot_153 (fun s44 _ => ?_)
          refine xW_locs (lv' := [(0, .ref x0), (3, .int v38)]) rfl ?_
          exact dx_Mod_setRoot_b154 O T

theorem ob_Mod_setRoot {d : Nat} {x0 : Nat} {x1 : Int64} {s : HS} {y : Int32 × HS} (h : x_Mod_setRoot d x0 x1 s = some y) : isO s x0 14 = true := by
  cases d with
  | zero => cases h
  | succ d => exact (gd_spec h).1

set_option maxRecDepth 100000 in
def x_Mod_go_I (d : Nat) (x0 : Nat) (x1 : Int32) (s : HS) : Option (Unit × HS) := gd s x0 14 ((gR s x0 14 47).bind fun v1 => ((gI s x0 14 45).bind fun v2 => ((aR "StowTongueModel$Code" s v1 (v2 - 1)).bind fun v3 => ((gI s v3 12 7).bind fun v4 => ((pV s x0 14 46 (.int (x1 - v4))).bind fun s5 => (some ((), s5)))))))

set_option maxRecDepth 100000 in
set_option maxHeartbeats 4000000 in
theorem dx_Mod_go_I (O : am_ok K X) (T : am_T K) {d : Nat} {x0 : Nat} {x1 : Int32} {s : HS} : xM cvU K X m_Mod_go_I d [.ref x0, .int x1] s (x_Mod_go_I d x0 x1 s) := by
  unfold x_Mod_go_I
  refine xM_enter (by decide +kernel) (Nat.le_of_ble_eq_true rfl) ?_
  refine xW_gd (fun _ => ?_)
  refine xW_pure (fun _ _ _ _ _ => am_aload_n d_Mod_go_I_0 rfl rfl) ?_
  refine xW_pure (fun _ _ _ _ _ => am_iload_n d_Mod_go_I_1 rfl rfl) ?_
  refine xW_pure (fun _ _ _ _ _ => am_aload_n d_Mod_go_I_2 rfl rfl) ?_
  refine xW_gR O f_Mod_380 d_Mod_go_I_3 (fun v1 _ => ?_)
  refine xW_pure (fun _ _ _ _ _ => am_aload_n d_Mod_go_I_6 rfl rfl) ?_
  refine xW_gI O f_Mod_492 d_Mod_go_I_7 (fun v2 _ => ?_)
  refine xW_pure (fun _ _ _ _ _ => am_iconst (v := 1) d_Mod_go_I_10 (by decide)) ?_
  refine xW_pure (fun _ _ _ _ _ => am_isub d_Mod_go_I_11) ?_
  refine xW_aR O (by decide) d_Mod_go_I_12 (fun v3 _ => ?_)
  refine xW_gI O f_Mod_513 d_Mod_go_I_13 (fun v4 _ => ?_)
  refine xW_pure (fun _ _ _ _ _ => am_isub d_Mod_go_I_16) ?_
  refine xW_put O f_Mod_502 d_Mod_go_I_17 (fun q hq => by cases hq; exact ⟨rfl, rfl, rfl⟩) (fun s5 _ => ?_)
  exact xW_ret (fun _ _ _ _ _ => am_vret rfl d_Mod_go_I_20)

theorem ob_Mod_go_I {d : Nat} {x0 : Nat} {x1 : Int32} {s : HS} {y : Unit × HS} (h : x_Mod_go_I d x0 x1 s = some y) : isO s x0 14 = true := (gd_spec h).1

set_option maxRecDepth 100000 in
def x_Mod_isTrue (d : Nat) (x0 : Nat) (x1 : Int32) (s : HS) : Option (Int32 × HS) := gd s x0 14 ((gR s x0 14 37).bind fun v1 => ((gR s v1 11 0).bind fun v2 => ((aI s v2 x1).bind fun v3 => (if v3 = 0 then (some (0, s)) else ((gR s x0 14 37).bind fun v4 => ((gR s v4 11 0).bind fun v5 => ((aI s v5 x1).bind fun v6 => (if v6 = 1 then ((gR s x0 14 37).bind fun v7 => ((gR s v7 11 2).bind fun v8 => ((aL s v8 x1).bind fun v9 => (if (lg_cmp v9 0) = 0 then (some (0, s)) else (some (1, s)))))) else (some (1, s))))))))))

set_option maxRecDepth 100000 in
set_option maxHeartbeats 4000000 in
theorem dx_Mod_isTrue (O : am_ok K X) (T : am_T K) {d : Nat} {x0 : Nat} {x1 : Int32} {s : HS} : xM cvI K X m_Mod_isTrue d [.ref x0, .int x1] s (x_Mod_isTrue d x0 x1 s) := by
  unfold x_Mod_isTrue
  refine xM_enter (by decide +kernel) (Nat.le_of_ble_eq_true rfl) ?_
  refine xW_gd (fun _ => ?_)
  refine xW_pure (fun _ _ _ _ _ => am_aload_n d_Mod_isTrue_0 rfl rfl) ?_
  refine xW_gR O f_Mod_368 d_Mod_isTrue_1 (fun v1 _ => ?_)
  refine xW_gR O f_Mod_515 d_Mod_isTrue_4 (fun v2 _ => ?_)
  refine xW_pure (fun _ _ _ _ _ => am_iload_n d_Mod_isTrue_7 rfl rfl) ?_
  refine xW_aI O d_Mod_isTrue_8 (fun v3 _ => ?_)
  refine xW_ite (fun _ _ _ _ _ => am_if_eq (tgt := 43) d_Mod_isTrue_9 (by decide)) (fun _ => ?_) (fun _ => ?_)
  · refine xW_pure (fun _ _ _ _ _ => am_iconst (v := 0) d_Mod_isTrue_43 (by decide)) ?_
    exact xW_ret (fun _ _ _ _ _ => am_zret (ty := .boolean) rfl rfl d_Mod_isTrue_44)
  · refine xW_pure (fun _ _ _ _ _ => am_aload_n d_Mod_isTrue_12 rfl rfl) ?_
    refine xW_gR O f_Mod_368 d_Mod_isTrue_13 (fun v4 _ => ?_)
    refine xW_gR O f_Mod_515 d_Mod_isTrue_16 (fun v5 _ => ?_)
    refine xW_pure (fun _ _ _ _ _ => am_iload_n d_Mod_isTrue_19 rfl rfl) ?_
    refine xW_aI O d_Mod_isTrue_20 (fun v6 _ => ?_)
    refine xW_pure (fun _ _ _ _ _ => am_iconst (v := 1) d_Mod_isTrue_21 (by decide)) ?_
    refine xW_ite (fun _ _ _ _ _ k1 k2 => am_icmp_ne (tgt := 39) d_Mod_isTrue_22 (by decide) k2 k1) (fun _ => ?_) (fun _ => ?_)
    · refine xW_pure (fun _ _ _ _ _ => am_aload_n d_Mod_isTrue_25 rfl rfl) ?_
      refine xW_gR O f_Mod_368 d_Mod_isTrue_26 (fun v7 _ => ?_)
      refine xW_gR O f_Mod_508 d_Mod_isTrue_29 (fun v8 _ => ?_)
      refine xW_pure (fun _ _ _ _ _ => am_iload_n d_Mod_isTrue_32 rfl rfl) ?_
      refine xW_aL O d_Mod_isTrue_33 (fun v9 _ => ?_)
      refine xW_pure (fun _ _ _ _ _ => am_lconst (v := 0) d_Mod_isTrue_34 (by decide)) ?_
      refine xW_pure (fun _ _ _ _ _ => am_lcmp d_Mod_isTrue_35) ?_
      refine xW_ite (fun _ _ _ _ _ => am_if_eq (tgt := 43) d_Mod_isTrue_36 (by decide)) (fun _ => ?_) (fun _ => ?_)
      · refine xW_pure (fun _ _ _ _ _ => am_iconst (v := 0) d_Mod_isTrue_43 (by decide)) ?_
        exact xW_ret (fun _ _ _ _ _ => am_zret (ty := .boolean) rfl rfl d_Mod_isTrue_44)
      · refine xW_pure (fun _ _ _ _ _ => am_iconst (v := 1) d_Mod_isTrue_39 (by decide)) ?_
        refine xW_pure (fun _ _ _ _ _ => am_goto (tgt := 44) d_Mod_isTrue_40 (by decide)) ?_
        exact xW_ret (fun _ _ _ _ _ => am_zret (ty := .boolean) rfl rfl d_Mod_isTrue_44)
    · refine xW_pure (fun _ _ _ _ _ => am_iconst (v := 1) d_Mod_isTrue_39 (by decide)) ?_
      refine xW_pure (fun _ _ _ _ _ => am_goto (tgt := 44) d_Mod_isTrue_40 (by decide)) ?_
      exact xW_ret (fun _ _ _ _ _ => am_zret (ty := .boolean) rfl rfl d_Mod_isTrue_44)

theorem ob_Mod_isTrue {d : Nat} {x0 : Nat} {x1 : Int32} {s : HS} {y : Int32 × HS} (h : x_Mod_isTrue d x0 x1 s = some y) : isO s x0 14 = true := (gd_spec h).1

set_option maxRecDepth 100000 in
def x_Mod_spend (d : Nat) (x0 : Nat) (s : HS) : Option (Int32 × HS) := gd s x0 14 ((gI s x0 14 44).bind fun v1 => ((gI s x0 14 43).bind fun v2 => (if v1 = v2 then (some (0, s)) else ((gI s x0 14 44).bind fun v3 => ((pV s x0 14 44 (.int (v3 + 1))).bind fun s4 => (some (1, s4)))))))

set_option maxRecDepth 100000 in
set_option maxHeartbeats 4000000 in
theorem dx_Mod_spend (O : am_ok K X) (T : am_T K) {d : Nat} {x0 : Nat} {s : HS} : xM cvI K X m_Mod_spend d [.ref x0] s (x_Mod_spend d x0 s) := by
  unfold x_Mod_spend
  refine xM_enter (by decide +kernel) (Nat.le_of_ble_eq_true rfl) ?_
  refine xW_gd (fun _ => ?_)
  refine xW_pure (fun _ _ _ _ _ => am_aload_n d_Mod_spend_0 rfl rfl) ?_
  refine xW_gI O f_Mod_446 d_Mod_spend_1 (fun v1 _ => ?_)
  refine xW_pure (fun _ _ _ _ _ => am_aload_n d_Mod_spend_4 rfl rfl) ?_
  refine xW_gI O f_Mod_443 d_Mod_spend_5 (fun v2 _ => ?_)
  refine xW_ite (fun _ _ _ _ _ k1 k2 => am_icmp_ne (tgt := 13) d_Mod_spend_8 (by decide) k2 k1) (fun _ => ?_) (fun _ => ?_)
  · refine xW_pure (fun _ _ _ _ _ => am_iconst (v := 0) d_Mod_spend_11 (by decide)) ?_
    exact xW_ret (fun _ _ _ _ _ => am_zret (ty := .boolean) rfl rfl d_Mod_spend_12)
  · refine xW_pure (fun _ _ _ _ _ => am_aload_n d_Mod_spend_13 rfl rfl) ?_
    refine xW_pure (fun _ _ _ _ _ => am_dup d_Mod_spend_14 rfl) ?_
    refine xW_gI O f_Mod_446 d_Mod_spend_15 (fun v3 _ => ?_)
    refine xW_pure (fun _ _ _ _ _ => am_iconst (v := 1) d_Mod_spend_18 (by decide)) ?_
    refine xW_pure (fun _ _ _ _ _ => am_iadd d_Mod_spend_19) ?_
    refine xW_put O f_Mod_446 d_Mod_spend_20 (fun q hq => by cases hq; exact ⟨rfl, rfl, rfl⟩) (fun s4 _ => ?_)
    refine xW_pure (fun _ _ _ _ _ => am_iconst (v := 1) d_Mod_spend_23 (by decide)) ?_
    exact xW_ret (fun _ _ _ _ _ => am_zret (ty := .boolean) rfl rfl d_Mod_spend_24)

theorem ob_Mod_spend {d : Nat} {x0 : Nat} {s : HS} {y : Int32 × HS} (h : x_Mod_spend d x0 s = some y) : isO s x0 14 = true := (gd_spec h).1

set_option maxRecDepth 100000 in
def x_Mod_say (d : Nat) (x0 : Nat) (x1 : Int32) (s : HS) : Option (Int32 × HS) := gd s x0 14 ((gI s x0 14 3).bind fun v1 => (if v1 = 600 then (some (0, s)) else ((gR s x0 14 1).bind fun v2 => ((gI s x0 14 3).bind fun v3 => ((sV s .byte v2 v3 (.int ((x1 : Int32).toInt8.toInt32 : Int32).toInt8.toInt32)).bind fun s4 => ((gI s4 x0 14 3).bind fun v5 => ((pV s4 x0 14 3 (.int (v5 + 1))).bind fun s6 => (some (1, s6)))))))))

set_option maxRecDepth 100000 in
set_option maxHeartbeats 4000000 in
theorem dx_Mod_say (O : am_ok K X) (T : am_T K) {d : Nat} {x0 : Nat} {x1 : Int32} {s : HS} : xM cvI K X m_Mod_say d [.ref x0, .int x1] s (x_Mod_say d x0 x1 s) := by
  unfold x_Mod_say
  refine xM_enter (by decide +kernel) (Nat.le_of_ble_eq_true rfl) ?_
  refine xW_gd (fun _ => ?_)
  refine xW_pure (fun _ _ _ _ _ => am_aload_n d_Mod_say_0 rfl rfl) ?_
  refine xW_gI O f_Mod_440 d_Mod_say_1 (fun v1 _ => ?_)
  refine xW_pure (fun _ _ _ _ _ => am_sipush (v := 600) d_Mod_say_4 (by decide)) ?_
  refine xW_ite (fun _ _ _ _ _ k1 k2 => am_icmp_ne (tgt := 12) d_Mod_say_7 (by decide) k2 k1) (fun _ => ?_) (fun _ => ?_)
  · refine xW_pure (fun _ _ _ _ _ => am_iconst (v := 0) d_Mod_say_10 (by decide)) ?_
    exact xW_ret (fun _ _ _ _ _ => am_zret (ty := .boolean) rfl rfl d_Mod_say_11)
  · refine xW_pure (fun _ _ _ _ _ => am_aload_n d_Mod_say_12 rfl rfl) ?_
    refine xW_gR O f_Mod_340 d_Mod_say_13 (fun v2 _ => ?_)
    refine xW_pure (fun _ _ _ _ _ => am_aload_n d_Mod_say_16 rfl rfl) ?_
    refine xW_gI O f_Mod_440 d_Mod_say_17 (fun v3 _ => ?_)
    refine xW_pure (fun _ _ _ _ _ => am_iload_n d_Mod_say_20 rfl rfl) ?_
    refine xW_pure (fun _ _ _ _ _ => am_i2b d_Mod_say_21 rfl) ?_
    refine xW_sB O d_Mod_say_22 (fun s4 _ => ?_)
    refine xW_pure (fun _ _ _ _ _ => am_aload_n d_Mod_say_23 rfl rfl) ?_
    refine xW_pure (fun _ _ _ _ _ => am_dup d_Mod_say_24 rfl) ?_
    refine xW_gI O f_Mod_440 d_Mod_say_25 (fun v5 _ => ?_)
    refine xW_pure (fun _ _ _ _ _ => am_iconst (v := 1) d_Mod_say_28 (by decide)) ?_
    refine xW_pure (fun _ _ _ _ _ => am_iadd d_Mod_say_29) ?_
    refine xW_put O f_Mod_440 d_Mod_say_30 (fun q hq => by cases hq; exact ⟨rfl, rfl, rfl⟩) (fun s6 _ => ?_)
    refine xW_pure (fun _ _ _ _ _ => am_iconst (v := 1) d_Mod_say_33 (by decide)) ?_
    exact xW_ret (fun _ _ _ _ _ => am_zret (ty := .boolean) rfl rfl d_Mod_say_34)

theorem ob_Mod_say {d : Nat} {x0 : Nat} {x1 : Int32} {s : HS} {y : Int32 × HS} (h : x_Mod_say d x0 x1 s = some y) : isO s x0 14 = true := (gd_spec h).1

set_option maxRecDepth 100000 in
def x_Vals_sign_b21 (d : Nat) (l2 : Int32) (t0 : Int64) (s : HS) : Option (Int32 × HS) := some (((((t0 : Int64).toUInt64 >>> (((8 * (l2 &&& 7)) : Int32).toInt64.toUInt64 &&& Int64.toUInt64 63)).toInt64 : Int64).toInt32 &&& 255), s)

set_option maxRecDepth 100000 in
set_option maxHeartbeats 4000000 in
theorem dx_Vals_sign_b21 (O : am_ok K X) (T : am_T K) {d : Nat} {l2 : Int32} {t0 : Int64} {s : HS} : xW cvI K X m_Vals_sign d 21 [(2, .int l2)] [.long t0] s (x_Vals_sign_b21 d l2 t0 s) := by
  unfold x_Vals_sign_b21
  refine xW_pure (fun _ _ _ _ _ => am_bipush (v := 8) d_Vals_sign_21 (by decide)) ?_
  refine xW_pure (fun _ _ _ _ _ => am_iload_n d_Vals_sign_23 rfl rfl) ?_
  refine xW_pure (fun _ _ _ _ _ => am_bipush (v := 7) d_Vals_sign_24 (by decide)) ?_
  refine xW_pure (fun _ _ _ _ _ => am_iand d_Vals_sign_26) ?_
  refine xW_pure (fun _ _ _ _ _ => am_imul d_Vals_sign_27) ?_
  refine xW_pure (fun _ _ _ _ _ => am_lushr d_Vals_sign_28 rfl) ?_
  refine xW_pure (fun _ _ _ _ _ => am_l2i d_Vals_sign_29 rfl) ?_
  refine xW_pure (fun _ _ _ _ _ => am_sipush (v := 255) d_Vals_sign_30 (by decide)) ?_
  refine xW_pure (fun _ _ _ _ _ => am_iand d_Vals_sign_33) ?_
  exact xW_ret (fun _ _ _ _ _ => am_iret rfl d_Vals_sign_34)

set_option maxRecDepth 100000 in
def x_Vals_sign (d : Nat) (x0 : Nat) (x1 : Int32) (x2 : Int32) (s : HS) : Option (Int32 × HS) := gd s x0 11 (if 8 ≤ x2 then ((gR s x0 11 3).bind fun v1 => ((aL s v1 x1).bind fun v2 => (x_Vals_sign_b21 d x2 v2 s))) else ((gR s x0 11 2).bind fun v3 => ((aL s v3 x1).bind fun v4 => (x_Vals_sign_b21 d x2 v4 s))))

set_option maxRecDepth 100000 in
set_option maxHeartbeats 4000000 in
theorem dx_Vals_sign (O : am_ok K X) (T : am_T K) {d : Nat} {x0 : Nat} {x1 : Int32} {x2 : Int32} {s : HS} : xM cvI K X m_Vals_sign d [.ref x0, .int x1, .int x2] s (x_Vals_sign d x0 x1 x2 s) := by
  unfold x_Vals_sign
  refine xM_enter (by decide +kernel) (Nat.le_of_ble_eq_true rfl) ?_
  refine xW_gd (fun _ => ?_)
  refine xW_pure (fun _ _ _ _ _ => am_iload_n d_Vals_sign_0 rfl rfl) ?_
  refine xW_pure (fun _ _ _ _ _ => am_bipush (v := 8) d_Vals_sign_1 (by decide)) ?_
  refine xW_ite (fun _ _ _ _ _ => am_icmp_ge (tgt := 15) d_Vals_sign_3 (by decide)) (fun _ => ?_) (fun _ => ?_)
  · refine xW_pure (fun _ _ _ _ _ => am_aload_n d_Vals_sign_15 rfl rfl) ?_
    refine xW_gR O f_Vals_20 d_Vals_sign_16 (fun v1 _ => ?_)
    refine xW_pure (fun _ _ _ _ _ => am_iload_n d_Vals_sign_19 rfl rfl) ?_
    refine xW_aL O d_Vals_sign_20 (fun v2 _ => ?_)
    refine xW_locs (lv' := [(2, .int x2)]) rfl ?_
    exact dx_Vals_sign_b21 O T
  · refine xW_pure (fun _ _ _ _ _ => am_aload_n d_Vals_sign_6 rfl rfl) ?_
    refine xW_gR O f_Vals_16 d_Vals_sign_7 (fun v3 _ => ?_)
    refine xW_pure (fun _ _ _ _ _ => am_iload_n d_Vals_sign_10 rfl rfl) ?_
    refine xW_aL O d_Vals_sign_11 (fun v4 _ => ?_)
    refine xW_pure (fun _ _ _ _ _ => am_goto (tgt := 21) d_Vals_sign_12 (by decide)) ?_
    refine xW_locs (lv' := [(2, .int x2)]) rfl ?_
    exact dx_Vals_sign_b21 O T

theorem ob_Vals_sign {d : Nat} {x0 : Nat} {x1 : Int32} {x2 : Int32} {s : HS} {y : Int32 × HS} (h : x_Vals_sign d x0 x1 x2 s = some y) : isO s x0 11 = true := (gd_spec h).1

set_option maxRecDepth 100000 in
def x_Mod_call (d : Nat) (x0 : Nat) (x1 : Int64) (x2 : Int32) (s : HS) : Option (Int32 × HS) := match d with
  | 0 => none
  | d + 1 => gd s x0 14 (bnd (x_Mod_spend d x0 s) fun v2 s1 => (if v2 = 0 then (some (1, s1)) else ((gR s1 x0 14 31).bind fun v3 => (bnd (x_State_findFunction d v3 x1 s1) fun v5 s4 => (if v5 < 0 then (some (6, s4)) else ((gR s4 x0 14 31).bind fun v6 => ((gR s4 v6 13 7).bind fun v7 => ((aR "StowTongueModel$Code" s4 v7 v5).bind fun v8 => ((gI s4 v8 12 5).bind fun v9 => (if v9 = x2 then ((gI s4 x0 14 45).bind fun v10 => (if v10 ≤ 8 then ((gR s4 x0 14 31).bind fun v11 => ((gR s4 v11 13 7).bind fun v12 => ((aR "StowTongueModel$Code" s4 v12 v5).bind fun v13 => (bnd (x_Mod_enter d x0 v13 x2 s4) fun v15 s14 => (some ((-1), s14)))))) else (some (7, s4)))) else (some (6, s4))))))))))))

set_option maxRecDepth 100000 in
set_option maxHeartbeats 4000000 in
theorem dx_Mod_call (O : am_ok K X) (T : am_T K) {d : Nat} {x0 : Nat} {x1 : Int64} {x2 : Int32} {s : HS} : xM cvI K X m_Mod_call d [.ref x0, .long x1, .int x2] s (x_Mod_call d x0 x1 x2 s) := by
  cases d with
  | zero => exact xM_none
  | succ d =>
    unfold x_Mod_call
    refine xM_enter (by decide +kernel) (Nat.le_of_ble_eq_true rfl) ?_
    refine xW_gd (fun _ => ?_)
    refine xW_pure (fun _ _ _ _ _ => am_aload_n d_Mod_call_0 rfl rfl) ?_
    refine xW_callV O (dx_Mod_spend O T) (fun _ e => ob_Mod_spend e) rfl rfl rfl l_Mod_530 ⟨w_2060, w_125⟩ rfl (Nat.le_of_ble_eq_true rfl) d_Mod_call_1 (fun v2 s1 _ => ?_)
    refine xW_ite (fun _ _ _ _ _ k1 k2 => am_if_ne (tgt := 9) d_Mod_call_4 (by decide) k2 k1) (fun _ => ?_) (fun _ => ?_)
    · refine xW_pure (fun _ _ _ _ _ => am_iconst (v := 1) d_Mod_call_7 (by decide)) ?_
      exact xW_ret (fun _ _ _ _ _ => am_iret rfl d_Mod_call_8)
    · refine xW_pure (fun _ _ _ _ _ => am_aload_n d_Mod_call_9 rfl rfl) ?_
      refine xW_gR O f_Mod_353 d_Mod_call_10 (fun v3 _ => ?_)
      refine xW_pure (fun _ _ _ _ _ => am_lload_n d_Mod_call_13 rfl rfl) ?_
      refine xW_callV O (dx_State_findFunction O T) (fun _ e => ob_State_findFunction e) rfl rfl rfl l_Mod_412 ⟨w_2001, w_2002⟩ rfl (Nat.le_of_ble_eq_true rfl) d_Mod_call_14 (fun v5 s4 _ => ?_)
      refine xW_pure (fun _ _ _ _ _ => am_istore d_Mod_call_17 (Nat.le_of_ble_eq_true rfl)) ?_
      refine xW_pure (fun _ _ _ _ _ => am_iload d_Mod_call_19 rfl) ?_
      refine xW_ite (fun _ _ _ _ _ => am_if_lt (tgt := 41) d_Mod_call_21 (by decide)) (fun _ => ?_) (fun _ => ?_)
      · refine xW_pure (fun _ _ _ _ _ => am_bipush (v := 6) d_Mod_call_41 (by decide)) ?_
        exact xW_ret (fun _ _ _ _ _ => am_iret rfl d_Mod_call_43)
      · refine xW_pure (fun _ _ _ _ _ => am_aload_n d_Mod_call_24 rfl rfl) ?_
        refine xW_gR O f_Mod_353 d_Mod_call_25 (fun v6 _ => ?_)
        refine xW_gR O f_Mod_399 d_Mod_call_28 (fun v7 _ => ?_)
        refine xW_pure (fun _ _ _ _ _ => am_iload d_Mod_call_31 rfl) ?_
        refine xW_aR O (by decide) d_Mod_call_33 (fun v8 _ => ?_)
        refine xW_gI O f_Mod_426 d_Mod_call_34 (fun v9 _ => ?_)
        refine xW_pure (fun _ _ _ _ _ => am_iload_n d_Mod_call_37 rfl rfl) ?_
        refine xW_ite (fun _ _ _ _ _ => am_icmp_eq (tgt := 44) d_Mod_call_38 (by decide)) (fun _ => ?_) (fun _ => ?_)
        · refine xW_pure (fun _ _ _ _ _ => am_aload_n d_Mod_call_44 rfl rfl) ?_
          refine xW_gI O f_Mod_492 d_Mod_call_45 (fun v10 _ => ?_)
          refine xW_pure (fun _ _ _ _ _ => am_bipush (v := 8) d_Mod_call_48 (by decide)) ?_
          refine xW_ite (fun _ _ _ _ _ => am_icmp_le (tgt := 56) d_Mod_call_50 (by decide)) (fun _ => ?_) (fun _ => ?_)
          · refine xW_pure (fun _ _ _ _ _ => am_aload_n d_Mod_call_56 rfl rfl) ?_
            refine xW_pure (fun _ _ _ _ _ => am_aload_n d_Mod_call_57 rfl rfl) ?_
            refine xW_gR O f_Mod_353 d_Mod_call_58 (fun v11 _ => ?_)
            refine xW_gR O f_Mod_399 d_Mod_call_61 (fun v12 _ => ?_)
            refine xW_pure (fun _ _ _ _ _ => am_iload d_Mod_call_64 rfl) ?_
            refine xW_aR O (by decide) d_Mod_call_66 (fun v13 _ => ?_)
            refine xW_pure (fun _ _ _ _ _ => am_iload_n d_Mod_call_67 rfl rfl) ?_
            refine xW_callV O (dx_Mod_enter O T) (fun _ e => ob_Mod_enter e) rfl rfl rfl l_Mod_495 ⟨w_2027, w_118⟩ rfl (Nat.le_of_ble_eq_true rfl) d_Mod_call_68 (fun v15 s14 _ => ?_)
            refine xW_pure (fun _ _ _ _ _ => am_iconst (v := (-1)) d_Mod_call_71 (by decide)) ?_
            exact xW_ret (fun _ _ _ _ _ => am_iret rfl d_Mod_call_72)
          · refine xW_pure (fun _ _ _ _ _ => am_bipush (v := 7) d_Mod_call_53 (by decide)) ?_
            exact xW_ret (fun _ _ _ _ _ => am_iret rfl d_Mod_call_55)
        · refine xW_pure (fun _ _ _ _ _ => am_bipush (v := 6) d_Mod_call_41 (by decide)) ?_
          exact xW_ret (fun _ _ _ _ _ => am_iret rfl d_Mod_call_43)

theorem ob_Mod_call {d : Nat} {x0 : Nat} {x1 : Int64} {x2 : Int32} {s : HS} {y : Int32 × HS} (h : x_Mod_call d x0 x1 x2 s = some y) : isO s x0 14 = true := by
  cases d with
  | zero => cases h
  | succ d => exact (gd_spec h).1
end
