section
variable {K : am_K} {X : Nat → am_C}
abbrev CLT : Type := Nat → Nat → Int32 → Int32 → Int32 → HS → Option (Int32 × HS)
def cU (o : Option (Int32 × HS)) : Option (Unit × HS) := o.map fun y => ((), y.2)
def uC (o : Option (Unit × HS)) : Option (Int32 × HS) := o.map fun y => (0, y.2)
theorem cU_uC (o : Option (Unit × HS)) : cU (uC o) = o := by cases o <;> rfl

set_option maxRecDepth 100000 in
def x_Arr_copyOf_aII (d : Nat) (x1 : Nat) (x2 : Int32) (s : HS) : Option (Nat × HS) := match d with
  | 0 => none
  | d + 1 => (lenA s x1).bind fun v1 => (if x2 = v1 then ((clA s .int x1).bind fun s2 => (some (s.1, s2))) else ((newA s .int x2).bind fun s3 => ((lenA s3 x1).bind fun v4 => ((cpA s3 x1 0 s.1 0 (if x2 < v4 then x2 else v4)).bind fun s5 => (some (s.1, s5))))))

set_option maxRecDepth 100000 in
set_option maxHeartbeats 4000000 in
theorem dx_Arr_copyOf_aII (O : am_ok K X) (T : am_T K) {d : Nat} {x1 : Nat} {x2 : Int32} {s : HS} : xM cvR K X m_Arr_copyOf_aII d [.ref x1, .int x2] s (x_Arr_copyOf_aII d x1 x2 s) := by
  cases d with
  | zero => exact xM_none
  | succ d =>
    unfold x_Arr_copyOf_aII
    refine xM_enter (by decide +kernel) (Nat.le_of_ble_eq_true rfl) ?_
    refine xW_pure (fun _ _ _ _ _ => am_iload_n d_Arr_copyOf_aII_0 rfl rfl) ?_
    refine xW_pure (fun _ _ _ _ _ => am_aload_n d_Arr_copyOf_aII_1 rfl rfl) ?_
    refine xW_len O d_Arr_copyOf_aII_2 (fun v1 _ => ?_)
    refine xW_ite (fun _ _ _ _ _ k1 k2 => am_icmp_ne (tgt := 14) d_Arr_copyOf_aII_3 (by decide) k2 k1) (fun _ => ?_) (fun _ => ?_)
    · refine xW_pure (fun _ _ _ _ _ => am_aload_n d_Arr_copyOf_aII_6 rfl rfl) ?_
      refine xW_clone (ty := .int) O (by decide) (by decide) w_759 w_760 w_727 w_728 w_761 x_762 d_Arr_copyOf_aII_7 w_763 d_Arr_copyOf_aII_10 (Nat.le_of_ble_eq_true rfl) (fun s2 _ => ?_)
      exact xW_ret (fun _ _ _ _ _ => am_aret rfl (Or.inr ⟨_, rfl⟩) d_Arr_copyOf_aII_13)
    · refine xW_pure (fun _ _ _ _ _ => am_iload_n d_Arr_copyOf_aII_14 rfl rfl) ?_
      refine xW_newA (at_ := .int) (ty := .int) O rfl (by decide) w_317 d_Arr_copyOf_aII_15 (fun s3 _ => ?_)
      refine xW_pure (fun _ _ _ _ _ => am_astore_n d_Arr_copyOf_aII_17 rfl (Nat.le_of_ble_eq_true rfl)) ?_
      refine xW_pure (fun _ _ _ _ _ => am_aload_n d_Arr_copyOf_aII_18 rfl rfl) ?_
      refine xW_pure (fun _ _ _ _ _ => am_iconst (v := 0) d_Arr_copyOf_aII_19 (by decide)) ?_
      refine xW_pure (fun _ _ _ _ _ => am_aload_n d_Arr_copyOf_aII_20 rfl rfl) ?_
      refine xW_pure (fun _ _ _ _ _ => am_iconst (v := 0) d_Arr_copyOf_aII_21 (by decide)) ?_
      refine xW_pure (fun _ _ _ _ _ => am_aload_n d_Arr_copyOf_aII_22 rfl rfl) ?_
      refine xW_len O d_Arr_copyOf_aII_23 (fun v4 _ => ?_)
      refine xW_pure (fun _ _ _ _ _ => am_iload_n d_Arr_copyOf_aII_24 rfl rfl) ?_
      refine xW_pure (fun _ _ _ _ _ => am_mmin w_732 w_551 w_164 w_552 d_Arr_copyOf_aII_25 (Nat.le_of_ble_eq_true rfl) (by omega)) ?_
      refine xW_copy O w_733 w_735 w_734 w_167 d_Arr_copyOf_aII_28 (Nat.le_of_ble_eq_true rfl) (fun s5 _ => ?_)
      refine xW_pure (fun _ _ _ _ _ => am_aload_n d_Arr_copyOf_aII_31 rfl rfl) ?_
      exact xW_ret (fun _ _ _ _ _ => am_aret rfl (Or.inr ⟨_, rfl⟩) d_Arr_copyOf_aII_32)

set_option maxRecDepth 100000 in
def x_Arr_copyOf_aJI (d : Nat) (x1 : Nat) (x2 : Int32) (s : HS) : Option (Nat × HS) := match d with
  | 0 => none
  | d + 1 => (lenA s x1).bind fun v1 => (if x2 = v1 then ((clA s .long x1).bind fun s2 => (some (s.1, s2))) else ((newA s .long x2).bind fun s3 => ((lenA s3 x1).bind fun v4 => ((cpA s3 x1 0 s.1 0 (if x2 < v4 then x2 else v4)).bind fun s5 => (some (s.1, s5))))))

set_option maxRecDepth 100000 in
set_option maxHeartbeats 4000000 in
theorem dx_Arr_copyOf_aJI (O : am_ok K X) (T : am_T K) {d : Nat} {x1 : Nat} {x2 : Int32} {s : HS} : xM cvR K X m_Arr_copyOf_aJI d [.ref x1, .int x2] s (x_Arr_copyOf_aJI d x1 x2 s) := by
  cases d with
  | zero => exact xM_none
  | succ d =>
    unfold x_Arr_copyOf_aJI
    refine xM_enter (by decide +kernel) (Nat.le_of_ble_eq_true rfl) ?_
    refine xW_pure (fun _ _ _ _ _ => am_iload_n d_Arr_copyOf_aJI_0 rfl rfl) ?_
    refine xW_pure (fun _ _ _ _ _ => am_aload_n d_Arr_copyOf_aJI_1 rfl rfl) ?_
    refine xW_len O d_Arr_copyOf_aJI_2 (fun v1 _ => ?_)
    refine xW_ite (fun _ _ _ _ _ k1 k2 => am_icmp_ne (tgt := 14) d_Arr_copyOf_aJI_3 (by decide) k2 k1) (fun _ => ?_) (fun _ => ?_)
    · refine xW_pure (fun _ _ _ _ _ => am_aload_n d_Arr_copyOf_aJI_6 rfl rfl) ?_
      refine xW_clone (ty := .long) O (by decide) (by decide) w_725 w_726 w_727 w_728 w_729 x_730 d_Arr_copyOf_aJI_7 w_731 d_Arr_copyOf_aJI_10 (Nat.le_of_ble_eq_true rfl) (fun s2 _ => ?_)
      exact xW_ret (fun _ _ _ _ _ => am_aret rfl (Or.inr ⟨_, rfl⟩) d_Arr_copyOf_aJI_13)
    · refine xW_pure (fun _ _ _ _ _ => am_iload_n d_Arr_copyOf_aJI_14 rfl rfl) ?_
      refine xW_newA (at_ := .long) (ty := .long) O rfl (by decide) w_291 d_Arr_copyOf_aJI_15 (fun s3 _ => ?_)
      refine xW_pure (fun _ _ _ _ _ => am_astore_n d_Arr_copyOf_aJI_17 rfl (Nat.le_of_ble_eq_true rfl)) ?_
      refine xW_pure (fun _ _ _ _ _ => am_aload_n d_Arr_copyOf_aJI_18 rfl rfl) ?_
      refine xW_pure (fun _ _ _ _ _ => am_iconst (v := 0) d_Arr_copyOf_aJI_19 (by decide)) ?_
      refine xW_pure (fun _ _ _ _ _ => am_aload_n d_Arr_copyOf_aJI_20 rfl rfl) ?_
      refine xW_pure (fun _ _ _ _ _ => am_iconst (v := 0) d_Arr_copyOf_aJI_21 (by decide)) ?_
      refine xW_pure (fun _ _ _ _ _ => am_aload_n d_Arr_copyOf_aJI_22 rfl rfl) ?_
      refine xW_len O d_Arr_copyOf_aJI_23 (fun v4 _ => ?_)
      refine xW_pure (fun _ _ _ _ _ => am_iload_n d_Arr_copyOf_aJI_24 rfl rfl) ?_
      refine xW_pure (fun _ _ _ _ _ => am_mmin w_732 w_551 w_164 w_552 d_Arr_copyOf_aJI_25 (Nat.le_of_ble_eq_true rfl) (by omega)) ?_
      refine xW_copy O w_733 w_735 w_734 w_167 d_Arr_copyOf_aJI_28 (Nat.le_of_ble_eq_true rfl) (fun s5 _ => ?_)
      refine xW_pure (fun _ _ _ _ _ => am_aload_n d_Arr_copyOf_aJI_31 rfl rfl) ?_
      exact xW_ret (fun _ _ _ _ _ => am_aret rfl (Or.inr ⟨_, rfl⟩) d_Arr_copyOf_aJI_32)

set_option maxRecDepth 100000 in
def x_Arr_fill_aII (d : Nat) (x1 : Nat) (x2 : Int32) (s : HS) : Option (Unit × HS) := (lenA s x1).bind fun v1 => (loopK (fun (again5 : Int32 × HS → Option (Unit × HS)) (z5 : Int32 × HS) => (if v1 ≤ z5.1 then (some ((), z5.2)) else ((sV z5.2 .int x1 z5.1 (.int x2)).bind fun s2 => (again5 ((z5.1 + 1), s2))))) FU (0, s))

set_option maxRecDepth 100000 in
set_option maxHeartbeats 4000000 in
theorem dx_Arr_fill_aII (O : am_ok K X) (T : am_T K) {d : Nat} {x1 : Nat} {x2 : Int32} {s : HS} : xM cvU K X m_Arr_fill_aII d [.ref x1, .int x2] s (x_Arr_fill_aII d x1 x2 s) := by
  unfold x_Arr_fill_aII
  refine xM_enter (by decide +kernel) (Nat.le_of_ble_eq_true rfl) ?_
  refine xW_pure (fun _ _ _ _ _ => am_iconst (v := 0) d_Arr_fill_aII_0 (by decide)) ?_
  refine xW_pure (fun _ _ _ _ _ => am_istore_n d_Arr_fill_aII_1 rfl (Nat.le_of_ble_eq_true rfl)) ?_
  refine xW_pure (fun _ _ _ _ _ => am_aload_n d_Arr_fill_aII_2 rfl rfl) ?_
  refine xW_len O d_Arr_fill_aII_3 (fun v1 _ => ?_)
  refine xW_pure (fun _ _ _ _ _ => am_istore_n d_Arr_fill_aII_4 rfl (Nat.le_of_ble_eq_true rfl)) ?_
  refine xW_locs (lv' := [(0, .ref x1), (1, .int x2), (2, .int 0), (3, .int v1)]) rfl ?_
  refine xW_loop (lvf := fun (z5 : Int32 × HS) => [(0, .ref x1), (1, .int x2), (2, .int z5.1), (3, .int v1)]) (hsf := fun (z5 : Int32 × HS) => z5.2) (fun again5 ih5 z5 => ?_) FU (0, s)
  refine xW_pure (fun _ _ _ _ _ => am_iload_n d_Arr_fill_aII_5 rfl rfl) ?_
  refine xW_pure (fun _ _ _ _ _ => am_iload_n d_Arr_fill_aII_6 rfl rfl) ?_
  refine xW_ite (fun _ _ _ _ _ => am_icmp_ge (tgt := 20) d_Arr_fill_aII_7 (by decide)) (fun _ => ?_) (fun _ => ?_)
  · exact xW_ret (fun _ _ _ _ _ => am_vret rfl d_Arr_fill_aII_20)
  · refine xW_pure (fun _ _ _ _ _ => am_aload_n d_Arr_fill_aII_10 rfl rfl) ?_
    refine xW_pure (fun _ _ _ _ _ => am_iload_n d_Arr_fill_aII_11 rfl rfl) ?_
    refine xW_pure (fun _ _ _ _ _ => am_iload_n d_Arr_fill_aII_12 rfl rfl) ?_
    refine xW_sI O d_Arr_fill_aII_13 (fun s2 _ => ?_)
    refine xW_pure (fun _ _ _ _ _ => am_iinc (v := 1) d_Arr_fill_aII_14 rfl (by decide) (Nat.le_of_ble_eq_true rfl)) ?_
    refine xW_pure (fun _ _ _ _ _ => am_goto (tgt := 5) d_Arr_fill_aII_17 (by decide)) ?_
    refine xW_locs (lv' := [(0, .ref x1), (1, .int x2), (2, .int (z5.1 + 1)), (3, .int v1)]) rfl ?_
    exact ih5 ((z5.1 + 1), s2)

set_option maxRecDepth 100000 in
def x_Arr_fill_aZZ (d : Nat) (x1 : Nat) (x2 : Int32) (s : HS) : Option (Unit × HS) := (lenA s x1).bind fun v1 => (loopK (fun (again5 : Int32 × HS → Option (Unit × HS)) (z5 : Int32 × HS) => (if v1 ≤ z5.1 then (some ((), z5.2)) else ((sV z5.2 .boolean x1 z5.1 (narrow .boolean (.int x2))).bind fun s2 => (again5 ((z5.1 + 1), s2))))) FU (0, s))

set_option maxRecDepth 100000 in
set_option maxHeartbeats 4000000 in
theorem dx_Arr_fill_aZZ (O : am_ok K X) (T : am_T K) {d : Nat} {x1 : Nat} {x2 : Int32} {s : HS} : xM cvU K X m_Arr_fill_aZZ d [.ref x1, .int x2] s (x_Arr_fill_aZZ d x1 x2 s) := by
  unfold x_Arr_fill_aZZ
  refine xM_enter (by decide +kernel) (Nat.le_of_ble_eq_true rfl) ?_
  refine xW_pure (fun _ _ _ _ _ => am_iconst (v := 0) d_Arr_fill_aZZ_0 (by decide)) ?_
  refine xW_pure (fun _ _ _ _ _ => am_istore_n d_Arr_fill_aZZ_1 rfl (Nat.le_of_ble_eq_true rfl)) ?_
  refine xW_pure (fun _ _ _ _ _ => am_aload_n d_Arr_fill_aZZ_2 rfl rfl) ?_
  refine xW_len O d_Arr_fill_aZZ_3 (fun v1 _ => ?_)
  refine xW_pure (fun _ _ _ _ _ => am_istore_n d_Arr_fill_aZZ_4 rfl (Nat.le_of_ble_eq_true rfl)) ?_
  refine xW_locs (lv' := [(0, .ref x1), (1, .int x2), (2, .int 0), (3, .int v1)]) rfl ?_
  refine xW_loop (lvf := fun (z5 : Int32 × HS) => [(0, .ref x1), (1, .int x2), (2, .int z5.1), (3, .int v1)]) (hsf := fun (z5 : Int32 × HS) => z5.2) (fun again5 ih5 z5 => ?_) FU (0, s)
  refine xW_pure (fun _ _ _ _ _ => am_iload_n d_Arr_fill_aZZ_5 rfl rfl) ?_
  refine xW_pure (fun _ _ _ _ _ => am_iload_n d_Arr_fill_aZZ_6 rfl rfl) ?_
  refine xW_ite (fun _ _ _ _ _ => am_icmp_ge (tgt := 20) d_Arr_fill_aZZ_7 (by decide)) (fun _ => ?_) (fun _ => ?_)
  · exact xW_ret (fun _ _ _ _ _ => am_vret rfl d_Arr_fill_aZZ_20)
  · refine xW_pure (fun _ _ _ _ _ => am_aload_n d_Arr_fill_aZZ_10 rfl rfl) ?_
    refine xW_pure (fun _ _ _ _ _ => am_iload_n d_Arr_fill_aZZ_11 rfl rfl) ?_
    refine xW_pure (fun _ _ _ _ _ => am_iload_n d_Arr_fill_aZZ_12 rfl rfl) ?_
    refine xW_sZ O d_Arr_fill_aZZ_13 (fun s2 _ => ?_)
    refine xW_pure (fun _ _ _ _ _ => am_iinc (v := 1) d_Arr_fill_aZZ_14 rfl (by decide) (Nat.le_of_ble_eq_true rfl)) ?_
    refine xW_pure (fun _ _ _ _ _ => am_goto (tgt := 5) d_Arr_fill_aZZ_17 (by decide)) ?_
    refine xW_locs (lv' := [(0, .ref x1), (1, .int x2), (2, .int (z5.1 + 1)), (3, .int v1)]) rfl ?_
    exact ih5 ((z5.1 + 1), s2)

set_option maxRecDepth 100000 in
def x_Cell_placed (d : Nat) (x1 : Int32) (x2 : Int32) (s : HS) : Option (Int64 × HS) := some ((((x1 : Int32).toInt64 : Int64) <<< (((7 * (7 - (x2 &&& 7))) : Int32).toInt64 &&& 63)), s)

set_option maxRecDepth 100000 in
set_option maxHeartbeats 4000000 in
theorem dx_Cell_placed (O : am_ok K X) (T : am_T K) {d : Nat} {x1 : Int32} {x2 : Int32} {s : HS} : xM cvL K X m_Cell_placed d [.int x1, .int x2] s (x_Cell_placed d x1 x2 s) := by
  unfold x_Cell_placed
  refine xM_enter (by decide +kernel) (Nat.le_of_ble_eq_true rfl) ?_
  refine xW_pure (fun _ _ _ _ _ => am_iload_n d_Cell_placed_0 rfl rfl) ?_
  refine xW_pure (fun _ _ _ _ _ => am_i2l d_Cell_placed_1 rfl) ?_
  refine xW_pure (fun _ _ _ _ _ => am_bipush (v := 7) d_Cell_placed_2 (by decide)) ?_
  refine xW_pure (fun _ _ _ _ _ => am_bipush (v := 7) d_Cell_placed_4 (by decide)) ?_
  refine xW_pure (fun _ _ _ _ _ => am_iload_n d_Cell_placed_6 rfl rfl) ?_
  refine xW_pure (fun _ _ _ _ _ => am_bipush (v := 7) d_Cell_placed_7 (by decide)) ?_
  refine xW_pure (fun _ _ _ _ _ => am_iand d_Cell_placed_9) ?_
  refine xW_pure (fun _ _ _ _ _ => am_isub d_Cell_placed_10) ?_
  refine xW_pure (fun _ _ _ _ _ => am_imul d_Cell_placed_11) ?_
  refine xW_pure (fun _ _ _ _ _ => am_lshl d_Cell_placed_12 rfl) ?_
  exact xW_ret (fun _ _ _ _ _ => am_lret rfl d_Cell_placed_13)

set_option maxRecDepth 100000 in
def x_Unit_init (d : Nat) (x0 : Nat) (x1 : Int64) (x2 : Int32) (x3 : Int32) (x4 : Int32) (x5 : Nat) (x6 : Nat) (s : HS) : Option (Unit × HS) := match d with
  | 0 => none
  | d + 1 => (pV s x0 4 0 (.long x1)).bind fun s1 => ((pV s1 x0 4 1 (.int x2)).bind fun s2 => ((pV s2 x0 4 2 (.int x3)).bind fun s3 => ((pV s3 x0 4 3 (.int x4)).bind fun s4 => ((pV s4 x0 4 4 (.ref x5)).bind fun s5 => ((pV s5 x0 4 5 (.ref x6)).bind fun s6 => (some ((), s6)))))))

set_option maxRecDepth 100000 in
set_option maxHeartbeats 4000000 in
theorem dx_Unit_init (O : am_ok K X) (T : am_T K) {d : Nat} {x0 : Nat} {x1 : Int64} {x2 : Int32} {x3 : Int32} {x4 : Int32} {x5 : Nat} {x6 : Nat} {s : HS} : xM cvU K X m_Unit_init d [.ref x0, .long x1, .int x2, .int x3, .int x4, .ref x5, .ref x6] s (x_Unit_init d x0 x1 x2 x3 x4 x5 x6 s) := by
  cases d with
  | zero => exact xM_none
  | succ d =>
    unfold x_Unit_init
    refine xM_enter (by decide +kernel) (Nat.le_of_ble_eq_true rfl) ?_
    refine xW_pure (fun _ _ _ _ _ => am_aload_n d_Unit_init_0 rfl rfl) ?_
    refine xW_pure (fun _ _ _ _ _ => am_obj w_349 w_177 w_178 d_Unit_init_1 (by omega) (Nat.le_of_ble_eq_true rfl)) ?_
    refine xW_pure (fun _ _ _ _ _ => am_aload_n d_Unit_init_4 rfl rfl) ?_
    refine xW_pure (fun _ _ _ _ _ => am_lload_n d_Unit_init_5 rfl rfl) ?_
    refine xW_putF O f_Unit_7 (fun q hq => by cases hq; exact ⟨w_350, rfl⟩) rfl d_Unit_init_6 (fun q hq => by cases hq; exact ⟨rfl, rfl, rfl⟩) (fun s1 _ => ?_)
    refine xW_pure (fun _ _ _ _ _ => am_aload_n d_Unit_init_9 rfl rfl) ?_
    refine xW_pure (fun _ _ _ _ _ => am_iload_n d_Unit_init_10 rfl rfl) ?_
    refine xW_putF O f_Unit_13 (fun q hq => by cases hq; exact ⟨w_351, rfl⟩) rfl d_Unit_init_11 (fun q hq => by cases hq; exact ⟨rfl, rfl, rfl⟩) (fun s2 _ => ?_)
    refine xW_pure (fun _ _ _ _ _ => am_aload_n d_Unit_init_14 rfl rfl) ?_
    refine xW_pure (fun _ _ _ _ _ => am_iload d_Unit_init_15 rfl) ?_
    refine xW_putF O f_Unit_17 (fun q hq => by cases hq; exact ⟨w_352, rfl⟩) rfl d_Unit_init_17 (fun q hq => by cases hq; exact ⟨rfl, rfl, rfl⟩) (fun s3 _ => ?_)
    refine xW_pure (fun _ _ _ _ _ => am_aload_n d_Unit_init_20 rfl rfl) ?_
    refine xW_pure (fun _ _ _ _ _ => am_iload d_Unit_init_21 rfl) ?_
    refine xW_putF O f_Unit_20 (fun q hq => by cases hq; exact ⟨w_353, rfl⟩) rfl d_Unit_init_23 (fun q hq => by cases hq; exact ⟨rfl, rfl, rfl⟩) (fun s4 _ => ?_)
    refine xW_pure (fun _ _ _ _ _ => am_aload_n d_Unit_init_26 rfl rfl) ?_
    refine xW_pure (fun _ _ _ _ _ => am_aload d_Unit_init_27 rfl) ?_
    refine xW_putF O f_Unit_23 (fun q hq => by cases hq; exact ⟨w_354, rfl⟩) rfl d_Unit_init_29 (fun q hq => by cases hq; exact ⟨rfl, rfl, rfl⟩) (fun s5 _ => ?_)
    refine xW_pure (fun _ _ _ _ _ => am_aload_n d_Unit_init_32 rfl rfl) ?_
    refine xW_pure (fun _ _ _ _ _ => am_aload d_Unit_init_33 rfl) ?_
    refine xW_putF O f_Unit_27 (fun q hq => by cases hq; exact ⟨w_355, rfl⟩) rfl d_Unit_init_35 (fun q hq => by cases hq; exact ⟨rfl, rfl, rfl⟩) (fun s6 _ => ?_)
    exact xW_ret (fun _ _ _ _ _ => am_vret rfl d_Unit_init_38)

set_option maxRecDepth 100000 in
def x_Stow_addFour (d : Nat) (x0 : Nat) (x1 : Int32) (s : HS) : Option (Unit × HS) := gd s x0 9 (loopK (fun (again3 : Int32 × HS → Option (Unit × HS)) (z3 : Int32 × HS) => (if z3.1 < 0 then (some ((), z3.2)) else ((gI z3.2 x0 9 1).bind fun v1 => (if 1500 ≤ v1 then (some ((), z3.2)) else ((gR z3.2 x0 9 0).bind fun v2 => ((gI z3.2 x0 9 1).bind fun v3 => ((sV z3.2 .byte v2 v3 (.int ((((x1 : Int32) >>> ((z3.1 : Int32) &&& 31)) : Int32).toInt8.toInt32 : Int32).toInt8.toInt32)).bind fun s4 => ((gI s4 x0 9 1).bind fun v5 => ((pV s4 x0 9 1 (.int (v5 + 1))).bind fun s6 => (again3 ((z3.1 + (-8)), s6))))))))))) FU (24, s))

set_option maxRecDepth 100000 in
set_option maxHeartbeats 4000000 in
theorem dx_Stow_addFour (O : am_ok K X) (T : am_T K) {d : Nat} {x0 : Nat} {x1 : Int32} {s : HS} : xM cvU K X m_Stow_addFour d [.ref x0, .int x1] s (x_Stow_addFour d x0 x1 s) := by
  unfold x_Stow_addFour
  refine xM_enter (by decide +kernel) (Nat.le_of_ble_eq_true rfl) ?_
  refine xW_gd (fun _ => ?_)
  refine xW_pure (fun _ _ _ _ _ => am_bipush (v := 24) d_Stow_addFour_0 (by decide)) ?_
  refine xW_pure (fun _ _ _ _ _ => am_istore_n d_Stow_addFour_2 rfl (Nat.le_of_ble_eq_true rfl)) ?_
  refine xW_locs (lv' := [(0, .ref x0), (1, .int x1), (2, .int 24)]) rfl ?_
  refine xW_loop (lvf := fun (z3 : Int32 × HS) => [(0, .ref x0), (1, .int x1), (2, .int z3.1)]) (hsf := fun (z3 : Int32 × HS) => z3.2) (fun again3 ih3 z3 => ?_) FU (24, s)
  refine xW_pure (fun _ _ _ _ _ => am_iload_n d_Stow_addFour_3 rfl rfl) ?_
  refine xW_ite (fun _ _ _ _ _ => am_if_lt (tgt := 46) d_Stow_addFour_4 (by decide)) (fun _ => ?_) (fun _ => ?_)
  · exact xW_ret (fun _ _ _ _ _ => am_vret rfl d_Stow_addFour_46)
  · refine xW_pure (fun _ _ _ _ _ => am_aload_n d_Stow_addFour_7 rfl rfl) ?_
    refine xW_gI O f_Stow_48 d_Stow_addFour_8 (fun v1 _ => ?_)
    refine xW_pure (fun _ _ _ _ _ => am_sipush (v := 1500) d_Stow_addFour_11 (by decide)) ?_
    refine xW_ite (fun _ _ _ _ _ => am_icmp_ge (tgt := 46) d_Stow_addFour_14 (by decide)) (fun _ => ?_) (fun _ => ?_)
    · exact xW_ret (fun _ _ _ _ _ => am_vret rfl d_Stow_addFour_46)
    · refine xW_pure (fun _ _ _ _ _ => am_aload_n d_Stow_addFour_17 rfl rfl) ?_
      refine xW_gR O f_Stow_9 d_Stow_addFour_18 (fun v2 _ => ?_)
      refine xW_pure (fun _ _ _ _ _ => am_aload_n d_Stow_addFour_21 rfl rfl) ?_
      refine xW_gI O f_Stow_48 d_Stow_addFour_22 (fun v3 _ => ?_)
      refine xW_pure (fun _ _ _ _ _ => am_iload_n d_Stow_addFour_25 rfl rfl) ?_
      refine xW_pure (fun _ _ _ _ _ => am_iload_n d_Stow_addFour_26 rfl rfl) ?_
      refine xW_pure (fun _ _ _ _ _ => am_ishr d_Stow_addFour_27) ?_
      refine xW_pure (fun _ _ _ _ _ => am_i2b d_Stow_addFour_28 rfl) ?_
      refine xW_sB O d_Stow_addFour_29 (fun s4 _ => ?_)
      refine xW_pure (fun _ _ _ _ _ => am_aload_n d_Stow_addFour_30 rfl rfl) ?_
      refine xW_pure (fun _ _ _ _ _ => am_dup d_Stow_addFour_31 rfl) ?_
      refine xW_gI O f_Stow_48 d_Stow_addFour_32 (fun v5 _ => ?_)
      refine xW_pure (fun _ _ _ _ _ => am_iconst (v := 1) d_Stow_addFour_35 (by decide)) ?_
      refine xW_pure (fun _ _ _ _ _ => am_iadd d_Stow_addFour_36) ?_
      refine xW_put O f_Stow_48 d_Stow_addFour_37 (fun q hq => by cases hq; exact ⟨rfl, rfl, rfl⟩) (fun s6 _ => ?_)
      refine xW_pure (fun _ _ _ _ _ => am_iinc (v := (-8)) d_Stow_addFour_40 rfl (by decide) (Nat.le_of_ble_eq_true rfl)) ?_
      refine xW_pure (fun _ _ _ _ _ => am_goto (tgt := 3) d_Stow_addFour_43 (by decide)) ?_
      refine xW_locs (lv' := [(0, .ref x0), (1, .int x1), (2, .int (z3.1 + (-8)))]) rfl ?_
      exact ih3 ((z3.1 + (-8)), s6)

theorem ob_Stow_addFour {d : Nat} {x0 : Nat} {x1 : Int32} {s : HS} {y : Unit × HS} (h : x_Stow_addFour d x0 x1 s = some y) : isO s x0 9 = true := (gd_spec h).1

set_option maxRecDepth 100000 in
def x_Stow_end (d : Nat) (x0 : Nat) (x1 : Int32) (s : HS) : Option (Int32 × HS) := gd s x0 9 (if x1 < 0 then (some ((-1), s)) else ((gI s x0 9 1).bind fun v1 => (if x1 ≤ v1 then ((pV s x0 9 1 (.int x1)).bind fun s2 => (some (x1, s2))) else (some ((-1), s)))))

set_option maxRecDepth 100000 in
set_option maxHeartbeats 4000000 in
theorem dx_Stow_end (O : am_ok K X) (T : am_T K) {d : Nat} {x0 : Nat} {x1 : Int32} {s : HS} : xM cvI K X m_Stow_end d [.ref x0, .int x1] s (x_Stow_end d x0 x1 s) := by
  unfold x_Stow_end
  refine xM_enter (by decide +kernel) (Nat.le_of_ble_eq_true rfl) ?_
  refine xW_gd (fun _ => ?_)
  refine xW_pure (fun _ _ _ _ _ => am_iload_n d_Stow_end_0 rfl rfl) ?_
  refine xW_ite (fun _ _ _ _ _ => am_if_lt (tgt := 12) d_Stow_end_1 (by decide)) (fun _ => ?_) (fun _ => ?_)
  · refine xW_pure (fun _ _ _ _ _ => am_iconst (v := (-1)) d_Stow_end_12 (by decide)) ?_
    exact xW_ret (fun _ _ _ _ _ => am_iret rfl d_Stow_end_13)
  · refine xW_pure (fun _ _ _ _ _ => am_iload_n d_Stow_end_4 rfl rfl) ?_
    refine xW_pure (fun _ _ _ _ _ => am_aload_n d_Stow_end_5 rfl rfl) ?_
    refine xW_gI O f_Stow_48 d_Stow_end_6 (fun v1 _ => ?_)
    refine xW_ite (fun _ _ _ _ _ => am_icmp_le (tgt := 14) d_Stow_end_9 (by decide)) (fun _ => ?_) (fun _ => ?_)
    · refine xW_pure (fun _ _ _ _ _ => am_aload_n d_Stow_end_14 rfl rfl) ?_
      refine xW_pure (fun _ _ _ _ _ => am_iload_n d_Stow_end_15 rfl rfl) ?_
      refine xW_put O f_Stow_48 d_Stow_end_16 (fun q hq => by cases hq; exact ⟨rfl, rfl, rfl⟩) (fun s2 _ => ?_)
      refine xW_pure (fun _ _ _ _ _ => am_iload_n d_Stow_end_19 rfl rfl) ?_
      exact xW_ret (fun _ _ _ _ _ => am_iret rfl d_Stow_end_20)
    · refine xW_pure (fun _ _ _ _ _ => am_iconst (v := (-1)) d_Stow_end_12 (by decide)) ?_
      exact xW_ret (fun _ _ _ _ _ => am_iret rfl d_Stow_end_13)

theorem ob_Stow_end {d : Nat} {x0 : Nat} {x1 : Int32} {s : HS} {y : Int32 × HS} (h : x_Stow_end d x0 x1 s = some y) : isO s x0 9 = true := (gd_spec h).1

set_option maxRecDepth 100000 in
def x_Lexer_byteAt (d : Nat) (x0 : Nat) (x1 : Int32) (s : HS) : Option (Int32 × HS) := gd s x0 1 (if x1 < 0 then (some ((-1), s)) else ((gI s x0 1 2).bind fun v1 => (if v1 ≤ x1 then (some ((-1), s)) else ((gR s x0 1 1).bind fun v2 => ((aB s v2 x1).bind fun v3 => (some ((v3 &&& 255), s)))))))

set_option maxRecDepth 100000 in
set_option maxHeartbeats 4000000 in
theorem dx_Lexer_byteAt (O : am_ok K X) (T : am_T K) {d : Nat} {x0 : Nat} {x1 : Int32} {s : HS} : xM cvI K X m_Lexer_byteAt d [.ref x0, .int x1] s (x_Lexer_byteAt d x0 x1 s) := by
  unfold x_Lexer_byteAt
  refine xM_enter (by decide +kernel) (Nat.le_of_ble_eq_true rfl) ?_
  refine xW_gd (fun _ => ?_)
  refine xW_pure (fun _ _ _ _ _ => am_iload_n d_Lexer_byteAt_0 rfl rfl) ?_
  refine xW_ite (fun _ _ _ _ _ => am_if_lt (tgt := 25) d_Lexer_byteAt_1 (by decide)) (fun _ => ?_) (fun _ => ?_)
  · refine xW_pure (fun _ _ _ _ _ => am_iconst (v := (-1)) d_Lexer_byteAt_25 (by decide)) ?_
    exact xW_ret (fun _ _ _ _ _ => am_iret rfl d_Lexer_byteAt_26)
  · refine xW_pure (fun _ _ _ _ _ => am_iload_n d_Lexer_byteAt_4 rfl rfl) ?_
    refine xW_pure (fun _ _ _ _ _ => am_aload_n d_Lexer_byteAt_5 rfl rfl) ?_
    refine xW_gI O f_Lexer_43 d_Lexer_byteAt_6 (fun v1 _ => ?_)
    refine xW_ite (fun _ _ _ _ _ => am_icmp_ge (tgt := 25) d_Lexer_byteAt_9 (by decide)) (fun _ => ?_) (fun _ => ?_)
    · refine xW_pure (fun _ _ _ _ _ => am_iconst (v := (-1)) d_Lexer_byteAt_25 (by decide)) ?_
      exact xW_ret (fun _ _ _ _ _ => am_iret rfl d_Lexer_byteAt_26)
    · refine xW_pure (fun _ _ _ _ _ => am_aload_n d_Lexer_byteAt_12 rfl rfl) ?_
      refine xW_gR O f_Lexer_15 d_Lexer_byteAt_13 (fun v2 _ => ?_)
      refine xW_pure (fun _ _ _ _ _ => am_iload_n d_Lexer_byteAt_16 rfl rfl) ?_
      refine xW_aB O d_Lexer_byteAt_17 (fun v3 _ => ?_)
      refine xW_pure (fun _ _ _ _ _ => am_sipush (v := 255) d_Lexer_byteAt_18 (by decide)) ?_
      refine xW_pure (fun _ _ _ _ _ => am_iand d_Lexer_byteAt_21) ?_
      refine xW_pure (fun _ _ _ _ _ => am_goto (tgt := 26) d_Lexer_byteAt_22 (by decide)) ?_
      exact xW_ret (fun _ _ _ _ _ => am_iret rfl d_Lexer_byteAt_26)

theorem ob_Lexer_byteAt {d : Nat} {x0 : Nat} {x1 : Int32} {s : HS} {y : Int32 × HS} (h : x_Lexer_byteAt d x0 x1 s = some y) : isO s x0 1 = true := (gd_spec h).1

set_option maxRecDepth 100000 in
def x_Lexer_isLetter (d : Nat) (x1 : Int32) (s : HS) : Option (Int32 × HS) := if x1 < 97 then (some (0, s)) else (if 122 < x1 then (some (0, s)) else (some (1, s)))

set_option maxRecDepth 100000 in
set_option maxHeartbeats 4000000 in
theorem dx_Lexer_isLetter (O : am_ok K X) (T : am_T K) {d : Nat} {x1 : Int32} {s : HS} : xM cvI K X m_Lexer_isLetter d [.int x1] s (x_Lexer_isLetter d x1 s) := by
  unfold x_Lexer_isLetter
  refine xM_enter (by decide +kernel) (Nat.le_of_ble_eq_true rfl) ?_
  refine xW_pure (fun _ _ _ _ _ => am_iload_n d_Lexer_isLetter_0 rfl rfl) ?_
  refine xW_pure (fun _ _ _ _ _ => am_bipush (v := 97) d_Lexer_isLetter_1 (by decide)) ?_
  refine xW_ite (fun _ _ _ _ _ => am_icmp_lt (tgt := 16) d_Lexer_isLetter_3 (by decide)) (fun _ => ?_) (fun _ => ?_)
  · refine xW_pure (fun _ _ _ _ _ => am_iconst (v := 0) d_Lexer_isLetter_16 (by decide)) ?_
    exact xW_ret (fun _ _ _ _ _ => am_zret (ty := .boolean) rfl rfl d_Lexer_isLetter_17)
  · refine xW_pure (fun _ _ _ _ _ => am_iload_n d_Lexer_isLetter_6 rfl rfl) ?_
    refine xW_pure (fun _ _ _ _ _ => am_bipush (v := 122) d_Lexer_isLetter_7 (by decide)) ?_
    refine xW_ite (fun _ _ _ _ _ => am_icmp_gt (tgt := 16) d_Lexer_isLetter_9 (by decide)) (fun _ => ?_) (fun _ => ?_)
    · refine xW_pure (fun _ _ _ _ _ => am_iconst (v := 0) d_Lexer_isLetter_16 (by decide)) ?_
      exact xW_ret (fun _ _ _ _ _ => am_zret (ty := .boolean) rfl rfl d_Lexer_isLetter_17)
    · refine xW_pure (fun _ _ _ _ _ => am_iconst (v := 1) d_Lexer_isLetter_12 (by decide)) ?_
      refine xW_pure (fun _ _ _ _ _ => am_goto (tgt := 17) d_Lexer_isLetter_13 (by decide)) ?_
      exact xW_ret (fun _ _ _ _ _ => am_zret (ty := .boolean) rfl rfl d_Lexer_isLetter_17)

set_option maxRecDepth 100000 in
def x_Lexer_isDigit (d : Nat) (x1 : Int32) (s : HS) : Option (Int32 × HS) := if x1 < 48 then (some (0, s)) else (if 57 < x1 then (some (0, s)) else (some (1, s)))

set_option maxRecDepth 100000 in
set_option maxHeartbeats 4000000 in
theorem dx_Lexer_isDigit (O : am_ok K X) (T : am_T K) {d : Nat} {x1 : Int32} {s : HS} : xM cvI K X m_Lexer_isDigit d [.int x1] s (x_Lexer_isDigit d x1 s) := by
  unfold x_Lexer_isDigit
  refine xM_enter (by decide +kernel) (Nat.le_of_ble_eq_true rfl) ?_
  refine xW_pure (fun _ _ _ _ _ => am_iload_n d_Lexer_isDigit_0 rfl rfl) ?_
  refine xW_pure (fun _ _ _ _ _ => am_bipush (v := 48) d_Lexer_isDigit_1 (by decide)) ?_
  refine xW_ite (fun _ _ _ _ _ => am_icmp_lt (tgt := 16) d_Lexer_isDigit_3 (by decide)) (fun _ => ?_) (fun _ => ?_)
  · refine xW_pure (fun _ _ _ _ _ => am_iconst (v := 0) d_Lexer_isDigit_16 (by decide)) ?_
    exact xW_ret (fun _ _ _ _ _ => am_zret (ty := .boolean) rfl rfl d_Lexer_isDigit_17)
  · refine xW_pure (fun _ _ _ _ _ => am_iload_n d_Lexer_isDigit_6 rfl rfl) ?_
    refine xW_pure (fun _ _ _ _ _ => am_bipush (v := 57) d_Lexer_isDigit_7 (by decide)) ?_
    refine xW_ite (fun _ _ _ _ _ => am_icmp_gt (tgt := 16) d_Lexer_isDigit_9 (by decide)) (fun _ => ?_) (fun _ => ?_)
    · refine xW_pure (fun _ _ _ _ _ => am_iconst (v := 0) d_Lexer_isDigit_16 (by decide)) ?_
      exact xW_ret (fun _ _ _ _ _ => am_zret (ty := .boolean) rfl rfl d_Lexer_isDigit_17)
    · refine xW_pure (fun _ _ _ _ _ => am_iconst (v := 1) d_Lexer_isDigit_12 (by decide)) ?_
      refine xW_pure (fun _ _ _ _ _ => am_goto (tgt := 17) d_Lexer_isDigit_13 (by decide)) ?_
      exact xW_ret (fun _ _ _ _ _ => am_zret (ty := .boolean) rfl rfl d_Lexer_isDigit_17)

set_option maxRecDepth 100000 in
def x_Lexer_wordKind (d : Nat) (x0 : Nat) (x1 : Int64) (s : HS) : Option (Int32 × HS) := gd s x0 1 (loopK (fun (again2 : Int32 × HS → Option (Int32 × HS)) (z2 : Int32 × HS) => (if 12 ≤ z2.1 then (some (2, z2.2)) else ((gR z2.2 x0 1 0).bind fun v1 => ((aL z2.2 v1 z2.1).bind fun v2 => (if (lg_cmp v2 x1) = 0 then (some ((5 + z2.1), z2.2)) else (again2 ((z2.1 + 1), z2.2))))))) FU (0, s))

set_option maxRecDepth 100000 in
set_option maxHeartbeats 4000000 in
theorem dx_Lexer_wordKind (O : am_ok K X) (T : am_T K) {d : Nat} {x0 : Nat} {x1 : Int64} {s : HS} : xM cvI K X m_Lexer_wordKind d [.ref x0, .long x1] s (x_Lexer_wordKind d x0 x1 s) := by
  unfold x_Lexer_wordKind
  refine xM_enter (by decide +kernel) (Nat.le_of_ble_eq_true rfl) ?_
  refine xW_gd (fun _ => ?_)
  refine xW_pure (fun _ _ _ _ _ => am_iconst (v := 0) d_Lexer_wordKind_0 (by decide)) ?_
  refine xW_pure (fun _ _ _ _ _ => am_istore_n d_Lexer_wordKind_1 rfl (Nat.le_of_ble_eq_true rfl)) ?_
  refine xW_locs (lv' := [(0, .ref x0), (1, .long x1), (3, .int 0)]) rfl ?_
  refine xW_loop (lvf := fun (z2 : Int32 × HS) => [(0, .ref x0), (1, .long x1), (3, .int z2.1)]) (hsf := fun (z2 : Int32 × HS) => z2.2) (fun again2 ih2 z2 => ?_) FU (0, s)
  refine xW_pure (fun _ _ _ _ _ => am_iload_n d_Lexer_wordKind_2 rfl rfl) ?_
  refine xW_pure (fun _ _ _ _ _ => am_bipush (v := 12) d_Lexer_wordKind_3 (by decide)) ?_
  refine xW_ite (fun _ _ _ _ _ => am_icmp_ge (tgt := 29) d_Lexer_wordKind_5 (by decide)) (fun _ => ?_) (fun _ => ?_)
  · refine xW_pure (fun _ _ _ _ _ => am_iconst (v := 2) d_Lexer_wordKind_29 (by decide)) ?_
    exact xW_ret (fun _ _ _ _ _ => am_iret rfl d_Lexer_wordKind_30)
  · refine xW_pure (fun _ _ _ _ _ => am_aload_n d_Lexer_wordKind_8 rfl rfl) ?_
    refine xW_gR O f_Lexer_11 d_Lexer_wordKind_9 (fun v1 _ => ?_)
    refine xW_pure (fun _ _ _ _ _ => am_iload_n d_Lexer_wordKind_12 rfl rfl) ?_
    refine xW_aL O d_Lexer_wordKind_13 (fun v2 _ => ?_)
    refine xW_pure (fun _ _ _ _ _ => am_lload_n d_Lexer_wordKind_14 rfl rfl) ?_
    refine xW_pure (fun _ _ _ _ _ => am_lcmp d_Lexer_wordKind_15) ?_
    refine xW_ite (fun _ _ _ _ _ k1 k2 => am_if_ne (tgt := 23) d_Lexer_wordKind_16 (by decide) k2 k1) (fun _ => ?_) (fun _ => ?_)
    · refine xW_pure (fun _ _ _ _ _ => am_iconst (v := 5) d_Lexer_wordKind_19 (by decide)) ?_
      refine xW_pure (fun _ _ _ _ _ => am_iload_n d_Lexer_wordKind_20 rfl rfl) ?_
      refine xW_pure (fun _ _ _ _ _ => am_iadd d_Lexer_wordKind_21) ?_
      exact xW_ret (fun _ _ _ _ _ => am_iret rfl d_Lexer_wordKind_22)
    · refine xW_pure (fun _ _ _ _ _ => am_iinc (v := 1) d_Lexer_wordKind_23 rfl (by decide) (Nat.le_of_ble_eq_true rfl)) ?_
      refine xW_pure (fun _ _ _ _ _ => am_goto (tgt := 2) d_Lexer_wordKind_26 (by decide)) ?_
      refine xW_locs (lv' := [(0, .ref x0), (1, .long x1), (3, .int (z2.1 + 1))]) rfl ?_
      exact ih2 ((z2.1 + 1), z2.2)

theorem ob_Lexer_wordKind {d : Nat} {x0 : Nat} {x1 : Int64} {s : HS} {y : Int32 × HS} (h : x_Lexer_wordKind d x0 x1 s = some y) : isO s x0 1 = true := (gd_spec h).1

set_option maxRecDepth 100000 in
def x_Lexer_scanNumber_b66 (d : Nat) (l0 : Nat) (l1 : Int64) (s : HS) : Option (Unit × HS) := (pV s l0 1 7 (.int (l1 : Int64).toInt32)).bind fun s3 => (if (lg_cmp l1 2147483648) = 0 then ((pV s3 l0 1 5 (.int 1)).bind fun s4 => (some ((), s4))) else ((pV s3 l0 1 5 (.int 3)).bind fun s5 => (some ((), s5))))

set_option maxRecDepth 100000 in
set_option maxHeartbeats 4000000 in
theorem dx_Lexer_scanNumber_b66 (O : am_ok K X) (T : am_T K) {d : Nat} {l0 : Nat} {l1 : Int64} {s : HS} : xW cvU K X m_Lexer_scanNumber (d + 1) 66 [(0, .ref l0), (1, .long l1)] [] s (x_Lexer_scanNumber_b66 d l0 l1 s) := by
  unfold x_Lexer_scanNumber_b66
  refine xW_pure (fun _ _ _ _ _ => am_aload_n d_Lexer_scanNumber_66 rfl rfl) ?_
  refine xW_pure (fun _ _ _ _ _ => am_lload_n d_Lexer_scanNumber_67 rfl rfl) ?_
  refine xW_pure (fun _ _ _ _ _ => am_l2i d_Lexer_scanNumber_68 rfl) ?_
  refine xW_put O f_Lexer_88 d_Lexer_scanNumber_69 (fun q hq => by cases hq; exact ⟨rfl, rfl, rfl⟩) (fun s3 _ => ?_)
  refine xW_pure (fun _ _ _ _ _ => am_aload_n d_Lexer_scanNumber_72 rfl rfl) ?_
  refine xW_pure (fun _ _ _ _ _ => am_lload_n d_Lexer_scanNumber_73 rfl rfl) ?_
  refine xW_pure (fun _ _ _ _ _ => am_ldc2 (v := 2147483648) w_585 d_Lexer_scanNumber_74) ?_
  refine xW_pure (fun _ _ _ _ _ => am_lcmp d_Lexer_scanNumber_77) ?_
  refine xW_ite (fun _ _ _ _ _ k1 k2 => am_if_ne (tgt := 85) d_Lexer_scanNumber_78 (by decide) k2 k1) (fun _ => ?_) (fun _ => ?_)
  · refine xW_pure (fun _ _ _ _ _ => am_iconst (v := 1) d_Lexer_scanNumber_81 (by decide)) ?_
    refine xW_pure (fun _ _ _ _ _ => am_goto (tgt := 86) d_Lexer_scanNumber_82 (by decide)) ?_
    refine xW_put O f_Lexer_65 d_Lexer_scanNumber_86 (fun q hq => by cases hq; exact ⟨rfl, rfl, rfl⟩) (fun s4 _ => ?_)
    exact xW_ret (fun _ _ _ _ _ => am_vret rfl d_Lexer_scanNumber_89)
  · refine xW_pure (fun _ _ _ _ _ => am_iconst (v := 3) d_Lexer_scanNumber_85 (by decide)) ?_
    refine xW_put O f_Lexer_65 d_Lexer_scanNumber_86 (fun q hq => by cases hq; exact ⟨rfl, rfl, rfl⟩) (fun s5 _ => ?_)
    exact xW_ret (fun _ _ _ _ _ => am_vret rfl d_Lexer_scanNumber_89)

set_option maxRecDepth 100000 in
def x_Lexer_scanNumber (d : Nat) (x0 : Nat) (s : HS) : Option (Unit × HS) := match d with
  | 0 => none
  | d + 1 => gd s x0 1 (loopK (fun (again2 : Int64 × HS → Option (Unit × HS)) (z2 : Int64 × HS) => ((gI z2.2 x0 1 3).bind fun v1 => ((gI z2.2 x0 1 2).bind fun v2 => (if v2 ≤ v1 then (x_Lexer_scanNumber_b66 d x0 z2.1 z2.2) else ((gI z2.2 x0 1 3).bind fun v6 => (bnd (x_Lexer_byteAt d x0 v6 z2.2) fun v8 s7 => (bnd (x_Lexer_isDigit d v8 s7) fun v10 s9 => (if v10 = 0 then (x_Lexer_scanNumber_b66 d x0 z2.1 s9) else ((gI s9 x0 1 3).bind fun v11 => (bnd (x_Lexer_byteAt d x0 v11 s9) fun v13 s12 => ((gI s12 x0 1 3).bind fun v14 => ((pV s12 x0 1 3 (.int (v14 + 1))).bind fun s15 => (again2 ((if 2147483648 < (((z2.1 * 10) + (v13 : Int32).toInt64) - 48) then 2147483648 else (((z2.1 * 10) + (v13 : Int32).toInt64) - 48)), s15)))))))))))))) FU (0, s))

set_option maxRecDepth 100000 in
set_option maxHeartbeats 4000000 in
theorem dx_Lexer_scanNumber (O : am_ok K X) (T : am_T K) {d : Nat} {x0 : Nat} {s : HS} : xM cvU K X m_Lexer_scanNumber d [.ref x0] s (x_Lexer_scanNumber d x0 s) := by
  cases d with
  | zero => exact xM_none
  | succ d =>
    unfold x_Lexer_scanNumber
    refine xM_enter (by decide +kernel) (Nat.le_of_ble_eq_true rfl) ?_
    refine xW_gd (fun _ => ?_)
    refine xW_pure (fun _ _ _ _ _ => am_lconst (v := 0) d_Lexer_scanNumber_0 (by decide)) ?_
    refine xW_pure (fun _ _ _ _ _ => am_lstore_n d_Lexer_scanNumber_1 rfl (Nat.le_of_ble_eq_true rfl)) ?_
    refine xW_locs (lv' := [(0, .ref x0), (1, .long 0)]) rfl ?_
    refine xW_loop (lvf := fun (z2 : Int64 × HS) => [(0, .ref x0), (1, .long z2.1)]) (hsf := fun (z2 : Int64 × HS) => z2.2) (fun again2 ih2 z2 => ?_) FU (0, s)
    refine xW_pure (fun _ _ _ _ _ => am_aload_n d_Lexer_scanNumber_2 rfl rfl) ?_
    refine xW_gI O f_Lexer_46 d_Lexer_scanNumber_3 (fun v1 _ => ?_)
    refine xW_pure (fun _ _ _ _ _ => am_aload_n d_Lexer_scanNumber_6 rfl rfl) ?_
    refine xW_gI O f_Lexer_43 d_Lexer_scanNumber_7 (fun v2 _ => ?_)
    refine xW_ite (fun _ _ _ _ _ => am_icmp_ge (tgt := 66) d_Lexer_scanNumber_10 (by decide)) (fun _ => ?_) (fun _ => ?_)
    · refine xW_locs (lv' := [(0, .ref x0), (1, .long z2.1)]) rfl ?_
      exact dx_Lexer_scanNumber_b66 O T
    · refine xW_pure (fun _ _ _ _ _ => am_aload_n d_Lexer_scanNumber_13 rfl rfl) ?_
      refine xW_pure (fun _ _ _ _ _ => am_aload_n d_Lexer_scanNumber_14 rfl rfl) ?_
      refine xW_gI O f_Lexer_46 d_Lexer_scanNumber_15 (fun v6 _ => ?_)
      refine xW_callV O (dx_Lexer_byteAt O T) (fun _ e => ob_Lexer_byteAt e) rfl rfl rfl l_Lexer_61 ⟨w_563, w_2⟩ rfl (Nat.le_of_ble_eq_true rfl) d_Lexer_scanNumber_18 (fun v8 s7 _ => ?_)
      refine xW_callS O (dx_Lexer_isDigit O T) rfl l_Lexer_75 w_573 rfl (Nat.le_of_ble_eq_true rfl) d_Lexer_scanNumber_21 (fun v10 s9 _ => ?_)
      refine xW_ite (fun _ _ _ _ _ => am_if_eq (tgt := 66) d_Lexer_scanNumber_24 (by decide)) (fun _ => ?_) (fun _ => ?_)
      · refine xW_locs (lv' := [(0, .ref x0), (1, .long z2.1)]) rfl ?_
        exact dx_Lexer_scanNumber_b66 O T
      · refine xW_pure (fun _ _ _ _ _ => am_lload_n d_Lexer_scanNumber_27 rfl rfl) ?_
        refine xW_pure (fun _ _ _ _ _ => am_ldc2 (v := 10) w_583 d_Lexer_scanNumber_28) ?_
        refine xW_pure (fun _ _ _ _ _ => am_lmul d_Lexer_scanNumber_31) ?_
        refine xW_pure (fun _ _ _ _ _ => am_aload_n d_Lexer_scanNumber_32 rfl rfl) ?_
        refine xW_pure (fun _ _ _ _ _ => am_aload_n d_Lexer_scanNumber_33 rfl rfl) ?_
        refine xW_gI O f_Lexer_46 d_Lexer_scanNumber_34 (fun v11 _ => ?_)
        refine xW_callV O (dx_Lexer_byteAt O T) (fun _ e => ob_Lexer_byteAt e) rfl rfl rfl l_Lexer_61 ⟨w_563, w_2⟩ rfl (Nat.le_of_ble_eq_true rfl) d_Lexer_scanNumber_37 (fun v13 s12 _ => ?_)
        refine xW_pure (fun _ _ _ _ _ => am_i2l d_Lexer_scanNumber_40 rfl) ?_
        refine xW_pure (fun _ _ _ _ _ => am_ladd d_Lexer_scanNumber_41) ?_
        refine xW_pure (fun _ _ _ _ _ => am_ldc2 (v := 48) w_584 d_Lexer_scanNumber_42) ?_
        refine xW_pure (fun _ _ _ _ _ => am_lsub d_Lexer_scanNumber_45) ?_
        refine xW_pure (fun _ _ _ _ _ => am_ldc2 (v := 2147483648) w_585 d_Lexer_scanNumber_46) ?_
        refine xW_pure (fun _ _ _ _ _ => am_mminL w_586 w_587 w_164 w_588 d_Lexer_scanNumber_49 (Nat.le_of_ble_eq_true rfl) (by omega)) ?_
        refine xW_pure (fun _ _ _ _ _ => am_lstore_n d_Lexer_scanNumber_52 rfl (Nat.le_of_ble_eq_true rfl)) ?_
        refine xW_pure (fun _ _ _ _ _ => am_aload_n d_Lexer_scanNumber_53 rfl rfl) ?_
        refine xW_pure (fun _ _ _ _ _ => am_dup d_Lexer_scanNumber_54 rfl) ?_
        refine xW_gI O f_Lexer_46 d_Lexer_scanNumber_55 (fun v14 _ => ?_)
        refine xW_pure (fun _ _ _ _ _ => am_iconst (v := 1) d_Lexer_scanNumber_58 (by decide)) ?_
        refine xW_pure (fun _ _ _ _ _ => am_iadd d_Lexer_scanNumber_59) ?_
        refine xW_put O f_Lexer_46 d_Lexer_scanNumber_60 (fun q hq => by cases hq; exact ⟨rfl, rfl, rfl⟩) (fun s15 _ => ?_)
        refine xW_pure (fun _ _ _ _ _ => am_goto (tgt := 2) d_Lexer_scanNumber_63 (by decide)) ?_
        refine xW_locs (lv' := [(0, .ref x0), (1, .long (if 2147483648 < (((z2.1 * 10) + (v13 : Int32).toInt64) - 48) then 2147483648 else (((z2.1 * 10) + (v13 : Int32).toInt64) - 48)))]) rfl ?_
        exact ih2 ((if 2147483648 < (((z2.1 * 10) + (v13 : Int32).toInt64) - 48) then 2147483648 else (((z2.1 * 10) + (v13 : Int32).toInt64) - 48)), s15)

theorem ob_Lexer_scanNumber {d : Nat} {x0 : Nat} {s : HS} {y : Unit × HS} (h : x_Lexer_scanNumber d x0 s = some y) : isO s x0 1 = true := by
  cases d with
  | zero => cases h
  | succ d => exact (gd_spec h).1

set_option maxRecDepth 100000 in
def x_Cell_headOf (d : Nat) (x1 : Int32) (s : HS) : Option (Int64 × HS) := some ((((x1 : Int32).toInt64 : Int64) <<< ((56 : Int32).toInt64 &&& 63)), s)

set_option maxRecDepth 100000 in
set_option maxHeartbeats 4000000 in
theorem dx_Cell_headOf (O : am_ok K X) (T : am_T K) {d : Nat} {x1 : Int32} {s : HS} : xM cvL K X m_Cell_headOf d [.int x1] s (x_Cell_headOf d x1 s) := by
  unfold x_Cell_headOf
  refine xM_enter (by decide +kernel) (Nat.le_of_ble_eq_true rfl) ?_
  refine xW_pure (fun _ _ _ _ _ => am_iload_n d_Cell_headOf_0 rfl rfl) ?_
  refine xW_pure (fun _ _ _ _ _ => am_i2l d_Cell_headOf_1 rfl) ?_
  refine xW_pure (fun _ _ _ _ _ => am_bipush (v := 56) d_Cell_headOf_2 (by decide)) ?_
  refine xW_pure (fun _ _ _ _ _ => am_lshl d_Cell_headOf_4 rfl) ?_
  exact xW_ret (fun _ _ _ _ _ => am_lret rfl d_Cell_headOf_5)

set_option maxRecDepth 100000 in
def x_Lexer_isTextSign (d : Nat) (x1 : Int32) (s : HS) : Option (Int32 × HS) := if x1 < 32 then (some (0, s)) else (if 126 < x1 then (some (0, s)) else (if x1 = 34 then (some (0, s)) else (some (1, s))))

set_option maxRecDepth 100000 in
set_option maxHeartbeats 4000000 in
theorem dx_Lexer_isTextSign (O : am_ok K X) (T : am_T K) {d : Nat} {x1 : Int32} {s : HS} : xM cvI K X m_Lexer_isTextSign d [.int x1] s (x_Lexer_isTextSign d x1 s) := by
  unfold x_Lexer_isTextSign
  refine xM_enter (by decide +kernel) (Nat.le_of_ble_eq_true rfl) ?_
  refine xW_pure (fun _ _ _ _ _ => am_iload_n d_Lexer_isTextSign_0 rfl rfl) ?_
  refine xW_pure (fun _ _ _ _ _ => am_bipush (v := 32) d_Lexer_isTextSign_1 (by decide)) ?_
  refine xW_ite (fun _ _ _ _ _ => am_icmp_lt (tgt := 22) d_Lexer_isTextSign_3 (by decide)) (fun _ => ?_) (fun _ => ?_)
  · refine xW_pure (fun _ _ _ _ _ => am_iconst (v := 0) d_Lexer_isTextSign_22 (by decide)) ?_
    exact xW_ret (fun _ _ _ _ _ => am_zret (ty := .boolean) rfl rfl d_Lexer_isTextSign_23)
  · refine xW_pure (fun _ _ _ _ _ => am_iload_n d_Lexer_isTextSign_6 rfl rfl) ?_
    refine xW_pure (fun _ _ _ _ _ => am_bipush (v := 126) d_Lexer_isTextSign_7 (by decide)) ?_
    refine xW_ite (fun _ _ _ _ _ => am_icmp_gt (tgt := 22) d_Lexer_isTextSign_9 (by decide)) (fun _ => ?_) (fun _ => ?_)
    · refine xW_pure (fun _ _ _ _ _ => am_iconst (v := 0) d_Lexer_isTextSign_22 (by decide)) ?_
      exact xW_ret (fun _ _ _ _ _ => am_zret (ty := .boolean) rfl rfl d_Lexer_isTextSign_23)
    · refine xW_pure (fun _ _ _ _ _ => am_iload_n d_Lexer_isTextSign_12 rfl rfl) ?_
      refine xW_pure (fun _ _ _ _ _ => am_bipush (v := 34) d_Lexer_isTextSign_13 (by decide)) ?_
      refine xW_ite (fun _ _ _ _ _ => am_icmp_eq (tgt := 22) d_Lexer_isTextSign_15 (by decide)) (fun _ => ?_) (fun _ => ?_)
      · refine xW_pure (fun _ _ _ _ _ => am_iconst (v := 0) d_Lexer_isTextSign_22 (by decide)) ?_
        exact xW_ret (fun _ _ _ _ _ => am_zret (ty := .boolean) rfl rfl d_Lexer_isTextSign_23)
      · refine xW_pure (fun _ _ _ _ _ => am_iconst (v := 1) d_Lexer_isTextSign_18 (by decide)) ?_
        refine xW_pure (fun _ _ _ _ _ => am_goto (tgt := 23) d_Lexer_isTextSign_19 (by decide)) ?_
        exact xW_ret (fun _ _ _ _ _ => am_zret (ty := .boolean) rfl rfl d_Lexer_isTextSign_23)

set_option maxRecDepth 100000 in
def x_Lexer_pairKind (d : Nat) (x1 : Int32) (x2 : Int32) (s : HS) : Option (Int32 × HS) := if x2 = 61 then (if x1 = 61 then (some (256, s)) else (if x1 = 33 then (some (257, s)) else (if x1 = 60 then (some (258, s)) else (some (1, s))))) else (if x1 = x2 then (if x1 = 38 then (some (259, s)) else (if x1 = 124 then (some (260, s)) else (some (1, s)))) else (some (1, s)))

set_option maxRecDepth 100000 in
set_option maxHeartbeats 4000000 in
theorem dx_Lexer_pairKind (O : am_ok K X) (T : am_T K) {d : Nat} {x1 : Int32} {x2 : Int32} {s : HS} : xM cvI K X m_Lexer_pairKind d [.int x1, .int x2] s (x_Lexer_pairKind d x1 x2 s) := by
  unfold x_Lexer_pairKind
  refine xM_enter (by decide +kernel) (Nat.le_of_ble_eq_true rfl) ?_
  refine xW_pure (fun _ _ _ _ _ => am_iload_n d_Lexer_pairKind_0 rfl rfl) ?_
  refine xW_pure (fun _ _ _ _ _ => am_bipush (v := 61) d_Lexer_pairKind_1 (by decide)) ?_
  refine xW_ite (fun _ _ _ _ _ k1 k2 => am_icmp_ne (tgt := 44) d_Lexer_pairKind_3 (by decide) k2 k1) (fun _ => ?_) (fun _ => ?_)
  · refine xW_pure (fun _ _ _ _ _ => am_iload_n d_Lexer_pairKind_6 rfl rfl) ?_
    refine xW_pure (fun _ _ _ _ _ => am_bipush (v := 61) d_Lexer_pairKind_7 (by decide)) ?_
    refine xW_ite (fun _ _ _ _ _ k1 k2 => am_icmp_ne (tgt := 18) d_Lexer_pairKind_9 (by decide) k2 k1) (fun _ => ?_) (fun _ => ?_)
    · refine xW_pure (fun _ _ _ _ _ => am_sipush (v := 256) d_Lexer_pairKind_12 (by decide)) ?_
      refine xW_pure (fun _ _ _ _ _ => am_goto (tgt := 43) d_Lexer_pairKind_15 (by decide)) ?_
      exact xW_ret (fun _ _ _ _ _ => am_iret rfl d_Lexer_pairKind_43)
    · refine xW_pure (fun _ _ _ _ _ => am_iload_n d_Lexer_pairKind_18 rfl rfl) ?_
      refine xW_pure (fun _ _ _ _ _ => am_bipush (v := 33) d_Lexer_pairKind_19 (by decide)) ?_
      refine xW_ite (fun _ _ _ _ _ k1 k2 => am_icmp_ne (tgt := 30) d_Lexer_pairKind_21 (by decide) k2 k1) (fun _ => ?_) (fun _ => ?_)
      · refine xW_pure (fun _ _ _ _ _ => am_sipush (v := 257) d_Lexer_pairKind_24 (by decide)) ?_
        refine xW_pure (fun _ _ _ _ _ => am_goto (tgt := 43) d_Lexer_pairKind_27 (by decide)) ?_
        exact xW_ret (fun _ _ _ _ _ => am_iret rfl d_Lexer_pairKind_43)
      · refine xW_pure (fun _ _ _ _ _ => am_iload_n d_Lexer_pairKind_30 rfl rfl) ?_
        refine xW_pure (fun _ _ _ _ _ => am_bipush (v := 60) d_Lexer_pairKind_31 (by decide)) ?_
        refine xW_ite (fun _ _ _ _ _ k1 k2 => am_icmp_ne (tgt := 42) d_Lexer_pairKind_33 (by decide) k2 k1) (fun _ => ?_) (fun _ => ?_)
        · refine xW_pure (fun _ _ _ _ _ => am_sipush (v := 258) d_Lexer_pairKind_36 (by decide)) ?_
          refine xW_pure (fun _ _ _ _ _ => am_goto (tgt := 43) d_Lexer_pairKind_39 (by decide)) ?_
          exact xW_ret (fun _ _ _ _ _ => am_iret rfl d_Lexer_pairKind_43)
        · refine xW_pure (fun _ _ _ _ _ => am_iconst (v := 1) d_Lexer_pairKind_42 (by decide)) ?_
          exact xW_ret (fun _ _ _ _ _ => am_iret rfl d_Lexer_pairKind_43)
  · refine xW_pure (fun _ _ _ _ _ => am_iload_n d_Lexer_pairKind_44 rfl rfl) ?_
    refine xW_pure (fun _ _ _ _ _ => am_iload_n d_Lexer_pairKind_45 rfl rfl) ?_
    refine xW_ite (fun _ _ _ _ _ k1 k2 => am_icmp_ne (tgt := 75) d_Lexer_pairKind_46 (by decide) k2 k1) (fun _ => ?_) (fun _ => ?_)
    · refine xW_pure (fun _ _ _ _ _ => am_iload_n d_Lexer_pairKind_49 rfl rfl) ?_
      refine xW_pure (fun _ _ _ _ _ => am_bipush (v := 38) d_Lexer_pairKind_50 (by decide)) ?_
      refine xW_ite (fun _ _ _ _ _ k1 k2 => am_icmp_ne (tgt := 61) d_Lexer_pairKind_52 (by decide) k2 k1) (fun _ => ?_) (fun _ => ?_)
      · refine xW_pure (fun _ _ _ _ _ => am_sipush (v := 259) d_Lexer_pairKind_55 (by decide)) ?_
        refine xW_pure (fun _ _ _ _ _ => am_goto (tgt := 74) d_Lexer_pairKind_58 (by decide)) ?_
        exact xW_ret (fun _ _ _ _ _ => am_iret rfl d_Lexer_pairKind_74)
      · refine xW_pure (fun _ _ _ _ _ => am_iload_n d_Lexer_pairKind_61 rfl rfl) ?_
        refine xW_pure (fun _ _ _ _ _ => am_bipush (v := 124) d_Lexer_pairKind_62 (by decide)) ?_
        refine xW_ite (fun _ _ _ _ _ k1 k2 => am_icmp_ne (tgt := 73) d_Lexer_pairKind_64 (by decide) k2 k1) (fun _ => ?_) (fun _ => ?_)
        · refine xW_pure (fun _ _ _ _ _ => am_sipush (v := 260) d_Lexer_pairKind_67 (by decide)) ?_
          refine xW_pure (fun _ _ _ _ _ => am_goto (tgt := 74) d_Lexer_pairKind_70 (by decide)) ?_
          exact xW_ret (fun _ _ _ _ _ => am_iret rfl d_Lexer_pairKind_74)
        · refine xW_pure (fun _ _ _ _ _ => am_iconst (v := 1) d_Lexer_pairKind_73 (by decide)) ?_
          exact xW_ret (fun _ _ _ _ _ => am_iret rfl d_Lexer_pairKind_74)
    · refine xW_pure (fun _ _ _ _ _ => am_iconst (v := 1) d_Lexer_pairKind_75 (by decide)) ?_
      exact xW_ret (fun _ _ _ _ _ => am_iret rfl d_Lexer_pairKind_76)

set_option maxRecDepth 100000 in
def x_Draft_clear (d : Nat) (x0 : Nat) (s : HS) : Option (Unit × HS) := gd s x0 2 ((pV s x0 2 1 (.int 0)).bind fun s1 => ((pV s1 x0 2 3 (.int 0)).bind fun s2 => ((pV s2 x0 2 5 (.int 0)).bind fun s3 => (some ((), s3)))))

set_option maxRecDepth 100000 in
set_option maxHeartbeats 4000000 in
theorem dx_Draft_clear (O : am_ok K X) (T : am_T K) {d : Nat} {x0 : Nat} {s : HS} : xM cvU K X m_Draft_clear d [.ref x0] s (x_Draft_clear d x0 s) := by
  unfold x_Draft_clear
  refine xM_enter (by decide +kernel) (Nat.le_of_ble_eq_true rfl) ?_
  refine xW_gd (fun _ => ?_)
  refine xW_pure (fun _ _ _ _ _ => am_aload_n d_Draft_clear_0 rfl rfl) ?_
  refine xW_pure (fun _ _ _ _ _ => am_iconst (v := 0) d_Draft_clear_1 (by decide)) ?_
  refine xW_put O f_Draft_20 d_Draft_clear_2 (fun q hq => by cases hq; exact ⟨rfl, rfl, rfl⟩) (fun s1 _ => ?_)
  refine xW_pure (fun _ _ _ _ _ => am_aload_n d_Draft_clear_5 rfl rfl) ?_
  refine xW_pure (fun _ _ _ _ _ => am_iconst (v := 0) d_Draft_clear_6 (by decide)) ?_
  refine xW_put O f_Draft_24 d_Draft_clear_7 (fun q hq => by cases hq; exact ⟨rfl, rfl, rfl⟩) (fun s2 _ => ?_)
  refine xW_pure (fun _ _ _ _ _ => am_aload_n d_Draft_clear_10 rfl rfl) ?_
  refine xW_pure (fun _ _ _ _ _ => am_iconst (v := 0) d_Draft_clear_11 (by decide)) ?_
  refine xW_put O f_Draft_27 d_Draft_clear_12 (fun q hq => by cases hq; exact ⟨rfl, rfl, rfl⟩) (fun s3 _ => ?_)
  exact xW_ret (fun _ _ _ _ _ => am_vret rfl d_Draft_clear_15)

theorem ob_Draft_clear {d : Nat} {x0 : Nat} {s : HS} {y : Unit × HS} (h : x_Draft_clear d x0 s = some y) : isO s x0 2 = true := (gd_spec h).1

set_option maxRecDepth 100000 in
def x_Lexer_kind (d : Nat) (x0 : Nat) (s : HS) : Option (Int32 × HS) := gd s x0 1 ((gI s x0 1 5).bind fun v1 => (some (v1, s)))

set_option maxRecDepth 100000 in
set_option maxHeartbeats 4000000 in
theorem dx_Lexer_kind (O : am_ok K X) (T : am_T K) {d : Nat} {x0 : Nat} {s : HS} : xM cvI K X m_Lexer_kind d [.ref x0] s (x_Lexer_kind d x0 s) := by
  unfold x_Lexer_kind
  refine xM_enter (by decide +kernel) (Nat.le_of_ble_eq_true rfl) ?_
  refine xW_gd (fun _ => ?_)
  refine xW_pure (fun _ _ _ _ _ => am_aload_n d_Lexer_kind_0 rfl rfl) ?_
  refine xW_gI O f_Lexer_65 d_Lexer_kind_1 (fun v1 _ => ?_)
  exact xW_ret (fun _ _ _ _ _ => am_iret rfl d_Lexer_kind_4)

theorem ob_Lexer_kind {d : Nat} {x0 : Nat} {s : HS} {y : Int32 × HS} (h : x_Lexer_kind d x0 s = some y) : isO s x0 1 = true := (gd_spec h).1

set_option maxRecDepth 100000 in
def x_Lexer_place (d : Nat) (x0 : Nat) (s : HS) : Option (Int32 × HS) := gd s x0 1 ((gI s x0 1 6).bind fun v1 => (some (v1, s)))

set_option maxRecDepth 100000 in
set_option maxHeartbeats 4000000 in
theorem dx_Lexer_place (O : am_ok K X) (T : am_T K) {d : Nat} {x0 : Nat} {s : HS} : xM cvI K X m_Lexer_place d [.ref x0] s (x_Lexer_place d x0 s) := by
  unfold x_Lexer_place
  refine xM_enter (by decide +kernel) (Nat.le_of_ble_eq_true rfl) ?_
  refine xW_gd (fun _ => ?_)
  refine xW_pure (fun _ _ _ _ _ => am_aload_n d_Lexer_place_0 rfl rfl) ?_
  refine xW_gI O f_Lexer_58 d_Lexer_place_1 (fun v1 _ => ?_)
  exact xW_ret (fun _ _ _ _ _ => am_iret rfl d_Lexer_place_4)

theorem ob_Lexer_place {d : Nat} {x0 : Nat} {s : HS} {y : Int32 × HS} (h : x_Lexer_place d x0 s = some y) : isO s x0 1 = true := (gd_spec h).1

set_option maxRecDepth 100000 in
def x_Lexer_stop (d : Nat) (x0 : Nat) (s : HS) : Option (Unit × HS) := gd s x0 1 ((pV s x0 1 5 (.int 1)).bind fun s1 => (some ((), s1)))

set_option maxRecDepth 100000 in
set_option maxHeartbeats 4000000 in
theorem dx_Lexer_stop (O : am_ok K X) (T : am_T K) {d : Nat} {x0 : Nat} {s : HS} : xM cvU K X m_Lexer_stop d [.ref x0] s (x_Lexer_stop d x0 s) := by
  unfold x_Lexer_stop
  refine xM_enter (by decide +kernel) (Nat.le_of_ble_eq_true rfl) ?_
  refine xW_gd (fun _ => ?_)
  refine xW_pure (fun _ _ _ _ _ => am_aload_n d_Lexer_stop_0 rfl rfl) ?_
  refine xW_pure (fun _ _ _ _ _ => am_iconst (v := 1) d_Lexer_stop_1 (by decide)) ?_
  refine xW_put O f_Lexer_65 d_Lexer_stop_2 (fun q hq => by cases hq; exact ⟨rfl, rfl, rfl⟩) (fun s1 _ => ?_)
  exact xW_ret (fun _ _ _ _ _ => am_vret rfl d_Lexer_stop_5)

theorem ob_Lexer_stop {d : Nat} {x0 : Nat} {s : HS} {y : Unit × HS} (h : x_Lexer_stop d x0 s = some y) : isO s x0 1 = true := (gd_spec h).1

set_option maxRecDepth 100000 in
def x_Lexer_head (d : Nat) (x0 : Nat) (s : HS) : Option (Int64 × HS) := gd s x0 1 ((gL s x0 1 8).bind fun v1 => (some (v1, s)))

set_option maxRecDepth 100000 in
set_option maxHeartbeats 4000000 in
theorem dx_Lexer_head (O : am_ok K X) (T : am_T K) {d : Nat} {x0 : Nat} {s : HS} : xM cvL K X m_Lexer_head d [.ref x0] s (x_Lexer_head d x0 s) := by
  unfold x_Lexer_head
  refine xM_enter (by decide +kernel) (Nat.le_of_ble_eq_true rfl) ?_
  refine xW_gd (fun _ => ?_)
  refine xW_pure (fun _ _ _ _ _ => am_aload_n d_Lexer_head_0 rfl rfl) ?_
  refine xW_gL O f_Lexer_91 d_Lexer_head_1 (fun v1 _ => ?_)
  exact xW_ret (fun _ _ _ _ _ => am_lret rfl d_Lexer_head_4)

theorem ob_Lexer_head {d : Nat} {x0 : Nat} {s : HS} {y : Int64 × HS} (h : x_Lexer_head d x0 s = some y) : isO s x0 1 = true := (gd_spec h).1

set_option maxRecDepth 100000 in
def x_Draft_localOf (d : Nat) (x0 : Nat) (x1 : Int64) (s : HS) : Option (Int32 × HS) := gd s x0 2 (loopK (fun (again2 : Int32 × HS → Option (Int32 × HS)) (z2 : Int32 × HS) => ((gI z2.2 x0 2 5).bind fun v1 => (if v1 ≤ z2.1 then (some ((-1), z2.2)) else ((gR z2.2 x0 2 4).bind fun v2 => ((aL z2.2 v2 z2.1).bind fun v3 => (if (lg_cmp v3 x1) = 0 then (some (z2.1, z2.2)) else (again2 ((z2.1 + 1), z2.2)))))))) FU (0, s))

set_option maxRecDepth 100000 in
set_option maxHeartbeats 4000000 in
theorem dx_Draft_localOf (O : am_ok K X) (T : am_T K) {d : Nat} {x0 : Nat} {x1 : Int64} {s : HS} : xM cvI K X m_Draft_localOf d [.ref x0, .long x1] s (x_Draft_localOf d x0 x1 s) := by
  unfold x_Draft_localOf
  refine xM_enter (by decide +kernel) (Nat.le_of_ble_eq_true rfl) ?_
  refine xW_gd (fun _ => ?_)
  refine xW_pure (fun _ _ _ _ _ => am_iconst (v := 0) d_Draft_localOf_0 (by decide)) ?_
  refine xW_pure (fun _ _ _ _ _ => am_istore_n d_Draft_localOf_1 rfl (Nat.le_of_ble_eq_true rfl)) ?_
  refine xW_locs (lv' := [(0, .ref x0), (1, .long x1), (3, .int 0)]) rfl ?_
  refine xW_loop (lvf := fun (z2 : Int32 × HS) => [(0, .ref x0), (1, .long x1), (3, .int z2.1)]) (hsf := fun (z2 : Int32 × HS) => z2.2) (fun again2 ih2 z2 => ?_) FU (0, s)
  refine xW_pure (fun _ _ _ _ _ => am_iload_n d_Draft_localOf_2 rfl rfl) ?_
  refine xW_pure (fun _ _ _ _ _ => am_aload_n d_Draft_localOf_3 rfl rfl) ?_
  refine xW_gI O f_Draft_27 d_Draft_localOf_4 (fun v1 _ => ?_)
  refine xW_ite (fun _ _ _ _ _ => am_icmp_ge (tgt := 29) d_Draft_localOf_7 (by decide)) (fun _ => ?_) (fun _ => ?_)
  · refine xW_pure (fun _ _ _ _ _ => am_iconst (v := (-1)) d_Draft_localOf_29 (by decide)) ?_
    exact xW_ret (fun _ _ _ _ _ => am_iret rfl d_Draft_localOf_30)
  · refine xW_pure (fun _ _ _ _ _ => am_aload_n d_Draft_localOf_10 rfl rfl) ?_
    refine xW_gR O f_Draft_17 d_Draft_localOf_11 (fun v2 _ => ?_)
    refine xW_pure (fun _ _ _ _ _ => am_iload_n d_Draft_localOf_14 rfl rfl) ?_
    refine xW_aL O d_Draft_localOf_15 (fun v3 _ => ?_)
    refine xW_pure (fun _ _ _ _ _ => am_lload_n d_Draft_localOf_16 rfl rfl) ?_
    refine xW_pure (fun _ _ _ _ _ => am_lcmp d_Draft_localOf_17) ?_
    refine xW_ite (fun _ _ _ _ _ k1 k2 => am_if_ne (tgt := 23) d_Draft_localOf_18 (by decide) k2 k1) (fun _ => ?_) (fun _ => ?_)
    · refine xW_pure (fun _ _ _ _ _ => am_iload_n d_Draft_localOf_21 rfl rfl) ?_
      exact xW_ret (fun _ _ _ _ _ => am_iret rfl d_Draft_localOf_22)
    · refine xW_pure (fun _ _ _ _ _ => am_iinc (v := 1) d_Draft_localOf_23 rfl (by decide) (Nat.le_of_ble_eq_true rfl)) ?_
      refine xW_pure (fun _ _ _ _ _ => am_goto (tgt := 2) d_Draft_localOf_26 (by decide)) ?_
      refine xW_locs (lv' := [(0, .ref x0), (1, .long x1), (3, .int (z2.1 + 1))]) rfl ?_
      exact ih2 ((z2.1 + 1), z2.2)

theorem ob_Draft_localOf {d : Nat} {x0 : Nat} {x1 : Int64} {s : HS} {y : Int32 × HS} (h : x_Draft_localOf d x0 x1 s = some y) : isO s x0 2 = true := (gd_spec h).1

set_option maxRecDepth 100000 in
def x_Draft_makeLocal_b42 (d : Nat) (l0 : Nat) (l1 : Int64) (s : HS) : Option (Int32 × HS) := (gR s l0 2 4).bind fun v12 => ((gI s l0 2 5).bind fun v13 => ((sV s .long v12 v13 (.long l1)).bind fun s14 => ((gI s14 l0 2 5).bind fun v15 => ((pV s14 l0 2 5 (.int (v15 + 1))).bind fun s16 => ((gI s16 l0 2 5).bind fun v17 => (some ((v17 - 1), s16)))))))

set_option maxRecDepth 100000 in
set_option maxHeartbeats 4000000 in
theorem dx_Draft_makeLocal_b42 (O : am_ok K X) (T : am_T K) {d : Nat} {l0 : Nat} {l1 : Int64} {s : HS} : xW cvI K X m_Draft_makeLocal (d + 1) 42 [(0, .ref l0), (1, .long l1)] [] s (x_Draft_makeLocal_b42 d l0 l1 s) := by
  unfold x_Draft_makeLocal_b42
  refine xW_pure (fun _ _ _ _ _ => am_aload_n d_Draft_makeLocal_42 rfl rfl) ?_
  refine xW_gR O f_Draft_17 d_Draft_makeLocal_43 (fun v12 _ => ?_)
  refine xW_pure (fun _ _ _ _ _ => am_aload_n d_Draft_makeLocal_46 rfl rfl) ?_
  refine xW_gI O f_Draft_27 d_Draft_makeLocal_47 (fun v13 _ => ?_)
  refine xW_pure (fun _ _ _ _ _ => am_lload_n d_Draft_makeLocal_50 rfl rfl) ?_
  refine xW_sL O d_Draft_makeLocal_51 (fun s14 _ => ?_)
  refine xW_pure (fun _ _ _ _ _ => am_aload_n d_Draft_makeLocal_52 rfl rfl) ?_
  refine xW_pure (fun _ _ _ _ _ => am_dup d_Draft_makeLocal_53 rfl) ?_
  refine xW_gI O f_Draft_27 d_Draft_makeLocal_54 (fun v15 _ => ?_)
  refine xW_pure (fun _ _ _ _ _ => am_iconst (v := 1) d_Draft_makeLocal_57 (by decide)) ?_
  refine xW_pure (fun _ _ _ _ _ => am_iadd d_Draft_makeLocal_58) ?_
  refine xW_put O f_Draft_27 d_Draft_makeLocal_59 (fun q hq => by cases hq; exact ⟨rfl, rfl, rfl⟩) (fun s16 _ => ?_)
  refine xW_pure (fun _ _ _ _ _ => am_aload_n d_Draft_makeLocal_62 rfl rfl) ?_
  refine xW_gI O f_Draft_27 d_Draft_makeLocal_63 (fun v17 _ => ?_)
  refine xW_pure (fun _ _ _ _ _ => am_iconst (v := 1) d_Draft_makeLocal_66 (by decide)) ?_
  refine xW_pure (fun _ _ _ _ _ => am_isub d_Draft_makeLocal_67) ?_
  exact xW_ret (fun _ _ _ _ _ => am_iret rfl d_Draft_makeLocal_68)

set_option maxRecDepth 100000 in
def x_Draft_makeLocal (d : Nat) (x0 : Nat) (x1 : Int64) (s : HS) : Option (Int32 × HS) := match d with
  | 0 => none
  | d + 1 => gd s x0 2 (bnd (x_Draft_localOf d x0 x1 s) fun v2 s1 => (if v2 < 0 then ((gI s1 x0 2 5).bind fun v3 => ((gR s1 x0 2 4).bind fun v4 => ((lenA s1 v4).bind fun v5 => (if v3 = v5 then ((gR s1 x0 2 4).bind fun v6 => ((gR s1 x0 2 4).bind fun v7 => ((lenA s1 v7).bind fun v8 => (bnd (x_Arr_copyOf_aJI d v6 (2 * v8) s1) fun v10 s9 => ((pV s9 x0 2 4 (.ref v10)).bind fun s11 => (x_Draft_makeLocal_b42 d x0 x1 s11)))))) else (x_Draft_makeLocal_b42 d x0 x1 s1))))) else (some (v2, s1))))

set_option maxRecDepth 100000 in
set_option maxHeartbeats 4000000 in
theorem dx_Draft_makeLocal (O : am_ok K X) (T : am_T K) {d : Nat} {x0 : Nat} {x1 : Int64} {s : HS} : xM cvI K X m_Draft_makeLocal d [.ref x0, .long x1] s (x_Draft_makeLocal d x0 x1 s) := by
  cases d with
  | zero => exact xM_none
  | succ d =>
    unfold x_Draft_makeLocal
    refine xM_enter (by decide +kernel) (Nat.le_of_ble_eq_true rfl) ?_
    refine xW_gd (fun _ => ?_)
    refine xW_pure (fun _ _ _ _ _ => am_aload_n d_Draft_makeLocal_0 rfl rfl) ?_
    refine xW_pure (fun _ _ _ _ _ => am_lload_n d_Draft_makeLocal_1 rfl rfl) ?_
    refine xW_callV O (dx_Draft_localOf O T) (fun _ e => ob_Draft_localOf e) rfl rfl rfl l_Draft_49 ⟨w_714, w_715⟩ rfl (Nat.le_of_ble_eq_true rfl) d_Draft_makeLocal_2 (fun v2 s1 _ => ?_)
    refine xW_pure (fun _ _ _ _ _ => am_istore_n d_Draft_makeLocal_5 rfl (Nat.le_of_ble_eq_true rfl)) ?_
    refine xW_pure (fun _ _ _ _ _ => am_iload_n d_Draft_makeLocal_6 rfl rfl) ?_
    refine xW_ite (fun _ _ _ _ _ => am_if_lt (tgt := 12) d_Draft_makeLocal_7 (by decide)) (fun _ => ?_) (fun _ => ?_)
    · refine xW_pure (fun _ _ _ _ _ => am_aload_n d_Draft_makeLocal_12 rfl rfl) ?_
      refine xW_gI O f_Draft_27 d_Draft_makeLocal_13 (fun v3 _ => ?_)
      refine xW_pure (fun _ _ _ _ _ => am_aload_n d_Draft_makeLocal_16 rfl rfl) ?_
      refine xW_gR O f_Draft_17 d_Draft_makeLocal_17 (fun v4 _ => ?_)
      refine xW_len O d_Draft_makeLocal_20 (fun v5 _ => ?_)
      refine xW_ite (fun _ _ _ _ _ k1 k2 => am_icmp_ne (tgt := 42) d_Draft_makeLocal_21 (by decide) k2 k1) (fun _ => ?_) (fun _ => ?_)
      · refine xW_pure (fun _ _ _ _ _ => am_aload_n d_Draft_makeLocal_24 rfl rfl) ?_
        refine xW_pure (fun _ _ _ _ _ => am_aload_n d_Draft_makeLocal_25 rfl rfl) ?_
        refine xW_gR O f_Draft_17 d_Draft_makeLocal_26 (fun v6 _ => ?_)
        refine xW_pure (fun _ _ _ _ _ => am_iconst (v := 2) d_Draft_makeLocal_29 (by decide)) ?_
        refine xW_pure (fun _ _ _ _ _ => am_aload_n d_Draft_makeLocal_30 rfl rfl) ?_
        refine xW_gR O f_Draft_17 d_Draft_makeLocal_31 (fun v7 _ => ?_)
        refine xW_len O d_Draft_makeLocal_34 (fun v8 _ => ?_)
        refine xW_pure (fun _ _ _ _ _ => am_imul d_Draft_makeLocal_35) ?_
        refine xW_callS O (dx_Arr_copyOf_aJI O T) rfl l_Draft_46 w_723 rfl (Nat.le_of_ble_eq_true rfl) d_Draft_makeLocal_36 (fun v10 s9 _ => ?_)
        refine xW_put O f_Draft_17 d_Draft_makeLocal_39 (fun q hq => by cases hq; exact ⟨rfl, rfl, rfl⟩) (fun s11 _ => ?_)
        refine xW_locs (lv' := [(0, .ref x0), (1, .long x1)]) rfl ?_
        exact dx_Draft_makeLocal_b42 O T
      · refine xW_locs (lv' := [(0, .ref x0), (1, .long x1)]) rfl ?_
        exact dx_Draft_makeLocal_b42 O T
    · refine xW_pure (fun _ _ _ _ _ => am_iload_n d_Draft_makeLocal_10 rfl rfl) ?_
      exact xW_ret (fun _ _ _ _ _ => am_iret rfl d_Draft_makeLocal_11)

theorem ob_Draft_makeLocal {d : Nat} {x0 : Nat} {x1 : Int64} {s : HS} {y : Int32 × HS} (h : x_Draft_makeLocal d x0 x1 s = some y) : isO s x0 2 = true := by
  cases d with
  | zero => cases h
  | succ d => exact (gd_spec h).1

set_option maxRecDepth 100000 in
def x_Lexer_taken (d : Nat) (x0 : Nat) (s : HS) : Option (Int32 × HS) := gd s x0 1 ((gI s x0 1 4).bind fun v1 => (some (v1, s)))

set_option maxRecDepth 100000 in
set_option maxHeartbeats 4000000 in
theorem dx_Lexer_taken (O : am_ok K X) (T : am_T K) {d : Nat} {x0 : Nat} {s : HS} : xM cvI K X m_Lexer_taken d [.ref x0] s (x_Lexer_taken d x0 s) := by
  unfold x_Lexer_taken
  refine xM_enter (by decide +kernel) (Nat.le_of_ble_eq_true rfl) ?_
  refine xW_gd (fun _ => ?_)
  refine xW_pure (fun _ _ _ _ _ => am_aload_n d_Lexer_taken_0 rfl rfl) ?_
  refine xW_gI O f_Lexer_49 d_Lexer_taken_1 (fun v1 _ => ?_)
  exact xW_ret (fun _ _ _ _ _ => am_iret rfl d_Lexer_taken_4)

theorem ob_Lexer_taken {d : Nat} {x0 : Nat} {s : HS} {y : Int32 × HS} (h : x_Lexer_taken d x0 s = some y) : isO s x0 1 = true := (gd_spec h).1

set_option maxRecDepth 100000 in
def x_Draft_add_b32 (d : Nat) (l0 : Nat) (l1 : Int32) (l2 : Int32) (s : HS) : Option (Unit × HS) := (gR s l0 2 0).bind fun v4 => ((gI s l0 2 1).bind fun v5 => ((sV s .int v4 v5 (.int l1)).bind fun s6 => ((gR s6 l0 2 0).bind fun v7 => ((gI s6 l0 2 1).bind fun v8 => ((sV s6 .int v7 (v8 + 1) (.int l2)).bind fun s9 => ((gI s9 l0 2 1).bind fun v10 => ((pV s9 l0 2 1 (.int (v10 + 2))).bind fun s11 => (some ((), s11)))))))))

set_option maxRecDepth 100000 in
set_option maxHeartbeats 4000000 in
theorem dx_Draft_add_b32 (O : am_ok K X) (T : am_T K) {d : Nat} {l0 : Nat} {l1 : Int32} {l2 : Int32} {s : HS} : xW cvU K X m_Draft_add (d + 1) 32 [(0, .ref l0), (1, .int l1), (2, .int l2)] [] s (x_Draft_add_b32 d l0 l1 l2 s) := by
  unfold x_Draft_add_b32
  refine xW_pure (fun _ _ _ _ _ => am_aload_n d_Draft_add_32 rfl rfl) ?_
  refine xW_gR O f_Draft_7 d_Draft_add_33 (fun v4 _ => ?_)
  refine xW_pure (fun _ _ _ _ _ => am_aload_n d_Draft_add_36 rfl rfl) ?_
  refine xW_gI O f_Draft_20 d_Draft_add_37 (fun v5 _ => ?_)
  refine xW_pure (fun _ _ _ _ _ => am_iload_n d_Draft_add_40 rfl rfl) ?_
  refine xW_sI O d_Draft_add_41 (fun s6 _ => ?_)
  refine xW_pure (fun _ _ _ _ _ => am_aload_n d_Draft_add_42 rfl rfl) ?_
  refine xW_gR O f_Draft_7 d_Draft_add_43 (fun v7 _ => ?_)
  refine xW_pure (fun _ _ _ _ _ => am_aload_n d_Draft_add_46 rfl rfl) ?_
  refine xW_gI O f_Draft_20 d_Draft_add_47 (fun v8 _ => ?_)
  refine xW_pure (fun _ _ _ _ _ => am_iconst (v := 1) d_Draft_add_50 (by decide)) ?_
  refine xW_pure (fun _ _ _ _ _ => am_iadd d_Draft_add_51) ?_
  refine xW_pure (fun _ _ _ _ _ => am_iload_n d_Draft_add_52 rfl rfl) ?_
  refine xW_sI O d_Draft_add_53 (fun s9 _ => ?_)
  refine xW_pure (fun _ _ _ _ _ => am_aload_n d_Draft_add_54 rfl rfl) ?_
  refine xW_pure (fun _ _ _ _ _ => am_dup d_Draft_add_55 rfl) ?_
  refine xW_gI O f_Draft_20 d_Draft_add_56 (fun v10 _ => ?_)
  refine xW_pure (fun _ _ _ _ _ => am_iconst (v := 2) d_Draft_add_59 (by decide)) ?_
  refine xW_pure (fun _ _ _ _ _ => am_iadd d_Draft_add_60) ?_
  refine xW_put O f_Draft_20 d_Draft_add_61 (fun q hq => by cases hq; exact ⟨rfl, rfl, rfl⟩) (fun s11 _ => ?_)
  exact xW_ret (fun _ _ _ _ _ => am_vret rfl d_Draft_add_64)

set_option maxRecDepth 100000 in
def x_Draft_add (d : Nat) (x0 : Nat) (x1 : Int32) (x2 : Int32) (s : HS) : Option (Unit × HS) := match d with
  | 0 => none
  | d + 1 => gd s x0 2 ((gI s x0 2 1).bind fun v1 => ((gR s x0 2 0).bind fun v2 => ((lenA s v2).bind fun v3 => (if (v1 + 2) ≤ v3 then (x_Draft_add_b32 d x0 x1 x2 s) else ((gR s x0 2 0).bind fun v12 => ((gR s x0 2 0).bind fun v13 => ((lenA s v13).bind fun v14 => (bnd (x_Arr_copyOf_aII d v12 (2 * v14) s) fun v16 s15 => ((pV s15 x0 2 0 (.ref v16)).bind fun s17 => (x_Draft_add_b32 d x0 x1 x2 s17))))))))))

set_option maxRecDepth 100000 in
set_option maxHeartbeats 4000000 in
theorem dx_Draft_add (O : am_ok K X) (T : am_T K) {d : Nat} {x0 : Nat} {x1 : Int32} {x2 : Int32} {s : HS} : xM cvU K X m_Draft_add d [.ref x0, .int x1, .int x2] s (x_Draft_add d x0 x1 x2 s) := by
  cases d with
  | zero => exact xM_none
  | succ d =>
    unfold x_Draft_add
    refine xM_enter (by decide +kernel) (Nat.le_of_ble_eq_true rfl) ?_
    refine xW_gd (fun _ => ?_)
    refine xW_pure (fun _ _ _ _ _ => am_aload_n d_Draft_add_0 rfl rfl) ?_
    refine xW_gI O f_Draft_20 d_Draft_add_1 (fun v1 _ => ?_)
    refine xW_pure (fun _ _ _ _ _ => am_iconst (v := 2) d_Draft_add_4 (by decide)) ?_
    refine xW_pure (fun _ _ _ _ _ => am_iadd d_Draft_add_5) ?_
    refine xW_pure (fun _ _ _ _ _ => am_aload_n d_Draft_add_6 rfl rfl) ?_
    refine xW_gR O f_Draft_7 d_Draft_add_7 (fun v2 _ => ?_)
    refine xW_len O d_Draft_add_10 (fun v3 _ => ?_)
    refine xW_ite (fun _ _ _ _ _ => am_icmp_le (tgt := 32) d_Draft_add_11 (by decide)) (fun _ => ?_) (fun _ => ?_)
    · refine xW_locs (lv' := [(0, .ref x0), (1, .int x1), (2, .int x2)]) rfl ?_
      exact dx_Draft_add_b32 O T
    · refine xW_pure (fun _ _ _ _ _ => am_aload_n d_Draft_add_14 rfl rfl) ?_
      refine xW_pure (fun _ _ _ _ _ => am_aload_n d_Draft_add_15 rfl rfl) ?_
      refine xW_gR O f_Draft_7 d_Draft_add_16 (fun v12 _ => ?_)
      refine xW_pure (fun _ _ _ _ _ => am_iconst (v := 2) d_Draft_add_19 (by decide)) ?_
      refine xW_pure (fun _ _ _ _ _ => am_aload_n d_Draft_add_20 rfl rfl) ?_
      refine xW_gR O f_Draft_7 d_Draft_add_21 (fun v13 _ => ?_)
      refine xW_len O d_Draft_add_24 (fun v14 _ => ?_)
      refine xW_pure (fun _ _ _ _ _ => am_imul d_Draft_add_25) ?_
      refine xW_callS O (dx_Arr_copyOf_aII O T) rfl l_Draft_30 w_757 rfl (Nat.le_of_ble_eq_true rfl) d_Draft_add_26 (fun v16 s15 _ => ?_)
      refine xW_put O f_Draft_7 d_Draft_add_29 (fun q hq => by cases hq; exact ⟨rfl, rfl, rfl⟩) (fun s17 _ => ?_)
      refine xW_locs (lv' := [(0, .ref x0), (1, .int x1), (2, .int x2)]) rfl ?_
      exact dx_Draft_add_b32 O T

theorem ob_Draft_add {d : Nat} {x0 : Nat} {x1 : Int32} {x2 : Int32} {s : HS} {y : Unit × HS} (h : x_Draft_add d x0 x1 x2 s = some y) : isO s x0 2 = true := by
  cases d with
  | zero => cases h
  | succ d => exact (gd_spec h).1

set_option maxRecDepth 100000 in
def x_Lexer_number (d : Nat) (x0 : Nat) (s : HS) : Option (Int32 × HS) := gd s x0 1 ((gI s x0 1 7).bind fun v1 => (some (v1, s)))

set_option maxRecDepth 100000 in
set_option maxHeartbeats 4000000 in
theorem dx_Lexer_number (O : am_ok K X) (T : am_T K) {d : Nat} {x0 : Nat} {s : HS} : xM cvI K X m_Lexer_number d [.ref x0] s (x_Lexer_number d x0 s) := by
  unfold x_Lexer_number
  refine xM_enter (by decide +kernel) (Nat.le_of_ble_eq_true rfl) ?_
  refine xW_gd (fun _ => ?_)
  refine xW_pure (fun _ _ _ _ _ => am_aload_n d_Lexer_number_0 rfl rfl) ?_
  refine xW_gI O f_Lexer_88 d_Lexer_number_1 (fun v1 _ => ?_)
  exact xW_ret (fun _ _ _ _ _ => am_iret rfl d_Lexer_number_4)

theorem ob_Lexer_number {d : Nat} {x0 : Nat} {s : HS} {y : Int32 × HS} (h : x_Lexer_number d x0 s = some y) : isO s x0 1 = true := (gd_spec h).1

set_option maxRecDepth 100000 in
def x_Lexer_tail (d : Nat) (x0 : Nat) (s : HS) : Option (Int64 × HS) := gd s x0 1 ((gL s x0 1 9).bind fun v1 => (some (v1, s)))

set_option maxRecDepth 100000 in
set_option maxHeartbeats 4000000 in
theorem dx_Lexer_tail (O : am_ok K X) (T : am_T K) {d : Nat} {x0 : Nat} {s : HS} : xM cvL K X m_Lexer_tail d [.ref x0] s (x_Lexer_tail d x0 s) := by
  unfold x_Lexer_tail
  refine xM_enter (by decide +kernel) (Nat.le_of_ble_eq_true rfl) ?_
  refine xW_gd (fun _ => ?_)
  refine xW_pure (fun _ _ _ _ _ => am_aload_n d_Lexer_tail_0 rfl rfl) ?_
  refine xW_gL O f_Lexer_95 d_Lexer_tail_1 (fun v1 _ => ?_)
  exact xW_ret (fun _ _ _ _ _ => am_lret rfl d_Lexer_tail_4)

theorem ob_Lexer_tail {d : Nat} {x0 : Nat} {s : HS} {y : Int64 × HS} (h : x_Lexer_tail d x0 s = some y) : isO s x0 1 = true := (gd_spec h).1

set_option maxRecDepth 100000 in
def x_Draft_keep_b32 (d : Nat) (l0 : Nat) (l1 : Int64) (l3 : Int64) (s : HS) : Option (Int32 × HS) := (gR s l0 2 2).bind fun v4 => ((gI s l0 2 3).bind fun v5 => ((sV s .long v4 v5 (.long l1)).bind fun s6 => ((gR s6 l0 2 2).bind fun v7 => ((gI s6 l0 2 3).bind fun v8 => ((sV s6 .long v7 (v8 + 1) (.long l3)).bind fun s9 => ((gI s9 l0 2 3).bind fun v10 => ((pV s9 l0 2 3 (.int (v10 + 2))).bind fun s11 => ((gI s11 l0 2 3).bind fun v12 => (some ((v12 - 2), s11))))))))))

set_option maxRecDepth 100000 in
set_option maxHeartbeats 4000000 in
theorem dx_Draft_keep_b32 (O : am_ok K X) (T : am_T K) {d : Nat} {l0 : Nat} {l1 : Int64} {l3 : Int64} {s : HS} : xW cvI K X m_Draft_keep (d + 1) 32 [(0, .ref l0), (1, .long l1), (3, .long l3)] [] s (x_Draft_keep_b32 d l0 l1 l3 s) := by
  unfold x_Draft_keep_b32
  refine xW_pure (fun _ _ _ _ _ => am_aload_n d_Draft_keep_32 rfl rfl) ?_
  refine xW_gR O f_Draft_13 d_Draft_keep_33 (fun v4 _ => ?_)
  refine xW_pure (fun _ _ _ _ _ => am_aload_n d_Draft_keep_36 rfl rfl) ?_
  refine xW_gI O f_Draft_24 d_Draft_keep_37 (fun v5 _ => ?_)
  refine xW_pure (fun _ _ _ _ _ => am_lload_n d_Draft_keep_40 rfl rfl) ?_
  refine xW_sL O d_Draft_keep_41 (fun s6 _ => ?_)
  refine xW_pure (fun _ _ _ _ _ => am_aload_n d_Draft_keep_42 rfl rfl) ?_
  refine xW_gR O f_Draft_13 d_Draft_keep_43 (fun v7 _ => ?_)
  refine xW_pure (fun _ _ _ _ _ => am_aload_n d_Draft_keep_46 rfl rfl) ?_
  refine xW_gI O f_Draft_24 d_Draft_keep_47 (fun v8 _ => ?_)
  refine xW_pure (fun _ _ _ _ _ => am_iconst (v := 1) d_Draft_keep_50 (by decide)) ?_
  refine xW_pure (fun _ _ _ _ _ => am_iadd d_Draft_keep_51) ?_
  refine xW_pure (fun _ _ _ _ _ => am_lload_n d_Draft_keep_52 rfl rfl) ?_
  refine xW_sL O d_Draft_keep_53 (fun s9 _ => ?_)
  refine xW_pure (fun _ _ _ _ _ => am_aload_n d_Draft_keep_54 rfl rfl) ?_
  refine xW_pure (fun _ _ _ _ _ => am_dup d_Draft_keep_55 rfl) ?_
  refine xW_gI O f_Draft_24 d_Draft_keep_56 (fun v10 _ => ?_)
  refine xW_pure (fun _ _ _ _ _ => am_iconst (v := 2) d_Draft_keep_59 (by decide)) ?_
  refine xW_pure (fun _ _ _ _ _ => am_iadd d_Draft_keep_60) ?_
  refine xW_put O f_Draft_24 d_Draft_keep_61 (fun q hq => by cases hq; exact ⟨rfl, rfl, rfl⟩) (fun s11 _ => ?_)
  refine xW_pure (fun _ _ _ _ _ => am_aload_n d_Draft_keep_64 rfl rfl) ?_
  refine xW_gI O f_Draft_24 d_Draft_keep_65 (fun v12 _ => ?_)
  refine xW_pure (fun _ _ _ _ _ => am_iconst (v := 2) d_Draft_keep_68 (by decide)) ?_
  refine xW_pure (fun _ _ _ _ _ => am_isub d_Draft_keep_69) ?_
  exact xW_ret (fun _ _ _ _ _ => am_iret rfl d_Draft_keep_70)

set_option maxRecDepth 100000 in
def x_Draft_keep (d : Nat) (x0 : Nat) (x1 : Int64) (x2 : Int64) (s : HS) : Option (Int32 × HS) := match d with
  | 0 => none
  | d + 1 => gd s x0 2 ((gI s x0 2 3).bind fun v1 => ((gR s x0 2 2).bind fun v2 => ((lenA s v2).bind fun v3 => (if (v1 + 2) ≤ v3 then (x_Draft_keep_b32 d x0 x1 x2 s) else ((gR s x0 2 2).bind fun v13 => ((gR s x0 2 2).bind fun v14 => ((lenA s v14).bind fun v15 => (bnd (x_Arr_copyOf_aJI d v13 (2 * v15) s) fun v17 s16 => ((pV s16 x0 2 2 (.ref v17)).bind fun s18 => (x_Draft_keep_b32 d x0 x1 x2 s18))))))))))

set_option maxRecDepth 100000 in
set_option maxHeartbeats 4000000 in
theorem dx_Draft_keep (O : am_ok K X) (T : am_T K) {d : Nat} {x0 : Nat} {x1 : Int64} {x2 : Int64} {s : HS} : xM cvI K X m_Draft_keep d [.ref x0, .long x1, .long x2] s (x_Draft_keep d x0 x1 x2 s) := by
  cases d with
  | zero => exact xM_none
  | succ d =>
    unfold x_Draft_keep
    refine xM_enter (by decide +kernel) (Nat.le_of_ble_eq_true rfl) ?_
    refine xW_gd (fun _ => ?_)
    refine xW_pure (fun _ _ _ _ _ => am_aload_n d_Draft_keep_0 rfl rfl) ?_
    refine xW_gI O f_Draft_24 d_Draft_keep_1 (fun v1 _ => ?_)
    refine xW_pure (fun _ _ _ _ _ => am_iconst (v := 2) d_Draft_keep_4 (by decide)) ?_
    refine xW_pure (fun _ _ _ _ _ => am_iadd d_Draft_keep_5) ?_
    refine xW_pure (fun _ _ _ _ _ => am_aload_n d_Draft_keep_6 rfl rfl) ?_
    refine xW_gR O f_Draft_13 d_Draft_keep_7 (fun v2 _ => ?_)
    refine xW_len O d_Draft_keep_10 (fun v3 _ => ?_)
    refine xW_ite (fun _ _ _ _ _ => am_icmp_le (tgt := 32) d_Draft_keep_11 (by decide)) (fun _ => ?_) (fun _ => ?_)
    · refine xW_locs (lv' := [(0, .ref x0), (1, .long x1), (3, .long x2)]) rfl ?_
      exact dx_Draft_keep_b32 O T
    · refine xW_pure (fun _ _ _ _ _ => am_aload_n d_Draft_keep_14 rfl rfl) ?_
      refine xW_pure (fun _ _ _ _ _ => am_aload_n d_Draft_keep_15 rfl rfl) ?_
      refine xW_gR O f_Draft_13 d_Draft_keep_16 (fun v13 _ => ?_)
      refine xW_pure (fun _ _ _ _ _ => am_iconst (v := 2) d_Draft_keep_19 (by decide)) ?_
      refine xW_pure (fun _ _ _ _ _ => am_aload_n d_Draft_keep_20 rfl rfl) ?_
      refine xW_gR O f_Draft_13 d_Draft_keep_21 (fun v14 _ => ?_)
      refine xW_len O d_Draft_keep_24 (fun v15 _ => ?_)
      refine xW_pure (fun _ _ _ _ _ => am_imul d_Draft_keep_25) ?_
      refine xW_callS O (dx_Arr_copyOf_aJI O T) rfl l_Draft_46 w_723 rfl (Nat.le_of_ble_eq_true rfl) d_Draft_keep_26 (fun v17 s16 _ => ?_)
      refine xW_put O f_Draft_13 d_Draft_keep_29 (fun q hq => by cases hq; exact ⟨rfl, rfl, rfl⟩) (fun s18 _ => ?_)
      refine xW_locs (lv' := [(0, .ref x0), (1, .long x1), (3, .long x2)]) rfl ?_
      exact dx_Draft_keep_b32 O T

theorem ob_Draft_keep {d : Nat} {x0 : Nat} {x1 : Int64} {x2 : Int64} {s : HS} {y : Int32 × HS} (h : x_Draft_keep d x0 x1 x2 s = some y) : isO s x0 2 = true := by
  cases d with
  | zero => cases h
  | succ d => exact (gd_spec h).1

set_option maxRecDepth 100000 in
def x_Pars_keepName (d : Nat) (x0 : Nat) (x1 : Int64) (s : HS) : Option (Int32 × HS) := match d with
  | 0 => none
  | d + 1 => gd s x0 5 ((gR s x0 5 3).bind fun v1 => (bnd (x_Cell_headOf d 2 s) fun v3 s2 => (bnd (x_Draft_keep d v1 (v3 ||| x1) 0 s2) fun v5 s4 => (some (v5, s4)))))

set_option maxRecDepth 100000 in
set_option maxHeartbeats 4000000 in
theorem dx_Pars_keepName (O : am_ok K X) (T : am_T K) {d : Nat} {x0 : Nat} {x1 : Int64} {s : HS} : xM cvI K X m_Pars_keepName d [.ref x0, .long x1] s (x_Pars_keepName d x0 x1 s) := by
  cases d with
  | zero => exact xM_none
  | succ d =>
    unfold x_Pars_keepName
    refine xM_enter (by decide +kernel) (Nat.le_of_ble_eq_true rfl) ?_
    refine xW_gd (fun _ => ?_)
    refine xW_pure (fun _ _ _ _ _ => am_aload_n d_Pars_keepName_0 rfl rfl) ?_
    refine xW_gR O f_Pars_28 d_Pars_keepName_1 (fun v1 _ => ?_)
    refine xW_pure (fun _ _ _ _ _ => am_iconst (v := 2) d_Pars_keepName_4 (by decide)) ?_
    refine xW_callS O (dx_Cell_headOf O T) rfl l_Pars_211 w_594 rfl (Nat.le_of_ble_eq_true rfl) d_Pars_keepName_5 (fun v3 s2 _ => ?_)
    refine xW_pure (fun _ _ _ _ _ => am_lload_n d_Pars_keepName_8 rfl rfl) ?_
    refine xW_pure (fun _ _ _ _ _ => am_lor d_Pars_keepName_9) ?_
    refine xW_pure (fun _ _ _ _ _ => am_lconst (v := 0) d_Pars_keepName_10 (by decide)) ?_
    refine xW_callV O (dx_Draft_keep O T) (fun _ e => ob_Draft_keep e) rfl rfl rfl l_Pars_215 ⟨w_797, w_798⟩ rfl (Nat.le_of_ble_eq_true rfl) d_Pars_keepName_11 (fun v5 s4 _ => ?_)
    exact xW_ret (fun _ _ _ _ _ => am_iret rfl d_Pars_keepName_14)

theorem ob_Pars_keepName {d : Nat} {x0 : Nat} {x1 : Int64} {s : HS} {y : Int32 × HS} (h : x_Pars_keepName d x0 x1 s = some y) : isO s x0 5 = true := by
  cases d with
  | zero => cases h
  | succ d => exact (gd_spec h).1

set_option maxRecDepth 100000 in
def x_Pars_levelOf (d : Nat) (x1 : Int32) (s : HS) : Option (Int32 × HS) := if x1 = 37 then (some (4, s)) else (if x1 = 42 then (some (4, s)) else (if x1 = 43 then (some (3, s)) else (if x1 = 45 then (some (3, s)) else (if x1 = 47 then (some (4, s)) else (if x1 = 60 then (some (2, s)) else (if x1 = 256 then (some (2, s)) else (if x1 = 257 then (some (2, s)) else (if x1 = 258 then (some (2, s)) else (if x1 = 259 then (some (1, s)) else (if x1 = 260 then (some (0, s)) else (some ((-1), s))))))))))))

set_option maxRecDepth 100000 in
set_option maxHeartbeats 4000000 in
theorem dx_Pars_levelOf (O : am_ok K X) (T : am_T K) {d : Nat} {x1 : Int32} {s : HS} : xM cvI K X m_Pars_levelOf d [.int x1] s (x_Pars_levelOf d x1 s) := by
  unfold x_Pars_levelOf
  refine xM_enter (by decide +kernel) (Nat.le_of_ble_eq_true rfl) ?_
  refine xW_pure (fun _ _ _ _ _ => am_iload_n d_Pars_levelOf_0 rfl rfl) ?_
  refine xW_by (fun c1_0 => ?_) (fun c1_0 => ?_)
  · refine xW_pure (fun _ _ _ _ _ => am_lookup (off := 107) (tgt := 108) d_Pars_levelOf_1 (by decide) (by rw [c1_0]; decide) (by decide)) ?_
    refine xW_pure (fun _ _ _ _ _ => am_iconst (v := 4) d_Pars_levelOf_108 (by decide)) ?_
    exact xW_ret (fun _ _ _ _ _ => am_iret rfl d_Pars_levelOf_109)
  · refine xW_by (fun c1_1 => ?_) (fun c1_1 => ?_)
    · refine xW_pure (fun _ _ _ _ _ => am_lookup (off := 107) (tgt := 108) d_Pars_levelOf_1 (by decide) (by rw [c1_1]; decide) (by decide)) ?_
      refine xW_pure (fun _ _ _ _ _ => am_iconst (v := 4) d_Pars_levelOf_108 (by decide)) ?_
      exact xW_ret (fun _ _ _ _ _ => am_iret rfl d_Pars_levelOf_109)
    · refine xW_by (fun c1_2 => ?_) (fun c1_2 => ?_)
      · refine xW_pure (fun _ _ _ _ _ => am_lookup (off := 105) (tgt := 106) d_Pars_levelOf_1 (by decide) (by rw [c1_2]; decide) (by decide)) ?_
        refine xW_pure (fun _ _ _ _ _ => am_iconst (v := 3) d_Pars_levelOf_106 (by decide)) ?_
        exact xW_ret (fun _ _ _ _ _ => am_iret rfl d_Pars_levelOf_107)
      · refine xW_by (fun c1_3 => ?_) (fun c1_3 => ?_)
        · refine xW_pure (fun _ _ _ _ _ => am_lookup (off := 105) (tgt := 106) d_Pars_levelOf_1 (by decide) (by rw [c1_3]; decide) (by decide)) ?_
          refine xW_pure (fun _ _ _ _ _ => am_iconst (v := 3) d_Pars_levelOf_106 (by decide)) ?_
          exact xW_ret (fun _ _ _ _ _ => am_iret rfl d_Pars_levelOf_107)
        · refine xW_by (fun c1_4 => ?_) (fun c1_4 => ?_)
          · refine xW_pure (fun _ _ _ _ _ => am_lookup (off := 107) (tgt := 108) d_Pars_levelOf_1 (by decide) (by rw [c1_4]; decide) (by decide)) ?_
            refine xW_pure (fun _ _ _ _ _ => am_iconst (v := 4) d_Pars_levelOf_108 (by decide)) ?_
            exact xW_ret (fun _ _ _ _ _ => am_iret rfl d_Pars_levelOf_109)
          · refine xW_by (fun c1_5 => ?_) (fun c1_5 => ?_)
            · refine xW_pure (fun _ _ _ _ _ => am_lookup (off := 103) (tgt := 104) d_Pars_levelOf_1 (by decide) (by rw [c1_5]; decide) (by decide)) ?_
              refine xW_pure (fun _ _ _ _ _ => am_iconst (v := 2) d_Pars_levelOf_104 (by decide)) ?_
              exact xW_ret (fun _ _ _ _ _ => am_iret rfl d_Pars_levelOf_105)
            · refine xW_by (fun c1_6 => ?_) (fun c1_6 => ?_)
              · refine xW_pure (fun _ _ _ _ _ => am_lookup (off := 103) (tgt := 104) d_Pars_levelOf_1 (by decide) (by rw [c1_6]; decide) (by decide)) ?_
                refine xW_pure (fun _ _ _ _ _ => am_iconst (v := 2) d_Pars_levelOf_104 (by decide)) ?_
                exact xW_ret (fun _ _ _ _ _ => am_iret rfl d_Pars_levelOf_105)
              · refine xW_by (fun c1_7 => ?_) (fun c1_7 => ?_)
                · refine xW_pure (fun _ _ _ _ _ => am_lookup (off := 103) (tgt := 104) d_Pars_levelOf_1 (by decide) (by rw [c1_7]; decide) (by decide)) ?_
                  refine xW_pure (fun _ _ _ _ _ => am_iconst (v := 2) d_Pars_levelOf_104 (by decide)) ?_
                  exact xW_ret (fun _ _ _ _ _ => am_iret rfl d_Pars_levelOf_105)
                · refine xW_by (fun c1_8 => ?_) (fun c1_8 => ?_)
                  · refine xW_pure (fun _ _ _ _ _ => am_lookup (off := 103) (tgt := 104) d_Pars_levelOf_1 (by decide) (by rw [c1_8]; decide) (by decide)) ?_
                    refine xW_pure (fun _ _ _ _ _ => am_iconst (v := 2) d_Pars_levelOf_104 (by decide)) ?_
                    exact xW_ret (fun _ _ _ _ _ => am_iret rfl d_Pars_levelOf_105)
                  · refine xW_by (fun c1_9 => ?_) (fun c1_9 => ?_)
                    · refine xW_pure (fun _ _ _ _ _ => am_lookup (off := 101) (tgt := 102) d_Pars_levelOf_1 (by decide) (by rw [c1_9]; decide) (by decide)) ?_
                      refine xW_pure (fun _ _ _ _ _ => am_iconst (v := 1) d_Pars_levelOf_102 (by decide)) ?_
                      exact xW_ret (fun _ _ _ _ _ => am_iret rfl d_Pars_levelOf_103)
                    · refine xW_by (fun c1_10 => ?_) (fun c1_10 => ?_)
                      · refine xW_pure (fun _ _ _ _ _ => am_lookup (off := 99) (tgt := 100) d_Pars_levelOf_1 (by decide) (by rw [c1_10]; decide) (by decide)) ?_
                        refine xW_pure (fun _ _ _ _ _ => am_iconst (v := 0) d_Pars_levelOf_100 (by decide)) ?_
                        exact xW_ret (fun _ _ _ _ _ => am_iret rfl d_Pars_levelOf_101)
                      · refine xW_pure (fun _ _ _ _ _ => am_lookup (off := 109) (tgt := 110) d_Pars_levelOf_1 (by decide) (show Op.lookupswitch.offset [(37, 107), (42, 107), (43, 105), (45, 105), (47, 107), (60, 103), (256, 103), (257, 103), (258, 103), (259, 101), (260, 99)] (109) (Int32.toInt x1) = 109 by rw [Op.lookupswitch.offset_cons, if_neg (lk_ne c1_0 (by decide)), Op.lookupswitch.offset_cons, if_neg (lk_ne c1_1 (by decide)), Op.lookupswitch.offset_cons, if_neg (lk_ne c1_2 (by decide)), Op.lookupswitch.offset_cons, if_neg (lk_ne c1_3 (by decide)), Op.lookupswitch.offset_cons, if_neg (lk_ne c1_4 (by decide)), Op.lookupswitch.offset_cons, if_neg (lk_ne c1_5 (by decide)), Op.lookupswitch.offset_cons, if_neg (lk_ne c1_6 (by decide)), Op.lookupswitch.offset_cons, if_neg (lk_ne c1_7 (by decide)), Op.lookupswitch.offset_cons, if_neg (lk_ne c1_8 (by decide)), Op.lookupswitch.offset_cons, if_neg (lk_ne c1_9 (by decide)), Op.lookupswitch.offset_cons, if_neg (lk_ne c1_10 (by decide)), Op.lookupswitch.offset_nil]) (by decide)) ?_
                        refine xW_pure (fun _ _ _ _ _ => am_iconst (v := (-1)) d_Pars_levelOf_110 (by decide)) ?_
                        exact xW_ret (fun _ _ _ _ _ => am_iret rfl d_Pars_levelOf_111)

set_option maxRecDepth 100000 in
def x_Draft_here (d : Nat) (x0 : Nat) (s : HS) : Option (Int32 × HS) := gd s x0 2 ((gI s x0 2 1).bind fun v1 => (some ((v1 / 2), s)))

set_option maxRecDepth 100000 in
set_option maxHeartbeats 4000000 in
theorem dx_Draft_here (O : am_ok K X) (T : am_T K) {d : Nat} {x0 : Nat} {s : HS} : xM cvI K X m_Draft_here d [.ref x0] s (x_Draft_here d x0 s) := by
  unfold x_Draft_here
  refine xM_enter (by decide +kernel) (Nat.le_of_ble_eq_true rfl) ?_
  refine xW_gd (fun _ => ?_)
  refine xW_pure (fun _ _ _ _ _ => am_aload_n d_Draft_here_0 rfl rfl) ?_
  refine xW_gI O f_Draft_20 d_Draft_here_1 (fun v1 _ => ?_)
  refine xW_pure (fun _ _ _ _ _ => am_iconst (v := 2) d_Draft_here_4 (by decide)) ?_
  refine xW_pure (fun _ _ _ _ _ => am_idiv d_Draft_here_5 (by decide)) ?_
  exact xW_ret (fun _ _ _ _ _ => am_iret rfl d_Draft_here_6)

theorem ob_Draft_here {d : Nat} {x0 : Nat} {s : HS} {y : Int32 × HS} (h : x_Draft_here d x0 s = some y) : isO s x0 2 = true := (gd_spec h).1

set_option maxRecDepth 100000 in
def x_Draft_aimHere (d : Nat) (x0 : Nat) (x1 : Int32) (s : HS) : Option (Unit × HS) := match d with
  | 0 => none
  | d + 1 => gd s x0 2 (if ((2 * x1) + 1) < 1 then (some ((), s)) else ((gI s x0 2 1).bind fun v1 => (if v1 ≤ ((2 * x1) + 1) then (some ((), s)) else ((gR s x0 2 0).bind fun v2 => (bnd (x_Draft_here d x0 s) fun v4 s3 => ((sV s3 .int v2 ((2 * x1) + 1) (.int v4)).bind fun s5 => (some ((), s5))))))))

set_option maxRecDepth 100000 in
set_option maxHeartbeats 4000000 in
theorem dx_Draft_aimHere (O : am_ok K X) (T : am_T K) {d : Nat} {x0 : Nat} {x1 : Int32} {s : HS} : xM cvU K X m_Draft_aimHere d [.ref x0, .int x1] s (x_Draft_aimHere d x0 x1 s) := by
  cases d with
  | zero => exact xM_none
  | succ d =>
    unfold x_Draft_aimHere
    refine xM_enter (by decide +kernel) (Nat.le_of_ble_eq_true rfl) ?_
    refine xW_gd (fun _ => ?_)
    refine xW_pure (fun _ _ _ _ _ => am_iconst (v := 2) d_Draft_aimHere_0 (by decide)) ?_
    refine xW_pure (fun _ _ _ _ _ => am_iload_n d_Draft_aimHere_1 rfl rfl) ?_
    refine xW_pure (fun _ _ _ _ _ => am_imul d_Draft_aimHere_2) ?_
    refine xW_pure (fun _ _ _ _ _ => am_iconst (v := 1) d_Draft_aimHere_3 (by decide)) ?_
    refine xW_pure (fun _ _ _ _ _ => am_iadd d_Draft_aimHere_4) ?_
    refine xW_pure (fun _ _ _ _ _ => am_istore_n d_Draft_aimHere_5 rfl (Nat.le_of_ble_eq_true rfl)) ?_
    refine xW_pure (fun _ _ _ _ _ => am_iload_n d_Draft_aimHere_6 rfl rfl) ?_
    refine xW_pure (fun _ _ _ _ _ => am_iconst (v := 1) d_Draft_aimHere_7 (by decide)) ?_
    refine xW_ite (fun _ _ _ _ _ => am_icmp_lt (tgt := 29) d_Draft_aimHere_8 (by decide)) (fun _ => ?_) (fun _ => ?_)
    · exact xW_ret (fun _ _ _ _ _ => am_vret rfl d_Draft_aimHere_29)
    · refine xW_pure (fun _ _ _ _ _ => am_iload_n d_Draft_aimHere_11 rfl rfl) ?_
      refine xW_pure (fun _ _ _ _ _ => am_aload_n d_Draft_aimHere_12 rfl rfl) ?_
      refine xW_gI O f_Draft_20 d_Draft_aimHere_13 (fun v1 _ => ?_)
      refine xW_ite (fun _ _ _ _ _ => am_icmp_ge (tgt := 29) d_Draft_aimHere_16 (by decide)) (fun _ => ?_) (fun _ => ?_)
      · exact xW_ret (fun _ _ _ _ _ => am_vret rfl d_Draft_aimHere_29)
      · refine xW_pure (fun _ _ _ _ _ => am_aload_n d_Draft_aimHere_19 rfl rfl) ?_
        refine xW_gR O f_Draft_7 d_Draft_aimHere_20 (fun v2 _ => ?_)
        refine xW_pure (fun _ _ _ _ _ => am_iload_n d_Draft_aimHere_23 rfl rfl) ?_
        refine xW_pure (fun _ _ _ _ _ => am_aload_n d_Draft_aimHere_24 rfl rfl) ?_
        refine xW_callV O (dx_Draft_here O T) (fun _ e => ob_Draft_here e) rfl rfl rfl l_Draft_36 ⟨w_837, w_838⟩ rfl (Nat.le_of_ble_eq_true rfl) d_Draft_aimHere_25 (fun v4 s3 _ => ?_)
        refine xW_sI O d_Draft_aimHere_28 (fun s5 _ => ?_)
        exact xW_ret (fun _ _ _ _ _ => am_vret rfl d_Draft_aimHere_29)

theorem ob_Draft_aimHere {d : Nat} {x0 : Nat} {x1 : Int32} {s : HS} {y : Unit × HS} (h : x_Draft_aimHere d x0 x1 s = some y) : isO s x0 2 = true := by
  cases d with
  | zero => cases h
  | succ d => exact (gd_spec h).1

set_option maxRecDepth 100000 in
def x_Pars_commandOf (d : Nat) (x1 : Int32) (s : HS) : Option (Int32 × HS) := if x1 = 42 then (some (34, s)) else (if x1 = 43 then (some (32, s)) else (if x1 = 45 then (some (33, s)) else (if x1 = 47 then (some (35, s)) else (if x1 = 60 then (some (30, s)) else (if x1 = 256 then (some (28, s)) else (if x1 = 257 then (some (29, s)) else (if x1 = 258 then (some (31, s)) else (some (36, s)))))))))

set_option maxRecDepth 100000 in
set_option maxHeartbeats 4000000 in
theorem dx_Pars_commandOf (O : am_ok K X) (T : am_T K) {d : Nat} {x1 : Int32} {s : HS} : xM cvI K X m_Pars_commandOf d [.int x1] s (x_Pars_commandOf d x1 s) := by
  unfold x_Pars_commandOf
  refine xM_enter (by decide +kernel) (Nat.le_of_ble_eq_true rfl) ?_
  refine xW_pure (fun _ _ _ _ _ => am_iload_n d_Pars_commandOf_0 rfl rfl) ?_
  refine xW_by (fun c1_0 => ?_) (fun c1_0 => ?_)
  · refine xW_pure (fun _ _ _ _ _ => am_lookup (off := 93) (tgt := 94) d_Pars_commandOf_1 (by decide) (by rw [c1_0]; decide) (by decide)) ?_
    refine xW_pure (fun _ _ _ _ _ => am_bipush (v := 34) d_Pars_commandOf_94 (by decide)) ?_
    exact xW_ret (fun _ _ _ _ _ => am_iret rfl d_Pars_commandOf_96)
  · refine xW_by (fun c1_1 => ?_) (fun c1_1 => ?_)
    · refine xW_pure (fun _ _ _ _ _ => am_lookup (off := 87) (tgt := 88) d_Pars_commandOf_1 (by decide) (by rw [c1_1]; decide) (by decide)) ?_
      refine xW_pure (fun _ _ _ _ _ => am_bipush (v := 32) d_Pars_commandOf_88 (by decide)) ?_
      exact xW_ret (fun _ _ _ _ _ => am_iret rfl d_Pars_commandOf_90)
    · refine xW_by (fun c1_2 => ?_) (fun c1_2 => ?_)
      · refine xW_pure (fun _ _ _ _ _ => am_lookup (off := 90) (tgt := 91) d_Pars_commandOf_1 (by decide) (by rw [c1_2]; decide) (by decide)) ?_
        refine xW_pure (fun _ _ _ _ _ => am_bipush (v := 33) d_Pars_commandOf_91 (by decide)) ?_
        exact xW_ret (fun _ _ _ _ _ => am_iret rfl d_Pars_commandOf_93)
      · refine xW_by (fun c1_3 => ?_) (fun c1_3 => ?_)
        · refine xW_pure (fun _ _ _ _ _ => am_lookup (off := 96) (tgt := 97) d_Pars_commandOf_1 (by decide) (by rw [c1_3]; decide) (by decide)) ?_
          refine xW_pure (fun _ _ _ _ _ => am_bipush (v := 35) d_Pars_commandOf_97 (by decide)) ?_
          exact xW_ret (fun _ _ _ _ _ => am_iret rfl d_Pars_commandOf_99)
        · refine xW_by (fun c1_4 => ?_) (fun c1_4 => ?_)
          · refine xW_pure (fun _ _ _ _ _ => am_lookup (off := 81) (tgt := 82) d_Pars_commandOf_1 (by decide) (by rw [c1_4]; decide) (by decide)) ?_
            refine xW_pure (fun _ _ _ _ _ => am_bipush (v := 30) d_Pars_commandOf_82 (by decide)) ?_
            exact xW_ret (fun _ _ _ _ _ => am_iret rfl d_Pars_commandOf_84)
          · refine xW_by (fun c1_5 => ?_) (fun c1_5 => ?_)
            · refine xW_pure (fun _ _ _ _ _ => am_lookup (off := 75) (tgt := 76) d_Pars_commandOf_1 (by decide) (by rw [c1_5]; decide) (by decide)) ?_
              refine xW_pure (fun _ _ _ _ _ => am_bipush (v := 28) d_Pars_commandOf_76 (by decide)) ?_
              exact xW_ret (fun _ _ _ _ _ => am_iret rfl d_Pars_commandOf_78)
            · refine xW_by (fun c1_6 => ?_) (fun c1_6 => ?_)
              · refine xW_pure (fun _ _ _ _ _ => am_lookup (off := 78) (tgt := 79) d_Pars_commandOf_1 (by decide) (by rw [c1_6]; decide) (by decide)) ?_
                refine xW_pure (fun _ _ _ _ _ => am_bipush (v := 29) d_Pars_commandOf_79 (by decide)) ?_
                exact xW_ret (fun _ _ _ _ _ => am_iret rfl d_Pars_commandOf_81)
              · refine xW_by (fun c1_7 => ?_) (fun c1_7 => ?_)
                · refine xW_pure (fun _ _ _ _ _ => am_lookup (off := 84) (tgt := 85) d_Pars_commandOf_1 (by decide) (by rw [c1_7]; decide) (by decide)) ?_
                  refine xW_pure (fun _ _ _ _ _ => am_bipush (v := 31) d_Pars_commandOf_85 (by decide)) ?_
                  exact xW_ret (fun _ _ _ _ _ => am_iret rfl d_Pars_commandOf_87)
                · refine xW_pure (fun _ _ _ _ _ => am_lookup (off := 99) (tgt := 100) d_Pars_commandOf_1 (by decide) (show Op.lookupswitch.offset [(42, 93), (43, 87), (45, 90), (47, 96), (60, 81), (256, 75), (257, 78), (258, 84)] (99) (Int32.toInt x1) = 99 by rw [Op.lookupswitch.offset_cons, if_neg (lk_ne c1_0 (by decide)), Op.lookupswitch.offset_cons, if_neg (lk_ne c1_1 (by decide)), Op.lookupswitch.offset_cons, if_neg (lk_ne c1_2 (by decide)), Op.lookupswitch.offset_cons, if_neg (lk_ne c1_3 (by decide)), Op.lookupswitch.offset_cons, if_neg (lk_ne c1_4 (by decide)), Op.lookupswitch.offset_cons, if_neg (lk_ne c1_5 (by decide)), Op.lookupswitch.offset_cons, if_neg (lk_ne c1_6 (by decide)), Op.lookupswitch.offset_cons, if_neg (lk_ne c1_7 (by decide)), Op.lookupswitch.offset_nil]) (by decide)) ?_
                  refine xW_pure (fun _ _ _ _ _ => am_bipush (v := 36) d_Pars_commandOf_100 (by decide)) ?_
                  exact xW_ret (fun _ _ _ _ _ => am_iret rfl d_Pars_commandOf_102)

set_option maxRecDepth 100000 in
def x_Draft_lastOp (d : Nat) (x0 : Nat) (s : HS) : Option (Int32 × HS) := gd s x0 2 ((gI s x0 2 1).bind fun v1 => (if v1 < 2 then (some (0, s)) else ((gR s x0 2 0).bind fun v2 => ((gI s x0 2 1).bind fun v3 => ((aI s v2 (v3 - 2)).bind fun v4 => (some (v4, s)))))))

set_option maxRecDepth 100000 in
set_option maxHeartbeats 4000000 in
theorem dx_Draft_lastOp (O : am_ok K X) (T : am_T K) {d : Nat} {x0 : Nat} {s : HS} : xM cvI K X m_Draft_lastOp d [.ref x0] s (x_Draft_lastOp d x0 s) := by
  unfold x_Draft_lastOp
  refine xM_enter (by decide +kernel) (Nat.le_of_ble_eq_true rfl) ?_
  refine xW_gd (fun _ => ?_)
  refine xW_pure (fun _ _ _ _ _ => am_aload_n d_Draft_lastOp_0 rfl rfl) ?_
  refine xW_gI O f_Draft_20 d_Draft_lastOp_1 (fun v1 _ => ?_)
  refine xW_pure (fun _ _ _ _ _ => am_iconst (v := 2) d_Draft_lastOp_4 (by decide)) ?_
  refine xW_ite (fun _ _ _ _ _ => am_icmp_lt (tgt := 22) d_Draft_lastOp_5 (by decide)) (fun _ => ?_) (fun _ => ?_)
  · refine xW_pure (fun _ _ _ _ _ => am_iconst (v := 0) d_Draft_lastOp_22 (by decide)) ?_
    exact xW_ret (fun _ _ _ _ _ => am_iret rfl d_Draft_lastOp_23)
  · refine xW_pure (fun _ _ _ _ _ => am_aload_n d_Draft_lastOp_8 rfl rfl) ?_
    refine xW_gR O f_Draft_7 d_Draft_lastOp_9 (fun v2 _ => ?_)
    refine xW_pure (fun _ _ _ _ _ => am_aload_n d_Draft_lastOp_12 rfl rfl) ?_
    refine xW_gI O f_Draft_20 d_Draft_lastOp_13 (fun v3 _ => ?_)
    refine xW_pure (fun _ _ _ _ _ => am_iconst (v := 2) d_Draft_lastOp_16 (by decide)) ?_
    refine xW_pure (fun _ _ _ _ _ => am_isub d_Draft_lastOp_17) ?_
    refine xW_aI O d_Draft_lastOp_18 (fun v4 _ => ?_)
    refine xW_pure (fun _ _ _ _ _ => am_goto (tgt := 23) d_Draft_lastOp_19 (by decide)) ?_
    exact xW_ret (fun _ _ _ _ _ => am_iret rfl d_Draft_lastOp_23)

theorem ob_Draft_lastOp {d : Nat} {x0 : Nat} {s : HS} {y : Int32 × HS} (h : x_Draft_lastOp d x0 s = some y) : isO s x0 2 = true := (gd_spec h).1

set_option maxRecDepth 100000 in
def x_Draft_lastArgument (d : Nat) (x0 : Nat) (s : HS) : Option (Int32 × HS) := gd s x0 2 ((gI s x0 2 1).bind fun v1 => (if v1 < 2 then (some (0, s)) else ((gR s x0 2 0).bind fun v2 => ((gI s x0 2 1).bind fun v3 => ((aI s v2 (v3 - 1)).bind fun v4 => (some (v4, s)))))))

set_option maxRecDepth 100000 in
set_option maxHeartbeats 4000000 in
theorem dx_Draft_lastArgument (O : am_ok K X) (T : am_T K) {d : Nat} {x0 : Nat} {s : HS} : xM cvI K X m_Draft_lastArgument d [.ref x0] s (x_Draft_lastArgument d x0 s) := by
  unfold x_Draft_lastArgument
  refine xM_enter (by decide +kernel) (Nat.le_of_ble_eq_true rfl) ?_
  refine xW_gd (fun _ => ?_)
  refine xW_pure (fun _ _ _ _ _ => am_aload_n d_Draft_lastArgument_0 rfl rfl) ?_
  refine xW_gI O f_Draft_20 d_Draft_lastArgument_1 (fun v1 _ => ?_)
  refine xW_pure (fun _ _ _ _ _ => am_iconst (v := 2) d_Draft_lastArgument_4 (by decide)) ?_
  refine xW_ite (fun _ _ _ _ _ => am_icmp_lt (tgt := 22) d_Draft_lastArgument_5 (by decide)) (fun _ => ?_) (fun _ => ?_)
  · refine xW_pure (fun _ _ _ _ _ => am_iconst (v := 0) d_Draft_lastArgument_22 (by decide)) ?_
    exact xW_ret (fun _ _ _ _ _ => am_iret rfl d_Draft_lastArgument_23)
  · refine xW_pure (fun _ _ _ _ _ => am_aload_n d_Draft_lastArgument_8 rfl rfl) ?_
    refine xW_gR O f_Draft_7 d_Draft_lastArgument_9 (fun v2 _ => ?_)
    refine xW_pure (fun _ _ _ _ _ => am_aload_n d_Draft_lastArgument_12 rfl rfl) ?_
    refine xW_gI O f_Draft_20 d_Draft_lastArgument_13 (fun v3 _ => ?_)
    refine xW_pure (fun _ _ _ _ _ => am_iconst (v := 1) d_Draft_lastArgument_16 (by decide)) ?_
    refine xW_pure (fun _ _ _ _ _ => am_isub d_Draft_lastArgument_17) ?_
    refine xW_aI O d_Draft_lastArgument_18 (fun v4 _ => ?_)
    refine xW_pure (fun _ _ _ _ _ => am_goto (tgt := 23) d_Draft_lastArgument_19 (by decide)) ?_
    exact xW_ret (fun _ _ _ _ _ => am_iret rfl d_Draft_lastArgument_23)

theorem ob_Draft_lastArgument {d : Nat} {x0 : Nat} {s : HS} {y : Int32 × HS} (h : x_Draft_lastArgument d x0 s = some y) : isO s x0 2 = true := (gd_spec h).1

set_option maxRecDepth 100000 in
def x_Draft_dropLast (d : Nat) (x0 : Nat) (s : HS) : Option (Unit × HS) := match d with
  | 0 => none
  | d + 1 => gd s x0 2 ((gI s x0 2 1).bind fun v1 => ((pV s x0 2 1 (.int (if 0 < (v1 - 2) then (v1 - 2) else 0))).bind fun s2 => (some ((), s2))))

set_option maxRecDepth 100000 in
set_option maxHeartbeats 4000000 in
theorem dx_Draft_dropLast (O : am_ok K X) (T : am_T K) {d : Nat} {x0 : Nat} {s : HS} : xM cvU K X m_Draft_dropLast d [.ref x0] s (x_Draft_dropLast d x0 s) := by
  cases d with
  | zero => exact xM_none
  | succ d =>
    unfold x_Draft_dropLast
    refine xM_enter (by decide +kernel) (Nat.le_of_ble_eq_true rfl) ?_
    refine xW_gd (fun _ => ?_)
    refine xW_pure (fun _ _ _ _ _ => am_aload_n d_Draft_dropLast_0 rfl rfl) ?_
    refine xW_pure (fun _ _ _ _ _ => am_iconst (v := 0) d_Draft_dropLast_1 (by decide)) ?_
    refine xW_pure (fun _ _ _ _ _ => am_aload_n d_Draft_dropLast_2 rfl rfl) ?_
    refine xW_gI O f_Draft_20 d_Draft_dropLast_3 (fun v1 _ => ?_)
    refine xW_pure (fun _ _ _ _ _ => am_iconst (v := 2) d_Draft_dropLast_6 (by decide)) ?_
    refine xW_pure (fun _ _ _ _ _ => am_isub d_Draft_dropLast_7) ?_
    refine xW_pure (fun _ _ _ _ _ => am_mmax w_880 w_623 w_164 w_624 d_Draft_dropLast_8 (Nat.le_of_ble_eq_true rfl) (by omega)) ?_
    refine xW_put O f_Draft_20 d_Draft_dropLast_11 (fun q hq => by cases hq; exact ⟨rfl, rfl, rfl⟩) (fun s2 _ => ?_)
    exact xW_ret (fun _ _ _ _ _ => am_vret rfl d_Draft_dropLast_14)

theorem ob_Draft_dropLast {d : Nat} {x0 : Nat} {s : HS} {y : Unit × HS} (h : x_Draft_dropLast d x0 s = some y) : isO s x0 2 = true := by
  cases d with
  | zero => cases h
  | succ d => exact (gd_spec h).1

set_option maxRecDepth 100000 in
def x_Mach_storeFor (d : Nat) (x1 : Int32) (s : HS) : Option (Int32 × HS) := some ((x1 + 1), s)

set_option maxRecDepth 100000 in
set_option maxHeartbeats 4000000 in
theorem dx_Mach_storeFor (O : am_ok K X) (T : am_T K) {d : Nat} {x1 : Int32} {s : HS} : xM cvI K X m_Mach_storeFor d [.int x1] s (x_Mach_storeFor d x1 s) := by
  unfold x_Mach_storeFor
  refine xM_enter (by decide +kernel) (Nat.le_of_ble_eq_true rfl) ?_
  refine xW_pure (fun _ _ _ _ _ => am_iload_n d_Mach_storeFor_0 rfl rfl) ?_
  refine xW_pure (fun _ _ _ _ _ => am_iconst (v := 1) d_Mach_storeFor_1 (by decide)) ?_
  refine xW_pure (fun _ _ _ _ _ => am_iadd d_Mach_storeFor_2) ?_
  exact xW_ret (fun _ _ _ _ _ => am_iret rfl d_Mach_storeFor_3)

set_option maxRecDepth 100000 in
def x_Draft_finish (d : Nat) (x0 : Nat) (x1 : Int64) (x2 : Int32) (x3 : Int32) (s : HS) : Option (Nat × HS) := match d with
  | 0 => none
  | d + 1 => gd s x0 2 (bnd (x_Draft_add d x0 10 0 s) fun v2 s1 => (bnd (x_Draft_add d x0 6 0 s1) fun v4 s3 => ((gI (newO s3 4 [.long 0, .int 0, .int 0, .int 0, .null, .null]) x0 2 5).bind fun v5 => ((gR (newO s3 4 [.long 0, .int 0, .int 0, .int 0, .null, .null]) x0 2 0).bind fun v6 => ((gI (newO s3 4 [.long 0, .int 0, .int 0, .int 0, .null, .null]) x0 2 1).bind fun v7 => (bnd (x_Arr_copyOf_aII d v6 v7 (newO s3 4 [.long 0, .int 0, .int 0, .int 0, .null, .null])) fun v9 s8 => ((gR s8 x0 2 2).bind fun v10 => ((gI s8 x0 2 3).bind fun v11 => (bnd (x_Arr_copyOf_aJI d v10 v11 s8) fun v13 s12 => (bnd (x_Unit_init d s3.1 x1 x2 v5 x3 v9 v13 s12) fun v15 s14 => (some (s3.1, s14))))))))))))

set_option maxRecDepth 100000 in
set_option maxHeartbeats 4000000 in
theorem dx_Draft_finish (O : am_ok K X) (T : am_T K) {d : Nat} {x0 : Nat} {x1 : Int64} {x2 : Int32} {x3 : Int32} {s : HS} : xM cvR K X m_Draft_finish d [.ref x0, .long x1, .int x2, .int x3] s (x_Draft_finish d x0 x1 x2 x3 s) := by
  cases d with
  | zero => exact xM_none
  | succ d =>
    unfold x_Draft_finish
    refine xM_enter (by decide +kernel) (Nat.le_of_ble_eq_true rfl) ?_
    refine xW_gd (fun _ => ?_)
    refine xW_pure (fun _ _ _ _ _ => am_aload_n d_Draft_finish_0 rfl rfl) ?_
    refine xW_pure (fun _ _ _ _ _ => am_bipush (v := 10) d_Draft_finish_1 (by decide)) ?_
    refine xW_pure (fun _ _ _ _ _ => am_iconst (v := 0) d_Draft_finish_3 (by decide)) ?_
    refine xW_callV O (dx_Draft_add O T) (fun _ e => ob_Draft_add e) rfl rfl rfl l_Draft_55 ⟨w_753, w_754⟩ rfl (Nat.le_of_ble_eq_true rfl) d_Draft_finish_4 (fun v2 s1 _ => ?_)
    refine xW_pure (fun _ _ _ _ _ => am_aload_n d_Draft_finish_7 rfl rfl) ?_
    refine xW_pure (fun _ _ _ _ _ => am_bipush (v := 6) d_Draft_finish_8 (by decide)) ?_
    refine xW_pure (fun _ _ _ _ _ => am_iconst (v := 0) d_Draft_finish_10 (by decide)) ?_
    refine xW_callV O (dx_Draft_add O T) (fun _ e => ob_Draft_add e) rfl rfl rfl l_Draft_55 ⟨w_753, w_754⟩ rfl (Nat.le_of_ble_eq_true rfl) d_Draft_finish_11 (fun v4 s3 _ => ?_)
    refine xW_newO (ci := 4) (fs := [.long 0, .int 0, .int 0, .int 0, .null, .null]) O n_Draft_59 d_Draft_finish_14 ?_
    refine xW_pure (fun _ _ _ _ _ => am_dup d_Draft_finish_17 rfl) ?_
    refine xW_pure (fun _ _ _ _ _ => am_lload_n d_Draft_finish_18 rfl rfl) ?_
    refine xW_pure (fun _ _ _ _ _ => am_iload_n d_Draft_finish_19 rfl rfl) ?_
    refine xW_pure (fun _ _ _ _ _ => am_aload_n d_Draft_finish_20 rfl rfl) ?_
    refine xW_gI O f_Draft_27 d_Draft_finish_21 (fun v5 _ => ?_)
    refine xW_pure (fun _ _ _ _ _ => am_iload d_Draft_finish_24 rfl) ?_
    refine xW_pure (fun _ _ _ _ _ => am_aload_n d_Draft_finish_26 rfl rfl) ?_
    refine xW_gR O f_Draft_7 d_Draft_finish_27 (fun v6 _ => ?_)
    refine xW_pure (fun _ _ _ _ _ => am_aload_n d_Draft_finish_30 rfl rfl) ?_
    refine xW_gI O f_Draft_20 d_Draft_finish_31 (fun v7 _ => ?_)
    refine xW_callS O (dx_Arr_copyOf_aII O T) rfl l_Draft_30 w_757 rfl (Nat.le_of_ble_eq_true rfl) d_Draft_finish_34 (fun v9 s8 _ => ?_)
    refine xW_pure (fun _ _ _ _ _ => am_aload_n d_Draft_finish_37 rfl rfl) ?_
    refine xW_gR O f_Draft_13 d_Draft_finish_38 (fun v10 _ => ?_)
    refine xW_pure (fun _ _ _ _ _ => am_aload_n d_Draft_finish_41 rfl rfl) ?_
    refine xW_gI O f_Draft_24 d_Draft_finish_42 (fun v11 _ => ?_)
    refine xW_callS O (dx_Arr_copyOf_aJI O T) rfl l_Draft_46 w_723 rfl (Nat.le_of_ble_eq_true rfl) d_Draft_finish_45 (fun v13 s12 _ => ?_)
    refine xW_callI O (dx_Unit_init O T) rfl l_Draft_61 w_347 rfl rfl rfl (Nat.le_of_ble_eq_true rfl) d_Draft_finish_48 (fun v15 s14 _ => ?_)
    exact xW_ret (fun _ _ _ _ _ => am_aret rfl (Or.inl ⟨_, rfl⟩) d_Draft_finish_51)

theorem ob_Draft_finish {d : Nat} {x0 : Nat} {x1 : Int64} {x2 : Int32} {x3 : Int32} {s : HS} {y : Nat × HS} (h : x_Draft_finish d x0 x1 x2 x3 s = some y) : isO s x0 2 = true := by
  cases d with
  | zero => cases h
  | succ d => exact (gd_spec h).1

set_option maxRecDepth 100000 in
def x_Out_clear (d : Nat) (x0 : Nat) (s : HS) : Option (Unit × HS) := gd s x0 0 ((pV s x0 0 1 (.int 0)).bind fun s1 => ((pV s1 x0 0 2 (.int 0)).bind fun s2 => (some ((), s2))))

set_option maxRecDepth 100000 in
set_option maxHeartbeats 4000000 in
theorem dx_Out_clear (O : am_ok K X) (T : am_T K) {d : Nat} {x0 : Nat} {s : HS} : xM cvU K X m_Out_clear d [.ref x0] s (x_Out_clear d x0 s) := by
  unfold x_Out_clear
  refine xM_enter (by decide +kernel) (Nat.le_of_ble_eq_true rfl) ?_
  refine xW_gd (fun _ => ?_)
  refine xW_pure (fun _ _ _ _ _ => am_aload_n d_Out_clear_0 rfl rfl) ?_
  refine xW_pure (fun _ _ _ _ _ => am_iconst (v := 0) d_Out_clear_1 (by decide)) ?_
  refine xW_put O f_Out_15 d_Out_clear_2 (fun q hq => by cases hq; exact ⟨rfl, rfl, rfl⟩) (fun s1 _ => ?_)
  refine xW_pure (fun _ _ _ _ _ => am_aload_n d_Out_clear_5 rfl rfl) ?_
  refine xW_pure (fun _ _ _ _ _ => am_iconst (v := 0) d_Out_clear_6 (by decide)) ?_
  refine xW_put O f_Out_19 d_Out_clear_7 (fun q hq => by cases hq; exact ⟨rfl, rfl, rfl⟩) (fun s2 _ => ?_)
  exact xW_ret (fun _ _ _ _ _ => am_vret rfl d_Out_clear_10)

theorem ob_Out_clear {d : Nat} {x0 : Nat} {s : HS} {y : Unit × HS} (h : x_Out_clear d x0 s = some y) : isO s x0 0 = true := (gd_spec h).1

set_option maxRecDepth 100000 in
def x_Stow_forgetLatestRun (d : Nat) (x0 : Nat) (s : HS) : Option (Unit × HS) := gd s x0 9 ((pV s x0 9 9 (.int 0)).bind fun s1 => ((pV s1 x0 9 7 (.long 0)).bind fun s2 => ((pV s2 x0 9 8 (.long 0)).bind fun s3 => (some ((), s3)))))

set_option maxRecDepth 100000 in
set_option maxHeartbeats 4000000 in
theorem dx_Stow_forgetLatestRun (O : am_ok K X) (T : am_T K) {d : Nat} {x0 : Nat} {s : HS} : xM cvU K X m_Stow_forgetLatestRun d [.ref x0] s (x_Stow_forgetLatestRun d x0 s) := by
  unfold x_Stow_forgetLatestRun
  refine xM_enter (by decide +kernel) (Nat.le_of_ble_eq_true rfl) ?_
  refine xW_gd (fun _ => ?_)
  refine xW_pure (fun _ _ _ _ _ => am_aload_n d_Stow_forgetLatestRun_0 rfl rfl) ?_
  refine xW_pure (fun _ _ _ _ _ => am_iconst (v := 0) d_Stow_forgetLatestRun_1 (by decide)) ?_
  refine xW_put O f_Stow_86 d_Stow_forgetLatestRun_2 (fun q hq => by cases hq; exact ⟨rfl, rfl, rfl⟩) (fun s1 _ => ?_)
  refine xW_pure (fun _ _ _ _ _ => am_aload_n d_Stow_forgetLatestRun_5 rfl rfl) ?_
  refine xW_pure (fun _ _ _ _ _ => am_lconst (v := 0) d_Stow_forgetLatestRun_6 (by decide)) ?_
  refine xW_put O f_Stow_93 d_Stow_forgetLatestRun_7 (fun q hq => by cases hq; exact ⟨rfl, rfl, rfl⟩) (fun s2 _ => ?_)
  refine xW_pure (fun _ _ _ _ _ => am_aload_n d_Stow_forgetLatestRun_10 rfl rfl) ?_
  refine xW_pure (fun _ _ _ _ _ => am_lconst (v := 0) d_Stow_forgetLatestRun_11 (by decide)) ?_
  refine xW_put O f_Stow_100 d_Stow_forgetLatestRun_12 (fun q hq => by cases hq; exact ⟨rfl, rfl, rfl⟩) (fun s3 _ => ?_)
  exact xW_ret (fun _ _ _ _ _ => am_vret rfl d_Stow_forgetLatestRun_15)

theorem ob_Stow_forgetLatestRun {d : Nat} {x0 : Nat} {s : HS} {y : Unit × HS} (h : x_Stow_forgetLatestRun d x0 s = some y) : isO s x0 9 = true := (gd_spec h).1

set_option maxRecDepth 100000 in
def x_Store_init (d : Nat) (x0 : Nat) (s : HS) : Option (Unit × HS) := match d with
  | 0 => none
  | d + 1 => (newA s .long 2000).bind fun s1 => ((pV s1 x0 10 0 (.ref s.1)).bind fun s2 => ((newA s2 .long 2000).bind fun s3 => ((pV s3 x0 10 1 (.ref s2.1)).bind fun s4 => ((newA s4 .int 100).bind fun s5 => ((pV s5 x0 10 2 (.ref s4.1)).bind fun s6 => ((newA s6 .long 12).bind fun s7 => ((pV s7 x0 10 3 (.ref s6.1)).bind fun s8 => ((newA s8 .long 12).bind fun s9 => ((pV s9 x0 10 4 (.ref s8.1)).bind fun s10 => ((newA s10 .long 12).bind fun s11 => ((pV s11 x0 10 5 (.ref s10.1)).bind fun s12 => ((newR "StowTongue$Unit" s12 10).bind fun s13 => ((pV s13 x0 10 7 (.ref s12.1)).bind fun s14 => ((gR s14 x0 10 2).bind fun v15 => (bnd (x_Arr_fill_aII d v15 (-1) s14) fun v17 s16 => (some ((), s16)))))))))))))))))

set_option maxRecDepth 100000 in
set_option maxHeartbeats 4000000 in
theorem dx_Store_init (O : am_ok K X) (T : am_T K) {d : Nat} {x0 : Nat} {s : HS} : xM cvU K X m_Store_init d [.ref x0] s (x_Store_init d x0 s) := by
  cases d with
  | zero => exact xM_none
  | succ d =>
    unfold x_Store_init
    refine xM_enter (by decide +kernel) (Nat.le_of_ble_eq_true rfl) ?_
    refine xW_pure (fun _ _ _ _ _ => am_aload_n d_Store_init_0 rfl rfl) ?_
    refine xW_pure (fun _ _ _ _ _ => am_obj w_965 w_177 w_178 d_Store_init_1 (by omega) (Nat.le_of_ble_eq_true rfl)) ?_
    refine xW_pure (fun _ _ _ _ _ => am_aload_n d_Store_init_4 rfl rfl) ?_
    refine xW_pure (fun _ _ _ _ _ => am_sipush (v := 2000) d_Store_init_5 (by decide)) ?_
    refine xW_newA (at_ := .long) (ty := .long) O rfl (by decide) w_291 d_Store_init_8 (fun s1 _ => ?_)
    refine xW_putF O f_Store_9 (fun q hq => by cases hq; exact ⟨w_970, rfl⟩) rfl d_Store_init_10 (fun q hq => by cases hq; exact ⟨rfl, rfl, rfl⟩) (fun s2 _ => ?_)
    refine xW_pure (fun _ _ _ _ _ => am_aload_n d_Store_init_13 rfl rfl) ?_
    refine xW_pure (fun _ _ _ _ _ => am_sipush (v := 2000) d_Store_init_14 (by decide)) ?_
    refine xW_newA (at_ := .long) (ty := .long) O rfl (by decide) w_291 d_Store_init_17 (fun s3 _ => ?_)
    refine xW_putF O f_Store_13 (fun q hq => by cases hq; exact ⟨w_973, rfl⟩) rfl d_Store_init_19 (fun q hq => by cases hq; exact ⟨rfl, rfl, rfl⟩) (fun s4 _ => ?_)
    refine xW_pure (fun _ _ _ _ _ => am_aload_n d_Store_init_22 rfl rfl) ?_
    refine xW_pure (fun _ _ _ _ _ => am_bipush (v := 100) d_Store_init_23 (by decide)) ?_
    refine xW_newA (at_ := .int) (ty := .int) O rfl (by decide) w_317 d_Store_init_25 (fun s5 _ => ?_)
    refine xW_putF O f_Store_16 (fun q hq => by cases hq; exact ⟨w_976, rfl⟩) rfl d_Store_init_27 (fun q hq => by cases hq; exact ⟨rfl, rfl, rfl⟩) (fun s6 _ => ?_)
    refine xW_pure (fun _ _ _ _ _ => am_aload_n d_Store_init_30 rfl rfl) ?_
    refine xW_pure (fun _ _ _ _ _ => am_bipush (v := 12) d_Store_init_31 (by decide)) ?_
    refine xW_newA (at_ := .long) (ty := .long) O rfl (by decide) w_291 d_Store_init_33 (fun s7 _ => ?_)
    refine xW_putF O f_Store_20 (fun q hq => by cases hq; exact ⟨w_977, rfl⟩) rfl d_Store_init_35 (fun q hq => by cases hq; exact ⟨rfl, rfl, rfl⟩) (fun s8 _ => ?_)
    refine xW_pure (fun _ _ _ _ _ => am_aload_n d_Store_init_38 rfl rfl) ?_
    refine xW_pure (fun _ _ _ _ _ => am_bipush (v := 12) d_Store_init_39 (by decide)) ?_
    refine xW_newA (at_ := .long) (ty := .long) O rfl (by decide) w_291 d_Store_init_41 (fun s9 _ => ?_)
    refine xW_putF O f_Store_23 (fun q hq => by cases hq; exact ⟨w_978, rfl⟩) rfl d_Store_init_43 (fun q hq => by cases hq; exact ⟨rfl, rfl, rfl⟩) (fun s10 _ => ?_)
    refine xW_pure (fun _ _ _ _ _ => am_aload_n d_Store_init_46 rfl rfl) ?_
    refine xW_pure (fun _ _ _ _ _ => am_bipush (v := 12) d_Store_init_47 (by decide)) ?_
    refine xW_newA (at_ := .long) (ty := .long) O rfl (by decide) w_291 d_Store_init_49 (fun s11 _ => ?_)
    refine xW_putF O f_Store_26 (fun q hq => by cases hq; exact ⟨w_982, rfl⟩) rfl d_Store_init_51 (fun q hq => by cases hq; exact ⟨rfl, rfl, rfl⟩) (fun s12 _ => ?_)
    refine xW_pure (fun _ _ _ _ _ => am_aload_n d_Store_init_54 rfl rfl) ?_
    refine xW_pure (fun _ _ _ _ _ => am_bipush (v := 10) d_Store_init_55 (by decide)) ?_
    refine xW_newR O (by decide) w_966 x_401 d_Store_init_57 (fun s13 _ => ?_)
    refine xW_putF O f_Store_31 (fun q hq => by cases hq; exact ⟨w_987, rfl⟩) rfl d_Store_init_60 (fun q hq => by cases hq; exact ⟨rfl, rfl, rfl⟩) (fun s14 _ => ?_)
    refine xW_pure (fun _ _ _ _ _ => am_aload_n d_Store_init_63 rfl rfl) ?_
    refine xW_gR O f_Store_16 d_Store_init_64 (fun v15 _ => ?_)
    refine xW_pure (fun _ _ _ _ _ => am_iconst (v := (-1)) d_Store_init_67 (by decide)) ?_
    refine xW_callS O (dx_Arr_fill_aII O T) rfl l_Store_35 w_968 rfl (Nat.le_of_ble_eq_true rfl) d_Store_init_68 (fun v17 s16 _ => ?_)
    exact xW_ret (fun _ _ _ _ _ => am_vret rfl d_Store_init_71)
end
