section
variable {K : am_K} {X : Nat → am_C}
set_option maxRecDepth 100000 in
def x_Cell_headOf (d : Nat) (x1 : Int32) (s : HS) : Option (Int64 × HS) := some ((((x1 : Int32).toInt64 : Int64) <<< ((56 : Int32).toInt64 &&& 63)), s)

set_option maxRecDepth 100000 in
set_option maxHeartbeats 4000000 in
theorem dx_Cell_headOf (O : am_ok K X) (T : am_T K) {d : Nat} {x1 : Int32} {s : HS} : xM cvL K X m_Cell_headOf d [.int x1] s (x_Cell_headOf d x1 s) := by
  unfold x_Cell_headOf
  refine xM_enter (by decide +kernel) (Nat.le_of_ble_eq_true rfl) ?_
  refine xW_pure (fun _ _ _ _ _ => am_iload_n d_Cell_headOf_0 rfl rfl) ?_
  refine xW_pure (fun _ _ _ _ _ => am_i2l d_Cell_headOf_1 rfl) ?_
  refine xW_pure (fun _ _ _ _ _ => am_bipush (v := 56) d_Cell_headOf_2 (by decide)) ?_
  refine xW_pure (fun _ _ _ _ _ => am_lshl d_Cell_headOf_4 rfl) ?_
  exact xW_ret (fun _ _ _ _ _ => am_lret rfl d_Cell_headOf_5)

set_option maxRecDepth 100000 in
def x_Cell_sortOf (d : Nat) (x1 : Int64) (s : HS) : Option (Int32 × HS) := some ((((x1 : Int64).toUInt64 >>> ((56 : Int32).toInt64.toUInt64 &&& Int64.toUInt64 63)).toInt64 : Int64).toInt32, s)

set_option maxRecDepth 100000 in
set_option maxHeartbeats 4000000 in
theorem dx_Cell_sortOf (O : am_ok K X) (T : am_T K) {d : Nat} {x1 : Int64} {s : HS} : xM cvI K X m_Cell_sortOf d [.long x1] s (x_Cell_sortOf d x1 s) := by
  unfold x_Cell_sortOf
  refine xM_enter (by decide +kernel) (Nat.le_of_ble_eq_true rfl) ?_
  refine xW_pure (fun _ _ _ _ _ => am_lload_n d_Cell_sortOf_0 rfl rfl) ?_
  refine xW_pure (fun _ _ _ _ _ => am_bipush (v := 56) d_Cell_sortOf_1 (by decide)) ?_
  refine xW_pure (fun _ _ _ _ _ => am_lushr d_Cell_sortOf_3 rfl) ?_
  refine xW_pure (fun _ _ _ _ _ => am_l2i d_Cell_sortOf_4 rfl) ?_
  exact xW_ret (fun _ _ _ _ _ => am_iret rfl d_Cell_sortOf_5)

set_option maxRecDepth 100000 in
def x_Cell_isObject (d : Nat) (x1 : Int64) (s : HS) : Option (Int32 × HS) := match d with
  | 0 => none
  | d + 1 => bnd (x_Cell_sortOf d x1 s) fun v2 s1 => (if v2 = 3 then (some (1, s1)) else (if v2 = 4 then (some (1, s1)) else (some (0, s1))))

set_option maxRecDepth 100000 in
set_option maxHeartbeats 4000000 in
theorem dx_Cell_isObject (O : am_ok K X) (T : am_T K) {d : Nat} {x1 : Int64} {s : HS} : xM cvI K X m_Cell_isObject d [.long x1] s (x_Cell_isObject d x1 s) := by
  cases d with
  | zero => exact xM_none
  | succ d =>
    unfold x_Cell_isObject
    refine xM_enter (by decide +kernel) (Nat.le_of_ble_eq_true rfl) ?_
    refine xW_pure (fun _ _ _ _ _ => am_lload_n d_Cell_isObject_0 rfl rfl) ?_
    refine xW_callS O (dx_Cell_sortOf O T) rfl l_Cell_9 w_1104 rfl (Nat.le_of_ble_eq_true rfl) d_Cell_isObject_1 (fun v2 s1 _ => ?_)
    refine xW_pure (fun _ _ _ _ _ => am_istore_n d_Cell_isObject_4 rfl (Nat.le_of_ble_eq_true rfl)) ?_
    refine xW_pure (fun _ _ _ _ _ => am_iload_n d_Cell_isObject_5 rfl rfl) ?_
    refine xW_pure (fun _ _ _ _ _ => am_iconst (v := 3) d_Cell_isObject_6 (by decide)) ?_
    refine xW_ite (fun _ _ _ _ _ => am_icmp_eq (tgt := 15) d_Cell_isObject_7 (by decide)) (fun _ => ?_) (fun _ => ?_)
    · refine xW_pure (fun _ _ _ _ _ => am_iconst (v := 1) d_Cell_isObject_15 (by decide)) ?_
      refine xW_pure (fun _ _ _ _ _ => am_goto (tgt := 20) d_Cell_isObject_16 (by decide)) ?_
      exact xW_ret (fun _ _ _ _ _ => am_zret (ty := .boolean) rfl rfl d_Cell_isObject_20)
    · refine xW_pure (fun _ _ _ _ _ => am_iload_n d_Cell_isObject_10 rfl rfl) ?_
      refine xW_pure (fun _ _ _ _ _ => am_iconst (v := 4) d_Cell_isObject_11 (by decide)) ?_
      refine xW_ite (fun _ _ _ _ _ k1 k2 => am_icmp_ne (tgt := 19) d_Cell_isObject_12 (by decide) k2 k1) (fun _ => ?_) (fun _ => ?_)
      · refine xW_pure (fun _ _ _ _ _ => am_iconst (v := 1) d_Cell_isObject_15 (by decide)) ?_
        refine xW_pure (fun _ _ _ _ _ => am_goto (tgt := 20) d_Cell_isObject_16 (by decide)) ?_
        exact xW_ret (fun _ _ _ _ _ => am_zret (ty := .boolean) rfl rfl d_Cell_isObject_20)
      · refine xW_pure (fun _ _ _ _ _ => am_iconst (v := 0) d_Cell_isObject_19 (by decide)) ?_
        exact xW_ret (fun _ _ _ _ _ => am_zret (ty := .boolean) rfl rfl d_Cell_isObject_20)

set_option maxRecDepth 100000 in
def x_Cell_isTrue (d : Nat) (x1 : Int64) (x2 : Int64) (s : HS) : Option (Int32 × HS) := match d with
  | 0 => none
  | d + 1 => bnd (x_Cell_sortOf d x1 s) fun v2 s1 => (if v2 = 0 then (some (0, s1)) else (if v2 = 1 then (if (lg_cmp x2 0) = 0 then (some (0, s1)) else (some (1, s1))) else (some (1, s1))))

set_option maxRecDepth 100000 in
set_option maxHeartbeats 4000000 in
theorem dx_Cell_isTrue (O : am_ok K X) (T : am_T K) {d : Nat} {x1 : Int64} {x2 : Int64} {s : HS} : xM cvI K X m_Cell_isTrue d [.long x1, .long x2] s (x_Cell_isTrue d x1 x2 s) := by
  cases d with
  | zero => exact xM_none
  | succ d =>
    unfold x_Cell_isTrue
    refine xM_enter (by decide +kernel) (Nat.le_of_ble_eq_true rfl) ?_
    refine xW_pure (fun _ _ _ _ _ => am_lload_n d_Cell_isTrue_0 rfl rfl) ?_
    refine xW_callS O (dx_Cell_sortOf O T) rfl l_Cell_9 w_1104 rfl (Nat.le_of_ble_eq_true rfl) d_Cell_isTrue_1 (fun v2 s1 _ => ?_)
    refine xW_pure (fun _ _ _ _ _ => am_istore d_Cell_isTrue_4 (Nat.le_of_ble_eq_true rfl)) ?_
    refine xW_pure (fun _ _ _ _ _ => am_iload d_Cell_isTrue_6 rfl) ?_
    refine xW_ite (fun _ _ _ _ _ => am_if_eq (tgt := 27) d_Cell_isTrue_8 (by decide)) (fun _ => ?_) (fun _ => ?_)
    · refine xW_pure (fun _ _ _ _ _ => am_iconst (v := 0) d_Cell_isTrue_27 (by decide)) ?_
      exact xW_ret (fun _ _ _ _ _ => am_zret (ty := .boolean) rfl rfl d_Cell_isTrue_28)
    · refine xW_pure (fun _ _ _ _ _ => am_iload d_Cell_isTrue_11 rfl) ?_
      refine xW_pure (fun _ _ _ _ _ => am_iconst (v := 1) d_Cell_isTrue_13 (by decide)) ?_
      refine xW_ite (fun _ _ _ _ _ k1 k2 => am_icmp_ne (tgt := 23) d_Cell_isTrue_14 (by decide) k2 k1) (fun _ => ?_) (fun _ => ?_)
      · refine xW_pure (fun _ _ _ _ _ => am_lload_n d_Cell_isTrue_17 rfl rfl) ?_
        refine xW_pure (fun _ _ _ _ _ => am_lconst (v := 0) d_Cell_isTrue_18 (by decide)) ?_
        refine xW_pure (fun _ _ _ _ _ => am_lcmp d_Cell_isTrue_19) ?_
        refine xW_ite (fun _ _ _ _ _ => am_if_eq (tgt := 27) d_Cell_isTrue_20 (by decide)) (fun _ => ?_) (fun _ => ?_)
        · refine xW_pure (fun _ _ _ _ _ => am_iconst (v := 0) d_Cell_isTrue_27 (by decide)) ?_
          exact xW_ret (fun _ _ _ _ _ => am_zret (ty := .boolean) rfl rfl d_Cell_isTrue_28)
        · refine xW_pure (fun _ _ _ _ _ => am_iconst (v := 1) d_Cell_isTrue_23 (by decide)) ?_
          refine xW_pure (fun _ _ _ _ _ => am_goto (tgt := 28) d_Cell_isTrue_24 (by decide)) ?_
          exact xW_ret (fun _ _ _ _ _ => am_zret (ty := .boolean) rfl rfl d_Cell_isTrue_28)
      · refine xW_pure (fun _ _ _ _ _ => am_iconst (v := 1) d_Cell_isTrue_23 (by decide)) ?_
        refine xW_pure (fun _ _ _ _ _ => am_goto (tgt := 28) d_Cell_isTrue_24 (by decide)) ?_
        exact xW_ret (fun _ _ _ _ _ => am_zret (ty := .boolean) rfl rfl d_Cell_isTrue_28)

set_option maxRecDepth 100000 in
def x_Cell_placed (d : Nat) (x1 : Int32) (x2 : Int32) (s : HS) : Option (Int64 × HS) := some ((((x1 : Int32).toInt64 : Int64) <<< (((7 * (7 - (x2 &&& 7))) : Int32).toInt64 &&& 63)), s)

set_option maxRecDepth 100000 in
set_option maxHeartbeats 4000000 in
theorem dx_Cell_placed (O : am_ok K X) (T : am_T K) {d : Nat} {x1 : Int32} {x2 : Int32} {s : HS} : xM cvL K X m_Cell_placed d [.int x1, .int x2] s (x_Cell_placed d x1 x2 s) := by
  unfold x_Cell_placed
  refine xM_enter (by decide +kernel) (Nat.le_of_ble_eq_true rfl) ?_
  refine xW_pure (fun _ _ _ _ _ => am_iload_n d_Cell_placed_0 rfl rfl) ?_
  refine xW_pure (fun _ _ _ _ _ => am_i2l d_Cell_placed_1 rfl) ?_
  refine xW_pure (fun _ _ _ _ _ => am_bipush (v := 7) d_Cell_placed_2 (by decide)) ?_
  refine xW_pure (fun _ _ _ _ _ => am_bipush (v := 7) d_Cell_placed_4 (by decide)) ?_
  refine xW_pure (fun _ _ _ _ _ => am_iload_n d_Cell_placed_6 rfl rfl) ?_
  refine xW_pure (fun _ _ _ _ _ => am_bipush (v := 7) d_Cell_placed_7 (by decide)) ?_
  refine xW_pure (fun _ _ _ _ _ => am_iand d_Cell_placed_9) ?_
  refine xW_pure (fun _ _ _ _ _ => am_isub d_Cell_placed_10) ?_
  refine xW_pure (fun _ _ _ _ _ => am_imul d_Cell_placed_11) ?_
  refine xW_pure (fun _ _ _ _ _ => am_lshl d_Cell_placed_12 rfl) ?_
  exact xW_ret (fun _ _ _ _ _ => am_lret rfl d_Cell_placed_13)

set_option maxRecDepth 100000 in
def x_Cell_signAt_b12 (d : Nat) (l4 : Int32) (t0 : Int64) (s : HS) : Option (Int32 × HS) := some (((((t0 : Int64).toUInt64 >>> (((7 * (7 - (l4 &&& 7))) : Int32).toInt64.toUInt64 &&& Int64.toUInt64 63)).toInt64 : Int64).toInt32 &&& 127), s)

set_option maxRecDepth 100000 in
set_option maxHeartbeats 4000000 in
theorem dx_Cell_signAt_b12 (O : am_ok K X) (T : am_T K) {d : Nat} {l4 : Int32} {t0 : Int64} {s : HS} : xW cvI K X m_Cell_signAt d 12 [(4, .int l4)] [.long t0] s (x_Cell_signAt_b12 d l4 t0 s) := by
  unfold x_Cell_signAt_b12
  refine xW_pure (fun _ _ _ _ _ => am_lstore d_Cell_signAt_12 (Nat.le_of_ble_eq_true rfl)) ?_
  refine xW_pure (fun _ _ _ _ _ => am_lload d_Cell_signAt_14 rfl) ?_
  refine xW_pure (fun _ _ _ _ _ => am_bipush (v := 7) d_Cell_signAt_16 (by decide)) ?_
  refine xW_pure (fun _ _ _ _ _ => am_bipush (v := 7) d_Cell_signAt_18 (by decide)) ?_
  refine xW_pure (fun _ _ _ _ _ => am_iload d_Cell_signAt_20 rfl) ?_
  refine xW_pure (fun _ _ _ _ _ => am_bipush (v := 7) d_Cell_signAt_22 (by decide)) ?_
  refine xW_pure (fun _ _ _ _ _ => am_iand d_Cell_signAt_24) ?_
  refine xW_pure (fun _ _ _ _ _ => am_isub d_Cell_signAt_25) ?_
  refine xW_pure (fun _ _ _ _ _ => am_imul d_Cell_signAt_26) ?_
  refine xW_pure (fun _ _ _ _ _ => am_lushr d_Cell_signAt_27 rfl) ?_
  refine xW_pure (fun _ _ _ _ _ => am_l2i d_Cell_signAt_28 rfl) ?_
  refine xW_pure (fun _ _ _ _ _ => am_bipush (v := 127) d_Cell_signAt_29 (by decide)) ?_
  refine xW_pure (fun _ _ _ _ _ => am_iand d_Cell_signAt_31) ?_
  exact xW_ret (fun _ _ _ _ _ => am_iret rfl d_Cell_signAt_32)

set_option maxRecDepth 100000 in
def x_Cell_signAt (d : Nat) (x1 : Int64) (x2 : Int64) (x3 : Int32) (s : HS) : Option (Int32 × HS) := if 8 ≤ x3 then (x_Cell_signAt_b12 d x3 x2 s) else (x_Cell_signAt_b12 d x3 x1 s)

set_option maxRecDepth 100000 in
set_option maxHeartbeats 4000000 in
theorem dx_Cell_signAt (O : am_ok K X) (T : am_T K) {d : Nat} {x1 : Int64} {x2 : Int64} {x3 : Int32} {s : HS} : xM cvI K X m_Cell_signAt d [.long x1, .long x2, .int x3] s (x_Cell_signAt d x1 x2 x3 s) := by
  unfold x_Cell_signAt
  refine xM_enter (by decide +kernel) (Nat.le_of_ble_eq_true rfl) ?_
  refine xW_pure (fun _ _ _ _ _ => am_iload d_Cell_signAt_0 rfl) ?_
  refine xW_pure (fun _ _ _ _ _ => am_bipush (v := 8) d_Cell_signAt_2 (by decide)) ?_
  refine xW_ite (fun _ _ _ _ _ => am_icmp_ge (tgt := 11) d_Cell_signAt_4 (by decide)) (fun _ => ?_) (fun _ => ?_)
  · refine xW_pure (fun _ _ _ _ _ => am_lload_n d_Cell_signAt_11 rfl rfl) ?_
    refine xW_locs (lv' := [(4, .int x3)]) rfl ?_
    exact dx_Cell_signAt_b12 O T
  · refine xW_pure (fun _ _ _ _ _ => am_lload_n d_Cell_signAt_7 rfl rfl) ?_
    refine xW_pure (fun _ _ _ _ _ => am_goto (tgt := 12) d_Cell_signAt_8 (by decide)) ?_
    refine xW_locs (lv' := [(4, .int x3)]) rfl ?_
    exact dx_Cell_signAt_b12 O T

set_option maxRecDepth 100000 in
def x_Cell_signsOf (d : Nat) (x1 : Int64) (x2 : Int64) (s : HS) : Option (Int32 × HS) := match d with
  | 0 => none
  | d + 1 => loopK (fun (again3 : Int32 × HS → Option (Int32 × HS)) (z3 : Int32 × HS) => (if 16 ≤ z3.1 then (some (16, z3.2)) else (bnd (x_Cell_signAt d x1 x2 z3.1 z3.2) fun v2 s1 => (if v2 = 0 then (some (z3.1, s1)) else (again3 ((z3.1 + 1), s1)))))) FU (0, s)

set_option maxRecDepth 100000 in
set_option maxHeartbeats 4000000 in
theorem dx_Cell_signsOf (O : am_ok K X) (T : am_T K) {d : Nat} {x1 : Int64} {x2 : Int64} {s : HS} : xM cvI K X m_Cell_signsOf d [.long x1, .long x2] s (x_Cell_signsOf d x1 x2 s) := by
  cases d with
  | zero => exact xM_none
  | succ d =>
    unfold x_Cell_signsOf
    refine xM_enter (by decide +kernel) (Nat.le_of_ble_eq_true rfl) ?_
    refine xW_pure (fun _ _ _ _ _ => am_iconst (v := 0) d_Cell_signsOf_0 (by decide)) ?_
    refine xW_pure (fun _ _ _ _ _ => am_istore d_Cell_signsOf_1 (Nat.le_of_ble_eq_true rfl)) ?_
    refine xW_locs (lv' := [(0, .long x1), (2, .long x2), (4, .int 0)]) rfl ?_
    refine xW_loop (lvf := fun (z3 : Int32 × HS) => [(0, .long x1), (2, .long x2), (4, .int z3.1)]) (hsf := fun (z3 : Int32 × HS) => z3.2) (fun again3 ih3 z3 => ?_) FU (0, s)
    refine xW_pure (fun _ _ _ _ _ => am_iload d_Cell_signsOf_3 rfl) ?_
    refine xW_pure (fun _ _ _ _ _ => am_bipush (v := 16) d_Cell_signsOf_5 (by decide)) ?_
    refine xW_ite (fun _ _ _ _ _ => am_icmp_ge (tgt := 29) d_Cell_signsOf_7 (by decide)) (fun _ => ?_) (fun _ => ?_)
    · refine xW_pure (fun _ _ _ _ _ => am_bipush (v := 16) d_Cell_signsOf_29 (by decide)) ?_
      exact xW_ret (fun _ _ _ _ _ => am_iret rfl d_Cell_signsOf_31)
    · refine xW_pure (fun _ _ _ _ _ => am_lload_n d_Cell_signsOf_10 rfl rfl) ?_
      refine xW_pure (fun _ _ _ _ _ => am_lload_n d_Cell_signsOf_11 rfl rfl) ?_
      refine xW_pure (fun _ _ _ _ _ => am_iload d_Cell_signsOf_12 rfl) ?_
      refine xW_callS O (dx_Cell_signAt O T) rfl l_Cell_13 w_1164 rfl (Nat.le_of_ble_eq_true rfl) d_Cell_signsOf_14 (fun v2 s1 _ => ?_)
      refine xW_ite (fun _ _ _ _ _ k1 k2 => am_if_ne (tgt := 23) d_Cell_signsOf_17 (by decide) k2 k1) (fun _ => ?_) (fun _ => ?_)
      · refine xW_pure (fun _ _ _ _ _ => am_iload d_Cell_signsOf_20 rfl) ?_
        exact xW_ret (fun _ _ _ _ _ => am_iret rfl d_Cell_signsOf_22)
      · refine xW_pure (fun _ _ _ _ _ => am_iinc (v := 1) d_Cell_signsOf_23 rfl (by decide) (Nat.le_of_ble_eq_true rfl)) ?_
        refine xW_pure (fun _ _ _ _ _ => am_goto (tgt := 3) d_Cell_signsOf_26 (by decide)) ?_
        refine xW_locs (lv' := [(0, .long x1), (2, .long x2), (4, .int (z3.1 + 1))]) rfl ?_
        exact ih3 ((z3.1 + 1), s1)

set_option maxRecDepth 100000 in
def x_Lexer_isLetter (d : Nat) (x1 : Int32) (s : HS) : Option (Int32 × HS) := if x1 < 97 then (some (0, s)) else (if 122 < x1 then (some (0, s)) else (some (1, s)))

set_option maxRecDepth 100000 in
set_option maxHeartbeats 4000000 in
theorem dx_Lexer_isLetter (O : am_ok K X) (T : am_T K) {d : Nat} {x1 : Int32} {s : HS} : xM cvI K X m_Lexer_isLetter d [.int x1] s (x_Lexer_isLetter d x1 s) := by
  unfold x_Lexer_isLetter
  refine xM_enter (by decide +kernel) (Nat.le_of_ble_eq_true rfl) ?_
  refine xW_pure (fun _ _ _ _ _ => am_iload_n d_Lexer_isLetter_0 rfl rfl) ?_
  refine xW_pure (fun _ _ _ _ _ => am_bipush (v := 97) d_Lexer_isLetter_1 (by decide)) ?_
  refine xW_ite (fun _ _ _ _ _ => am_icmp_lt (tgt := 16) d_Lexer_isLetter_3 (by decide)) (fun _ => ?_) (fun _ => ?_)
  · refine xW_pure (fun _ _ _ _ _ => am_iconst (v := 0) d_Lexer_isLetter_16 (by decide)) ?_
    exact xW_ret (fun _ _ _ _ _ => am_zret (ty := .boolean) rfl rfl d_Lexer_isLetter_17)
  · refine xW_pure (fun _ _ _ _ _ => am_iload_n d_Lexer_isLetter_6 rfl rfl) ?_
    refine xW_pure (fun _ _ _ _ _ => am_bipush (v := 122) d_Lexer_isLetter_7 (by decide)) ?_
    refine xW_ite (fun _ _ _ _ _ => am_icmp_gt (tgt := 16) d_Lexer_isLetter_9 (by decide)) (fun _ => ?_) (fun _ => ?_)
    · refine xW_pure (fun _ _ _ _ _ => am_iconst (v := 0) d_Lexer_isLetter_16 (by decide)) ?_
      exact xW_ret (fun _ _ _ _ _ => am_zret (ty := .boolean) rfl rfl d_Lexer_isLetter_17)
    · refine xW_pure (fun _ _ _ _ _ => am_iconst (v := 1) d_Lexer_isLetter_12 (by decide)) ?_
      refine xW_pure (fun _ _ _ _ _ => am_goto (tgt := 17) d_Lexer_isLetter_13 (by decide)) ?_
      exact xW_ret (fun _ _ _ _ _ => am_zret (ty := .boolean) rfl rfl d_Lexer_isLetter_17)

set_option maxRecDepth 100000 in
def x_Lexer_isDigit (d : Nat) (x1 : Int32) (s : HS) : Option (Int32 × HS) := if x1 < 48 then (some (0, s)) else (if 57 < x1 then (some (0, s)) else (some (1, s)))

set_option maxRecDepth 100000 in
set_option maxHeartbeats 4000000 in
theorem dx_Lexer_isDigit (O : am_ok K X) (T : am_T K) {d : Nat} {x1 : Int32} {s : HS} : xM cvI K X m_Lexer_isDigit d [.int x1] s (x_Lexer_isDigit d x1 s) := by
  unfold x_Lexer_isDigit
  refine xM_enter (by decide +kernel) (Nat.le_of_ble_eq_true rfl) ?_
  refine xW_pure (fun _ _ _ _ _ => am_iload_n d_Lexer_isDigit_0 rfl rfl) ?_
  refine xW_pure (fun _ _ _ _ _ => am_bipush (v := 48) d_Lexer_isDigit_1 (by decide)) ?_
  refine xW_ite (fun _ _ _ _ _ => am_icmp_lt (tgt := 16) d_Lexer_isDigit_3 (by decide)) (fun _ => ?_) (fun _ => ?_)
  · refine xW_pure (fun _ _ _ _ _ => am_iconst (v := 0) d_Lexer_isDigit_16 (by decide)) ?_
    exact xW_ret (fun _ _ _ _ _ => am_zret (ty := .boolean) rfl rfl d_Lexer_isDigit_17)
  · refine xW_pure (fun _ _ _ _ _ => am_iload_n d_Lexer_isDigit_6 rfl rfl) ?_
    refine xW_pure (fun _ _ _ _ _ => am_bipush (v := 57) d_Lexer_isDigit_7 (by decide)) ?_
    refine xW_ite (fun _ _ _ _ _ => am_icmp_gt (tgt := 16) d_Lexer_isDigit_9 (by decide)) (fun _ => ?_) (fun _ => ?_)
    · refine xW_pure (fun _ _ _ _ _ => am_iconst (v := 0) d_Lexer_isDigit_16 (by decide)) ?_
      exact xW_ret (fun _ _ _ _ _ => am_zret (ty := .boolean) rfl rfl d_Lexer_isDigit_17)
    · refine xW_pure (fun _ _ _ _ _ => am_iconst (v := 1) d_Lexer_isDigit_12 (by decide)) ?_
      refine xW_pure (fun _ _ _ _ _ => am_goto (tgt := 17) d_Lexer_isDigit_13 (by decide)) ?_
      exact xW_ret (fun _ _ _ _ _ => am_zret (ty := .boolean) rfl rfl d_Lexer_isDigit_17)

set_option maxRecDepth 100000 in
def x_Lexer_isTextSign (d : Nat) (x1 : Int32) (s : HS) : Option (Int32 × HS) := if x1 < 32 then (some (0, s)) else (if 126 < x1 then (some (0, s)) else (if x1 = 34 then (some (0, s)) else (some (1, s))))

set_option maxRecDepth 100000 in
set_option maxHeartbeats 4000000 in
theorem dx_Lexer_isTextSign (O : am_ok K X) (T : am_T K) {d : Nat} {x1 : Int32} {s : HS} : xM cvI K X m_Lexer_isTextSign d [.int x1] s (x_Lexer_isTextSign d x1 s) := by
  unfold x_Lexer_isTextSign
  refine xM_enter (by decide +kernel) (Nat.le_of_ble_eq_true rfl) ?_
  refine xW_pure (fun _ _ _ _ _ => am_iload_n d_Lexer_isTextSign_0 rfl rfl) ?_
  refine xW_pure (fun _ _ _ _ _ => am_bipush (v := 32) d_Lexer_isTextSign_1 (by decide)) ?_
  refine xW_ite (fun _ _ _ _ _ => am_icmp_lt (tgt := 22) d_Lexer_isTextSign_3 (by decide)) (fun _ => ?_) (fun _ => ?_)
  · refine xW_pure (fun _ _ _ _ _ => am_iconst (v := 0) d_Lexer_isTextSign_22 (by decide)) ?_
    exact xW_ret (fun _ _ _ _ _ => am_zret (ty := .boolean) rfl rfl d_Lexer_isTextSign_23)
  · refine xW_pure (fun _ _ _ _ _ => am_iload_n d_Lexer_isTextSign_6 rfl rfl) ?_
    refine xW_pure (fun _ _ _ _ _ => am_bipush (v := 126) d_Lexer_isTextSign_7 (by decide)) ?_
    refine xW_ite (fun _ _ _ _ _ => am_icmp_gt (tgt := 22) d_Lexer_isTextSign_9 (by decide)) (fun _ => ?_) (fun _ => ?_)
    · refine xW_pure (fun _ _ _ _ _ => am_iconst (v := 0) d_Lexer_isTextSign_22 (by decide)) ?_
      exact xW_ret (fun _ _ _ _ _ => am_zret (ty := .boolean) rfl rfl d_Lexer_isTextSign_23)
    · refine xW_pure (fun _ _ _ _ _ => am_iload_n d_Lexer_isTextSign_12 rfl rfl) ?_
      refine xW_pure (fun _ _ _ _ _ => am_bipush (v := 34) d_Lexer_isTextSign_13 (by decide)) ?_
      refine xW_ite (fun _ _ _ _ _ => am_icmp_eq (tgt := 22) d_Lexer_isTextSign_15 (by decide)) (fun _ => ?_) (fun _ => ?_)
      · refine xW_pure (fun _ _ _ _ _ => am_iconst (v := 0) d_Lexer_isTextSign_22 (by decide)) ?_
        exact xW_ret (fun _ _ _ _ _ => am_zret (ty := .boolean) rfl rfl d_Lexer_isTextSign_23)
      · refine xW_pure (fun _ _ _ _ _ => am_iconst (v := 1) d_Lexer_isTextSign_18 (by decide)) ?_
        refine xW_pure (fun _ _ _ _ _ => am_goto (tgt := 23) d_Lexer_isTextSign_19 (by decide)) ?_
        exact xW_ret (fun _ _ _ _ _ => am_zret (ty := .boolean) rfl rfl d_Lexer_isTextSign_23)

set_option maxRecDepth 100000 in
def x_Lexer_pairKind (d : Nat) (x1 : Int32) (x2 : Int32) (s : HS) : Option (Int32 × HS) := if x2 = 61 then (if x1 = 61 then (some (256, s)) else (if x1 = 33 then (some (257, s)) else (if x1 = 60 then (some (258, s)) else (some (1, s))))) else (if x1 = x2 then (if x1 = 38 then (some (259, s)) else (if x1 = 124 then (some (260, s)) else (some (1, s)))) else (some (1, s)))

set_option maxRecDepth 100000 in
set_option maxHeartbeats 4000000 in
theorem dx_Lexer_pairKind (O : am_ok K X) (T : am_T K) {d : Nat} {x1 : Int32} {x2 : Int32} {s : HS} : xM cvI K X m_Lexer_pairKind d [.int x1, .int x2] s (x_Lexer_pairKind d x1 x2 s) := by
  unfold x_Lexer_pairKind
  refine xM_enter (by decide +kernel) (Nat.le_of_ble_eq_true rfl) ?_
  refine xW_pure (fun _ _ _ _ _ => am_iload_n d_Lexer_pairKind_0 rfl rfl) ?_
  refine xW_pure (fun _ _ _ _ _ => am_bipush (v := 61) d_Lexer_pairKind_1 (by decide)) ?_
  refine xW_ite (fun _ _ _ _ _ k1 k2 => am_icmp_ne (tgt := 44) d_Lexer_pairKind_3 (by decide) k2 k1) (fun _ => ?_) (fun _ => ?_)
  · refine xW_pure (fun _ _ _ _ _ => am_iload_n d_Lexer_pairKind_6 rfl rfl) ?_
    refine xW_pure (fun _ _ _ _ _ => am_bipush (v := 61) d_Lexer_pairKind_7 (by decide)) ?_
    refine xW_ite (fun _ _ _ _ _ k1 k2 => am_icmp_ne (tgt := 18) d_Lexer_pairKind_9 (by decide) k2 k1) (fun _ => ?_) (fun _ => ?_)
    · refine xW_pure (fun _ _ _ _ _ => am_sipush (v := 256) d_Lexer_pairKind_12 (by decide)) ?_
      refine xW_pure (fun _ _ _ _ _ => am_goto (tgt := 43) d_Lexer_pairKind_15 (by decide)) ?_
      exact xW_ret (fun _ _ _ _ _ => am_iret rfl d_Lexer_pairKind_43)
    · refine xW_pure (fun _ _ _ _ _ => am_iload_n d_Lexer_pairKind_18 rfl rfl) ?_
      refine xW_pure (fun _ _ _ _ _ => am_bipush (v := 33) d_Lexer_pairKind_19 (by decide)) ?_
      refine xW_ite (fun _ _ _ _ _ k1 k2 => am_icmp_ne (tgt := 30) d_Lexer_pairKind_21 (by decide) k2 k1) (fun _ => ?_) (fun _ => ?_)
      · refine xW_pure (fun _ _ _ _ _ => am_sipush (v := 257) d_Lexer_pairKind_24 (by decide)) ?_
        refine xW_pure (fun _ _ _ _ _ => am_goto (tgt := 43) d_Lexer_pairKind_27 (by decide)) ?_
        exact xW_ret (fun _ _ _ _ _ => am_iret rfl d_Lexer_pairKind_43)
      · refine xW_pure (fun _ _ _ _ _ => am_iload_n d_Lexer_pairKind_30 rfl rfl) ?_
        refine xW_pure (fun _ _ _ _ _ => am_bipush (v := 60) d_Lexer_pairKind_31 (by decide)) ?_
        refine xW_ite (fun _ _ _ _ _ k1 k2 => am_icmp_ne (tgt := 42) d_Lexer_pairKind_33 (by decide) k2 k1) (fun _ => ?_) (fun _ => ?_)
        · refine xW_pure (fun _ _ _ _ _ => am_sipush (v := 258) d_Lexer_pairKind_36 (by decide)) ?_
          refine xW_pure (fun _ _ _ _ _ => am_goto (tgt := 43) d_Lexer_pairKind_39 (by decide)) ?_
          exact xW_ret (fun _ _ _ _ _ => am_iret rfl d_Lexer_pairKind_43)
        · refine xW_pure (fun _ _ _ _ _ => am_iconst (v := 1) d_Lexer_pairKind_42 (by decide)) ?_
          exact xW_ret (fun _ _ _ _ _ => am_iret rfl d_Lexer_pairKind_43)
  · refine xW_pure (fun _ _ _ _ _ => am_iload_n d_Lexer_pairKind_44 rfl rfl) ?_
    refine xW_pure (fun _ _ _ _ _ => am_iload_n d_Lexer_pairKind_45 rfl rfl) ?_
    refine xW_ite (fun _ _ _ _ _ k1 k2 => am_icmp_ne (tgt := 75) d_Lexer_pairKind_46 (by decide) k2 k1) (fun _ => ?_) (fun _ => ?_)
    · refine xW_pure (fun _ _ _ _ _ => am_iload_n d_Lexer_pairKind_49 rfl rfl) ?_
      refine xW_pure (fun _ _ _ _ _ => am_bipush (v := 38) d_Lexer_pairKind_50 (by decide)) ?_
      refine xW_ite (fun _ _ _ _ _ k1 k2 => am_icmp_ne (tgt := 61) d_Lexer_pairKind_52 (by decide) k2 k1) (fun _ => ?_) (fun _ => ?_)
      · refine xW_pure (fun _ _ _ _ _ => am_sipush (v := 259) d_Lexer_pairKind_55 (by decide)) ?_
        refine xW_pure (fun _ _ _ _ _ => am_goto (tgt := 74) d_Lexer_pairKind_58 (by decide)) ?_
        exact xW_ret (fun _ _ _ _ _ => am_iret rfl d_Lexer_pairKind_74)
      · refine xW_pure (fun _ _ _ _ _ => am_iload_n d_Lexer_pairKind_61 rfl rfl) ?_
        refine xW_pure (fun _ _ _ _ _ => am_bipush (v := 124) d_Lexer_pairKind_62 (by decide)) ?_
        refine xW_ite (fun _ _ _ _ _ k1 k2 => am_icmp_ne (tgt := 73) d_Lexer_pairKind_64 (by decide) k2 k1) (fun _ => ?_) (fun _ => ?_)
        · refine xW_pure (fun _ _ _ _ _ => am_sipush (v := 260) d_Lexer_pairKind_67 (by decide)) ?_
          refine xW_pure (fun _ _ _ _ _ => am_goto (tgt := 74) d_Lexer_pairKind_70 (by decide)) ?_
          exact xW_ret (fun _ _ _ _ _ => am_iret rfl d_Lexer_pairKind_74)
        · refine xW_pure (fun _ _ _ _ _ => am_iconst (v := 1) d_Lexer_pairKind_73 (by decide)) ?_
          exact xW_ret (fun _ _ _ _ _ => am_iret rfl d_Lexer_pairKind_74)
    · refine xW_pure (fun _ _ _ _ _ => am_iconst (v := 1) d_Lexer_pairKind_75 (by decide)) ?_
      exact xW_ret (fun _ _ _ _ _ => am_iret rfl d_Lexer_pairKind_76)

set_option maxRecDepth 100000 in
def x_Out_clear (d : Nat) (x0 : Nat) (s : HS) : Option (Unit × HS) := gd s x0 0 ((pV s x0 0 1 (.int 0)).bind fun s1 => ((pV s1 x0 0 2 (.int 0)).bind fun s2 => (some ((), s2))))

set_option maxRecDepth 100000 in
set_option maxHeartbeats 4000000 in
theorem dx_Out_clear (O : am_ok K X) (T : am_T K) {d : Nat} {x0 : Nat} {s : HS} : xM cvU K X m_Out_clear d [.ref x0] s (x_Out_clear d x0 s) := by
  unfold x_Out_clear
  refine xM_enter (by decide +kernel) (Nat.le_of_ble_eq_true rfl) ?_
  refine xW_gd (fun _ => ?_)
  refine xW_pure (fun _ _ _ _ _ => am_aload_n d_Out_clear_0 rfl rfl) ?_
  refine xW_pure (fun _ _ _ _ _ => am_iconst (v := 0) d_Out_clear_1 (by decide)) ?_
  refine xW_put O f_Out_15 d_Out_clear_2 (fun q hq => by cases hq; exact ⟨rfl, rfl, rfl⟩) (fun s1 _ => ?_)
  refine xW_pure (fun _ _ _ _ _ => am_aload_n d_Out_clear_5 rfl rfl) ?_
  refine xW_pure (fun _ _ _ _ _ => am_iconst (v := 0) d_Out_clear_6 (by decide)) ?_
  refine xW_put O f_Out_19 d_Out_clear_7 (fun q hq => by cases hq; exact ⟨rfl, rfl, rfl⟩) (fun s2 _ => ?_)
  exact xW_ret (fun _ _ _ _ _ => am_vret rfl d_Out_clear_10)

theorem ob_Out_clear {d : Nat} {x0 : Nat} {s : HS} {y : Unit × HS} (h : x_Out_clear d x0 s = some y) : isO s x0 0 = true := (gd_spec h).1

set_option maxRecDepth 100000 in
def x_Out_size (d : Nat) (x0 : Nat) (s : HS) : Option (Int32 × HS) := gd s x0 0 ((gI s x0 0 1).bind fun v1 => (some (v1, s)))

set_option maxRecDepth 100000 in
set_option maxHeartbeats 4000000 in
theorem dx_Out_size (O : am_ok K X) (T : am_T K) {d : Nat} {x0 : Nat} {s : HS} : xM cvI K X m_Out_size d [.ref x0] s (x_Out_size d x0 s) := by
  unfold x_Out_size
  refine xM_enter (by decide +kernel) (Nat.le_of_ble_eq_true rfl) ?_
  refine xW_gd (fun _ => ?_)
  refine xW_pure (fun _ _ _ _ _ => am_aload_n d_Out_size_0 rfl rfl) ?_
  refine xW_gI O f_Out_15 d_Out_size_1 (fun v1 _ => ?_)
  exact xW_ret (fun _ _ _ _ _ => am_iret rfl d_Out_size_4)

theorem ob_Out_size {d : Nat} {x0 : Nat} {s : HS} {y : Int32 × HS} (h : x_Out_size d x0 s = some y) : isO s x0 0 = true := (gd_spec h).1

set_option maxRecDepth 100000 in
def x_Out_spilled (d : Nat) (x0 : Nat) (s : HS) : Option (Int32 × HS) := gd s x0 0 ((gI s x0 0 2).bind fun v1 => (okB v1 (some (v1, s))))

set_option maxRecDepth 100000 in
set_option maxHeartbeats 4000000 in
theorem dx_Out_spilled (O : am_ok K X) (T : am_T K) {d : Nat} {x0 : Nat} {s : HS} : xM cvI K X m_Out_spilled d [.ref x0] s (x_Out_spilled d x0 s) := by
  unfold x_Out_spilled
  refine xM_enter (by decide +kernel) (Nat.le_of_ble_eq_true rfl) ?_
  refine xW_gd (fun _ => ?_)
  refine xW_pure (fun _ _ _ _ _ => am_aload_n d_Out_spilled_0 rfl rfl) ?_
  refine xW_gI O f_Out_19 d_Out_spilled_1 (fun v1 _ => ?_)
  refine xW_okB (fun hz => ?_)
  exact xW_ret (fun _ _ _ _ _ => am_zret (ty := .boolean) rfl (bz_nar hz) d_Out_spilled_4)

theorem ob_Out_spilled {d : Nat} {x0 : Nat} {s : HS} {y : Int32 × HS} (h : x_Out_spilled d x0 s = some y) : isO s x0 0 = true := (gd_spec h).1

set_option maxRecDepth 100000 in
def x_Out_byteAt (d : Nat) (x0 : Nat) (x1 : Int32) (s : HS) : Option (Int32 × HS) := gd s x0 0 (if x1 < 0 then (some ((-2), s)) else ((gI s x0 0 1).bind fun v1 => (if v1 ≤ x1 then (some ((-2), s)) else ((gR s x0 0 0).bind fun v2 => ((aB s v2 x1).bind fun v3 => (some (v3, s)))))))

set_option maxRecDepth 100000 in
set_option maxHeartbeats 4000000 in
theorem dx_Out_byteAt (O : am_ok K X) (T : am_T K) {d : Nat} {x0 : Nat} {x1 : Int32} {s : HS} : xM cvI K X m_Out_byteAt d [.ref x0, .int x1] s (x_Out_byteAt d x0 x1 s) := by
  unfold x_Out_byteAt
  refine xM_enter (by decide +kernel) (Nat.le_of_ble_eq_true rfl) ?_
  refine xW_gd (fun _ => ?_)
  refine xW_pure (fun _ _ _ _ _ => am_iload_n d_Out_byteAt_0 rfl rfl) ?_
  refine xW_ite (fun _ _ _ _ _ => am_if_lt (tgt := 21) d_Out_byteAt_1 (by decide)) (fun _ => ?_) (fun _ => ?_)
  · refine xW_pure (fun _ _ _ _ _ => am_bipush (v := (-2)) d_Out_byteAt_21 (by decide)) ?_
    exact xW_ret (fun _ _ _ _ _ => am_iret rfl d_Out_byteAt_23)
  · refine xW_pure (fun _ _ _ _ _ => am_iload_n d_Out_byteAt_4 rfl rfl) ?_
    refine xW_pure (fun _ _ _ _ _ => am_aload_n d_Out_byteAt_5 rfl rfl) ?_
    refine xW_gI O f_Out_15 d_Out_byteAt_6 (fun v1 _ => ?_)
    refine xW_ite (fun _ _ _ _ _ => am_icmp_ge (tgt := 21) d_Out_byteAt_9 (by decide)) (fun _ => ?_) (fun _ => ?_)
    · refine xW_pure (fun _ _ _ _ _ => am_bipush (v := (-2)) d_Out_byteAt_21 (by decide)) ?_
      exact xW_ret (fun _ _ _ _ _ => am_iret rfl d_Out_byteAt_23)
    · refine xW_pure (fun _ _ _ _ _ => am_aload_n d_Out_byteAt_12 rfl rfl) ?_
      refine xW_gR O f_Out_11 d_Out_byteAt_13 (fun v2 _ => ?_)
      refine xW_pure (fun _ _ _ _ _ => am_iload_n d_Out_byteAt_16 rfl rfl) ?_
      refine xW_aB O d_Out_byteAt_17 (fun v3 _ => ?_)
      refine xW_pure (fun _ _ _ _ _ => am_goto (tgt := 23) d_Out_byteAt_18 (by decide)) ?_
      exact xW_ret (fun _ _ _ _ _ => am_iret rfl d_Out_byteAt_23)

theorem ob_Out_byteAt {d : Nat} {x0 : Nat} {x1 : Int32} {s : HS} {y : Int32 × HS} (h : x_Out_byteAt d x0 x1 s = some y) : isO s x0 0 = true := (gd_spec h).1

set_option maxRecDepth 100000 in
def x_Out_add (d : Nat) (x0 : Nat) (x1 : Int32) (s : HS) : Option (Unit × HS) := gd s x0 0 ((gI s x0 0 1).bind fun v1 => (if 600 ≤ v1 then ((pV s x0 0 2 (.int 1)).bind fun s2 => (some ((), s2))) else ((gR s x0 0 0).bind fun v3 => ((gI s x0 0 1).bind fun v4 => ((sV s .byte v3 v4 (.int ((x1 : Int32).toInt8.toInt32 : Int32).toInt8.toInt32)).bind fun s5 => ((gI s5 x0 0 1).bind fun v6 => ((pV s5 x0 0 1 (.int (v6 + 1))).bind fun s7 => (some ((), s7)))))))))

set_option maxRecDepth 100000 in
set_option maxHeartbeats 4000000 in
theorem dx_Out_add (O : am_ok K X) (T : am_T K) {d : Nat} {x0 : Nat} {x1 : Int32} {s : HS} : xM cvU K X m_Out_add d [.ref x0, .int x1] s (x_Out_add d x0 x1 s) := by
  unfold x_Out_add
  refine xM_enter (by decide +kernel) (Nat.le_of_ble_eq_true rfl) ?_
  refine xW_gd (fun _ => ?_)
  refine xW_pure (fun _ _ _ _ _ => am_aload_n d_Out_add_0 rfl rfl) ?_
  refine xW_gI O f_Out_15 d_Out_add_1 (fun v1 _ => ?_)
  refine xW_pure (fun _ _ _ _ _ => am_sipush (v := 600) d_Out_add_4 (by decide)) ?_
  refine xW_ite (fun _ _ _ _ _ => am_icmp_ge (tgt := 34) d_Out_add_7 (by decide)) (fun _ => ?_) (fun _ => ?_)
  · refine xW_pure (fun _ _ _ _ _ => am_aload_n d_Out_add_34 rfl rfl) ?_
    refine xW_pure (fun _ _ _ _ _ => am_iconst (v := 1) d_Out_add_35 (by decide)) ?_
    refine xW_put O f_Out_19 d_Out_add_36 (fun q hq => by cases hq; exact ⟨rfl, rfl, rfl⟩) (fun s2 _ => ?_)
    exact xW_ret (fun _ _ _ _ _ => am_vret rfl d_Out_add_39)
  · refine xW_pure (fun _ _ _ _ _ => am_aload_n d_Out_add_10 rfl rfl) ?_
    refine xW_gR O f_Out_11 d_Out_add_11 (fun v3 _ => ?_)
    refine xW_pure (fun _ _ _ _ _ => am_aload_n d_Out_add_14 rfl rfl) ?_
    refine xW_gI O f_Out_15 d_Out_add_15 (fun v4 _ => ?_)
    refine xW_pure (fun _ _ _ _ _ => am_iload_n d_Out_add_18 rfl rfl) ?_
    refine xW_pure (fun _ _ _ _ _ => am_i2b d_Out_add_19 rfl) ?_
    refine xW_sB O d_Out_add_20 (fun s5 _ => ?_)
    refine xW_pure (fun _ _ _ _ _ => am_aload_n d_Out_add_21 rfl rfl) ?_
    refine xW_pure (fun _ _ _ _ _ => am_dup d_Out_add_22 rfl) ?_
    refine xW_gI O f_Out_15 d_Out_add_23 (fun v6 _ => ?_)
    refine xW_pure (fun _ _ _ _ _ => am_iconst (v := 1) d_Out_add_26 (by decide)) ?_
    refine xW_pure (fun _ _ _ _ _ => am_iadd d_Out_add_27) ?_
    refine xW_put O f_Out_15 d_Out_add_28 (fun q hq => by cases hq; exact ⟨rfl, rfl, rfl⟩) (fun s7 _ => ?_)
    refine xW_pure (fun _ _ _ _ _ => am_goto (tgt := 39) d_Out_add_31 (by decide)) ?_
    exact xW_ret (fun _ _ _ _ _ => am_vret rfl d_Out_add_39)

theorem ob_Out_add {d : Nat} {x0 : Nat} {x1 : Int32} {s : HS} {y : Unit × HS} (h : x_Out_add d x0 x1 s = some y) : isO s x0 0 = true := (gd_spec h).1

set_option maxRecDepth 100000 in
def x_Out_addText (d : Nat) (x0 : Nat) (x1 : Int64) (x2 : Int64) (s : HS) : Option (Unit × HS) := match d with
  | 0 => none
  | d + 1 => gd s x0 0 (bnd (x_Cell_signsOf d x1 x2 s) fun v2 s1 => (loopK (fun (again10 : Int32 × HS → Option (Unit × HS)) (z10 : Int32 × HS) => (if v2 ≤ z10.1 then (some ((), z10.2)) else (bnd (x_Cell_signAt d x1 x2 z10.1 z10.2) fun v4 s3 => (bnd (x_Out_add d x0 v4 s3) fun v6 s5 => (again10 ((z10.1 + 1), s5)))))) FU (0, s1)))

set_option maxRecDepth 100000 in
set_option maxHeartbeats 4000000 in
theorem dx_Out_addText (O : am_ok K X) (T : am_T K) {d : Nat} {x0 : Nat} {x1 : Int64} {x2 : Int64} {s : HS} : xM cvU K X m_Out_addText d [.ref x0, .long x1, .long x2] s (x_Out_addText d x0 x1 x2 s) := by
  cases d with
  | zero => exact xM_none
  | succ d =>
    unfold x_Out_addText
    refine xM_enter (by decide +kernel) (Nat.le_of_ble_eq_true rfl) ?_
    refine xW_gd (fun _ => ?_)
    refine xW_pure (fun _ _ _ _ _ => am_lload_n d_Out_addText_0 rfl rfl) ?_
    refine xW_pure (fun _ _ _ _ _ => am_lload_n d_Out_addText_1 rfl rfl) ?_
    refine xW_callS O (dx_Cell_signsOf O T) rfl l_Out_23 w_1161 rfl (Nat.le_of_ble_eq_true rfl) d_Out_addText_2 (fun v2 s1 _ => ?_)
    refine xW_pure (fun _ _ _ _ _ => am_istore d_Out_addText_5 (Nat.le_of_ble_eq_true rfl)) ?_
    refine xW_pure (fun _ _ _ _ _ => am_iconst (v := 0) d_Out_addText_7 (by decide)) ?_
    refine xW_pure (fun _ _ _ _ _ => am_istore d_Out_addText_8 (Nat.le_of_ble_eq_true rfl)) ?_
    refine xW_locs (lv' := [(0, .ref x0), (1, .long x1), (3, .long x2), (5, .int v2), (6, .int 0)]) rfl ?_
    refine xW_loop (lvf := fun (z10 : Int32 × HS) => [(0, .ref x0), (1, .long x1), (3, .long x2), (5, .int v2), (6, .int z10.1)]) (hsf := fun (z10 : Int32 × HS) => z10.2) (fun again10 ih10 z10 => ?_) FU (0, s1)
    refine xW_pure (fun _ _ _ _ _ => am_iload d_Out_addText_10 rfl) ?_
    refine xW_pure (fun _ _ _ _ _ => am_iload d_Out_addText_12 rfl) ?_
    refine xW_ite (fun _ _ _ _ _ => am_icmp_ge (tgt := 34) d_Out_addText_14 (by decide)) (fun _ => ?_) (fun _ => ?_)
    · exact xW_ret (fun _ _ _ _ _ => am_vret rfl d_Out_addText_34)
    · refine xW_pure (fun _ _ _ _ _ => am_aload_n d_Out_addText_17 rfl rfl) ?_
      refine xW_pure (fun _ _ _ _ _ => am_lload_n d_Out_addText_18 rfl rfl) ?_
      refine xW_pure (fun _ _ _ _ _ => am_lload_n d_Out_addText_19 rfl rfl) ?_
      refine xW_pure (fun _ _ _ _ _ => am_iload d_Out_addText_20 rfl) ?_
      refine xW_callS O (dx_Cell_signAt O T) rfl l_Out_29 w_1164 rfl (Nat.le_of_ble_eq_true rfl) d_Out_addText_22 (fun v4 s3 _ => ?_)
      refine xW_callV O (dx_Out_add O T) (fun _ e => ob_Out_add e) rfl rfl rfl l_Out_33 ⟨w_1148, w_1149⟩ rfl (Nat.le_of_ble_eq_true rfl) d_Out_addText_25 (fun v6 s5 _ => ?_)
      refine xW_pure (fun _ _ _ _ _ => am_iinc (v := 1) d_Out_addText_28 rfl (by decide) (Nat.le_of_ble_eq_true rfl)) ?_
      refine xW_pure (fun _ _ _ _ _ => am_goto (tgt := 10) d_Out_addText_31 (by decide)) ?_
      refine xW_locs (lv' := [(0, .ref x0), (1, .long x1), (3, .long x2), (5, .int v2), (6, .int (z10.1 + 1))]) rfl ?_
      exact ih10 ((z10.1 + 1), s5)

theorem ob_Out_addText {d : Nat} {x0 : Nat} {x1 : Int64} {x2 : Int64} {s : HS} {y : Unit × HS} (h : x_Out_addText d x0 x1 x2 s = some y) : isO s x0 0 = true := by
  cases d with
  | zero => cases h
  | succ d => exact (gd_spec h).1

set_option maxRecDepth 100000 in
def x_Out_addNumber_b12 (d : Nat) (l0 : Nat) (l1 : Int64) (s : HS) : Option (Unit × HS) := loopK (fun (again23 : Int64 × Int32 × HS → Option (Unit × HS)) (z23 : Int64 × Int32 × HS) => (if 10 ≤ z23.2.1 then (loopK (fun (again58 : Int64 × Int32 × HS → Option (Unit × HS)) (z58 : Int64 × Int32 × HS) => (if 11 ≤ z58.2.1 then (some ((), z58.2.2)) else (if (lg_cmp z58.1 0) ≤ 0 then (some ((), z58.2.2)) else (if z58.1 = 0 then none else (bnd (x_Out_add d l0 ((48 + (((if 0 < l1 then l1 else -l1) / z58.1) - ((if 0 < l1 then l1 else -l1) / z58.1) / 10 * 10)) : Int64).toInt32 z58.2.2) fun v2 s1 => (again58 ((z58.1 / 10), (z58.2.1 + 1), s1))))))) FU (z23.1, 0, z23.2.2)) else (if z23.1 = 0 then none else (if (lg_cmp ((if 0 < l1 then l1 else -l1) / z23.1) 10) < 0 then (loopK (fun (again58 : Int64 × Int32 × HS → Option (Unit × HS)) (z58 : Int64 × Int32 × HS) => (if 11 ≤ z58.2.1 then (some ((), z58.2.2)) else (if (lg_cmp z58.1 0) ≤ 0 then (some ((), z58.2.2)) else (if z58.1 = 0 then none else (bnd (x_Out_add d l0 ((48 + (((if 0 < l1 then l1 else -l1) / z58.1) - ((if 0 < l1 then l1 else -l1) / z58.1) / 10 * 10)) : Int64).toInt32 z58.2.2) fun v4 s3 => (again58 ((z58.1 / 10), (z58.2.1 + 1), s3))))))) FU (z23.1, 0, z23.2.2)) else (again23 ((z23.1 * 10), (z23.2.1 + 1), z23.2.2)))))) FU (1, 0, s)

set_option maxRecDepth 100000 in
set_option maxHeartbeats 4000000 in
theorem dx_Out_addNumber_b12 (O : am_ok K X) (T : am_T K) {d : Nat} {l0 : Nat} {l1 : Int64} {s : HS} : xW cvU K X m_Out_addNumber (d + 1) 12 [(0, .ref l0), (1, .long l1)] [] s (x_Out_addNumber_b12 d l0 l1 s) := by
  unfold x_Out_addNumber_b12
  refine xW_pure (fun _ _ _ _ _ => am_lload_n d_Out_addNumber_12 rfl rfl) ?_
  refine xW_pure (fun _ _ _ _ _ => am_mabsL w_1151 w_1152 w_164 w_1153 d_Out_addNumber_13 (Nat.le_of_ble_eq_true rfl) (by omega)) ?_
  refine xW_pure (fun _ _ _ _ _ => am_lstore_n d_Out_addNumber_16 rfl (Nat.le_of_ble_eq_true rfl)) ?_
  refine xW_pure (fun _ _ _ _ _ => am_lconst (v := 1) d_Out_addNumber_17 (by decide)) ?_
  refine xW_pure (fun _ _ _ _ _ => am_lstore d_Out_addNumber_18 (Nat.le_of_ble_eq_true rfl)) ?_
  refine xW_pure (fun _ _ _ _ _ => am_iconst (v := 0) d_Out_addNumber_20 (by decide)) ?_
  refine xW_pure (fun _ _ _ _ _ => am_istore d_Out_addNumber_21 (Nat.le_of_ble_eq_true rfl)) ?_
  refine xW_locs (lv' := [(0, .ref l0), (3, .long (if 0 < l1 then l1 else -l1)), (5, .long 1), (7, .int 0)]) rfl ?_
  refine xW_loop (lvf := fun (z23 : Int64 × Int32 × HS) => [(0, .ref l0), (3, .long (if 0 < l1 then l1 else -l1)), (5, .long z23.1), (7, .int z23.2.1)]) (hsf := fun (z23 : Int64 × Int32 × HS) => z23.2.2) (fun again23 ih23 z23 => ?_) FU (1, 0, s)
  refine xW_pure (fun _ _ _ _ _ => am_iload d_Out_addNumber_23 rfl) ?_
  refine xW_pure (fun _ _ _ _ _ => am_bipush (v := 10) d_Out_addNumber_25 (by decide)) ?_
  refine xW_ite (fun _ _ _ _ _ => am_icmp_ge (tgt := 55) d_Out_addNumber_27 (by decide)) (fun _ => ?_) (fun _ => ?_)
  · refine xW_pure (fun _ _ _ _ _ => am_iconst (v := 0) d_Out_addNumber_55 (by decide)) ?_
    refine xW_pure (fun _ _ _ _ _ => am_istore d_Out_addNumber_56 (Nat.le_of_ble_eq_true rfl)) ?_
    refine xW_locs (lv' := [(0, .ref l0), (3, .long (if 0 < l1 then l1 else -l1)), (5, .long z23.1), (7, .int 0)]) rfl ?_
    refine xW_loop (lvf := fun (z58 : Int64 × Int32 × HS) => [(0, .ref l0), (3, .long (if 0 < l1 then l1 else -l1)), (5, .long z58.1), (7, .int z58.2.1)]) (hsf := fun (z58 : Int64 × Int32 × HS) => z58.2.2) (fun again58 ih58 z58 => ?_) FU (z23.1, 0, z23.2.2)
    refine xW_pure (fun _ _ _ _ _ => am_iload d_Out_addNumber_58 rfl) ?_
    refine xW_pure (fun _ _ _ _ _ => am_bipush (v := 11) d_Out_addNumber_60 (by decide)) ?_
    refine xW_ite (fun _ _ _ _ _ => am_icmp_ge (tgt := 103) d_Out_addNumber_62 (by decide)) (fun _ => ?_) (fun _ => ?_)
    · exact xW_ret (fun _ _ _ _ _ => am_vret rfl d_Out_addNumber_103)
    · refine xW_pure (fun _ _ _ _ _ => am_lload d_Out_addNumber_65 rfl) ?_
      refine xW_pure (fun _ _ _ _ _ => am_lconst (v := 0) d_Out_addNumber_67 (by decide)) ?_
      refine xW_pure (fun _ _ _ _ _ => am_lcmp d_Out_addNumber_68) ?_
      refine xW_ite (fun _ _ _ _ _ => am_if_le (tgt := 103) d_Out_addNumber_69 (by decide)) (fun _ => ?_) (fun _ => ?_)
      · exact xW_ret (fun _ _ _ _ _ => am_vret rfl d_Out_addNumber_103)
      · refine xW_pure (fun _ _ _ _ _ => am_aload_n d_Out_addNumber_72 rfl rfl) ?_
        refine xW_pure (fun _ _ _ _ _ => am_ldc2 (v := 48) w_1155 d_Out_addNumber_73) ?_
        refine xW_pure (fun _ _ _ _ _ => am_lload_n d_Out_addNumber_76 rfl rfl) ?_
        refine xW_pure (fun _ _ _ _ _ => am_lload d_Out_addNumber_77 rfl) ?_
        refine xW_by (fun _ => xW_none) (fun c79 => ?_)
        refine xW_pure (fun _ _ _ _ _ => am_ldiv d_Out_addNumber_79 c79) ?_
        refine xW_pure (fun _ _ _ _ _ => am_ldc2 (v := 10) w_1154 d_Out_addNumber_80) ?_
        refine xW_pure (fun _ _ _ _ _ => am_lrem d_Out_addNumber_83 (by decide)) ?_
        refine xW_pure (fun _ _ _ _ _ => am_ladd d_Out_addNumber_84) ?_
        refine xW_pure (fun _ _ _ _ _ => am_l2i d_Out_addNumber_85 rfl) ?_
        refine xW_callV O (dx_Out_add O T) (fun _ e => ob_Out_add e) rfl rfl rfl l_Out_33 ⟨w_1148, w_1149⟩ rfl (Nat.le_of_ble_eq_true rfl) d_Out_addNumber_86 (fun v2 s1 _ => ?_)
        refine xW_pure (fun _ _ _ _ _ => am_lload d_Out_addNumber_89 rfl) ?_
        refine xW_pure (fun _ _ _ _ _ => am_ldc2 (v := 10) w_1154 d_Out_addNumber_91) ?_
        refine xW_pure (fun _ _ _ _ _ => am_ldiv d_Out_addNumber_94 (by decide)) ?_
        refine xW_pure (fun _ _ _ _ _ => am_lstore d_Out_addNumber_95 (Nat.le_of_ble_eq_true rfl)) ?_
        refine xW_pure (fun _ _ _ _ _ => am_iinc (v := 1) d_Out_addNumber_97 rfl (by decide) (Nat.le_of_ble_eq_true rfl)) ?_
        refine xW_pure (fun _ _ _ _ _ => am_goto (tgt := 58) d_Out_addNumber_100 (by decide)) ?_
        refine xW_locs (lv' := [(0, .ref l0), (3, .long (if 0 < l1 then l1 else -l1)), (5, .long (z58.1 / 10)), (7, .int (z58.2.1 + 1))]) rfl ?_
        exact ih58 ((z58.1 / 10), (z58.2.1 + 1), s1)
  · refine xW_pure (fun _ _ _ _ _ => am_lload_n d_Out_addNumber_30 rfl rfl) ?_
    refine xW_pure (fun _ _ _ _ _ => am_lload d_Out_addNumber_31 rfl) ?_
    refine xW_by (fun _ => xW_none) (fun c33 => ?_)
    refine xW_pure (fun _ _ _ _ _ => am_ldiv d_Out_addNumber_33 c33) ?_
    refine xW_pure (fun _ _ _ _ _ => am_ldc2 (v := 10) w_1154 d_Out_addNumber_34) ?_
    refine xW_pure (fun _ _ _ _ _ => am_lcmp d_Out_addNumber_37) ?_
    refine xW_ite (fun _ _ _ _ _ => am_if_lt (tgt := 55) d_Out_addNumber_38 (by decide)) (fun _ => ?_) (fun _ => ?_)
    · refine xW_pure (fun _ _ _ _ _ => am_iconst (v := 0) d_Out_addNumber_55 (by decide)) ?_
      refine xW_pure (fun _ _ _ _ _ => am_istore d_Out_addNumber_56 (Nat.le_of_ble_eq_true rfl)) ?_
      refine xW_locs (lv' := [(0, .ref l0), (3, .long (if 0 < l1 then l1 else -l1)), (5, .long z23.1), (7, .int 0)]) rfl ?_
      refine xW_loop (lvf := fun (z58 : Int64 × Int32 × HS) => [(0, .ref l0), (3, .long (if 0 < l1 then l1 else -l1)), (5, .long z58.1), (7, .int z58.2.1)]) (hsf := fun (z58 : Int64 × Int32 × HS) => z58.2.2) (fun again58 ih58 z58 => ?_) FU (z23.1, 0, z23.2.2)
      refine xW_pure (fun _ _ _ _ _ => am_iload d_Out_addNumber_58 rfl) ?_
      refine xW_pure (fun _ _ _ _ _ => am_bipush (v := 11) d_Out_addNumber_60 (by decide)) ?_
      refine xW_ite (fun _ _ _ _ _ => am_icmp_ge (tgt := 103) d_Out_addNumber_62 (by decide)) (fun _ => ?_) (fun _ => ?_)
      · exact xW_ret (fun _ _ _ _ _ => am_vret rfl d_Out_addNumber_103)
      · refine xW_pure (fun _ _ _ _ _ => am_lload d_Out_addNumber_65 rfl) ?_
        refine xW_pure (fun _ _ _ _ _ => am_lconst (v := 0) d_Out_addNumber_67 (by decide)) ?_
        refine xW_pure (fun _ _ _ _ _ => am_lcmp d_Out_addNumber_68) ?_
        refine xW_ite (fun _ _ _ _ _ => am_if_le (tgt := 103) d_Out_addNumber_69 (by decide)) (fun _ => ?_) (fun _ => ?_)
        · exact xW_ret (fun _ _ _ _ _ => am_vret rfl d_Out_addNumber_103)
        · refine xW_pure (fun _ _ _ _ _ => am_aload_n d_Out_addNumber_72 rfl rfl) ?_
          refine xW_pure (fun _ _ _ _ _ => am_ldc2 (v := 48) w_1155 d_Out_addNumber_73) ?_
          refine xW_pure (fun _ _ _ _ _ => am_lload_n d_Out_addNumber_76 rfl rfl) ?_
          refine xW_pure (fun _ _ _ _ _ => am_lload d_Out_addNumber_77 rfl) ?_
          refine xW_by (fun _ => xW_none) (fun c79 => ?_)
          refine xW_pure (fun _ _ _ _ _ => am_ldiv d_Out_addNumber_79 c79) ?_
          refine xW_pure (fun _ _ _ _ _ => am_ldc2 (v := 10) w_1154 d_Out_addNumber_80) ?_
          refine xW_pure (fun _ _ _ _ _ => am_lrem d_Out_addNumber_83 (by decide)) ?_
          refine xW_pure (fun _ _ _ _ _ => am_ladd d_Out_addNumber_84) ?_
          refine xW_pure (fun _ _ _ _ _ => am_l2i d_Out_addNumber_85 rfl) ?_
          refine xW_callV O (dx_Out_add O T) (fun _ e => ob_Out_add e) rfl rfl rfl l_Out_33 ⟨w_1148, w_1149⟩ rfl (Nat.le_of_ble_eq_true rfl) d_Out_addNumber_86 (fun v4 s3 _ => ?_)
          refine xW_pure (fun _ _ _ _ _ => am_lload d_Out_addNumber_89 rfl) ?_
          refine xW_pure (fun _ _ _ _ _ => am_ldc2 (v := 10) w_1154 d_Out_addNumber_91) ?_
          refine xW_pure (fun _ _ _ _ _ => am_ldiv d_Out_addNumber_94 (by decide)) ?_
          refine xW_pure (fun _ _ _ _ _ => am_lstore d_Out_addNumber_95 (Nat.le_of_ble_eq_true rfl)) ?_
          refine xW_pure (fun _ _ _ _ _ => am_iinc (v := 1) d_Out_addNumber_97 rfl (by decide) (Nat.le_of_ble_eq_true rfl)) ?_
          refine xW_pure (fun _ _ _ _ _ => am_goto (tgt := 58) d_Out_addNumber_100 (by decide)) ?_
          refine xW_locs (lv' := [(0, .ref l0), (3, .long (if 0 < l1 then l1 else -l1)), (5, .long (z58.1 / 10)), (7, .int (z58.2.1 + 1))]) rfl ?_
          exact ih58 ((z58.1 / 10), (z58.2.1 + 1), s3)
    · refine xW_pure (fun _ _ _ _ _ => am_lload d_Out_addNumber_41 rfl) ?_
      refine xW_pure (fun _ _ _ _ _ => am_ldc2 (v := 10) w_1154 d_Out_addNumber_43) ?_
      refine xW_pure (fun _ _ _ _ _ => am_lmul d_Out_addNumber_46) ?_
      refine xW_pure (fun _ _ _ _ _ => am_lstore d_Out_addNumber_47 (Nat.le_of_ble_eq_true rfl)) ?_
      refine xW_pure (fun _ _ _ _ _ => am_iinc (v := 1) d_Out_addNumber_49 rfl (by decide) (Nat.le_of_ble_eq_true rfl)) ?_
      refine xW_pure (fun _ _ _ _ _ => am_goto (tgt := 23) d_Out_addNumber_52 (by decide)) ?_
      refine xW_locs (lv' := [(0, .ref l0), (3, .long (if 0 < l1 then l1 else -l1)), (5, .long (z23.1 * 10)), (7, .int (z23.2.1 + 1))]) rfl ?_
      exact ih23 ((z23.1 * 10), (z23.2.1 + 1), z23.2.2)

set_option maxRecDepth 100000 in
def x_Out_addNumber (d : Nat) (x0 : Nat) (x1 : Int64) (s : HS) : Option (Unit × HS) := match d with
  | 0 => none
  | d + 1 => gd s x0 0 (if 0 ≤ (lg_cmp x1 0) then (x_Out_addNumber_b12 d x0 x1 s) else (bnd (x_Out_add d x0 45 s) fun v6 s5 => (x_Out_addNumber_b12 d x0 x1 s5)))

set_option maxRecDepth 100000 in
set_option maxHeartbeats 4000000 in
theorem dx_Out_addNumber (O : am_ok K X) (T : am_T K) {d : Nat} {x0 : Nat} {x1 : Int64} {s : HS} : xM cvU K X m_Out_addNumber d [.ref x0, .long x1] s (x_Out_addNumber d x0 x1 s) := by
  cases d with
  | zero => exact xM_none
  | succ d =>
    unfold x_Out_addNumber
    refine xM_enter (by decide +kernel) (Nat.le_of_ble_eq_true rfl) ?_
    refine xW_gd (fun _ => ?_)
    refine xW_pure (fun _ _ _ _ _ => am_lload_n d_Out_addNumber_0 rfl rfl) ?_
    refine xW_pure (fun _ _ _ _ _ => am_lconst (v := 0) d_Out_addNumber_1 (by decide)) ?_
    refine xW_pure (fun _ _ _ _ _ => am_lcmp d_Out_addNumber_2) ?_
    refine xW_ite (fun _ _ _ _ _ => am_if_ge (tgt := 12) d_Out_addNumber_3 (by decide)) (fun _ => ?_) (fun _ => ?_)
    · refine xW_locs (lv' := [(0, .ref x0), (1, .long x1)]) rfl ?_
      exact dx_Out_addNumber_b12 O T
    · refine xW_pure (fun _ _ _ _ _ => am_aload_n d_Out_addNumber_6 rfl rfl) ?_
      refine xW_pure (fun _ _ _ _ _ => am_bipush (v := 45) d_Out_addNumber_7 (by decide)) ?_
      refine xW_callV O (dx_Out_add O T) (fun _ e => ob_Out_add e) rfl rfl rfl l_Out_33 ⟨w_1148, w_1149⟩ rfl (Nat.le_of_ble_eq_true rfl) d_Out_addNumber_9 (fun v6 s5 _ => ?_)
      refine xW_locs (lv' := [(0, .ref x0), (1, .long x1)]) rfl ?_
      exact dx_Out_addNumber_b12 O T

theorem ob_Out_addNumber {d : Nat} {x0 : Nat} {x1 : Int64} {s : HS} {y : Unit × HS} (h : x_Out_addNumber d x0 x1 s = some y) : isO s x0 0 = true := by
  cases d with
  | zero => cases h
  | succ d => exact (gd_spec h).1

set_option maxRecDepth 100000 in
def x_Arr_fill_aII (d : Nat) (x1 : Nat) (x2 : Int32) (s : HS) : Option (Unit × HS) := (lenA s x1).bind fun v1 => (loopK (fun (again5 : Int32 × HS → Option (Unit × HS)) (z5 : Int32 × HS) => (if v1 ≤ z5.1 then (some ((), z5.2)) else ((sV z5.2 .int x1 z5.1 (.int x2)).bind fun s2 => (again5 ((z5.1 + 1), s2))))) FU (0, s))

set_option maxRecDepth 100000 in
set_option maxHeartbeats 4000000 in
theorem dx_Arr_fill_aII (O : am_ok K X) (T : am_T K) {d : Nat} {x1 : Nat} {x2 : Int32} {s : HS} : xM cvU K X m_Arr_fill_aII d [.ref x1, .int x2] s (x_Arr_fill_aII d x1 x2 s) := by
  unfold x_Arr_fill_aII
  refine xM_enter (by decide +kernel) (Nat.le_of_ble_eq_true rfl) ?_
  refine xW_pure (fun _ _ _ _ _ => am_iconst (v := 0) d_Arr_fill_aII_0 (by decide)) ?_
  refine xW_pure (fun _ _ _ _ _ => am_istore_n d_Arr_fill_aII_1 rfl (Nat.le_of_ble_eq_true rfl)) ?_
  refine xW_pure (fun _ _ _ _ _ => am_aload_n d_Arr_fill_aII_2 rfl rfl) ?_
  refine xW_len O d_Arr_fill_aII_3 (fun v1 _ => ?_)
  refine xW_pure (fun _ _ _ _ _ => am_istore_n d_Arr_fill_aII_4 rfl (Nat.le_of_ble_eq_true rfl)) ?_
  refine xW_locs (lv' := [(0, .ref x1), (1, .int x2), (2, .int 0), (3, .int v1)]) rfl ?_
  refine xW_loop (lvf := fun (z5 : Int32 × HS) => [(0, .ref x1), (1, .int x2), (2, .int z5.1), (3, .int v1)]) (hsf := fun (z5 : Int32 × HS) => z5.2) (fun again5 ih5 z5 => ?_) FU (0, s)
  refine xW_pure (fun _ _ _ _ _ => am_iload_n d_Arr_fill_aII_5 rfl rfl) ?_
  refine xW_pure (fun _ _ _ _ _ => am_iload_n d_Arr_fill_aII_6 rfl rfl) ?_
  refine xW_ite (fun _ _ _ _ _ => am_icmp_ge (tgt := 20) d_Arr_fill_aII_7 (by decide)) (fun _ => ?_) (fun _ => ?_)
  · exact xW_ret (fun _ _ _ _ _ => am_vret rfl d_Arr_fill_aII_20)
  · refine xW_pure (fun _ _ _ _ _ => am_aload_n d_Arr_fill_aII_10 rfl rfl) ?_
    refine xW_pure (fun _ _ _ _ _ => am_iload_n d_Arr_fill_aII_11 rfl rfl) ?_
    refine xW_pure (fun _ _ _ _ _ => am_iload_n d_Arr_fill_aII_12 rfl rfl) ?_
    refine xW_sI O d_Arr_fill_aII_13 (fun s2 _ => ?_)
    refine xW_pure (fun _ _ _ _ _ => am_iinc (v := 1) d_Arr_fill_aII_14 rfl (by decide) (Nat.le_of_ble_eq_true rfl)) ?_
    refine xW_pure (fun _ _ _ _ _ => am_goto (tgt := 5) d_Arr_fill_aII_17 (by decide)) ?_
    refine xW_locs (lv' := [(0, .ref x1), (1, .int x2), (2, .int (z5.1 + 1)), (3, .int v1)]) rfl ?_
    exact ih5 ((z5.1 + 1), s2)

set_option maxRecDepth 100000 in
def x_Arr_fill_aZZ (d : Nat) (x1 : Nat) (x2 : Int32) (s : HS) : Option (Unit × HS) := (lenA s x1).bind fun v1 => (loopK (fun (again5 : Int32 × HS → Option (Unit × HS)) (z5 : Int32 × HS) => (if v1 ≤ z5.1 then (some ((), z5.2)) else ((sV z5.2 .boolean x1 z5.1 (narrow .boolean (.int x2))).bind fun s2 => (again5 ((z5.1 + 1), s2))))) FU (0, s))

set_option maxRecDepth 100000 in
set_option maxHeartbeats 4000000 in
theorem dx_Arr_fill_aZZ (O : am_ok K X) (T : am_T K) {d : Nat} {x1 : Nat} {x2 : Int32} {s : HS} : xM cvU K X m_Arr_fill_aZZ d [.ref x1, .int x2] s (x_Arr_fill_aZZ d x1 x2 s) := by
  unfold x_Arr_fill_aZZ
  refine xM_enter (by decide +kernel) (Nat.le_of_ble_eq_true rfl) ?_
  refine xW_pure (fun _ _ _ _ _ => am_iconst (v := 0) d_Arr_fill_aZZ_0 (by decide)) ?_
  refine xW_pure (fun _ _ _ _ _ => am_istore_n d_Arr_fill_aZZ_1 rfl (Nat.le_of_ble_eq_true rfl)) ?_
  refine xW_pure (fun _ _ _ _ _ => am_aload_n d_Arr_fill_aZZ_2 rfl rfl) ?_
  refine xW_len O d_Arr_fill_aZZ_3 (fun v1 _ => ?_)
  refine xW_pure (fun _ _ _ _ _ => am_istore_n d_Arr_fill_aZZ_4 rfl (Nat.le_of_ble_eq_true rfl)) ?_
  refine xW_locs (lv' := [(0, .ref x1), (1, .int x2), (2, .int 0), (3, .int v1)]) rfl ?_
  refine xW_loop (lvf := fun (z5 : Int32 × HS) => [(0, .ref x1), (1, .int x2), (2, .int z5.1), (3, .int v1)]) (hsf := fun (z5 : Int32 × HS) => z5.2) (fun again5 ih5 z5 => ?_) FU (0, s)
  refine xW_pure (fun _ _ _ _ _ => am_iload_n d_Arr_fill_aZZ_5 rfl rfl) ?_
  refine xW_pure (fun _ _ _ _ _ => am_iload_n d_Arr_fill_aZZ_6 rfl rfl) ?_
  refine xW_ite (fun _ _ _ _ _ => am_icmp_ge (tgt := 20) d_Arr_fill_aZZ_7 (by decide)) (fun _ => ?_) (fun _ => ?_)
  · exact xW_ret (fun _ _ _ _ _ => am_vret rfl d_Arr_fill_aZZ_20)
  · refine xW_pure (fun _ _ _ _ _ => am_aload_n d_Arr_fill_aZZ_10 rfl rfl) ?_
    refine xW_pure (fun _ _ _ _ _ => am_iload_n d_Arr_fill_aZZ_11 rfl rfl) ?_
    refine xW_pure (fun _ _ _ _ _ => am_iload_n d_Arr_fill_aZZ_12 rfl rfl) ?_
    refine xW_sZ O d_Arr_fill_aZZ_13 (fun s2 _ => ?_)
    refine xW_pure (fun _ _ _ _ _ => am_iinc (v := 1) d_Arr_fill_aZZ_14 rfl (by decide) (Nat.le_of_ble_eq_true rfl)) ?_
    refine xW_pure (fun _ _ _ _ _ => am_goto (tgt := 5) d_Arr_fill_aZZ_17 (by decide)) ?_
    refine xW_locs (lv' := [(0, .ref x1), (1, .int x2), (2, .int (z5.1 + 1)), (3, .int v1)]) rfl ?_
    exact ih5 ((z5.1 + 1), s2)
end
