theorem lt_clamp {x : Int32} {L : Nat} (h0 : ¬ x < 0) (h : ¬ nI L ≤ x) (hL : L < 2 ^ 31) : x.toNatClampNeg < L := by
  have a : 0 ≤ x.toInt := by simpa using Int32.le_iff_toInt_le.mp (Int32.not_lt.mp h0)
  have c : x.toInt < (nI L).toInt := Int32.lt_iff_toInt_lt.mp (Int32.not_le.mp h)
  rw [nI_toInt hL] at c
  show x.toInt.toNat < L
  omega
section
variable {K : am_K} {X : Nat → am_C}

def s_byteAt (g : Nat → Int32) (L : Nat) (x : Int32) : Int32 := if x < 0 then -1 else if nI L ≤ x then -1 else (g x.toNatClampNeg &&& 255)

set_option maxRecDepth 100000 in
set_option maxHeartbeats 1000000 in
theorem g_Lexer_byteAt (O : am_ok K X) {n r a L N : Nat} {fs : List Value} {g : Nat → Int32} {f : Nat → am_C} (V : f r = .inr (1, fs)) (vL : fs[2]? = some (.int (nI L))) (va : fs[1]? = some (.ref a)) (U : f a = .inl (.byte, N, fun j => .int (g j))) (hL : L ≤ N) (hN : N < 2 ^ 31) (h1 : 128 ≤ r) (h2 : r < n) (u1 : 128 ≤ a) (u2 : a < n) {x : Int32} : am_Mt K X m_Lexer_byteAt 0 0 0 [.ref r, .int x] (n, f) (fun v h' => v = some (.int (s_byteAt g L x)) ∧ h' = (n, f)) := by
  refine am_enter (by decide +kernel) (Nat.le_of_ble_eq_true rfl) ?_
  refine am_iload_n d_Lexer_byteAt_0 rfl rfl ?_
  refine am_if_lt (tgt := 25) d_Lexer_byteAt_1 (by decide) (fun c => ?_) (fun c => ?_)
  · refine am_iconst (v := (-1)) d_Lexer_byteAt_25 (by decide) ?_
    exact am_iret rfl d_Lexer_byteAt_26 ⟨by rw [s_byteAt, if_pos c], rfl⟩
  · refine am_iload_n d_Lexer_byteAt_4 rfl rfl ?_
    refine am_aload_n d_Lexer_byteAt_5 rfl rfl ?_
    refine am_get O f_Lexer_43 d_Lexer_byteAt_6 V h1 h2 vL ?_
    refine am_icmp_ge (tgt := 25) d_Lexer_byteAt_9 (by decide) (fun e => ?_) (fun e => ?_)
    · refine am_iconst (v := (-1)) d_Lexer_byteAt_25 (by decide) ?_
      exact am_iret rfl d_Lexer_byteAt_26 ⟨by rw [s_byteAt, if_neg c, if_pos e], rfl⟩
    · refine am_aload_n d_Lexer_byteAt_12 rfl rfl ?_
      refine am_get O f_Lexer_15 d_Lexer_byteAt_13 V h1 h2 va ?_
      refine am_iload_n d_Lexer_byteAt_16 rfl rfl ?_
      refine am_bald O (by decide) d_Lexer_byteAt_17 U u1 u2 (am_in c (Nat.lt_of_lt_of_le (lt_clamp c e (by omega)) hL)) rfl ?_
      refine am_sipush (v := 255) d_Lexer_byteAt_18 (by decide) ?_
      refine am_iand d_Lexer_byteAt_21 ?_
      refine am_goto (tgt := 26) d_Lexer_byteAt_22 (by decide) ?_
      exact am_iret rfl d_Lexer_byteAt_26 ⟨by rw [s_byteAt, if_neg c, if_neg e], rfl⟩

def s_Unit_op (g : Nat → Int32) (N : Nat) (x : Int32) : Int32 := if 2 * x < 0 then 6 else if nI N ≤ 2 * x then 6 else g (2 * x).toNatClampNeg

set_option maxRecDepth 100000 in
set_option maxHeartbeats 1000000 in
theorem g_Unit_op (O : am_ok K X) {n r a N : Nat} {fs : List Value} {f : Nat → am_C} (V : f r = .inr (4, fs)) (hN : N < 2 ^ 31) (h1 : 128 ≤ r) (h2 : r < n) (u1 : 128 ≤ a) (u2 : a < n) {x : Int32} {g : Nat → Int32} (va : fs[4]? = some (.ref a)) (U : f a = .inl (.int, N, fun j => .int (g j))) : am_Mt K X m_Unit_op 0 0 0 [.ref r, .int x] (n, f) (fun v h' => v = some (.int (s_Unit_op g N x)) ∧ h' = (n, f)) := by
  refine am_enter (by decide +kernel) (Nat.le_of_ble_eq_true rfl) ?_
  refine am_iconst (v := 2) d_Unit_op_0 (by decide) ?_
  refine am_iload_n d_Unit_op_1 rfl rfl ?_
  refine am_imul d_Unit_op_2 ?_
  refine am_istore_n d_Unit_op_3 rfl (Nat.le_of_ble_eq_true rfl) ?_
  refine am_iload_n d_Unit_op_4 rfl rfl ?_
  refine am_if_lt (tgt := 26) d_Unit_op_5 (by decide) (fun c => ?_) (fun c => ?_)
  · refine am_bipush (v := 6) d_Unit_op_26 (by decide) ?_
    exact am_iret rfl d_Unit_op_28 ⟨by rw [s_Unit_op, if_pos c], rfl⟩
  · refine am_iload_n d_Unit_op_8 rfl rfl ?_
    refine am_aload_n d_Unit_op_9 rfl rfl ?_
    refine am_get O f_Unit_23 d_Unit_op_10 V h1 h2 va ?_
    refine am_alen O d_Unit_op_13 U u1 u2 (by decide) rfl ?_
    refine am_icmp_ge (tgt := 26) d_Unit_op_14 (by decide) (fun e => ?_) (fun e => ?_)
    · refine am_bipush (v := 6) d_Unit_op_26 (by decide) ?_
      exact am_iret rfl d_Unit_op_28 ⟨by rw [s_Unit_op, if_neg c, if_pos (show nI N ≤ 2 * x from e)], rfl⟩
    · refine am_aload_n d_Unit_op_17 rfl rfl ?_
      refine am_get O f_Unit_23 d_Unit_op_18 V h1 h2 va ?_
      refine am_iload_n d_Unit_op_21 rfl rfl ?_
      refine am_iald O (by decide) d_Unit_op_22 U u1 u2 (am_in c (lt_clamp c e hN)) rfl ?_
      refine am_goto (tgt := 28) d_Unit_op_23 (by decide) ?_
      exact am_iret rfl d_Unit_op_28 ⟨by rw [s_Unit_op, if_neg c, if_neg (show ¬ nI N ≤ 2 * x from e)], rfl⟩

def s_Unit_constant (g : Nat → Int64) (N : Nat) (x : Int32) : Int64 := if x < 0 then 0 else if nI N ≤ x then 0 else g x.toNatClampNeg

set_option maxRecDepth 100000 in
set_option maxHeartbeats 1000000 in
theorem g_Unit_constant (O : am_ok K X) {n r a N : Nat} {fs : List Value} {f : Nat → am_C} (V : f r = .inr (4, fs)) (hN : N < 2 ^ 31) (h1 : 128 ≤ r) (h2 : r < n) (u1 : 128 ≤ a) (u2 : a < n) {x : Int32} {g : Nat → Int64} (va : fs[5]? = some (.ref a)) (U : f a = .inl (.long, N, fun j => .long (g j))) : am_Mt K X m_Unit_constant 0 0 0 [.ref r, .int x] (n, f) (fun v h' => v = some (.long (s_Unit_constant g N x)) ∧ h' = (n, f)) := by
  refine am_enter (by decide +kernel) (Nat.le_of_ble_eq_true rfl) ?_
  refine am_iload_n d_Unit_constant_0 rfl rfl ?_
  refine am_if_lt (tgt := 22) d_Unit_constant_1 (by decide) (fun c => ?_) (fun c => ?_)
  · refine am_lconst (v := 0) d_Unit_constant_22 (by decide) ?_
    exact am_lret rfl d_Unit_constant_23 ⟨by rw [s_Unit_constant, if_pos c], rfl⟩
  · refine am_iload_n d_Unit_constant_4 rfl rfl ?_
    refine am_aload_n d_Unit_constant_5 rfl rfl ?_
    refine am_get O f_Unit_27 d_Unit_constant_6 V h1 h2 va ?_
    refine am_alen O d_Unit_constant_9 U u1 u2 (by decide) rfl ?_
    refine am_icmp_ge (tgt := 22) d_Unit_constant_10 (by decide) (fun e => ?_) (fun e => ?_)
    · refine am_lconst (v := 0) d_Unit_constant_22 (by decide) ?_
      exact am_lret rfl d_Unit_constant_23 ⟨by rw [s_Unit_constant, if_neg c, if_pos (show nI N ≤ x from e)], rfl⟩
    · refine am_aload_n d_Unit_constant_13 rfl rfl ?_
      refine am_get O f_Unit_27 d_Unit_constant_14 V h1 h2 va ?_
      refine am_iload_n d_Unit_constant_17 rfl rfl ?_
      refine am_lald O (by decide) d_Unit_constant_18 U u1 u2 (am_in c (lt_clamp c e hN)) rfl ?_
      refine am_goto (tgt := 23) d_Unit_constant_19 (by decide) ?_
      exact am_lret rfl d_Unit_constant_23 ⟨by rw [s_Unit_constant, if_neg c, if_neg (show ¬ nI N ≤ x from e)], rfl⟩

def s_Unit_argument (g : Nat → Int32) (N : Nat) (x : Int32) : Int32 := if 2 * x + 1 < 1 then 0 else if nI N ≤ 2 * x + 1 then 0 else g (2 * x + 1).toNatClampNeg

set_option maxRecDepth 100000 in
set_option maxHeartbeats 1000000 in
theorem g_Unit_argument (O : am_ok K X) {n r a N : Nat} {fs : List Value} {f : Nat → am_C} (V : f r = .inr (4, fs)) (hN : N < 2 ^ 31) (h1 : 128 ≤ r) (h2 : r < n) (u1 : 128 ≤ a) (u2 : a < n) {x : Int32} {g : Nat → Int32} (va : fs[4]? = some (.ref a)) (U : f a = .inl (.int, N, fun j => .int (g j))) : am_Mt K X m_Unit_argument 0 0 0 [.ref r, .int x] (n, f) (fun v h' => v = some (.int (s_Unit_argument g N x)) ∧ h' = (n, f)) := by
  refine am_enter (by decide +kernel) (Nat.le_of_ble_eq_true rfl) ?_
  refine am_iconst (v := 2) d_Unit_argument_0 (by decide) ?_
  refine am_iload_n d_Unit_argument_1 rfl rfl ?_
  refine am_imul d_Unit_argument_2 ?_
  refine am_iconst (v := 1) d_Unit_argument_3 (by decide) ?_
  refine am_iadd d_Unit_argument_4 ?_
  refine am_istore_n d_Unit_argument_5 rfl (Nat.le_of_ble_eq_true rfl) ?_
  refine am_iload_n d_Unit_argument_6 rfl rfl ?_
  refine am_iconst (v := 1) d_Unit_argument_7 (by decide) ?_
  refine am_icmp_lt (tgt := 29) d_Unit_argument_8 (by decide) (fun c => ?_) (fun c => ?_)
  · refine am_iconst (v := 0) d_Unit_argument_29 (by decide) ?_
    exact am_iret rfl d_Unit_argument_30 ⟨by rw [s_Unit_argument, if_pos c], rfl⟩
  · refine am_iload_n d_Unit_argument_11 rfl rfl ?_
    refine am_aload_n d_Unit_argument_12 rfl rfl ?_
    refine am_get O f_Unit_23 d_Unit_argument_13 V h1 h2 va ?_
    refine am_alen O d_Unit_argument_16 U u1 u2 (by decide) rfl ?_
    refine am_icmp_ge (tgt := 29) d_Unit_argument_17 (by decide) (fun e => ?_) (fun e => ?_)
    · refine am_iconst (v := 0) d_Unit_argument_29 (by decide) ?_
      exact am_iret rfl d_Unit_argument_30 ⟨by rw [s_Unit_argument, if_neg c, if_pos (show nI N ≤ 2 * x + 1 from e)], rfl⟩
    · have c0 : ¬ 2 * x + 1 < 0 := fun q => c (Int32.lt_trans q (by decide))
      refine am_aload_n d_Unit_argument_20 rfl rfl ?_
      refine am_get O f_Unit_23 d_Unit_argument_21 V h1 h2 va ?_
      refine am_iload_n d_Unit_argument_24 rfl rfl ?_
      refine am_iald O (by decide) d_Unit_argument_25 U u1 u2 (am_in c0 (lt_clamp c0 e hN)) rfl ?_
      refine am_goto (tgt := 30) d_Unit_argument_26 (by decide) ?_
      exact am_iret rfl d_Unit_argument_30 ⟨by rw [s_Unit_argument, if_neg c, if_neg (show ¬ nI N ≤ 2 * x + 1 from e)], rfl⟩

end
