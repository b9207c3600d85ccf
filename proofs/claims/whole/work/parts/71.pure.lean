theorem lk_ne {x k : Int32} {z : Int} (h : ¬ x = k) (hz : k.toInt = z) : ¬ z = x.toInt := fun e => h (Int32.toInt_inj.mp (e.symm.trans hz.symm))

def s_Cell_headOf (x0 : Int32) : Int64 := (((x0 : Int32).toInt64 : Int64) <<< ((56 : Int32).toInt64 &&& 63))
set_option maxRecDepth 100000 in
theorem g_Cell_headOf {K : am_K} {X : Nat → am_C} {x0 : Int32} {h : am_H} : am_Mt K X m_Cell_headOf 0 0 0 [.int x0] h (fun v h' => v = some (.long (s_Cell_headOf x0)) ∧ h' = h) := by
  refine am_enter (by decide +kernel) (Nat.le_of_ble_eq_true rfl) ?_
  refine am_iload_n d_Cell_headOf_0 rfl rfl ?_
  refine am_i2l d_Cell_headOf_1 rfl ?_
  refine am_bipush (v := 56) d_Cell_headOf_2 (by decide) ?_
  refine am_lshl d_Cell_headOf_4 rfl ?_
  exact am_lret rfl d_Cell_headOf_5 ⟨by rw [show s_Cell_headOf x0 = (((x0 : Int32).toInt64 : Int64) <<< ((56 : Int32).toInt64 &&& 63)) from rfl], rfl⟩

def s_Cell_sortOf (x0 : Int64) : Int32 := (((x0 : Int64).toUInt64 >>> ((56 : Int32).toInt64.toUInt64 &&& Int64.toUInt64 63)).toInt64 : Int64).toInt32
set_option maxRecDepth 100000 in
theorem g_Cell_sortOf {K : am_K} {X : Nat → am_C} {x0 : Int64} {h : am_H} : am_Mt K X m_Cell_sortOf 0 0 0 [.long x0] h (fun v h' => v = some (.int (s_Cell_sortOf x0)) ∧ h' = h) := by
  refine am_enter (by decide +kernel) (Nat.le_of_ble_eq_true rfl) ?_
  refine am_lload_n d_Cell_sortOf_0 rfl rfl ?_
  refine am_bipush (v := 56) d_Cell_sortOf_1 (by decide) ?_
  refine am_lushr d_Cell_sortOf_3 rfl ?_
  refine am_l2i d_Cell_sortOf_4 rfl ?_
  exact am_iret rfl d_Cell_sortOf_5 ⟨by rw [show s_Cell_sortOf x0 = (((x0 : Int64).toUInt64 >>> ((56 : Int32).toInt64.toUInt64 &&& Int64.toUInt64 63)).toInt64 : Int64).toInt32 from rfl], rfl⟩

def s_Cell_isObject (x0 : Int64) : Int32 := if (s_Cell_sortOf x0) = 3 then (1) else (if (s_Cell_sortOf x0) = 4 then (1) else (0))
set_option maxRecDepth 100000 in
theorem g_Cell_isObject {K : am_K} {X : Nat → am_C} (O : am_ok K X) {x0 : Int64} {h : am_H} : am_Mt K X m_Cell_isObject 1 0 0 [.long x0] h (fun v h' => v = some (.int (s_Cell_isObject x0)) ∧ h' = h) := by
  refine am_enter (by decide +kernel) (Nat.le_of_ble_eq_true rfl) ?_
  refine am_lload_n d_Cell_isObject_0 rfl rfl ?_
  refine am_callS O (g_Cell_sortOf ) rfl l_Cell_9 w_1104 rfl (Nat.le_of_ble_eq_true rfl) d_Cell_isObject_1 (by omega) (by omega) (by omega) (fun v h' hp => ?_)
  obtain ⟨rfl, rfl⟩ := hp
  refine am_istore_n d_Cell_isObject_4 rfl (Nat.le_of_ble_eq_true rfl) ?_
  refine am_iload_n d_Cell_isObject_5 rfl rfl ?_
  refine am_iconst (v := 3) d_Cell_isObject_6 (by decide) ?_
  refine am_icmp_eq (tgt := 15) d_Cell_isObject_7 (by decide) (fun c0 => ?_) (fun c0 => ?_)
  · refine am_iconst (v := 1) d_Cell_isObject_15 (by decide) ?_
    refine am_goto (tgt := 20) d_Cell_isObject_16 (by decide) ?_
    exact am_zret (ty := .boolean) rfl rfl d_Cell_isObject_20 ⟨by rw [show s_Cell_isObject x0 = 1 from (by unfold s_Cell_isObject; rw [if_pos c0])], rfl⟩
  · refine am_iload_n d_Cell_isObject_10 rfl rfl ?_
    refine am_iconst (v := 4) d_Cell_isObject_11 (by decide) ?_
    refine am_icmp_ne (tgt := 19) d_Cell_isObject_12 (by decide) (fun c1 => ?_) (fun c1 => ?_)
    · refine am_iconst (v := 0) d_Cell_isObject_19 (by decide) ?_
      exact am_zret (ty := .boolean) rfl rfl d_Cell_isObject_20 ⟨by rw [show s_Cell_isObject x0 = 0 from (by unfold s_Cell_isObject; rw [if_neg c0, if_neg c1])], rfl⟩
    · refine am_iconst (v := 1) d_Cell_isObject_15 (by decide) ?_
      refine am_goto (tgt := 20) d_Cell_isObject_16 (by decide) ?_
      exact am_zret (ty := .boolean) rfl rfl d_Cell_isObject_20 ⟨by rw [show s_Cell_isObject x0 = 1 from (by unfold s_Cell_isObject; rw [if_neg c0, if_pos c1])], rfl⟩

def s_Cell_isTrue (x0 : Int64) (x1 : Int64) : Int32 := if (s_Cell_sortOf x0) = 0 then (0) else (if (s_Cell_sortOf x0) = 1 then (if (lg_cmp x1 0) = 0 then (0) else (1)) else (1))
set_option maxRecDepth 100000 in
theorem g_Cell_isTrue {K : am_K} {X : Nat → am_C} (O : am_ok K X) {x0 : Int64} {x1 : Int64} {h : am_H} : am_Mt K X m_Cell_isTrue 1 0 0 [.long x0, .long x1] h (fun v h' => v = some (.int (s_Cell_isTrue x0 x1)) ∧ h' = h) := by
  refine am_enter (by decide +kernel) (Nat.le_of_ble_eq_true rfl) ?_
  refine am_lload_n d_Cell_isTrue_0 rfl rfl ?_
  refine am_callS O (g_Cell_sortOf ) rfl l_Cell_9 w_1104 rfl (Nat.le_of_ble_eq_true rfl) d_Cell_isTrue_1 (by omega) (by omega) (by omega) (fun v h' hp => ?_)
  obtain ⟨rfl, rfl⟩ := hp
  refine am_istore d_Cell_isTrue_4 (Nat.le_of_ble_eq_true rfl) ?_
  refine am_iload d_Cell_isTrue_6 rfl ?_
  refine am_if_eq (tgt := 27) d_Cell_isTrue_8 (by decide) (fun c0 => ?_) (fun c0 => ?_)
  · refine am_iconst (v := 0) d_Cell_isTrue_27 (by decide) ?_
    exact am_zret (ty := .boolean) rfl rfl d_Cell_isTrue_28 ⟨by rw [show s_Cell_isTrue x0 x1 = 0 from (by unfold s_Cell_isTrue; rw [if_pos c0])], rfl⟩
  · refine am_iload d_Cell_isTrue_11 rfl ?_
    refine am_iconst (v := 1) d_Cell_isTrue_13 (by decide) ?_
    refine am_icmp_ne (tgt := 23) d_Cell_isTrue_14 (by decide) (fun c1 => ?_) (fun c1 => ?_)
    · refine am_iconst (v := 1) d_Cell_isTrue_23 (by decide) ?_
      refine am_goto (tgt := 28) d_Cell_isTrue_24 (by decide) ?_
      exact am_zret (ty := .boolean) rfl rfl d_Cell_isTrue_28 ⟨by rw [show s_Cell_isTrue x0 x1 = 1 from (by unfold s_Cell_isTrue; rw [if_neg c0, if_neg c1])], rfl⟩
    · refine am_lload_n d_Cell_isTrue_17 rfl rfl ?_
      refine am_lconst (v := 0) d_Cell_isTrue_18 (by decide) ?_
      refine am_lcmp d_Cell_isTrue_19 ?_
      refine am_if_eq (tgt := 27) d_Cell_isTrue_20 (by decide) (fun c2 => ?_) (fun c2 => ?_)
      · refine am_iconst (v := 0) d_Cell_isTrue_27 (by decide) ?_
        exact am_zret (ty := .boolean) rfl rfl d_Cell_isTrue_28 ⟨by rw [show s_Cell_isTrue x0 x1 = 0 from (by unfold s_Cell_isTrue; rw [if_neg c0, if_pos c1, if_pos c2])], rfl⟩
      · refine am_iconst (v := 1) d_Cell_isTrue_23 (by decide) ?_
        refine am_goto (tgt := 28) d_Cell_isTrue_24 (by decide) ?_
        exact am_zret (ty := .boolean) rfl rfl d_Cell_isTrue_28 ⟨by rw [show s_Cell_isTrue x0 x1 = 1 from (by unfold s_Cell_isTrue; rw [if_neg c0, if_pos c1, if_neg c2])], rfl⟩

def s_Cell_placed (x0 : Int32) (x1 : Int32) : Int64 := (((x0 : Int32).toInt64 : Int64) <<< (((7 * (7 - (x1 &&& 7))) : Int32).toInt64 &&& 63))
set_option maxRecDepth 100000 in
theorem g_Cell_placed {K : am_K} {X : Nat → am_C} {x0 : Int32} {x1 : Int32} {h : am_H} : am_Mt K X m_Cell_placed 0 0 0 [.int x0, .int x1] h (fun v h' => v = some (.long (s_Cell_placed x0 x1)) ∧ h' = h) := by
  refine am_enter (by decide +kernel) (Nat.le_of_ble_eq_true rfl) ?_
  refine am_iload_n d_Cell_placed_0 rfl rfl ?_
  refine am_i2l d_Cell_placed_1 rfl ?_
  refine am_bipush (v := 7) d_Cell_placed_2 (by decide) ?_
  refine am_bipush (v := 7) d_Cell_placed_4 (by decide) ?_
  refine am_iload_n d_Cell_placed_6 rfl rfl ?_
  refine am_bipush (v := 7) d_Cell_placed_7 (by decide) ?_
  refine am_iand d_Cell_placed_9 ?_
  refine am_isub d_Cell_placed_10 ?_
  refine am_imul d_Cell_placed_11 ?_
  refine am_lshl d_Cell_placed_12 rfl ?_
  exact am_lret rfl d_Cell_placed_13 ⟨by rw [show s_Cell_placed x0 x1 = (((x0 : Int32).toInt64 : Int64) <<< (((7 * (7 - (x1 &&& 7))) : Int32).toInt64 &&& 63)) from rfl], rfl⟩

def s_Cell_signAt (x0 : Int64) (x1 : Int64) (x2 : Int32) : Int32 := if 8 ≤ x2 then (((((x1 : Int64).toUInt64 >>> (((7 * (7 - (x2 &&& 7))) : Int32).toInt64.toUInt64 &&& Int64.toUInt64 63)).toInt64 : Int64).toInt32 &&& 127)) else (((((x0 : Int64).toUInt64 >>> (((7 * (7 - (x2 &&& 7))) : Int32).toInt64.toUInt64 &&& Int64.toUInt64 63)).toInt64 : Int64).toInt32 &&& 127))
set_option maxRecDepth 100000 in
theorem g_Cell_signAt {K : am_K} {X : Nat → am_C} {x0 : Int64} {x1 : Int64} {x2 : Int32} {h : am_H} : am_Mt K X m_Cell_signAt 0 0 0 [.long x0, .long x1, .int x2] h (fun v h' => v = some (.int (s_Cell_signAt x0 x1 x2)) ∧ h' = h) := by
  refine am_enter (by decide +kernel) (Nat.le_of_ble_eq_true rfl) ?_
  refine am_iload d_Cell_signAt_0 rfl ?_
  refine am_bipush (v := 8) d_Cell_signAt_2 (by decide) ?_
  refine am_icmp_ge (tgt := 11) d_Cell_signAt_4 (by decide) (fun c0 => ?_) (fun c0 => ?_)
  · refine am_lload_n d_Cell_signAt_11 rfl rfl ?_
    refine am_lstore d_Cell_signAt_12 (Nat.le_of_ble_eq_true rfl) ?_
    refine am_lload d_Cell_signAt_14 rfl ?_
    refine am_bipush (v := 7) d_Cell_signAt_16 (by decide) ?_
    refine am_bipush (v := 7) d_Cell_signAt_18 (by decide) ?_
    refine am_iload d_Cell_signAt_20 rfl ?_
    refine am_bipush (v := 7) d_Cell_signAt_22 (by decide) ?_
    refine am_iand d_Cell_signAt_24 ?_
    refine am_isub d_Cell_signAt_25 ?_
    refine am_imul d_Cell_signAt_26 ?_
    refine am_lushr d_Cell_signAt_27 rfl ?_
    refine am_l2i d_Cell_signAt_28 rfl ?_
    refine am_bipush (v := 127) d_Cell_signAt_29 (by decide) ?_
    refine am_iand d_Cell_signAt_31 ?_
    exact am_iret rfl d_Cell_signAt_32 ⟨by rw [show s_Cell_signAt x0 x1 x2 = ((((x1 : Int64).toUInt64 >>> (((7 * (7 - (x2 &&& 7))) : Int32).toInt64.toUInt64 &&& Int64.toUInt64 63)).toInt64 : Int64).toInt32 &&& 127) from (by unfold s_Cell_signAt; rw [if_pos c0])], rfl⟩
  · refine am_lload_n d_Cell_signAt_7 rfl rfl ?_
    refine am_goto (tgt := 12) d_Cell_signAt_8 (by decide) ?_
    refine am_lstore d_Cell_signAt_12 (Nat.le_of_ble_eq_true rfl) ?_
    refine am_lload d_Cell_signAt_14 rfl ?_
    refine am_bipush (v := 7) d_Cell_signAt_16 (by decide) ?_
    refine am_bipush (v := 7) d_Cell_signAt_18 (by decide) ?_
    refine am_iload d_Cell_signAt_20 rfl ?_
    refine am_bipush (v := 7) d_Cell_signAt_22 (by decide) ?_
    refine am_iand d_Cell_signAt_24 ?_
    refine am_isub d_Cell_signAt_25 ?_
    refine am_imul d_Cell_signAt_26 ?_
    refine am_lushr d_Cell_signAt_27 rfl ?_
    refine am_l2i d_Cell_signAt_28 rfl ?_
    refine am_bipush (v := 127) d_Cell_signAt_29 (by decide) ?_
    refine am_iand d_Cell_signAt_31 ?_
    exact am_iret rfl d_Cell_signAt_32 ⟨by rw [show s_Cell_signAt x0 x1 x2 = ((((x0 : Int64).toUInt64 >>> (((7 * (7 - (x2 &&& 7))) : Int32).toInt64.toUInt64 &&& Int64.toUInt64 63)).toInt64 : Int64).toInt32 &&& 127) from (by unfold s_Cell_signAt; rw [if_neg c0])], rfl⟩

def s_Lexer_isLetter (x0 : Int32) : Int32 := if x0 < 97 then (0) else (if 122 < x0 then (0) else (1))
set_option maxRecDepth 100000 in
theorem g_Lexer_isLetter {K : am_K} {X : Nat → am_C} {x0 : Int32} {h : am_H} : am_Mt K X m_Lexer_isLetter 0 0 0 [.int x0] h (fun v h' => v = some (.int (s_Lexer_isLetter x0)) ∧ h' = h) := by
  refine am_enter (by decide +kernel) (Nat.le_of_ble_eq_true rfl) ?_
  refine am_iload_n d_Lexer_isLetter_0 rfl rfl ?_
  refine am_bipush (v := 97) d_Lexer_isLetter_1 (by decide) ?_
  refine am_icmp_lt (tgt := 16) d_Lexer_isLetter_3 (by decide) (fun c0 => ?_) (fun c0 => ?_)
  · refine am_iconst (v := 0) d_Lexer_isLetter_16 (by decide) ?_
    exact am_zret (ty := .boolean) rfl rfl d_Lexer_isLetter_17 ⟨by rw [show s_Lexer_isLetter x0 = 0 from (by unfold s_Lexer_isLetter; rw [if_pos c0])], rfl⟩
  · refine am_iload_n d_Lexer_isLetter_6 rfl rfl ?_
    refine am_bipush (v := 122) d_Lexer_isLetter_7 (by decide) ?_
    refine am_icmp_gt (tgt := 16) d_Lexer_isLetter_9 (by decide) (fun c1 => ?_) (fun c1 => ?_)
    · refine am_iconst (v := 0) d_Lexer_isLetter_16 (by decide) ?_
      exact am_zret (ty := .boolean) rfl rfl d_Lexer_isLetter_17 ⟨by rw [show s_Lexer_isLetter x0 = 0 from (by unfold s_Lexer_isLetter; rw [if_neg c0, if_pos c1])], rfl⟩
    · refine am_iconst (v := 1) d_Lexer_isLetter_12 (by decide) ?_
      refine am_goto (tgt := 17) d_Lexer_isLetter_13 (by decide) ?_
      exact am_zret (ty := .boolean) rfl rfl d_Lexer_isLetter_17 ⟨by rw [show s_Lexer_isLetter x0 = 1 from (by unfold s_Lexer_isLetter; rw [if_neg c0, if_neg c1])], rfl⟩

def s_Lexer_isDigit (x0 : Int32) : Int32 := if x0 < 48 then (0) else (if 57 < x0 then (0) else (1))
set_option maxRecDepth 100000 in
theorem g_Lexer_isDigit {K : am_K} {X : Nat → am_C} {x0 : Int32} {h : am_H} : am_Mt K X m_Lexer_isDigit 0 0 0 [.int x0] h (fun v h' => v = some (.int (s_Lexer_isDigit x0)) ∧ h' = h) := by
  refine am_enter (by decide +kernel) (Nat.le_of_ble_eq_true rfl) ?_
  refine am_iload_n d_Lexer_isDigit_0 rfl rfl ?_
  refine am_bipush (v := 48) d_Lexer_isDigit_1 (by decide) ?_
  refine am_icmp_lt (tgt := 16) d_Lexer_isDigit_3 (by decide) (fun c0 => ?_) (fun c0 => ?_)
  · refine am_iconst (v := 0) d_Lexer_isDigit_16 (by decide) ?_
    exact am_zret (ty := .boolean) rfl rfl d_Lexer_isDigit_17 ⟨by rw [show s_Lexer_isDigit x0 = 0 from (by unfold s_Lexer_isDigit; rw [if_pos c0])], rfl⟩
  · refine am_iload_n d_Lexer_isDigit_6 rfl rfl ?_
    refine am_bipush (v := 57) d_Lexer_isDigit_7 (by decide) ?_
    refine am_icmp_gt (tgt := 16) d_Lexer_isDigit_9 (by decide) (fun c1 => ?_) (fun c1 => ?_)
    · refine am_iconst (v := 0) d_Lexer_isDigit_16 (by decide) ?_
      exact am_zret (ty := .boolean) rfl rfl d_Lexer_isDigit_17 ⟨by rw [show s_Lexer_isDigit x0 = 0 from (by unfold s_Lexer_isDigit; rw [if_neg c0, if_pos c1])], rfl⟩
    · refine am_iconst (v := 1) d_Lexer_isDigit_12 (by decide) ?_
      refine am_goto (tgt := 17) d_Lexer_isDigit_13 (by decide) ?_
      exact am_zret (ty := .boolean) rfl rfl d_Lexer_isDigit_17 ⟨by rw [show s_Lexer_isDigit x0 = 1 from (by unfold s_Lexer_isDigit; rw [if_neg c0, if_neg c1])], rfl⟩

def s_Lexer_isTextSign (x0 : Int32) : Int32 := if x0 < 32 then (0) else (if 126 < x0 then (0) else (if x0 = 34 then (0) else (1)))
set_option maxRecDepth 100000 in
theorem g_Lexer_isTextSign {K : am_K} {X : Nat → am_C} {x0 : Int32} {h : am_H} : am_Mt K X m_Lexer_isTextSign 0 0 0 [.int x0] h (fun v h' => v = some (.int (s_Lexer_isTextSign x0)) ∧ h' = h) := by
  refine am_enter (by decide +kernel) (Nat.le_of_ble_eq_true rfl) ?_
  refine am_iload_n d_Lexer_isTextSign_0 rfl rfl ?_
  refine am_bipush (v := 32) d_Lexer_isTextSign_1 (by decide) ?_
  refine am_icmp_lt (tgt := 22) d_Lexer_isTextSign_3 (by decide) (fun c0 => ?_) (fun c0 => ?_)
  · refine am_iconst (v := 0) d_Lexer_isTextSign_22 (by decide) ?_
    exact am_zret (ty := .boolean) rfl rfl d_Lexer_isTextSign_23 ⟨by rw [show s_Lexer_isTextSign x0 = 0 from (by unfold s_Lexer_isTextSign; rw [if_pos c0])], rfl⟩
  · refine am_iload_n d_Lexer_isTextSign_6 rfl rfl ?_
    refine am_bipush (v := 126) d_Lexer_isTextSign_7 (by decide) ?_
    refine am_icmp_gt (tgt := 22) d_Lexer_isTextSign_9 (by decide) (fun c1 => ?_) (fun c1 => ?_)
    · refine am_iconst (v := 0) d_Lexer_isTextSign_22 (by decide) ?_
      exact am_zret (ty := .boolean) rfl rfl d_Lexer_isTextSign_23 ⟨by rw [show s_Lexer_isTextSign x0 = 0 from (by unfold s_Lexer_isTextSign; rw [if_neg c0, if_pos c1])], rfl⟩
    · refine am_iload_n d_Lexer_isTextSign_12 rfl rfl ?_
      refine am_bipush (v := 34) d_Lexer_isTextSign_13 (by decide) ?_
      refine am_icmp_eq (tgt := 22) d_Lexer_isTextSign_15 (by decide) (fun c2 => ?_) (fun c2 => ?_)
      · refine am_iconst (v := 0) d_Lexer_isTextSign_22 (by decide) ?_
        exact am_zret (ty := .boolean) rfl rfl d_Lexer_isTextSign_23 ⟨by rw [show s_Lexer_isTextSign x0 = 0 from (by unfold s_Lexer_isTextSign; rw [if_neg c0, if_neg c1, if_pos c2])], rfl⟩
      · refine am_iconst (v := 1) d_Lexer_isTextSign_18 (by decide) ?_
        refine am_goto (tgt := 23) d_Lexer_isTextSign_19 (by decide) ?_
        exact am_zret (ty := .boolean) rfl rfl d_Lexer_isTextSign_23 ⟨by rw [show s_Lexer_isTextSign x0 = 1 from (by unfold s_Lexer_isTextSign; rw [if_neg c0, if_neg c1, if_neg c2])], rfl⟩

def s_Lexer_pairKind (x0 : Int32) (x1 : Int32) : Int32 := if x1 = 61 then (if x0 = 61 then (256) else (if x0 = 33 then (257) else (if x0 = 60 then (258) else (1)))) else (if x0 = x1 then (if x0 = 38 then (259) else (if x0 = 124 then (260) else (1))) else (1))
set_option maxRecDepth 100000 in
theorem g_Lexer_pairKind {K : am_K} {X : Nat → am_C} {x0 : Int32} {x1 : Int32} {h : am_H} : am_Mt K X m_Lexer_pairKind 0 0 0 [.int x0, .int x1] h (fun v h' => v = some (.int (s_Lexer_pairKind x0 x1)) ∧ h' = h) := by
  refine am_enter (by decide +kernel) (Nat.le_of_ble_eq_true rfl) ?_
  refine am_iload_n d_Lexer_pairKind_0 rfl rfl ?_
  refine am_bipush (v := 61) d_Lexer_pairKind_1 (by decide) ?_
  refine am_icmp_ne (tgt := 44) d_Lexer_pairKind_3 (by decide) (fun c0 => ?_) (fun c0 => ?_)
  · refine am_iload_n d_Lexer_pairKind_44 rfl rfl ?_
    refine am_iload_n d_Lexer_pairKind_45 rfl rfl ?_
    refine am_icmp_ne (tgt := 75) d_Lexer_pairKind_46 (by decide) (fun c1 => ?_) (fun c1 => ?_)
    · refine am_iconst (v := 1) d_Lexer_pairKind_75 (by decide) ?_
      exact am_iret rfl d_Lexer_pairKind_76 ⟨by rw [show s_Lexer_pairKind x0 x1 = 1 from (by unfold s_Lexer_pairKind; rw [if_neg c0, if_neg c1])], rfl⟩
    · refine am_iload_n d_Lexer_pairKind_49 rfl rfl ?_
      refine am_bipush (v := 38) d_Lexer_pairKind_50 (by decide) ?_
      refine am_icmp_ne (tgt := 61) d_Lexer_pairKind_52 (by decide) (fun c2 => ?_) (fun c2 => ?_)
      · refine am_iload_n d_Lexer_pairKind_61 rfl rfl ?_
        refine am_bipush (v := 124) d_Lexer_pairKind_62 (by decide) ?_
        refine am_icmp_ne (tgt := 73) d_Lexer_pairKind_64 (by decide) (fun c3 => ?_) (fun c3 => ?_)
        · refine am_iconst (v := 1) d_Lexer_pairKind_73 (by decide) ?_
          exact am_iret rfl d_Lexer_pairKind_74 ⟨by rw [show s_Lexer_pairKind x0 x1 = 1 from (by unfold s_Lexer_pairKind; rw [if_neg c0, if_pos c1, if_neg c2, if_neg c3])], rfl⟩
        · refine am_sipush (v := 260) d_Lexer_pairKind_67 (by decide) ?_
          refine am_goto (tgt := 74) d_Lexer_pairKind_70 (by decide) ?_
          exact am_iret rfl d_Lexer_pairKind_74 ⟨by rw [show s_Lexer_pairKind x0 x1 = 260 from (by unfold s_Lexer_pairKind; rw [if_neg c0, if_pos c1, if_neg c2, if_pos c3])], rfl⟩
      · refine am_sipush (v := 259) d_Lexer_pairKind_55 (by decide) ?_
        refine am_goto (tgt := 74) d_Lexer_pairKind_58 (by decide) ?_
        exact am_iret rfl d_Lexer_pairKind_74 ⟨by rw [show s_Lexer_pairKind x0 x1 = 259 from (by unfold s_Lexer_pairKind; rw [if_neg c0, if_pos c1, if_pos c2])], rfl⟩
  · refine am_iload_n d_Lexer_pairKind_6 rfl rfl ?_
    refine am_bipush (v := 61) d_Lexer_pairKind_7 (by decide) ?_
    refine am_icmp_ne (tgt := 18) d_Lexer_pairKind_9 (by decide) (fun c1 => ?_) (fun c1 => ?_)
    · refine am_iload_n d_Lexer_pairKind_18 rfl rfl ?_
      refine am_bipush (v := 33) d_Lexer_pairKind_19 (by decide) ?_
      refine am_icmp_ne (tgt := 30) d_Lexer_pairKind_21 (by decide) (fun c2 => ?_) (fun c2 => ?_)
      · refine am_iload_n d_Lexer_pairKind_30 rfl rfl ?_
        refine am_bipush (v := 60) d_Lexer_pairKind_31 (by decide) ?_
        refine am_icmp_ne (tgt := 42) d_Lexer_pairKind_33 (by decide) (fun c3 => ?_) (fun c3 => ?_)
        · refine am_iconst (v := 1) d_Lexer_pairKind_42 (by decide) ?_
          exact am_iret rfl d_Lexer_pairKind_43 ⟨by rw [show s_Lexer_pairKind x0 x1 = 1 from (by unfold s_Lexer_pairKind; rw [if_pos c0, if_neg c1, if_neg c2, if_neg c3])], rfl⟩
        · refine am_sipush (v := 258) d_Lexer_pairKind_36 (by decide) ?_
          refine am_goto (tgt := 43) d_Lexer_pairKind_39 (by decide) ?_
          exact am_iret rfl d_Lexer_pairKind_43 ⟨by rw [show s_Lexer_pairKind x0 x1 = 258 from (by unfold s_Lexer_pairKind; rw [if_pos c0, if_neg c1, if_neg c2, if_pos c3])], rfl⟩
      · refine am_sipush (v := 257) d_Lexer_pairKind_24 (by decide) ?_
        refine am_goto (tgt := 43) d_Lexer_pairKind_27 (by decide) ?_
        exact am_iret rfl d_Lexer_pairKind_43 ⟨by rw [show s_Lexer_pairKind x0 x1 = 257 from (by unfold s_Lexer_pairKind; rw [if_pos c0, if_neg c1, if_pos c2])], rfl⟩
    · refine am_sipush (v := 256) d_Lexer_pairKind_12 (by decide) ?_
      refine am_goto (tgt := 43) d_Lexer_pairKind_15 (by decide) ?_
      exact am_iret rfl d_Lexer_pairKind_43 ⟨by rw [show s_Lexer_pairKind x0 x1 = 256 from (by unfold s_Lexer_pairKind; rw [if_pos c0, if_pos c1])], rfl⟩

def s_Mach_storeFor (x0 : Int32) : Int32 := (x0 + 1)
set_option maxRecDepth 100000 in
theorem g_Mach_storeFor {K : am_K} {X : Nat → am_C} {x0 : Int32} {h : am_H} : am_Mt K X m_Mach_storeFor 0 0 0 [.int x0] h (fun v h' => v = some (.int (s_Mach_storeFor x0)) ∧ h' = h) := by
  refine am_enter (by decide +kernel) (Nat.le_of_ble_eq_true rfl) ?_
  refine am_iload_n d_Mach_storeFor_0 rfl rfl ?_
  refine am_iconst (v := 1) d_Mach_storeFor_1 (by decide) ?_
  refine am_iadd d_Mach_storeFor_2 ?_
  exact am_iret rfl d_Mach_storeFor_3 ⟨by rw [show s_Mach_storeFor x0 = (x0 + 1) from rfl], rfl⟩

def s_Mod_in (x0 : Int64) (x1 : Int64) (x2 : Int64) : Int32 := if (lg_cmp x0 x1) < 0 then (0) else (if 0 < (lg_cmp x0 x2) then (0) else (1))
set_option maxRecDepth 100000 in
theorem g_Mod_in {K : am_K} {X : Nat → am_C} {x0 : Int64} {x1 : Int64} {x2 : Int64} {h : am_H} : am_Mt K X m_Mod_in 0 0 0 [.long x0, .long x1, .long x2] h (fun v h' => v = some (.int (s_Mod_in x0 x1 x2)) ∧ h' = h) := by
  refine am_enter (by decide +kernel) (Nat.le_of_ble_eq_true rfl) ?_
  refine am_lload_n d_Mod_in_0 rfl rfl ?_
  refine am_lload_n d_Mod_in_1 rfl rfl ?_
  refine am_lcmp d_Mod_in_2 ?_
  refine am_if_lt (tgt := 17) d_Mod_in_3 (by decide) (fun c0 => ?_) (fun c0 => ?_)
  · refine am_iconst (v := 0) d_Mod_in_17 (by decide) ?_
    exact am_zret (ty := .boolean) rfl rfl d_Mod_in_18 ⟨by rw [show s_Mod_in x0 x1 x2 = 0 from (by unfold s_Mod_in; rw [if_pos c0])], rfl⟩
  · refine am_lload_n d_Mod_in_6 rfl rfl ?_
    refine am_lload d_Mod_in_7 rfl ?_
    refine am_lcmp d_Mod_in_9 ?_
    refine am_if_gt (tgt := 17) d_Mod_in_10 (by decide) (fun c1 => ?_) (fun c1 => ?_)
    · refine am_iconst (v := 0) d_Mod_in_17 (by decide) ?_
      exact am_zret (ty := .boolean) rfl rfl d_Mod_in_18 ⟨by rw [show s_Mod_in x0 x1 x2 = 0 from (by unfold s_Mod_in; rw [if_neg c0, if_pos c1])], rfl⟩
    · refine am_iconst (v := 1) d_Mod_in_13 (by decide) ?_
      refine am_goto (tgt := 18) d_Mod_in_14 (by decide) ?_
      exact am_zret (ty := .boolean) rfl rfl d_Mod_in_18 ⟨by rw [show s_Mod_in x0 x1 x2 = 1 from (by unfold s_Mod_in; rw [if_neg c0, if_neg c1])], rfl⟩

def s_Mod_isSmall (x0 : Int32) : Int32 := if x0 < 97 then (0) else (if 122 < x0 then (0) else (1))
set_option maxRecDepth 100000 in
theorem g_Mod_isSmall {K : am_K} {X : Nat → am_C} {x0 : Int32} {h : am_H} : am_Mt K X m_Mod_isSmall 0 0 0 [.int x0] h (fun v h' => v = some (.int (s_Mod_isSmall x0)) ∧ h' = h) := by
  refine am_enter (by decide +kernel) (Nat.le_of_ble_eq_true rfl) ?_
  refine am_iload_n d_Mod_isSmall_0 rfl rfl ?_
  refine am_bipush (v := 97) d_Mod_isSmall_1 (by decide) ?_
  refine am_icmp_lt (tgt := 16) d_Mod_isSmall_3 (by decide) (fun c0 => ?_) (fun c0 => ?_)
  · refine am_iconst (v := 0) d_Mod_isSmall_16 (by decide) ?_
    exact am_zret (ty := .boolean) rfl rfl d_Mod_isSmall_17 ⟨by rw [show s_Mod_isSmall x0 = 0 from (by unfold s_Mod_isSmall; rw [if_pos c0])], rfl⟩
  · refine am_iload_n d_Mod_isSmall_6 rfl rfl ?_
    refine am_bipush (v := 122) d_Mod_isSmall_7 (by decide) ?_
    refine am_icmp_gt (tgt := 16) d_Mod_isSmall_9 (by decide) (fun c1 => ?_) (fun c1 => ?_)
    · refine am_iconst (v := 0) d_Mod_isSmall_16 (by decide) ?_
      exact am_zret (ty := .boolean) rfl rfl d_Mod_isSmall_17 ⟨by rw [show s_Mod_isSmall x0 = 0 from (by unfold s_Mod_isSmall; rw [if_neg c0, if_pos c1])], rfl⟩
    · refine am_iconst (v := 1) d_Mod_isSmall_12 (by decide) ?_
      refine am_goto (tgt := 17) d_Mod_isSmall_13 (by decide) ?_
      exact am_zret (ty := .boolean) rfl rfl d_Mod_isSmall_17 ⟨by rw [show s_Mod_isSmall x0 = 1 from (by unfold s_Mod_isSmall; rw [if_neg c0, if_neg c1])], rfl⟩

def s_Mod_isDigit (x0 : Int32) : Int32 := if x0 < 48 then (0) else (if 57 < x0 then (0) else (1))
set_option maxRecDepth 100000 in
theorem g_Mod_isDigit {K : am_K} {X : Nat → am_C} {x0 : Int32} {h : am_H} : am_Mt K X m_Mod_isDigit 0 0 0 [.int x0] h (fun v h' => v = some (.int (s_Mod_isDigit x0)) ∧ h' = h) := by
  refine am_enter (by decide +kernel) (Nat.le_of_ble_eq_true rfl) ?_
  refine am_iload_n d_Mod_isDigit_0 rfl rfl ?_
  refine am_bipush (v := 48) d_Mod_isDigit_1 (by decide) ?_
  refine am_icmp_lt (tgt := 16) d_Mod_isDigit_3 (by decide) (fun c0 => ?_) (fun c0 => ?_)
  · refine am_iconst (v := 0) d_Mod_isDigit_16 (by decide) ?_
    exact am_zret (ty := .boolean) rfl rfl d_Mod_isDigit_17 ⟨by rw [show s_Mod_isDigit x0 = 0 from (by unfold s_Mod_isDigit; rw [if_pos c0])], rfl⟩
  · refine am_iload_n d_Mod_isDigit_6 rfl rfl ?_
    refine am_bipush (v := 57) d_Mod_isDigit_7 (by decide) ?_
    refine am_icmp_gt (tgt := 16) d_Mod_isDigit_9 (by decide) (fun c1 => ?_) (fun c1 => ?_)
    · refine am_iconst (v := 0) d_Mod_isDigit_16 (by decide) ?_
      exact am_zret (ty := .boolean) rfl rfl d_Mod_isDigit_17 ⟨by rw [show s_Mod_isDigit x0 = 0 from (by unfold s_Mod_isDigit; rw [if_neg c0, if_pos c1])], rfl⟩
    · refine am_iconst (v := 1) d_Mod_isDigit_12 (by decide) ?_
      refine am_goto (tgt := 17) d_Mod_isDigit_13 (by decide) ?_
      exact am_zret (ty := .boolean) rfl rfl d_Mod_isDigit_17 ⟨by rw [show s_Mod_isDigit x0 = 1 from (by unfold s_Mod_isDigit; rw [if_neg c0, if_neg c1])], rfl⟩

def s_Pars_levelOf (x0 : Int32) : Int32 := if x0 = 37 then (4) else (if x0 = 42 then (4) else (if x0 = 43 then (3) else (if x0 = 45 then (3) else (if x0 = 47 then (4) else (if x0 = 60 then (2) else (if x0 = 256 then (2) else (if x0 = 257 then (2) else (if x0 = 258 then (2) else (if x0 = 259 then (1) else (if x0 = 260 then (0) else ((-1))))))))))))
set_option maxRecDepth 100000 in
theorem g_Pars_levelOf {K : am_K} {X : Nat → am_C} {x0 : Int32} {h : am_H} : am_Mt K X m_Pars_levelOf 0 0 0 [.int x0] h (fun v h' => v = some (.int (s_Pars_levelOf x0)) ∧ h' = h) := by
  refine am_enter (by decide +kernel) (Nat.le_of_ble_eq_true rfl) ?_
  refine am_iload_n d_Pars_levelOf_0 rfl rfl ?_
  by_cases c0 : x0 = 37
  · refine am_lookup (off := 107) (tgt := 108) d_Pars_levelOf_1 (by decide) (by rw [c0]; decide) (by decide) ?_
    refine am_iconst (v := 4) d_Pars_levelOf_108 (by decide) ?_
    exact am_iret rfl d_Pars_levelOf_109 ⟨by rw [show s_Pars_levelOf x0 = 4 from (by unfold s_Pars_levelOf; rw [if_pos c0])], rfl⟩
  · by_cases c1 : x0 = 42
    · refine am_lookup (off := 107) (tgt := 108) d_Pars_levelOf_1 (by decide) (by rw [c1]; decide) (by decide) ?_
      refine am_iconst (v := 4) d_Pars_levelOf_108 (by decide) ?_
      exact am_iret rfl d_Pars_levelOf_109 ⟨by rw [show s_Pars_levelOf x0 = 4 from (by unfold s_Pars_levelOf; rw [if_neg c0, if_pos c1])], rfl⟩
    · by_cases c2 : x0 = 43
      · refine am_lookup (off := 105) (tgt := 106) d_Pars_levelOf_1 (by decide) (by rw [c2]; decide) (by decide) ?_
        refine am_iconst (v := 3) d_Pars_levelOf_106 (by decide) ?_
        exact am_iret rfl d_Pars_levelOf_107 ⟨by rw [show s_Pars_levelOf x0 = 3 from (by unfold s_Pars_levelOf; rw [if_neg c0, if_neg c1, if_pos c2])], rfl⟩
      · by_cases c3 : x0 = 45
        · refine am_lookup (off := 105) (tgt := 106) d_Pars_levelOf_1 (by decide) (by rw [c3]; decide) (by decide) ?_
          refine am_iconst (v := 3) d_Pars_levelOf_106 (by decide) ?_
          exact am_iret rfl d_Pars_levelOf_107 ⟨by rw [show s_Pars_levelOf x0 = 3 from (by unfold s_Pars_levelOf; rw [if_neg c0, if_neg c1, if_neg c2, if_pos c3])], rfl⟩
        · by_cases c4 : x0 = 47
          · refine am_lookup (off := 107) (tgt := 108) d_Pars_levelOf_1 (by decide) (by rw [c4]; decide) (by decide) ?_
            refine am_iconst (v := 4) d_Pars_levelOf_108 (by decide) ?_
            exact am_iret rfl d_Pars_levelOf_109 ⟨by rw [show s_Pars_levelOf x0 = 4 from (by unfold s_Pars_levelOf; rw [if_neg c0, if_neg c1, if_neg c2, if_neg c3, if_pos c4])], rfl⟩
          · by_cases c5 : x0 = 60
            · refine am_lookup (off := 103) (tgt := 104) d_Pars_levelOf_1 (by decide) (by rw [c5]; decide) (by decide) ?_
              refine am_iconst (v := 2) d_Pars_levelOf_104 (by decide) ?_
              exact am_iret rfl d_Pars_levelOf_105 ⟨by rw [show s_Pars_levelOf x0 = 2 from (by unfold s_Pars_levelOf; rw [if_neg c0, if_neg c1, if_neg c2, if_neg c3, if_neg c4, if_pos c5])], rfl⟩
            · by_cases c6 : x0 = 256
              · refine am_lookup (off := 103) (tgt := 104) d_Pars_levelOf_1 (by decide) (by rw [c6]; decide) (by decide) ?_
                refine am_iconst (v := 2) d_Pars_levelOf_104 (by decide) ?_
                exact am_iret rfl d_Pars_levelOf_105 ⟨by rw [show s_Pars_levelOf x0 = 2 from (by unfold s_Pars_levelOf; rw [if_neg c0, if_neg c1, if_neg c2, if_neg c3, if_neg c4, if_neg c5, if_pos c6])], rfl⟩
              · by_cases c7 : x0 = 257
                · refine am_lookup (off := 103) (tgt := 104) d_Pars_levelOf_1 (by decide) (by rw [c7]; decide) (by decide) ?_
                  refine am_iconst (v := 2) d_Pars_levelOf_104 (by decide) ?_
                  exact am_iret rfl d_Pars_levelOf_105 ⟨by rw [show s_Pars_levelOf x0 = 2 from (by unfold s_Pars_levelOf; rw [if_neg c0, if_neg c1, if_neg c2, if_neg c3, if_neg c4, if_neg c5, if_neg c6, if_pos c7])], rfl⟩
                · by_cases c8 : x0 = 258
                  · refine am_lookup (off := 103) (tgt := 104) d_Pars_levelOf_1 (by decide) (by rw [c8]; decide) (by decide) ?_
                    refine am_iconst (v := 2) d_Pars_levelOf_104 (by decide) ?_
                    exact am_iret rfl d_Pars_levelOf_105 ⟨by rw [show s_Pars_levelOf x0 = 2 from (by unfold s_Pars_levelOf; rw [if_neg c0, if_neg c1, if_neg c2, if_neg c3, if_neg c4, if_neg c5, if_neg c6, if_neg c7, if_pos c8])], rfl⟩
                  · by_cases c9 : x0 = 259
                    · refine am_lookup (off := 101) (tgt := 102) d_Pars_levelOf_1 (by decide) (by rw [c9]; decide) (by decide) ?_
                      refine am_iconst (v := 1) d_Pars_levelOf_102 (by decide) ?_
                      exact am_iret rfl d_Pars_levelOf_103 ⟨by rw [show s_Pars_levelOf x0 = 1 from (by unfold s_Pars_levelOf; rw [if_neg c0, if_neg c1, if_neg c2, if_neg c3, if_neg c4, if_neg c5, if_neg c6, if_neg c7, if_neg c8, if_pos c9])], rfl⟩
                    · by_cases c10 : x0 = 260
                      · refine am_lookup (off := 99) (tgt := 100) d_Pars_levelOf_1 (by decide) (by rw [c10]; decide) (by decide) ?_
                        refine am_iconst (v := 0) d_Pars_levelOf_100 (by decide) ?_
                        exact am_iret rfl d_Pars_levelOf_101 ⟨by rw [show s_Pars_levelOf x0 = 0 from (by unfold s_Pars_levelOf; rw [if_neg c0, if_neg c1, if_neg c2, if_neg c3, if_neg c4, if_neg c5, if_neg c6, if_neg c7, if_neg c8, if_neg c9, if_pos c10])], rfl⟩
                      · refine am_lookup (off := 109) (tgt := 110) d_Pars_levelOf_1 (by decide) (show Op.lookupswitch.offset [(37, 107), (42, 107), (43, 105), (45, 105), (47, 107), (60, 103), (256, 103), (257, 103), (258, 103), (259, 101), (260, 99)] (109) (Int32.toInt x0) = 109 by rw [Op.lookupswitch.offset_cons, if_neg (lk_ne c0 (by decide)), Op.lookupswitch.offset_cons, if_neg (lk_ne c1 (by decide)), Op.lookupswitch.offset_cons, if_neg (lk_ne c2 (by decide)), Op.lookupswitch.offset_cons, if_neg (lk_ne c3 (by decide)), Op.lookupswitch.offset_cons, if_neg (lk_ne c4 (by decide)), Op.lookupswitch.offset_cons, if_neg (lk_ne c5 (by decide)), Op.lookupswitch.offset_cons, if_neg (lk_ne c6 (by decide)), Op.lookupswitch.offset_cons, if_neg (lk_ne c7 (by decide)), Op.lookupswitch.offset_cons, if_neg (lk_ne c8 (by decide)), Op.lookupswitch.offset_cons, if_neg (lk_ne c9 (by decide)), Op.lookupswitch.offset_cons, if_neg (lk_ne c10 (by decide)), Op.lookupswitch.offset_nil]) (by decide) ?_
                        refine am_iconst (v := (-1)) d_Pars_levelOf_110 (by decide) ?_
                        exact am_iret rfl d_Pars_levelOf_111 ⟨by rw [show s_Pars_levelOf x0 = (-1) from (by unfold s_Pars_levelOf; rw [if_neg c0, if_neg c1, if_neg c2, if_neg c3, if_neg c4, if_neg c5, if_neg c6, if_neg c7, if_neg c8, if_neg c9, if_neg c10])], rfl⟩

def s_Pars_commandOf (x0 : Int32) : Int32 := if x0 = 42 then (34) else (if x0 = 43 then (32) else (if x0 = 45 then (33) else (if x0 = 47 then (35) else (if x0 = 60 then (30) else (if x0 = 256 then (28) else (if x0 = 257 then (29) else (if x0 = 258 then (31) else (36))))))))
set_option maxRecDepth 100000 in
theorem g_Pars_commandOf {K : am_K} {X : Nat → am_C} {x0 : Int32} {h : am_H} : am_Mt K X m_Pars_commandOf 0 0 0 [.int x0] h (fun v h' => v = some (.int (s_Pars_commandOf x0)) ∧ h' = h) := by
  refine am_enter (by decide +kernel) (Nat.le_of_ble_eq_true rfl) ?_
  refine am_iload_n d_Pars_commandOf_0 rfl rfl ?_
  by_cases c0 : x0 = 42
  · refine am_lookup (off := 93) (tgt := 94) d_Pars_commandOf_1 (by decide) (by rw [c0]; decide) (by decide) ?_
    refine am_bipush (v := 34) d_Pars_commandOf_94 (by decide) ?_
    exact am_iret rfl d_Pars_commandOf_96 ⟨by rw [show s_Pars_commandOf x0 = 34 from (by unfold s_Pars_commandOf; rw [if_pos c0])], rfl⟩
  · by_cases c1 : x0 = 43
    · refine am_lookup (off := 87) (tgt := 88) d_Pars_commandOf_1 (by decide) (by rw [c1]; decide) (by decide) ?_
      refine am_bipush (v := 32) d_Pars_commandOf_88 (by decide) ?_
      exact am_iret rfl d_Pars_commandOf_90 ⟨by rw [show s_Pars_commandOf x0 = 32 from (by unfold s_Pars_commandOf; rw [if_neg c0, if_pos c1])], rfl⟩
    · by_cases c2 : x0 = 45
      · refine am_lookup (off := 90) (tgt := 91) d_Pars_commandOf_1 (by decide) (by rw [c2]; decide) (by decide) ?_
        refine am_bipush (v := 33) d_Pars_commandOf_91 (by decide) ?_
        exact am_iret rfl d_Pars_commandOf_93 ⟨by rw [show s_Pars_commandOf x0 = 33 from (by unfold s_Pars_commandOf; rw [if_neg c0, if_neg c1, if_pos c2])], rfl⟩
      · by_cases c3 : x0 = 47
        · refine am_lookup (off := 96) (tgt := 97) d_Pars_commandOf_1 (by decide) (by rw [c3]; decide) (by decide) ?_
          refine am_bipush (v := 35) d_Pars_commandOf_97 (by decide) ?_
          exact am_iret rfl d_Pars_commandOf_99 ⟨by rw [show s_Pars_commandOf x0 = 35 from (by unfold s_Pars_commandOf; rw [if_neg c0, if_neg c1, if_neg c2, if_pos c3])], rfl⟩
        · by_cases c4 : x0 = 60
          · refine am_lookup (off := 81) (tgt := 82) d_Pars_commandOf_1 (by decide) (by rw [c4]; decide) (by decide) ?_
            refine am_bipush (v := 30) d_Pars_commandOf_82 (by decide) ?_
            exact am_iret rfl d_Pars_commandOf_84 ⟨by rw [show s_Pars_commandOf x0 = 30 from (by unfold s_Pars_commandOf; rw [if_neg c0, if_neg c1, if_neg c2, if_neg c3, if_pos c4])], rfl⟩
          · by_cases c5 : x0 = 256
            · refine am_lookup (off := 75) (tgt := 76) d_Pars_commandOf_1 (by decide) (by rw [c5]; decide) (by decide) ?_
              refine am_bipush (v := 28) d_Pars_commandOf_76 (by decide) ?_
              exact am_iret rfl d_Pars_commandOf_78 ⟨by rw [show s_Pars_commandOf x0 = 28 from (by unfold s_Pars_commandOf; rw [if_neg c0, if_neg c1, if_neg c2, if_neg c3, if_neg c4, if_pos c5])], rfl⟩
            · by_cases c6 : x0 = 257
              · refine am_lookup (off := 78) (tgt := 79) d_Pars_commandOf_1 (by decide) (by rw [c6]; decide) (by decide) ?_
                refine am_bipush (v := 29) d_Pars_commandOf_79 (by decide) ?_
                exact am_iret rfl d_Pars_commandOf_81 ⟨by rw [show s_Pars_commandOf x0 = 29 from (by unfold s_Pars_commandOf; rw [if_neg c0, if_neg c1, if_neg c2, if_neg c3, if_neg c4, if_neg c5, if_pos c6])], rfl⟩
              · by_cases c7 : x0 = 258
                · refine am_lookup (off := 84) (tgt := 85) d_Pars_commandOf_1 (by decide) (by rw [c7]; decide) (by decide) ?_
                  refine am_bipush (v := 31) d_Pars_commandOf_85 (by decide) ?_
                  exact am_iret rfl d_Pars_commandOf_87 ⟨by rw [show s_Pars_commandOf x0 = 31 from (by unfold s_Pars_commandOf; rw [if_neg c0, if_neg c1, if_neg c2, if_neg c3, if_neg c4, if_neg c5, if_neg c6, if_pos c7])], rfl⟩
                · refine am_lookup (off := 99) (tgt := 100) d_Pars_commandOf_1 (by decide) (show Op.lookupswitch.offset [(42, 93), (43, 87), (45, 90), (47, 96), (60, 81), (256, 75), (257, 78), (258, 84)] (99) (Int32.toInt x0) = 99 by rw [Op.lookupswitch.offset_cons, if_neg (lk_ne c0 (by decide)), Op.lookupswitch.offset_cons, if_neg (lk_ne c1 (by decide)), Op.lookupswitch.offset_cons, if_neg (lk_ne c2 (by decide)), Op.lookupswitch.offset_cons, if_neg (lk_ne c3 (by decide)), Op.lookupswitch.offset_cons, if_neg (lk_ne c4 (by decide)), Op.lookupswitch.offset_cons, if_neg (lk_ne c5 (by decide)), Op.lookupswitch.offset_cons, if_neg (lk_ne c6 (by decide)), Op.lookupswitch.offset_cons, if_neg (lk_ne c7 (by decide)), Op.lookupswitch.offset_nil]) (by decide) ?_
                  refine am_bipush (v := 36) d_Pars_commandOf_100 (by decide) ?_
                  exact am_iret rfl d_Pars_commandOf_102 ⟨by rw [show s_Pars_commandOf x0 = 36 from (by unfold s_Pars_commandOf; rw [if_neg c0, if_neg c1, if_neg c2, if_neg c3, if_neg c4, if_neg c5, if_neg c6, if_neg c7])], rfl⟩

def s_Stow_asAnswer (x0 : Int64) (x1 : Int64) : Int64 := if (s_Cell_sortOf x0) = 1 then (x1) else (if (s_Cell_sortOf x0) = 2 then (1099511627777) else (if (s_Cell_sortOf x0) = 3 then (1099511627778) else (if (s_Cell_sortOf x0) = 4 then (1099511627779) else (1099511627776))))
set_option maxRecDepth 100000 in
theorem g_Stow_asAnswer {K : am_K} {X : Nat → am_C} (O : am_ok K X) {x0 : Int64} {x1 : Int64} {h : am_H} : am_Mt K X m_Stow_asAnswer 1 0 0 [.long x0, .long x1] h (fun v h' => v = some (.long (s_Stow_asAnswer x0 x1)) ∧ h' = h) := by
  refine am_enter (by decide +kernel) (Nat.le_of_ble_eq_true rfl) ?_
  refine am_lload_n d_Stow_asAnswer_0 rfl rfl ?_
  refine am_callS O (g_Cell_sortOf ) rfl l_Stow_116 w_1104 rfl (Nat.le_of_ble_eq_true rfl) d_Stow_asAnswer_1 (by omega) (by omega) (by omega) (fun v h' hp => ?_)
  obtain ⟨rfl, rfl⟩ := hp
  by_cases c0 : (s_Cell_sortOf x0) = 1
  · refine am_tableIn (off := 32) (tgt := 36) d_Stow_asAnswer_4 (by rw [c0]; decide) (by rw [c0]; decide) (by rw [c0]; rfl) (by decide) ?_
    refine am_lload_n d_Stow_asAnswer_36 rfl rfl ?_
    exact am_lret rfl d_Stow_asAnswer_37 ⟨by rw [show s_Stow_asAnswer x0 x1 = x1 from (by unfold s_Stow_asAnswer; rw [if_pos c0])], rfl⟩
  · by_cases c1 : (s_Cell_sortOf x0) = 2
    · refine am_tableIn (off := 34) (tgt := 38) d_Stow_asAnswer_4 (by rw [c1]; decide) (by rw [c1]; decide) (by rw [c1]; rfl) (by decide) ?_
      refine am_ldc2 (v := 1099511627777) w_1379 d_Stow_asAnswer_38 ?_
      exact am_lret rfl d_Stow_asAnswer_41 ⟨by rw [show s_Stow_asAnswer x0 x1 = 1099511627777 from (by unfold s_Stow_asAnswer; rw [if_neg c0, if_pos c1])], rfl⟩
    · by_cases c2 : (s_Cell_sortOf x0) = 3
      · refine am_tableIn (off := 38) (tgt := 42) d_Stow_asAnswer_4 (by rw [c2]; decide) (by rw [c2]; decide) (by rw [c2]; rfl) (by decide) ?_
        refine am_ldc2 (v := 1099511627778) w_1380 d_Stow_asAnswer_42 ?_
        exact am_lret rfl d_Stow_asAnswer_45 ⟨by rw [show s_Stow_asAnswer x0 x1 = 1099511627778 from (by unfold s_Stow_asAnswer; rw [if_neg c0, if_neg c1, if_pos c2])], rfl⟩
      · by_cases c3 : (s_Cell_sortOf x0) = 4
        · refine am_tableIn (off := 42) (tgt := 46) d_Stow_asAnswer_4 (by rw [c3]; decide) (by rw [c3]; decide) (by rw [c3]; rfl) (by decide) ?_
          refine am_ldc2 (v := 1099511627779) w_1381 d_Stow_asAnswer_46 ?_
          exact am_lret rfl d_Stow_asAnswer_49 ⟨by rw [show s_Stow_asAnswer x0 x1 = 1099511627779 from (by unfold s_Stow_asAnswer; rw [if_neg c0, if_neg c1, if_neg c2, if_pos c3])], rfl⟩
        · have e0 := lk_ne c0 (show (1 : Int32).toInt = 1 by decide)
          have e1 := lk_ne c1 (show (2 : Int32).toInt = 2 by decide)
          have e2 := lk_ne c2 (show (3 : Int32).toInt = 3 by decide)
          have e3 := lk_ne c3 (show (4 : Int32).toInt = 4 by decide)
          refine am_tableOut (tgt := 50) d_Stow_asAnswer_4 (by omega) (by decide) ?_
          refine am_ldc2 (v := 1099511627776) w_1382 d_Stow_asAnswer_50 ?_
          exact am_lret rfl d_Stow_asAnswer_53 ⟨by rw [show s_Stow_asAnswer x0 x1 = 1099511627776 from (by unfold s_Stow_asAnswer; rw [if_neg c0, if_neg c1, if_neg c2, if_neg c3])], rfl⟩

def s_so (x0 x1 : Int64) : Nat → Nat → Int32
  | 0, _ => 16
  | m + 1, i => if s_Cell_signAt x0 x1 (nI i) = 0 then nI i else s_so x0 x1 m (i + 1)
def s_Cell_signsOf (x0 x1 : Int64) : Int32 := s_so x0 x1 16 0
set_option maxRecDepth 100000 in
theorem g_Cell_signsOf {K : am_K} {X : Nat → am_C} (O : am_ok K X) {x0 x1 : Int64} {h : am_H} : am_Mt K X m_Cell_signsOf 1 0 0 [.long x0, .long x1] h (fun v h' => v = some (.int (s_Cell_signsOf x0 x1)) ∧ h' = h) := by
  refine am_enter (by decide +kernel) (Nat.le_of_ble_eq_true rfl) ?_
  refine am_iconst (v := 0) d_Cell_signsOf_0 (by decide) ?_
  refine am_istore d_Cell_signsOf_1 (Nat.le_of_ble_eq_true rfl) ?_
  have key : ∀ m i : Nat, i + m = 16 → am_W K X m_Cell_signsOf 1 0 0 0 0 3 [(0, .long x0), (2, .long x1), (4, .int (nI i))] [] h (fun v h' => v = some (.int (s_so x0 x1 m i)) ∧ h' = h) := by
    intro m
    induction m with
    | zero =>
      intro i e
      obtain rfl : i = 16 := e
      refine am_iload d_Cell_signsOf_3 rfl ?_
      refine am_bipush (v := 16) d_Cell_signsOf_5 (by decide) ?_
      refine am_icmp_ge (tgt := 29) d_Cell_signsOf_7 (by decide) (fun _ => ?_) (fun c => absurd (by decide) c)
      refine am_bipush (v := 16) d_Cell_signsOf_29 (by decide) ?_
      exact am_iret rfl d_Cell_signsOf_31 ⟨rfl, rfl⟩
    | succ m ih =>
      intro i e
      refine am_iload d_Cell_signsOf_3 rfl ?_
      refine am_bipush (v := 16) d_Cell_signsOf_5 (by decide) ?_
      refine am_icmp_ge (tgt := 29) d_Cell_signsOf_7 (by decide) (fun c => absurd c (nI_ge (a := i) (b := 16) (by omega) (by decide))) (fun _ => ?_)
      refine am_lload_n d_Cell_signsOf_10 rfl rfl ?_
      refine am_lload_n d_Cell_signsOf_11 rfl rfl ?_
      refine am_iload d_Cell_signsOf_12 rfl ?_
      refine am_callS O g_Cell_signAt rfl l_Cell_13 w_1164 rfl (Nat.le_of_ble_eq_true rfl) d_Cell_signsOf_14 (by omega) (by omega) (by omega) (fun v h' hp => ?_)
      obtain ⟨rfl, rfl⟩ := hp
      refine am_if_ne (tgt := 23) d_Cell_signsOf_17 (by decide) (fun c => ?_) (fun c => ?_)
      · refine am_iinc (v := 1) d_Cell_signsOf_23 rfl (by decide) (Nat.le_of_ble_eq_true rfl) ?_
        refine am_goto (tgt := 3) d_Cell_signsOf_26 (by decide) ?_
        refine am_locs (lv' := [(0, .long x0), (2, .long x1), (4, .int (nI (i + 1)))]) (by rw [nI_succ]; rfl) ?_
        rw [s_so, if_neg c]
        exact ih (i + 1) (by omega)
      · refine am_iload d_Cell_signsOf_20 rfl ?_
        exact am_iret rfl d_Cell_signsOf_22 ⟨by rw [s_so, if_pos c], rfl⟩
  exact am_locs (lv' := [(0, .long x0), (2, .long x1), (4, .int (nI 0))]) rfl (key 16 0 rfl)
