section
variable {K : am_K} {X : Nat → am_C}
def F_Vals (n : Nat) (f : Nat → am_C) (r N : Nat) : Nat → am_C := va_up (va_up (va_up (va_up (va_up f n (.inl (.int, N, fun _ => .int 0))) (n + 1) (.inl (.int, N, fun _ => .int 0))) (n + 2) (.inl (.long, N, fun _ => .long 0))) (n + 3) (.inl (.long, N, fun _ => .long 0))) r (.inr (11, [.ref n, .ref (n + 1), .ref (n + 2), .ref (n + 3)]))

set_option maxRecDepth 100000 in
set_option maxHeartbeats 4000000 in
/-- Values(n): four rows of n noughts -/
theorem c_Vals_init (O : am_ok K X) {n r N : Nat} {f : Nat → am_C} {x : Int32} (h0 : f r = .inr (11, [.null, .null, .null, .null])) (h1 : 128 ≤ r) (h2 : r < n) (hx : ¬ x < 0) (hN : x.toNatClampNeg = N) (hb : N ≤ 60000) : am_Mt K X m_Vals_init 1 4 (4 * N) [.ref r, .int x] (n, f) (fun v h' => v = none ∧ h' = (n + 4, F_Vals n f r N)) := by
  refine am_enter (by decide +kernel) (Nat.le_of_ble_eq_true rfl) ?_
  refine am_aload_n d_Vals_init_0 rfl rfl ?_
  refine am_obj w_1500 w_177 w_178 d_Vals_init_1 (by omega) (Nat.le_of_ble_eq_true rfl) ?_
  refine am_aload_n d_Vals_init_4 rfl rfl ?_
  refine am_iload_n d_Vals_init_5 rfl rfl ?_
  refine am_newa (at_ := .int) (ty := .int) O rfl (by decide) w_317 d_Vals_init_6 hx hN (by show N * 4 ≤ _; omega) (by omega) (by omega) ?_
  refine am_putF O f_Vals_7 (fun q hq => by cases hq; exact ⟨w_1501, rfl⟩) rfl d_Vals_init_8 (by (repeat (first | rw [va_up_self] | rw [va_up_ne _ _ (by omega)])); first | done | rfl | assumption) (by omega) (by omega) (Nat.le_of_ble_eq_true rfl) (fun q hq => by cases hq; exact ⟨rfl, rfl, rfl⟩) ?_
  refine am_aload_n d_Vals_init_11 rfl rfl ?_
  refine am_iload_n d_Vals_init_12 rfl rfl ?_
  refine am_newa (at_ := .int) (ty := .int) O rfl (by decide) w_317 d_Vals_init_13 hx hN (by show N * 4 ≤ _; omega) (by omega) (by omega) ?_
  refine am_putF O f_Vals_13 (fun q hq => by cases hq; exact ⟨w_1504, rfl⟩) rfl d_Vals_init_15 (by (repeat (first | rw [va_up_self] | rw [va_up_ne _ _ (by omega)])); first | done | rfl | assumption) (by omega) (by omega) (Nat.le_of_ble_eq_true rfl) (fun q hq => by cases hq; exact ⟨rfl, rfl, rfl⟩) ?_
  refine am_aload_n d_Vals_init_18 rfl rfl ?_
  refine am_iload_n d_Vals_init_19 rfl rfl ?_
  refine am_newa (at_ := .long) (ty := .long) O rfl (by decide) w_291 d_Vals_init_20 hx hN (by show N * 8 ≤ _; omega) (by omega) (by omega) ?_
  refine am_putF O f_Vals_16 (fun q hq => by cases hq; exact ⟨w_1507, rfl⟩) rfl d_Vals_init_22 (by (repeat (first | rw [va_up_self] | rw [va_up_ne _ _ (by omega)])); first | done | rfl | assumption) (by omega) (by omega) (Nat.le_of_ble_eq_true rfl) (fun q hq => by cases hq; exact ⟨rfl, rfl, rfl⟩) ?_
  refine am_aload_n d_Vals_init_25 rfl rfl ?_
  refine am_iload_n d_Vals_init_26 rfl rfl ?_
  refine am_newa (at_ := .long) (ty := .long) O rfl (by decide) w_291 d_Vals_init_27 hx hN (by show N * 8 ≤ _; omega) (by omega) (by omega) ?_
  refine am_putF O f_Vals_20 (fun q hq => by cases hq; exact ⟨w_1510, rfl⟩) rfl d_Vals_init_29 (by (repeat (first | rw [va_up_self] | rw [va_up_ne _ _ (by omega)])); first | done | rfl | assumption) (by omega) (by omega) (Nat.le_of_ble_eq_true rfl) (fun q hq => by cases hq; exact ⟨rfl, rfl, rfl⟩) ?_
  refine am_vret rfl d_Vals_init_32 ⟨rfl, ?_⟩
  refine Prod.ext rfl (funext fun x => ?_)
  show va_up _ _ _ x = F_Vals n f r N x
  simp only [F_Vals, va_up]
  repeat' split
  all_goals first | rfl | omega

theorem F_Vals_lt {n : Nat} {f : Nat → am_C} {r N x : Nat} (hx : x < n) (hr : x ≠ r) : F_Vals n f r N x = f x := by
  unfold F_Vals
  (repeat rw [va_up_ne _ _ (by omega)])
theorem F_Vals_self {n : Nat} {f : Nat → am_C} {r N : Nat} : F_Vals n f r N r = .inr (11, [.ref n, .ref (n + 1), .ref (n + 2), .ref (n + 3)]) := by
  unfold F_Vals
  rw [va_up_self]

def F_Code_init_1500 (n : Nat) (f : Nat → am_C) (r : Nat) : Nat → am_C := va_up (F_Vals (n + 2) (va_up (va_up (va_up f n (.inl (.int, 6000, fun _ => .int 0))) r (.inr (12, [.ref n, .null, .int 0, .int 0, .int 0, .int 0, .int 0, .int 0, .int 0, .int 0]))) (n + 1) (.inr (11, [.null, .null, .null, .null]))) (n + 1) 1500) r (.inr (12, [.ref n, .ref (n + 1), .int 0, .int 0, .int 0, .int 0, .int 0, .int 0, .int 0, .int 0]))
theorem F_Code_init_1500_lt {n : Nat} {f : Nat → am_C} {r x : Nat} (hx : x < n) (hr : x ≠ r) : F_Code_init_1500 n f r x = f x := by
  unfold F_Code_init_1500
  (repeat (first | rw [va_up_ne _ _ (by omega)] | rw [F_Vals_lt (by omega) (by omega)]))
theorem F_Code_init_1500_self {n : Nat} {f : Nat → am_C} {r : Nat} (hr : r < n) : F_Code_init_1500 n f r r = .inr (12, [.ref n, .ref (n + 1), .int 0, .int 0, .int 0, .int 0, .int 0, .int 0, .int 0, .int 0]) := by
  unfold F_Code_init_1500
  (repeat (first | rw [va_up_self] | rw [va_up_ne _ _ (by omega)] | rw [F_Vals_lt (by omega) (by omega)]))

set_option maxRecDepth 100000 in
set_option maxHeartbeats 4000000 in
theorem c_Code_init_1500 (O : am_ok K X)  {n r : Nat} {f : Nat → am_C} (h0 : f r = .inr (12, [.null, .null, .int 0, .int 0, .int 0, .int 0, .int 0, .int 0, .int 0, .int 0])) (h1 : 128 ≤ r) (h2 : r < n) : am_Mt K X m_Code_init 2 6 12004 [.ref r, .int 1500] (n, f) (fun v h' => v = none ∧ h' = (n + 6, F_Code_init_1500 n f r)) := by
  refine am_enter (by decide +kernel) (Nat.le_of_ble_eq_true rfl) ?_
  refine am_aload_n d_Code_init_0 rfl rfl ?_
  refine am_obj w_1494 w_177 w_178 d_Code_init_1 (by omega) (Nat.le_of_ble_eq_true rfl) ?_
  refine am_aload_n d_Code_init_4 rfl rfl ?_
  refine am_iconst (v := 4) d_Code_init_5 (by decide) ?_
  refine am_iload_n d_Code_init_6 rfl rfl ?_
  refine am_imul d_Code_init_7 ?_
  refine am_newa (at_ := .int) (ty := .int) (N := 6000) O rfl (by decide) w_317 d_Code_init_8 (by decide) (by decide) (by decide) (by omega) (by omega) ?_
  refine am_putF O f_Code_7 (fun q hq => by cases hq; exact ⟨w_1521, rfl⟩) rfl d_Code_init_10 (by (repeat (first | rw [va_up_self] | rw [va_up_ne _ _ (by omega)] | rw [F_Vals_lt (by omega) (by omega)])); first | done | rfl | assumption) (by omega) (by omega) (Nat.le_of_ble_eq_true rfl) (fun q hq => by cases hq; exact ⟨rfl, rfl, rfl⟩) ?_
  refine am_aload_n d_Code_init_13 rfl rfl ?_
  refine am_new O n_Code_13 d_Code_init_14 (by omega) (by omega) ?_
  refine am_dup d_Code_init_17 rfl ?_
  refine am_iload_n d_Code_init_18 rfl rfl ?_
  refine am_callI O (c_Vals_init (N := 1500) O (by (repeat (first | rw [va_up_self] | rw [va_up_ne _ _ (by omega)] | rw [F_Vals_lt (by omega) (by omega)])); first | done | rfl | assumption) (by omega) (by omega) (by decide) (by decide) (by omega)) rfl l_Code_15 w_1498 rfl rfl rfl (Nat.le_of_ble_eq_true rfl) d_Code_init_19 (by omega) (by omega) (by omega) (fun v h' hp => ?_)
  obtain ⟨rfl, rfl⟩ := hp
  refine am_putF O f_Code_18 (fun q hq => by cases hq; exact ⟨w_1523, rfl⟩) rfl d_Code_init_22 (by (repeat (first | rw [va_up_self] | rw [va_up_ne _ _ (by omega)] | rw [F_Vals_lt (by omega) (by omega)])); first | done | rfl | assumption) (by omega) (by omega) (Nat.le_of_ble_eq_true rfl) (fun q hq => by cases hq; exact ⟨rfl, rfl, rfl⟩) ?_
  exact am_vret rfl d_Code_init_25 ⟨rfl, rfl⟩

def F_Code_init_400 (n : Nat) (f : Nat → am_C) (r : Nat) : Nat → am_C := va_up (F_Vals (n + 2) (va_up (va_up (va_up f n (.inl (.int, 1600, fun _ => .int 0))) r (.inr (12, [.ref n, .null, .int 0, .int 0, .int 0, .int 0, .int 0, .int 0, .int 0, .int 0]))) (n + 1) (.inr (11, [.null, .null, .null, .null]))) (n + 1) 400) r (.inr (12, [.ref n, .ref (n + 1), .int 0, .int 0, .int 0, .int 0, .int 0, .int 0, .int 0, .int 0]))
theorem F_Code_init_400_lt {n : Nat} {f : Nat → am_C} {r x : Nat} (hx : x < n) (hr : x ≠ r) : F_Code_init_400 n f r x = f x := by
  unfold F_Code_init_400
  (repeat (first | rw [va_up_ne _ _ (by omega)] | rw [F_Vals_lt (by omega) (by omega)] | rw [F_Code_init_1500_lt (by omega) (by omega)]))
theorem F_Code_init_400_self {n : Nat} {f : Nat → am_C} {r : Nat} (hr : r < n) : F_Code_init_400 n f r r = .inr (12, [.ref n, .ref (n + 1), .int 0, .int 0, .int 0, .int 0, .int 0, .int 0, .int 0, .int 0]) := by
  unfold F_Code_init_400
  (repeat (first | rw [va_up_self] | rw [va_up_ne _ _ (by omega)] | rw [F_Vals_lt (by omega) (by omega)] | rw [F_Code_init_1500_lt (by omega) (by omega)]))

set_option maxRecDepth 100000 in
set_option maxHeartbeats 4000000 in
theorem c_Code_init_400 (O : am_ok K X)  {n r : Nat} {f : Nat → am_C} (h0 : f r = .inr (12, [.null, .null, .int 0, .int 0, .int 0, .int 0, .int 0, .int 0, .int 0, .int 0])) (h1 : 128 ≤ r) (h2 : r < n) : am_Mt K X m_Code_init 2 6 3204 [.ref r, .int 400] (n, f) (fun v h' => v = none ∧ h' = (n + 6, F_Code_init_400 n f r)) := by
  refine am_enter (by decide +kernel) (Nat.le_of_ble_eq_true rfl) ?_
  refine am_aload_n d_Code_init_0 rfl rfl ?_
  refine am_obj w_1494 w_177 w_178 d_Code_init_1 (by omega) (Nat.le_of_ble_eq_true rfl) ?_
  refine am_aload_n d_Code_init_4 rfl rfl ?_
  refine am_iconst (v := 4) d_Code_init_5 (by decide) ?_
  refine am_iload_n d_Code_init_6 rfl rfl ?_
  refine am_imul d_Code_init_7 ?_
  refine am_newa (at_ := .int) (ty := .int) (N := 1600) O rfl (by decide) w_317 d_Code_init_8 (by decide) (by decide) (by decide) (by omega) (by omega) ?_
  refine am_putF O f_Code_7 (fun q hq => by cases hq; exact ⟨w_1521, rfl⟩) rfl d_Code_init_10 (by (repeat (first | rw [va_up_self] | rw [va_up_ne _ _ (by omega)] | rw [F_Vals_lt (by omega) (by omega)] | rw [F_Code_init_1500_lt (by omega) (by omega)])); first | done | rfl | assumption) (by omega) (by omega) (Nat.le_of_ble_eq_true rfl) (fun q hq => by cases hq; exact ⟨rfl, rfl, rfl⟩) ?_
  refine am_aload_n d_Code_init_13 rfl rfl ?_
  refine am_new O n_Code_13 d_Code_init_14 (by omega) (by omega) ?_
  refine am_dup d_Code_init_17 rfl ?_
  refine am_iload_n d_Code_init_18 rfl rfl ?_
  refine am_callI O (c_Vals_init (N := 400) O (by (repeat (first | rw [va_up_self] | rw [va_up_ne _ _ (by omega)] | rw [F_Vals_lt (by omega) (by omega)] | rw [F_Code_init_1500_lt (by omega) (by omega)])); first | done | rfl | assumption) (by omega) (by omega) (by decide) (by decide) (by omega)) rfl l_Code_15 w_1498 rfl rfl rfl (Nat.le_of_ble_eq_true rfl) d_Code_init_19 (by omega) (by omega) (by omega) (fun v h' hp => ?_)
  obtain ⟨rfl, rfl⟩ := hp
  refine am_putF O f_Code_18 (fun q hq => by cases hq; exact ⟨w_1523, rfl⟩) rfl d_Code_init_22 (by (repeat (first | rw [va_up_self] | rw [va_up_ne _ _ (by omega)] | rw [F_Vals_lt (by omega) (by omega)] | rw [F_Code_init_1500_lt (by omega) (by omega)])); first | done | rfl | assumption) (by omega) (by omega) (Nat.le_of_ble_eq_true rfl) (fun q hq => by cases hq; exact ⟨rfl, rfl, rfl⟩) ?_
  exact am_vret rfl d_Code_init_25 ⟨rfl, rfl⟩

def F_State_init (n : Nat) (f : Nat → am_C) (r : Nat) : Nat → am_C := va_up (va_up (va_up (F_Vals (n + 11) (va_up (va_up (F_Vals (n + 6) (va_up (va_up (va_up (va_up (va_up (va_up (va_up (va_up (va_up (va_up (va_up f n (.inl (.int, 100, fun _ => .int 0))) r (.inr (13, [.ref n, .null, .null, .null, .null, .null, .null, .null, .int 0, .int 0, .int 0, .int 0]))) (n + 1) (.inl (.int, 100, fun _ => .int 0))) r (.inr (13, [.ref n, .ref (n + 1), .null, .null, .null, .null, .null, .null, .int 0, .int 0, .int 0, .int 0]))) (n + 2) (.inl (.long, 800, fun _ => .long 0))) r (.inr (13, [.ref n, .ref (n + 1), .ref (n + 2), .null, .null, .null, .null, .null, .int 0, .int 0, .int 0, .int 0]))) (n + 3) (.inl (.long, 12, fun _ => .long 0))) r (.inr (13, [.ref n, .ref (n + 1), .ref (n + 2), .ref (n + 3), .null, .null, .null, .null, .int 0, .int 0, .int 0, .int 0]))) (n + 4) (.inl (.long, 10, fun _ => .long 0))) r (.inr (13, [.ref n, .ref (n + 1), .ref (n + 2), .ref (n + 3), .ref (n + 4), .null, .null, .null, .int 0, .int 0, .int 0, .int 0]))) (n + 5) (.inr (11, [.null, .null, .null, .null]))) (n + 5) 2000) r (.inr (13, [.ref n, .ref (n + 1), .ref (n + 2), .ref (n + 3), .ref (n + 4), .ref (n + 5), .null, .null, .int 0, .int 0, .int 0, .int 0]))) (n + 10) (.inr (11, [.null, .null, .null, .null]))) (n + 10) 12) r (.inr (13, [.ref n, .ref (n + 1), .ref (n + 2), .ref (n + 3), .ref (n + 4), .ref (n + 5), .ref (n + 10), .null, .int 0, .int 0, .int 0, .int 0]))) (n + 15) (.inl (.object "StowTongueModel$Code", 10, fun _ => .null))) r (.inr (13, [.ref n, .ref (n + 1), .ref (n + 2), .ref (n + 3), .ref (n + 4), .ref (n + 5), .ref (n + 10), .ref (n + 15), .int 0, .int 0, .int 0, .int 0]))
theorem F_State_init_lt {n : Nat} {f : Nat → am_C} {r x : Nat} (hx : x < n) (hr : x ≠ r) : F_State_init n f r x = f x := by
  unfold F_State_init
  (repeat (first | rw [va_up_ne _ _ (by omega)] | rw [F_Vals_lt (by omega) (by omega)] | rw [F_Code_init_1500_lt (by omega) (by omega)] | rw [F_Code_init_400_lt (by omega) (by omega)]))
theorem F_State_init_self {n : Nat} {f : Nat → am_C} {r : Nat} (hr : r < n) : F_State_init n f r r = .inr (13, [.ref n, .ref (n + 1), .ref (n + 2), .ref (n + 3), .ref (n + 4), .ref (n + 5), .ref (n + 10), .ref (n + 15), .int 0, .int 0, .int 0, .int 0]) := by
  unfold F_State_init
  (repeat (first | rw [va_up_self] | rw [va_up_ne _ _ (by omega)] | rw [F_Vals_lt (by omega) (by omega)] | rw [F_Code_init_1500_lt (by omega) (by omega)] | rw [F_Code_init_400_lt (by omega) (by omega)]))

set_option maxRecDepth 100000 in
set_option maxHeartbeats 4000000 in
theorem c_State_init (O : am_ok K X)  {n r : Nat} {f : Nat → am_C} (h0 : f r = .inr (13, [.null, .null, .null, .null, .null, .null, .null, .null, .int 0, .int 0, .int 0, .int 0])) (h1 : 128 ≤ r) (h2 : r < n) : am_Mt K X m_State_init 2 16 9088 [.ref r] (n, f) (fun v h' => v = none ∧ h' = (n + 16, F_State_init n f r)) := by
  refine am_enter (by decide +kernel) (Nat.le_of_ble_eq_true rfl) ?_
  refine am_aload_n d_State_init_0 rfl rfl ?_
  refine am_obj w_1566 w_177 w_178 d_State_init_1 (by omega) (Nat.le_of_ble_eq_true rfl) ?_
  refine am_aload_n d_State_init_4 rfl rfl ?_
  refine am_bipush (v := 100) d_State_init_5 (by decide) ?_
  refine am_newa (at_ := .int) (ty := .int) (N := 100) O rfl (by decide) w_317 d_State_init_7 (by decide) (by decide) (by decide) (by omega) (by omega) ?_
  refine am_putF O f_State_9 (fun q hq => by cases hq; exact ⟨w_1571, rfl⟩) rfl d_State_init_9 (by (repeat (first | rw [va_up_self] | rw [va_up_ne _ _ (by omega)] | rw [F_Vals_lt (by omega) (by omega)] | rw [F_Code_init_1500_lt (by omega) (by omega)] | rw [F_Code_init_400_lt (by omega) (by omega)])); first | done | rfl | assumption) (by omega) (by omega) (Nat.le_of_ble_eq_true rfl) (fun q hq => by cases hq; exact ⟨rfl, rfl, rfl⟩) ?_
  refine am_aload_n d_State_init_12 rfl rfl ?_
  refine am_bipush (v := 100) d_State_init_13 (by decide) ?_
  refine am_newa (at_ := .int) (ty := .int) (N := 100) O rfl (by decide) w_317 d_State_init_15 (by decide) (by decide) (by decide) (by omega) (by omega) ?_
  refine am_putF O f_State_15 (fun q hq => by cases hq; exact ⟨w_1573, rfl⟩) rfl d_State_init_17 (by (repeat (first | rw [va_up_self] | rw [va_up_ne _ _ (by omega)] | rw [F_Vals_lt (by omega) (by omega)] | rw [F_Code_init_1500_lt (by omega) (by omega)] | rw [F_Code_init_400_lt (by omega) (by omega)])); first | done | rfl | assumption) (by omega) (by omega) (Nat.le_of_ble_eq_true rfl) (fun q hq => by cases hq; exact ⟨rfl, rfl, rfl⟩) ?_
  refine am_aload_n d_State_init_20 rfl rfl ?_
  refine am_sipush (v := 800) d_State_init_21 (by decide) ?_
  refine am_newa (at_ := .long) (ty := .long) (N := 800) O rfl (by decide) w_291 d_State_init_24 (by decide) (by decide) (by decide) (by omega) (by omega) ?_
  refine am_putF O f_State_18 (fun q hq => by cases hq; exact ⟨w_1575, rfl⟩) rfl d_State_init_26 (by (repeat (first | rw [va_up_self] | rw [va_up_ne _ _ (by omega)] | rw [F_Vals_lt (by omega) (by omega)] | rw [F_Code_init_1500_lt (by omega) (by omega)] | rw [F_Code_init_400_lt (by omega) (by omega)])); first | done | rfl | assumption) (by omega) (by omega) (Nat.le_of_ble_eq_true rfl) (fun q hq => by cases hq; exact ⟨rfl, rfl, rfl⟩) ?_
  refine am_aload_n d_State_init_29 rfl rfl ?_
  refine am_bipush (v := 12) d_State_init_30 (by decide) ?_
  refine am_newa (at_ := .long) (ty := .long) (N := 12) O rfl (by decide) w_291 d_State_init_32 (by decide) (by decide) (by decide) (by omega) (by omega) ?_
  refine am_putF O f_State_22 (fun q hq => by cases hq; exact ⟨w_1577, rfl⟩) rfl d_State_init_34 (by (repeat (first | rw [va_up_self] | rw [va_up_ne _ _ (by omega)] | rw [F_Vals_lt (by omega) (by omega)] | rw [F_Code_init_1500_lt (by omega) (by omega)] | rw [F_Code_init_400_lt (by omega) (by omega)])); first | done | rfl | assumption) (by omega) (by omega) (Nat.le_of_ble_eq_true rfl) (fun q hq => by cases hq; exact ⟨rfl, rfl, rfl⟩) ?_
  refine am_aload_n d_State_init_37 rfl rfl ?_
  refine am_bipush (v := 10) d_State_init_38 (by decide) ?_
  refine am_newa (at_ := .long) (ty := .long) (N := 10) O rfl (by decide) w_291 d_State_init_40 (by decide) (by decide) (by decide) (by omega) (by omega) ?_
  refine am_putF O f_State_25 (fun q hq => by cases hq; exact ⟨w_1579, rfl⟩) rfl d_State_init_42 (by (repeat (first | rw [va_up_self] | rw [va_up_ne _ _ (by omega)] | rw [F_Vals_lt (by omega) (by omega)] | rw [F_Code_init_1500_lt (by omega) (by omega)] | rw [F_Code_init_400_lt (by omega) (by omega)])); first | done | rfl | assumption) (by omega) (by omega) (Nat.le_of_ble_eq_true rfl) (fun q hq => by cases hq; exact ⟨rfl, rfl, rfl⟩) ?_
  refine am_aload_n d_State_init_45 rfl rfl ?_
  refine am_new O n_State_28 d_State_init_46 (by omega) (by omega) ?_
  refine am_dup d_State_init_49 rfl ?_
  refine am_sipush (v := 2000) d_State_init_50 (by decide) ?_
  refine am_callI O (c_Vals_init (N := 2000) O (by (repeat (first | rw [va_up_self] | rw [va_up_ne _ _ (by omega)] | rw [F_Vals_lt (by omega) (by omega)] | rw [F_Code_init_1500_lt (by omega) (by omega)] | rw [F_Code_init_400_lt (by omega) (by omega)])); first | done | rfl | assumption) (by omega) (by omega) (by decide) (by decide) (by omega)) rfl l_State_30 w_1498 rfl rfl rfl (Nat.le_of_ble_eq_true rfl) d_State_init_53 (by omega) (by omega) (by omega) (fun v h' hp => ?_)
  obtain ⟨rfl, rfl⟩ := hp
  refine am_putF O f_State_33 (fun q hq => by cases hq; exact ⟨w_1581, rfl⟩) rfl d_State_init_56 (by (repeat (first | rw [va_up_self] | rw [va_up_ne _ _ (by omega)] | rw [F_Vals_lt (by omega) (by omega)] | rw [F_Code_init_1500_lt (by omega) (by omega)] | rw [F_Code_init_400_lt (by omega) (by omega)])); first | done | rfl | assumption) (by omega) (by omega) (Nat.le_of_ble_eq_true rfl) (fun q hq => by cases hq; exact ⟨rfl, rfl, rfl⟩) ?_
  refine am_aload_n d_State_init_59 rfl rfl ?_
  refine am_new O n_State_28 d_State_init_60 (by omega) (by omega) ?_
  refine am_dup d_State_init_63 rfl ?_
  refine am_bipush (v := 12) d_State_init_64 (by decide) ?_
  refine am_callI O (c_Vals_init (N := 12) O (by (repeat (first | rw [va_up_self] | rw [va_up_ne _ _ (by omega)] | rw [F_Vals_lt (by omega) (by omega)] | rw [F_Code_init_1500_lt (by omega) (by omega)] | rw [F_Code_init_400_lt (by omega) (by omega)])); first | done | rfl | assumption) (by omega) (by omega) (by decide) (by decide) (by omega)) rfl l_State_30 w_1498 rfl rfl rfl (Nat.le_of_ble_eq_true rfl) d_State_init_66 (by omega) (by omega) (by omega) (fun v h' hp => ?_)
  obtain ⟨rfl, rfl⟩ := hp
  refine am_putF O f_State_37 (fun q hq => by cases hq; exact ⟨w_1583, rfl⟩) rfl d_State_init_69 (by (repeat (first | rw [va_up_self] | rw [va_up_ne _ _ (by omega)] | rw [F_Vals_lt (by omega) (by omega)] | rw [F_Code_init_1500_lt (by omega) (by omega)] | rw [F_Code_init_400_lt (by omega) (by omega)])); first | done | rfl | assumption) (by omega) (by omega) (Nat.le_of_ble_eq_true rfl) (fun q hq => by cases hq; exact ⟨rfl, rfl, rfl⟩) ?_
  refine am_aload_n d_State_init_72 rfl rfl ?_
  refine am_bipush (v := 10) d_State_init_73 (by decide) ?_
  refine am_anew (N := 10) O (by decide) w_1569 x_1570 d_State_init_75 (by decide) (by decide) (by decide) (by omega) (by omega) ?_
  refine am_putF O f_State_42 (fun q hq => by cases hq; exact ⟨w_1585, rfl⟩) rfl d_State_init_78 (by (repeat (first | rw [va_up_self] | rw [va_up_ne _ _ (by omega)] | rw [F_Vals_lt (by omega) (by omega)] | rw [F_Code_init_1500_lt (by omega) (by omega)] | rw [F_Code_init_400_lt (by omega) (by omega)])); first | done | rfl | assumption) (by omega) (by omega) (Nat.le_of_ble_eq_true rfl) (fun q hq => by cases hq; exact ⟨rfl, rfl, rfl⟩) ?_
  exact am_vret rfl d_State_init_81 ⟨rfl, rfl⟩
end
