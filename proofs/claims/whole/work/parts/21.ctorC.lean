section
variable {K : am_K} {X : Nat → am_C}
def F_Out_init (n : Nat) (f : Nat → am_C) (r : Nat) : Nat → am_C := va_up (va_up f n (.inl (.byte, 600, fun _ => .int 0))) r (.inr (0, [.ref n, .int 0, .int 0]))
theorem F_Out_init_lt {n : Nat} {f : Nat → am_C} {r x : Nat} (hx : x < n) (hr : x ≠ r) : F_Out_init n f r x = f x := by
  unfold F_Out_init
  (repeat (first | rw [va_up_ne _ _ (by omega)] | rw [F_Vals_lt (by omega) (by omega)] | rw [F_Code_init_1500_lt (by omega) (by omega)] | rw [F_Code_init_400_lt (by omega) (by omega)] | rw [F_State_init_lt (by omega) (by omega)]))
theorem F_Out_init_self {n : Nat} {f : Nat → am_C} {r : Nat} (hr : r < n) : F_Out_init n f r r = .inr (0, [.ref n, .int 0, .int 0]) := by
  unfold F_Out_init
  (repeat (first | rw [va_up_self] | rw [va_up_ne _ _ (by omega)] | rw [F_Vals_lt (by omega) (by omega)] | rw [F_Code_init_1500_lt (by omega) (by omega)] | rw [F_Code_init_400_lt (by omega) (by omega)] | rw [F_State_init_lt (by omega) (by omega)]))

set_option maxRecDepth 100000 in
set_option maxHeartbeats 4000000 in
theorem c_Out_init (O : am_ok K X)  {n r : Nat} {f : Nat → am_C} (h0 : f r = .inr (0, [.null, .int 0, .int 0])) (h1 : 128 ≤ r) (h2 : r < n) : am_Mt K X m_Out_init 1 1 600 [.ref r] (n, f) (fun v h' => v = none ∧ h' = (n + 1, F_Out_init n f r)) := by
  refine am_enter (by decide +kernel) (Nat.le_of_ble_eq_true rfl) ?_
  refine am_aload_n d_Out_init_0 rfl rfl ?_
  refine am_obj w_184 w_177 w_178 d_Out_init_1 (by omega) (Nat.le_of_ble_eq_true rfl) ?_
  refine am_aload_n d_Out_init_4 rfl rfl ?_
  refine am_sipush (v := 600) d_Out_init_5 (by decide) ?_
  refine am_newa (at_ := .byte) (ty := .byte) (N := 600) O rfl (by decide) w_195 d_Out_init_8 (by decide) (by decide) (by decide) (by omega) (by omega) ?_
  refine am_putF O f_Out_11 (fun q hq => by cases hq; exact ⟨w_185, rfl⟩) rfl d_Out_init_10 (by (repeat (first | rw [va_up_self] | rw [va_up_ne _ _ (by omega)] | rw [F_Vals_lt (by omega) (by omega)] | rw [F_Code_init_1500_lt (by omega) (by omega)] | rw [F_Code_init_400_lt (by omega) (by omega)] | rw [F_State_init_lt (by omega) (by omega)])); first | done | rfl | assumption) (by omega) (by omega) (Nat.le_of_ble_eq_true rfl) (fun q hq => by cases hq; exact ⟨rfl, rfl, rfl⟩) ?_
  exact am_vret rfl d_Out_init_13 ⟨rfl, rfl⟩

def F_Draft_init (n : Nat) (f : Nat → am_C) (r : Nat) : Nat → am_C := va_up (va_up (va_up (va_up (va_up (va_up f n (.inl (.int, 128, fun _ => .int 0))) r (.inr (2, [.ref n, .int 0, .null, .int 0, .null, .int 0]))) (n + 1) (.inl (.long, 32, fun _ => .long 0))) r (.inr (2, [.ref n, .int 0, .ref (n + 1), .int 0, .null, .int 0]))) (n + 2) (.inl (.long, 16, fun _ => .long 0))) r (.inr (2, [.ref n, .int 0, .ref (n + 1), .int 0, .ref (n + 2), .int 0]))
theorem F_Draft_init_lt {n : Nat} {f : Nat → am_C} {r x : Nat} (hx : x < n) (hr : x ≠ r) : F_Draft_init n f r x = f x := by
  unfold F_Draft_init
  (repeat (first | rw [va_up_ne _ _ (by omega)] | rw [F_Vals_lt (by omega) (by omega)] | rw [F_Code_init_1500_lt (by omega) (by omega)] | rw [F_Code_init_400_lt (by omega) (by omega)] | rw [F_State_init_lt (by omega) (by omega)] | rw [F_Out_init_lt (by omega) (by omega)]))
theorem F_Draft_init_self {n : Nat} {f : Nat → am_C} {r : Nat} (hr : r < n) : F_Draft_init n f r r = .inr (2, [.ref n, .int 0, .ref (n + 1), .int 0, .ref (n + 2), .int 0]) := by
  unfold F_Draft_init
  (repeat (first | rw [va_up_self] | rw [va_up_ne _ _ (by omega)] | rw [F_Vals_lt (by omega) (by omega)] | rw [F_Code_init_1500_lt (by omega) (by omega)] | rw [F_Code_init_400_lt (by omega) (by omega)] | rw [F_State_init_lt (by omega) (by omega)] | rw [F_Out_init_lt (by omega) (by omega)]))

set_option maxRecDepth 100000 in
set_option maxHeartbeats 4000000 in
theorem c_Draft_init (O : am_ok K X)  {n r : Nat} {f : Nat → am_C} (h0 : f r = .inr (2, [.null, .int 0, .null, .int 0, .null, .int 0])) (h1 : 128 ≤ r) (h2 : r < n) : am_Mt K X m_Draft_init 1 3 176 [.ref r] (n, f) (fun v h' => v = none ∧ h' = (n + 3, F_Draft_init n f r)) := by
  refine am_enter (by decide +kernel) (Nat.le_of_ble_eq_true rfl) ?_
  refine am_aload_n d_Draft_init_0 rfl rfl ?_
  refine am_obj w_297 w_177 w_178 d_Draft_init_1 (by omega) (Nat.le_of_ble_eq_true rfl) ?_
  refine am_aload_n d_Draft_init_4 rfl rfl ?_
  refine am_sipush (v := 128) d_Draft_init_5 (by decide) ?_
  refine am_newa (at_ := .int) (ty := .int) (N := 128) O rfl (by decide) w_317 d_Draft_init_8 (by decide) (by decide) (by decide) (by omega) (by omega) ?_
  refine am_put O f_Draft_7 d_Draft_init_10 (by (repeat (first | rw [va_up_self] | rw [va_up_ne _ _ (by omega)] | rw [F_Vals_lt (by omega) (by omega)] | rw [F_Code_init_1500_lt (by omega) (by omega)] | rw [F_Code_init_400_lt (by omega) (by omega)] | rw [F_State_init_lt (by omega) (by omega)] | rw [F_Out_init_lt (by omega) (by omega)])); first | done | rfl | assumption) (by omega) (by omega) (Nat.le_of_ble_eq_true rfl) (fun q hq => by cases hq; exact ⟨rfl, rfl, rfl⟩) ?_
  refine am_aload_n d_Draft_init_13 rfl rfl ?_
  refine am_bipush (v := 32) d_Draft_init_14 (by decide) ?_
  refine am_newa (at_ := .long) (ty := .long) (N := 32) O rfl (by decide) w_291 d_Draft_init_16 (by decide) (by decide) (by decide) (by omega) (by omega) ?_
  refine am_put O f_Draft_13 d_Draft_init_18 (by (repeat (first | rw [va_up_self] | rw [va_up_ne _ _ (by omega)] | rw [F_Vals_lt (by omega) (by omega)] | rw [F_Code_init_1500_lt (by omega) (by omega)] | rw [F_Code_init_400_lt (by omega) (by omega)] | rw [F_State_init_lt (by omega) (by omega)] | rw [F_Out_init_lt (by omega) (by omega)])); first | done | rfl | assumption) (by omega) (by omega) (Nat.le_of_ble_eq_true rfl) (fun q hq => by cases hq; exact ⟨rfl, rfl, rfl⟩) ?_
  refine am_aload_n d_Draft_init_21 rfl rfl ?_
  refine am_bipush (v := 16) d_Draft_init_22 (by decide) ?_
  refine am_newa (at_ := .long) (ty := .long) (N := 16) O rfl (by decide) w_291 d_Draft_init_24 (by decide) (by decide) (by decide) (by omega) (by omega) ?_
  refine am_put O f_Draft_17 d_Draft_init_26 (by (repeat (first | rw [va_up_self] | rw [va_up_ne _ _ (by omega)] | rw [F_Vals_lt (by omega) (by omega)] | rw [F_Code_init_1500_lt (by omega) (by omega)] | rw [F_Code_init_400_lt (by omega) (by omega)] | rw [F_State_init_lt (by omega) (by omega)] | rw [F_Out_init_lt (by omega) (by omega)])); first | done | rfl | assumption) (by omega) (by omega) (Nat.le_of_ble_eq_true rfl) (fun q hq => by cases hq; exact ⟨rfl, rfl, rfl⟩) ?_
  exact am_vret rfl d_Draft_init_29 ⟨rfl, rfl⟩

def F_Sweep_init (n : Nat) (f : Nat → am_C) (r : Nat) : Nat → am_C := va_up (va_up (va_up (va_up f n (.inl (.boolean, 100, fun _ => .int 0))) r (.inr (8, [.ref n, .null, .int 0]))) (n + 1) (.inl (.int, 100, fun _ => .int 0))) r (.inr (8, [.ref n, .ref (n + 1), .int 0]))
theorem F_Sweep_init_lt {n : Nat} {f : Nat → am_C} {r x : Nat} (hx : x < n) (hr : x ≠ r) : F_Sweep_init n f r x = f x := by
  unfold F_Sweep_init
  (repeat (first | rw [va_up_ne _ _ (by omega)] | rw [F_Vals_lt (by omega) (by omega)] | rw [F_Code_init_1500_lt (by omega) (by omega)] | rw [F_Code_init_400_lt (by omega) (by omega)] | rw [F_State_init_lt (by omega) (by omega)] | rw [F_Out_init_lt (by omega) (by omega)] | rw [F_Draft_init_lt (by omega) (by omega)]))
theorem F_Sweep_init_self {n : Nat} {f : Nat → am_C} {r : Nat} (hr : r < n) : F_Sweep_init n f r r = .inr (8, [.ref n, .ref (n + 1), .int 0]) := by
  unfold F_Sweep_init
  (repeat (first | rw [va_up_self] | rw [va_up_ne _ _ (by omega)] | rw [F_Vals_lt (by omega) (by omega)] | rw [F_Code_init_1500_lt (by omega) (by omega)] | rw [F_Code_init_400_lt (by omega) (by omega)] | rw [F_State_init_lt (by omega) (by omega)] | rw [F_Out_init_lt (by omega) (by omega)] | rw [F_Draft_init_lt (by omega) (by omega)]))

set_option maxRecDepth 100000 in
set_option maxHeartbeats 4000000 in
theorem c_Sweep_init (O : am_ok K X)  {n r : Nat} {f : Nat → am_C} (h0 : f r = .inr (8, [.null, .null, .int 0])) (h1 : 128 ≤ r) (h2 : r < n) : am_Mt K X m_Sweep_init 1 2 200 [.ref r] (n, f) (fun v h' => v = none ∧ h' = (n + 2, F_Sweep_init n f r)) := by
  refine am_enter (by decide +kernel) (Nat.le_of_ble_eq_true rfl) ?_
  refine am_aload_n d_Sweep_init_0 rfl rfl ?_
  refine am_obj w_483 w_177 w_178 d_Sweep_init_1 (by omega) (Nat.le_of_ble_eq_true rfl) ?_
  refine am_aload_n d_Sweep_init_4 rfl rfl ?_
  refine am_bipush (v := 100) d_Sweep_init_5 (by decide) ?_
  refine am_newa (at_ := .boolean) (ty := .boolean) (N := 100) O rfl (by decide) w_494 d_Sweep_init_7 (by decide) (by decide) (by decide) (by omega) (by omega) ?_
  refine am_putF O f_Sweep_9 (fun q hq => by cases hq; exact ⟨w_484, rfl⟩) rfl d_Sweep_init_9 (by (repeat (first | rw [va_up_self] | rw [va_up_ne _ _ (by omega)] | rw [F_Vals_lt (by omega) (by omega)] | rw [F_Code_init_1500_lt (by omega) (by omega)] | rw [F_Code_init_400_lt (by omega) (by omega)] | rw [F_State_init_lt (by omega) (by omega)] | rw [F_Out_init_lt (by omega) (by omega)] | rw [F_Draft_init_lt (by omega) (by omega)])); first | done | rfl | assumption) (by omega) (by omega) (Nat.le_of_ble_eq_true rfl) (fun q hq => by cases hq; exact ⟨rfl, rfl, rfl⟩) ?_
  refine am_aload_n d_Sweep_init_12 rfl rfl ?_
  refine am_bipush (v := 100) d_Sweep_init_13 (by decide) ?_
  refine am_newa (at_ := .int) (ty := .int) (N := 100) O rfl (by decide) w_317 d_Sweep_init_15 (by decide) (by decide) (by decide) (by omega) (by omega) ?_
  refine am_putF O f_Sweep_15 (fun q hq => by cases hq; exact ⟨w_485, rfl⟩) rfl d_Sweep_init_17 (by (repeat (first | rw [va_up_self] | rw [va_up_ne _ _ (by omega)] | rw [F_Vals_lt (by omega) (by omega)] | rw [F_Code_init_1500_lt (by omega) (by omega)] | rw [F_Code_init_400_lt (by omega) (by omega)] | rw [F_State_init_lt (by omega) (by omega)] | rw [F_Out_init_lt (by omega) (by omega)] | rw [F_Draft_init_lt (by omega) (by omega)])); first | done | rfl | assumption) (by omega) (by omega) (Nat.le_of_ble_eq_true rfl) (fun q hq => by cases hq; exact ⟨rfl, rfl, rfl⟩) ?_
  exact am_vret rfl d_Sweep_init_20 ⟨rfl, rfl⟩

def F_Log_init (n : Nat) (f : Nat → am_C) (r : Nat) : Nat → am_C := va_up (va_up (va_up (va_up f n (.inl (.object "StowTongue$Store", 10, fun _ => .null))) r (.inr (7, [.ref n, .null, .int 0, .int 0]))) (n + 1) (.inl (.int, 10, fun _ => .int 0))) r (.inr (7, [.ref n, .ref (n + 1), .int 0, .int 0]))
theorem F_Log_init_lt {n : Nat} {f : Nat → am_C} {r x : Nat} (hx : x < n) (hr : x ≠ r) : F_Log_init n f r x = f x := by
  unfold F_Log_init
  (repeat (first | rw [va_up_ne _ _ (by omega)] | rw [F_Vals_lt (by omega) (by omega)] | rw [F_Code_init_1500_lt (by omega) (by omega)] | rw [F_Code_init_400_lt (by omega) (by omega)] | rw [F_State_init_lt (by omega) (by omega)] | rw [F_Out_init_lt (by omega) (by omega)] | rw [F_Draft_init_lt (by omega) (by omega)] | rw [F_Sweep_init_lt (by omega) (by omega)]))
theorem F_Log_init_self {n : Nat} {f : Nat → am_C} {r : Nat} (hr : r < n) : F_Log_init n f r r = .inr (7, [.ref n, .ref (n + 1), .int 0, .int 0]) := by
  unfold F_Log_init
  (repeat (first | rw [va_up_self] | rw [va_up_ne _ _ (by omega)] | rw [F_Vals_lt (by omega) (by omega)] | rw [F_Code_init_1500_lt (by omega) (by omega)] | rw [F_Code_init_400_lt (by omega) (by omega)] | rw [F_State_init_lt (by omega) (by omega)] | rw [F_Out_init_lt (by omega) (by omega)] | rw [F_Draft_init_lt (by omega) (by omega)] | rw [F_Sweep_init_lt (by omega) (by omega)]))

set_option maxRecDepth 100000 in
set_option maxHeartbeats 4000000 in
theorem c_Log_init (O : am_ok K X)  {n r : Nat} {f : Nat → am_C} (h0 : f r = .inr (7, [.null, .null, .int 0, .int 0])) (h1 : 128 ≤ r) (h2 : r < n) : am_Mt K X m_Log_init 1 2 20 [.ref r] (n, f) (fun v h' => v = none ∧ h' = (n + 2, F_Log_init n f r)) := by
  refine am_enter (by decide +kernel) (Nat.le_of_ble_eq_true rfl) ?_
  refine am_aload_n d_Log_init_0 rfl rfl ?_
  refine am_obj w_462 w_177 w_178 d_Log_init_1 (by omega) (Nat.le_of_ble_eq_true rfl) ?_
  refine am_aload_n d_Log_init_4 rfl rfl ?_
  refine am_bipush (v := 10) d_Log_init_5 (by decide) ?_
  refine am_anew (N := 10) O (by decide) w_463 x_464 d_Log_init_7 (by decide) (by decide) (by decide) (by omega) (by omega) ?_
  refine am_putF O f_Log_11 (fun q hq => by cases hq; exact ⟨w_465, rfl⟩) rfl d_Log_init_10 (by (repeat (first | rw [va_up_self] | rw [va_up_ne _ _ (by omega)] | rw [F_Vals_lt (by omega) (by omega)] | rw [F_Code_init_1500_lt (by omega) (by omega)] | rw [F_Code_init_400_lt (by omega) (by omega)] | rw [F_State_init_lt (by omega) (by omega)] | rw [F_Out_init_lt (by omega) (by omega)] | rw [F_Draft_init_lt (by omega) (by omega)] | rw [F_Sweep_init_lt (by omega) (by omega)])); first | done | rfl | assumption) (by omega) (by omega) (Nat.le_of_ble_eq_true rfl) (fun q hq => by cases hq; exact ⟨rfl, rfl, rfl⟩) ?_
  refine am_aload_n d_Log_init_13 rfl rfl ?_
  refine am_bipush (v := 10) d_Log_init_14 (by decide) ?_
  refine am_newa (at_ := .int) (ty := .int) (N := 10) O rfl (by decide) w_317 d_Log_init_16 (by decide) (by decide) (by decide) (by omega) (by omega) ?_
  refine am_putF O f_Log_15 (fun q hq => by cases hq; exact ⟨w_466, rfl⟩) rfl d_Log_init_18 (by (repeat (first | rw [va_up_self] | rw [va_up_ne _ _ (by omega)] | rw [F_Vals_lt (by omega) (by omega)] | rw [F_Code_init_1500_lt (by omega) (by omega)] | rw [F_Code_init_400_lt (by omega) (by omega)] | rw [F_State_init_lt (by omega) (by omega)] | rw [F_Out_init_lt (by omega) (by omega)] | rw [F_Draft_init_lt (by omega) (by omega)] | rw [F_Sweep_init_lt (by omega) (by omega)])); first | done | rfl | assumption) (by omega) (by omega) (Nat.le_of_ble_eq_true rfl) (fun q hq => by cases hq; exact ⟨rfl, rfl, rfl⟩) ?_
  exact am_vret rfl d_Log_init_21 ⟨rfl, rfl⟩

def F_Mach_init (n : Nat) (f : Nat → am_C) (r : Nat) : Nat → am_C := va_up (va_up (va_up (va_up (va_up (va_up (va_up (va_up (va_up (va_up f n (.inl (.long, 64, fun _ => .long 0))) r (.inr (6, [.ref n, .null, .int 0, .int 0, .null, .int 0, .null, .null, .null, .int 0, .null, .null, .int 0, .int 0, .int 0, .int 0, .long 0, .long 0]))) (n + 1) (.inl (.long, 64, fun _ => .long 0))) r (.inr (6, [.ref n, .ref (n + 1), .int 0, .int 0, .null, .int 0, .null, .null, .null, .int 0, .null, .null, .int 0, .int 0, .int 0, .int 0, .long 0, .long 0]))) (n + 2) (.inl (.object "StowTongue$Unit", 8, fun _ => .null))) r (.inr (6, [.ref n, .ref (n + 1), .int 0, .int 0, .null, .int 0, .ref (n + 2), .null, .null, .int 0, .null, .null, .int 0, .int 0, .int 0, .int 0, .long 0, .long 0]))) (n + 3) (.inl (.int, 8, fun _ => .int 0))) r (.inr (6, [.ref n, .ref (n + 1), .int 0, .int 0, .null, .int 0, .ref (n + 2), .ref (n + 3), .null, .int 0, .null, .null, .int 0, .int 0, .int 0, .int 0, .long 0, .long 0]))) (n + 4) (.inl (.int, 8, fun _ => .int 0))) r (.inr (6, [.ref n, .ref (n + 1), .int 0, .int 0, .null, .int 0, .ref (n + 2), .ref (n + 3), .ref (n + 4), .int 0, .null, .null, .int 0, .int 0, .int 0, .int 0, .long 0, .long 0]))
theorem F_Mach_init_lt {n : Nat} {f : Nat → am_C} {r x : Nat} (hx : x < n) (hr : x ≠ r) : F_Mach_init n f r x = f x := by
  unfold F_Mach_init
  (repeat (first | rw [va_up_ne _ _ (by omega)] | rw [F_Vals_lt (by omega) (by omega)] | rw [F_Code_init_1500_lt (by omega) (by omega)] | rw [F_Code_init_400_lt (by omega) (by omega)] | rw [F_State_init_lt (by omega) (by omega)] | rw [F_Out_init_lt (by omega) (by omega)] | rw [F_Draft_init_lt (by omega) (by omega)] | rw [F_Sweep_init_lt (by omega) (by omega)] | rw [F_Log_init_lt (by omega) (by omega)]))
theorem F_Mach_init_self {n : Nat} {f : Nat → am_C} {r : Nat} (hr : r < n) : F_Mach_init n f r r = .inr (6, [.ref n, .ref (n + 1), .int 0, .int 0, .null, .int 0, .ref (n + 2), .ref (n + 3), .ref (n + 4), .int 0, .null, .null, .int 0, .int 0, .int 0, .int 0, .long 0, .long 0]) := by
  unfold F_Mach_init
  (repeat (first | rw [va_up_self] | rw [va_up_ne _ _ (by omega)] | rw [F_Vals_lt (by omega) (by omega)] | rw [F_Code_init_1500_lt (by omega) (by omega)] | rw [F_Code_init_400_lt (by omega) (by omega)] | rw [F_State_init_lt (by omega) (by omega)] | rw [F_Out_init_lt (by omega) (by omega)] | rw [F_Draft_init_lt (by omega) (by omega)] | rw [F_Sweep_init_lt (by omega) (by omega)] | rw [F_Log_init_lt (by omega) (by omega)]))

set_option maxRecDepth 100000 in
set_option maxHeartbeats 4000000 in
theorem c_Mach_init (O : am_ok K X)  {n r : Nat} {f : Nat → am_C} (h0 : f r = .inr (6, [.null, .null, .int 0, .int 0, .null, .int 0, .null, .null, .null, .int 0, .null, .null, .int 0, .int 0, .int 0, .int 0, .long 0, .long 0])) (h1 : 128 ≤ r) (h2 : r < n) : am_Mt K X m_Mach_init 1 5 152 [.ref r] (n, f) (fun v h' => v = none ∧ h' = (n + 5, F_Mach_init n f r)) := by
  refine am_enter (by decide +kernel) (Nat.le_of_ble_eq_true rfl) ?_
  refine am_aload_n d_Mach_init_0 rfl rfl ?_
  refine am_obj w_399 w_177 w_178 d_Mach_init_1 (by omega) (Nat.le_of_ble_eq_true rfl) ?_
  refine am_aload_n d_Mach_init_4 rfl rfl ?_
  refine am_bipush (v := 64) d_Mach_init_5 (by decide) ?_
  refine am_newa (at_ := .long) (ty := .long) (N := 64) O rfl (by decide) w_291 d_Mach_init_7 (by decide) (by decide) (by decide) (by omega) (by omega) ?_
  refine am_put O f_Mach_7 d_Mach_init_9 (by (repeat (first | rw [va_up_self] | rw [va_up_ne _ _ (by omega)] | rw [F_Vals_lt (by omega) (by omega)] | rw [F_Code_init_1500_lt (by omega) (by omega)] | rw [F_Code_init_400_lt (by omega) (by omega)] | rw [F_State_init_lt (by omega) (by omega)] | rw [F_Out_init_lt (by omega) (by omega)] | rw [F_Draft_init_lt (by omega) (by omega)] | rw [F_Sweep_init_lt (by omega) (by omega)] | rw [F_Log_init_lt (by omega) (by omega)])); first | done | rfl | assumption) (by omega) (by omega) (Nat.le_of_ble_eq_true rfl) (fun q hq => by cases hq; exact ⟨rfl, rfl, rfl⟩) ?_
  refine am_aload_n d_Mach_init_12 rfl rfl ?_
  refine am_bipush (v := 64) d_Mach_init_13 (by decide) ?_
  refine am_newa (at_ := .long) (ty := .long) (N := 64) O rfl (by decide) w_291 d_Mach_init_15 (by decide) (by decide) (by decide) (by omega) (by omega) ?_
  refine am_put O f_Mach_13 d_Mach_init_17 (by (repeat (first | rw [va_up_self] | rw [va_up_ne _ _ (by omega)] | rw [F_Vals_lt (by omega) (by omega)] | rw [F_Code_init_1500_lt (by omega) (by omega)] | rw [F_Code_init_400_lt (by omega) (by omega)] | rw [F_State_init_lt (by omega) (by omega)] | rw [F_Out_init_lt (by omega) (by omega)] | rw [F_Draft_init_lt (by omega) (by omega)] | rw [F_Sweep_init_lt (by omega) (by omega)] | rw [F_Log_init_lt (by omega) (by omega)])); first | done | rfl | assumption) (by omega) (by omega) (Nat.le_of_ble_eq_true rfl) (fun q hq => by cases hq; exact ⟨rfl, rfl, rfl⟩) ?_
  refine am_aload_n d_Mach_init_20 rfl rfl ?_
  refine am_bipush (v := 8) d_Mach_init_21 (by decide) ?_
  refine am_anew (N := 8) O (by decide) w_400 x_401 d_Mach_init_23 (by decide) (by decide) (by decide) (by omega) (by omega) ?_
  refine am_putF O f_Mach_18 (fun q hq => by cases hq; exact ⟨w_408, rfl⟩) rfl d_Mach_init_26 (by (repeat (first | rw [va_up_self] | rw [va_up_ne _ _ (by omega)] | rw [F_Vals_lt (by omega) (by omega)] | rw [F_Code_init_1500_lt (by omega) (by omega)] | rw [F_Code_init_400_lt (by omega) (by omega)] | rw [F_State_init_lt (by omega) (by omega)] | rw [F_Out_init_lt (by omega) (by omega)] | rw [F_Draft_init_lt (by omega) (by omega)] | rw [F_Sweep_init_lt (by omega) (by omega)] | rw [F_Log_init_lt (by omega) (by omega)])); first | done | rfl | assumption) (by omega) (by omega) (Nat.le_of_ble_eq_true rfl) (fun q hq => by cases hq; exact ⟨rfl, rfl, rfl⟩) ?_
  refine am_aload_n d_Mach_init_29 rfl rfl ?_
  refine am_bipush (v := 8) d_Mach_init_30 (by decide) ?_
  refine am_newa (at_ := .int) (ty := .int) (N := 8) O rfl (by decide) w_317 d_Mach_init_32 (by decide) (by decide) (by decide) (by omega) (by omega) ?_
  refine am_putF O f_Mach_22 (fun q hq => by cases hq; exact ⟨w_409, rfl⟩) rfl d_Mach_init_34 (by (repeat (first | rw [va_up_self] | rw [va_up_ne _ _ (by omega)] | rw [F_Vals_lt (by omega) (by omega)] | rw [F_Code_init_1500_lt (by omega) (by omega)] | rw [F_Code_init_400_lt (by omega) (by omega)] | rw [F_State_init_lt (by omega) (by omega)] | rw [F_Out_init_lt (by omega) (by omega)] | rw [F_Draft_init_lt (by omega) (by omega)] | rw [F_Sweep_init_lt (by omega) (by omega)] | rw [F_Log_init_lt (by omega) (by omega)])); first | done | rfl | assumption) (by omega) (by omega) (Nat.le_of_ble_eq_true rfl) (fun q hq => by cases hq; exact ⟨rfl, rfl, rfl⟩) ?_
  refine am_aload_n d_Mach_init_37 rfl rfl ?_
  refine am_bipush (v := 8) d_Mach_init_38 (by decide) ?_
  refine am_newa (at_ := .int) (ty := .int) (N := 8) O rfl (by decide) w_317 d_Mach_init_40 (by decide) (by decide) (by decide) (by omega) (by omega) ?_
  refine am_putF O f_Mach_26 (fun q hq => by cases hq; exact ⟨w_410, rfl⟩) rfl d_Mach_init_42 (by (repeat (first | rw [va_up_self] | rw [va_up_ne _ _ (by omega)] | rw [F_Vals_lt (by omega) (by omega)] | rw [F_Code_init_1500_lt (by omega) (by omega)] | rw [F_Code_init_400_lt (by omega) (by omega)] | rw [F_State_init_lt (by omega) (by omega)] | rw [F_Out_init_lt (by omega) (by omega)] | rw [F_Draft_init_lt (by omega) (by omega)] | rw [F_Sweep_init_lt (by omega) (by omega)] | rw [F_Log_init_lt (by omega) (by omega)])); first | done | rfl | assumption) (by omega) (by omega) (Nat.le_of_ble_eq_true rfl) (fun q hq => by cases hq; exact ⟨rfl, rfl, rfl⟩) ?_
  exact am_vret rfl d_Mach_init_45 ⟨rfl, rfl⟩
end
