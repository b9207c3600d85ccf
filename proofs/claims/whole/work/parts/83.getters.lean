section
variable {K : am_K} {X : Nat → am_C}

theorem g_Lexer_kind (O : am_ok K X) {n r : Nat} {f : Nat → am_C} {fs : List Value} {x : Int32} (V : f r = .inr (1, fs)) (vx : fs[5]? = some (.int x)) (h1 : 128 ≤ r) (h2 : r < n) : am_Mt K X m_Lexer_kind 0 0 0 [.ref r] (n, f) (fun v h' => v = some (.int x) ∧ h' = (n, f)) := by
  refine am_enter (by decide +kernel) (Nat.le_of_ble_eq_true rfl) ?_
  refine am_aload_n d_Lexer_kind_0 rfl rfl ?_
  refine am_get O f_Lexer_65 d_Lexer_kind_1 V h1 h2 vx ?_
  exact am_iret rfl d_Lexer_kind_4 ⟨rfl, rfl⟩

theorem g_Lexer_place (O : am_ok K X) {n r : Nat} {f : Nat → am_C} {fs : List Value} {x : Int32} (V : f r = .inr (1, fs)) (vx : fs[6]? = some (.int x)) (h1 : 128 ≤ r) (h2 : r < n) : am_Mt K X m_Lexer_place 0 0 0 [.ref r] (n, f) (fun v h' => v = some (.int x) ∧ h' = (n, f)) := by
  refine am_enter (by decide +kernel) (Nat.le_of_ble_eq_true rfl) ?_
  refine am_aload_n d_Lexer_place_0 rfl rfl ?_
  refine am_get O f_Lexer_58 d_Lexer_place_1 V h1 h2 vx ?_
  exact am_iret rfl d_Lexer_place_4 ⟨rfl, rfl⟩

theorem g_Lexer_head (O : am_ok K X) {n r : Nat} {f : Nat → am_C} {fs : List Value} {x : Int64} (V : f r = .inr (1, fs)) (vx : fs[8]? = some (.long x)) (h1 : 128 ≤ r) (h2 : r < n) : am_Mt K X m_Lexer_head 0 0 0 [.ref r] (n, f) (fun v h' => v = some (.long x) ∧ h' = (n, f)) := by
  refine am_enter (by decide +kernel) (Nat.le_of_ble_eq_true rfl) ?_
  refine am_aload_n d_Lexer_head_0 rfl rfl ?_
  refine am_get O f_Lexer_91 d_Lexer_head_1 V h1 h2 vx ?_
  exact am_lret rfl d_Lexer_head_4 ⟨rfl, rfl⟩

theorem g_Lexer_taken (O : am_ok K X) {n r : Nat} {f : Nat → am_C} {fs : List Value} {x : Int32} (V : f r = .inr (1, fs)) (vx : fs[4]? = some (.int x)) (h1 : 128 ≤ r) (h2 : r < n) : am_Mt K X m_Lexer_taken 0 0 0 [.ref r] (n, f) (fun v h' => v = some (.int x) ∧ h' = (n, f)) := by
  refine am_enter (by decide +kernel) (Nat.le_of_ble_eq_true rfl) ?_
  refine am_aload_n d_Lexer_taken_0 rfl rfl ?_
  refine am_get O f_Lexer_49 d_Lexer_taken_1 V h1 h2 vx ?_
  exact am_iret rfl d_Lexer_taken_4 ⟨rfl, rfl⟩

theorem g_Lexer_number (O : am_ok K X) {n r : Nat} {f : Nat → am_C} {fs : List Value} {x : Int32} (V : f r = .inr (1, fs)) (vx : fs[7]? = some (.int x)) (h1 : 128 ≤ r) (h2 : r < n) : am_Mt K X m_Lexer_number 0 0 0 [.ref r] (n, f) (fun v h' => v = some (.int x) ∧ h' = (n, f)) := by
  refine am_enter (by decide +kernel) (Nat.le_of_ble_eq_true rfl) ?_
  refine am_aload_n d_Lexer_number_0 rfl rfl ?_
  refine am_get O f_Lexer_88 d_Lexer_number_1 V h1 h2 vx ?_
  exact am_iret rfl d_Lexer_number_4 ⟨rfl, rfl⟩

theorem g_Lexer_tail (O : am_ok K X) {n r : Nat} {f : Nat → am_C} {fs : List Value} {x : Int64} (V : f r = .inr (1, fs)) (vx : fs[9]? = some (.long x)) (h1 : 128 ≤ r) (h2 : r < n) : am_Mt K X m_Lexer_tail 0 0 0 [.ref r] (n, f) (fun v h' => v = some (.long x) ∧ h' = (n, f)) := by
  refine am_enter (by decide +kernel) (Nat.le_of_ble_eq_true rfl) ?_
  refine am_aload_n d_Lexer_tail_0 rfl rfl ?_
  refine am_get O f_Lexer_95 d_Lexer_tail_1 V h1 h2 vx ?_
  exact am_lret rfl d_Lexer_tail_4 ⟨rfl, rfl⟩

theorem g_Unit_name (O : am_ok K X) {n r : Nat} {f : Nat → am_C} {fs : List Value} {x : Int64} (V : f r = .inr (4, fs)) (vx : fs[0]? = some (.long x)) (h1 : 128 ≤ r) (h2 : r < n) : am_Mt K X m_Unit_name 0 0 0 [.ref r] (n, f) (fun v h' => v = some (.long x) ∧ h' = (n, f)) := by
  refine am_enter (by decide +kernel) (Nat.le_of_ble_eq_true rfl) ?_
  refine am_aload_n d_Unit_name_0 rfl rfl ?_
  refine am_get O f_Unit_7 d_Unit_name_1 V h1 h2 vx ?_
  exact am_lret rfl d_Unit_name_4 ⟨rfl, rfl⟩

theorem g_Unit_tokens (O : am_ok K X) {n r : Nat} {f : Nat → am_C} {fs : List Value} {x : Int32} (V : f r = .inr (4, fs)) (vx : fs[3]? = some (.int x)) (h1 : 128 ≤ r) (h2 : r < n) : am_Mt K X m_Unit_tokens 0 0 0 [.ref r] (n, f) (fun v h' => v = some (.int x) ∧ h' = (n, f)) := by
  refine am_enter (by decide +kernel) (Nat.le_of_ble_eq_true rfl) ?_
  refine am_aload_n d_Unit_tokens_0 rfl rfl ?_
  refine am_get O f_Unit_20 d_Unit_tokens_1 V h1 h2 vx ?_
  exact am_iret rfl d_Unit_tokens_4 ⟨rfl, rfl⟩

theorem g_Unit_locals (O : am_ok K X) {n r : Nat} {f : Nat → am_C} {fs : List Value} {x : Int32} (V : f r = .inr (4, fs)) (vx : fs[2]? = some (.int x)) (h1 : 128 ≤ r) (h2 : r < n) : am_Mt K X m_Unit_locals 0 0 0 [.ref r] (n, f) (fun v h' => v = some (.int x) ∧ h' = (n, f)) := by
  refine am_enter (by decide +kernel) (Nat.le_of_ble_eq_true rfl) ?_
  refine am_aload_n d_Unit_locals_0 rfl rfl ?_
  refine am_get O f_Unit_17 d_Unit_locals_1 V h1 h2 vx ?_
  exact am_iret rfl d_Unit_locals_4 ⟨rfl, rfl⟩

theorem g_Unit_names (O : am_ok K X) {n r : Nat} {f : Nat → am_C} {fs : List Value} {x : Int32} (V : f r = .inr (4, fs)) (vx : fs[1]? = some (.int x)) (h1 : 128 ≤ r) (h2 : r < n) : am_Mt K X m_Unit_names 0 0 0 [.ref r] (n, f) (fun v h' => v = some (.int x) ∧ h' = (n, f)) := by
  refine am_enter (by decide +kernel) (Nat.le_of_ble_eq_true rfl) ?_
  refine am_aload_n d_Unit_names_0 rfl rfl ?_
  refine am_get O f_Unit_13 d_Unit_names_1 V h1 h2 vx ?_
  exact am_iret rfl d_Unit_names_4 ⟨rfl, rfl⟩

theorem g_Mach_taken (O : am_ok K X) {n r : Nat} {f : Nat → am_C} {fs : List Value} {x : Int32} (V : f r = .inr (6, fs)) (vx : fs[13]? = some (.int x)) (h1 : 128 ≤ r) (h2 : r < n) : am_Mt K X m_Mach_taken 0 0 0 [.ref r] (n, f) (fun v h' => v = some (.int x) ∧ h' = (n, f)) := by
  refine am_enter (by decide +kernel) (Nat.le_of_ble_eq_true rfl) ?_
  refine am_aload_n d_Mach_taken_0 rfl rfl ?_
  refine am_get O f_Mach_41 d_Mach_taken_1 V h1 h2 vx ?_
  exact am_iret rfl d_Mach_taken_4 ⟨rfl, rfl⟩

theorem g_Mach_resultHead (O : am_ok K X) {n r : Nat} {f : Nat → am_C} {fs : List Value} {x : Int64} (V : f r = .inr (6, fs)) (vx : fs[16]? = some (.long x)) (h1 : 128 ≤ r) (h2 : r < n) : am_Mt K X m_Mach_resultHead 0 0 0 [.ref r] (n, f) (fun v h' => v = some (.long x) ∧ h' = (n, f)) := by
  refine am_enter (by decide +kernel) (Nat.le_of_ble_eq_true rfl) ?_
  refine am_aload_n d_Mach_resultHead_0 rfl rfl ?_
  refine am_get O f_Mach_93 d_Mach_resultHead_1 V h1 h2 vx ?_
  exact am_lret rfl d_Mach_resultHead_4 ⟨rfl, rfl⟩

theorem g_Mach_resultTail (O : am_ok K X) {n r : Nat} {f : Nat → am_C} {fs : List Value} {x : Int64} (V : f r = .inr (6, fs)) (vx : fs[17]? = some (.long x)) (h1 : 128 ≤ r) (h2 : r < n) : am_Mt K X m_Mach_resultTail 0 0 0 [.ref r] (n, f) (fun v h' => v = some (.long x) ∧ h' = (n, f)) := by
  refine am_enter (by decide +kernel) (Nat.le_of_ble_eq_true rfl) ?_
  refine am_aload_n d_Mach_resultTail_0 rfl rfl ?_
  refine am_get O f_Mach_97 d_Mach_resultTail_1 V h1 h2 vx ?_
  exact am_lret rfl d_Mach_resultTail_4 ⟨rfl, rfl⟩

theorem g_Log_waiting (O : am_ok K X) {n r : Nat} {f : Nat → am_C} {fs : List Value} {x : Int32} (V : f r = .inr (7, fs)) (vx : fs[2]? = some (.int x)) (h1 : 128 ≤ r) (h2 : r < n) : am_Mt K X m_Log_waiting 0 0 0 [.ref r] (n, f) (fun v h' => v = some (.int x) ∧ h' = (n, f)) := by
  refine am_enter (by decide +kernel) (Nat.le_of_ble_eq_true rfl) ?_
  refine am_aload_n d_Log_waiting_0 rfl rfl ?_
  refine am_get O f_Log_27 d_Log_waiting_1 V h1 h2 vx ?_
  exact am_iret rfl d_Log_waiting_4 ⟨rfl, rfl⟩

theorem g_Store_roots (O : am_ok K X) {n r : Nat} {f : Nat → am_C} {fs : List Value} {x : Int32} (V : f r = .inr (10, fs)) (vx : fs[6]? = some (.int x)) (h1 : 128 ≤ r) (h2 : r < n) : am_Mt K X m_Store_roots 0 0 0 [.ref r] (n, f) (fun v h' => v = some (.int x) ∧ h' = (n, f)) := by
  refine am_enter (by decide +kernel) (Nat.le_of_ble_eq_true rfl) ?_
  refine am_aload_n d_Store_roots_0 rfl rfl ?_
  refine am_get O f_Store_47 d_Store_roots_1 V h1 h2 vx ?_
  exact am_iret rfl d_Store_roots_4 ⟨rfl, rfl⟩

theorem g_Store_functions (O : am_ok K X) {n r : Nat} {f : Nat → am_C} {fs : List Value} {x : Int32} (V : f r = .inr (10, fs)) (vx : fs[8]? = some (.int x)) (h1 : 128 ≤ r) (h2 : r < n) : am_Mt K X m_Store_functions 0 0 0 [.ref r] (n, f) (fun v h' => v = some (.int x) ∧ h' = (n, f)) := by
  refine am_enter (by decide +kernel) (Nat.le_of_ble_eq_true rfl) ?_
  refine am_aload_n d_Store_functions_0 rfl rfl ?_
  refine am_get O f_Store_51 d_Store_functions_1 V h1 h2 vx ?_
  exact am_iret rfl d_Store_functions_4 ⟨rfl, rfl⟩

theorem g_Log_safeBytes (O : am_ok K X) {n r : Nat} {f : Nat → am_C} {fs : List Value} {x : Int32} (V : f r = .inr (7, fs)) (vx : fs[3]? = some (.int x)) (h1 : 128 ≤ r) (h2 : r < n) : am_Mt K X m_Log_safeBytes 0 0 0 [.ref r] (n, f) (fun v h' => v = some (.int x) ∧ h' = (n, f)) := by
  refine am_enter (by decide +kernel) (Nat.le_of_ble_eq_true rfl) ?_
  refine am_aload_n d_Log_safeBytes_0 rfl rfl ?_
  refine am_get O f_Log_50 d_Log_safeBytes_1 V h1 h2 vx ?_
  exact am_iret rfl d_Log_safeBytes_4 ⟨rfl, rfl⟩

end
