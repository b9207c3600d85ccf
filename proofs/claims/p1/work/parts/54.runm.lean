section
variable {K : am_K} {X : Nat → am_C}
set_option maxRecDepth 100000 in
set_option maxHeartbeats 4000000 in
theorem t129_Code_clear (O : am_ok K X)   {f : Nat → am_C} (h_163 : f 163 = .inr (12, [.ref 164, .ref 165, .int 0, .int 0, .int 0, .int 0, .int 0, .int 0, .int 0, .int 0])) : am_Mt K X m_Code_clear 0 0 0 [.ref 163] (1330, f) (fun v h' => v = none ∧ h'.1 = 1330 ∧ h'.2 163 = .inr (12, [.ref 164, .ref 165, .int 0, .int 0, .int 0, .int 0, .int 0, .int 0, .int 0, .int 0]) ∧ ∀ x, x ∉ ([163] : List Nat) → h'.2 x = f x) := by
  refine am_enter (by decide +kernel) (Nat.le_of_ble_eq_true rfl) ?_
  refine am_aload_n d_Code_clear_0 rfl rfl ?_
  refine am_iconst (v := 0) d_Code_clear_1 (by decide) ?_
  refine am_put O f_Code_22 d_Code_clear_2 (by exact h_163) (by decide) (by decide) (Nat.le_of_ble_eq_true rfl) (fun q hq => by cases hq; exact ⟨rfl, rfl, rfl⟩) ?_
  refine am_aload_n d_Code_clear_5 rfl rfl ?_
  refine am_iconst (v := 0) d_Code_clear_6 (by decide) ?_
  refine am_put O f_Code_26 d_Code_clear_7 (by rfl) (by decide) (by decide) (Nat.le_of_ble_eq_true rfl) (fun q hq => by cases hq; exact ⟨rfl, rfl, rfl⟩) ?_
  refine am_aload_n d_Code_clear_10 rfl rfl ?_
  refine am_iconst (v := 0) d_Code_clear_11 (by decide) ?_
  refine am_put O f_Code_29 d_Code_clear_12 (by rfl) (by decide) (by decide) (Nat.le_of_ble_eq_true rfl) (fun q hq => by cases hq; exact ⟨rfl, rfl, rfl⟩) ?_
  refine am_aload_n d_Code_clear_15 rfl rfl ?_
  refine am_iconst (v := 0) d_Code_clear_16 (by decide) ?_
  refine am_put O f_Code_32 d_Code_clear_17 (by rfl) (by decide) (by decide) (Nat.le_of_ble_eq_true rfl) (fun q hq => by cases hq; exact ⟨rfl, rfl, rfl⟩) ?_
  refine am_aload_n d_Code_clear_20 rfl rfl ?_
  refine am_iconst (v := 0) d_Code_clear_21 (by decide) ?_
  refine am_put O f_Code_35 d_Code_clear_22 (by rfl) (by decide) (by decide) (Nat.le_of_ble_eq_true rfl) (fun q hq => by cases hq; exact ⟨rfl, rfl, rfl⟩) ?_
  exact am_vret rfl d_Code_clear_25 ⟨rfl, rfl, rfl, fun x hx => by simp only [List.mem_cons, List.not_mem_nil, or_false, not_or] at hx; dsimp only; (repeat (first | rw [va_up_ne _ _ (by omega)]))⟩

set_option maxRecDepth 100000 in
set_option maxHeartbeats 4000000 in
theorem t130_Code_clear (O : am_ok K X)   {f : Nat → am_C} (h_177 : f 177 = .inr (12, [.ref 178, .ref 179, .int 0, .int 0, .int 0, .int 0, .int 0, .int 0, .int 0, .int 0])) : am_Mt K X m_Code_clear 0 0 0 [.ref 177] (1330, f) (fun v h' => v = none ∧ h'.1 = 1330 ∧ h'.2 177 = .inr (12, [.ref 178, .ref 179, .int 0, .int 0, .int 0, .int 0, .int 0, .int 0, .int 0, .int 0]) ∧ ∀ x, x ∉ ([177] : List Nat) → h'.2 x = f x) := by
  refine am_enter (by decide +kernel) (Nat.le_of_ble_eq_true rfl) ?_
  refine am_aload_n d_Code_clear_0 rfl rfl ?_
  refine am_iconst (v := 0) d_Code_clear_1 (by decide) ?_
  refine am_put O f_Code_22 d_Code_clear_2 (by exact h_177) (by decide) (by decide) (Nat.le_of_ble_eq_true rfl) (fun q hq => by cases hq; exact ⟨rfl, rfl, rfl⟩) ?_
  refine am_aload_n d_Code_clear_5 rfl rfl ?_
  refine am_iconst (v := 0) d_Code_clear_6 (by decide) ?_
  refine am_put O f_Code_26 d_Code_clear_7 (by rfl) (by decide) (by decide) (Nat.le_of_ble_eq_true rfl) (fun q hq => by cases hq; exact ⟨rfl, rfl, rfl⟩) ?_
  refine am_aload_n d_Code_clear_10 rfl rfl ?_
  refine am_iconst (v := 0) d_Code_clear_11 (by decide) ?_
  refine am_put O f_Code_29 d_Code_clear_12 (by rfl) (by decide) (by decide) (Nat.le_of_ble_eq_true rfl) (fun q hq => by cases hq; exact ⟨rfl, rfl, rfl⟩) ?_
  refine am_aload_n d_Code_clear_15 rfl rfl ?_
  refine am_iconst (v := 0) d_Code_clear_16 (by decide) ?_
  refine am_put O f_Code_32 d_Code_clear_17 (by rfl) (by decide) (by decide) (Nat.le_of_ble_eq_true rfl) (fun q hq => by cases hq; exact ⟨rfl, rfl, rfl⟩) ?_
  refine am_aload_n d_Code_clear_20 rfl rfl ?_
  refine am_iconst (v := 0) d_Code_clear_21 (by decide) ?_
  refine am_put O f_Code_35 d_Code_clear_22 (by rfl) (by decide) (by decide) (Nat.le_of_ble_eq_true rfl) (fun q hq => by cases hq; exact ⟨rfl, rfl, rfl⟩) ?_
  exact am_vret rfl d_Code_clear_25 ⟨rfl, rfl, rfl, fun x hx => by simp only [List.mem_cons, List.not_mem_nil, or_false, not_or] at hx; dsimp only; (repeat (first | rw [va_up_ne _ _ (by omega)]))⟩

set_option maxRecDepth 100000 in
set_option maxHeartbeats 4000000 in
theorem t131_Mod_step (O : am_ok K X)   {f : Nat → am_C} (h_160 : f 160 = .inr (14, [.ref 161, .ref 162, .int 0, .int 0, .int 0, .int 0, .int 0, .int 0, .int 0, .int (-1), .int 0, .long 0, .ref 163, .ref 170, .ref 171, .ref 172, .ref 173, .ref 174, .ref 175, .ref 176, .int 0, .ref 177, .ref 163, .ref 184, .int 0, .int 0, .ref 185, .int 0, .ref 186, .int 0, .ref 187, .ref 204, .ref 221, .ref 238, .int 0, .int 0, .ref 239, .ref 240, .ref 245, .ref 250, .ref 255, .int 0, .int 0, .int 0, .int 0, .int 0, .int 0, .ref 260, .ref 261, .ref 262, .ref 263, .ref 264, .int 0])) : am_Mt K X m_Mod_step 0 0 0 [.ref 160] (1330, f) (fun v h' => v = none ∧ h'.1 = 1330 ∧ h'.2 160 = .inr (14, [.ref 161, .ref 162, .int 0, .int 0, .int 0, .int 0, .int 0, .int 0, .int 0, .int (-1), .int 1, .long 0, .ref 163, .ref 170, .ref 171, .ref 172, .ref 173, .ref 174, .ref 175, .ref 176, .int 0, .ref 177, .ref 163, .ref 184, .int 0, .int 0, .ref 185, .int 0, .ref 186, .int 0, .ref 187, .ref 204, .ref 221, .ref 238, .int 0, .int 0, .ref 239, .ref 240, .ref 245, .ref 250, .ref 255, .int 0, .int 0, .int 0, .int 0, .int 0, .int 0, .ref 260, .ref 261, .ref 262, .ref 263, .ref 264, .int 0]) ∧ ∀ x, x ∉ ([160] : List Nat) → h'.2 x = f x) := by
  refine am_enter (by decide +kernel) (Nat.le_of_ble_eq_true rfl) ?_
  refine am_aload_n d_Mod_step_0 rfl rfl ?_
  refine am_dup d_Mod_step_1 rfl ?_
  refine am_get O f_Mod_26 d_Mod_step_2 (by exact h_160) (by decide) (by decide) rfl ?_
  refine am_iconst (v := 1) d_Mod_step_5 (by decide) ?_
  refine am_iadd d_Mod_step_6 ?_
  refine am_topi (v := 1) (by decide) ?_
  refine am_put O f_Mod_26 d_Mod_step_7 (by exact h_160) (by decide) (by decide) (Nat.le_of_ble_eq_true rfl) (fun q hq => by cases hq; exact ⟨rfl, rfl, rfl⟩) ?_
  refine am_aload_n d_Mod_step_10 rfl rfl ?_
  refine am_get O f_Mod_3 d_Mod_step_11 (by rfl) (by decide) (by decide) rfl ?_
  refine am_aload_n d_Mod_step_14 rfl rfl ?_
  refine am_get O f_Mod_29 d_Mod_step_15 (by rfl) (by decide) (by decide) rfl ?_
  refine am_icmp_ge (tgt := 62) d_Mod_step_18 (by decide) (fun _ => ?_) (fun c => absurd (by decide) c)
  refine am_aload_n d_Mod_step_62 rfl rfl ?_
  refine am_aload_n d_Mod_step_63 rfl rfl ?_
  refine am_get O f_Mod_3 d_Mod_step_64 (by rfl) (by decide) (by decide) rfl ?_
  refine am_put O f_Mod_9 d_Mod_step_67 (by rfl) (by decide) (by decide) (Nat.le_of_ble_eq_true rfl) (fun q hq => by cases hq; exact ⟨rfl, rfl, rfl⟩) ?_
  refine am_aload_n d_Mod_step_70 rfl rfl ?_
  refine am_get O f_Mod_9 d_Mod_step_71 (by rfl) (by decide) (by decide) rfl ?_
  refine am_aload_n d_Mod_step_74 rfl rfl ?_
  refine am_get O f_Mod_29 d_Mod_step_75 (by rfl) (by decide) (by decide) rfl ?_
  refine am_icmp_ne (tgt := 89) d_Mod_step_78 (by decide) (fun c => absurd (by decide) c) (fun _ => ?_)
  refine am_aload_n d_Mod_step_81 rfl rfl ?_
  refine am_iconst (v := 0) d_Mod_step_82 (by decide) ?_
  refine am_put O f_Mod_32 d_Mod_step_83 (by rfl) (by decide) (by decide) (Nat.le_of_ble_eq_true rfl) (fun q hq => by cases hq; exact ⟨rfl, rfl, rfl⟩) ?_
  refine am_goto (tgt := 713) d_Mod_step_86 (by decide) ?_
  refine am_aload_n d_Mod_step_713 rfl rfl ?_
  refine am_aload_n d_Mod_step_714 rfl rfl ?_
  refine am_get O f_Mod_3 d_Mod_step_715 (by rfl) (by decide) (by decide) rfl ?_
  refine am_put O f_Mod_74 d_Mod_step_718 (by rfl) (by decide) (by decide) (Nat.le_of_ble_eq_true rfl) (fun q hq => by cases hq; exact ⟨rfl, rfl, rfl⟩) ?_
  exact am_vret rfl d_Mod_step_721 ⟨rfl, rfl, rfl, fun x hx => by simp only [List.mem_cons, List.not_mem_nil, or_false, not_or] at hx; dsimp only; (repeat (first | rw [va_up_ne _ _ (by omega)]))⟩

set_option maxRecDepth 100000 in
set_option maxHeartbeats 4000000 in
theorem t132_Mod_put_I (O : am_ok K X)   {f : Nat → am_C} (h_160 : f 160 = .inr (14, [.ref 161, .ref 162, .int 0, .int 0, .int 0, .int 0, .int 0, .int 0, .int 0, .int (-1), .int 1, .long 0, .ref 163, .ref 170, .ref 171, .ref 172, .ref 173, .ref 174, .ref 175, .ref 176, .int 0, .ref 177, .ref 163, .ref 184, .int 0, .int 0, .ref 185, .int 0, .ref 186, .int 0, .ref 187, .ref 204, .ref 221, .ref 238, .int 0, .int 0, .ref 239, .ref 240, .ref 245, .ref 250, .ref 255, .int 0, .int 0, .int 0, .int 0, .int 0, .int 0, .ref 260, .ref 261, .ref 262, .ref 263, .ref 264, .int 0])) (h_163 : f 163 = .inr (12, [.ref 164, .ref 165, .int 0, .int 0, .int 0, .int 0, .int 0, .int 0, .int 0, .int 0])) (h_164 : f 164 = .inl (.int, 6000, (fun _ => .int 0))) : am_Mt K X m_Mod_put_I 0 0 0 [.ref 160, .int 28] (1330, f) (fun v h' => v = some (.int 0) ∧ h'.1 = 1330 ∧ h'.2 164 = .inl (.int, 6000, (updV (fun _ => .int 0) 0 (.int 28))) ∧ h'.2 163 = .inr (12, [.ref 164, .ref 165, .int 1, .int 0, .int 0, .int 0, .int 0, .int 0, .int 0, .int 0]) ∧ ∀ x, x ∉ ([164, 163] : List Nat) → h'.2 x = f x) := by
  refine am_enter (by decide +kernel) (Nat.le_of_ble_eq_true rfl) ?_
  refine am_aload_n d_Mod_put_I_0 rfl rfl ?_
  refine am_get O f_Mod_91 d_Mod_put_I_1 (by exact h_160) (by decide) (by decide) rfl ?_
  refine am_get O f_Mod_95 d_Mod_put_I_4 (by exact h_163) (by decide) (by decide) rfl ?_
  refine am_aload_n d_Mod_put_I_7 rfl rfl ?_
  refine am_get O f_Mod_91 d_Mod_put_I_8 (by exact h_160) (by decide) (by decide) rfl ?_
  refine am_get O f_Mod_100 d_Mod_put_I_11 (by exact h_163) (by decide) (by decide) rfl ?_
  refine am_iload_n d_Mod_put_I_14 rfl rfl ?_
  refine am_iast O (by decide) d_Mod_put_I_15 (by exact h_164) (by decide) (by decide) (am_in (by decide) (by decide)) ?_
  refine am_aload_n d_Mod_put_I_16 rfl rfl ?_
  refine am_get O f_Mod_91 d_Mod_put_I_17 (by exact h_160) (by decide) (by decide) rfl ?_
  refine am_dup d_Mod_put_I_20 rfl ?_
  refine am_get O f_Mod_100 d_Mod_put_I_21 (by exact h_163) (by decide) (by decide) rfl ?_
  refine am_iconst (v := 1) d_Mod_put_I_24 (by decide) ?_
  refine am_iadd d_Mod_put_I_25 ?_
  refine am_topi (v := 1) (by decide) ?_
  refine am_put O f_Mod_100 d_Mod_put_I_26 (by exact h_163) (by decide) (by decide) (Nat.le_of_ble_eq_true rfl) (fun q hq => by cases hq; exact ⟨rfl, rfl, rfl⟩) ?_
  refine am_aload_n d_Mod_put_I_29 rfl rfl ?_
  refine am_get O f_Mod_91 d_Mod_put_I_30 (by exact h_160) (by decide) (by decide) rfl ?_
  refine am_get O f_Mod_100 d_Mod_put_I_33 (by rfl) (by decide) (by decide) rfl ?_
  refine am_iconst (v := 1) d_Mod_put_I_36 (by decide) ?_
  refine am_isub d_Mod_put_I_37 ?_
  refine am_topi (v := 0) (by decide) ?_
  exact am_iret rfl d_Mod_put_I_38 ⟨rfl, rfl, rfl, rfl, fun x hx => by simp only [List.mem_cons, List.not_mem_nil, or_false, not_or] at hx; dsimp only; (repeat (first | rw [va_up_ne _ _ (by omega)]))⟩

set_option maxRecDepth 100000 in
set_option maxHeartbeats 4000000 in
theorem t133_Mod_read (O : am_ok K X)   {f : Nat → am_C} (h_160 : f 160 = .inr (14, [.ref 161, .ref 162, .int 0, .int 0, .int 0, .int 0, .int 0, .int 0, .int 0, .int 0, .int 0, .long 0, .ref 163, .ref 170, .ref 171, .ref 172, .ref 173, .ref 174, .ref 175, .ref 176, .int 0, .ref 177, .null, .ref 184, .int 0, .int 0, .ref 185, .int 0, .ref 186, .int 0, .ref 187, .ref 204, .ref 221, .ref 238, .int 0, .int 0, .ref 239, .ref 240, .ref 245, .ref 250, .ref 255, .int 0, .int 0, .int 0, .int 0, .int 0, .int 0, .ref 260, .ref 261, .ref 262, .ref 263, .ref 264, .int 0])) (h_163 : f 163 = .inr (12, [.ref 164, .ref 165, .int 0, .int 0, .int 0, .int 0, .int 0, .int 0, .int 0, .int 0])) (h_164 : f 164 = .inl (.int, 6000, (fun _ => .int 0))) (h_177 : f 177 = .inr (12, [.ref 178, .ref 179, .int 0, .int 0, .int 0, .int 0, .int 0, .int 0, .int 0, .int 0])) : am_Mt K X m_Mod_read 1 0 0 [.ref 160] (1330, f) (fun v h' => v = some (.int 1) ∧ h'.1 = 1330 ∧ h'.2 160 = .inr (14, [.ref 161, .ref 162, .int 0, .int 0, .int 0, .int 0, .int 0, .int 0, .int 0, .int (-1), .int 1, .long 0, .ref 163, .ref 170, .ref 171, .ref 172, .ref 173, .ref 174, .ref 175, .ref 176, .int 0, .ref 177, .ref 163, .ref 184, .int 0, .int 0, .ref 185, .int 0, .ref 186, .int 0, .ref 187, .ref 204, .ref 221, .ref 238, .int 0, .int 0, .ref 239, .ref 240, .ref 245, .ref 250, .ref 255, .int 0, .int 0, .int 0, .int 0, .int 0, .int 0, .ref 260, .ref 261, .ref 262, .ref 263, .ref 264, .int 0]) ∧ h'.2 163 = .inr (12, [.ref 164, .ref 165, .int 1, .int 0, .int 0, .int 0, .int 0, .int 0, .int 0, .int 0]) ∧ h'.2 177 = .inr (12, [.ref 178, .ref 179, .int 0, .int 0, .int 0, .int 0, .int 0, .int 0, .int 0, .int 0]) ∧ h'.2 164 = .inl (.int, 6000, (updV (fun _ => .int 0) 0 (.int 28))) ∧ ∀ x, x ∉ ([160, 163, 177, 164] : List Nat) → h'.2 x = f x) := by
  refine am_enter (by decide +kernel) (Nat.le_of_ble_eq_true rfl) ?_
  refine am_aload_n d_Mod_read_0 rfl rfl ?_
  refine am_aload_n d_Mod_read_1 rfl rfl ?_
  refine am_get O f_Mod_134 d_Mod_read_2 (by exact h_160) (by decide) (by decide) rfl ?_
  refine am_put O f_Mod_29 d_Mod_read_5 (by exact h_160) (by decide) (by decide) (Nat.le_of_ble_eq_true rfl) (fun q hq => by cases hq; exact ⟨rfl, rfl, rfl⟩) ?_
  refine am_aload_n d_Mod_read_8 rfl rfl ?_
  refine am_iconst (v := 0) d_Mod_read_9 (by decide) ?_
  refine am_put O f_Mod_134 d_Mod_read_10 (by rfl) (by decide) (by decide) (Nat.le_of_ble_eq_true rfl) (fun q hq => by cases hq; exact ⟨rfl, rfl, rfl⟩) ?_
  refine am_aload_n d_Mod_read_13 rfl rfl ?_
  refine am_iconst (v := 0) d_Mod_read_14 (by decide) ?_
  refine am_put O f_Mod_3 d_Mod_read_15 (by rfl) (by decide) (by decide) (Nat.le_of_ble_eq_true rfl) (fun q hq => by cases hq; exact ⟨rfl, rfl, rfl⟩) ?_
  refine am_aload_n d_Mod_read_18 rfl rfl ?_
  refine am_iconst (v := (-1)) d_Mod_read_19 (by decide) ?_
  refine am_put O f_Mod_77 d_Mod_read_20 (by rfl) (by decide) (by decide) (Nat.le_of_ble_eq_true rfl) (fun q hq => by cases hq; exact ⟨rfl, rfl, rfl⟩) ?_
  refine am_aload_n d_Mod_read_23 rfl rfl ?_
  refine am_iconst (v := 0) d_Mod_read_24 (by decide) ?_
  refine am_put O f_Mod_137 d_Mod_read_25 (by rfl) (by decide) (by decide) (Nat.le_of_ble_eq_true rfl) (fun q hq => by cases hq; exact ⟨rfl, rfl, rfl⟩) ?_
  refine am_aload_n d_Mod_read_28 rfl rfl ?_
  refine am_iconst (v := 0) d_Mod_read_29 (by decide) ?_
  refine am_put O f_Mod_140 d_Mod_read_30 (by rfl) (by decide) (by decide) (Nat.le_of_ble_eq_true rfl) (fun q hq => by cases hq; exact ⟨rfl, rfl, rfl⟩) ?_
  refine am_aload_n d_Mod_read_33 rfl rfl ?_
  refine am_get O f_Mod_143 d_Mod_read_34 (by rfl) (by decide) (by decide) rfl ?_
  refine am_callV O (t129_Code_clear O (by exact h_163)) rfl (by exact h_163) (by decide) (by decide) rfl rfl l_Mod_146 ⟨w_1803, w_1804⟩ rfl (Nat.le_of_ble_eq_true rfl) d_Mod_read_37 (by omega) (by omega) (by omega) (fun v h' hp => ?_)
  obtain ⟨n1, f1⟩ := h'
  obtain ⟨rfl, e1, g_163_1, fr1⟩ := hp
  obtain rfl : n1 = 1330 := e1
  have fr1 := fun (x : Nat) (hx : x ∉ ([163] : List Nat)) => (show f1 x = _ from fr1 x hx)
  have h_163_1 : f1 163 = .inr (12, [.ref 164, .ref 165, .int 0, .int 0, .int 0, .int 0, .int 0, .int 0, .int 0, .int 0]) := g_163_1
  refine am_aload_n d_Mod_read_40 rfl rfl ?_
  have h_160_1 : f1 160 = .inr (14, [.ref 161, .ref 162, .int 0, .int 0, .int 0, .int 0, .int 0, .int 0, .int 0, .int (-1), .int 0, .long 0, .ref 163, .ref 170, .ref 171, .ref 172, .ref 173, .ref 174, .ref 175, .ref 176, .int 0, .ref 177, .null, .ref 184, .int 0, .int 0, .ref 185, .int 0, .ref 186, .int 0, .ref 187, .ref 204, .ref 221, .ref 238, .int 0, .int 0, .ref 239, .ref 240, .ref 245, .ref 250, .ref 255, .int 0, .int 0, .int 0, .int 0, .int 0, .int 0, .ref 260, .ref 261, .ref 262, .ref 263, .ref 264, .int 0]) := (fr1 160 (by decide)).trans rfl
  refine am_get O f_Mod_149 d_Mod_read_41 (by exact h_160_1) (by decide) (by decide) rfl ?_
  have h_177_1 : f1 177 = .inr (12, [.ref 178, .ref 179, .int 0, .int 0, .int 0, .int 0, .int 0, .int 0, .int 0, .int 0]) := (fr1 177 (by decide)).trans h_177
  refine am_callV O (t130_Code_clear O (by exact h_177_1)) rfl (by exact h_177_1) (by decide) (by decide) rfl rfl l_Mod_146 ⟨w_1803, w_1804⟩ rfl (Nat.le_of_ble_eq_true rfl) d_Mod_read_44 (by omega) (by omega) (by omega) (fun v h' hp => ?_)
  obtain ⟨n2, f2⟩ := h'
  obtain ⟨rfl, e2, g_177_2, fr2⟩ := hp
  obtain rfl : n2 = 1330 := e2
  have fr2 := fun (x : Nat) (hx : x ∉ ([177] : List Nat)) => (show f2 x = _ from fr2 x hx)
  have h_177_2 : f2 177 = .inr (12, [.ref 178, .ref 179, .int 0, .int 0, .int 0, .int 0, .int 0, .int 0, .int 0, .int 0]) := g_177_2
  refine am_aload_n d_Mod_read_47 rfl rfl ?_
  refine am_aload_n d_Mod_read_48 rfl rfl ?_
  have h_160_2 : f2 160 = .inr (14, [.ref 161, .ref 162, .int 0, .int 0, .int 0, .int 0, .int 0, .int 0, .int 0, .int (-1), .int 0, .long 0, .ref 163, .ref 170, .ref 171, .ref 172, .ref 173, .ref 174, .ref 175, .ref 176, .int 0, .ref 177, .null, .ref 184, .int 0, .int 0, .ref 185, .int 0, .ref 186, .int 0, .ref 187, .ref 204, .ref 221, .ref 238, .int 0, .int 0, .ref 239, .ref 240, .ref 245, .ref 250, .ref 255, .int 0, .int 0, .int 0, .int 0, .int 0, .int 0, .ref 260, .ref 261, .ref 262, .ref 263, .ref 264, .int 0]) := (fr2 160 (by decide)).trans h_160_1
  refine am_get O f_Mod_143 d_Mod_read_49 (by exact h_160_2) (by decide) (by decide) rfl ?_
  refine am_put O f_Mod_91 d_Mod_read_52 (by exact h_160_2) (by decide) (by decide) (Nat.le_of_ble_eq_true rfl) (fun q hq => by cases hq; exact ⟨rfl, rfl, rfl⟩) ?_
  refine am_aload_n d_Mod_read_55 rfl rfl ?_
  refine am_iconst (v := 0) d_Mod_read_56 (by decide) ?_
  refine am_put O f_Mod_123 d_Mod_read_57 (by rfl) (by decide) (by decide) (Nat.le_of_ble_eq_true rfl) (fun q hq => by cases hq; exact ⟨rfl, rfl, rfl⟩) ?_
  refine am_aload_n d_Mod_read_60 rfl rfl ?_
  refine am_callV O (t131_Mod_step O (by rfl)) rfl (by rfl) (by decide) (by decide) rfl rfl l_Mod_87 ⟨w_1808, w_84⟩ rfl (Nat.le_of_ble_eq_true rfl) d_Mod_read_61 (by omega) (by omega) (by omega) (fun v h' hp => ?_)
  obtain ⟨n3, f3⟩ := h'
  obtain ⟨rfl, e3, g_160_3, fr3⟩ := hp
  obtain rfl : n3 = 1330 := e3
  have fr3 := fun (x : Nat) (hx : x ∉ ([160] : List Nat)) => (show f3 x = _ from fr3 x hx)
  have h_160_3 : f3 160 = .inr (14, [.ref 161, .ref 162, .int 0, .int 0, .int 0, .int 0, .int 0, .int 0, .int 0, .int (-1), .int 1, .long 0, .ref 163, .ref 170, .ref 171, .ref 172, .ref 173, .ref 174, .ref 175, .ref 176, .int 0, .ref 177, .ref 163, .ref 184, .int 0, .int 0, .ref 185, .int 0, .ref 186, .int 0, .ref 187, .ref 204, .ref 221, .ref 238, .int 0, .int 0, .ref 239, .ref 240, .ref 245, .ref 250, .ref 255, .int 0, .int 0, .int 0, .int 0, .int 0, .int 0, .ref 260, .ref 261, .ref 262, .ref 263, .ref 264, .int 0]) := g_160_3
  refine am_aload_n d_Mod_read_64 rfl rfl ?_
  refine am_get O f_Mod_32 d_Mod_read_65 (by exact h_160_3) (by decide) (by decide) rfl ?_
  refine am_if_eq (tgt := 100) d_Mod_read_68 (by decide) (fun _ => ?_) (fun c => absurd (by decide) c)
  refine am_aload_n d_Mod_read_100 rfl rfl ?_
  refine am_get O f_Mod_91 d_Mod_read_101 (by exact h_160_3) (by decide) (by decide) rfl ?_
  refine am_aload_n d_Mod_read_104 rfl rfl ?_
  refine am_get O f_Mod_123 d_Mod_read_105 (by exact h_160_3) (by decide) (by decide) rfl ?_
  have h_163_2 : f2 163 = .inr (12, [.ref 164, .ref 165, .int 0, .int 0, .int 0, .int 0, .int 0, .int 0, .int 0, .int 0]) := (fr2 163 (by decide)).trans h_163_1
  have h_163_3 : f3 163 = .inr (12, [.ref 164, .ref 165, .int 0, .int 0, .int 0, .int 0, .int 0, .int 0, .int 0, .int 0]) := (fr3 163 (by decide)).trans h_163_2
  refine am_put O f_Mod_160 d_Mod_read_108 (by exact h_163_3) (by decide) (by decide) (Nat.le_of_ble_eq_true rfl) (fun q hq => by cases hq; exact ⟨rfl, rfl, rfl⟩) ?_
  refine am_aload_n d_Mod_read_111 rfl rfl ?_
  refine am_bipush (v := 28) d_Mod_read_112 (by decide) ?_
  have h_164_1 : f1 164 = .inl (.int, 6000, (fun _ => .int 0)) := (fr1 164 (by decide)).trans h_164
  have h_164_2 : f2 164 = .inl (.int, 6000, (fun _ => .int 0)) := (fr2 164 (by decide)).trans h_164_1
  have h_164_3 : f3 164 = .inl (.int, 6000, (fun _ => .int 0)) := (fr3 164 (by decide)).trans h_164_2
  refine am_callV O (t132_Mod_put_I O (by exact h_160_3) (by rfl) (by exact h_164_3)) rfl (by exact h_160_3) (by decide) (by decide) rfl rfl l_Mod_103 ⟨w_1875, w_95⟩ rfl (Nat.le_of_ble_eq_true rfl) d_Mod_read_114 (by omega) (by omega) (by omega) (fun v h' hp => ?_)
  obtain ⟨n4, f4⟩ := h'
  obtain ⟨rfl, e4, g_164_4, g_163_4, fr4⟩ := hp
  obtain rfl : n4 = 1330 := e4
  have fr4 := fun (x : Nat) (hx : x ∉ ([164, 163] : List Nat)) => (show f4 x = _ from fr4 x hx)
  have h_164_4 : f4 164 = .inl (.int, 6000, (updV (fun _ => .int 0) 0 (.int 28))) := g_164_4
  have h_163_4 : f4 163 = .inr (12, [.ref 164, .ref 165, .int 1, .int 0, .int 0, .int 0, .int 0, .int 0, .int 0, .int 0]) := g_163_4
  refine am_pop d_Mod_read_117 rfl ?_
  refine am_iconst (v := 1) d_Mod_read_118 (by decide) ?_
  have h_160_4 : f4 160 = .inr (14, [.ref 161, .ref 162, .int 0, .int 0, .int 0, .int 0, .int 0, .int 0, .int 0, .int (-1), .int 1, .long 0, .ref 163, .ref 170, .ref 171, .ref 172, .ref 173, .ref 174, .ref 175, .ref 176, .int 0, .ref 177, .ref 163, .ref 184, .int 0, .int 0, .ref 185, .int 0, .ref 186, .int 0, .ref 187, .ref 204, .ref 221, .ref 238, .int 0, .int 0, .ref 239, .ref 240, .ref 245, .ref 250, .ref 255, .int 0, .int 0, .int 0, .int 0, .int 0, .int 0, .ref 260, .ref 261, .ref 262, .ref 263, .ref 264, .int 0]) := (fr4 160 (by decide)).trans h_160_3
  have h_177_3 : f3 177 = .inr (12, [.ref 178, .ref 179, .int 0, .int 0, .int 0, .int 0, .int 0, .int 0, .int 0, .int 0]) := (fr3 177 (by decide)).trans h_177_2
  have h_177_4 : f4 177 = .inr (12, [.ref 178, .ref 179, .int 0, .int 0, .int 0, .int 0, .int 0, .int 0, .int 0, .int 0]) := (fr4 177 (by decide)).trans h_177_3
  exact am_zret rfl rfl d_Mod_read_119 ⟨rfl, rfl, h_160_4, h_163_4, h_177_4, h_164_4, fun x hx => by simp only [List.mem_cons, List.not_mem_nil, or_false, not_or] at hx; dsimp only; (repeat (first | rw [va_up_ne _ _ (by omega)] | rw [fr1 x (by simp only [List.mem_cons, List.not_mem_nil, or_false, not_or]; omega)] | rw [fr2 x (by simp only [List.mem_cons, List.not_mem_nil, or_false, not_or]; omega)] | rw [fr3 x (by simp only [List.mem_cons, List.not_mem_nil, or_false, not_or]; omega)] | rw [fr4 x (by simp only [List.mem_cons, List.not_mem_nil, or_false, not_or]; omega)]))⟩

set_option maxRecDepth 100000 in
set_option maxHeartbeats 4000000 in
theorem t134_Vals_set (O : am_ok K X)   {f : Nat → am_C} (h_250 : f 250 = .inr (11, [.ref 251, .ref 252, .ref 253, .ref 254])) (h_251 : f 251 = .inl (.int, 1, (fun _ => .int 0))) (h_252 : f 252 = .inl (.int, 1, (fun _ => .int 0))) (h_253 : f 253 = .inl (.long, 1, (fun _ => .long 0))) (h_254 : f 254 = .inl (.long, 1, (fun _ => .long 0))) : am_Mt K X m_Vals_set 0 0 0 [.ref 250, .int 0, .int 0, .int 0, .long 0, .long 0] (1330, f) (fun v h' => v = none ∧ h'.1 = 1330 ∧ h'.2 251 = .inl (.int, 1, (updV (fun _ => .int 0) 0 (.int 0))) ∧ h'.2 252 = .inl (.int, 1, (updV (fun _ => .int 0) 0 (.int 0))) ∧ h'.2 253 = .inl (.long, 1, (updV (fun _ => .long 0) 0 (.long 0))) ∧ h'.2 254 = .inl (.long, 1, (updV (fun _ => .long 0) 0 (.long 0))) ∧ ∀ x, x ∉ ([251, 252, 253, 254] : List Nat) → h'.2 x = f x) := by
  refine am_enter (by decide +kernel) (Nat.le_of_ble_eq_true rfl) ?_
  refine am_aload_n d_Vals_set_0 rfl rfl ?_
  refine am_get O f_Vals_7 d_Vals_set_1 (by exact h_250) (by decide) (by decide) rfl ?_
  refine am_iload_n d_Vals_set_4 rfl rfl ?_
  refine am_iload_n d_Vals_set_5 rfl rfl ?_
  refine am_iast O (by decide) d_Vals_set_6 (by exact h_251) (by decide) (by decide) (am_in (by decide) (by decide)) ?_
  refine am_aload_n d_Vals_set_7 rfl rfl ?_
  refine am_get O f_Vals_13 d_Vals_set_8 (by exact h_250) (by decide) (by decide) rfl ?_
  refine am_iload_n d_Vals_set_11 rfl rfl ?_
  refine am_iload_n d_Vals_set_12 rfl rfl ?_
  refine am_iast O (by decide) d_Vals_set_13 (by exact h_252) (by decide) (by decide) (am_in (by decide) (by decide)) ?_
  refine am_aload_n d_Vals_set_14 rfl rfl ?_
  refine am_get O f_Vals_16 d_Vals_set_15 (by exact h_250) (by decide) (by decide) rfl ?_
  refine am_iload_n d_Vals_set_18 rfl rfl ?_
  refine am_lload d_Vals_set_19 rfl ?_
  refine am_last O (by decide) d_Vals_set_21 (by exact h_253) (by decide) (by decide) (am_in (by decide) (by decide)) ?_
  refine am_aload_n d_Vals_set_22 rfl rfl ?_
  refine am_get O f_Vals_20 d_Vals_set_23 (by exact h_250) (by decide) (by decide) rfl ?_
  refine am_iload_n d_Vals_set_26 rfl rfl ?_
  refine am_lload d_Vals_set_27 rfl ?_
  refine am_last O (by decide) d_Vals_set_29 (by exact h_254) (by decide) (by decide) (am_in (by decide) (by decide)) ?_
  exact am_vret rfl d_Vals_set_30 ⟨rfl, rfl, rfl, rfl, rfl, rfl, fun x hx => by simp only [List.mem_cons, List.not_mem_nil, or_false, not_or] at hx; dsimp only; (repeat (first | rw [va_up_ne _ _ (by omega)]))⟩

set_option maxRecDepth 100000 in
set_option maxHeartbeats 4000000 in
theorem t135_State_copy (O : am_ok K X)   {f : Nat → am_C} (h_187 : f 187 = .inr (13, [.ref 188, .ref 189, .ref 190, .ref 191, .ref 192, .ref 193, .ref 198, .ref 203, .int 0, .int 0, .int 0, .int 0])) (h_188 : f 188 = .inl (.int, 100, (fun _ => .int 0))) (h_189 : f 189 = .inl (.int, 100, (fun _ => .int 0))) (h_190 : f 190 = .inl (.long, 800, (fun _ => .long 0))) (h_191 : f 191 = .inl (.long, 12, (fun _ => .long 0))) (h_192 : f 192 = .inl (.long, 10, (fun _ => .long 0))) (h_193 : f 193 = .inr (11, [.ref 194, .ref 195, .ref 196, .ref 197])) (h_194 : f 194 = .inl (.int, 2000, (fun _ => .int 0))) (h_195 : f 195 = .inl (.int, 2000, (fun _ => .int 0))) (h_196 : f 196 = .inl (.long, 2000, (fun _ => .long 0))) (h_197 : f 197 = .inl (.long, 2000, (fun _ => .long 0))) (h_203 : f 203 = .inl (.object "StowTongueModel$Code", 10, (fun _ => .null))) (h_204 : f 204 = .inr (13, [.ref 205, .ref 206, .ref 207, .ref 208, .ref 209, .ref 210, .ref 215, .ref 220, .int 0, .int 0, .int 0, .int 0])) (h_205 : f 205 = .inl (.int, 100, (fun _ => .int 0))) (h_206 : f 206 = .inl (.int, 100, (fun _ => .int 0))) (h_207 : f 207 = .inl (.long, 800, (fun _ => .long 0))) (h_208 : f 208 = .inl (.long, 12, (fun _ => .long 0))) (h_209 : f 209 = .inl (.long, 10, (fun _ => .long 0))) (h_210 : f 210 = .inr (11, [.ref 211, .ref 212, .ref 213, .ref 214])) (h_211 : f 211 = .inl (.int, 2000, (fun _ => .int 0))) (h_212 : f 212 = .inl (.int, 2000, (fun _ => .int 0))) (h_213 : f 213 = .inl (.long, 2000, (fun _ => .long 0))) (h_214 : f 214 = .inl (.long, 2000, (fun _ => .long 0))) (h_220 : f 220 = .inl (.object "StowTongueModel$Code", 10, (fun _ => .null))) : am_Mt K X m_State_copy 1 0 0 [.ref 204, .ref 187] (1330, f) (fun v h' => v = none ∧ h'.1 = 1330 ∧ h'.2 205 = .inl (.int, 100, (va_cpy (fun _ => .int 0) (fun _ => .int 0) 0 0 100)) ∧ h'.2 206 = .inl (.int, 100, (va_cpy (fun _ => .int 0) (fun _ => .int 0) 0 0 100)) ∧ h'.2 207 = .inl (.long, 800, (va_cpy (fun _ => .long 0) (fun _ => .long 0) 0 0 800)) ∧ h'.2 211 = .inl (.int, 2000, (va_cpy (fun _ => .int 0) (fun _ => .int 0) 0 0 2000)) ∧ h'.2 212 = .inl (.int, 2000, (va_cpy (fun _ => .int 0) (fun _ => .int 0) 0 0 2000)) ∧ h'.2 213 = .inl (.long, 2000, (va_cpy (fun _ => .long 0) (fun _ => .long 0) 0 0 2000)) ∧ h'.2 214 = .inl (.long, 2000, (va_cpy (fun _ => .long 0) (fun _ => .long 0) 0 0 2000)) ∧ h'.2 208 = .inl (.long, 12, (va_cpy (fun _ => .long 0) (fun _ => .long 0) 0 0 12)) ∧ h'.2 209 = .inl (.long, 10, (va_cpy (fun _ => .long 0) (fun _ => .long 0) 0 0 10)) ∧ h'.2 220 = .inl (.object "StowTongueModel$Code", 10, (va_cpy (fun _ => .null) (fun _ => .null) 0 0 10)) ∧ h'.2 204 = .inr (13, [.ref 205, .ref 206, .ref 207, .ref 208, .ref 209, .ref 210, .ref 215, .ref 220, .int 0, .int 0, .int 0, .int 0]) ∧ ∀ x, x ∉ ([205, 206, 207, 211, 212, 213, 214, 208, 209, 220, 204] : List Nat) → h'.2 x = f x) := by
  refine am_enter (by decide +kernel) (Nat.le_of_ble_eq_true rfl) ?_
  refine am_aload_n d_State_copy_0 rfl rfl ?_
  refine am_get O f_State_9 d_State_copy_1 (by exact h_187) (by decide) (by decide) rfl ?_
  refine am_iconst (v := 0) d_State_copy_4 (by decide) ?_
  refine am_aload_n d_State_copy_5 rfl rfl ?_
  refine am_get O f_State_9 d_State_copy_6 (by exact h_204) (by decide) (by decide) rfl ?_
  refine am_iconst (v := 0) d_State_copy_9 (by decide) ?_
  refine am_bipush (v := 100) d_State_copy_10 (by decide) ?_
  refine am_copy (P := 0) (Q := 0) (N := 100) O w_1990 w_735 w_734 w_167 d_State_copy_12 (by exact h_188) (by decide) (by decide) (by exact h_205) (by decide) (by decide) (by decide) (by decide) (by decide) (by decide) (by decide) (by decide) (by decide) (by decide) (by decide) (by decide) (fun i hi => by refine ⟨?_, fun r h => ?_⟩ <;> first | rfl | cases h | (dsimp only; rw [if_pos (by omega)]; rfl) | (dsimp only at h; rw [if_pos (by omega)] at h; cases h) | (simp [va_cpy, fits]; done) | (simp [va_cpy] at h; done) | (simp only [updV]; (repeat' split) <;> rfl) | (simp only [updV] at h; (repeat' (split at h)) <;> cases h)) (Nat.le_of_ble_eq_true rfl) (by omega) ?_
  refine am_aload_n d_State_copy_15 rfl rfl ?_
  refine am_get O f_State_15 d_State_copy_16 (by exact h_187) (by decide) (by decide) rfl ?_
  refine am_iconst (v := 0) d_State_copy_19 (by decide) ?_
  refine am_aload_n d_State_copy_20 rfl rfl ?_
  refine am_get O f_State_15 d_State_copy_21 (by exact h_204) (by decide) (by decide) rfl ?_
  refine am_iconst (v := 0) d_State_copy_24 (by decide) ?_
  refine am_bipush (v := 100) d_State_copy_25 (by decide) ?_
  refine am_copy (P := 0) (Q := 0) (N := 100) O w_1990 w_735 w_734 w_167 d_State_copy_27 (by exact h_189) (by decide) (by decide) (by exact h_206) (by decide) (by decide) (by decide) (by decide) (by decide) (by decide) (by decide) (by decide) (by decide) (by decide) (by decide) (by decide) (fun i hi => by refine ⟨?_, fun r h => ?_⟩ <;> first | rfl | cases h | (dsimp only; rw [if_pos (by omega)]; rfl) | (dsimp only at h; rw [if_pos (by omega)] at h; cases h) | (simp [va_cpy, fits]; done) | (simp [va_cpy] at h; done) | (simp only [updV]; (repeat' split) <;> rfl) | (simp only [updV] at h; (repeat' (split at h)) <;> cases h)) (Nat.le_of_ble_eq_true rfl) (by omega) ?_
  refine am_aload_n d_State_copy_30 rfl rfl ?_
  refine am_get O f_State_18 d_State_copy_31 (by exact h_187) (by decide) (by decide) rfl ?_
  refine am_iconst (v := 0) d_State_copy_34 (by decide) ?_
  refine am_aload_n d_State_copy_35 rfl rfl ?_
  refine am_get O f_State_18 d_State_copy_36 (by exact h_204) (by decide) (by decide) rfl ?_
  refine am_iconst (v := 0) d_State_copy_39 (by decide) ?_
  refine am_sipush (v := 800) d_State_copy_40 (by decide) ?_
  refine am_copy (P := 0) (Q := 0) (N := 800) O w_1990 w_735 w_734 w_167 d_State_copy_43 (by exact h_190) (by decide) (by decide) (by exact h_207) (by decide) (by decide) (by decide) (by decide) (by decide) (by decide) (by decide) (by decide) (by decide) (by decide) (by decide) (by decide) (fun i hi => by refine ⟨?_, fun r h => ?_⟩ <;> first | rfl | cases h | (dsimp only; rw [if_pos (by omega)]; rfl) | (dsimp only at h; rw [if_pos (by omega)] at h; cases h) | (simp [va_cpy, fits]; done) | (simp [va_cpy] at h; done) | (simp only [updV]; (repeat' split) <;> rfl) | (simp only [updV] at h; (repeat' (split at h)) <;> cases h)) (Nat.le_of_ble_eq_true rfl) (by omega) ?_
  refine am_aload_n d_State_copy_46 rfl rfl ?_
  refine am_get O f_State_33 d_State_copy_47 (by exact h_187) (by decide) (by decide) rfl ?_
  refine am_get O f_State_52 d_State_copy_50 (by exact h_193) (by decide) (by decide) rfl ?_
  refine am_iconst (v := 0) d_State_copy_53 (by decide) ?_
  refine am_aload_n d_State_copy_54 rfl rfl ?_
  refine am_get O f_State_33 d_State_copy_55 (by exact h_204) (by decide) (by decide) rfl ?_
  refine am_get O f_State_52 d_State_copy_58 (by exact h_210) (by decide) (by decide) rfl ?_
  refine am_iconst (v := 0) d_State_copy_61 (by decide) ?_
  refine am_sipush (v := 2000) d_State_copy_62 (by decide) ?_
  refine am_copy (P := 0) (Q := 0) (N := 2000) O w_1990 w_735 w_734 w_167 d_State_copy_65 (by exact h_194) (by decide) (by decide) (by exact h_211) (by decide) (by decide) (by decide) (by decide) (by decide) (by decide) (by decide) (by decide) (by decide) (by decide) (by decide) (by decide) (fun i hi => by refine ⟨?_, fun r h => ?_⟩ <;> first | rfl | cases h | (dsimp only; rw [if_pos (by omega)]; rfl) | (dsimp only at h; rw [if_pos (by omega)] at h; cases h) | (simp [va_cpy, fits]; done) | (simp [va_cpy] at h; done) | (simp only [updV]; (repeat' split) <;> rfl) | (simp only [updV] at h; (repeat' (split at h)) <;> cases h)) (Nat.le_of_ble_eq_true rfl) (by omega) ?_
  refine am_aload_n d_State_copy_68 rfl rfl ?_
  refine am_get O f_State_33 d_State_copy_69 (by exact h_187) (by decide) (by decide) rfl ?_
  refine am_get O f_State_53 d_State_copy_72 (by exact h_193) (by decide) (by decide) rfl ?_
  refine am_iconst (v := 0) d_State_copy_75 (by decide) ?_
  refine am_aload_n d_State_copy_76 rfl rfl ?_
  refine am_get O f_State_33 d_State_copy_77 (by exact h_204) (by decide) (by decide) rfl ?_
  refine am_get O f_State_53 d_State_copy_80 (by exact h_210) (by decide) (by decide) rfl ?_
  refine am_iconst (v := 0) d_State_copy_83 (by decide) ?_
  refine am_sipush (v := 2000) d_State_copy_84 (by decide) ?_
  refine am_copy (P := 0) (Q := 0) (N := 2000) O w_1990 w_735 w_734 w_167 d_State_copy_87 (by exact h_195) (by decide) (by decide) (by exact h_212) (by decide) (by decide) (by decide) (by decide) (by decide) (by decide) (by decide) (by decide) (by decide) (by decide) (by decide) (by decide) (fun i hi => by refine ⟨?_, fun r h => ?_⟩ <;> first | rfl | cases h | (dsimp only; rw [if_pos (by omega)]; rfl) | (dsimp only at h; rw [if_pos (by omega)] at h; cases h) | (simp [va_cpy, fits]; done) | (simp [va_cpy] at h; done) | (simp only [updV]; (repeat' split) <;> rfl) | (simp only [updV] at h; (repeat' (split at h)) <;> cases h)) (Nat.le_of_ble_eq_true rfl) (by omega) ?_
  refine am_aload_n d_State_copy_90 rfl rfl ?_
  refine am_get O f_State_33 d_State_copy_91 (by exact h_187) (by decide) (by decide) rfl ?_
  refine am_get O f_State_54 d_State_copy_94 (by exact h_193) (by decide) (by decide) rfl ?_
  refine am_iconst (v := 0) d_State_copy_97 (by decide) ?_
  refine am_aload_n d_State_copy_98 rfl rfl ?_
  refine am_get O f_State_33 d_State_copy_99 (by exact h_204) (by decide) (by decide) rfl ?_
  refine am_get O f_State_54 d_State_copy_102 (by exact h_210) (by decide) (by decide) rfl ?_
  refine am_iconst (v := 0) d_State_copy_105 (by decide) ?_
  refine am_sipush (v := 2000) d_State_copy_106 (by decide) ?_
  refine am_copy (P := 0) (Q := 0) (N := 2000) O w_1990 w_735 w_734 w_167 d_State_copy_109 (by exact h_196) (by decide) (by decide) (by exact h_213) (by decide) (by decide) (by decide) (by decide) (by decide) (by decide) (by decide) (by decide) (by decide) (by decide) (by decide) (by decide) (fun i hi => by refine ⟨?_, fun r h => ?_⟩ <;> first | rfl | cases h | (dsimp only; rw [if_pos (by omega)]; rfl) | (dsimp only at h; rw [if_pos (by omega)] at h; cases h) | (simp [va_cpy, fits]; done) | (simp [va_cpy] at h; done) | (simp only [updV]; (repeat' split) <;> rfl) | (simp only [updV] at h; (repeat' (split at h)) <;> cases h)) (Nat.le_of_ble_eq_true rfl) (by omega) ?_
  refine am_aload_n d_State_copy_112 rfl rfl ?_
  refine am_get O f_State_33 d_State_copy_113 (by exact h_187) (by decide) (by decide) rfl ?_
  refine am_get O f_State_57 d_State_copy_116 (by exact h_193) (by decide) (by decide) rfl ?_
  refine am_iconst (v := 0) d_State_copy_119 (by decide) ?_
  refine am_aload_n d_State_copy_120 rfl rfl ?_
  refine am_get O f_State_33 d_State_copy_121 (by exact h_204) (by decide) (by decide) rfl ?_
  refine am_get O f_State_57 d_State_copy_124 (by exact h_210) (by decide) (by decide) rfl ?_
  refine am_iconst (v := 0) d_State_copy_127 (by decide) ?_
  refine am_sipush (v := 2000) d_State_copy_128 (by decide) ?_
  refine am_copy (P := 0) (Q := 0) (N := 2000) O w_1990 w_735 w_734 w_167 d_State_copy_131 (by exact h_197) (by decide) (by decide) (by exact h_214) (by decide) (by decide) (by decide) (by decide) (by decide) (by decide) (by decide) (by decide) (by decide) (by decide) (by decide) (by decide) (fun i hi => by refine ⟨?_, fun r h => ?_⟩ <;> first | rfl | cases h | (dsimp only; rw [if_pos (by omega)]; rfl) | (dsimp only at h; rw [if_pos (by omega)] at h; cases h) | (simp [va_cpy, fits]; done) | (simp [va_cpy] at h; done) | (simp only [updV]; (repeat' split) <;> rfl) | (simp only [updV] at h; (repeat' (split at h)) <;> cases h)) (Nat.le_of_ble_eq_true rfl) (by omega) ?_
  refine am_aload_n d_State_copy_134 rfl rfl ?_
  refine am_get O f_State_22 d_State_copy_135 (by exact h_187) (by decide) (by decide) rfl ?_
  refine am_iconst (v := 0) d_State_copy_138 (by decide) ?_
  refine am_aload_n d_State_copy_139 rfl rfl ?_
  refine am_get O f_State_22 d_State_copy_140 (by exact h_204) (by decide) (by decide) rfl ?_
  refine am_iconst (v := 0) d_State_copy_143 (by decide) ?_
  refine am_bipush (v := 12) d_State_copy_144 (by decide) ?_
  refine am_copy (P := 0) (Q := 0) (N := 12) O w_1990 w_735 w_734 w_167 d_State_copy_146 (by exact h_191) (by decide) (by decide) (by exact h_208) (by decide) (by decide) (by decide) (by decide) (by decide) (by decide) (by decide) (by decide) (by decide) (by decide) (by decide) (by decide) (fun i hi => by refine ⟨?_, fun r h => ?_⟩ <;> first | rfl | cases h | (dsimp only; rw [if_pos (by omega)]; rfl) | (dsimp only at h; rw [if_pos (by omega)] at h; cases h) | (simp [va_cpy, fits]; done) | (simp [va_cpy] at h; done) | (simp only [updV]; (repeat' split) <;> rfl) | (simp only [updV] at h; (repeat' (split at h)) <;> cases h)) (Nat.le_of_ble_eq_true rfl) (by omega) ?_
  refine am_iconst (v := 0) d_State_copy_149 (by decide) ?_
  refine am_istore_n d_State_copy_150 rfl (by decide) ?_
  refine am_iload_n d_State_copy_151 rfl rfl ?_
  refine am_aload_n d_State_copy_152 rfl rfl ?_
  refine am_get O f_State_60 d_State_copy_153 (by exact h_187) (by decide) (by decide) rfl ?_
  refine am_icmp_ge (tgt := 178) d_State_copy_156 (by decide) (fun _ => ?_) (fun c => absurd (by decide) c)
  refine am_aload_n d_State_copy_178 rfl rfl ?_
  refine am_get O f_State_25 d_State_copy_179 (by exact h_187) (by decide) (by decide) rfl ?_
  refine am_iconst (v := 0) d_State_copy_182 (by decide) ?_
  refine am_aload_n d_State_copy_183 rfl rfl ?_
  refine am_get O f_State_25 d_State_copy_184 (by exact h_204) (by decide) (by decide) rfl ?_
  refine am_iconst (v := 0) d_State_copy_187 (by decide) ?_
  refine am_bipush (v := 10) d_State_copy_188 (by decide) ?_
  refine am_copy (P := 0) (Q := 0) (N := 10) O w_1990 w_735 w_734 w_167 d_State_copy_190 (by exact h_192) (by decide) (by decide) (by exact h_209) (by decide) (by decide) (by decide) (by decide) (by decide) (by decide) (by decide) (by decide) (by decide) (by decide) (by decide) (by decide) (fun i hi => by refine ⟨?_, fun r h => ?_⟩ <;> first | rfl | cases h | (dsimp only; rw [if_pos (by omega)]; rfl) | (dsimp only at h; rw [if_pos (by omega)] at h; cases h) | (simp [va_cpy, fits]; done) | (simp [va_cpy] at h; done) | (simp only [updV]; (repeat' split) <;> rfl) | (simp only [updV] at h; (repeat' (split at h)) <;> cases h)) (Nat.le_of_ble_eq_true rfl) (by omega) ?_
  refine am_aload_n d_State_copy_193 rfl rfl ?_
  refine am_get O f_State_42 d_State_copy_194 (by exact h_187) (by decide) (by decide) rfl ?_
  refine am_iconst (v := 0) d_State_copy_197 (by decide) ?_
  refine am_aload_n d_State_copy_198 rfl rfl ?_
  refine am_get O f_State_42 d_State_copy_199 (by exact h_204) (by decide) (by decide) rfl ?_
  refine am_iconst (v := 0) d_State_copy_202 (by decide) ?_
  refine am_bipush (v := 10) d_State_copy_203 (by decide) ?_
  refine am_copyq (ci := 12) (P := 0) (Q := 0) (N := 10) O w_1990 w_735 w_734 w_167 d_State_copy_205 (by exact h_203) (by decide) (by decide) (by exact h_220) (by decide) (by decide) (by decide) (by decide) (by decide) (by decide) (by decide) (by decide) (by decide) (by decide) (by decide) (by rfl) (by rfl) (fun i hi => by first | exact Or.inl rfl | exact Or.inl (by simp [va_cpy])) (Nat.le_of_ble_eq_true rfl) (by omega) ?_
  refine am_aload_n d_State_copy_208 rfl rfl ?_
  refine am_aload_n d_State_copy_209 rfl rfl ?_
  refine am_get O f_State_68 d_State_copy_210 (by exact h_187) (by decide) (by decide) rfl ?_
  refine am_put O f_State_68 d_State_copy_213 (by exact h_204) (by decide) (by decide) (Nat.le_of_ble_eq_true rfl) (fun q hq => by cases hq; exact ⟨rfl, rfl, rfl⟩) ?_
  refine am_aload_n d_State_copy_216 rfl rfl ?_
  refine am_aload_n d_State_copy_217 rfl rfl ?_
  refine am_get O f_State_60 d_State_copy_218 (by exact h_187) (by decide) (by decide) rfl ?_
  refine am_put O f_State_60 d_State_copy_221 (by rfl) (by decide) (by decide) (Nat.le_of_ble_eq_true rfl) (fun q hq => by cases hq; exact ⟨rfl, rfl, rfl⟩) ?_
  refine am_aload_n d_State_copy_224 rfl rfl ?_
  refine am_aload_n d_State_copy_225 rfl rfl ?_
  refine am_get O f_State_71 d_State_copy_226 (by exact h_187) (by decide) (by decide) rfl ?_
  refine am_put O f_State_71 d_State_copy_229 (by rfl) (by decide) (by decide) (Nat.le_of_ble_eq_true rfl) (fun q hq => by cases hq; exact ⟨rfl, rfl, rfl⟩) ?_
  exact am_vret rfl d_State_copy_232 ⟨rfl, rfl, rfl, rfl, rfl, rfl, rfl, rfl, rfl, rfl, rfl, rfl, rfl, fun x hx => by simp only [List.mem_cons, List.not_mem_nil, or_false, not_or] at hx; dsimp only; (repeat (first | rw [va_up_ne _ _ (by omega)]))⟩

set_option maxRecDepth 100000 in
set_option maxHeartbeats 4000000 in
theorem t136_Mod_tellFunctions (O : am_ok K X) {x : Int32}  {f : Nat → am_C} (h_160 : f 160 = .inr (14, [.ref 161, .ref 162, .int 0, .int 0, .int 0, .int 0, .int 0, .int 0, .int 0, .int (-1), .int 1, .long 0, .ref 163, .ref 170, .ref 171, .ref 172, .ref 173, .ref 174, .ref 175, .ref 176, .int 0, .ref 177, .ref 163, .ref 184, .int 0, .int 0, .ref 185, .int 0, .ref 186, .int 0, .ref 187, .ref 204, .ref 221, .ref 238, .int 0, .int 0, .ref 239, .ref 240, .ref 245, .ref 250, .ref 255, .int 0, .int 0, .int x, .int 0, .int 0, .int 0, .ref 260, .ref 261, .ref 262, .ref 263, .ref 264, .int 0])) : am_Mt K X m_Mod_tellFunctions 0 0 0 [.ref 160] (1330, f) (fun v h' => v = some (.int 0) ∧ h' = (1330, f)) := by
  refine am_enter (by decide +kernel) (Nat.le_of_ble_eq_true rfl) ?_
  refine am_iconst (v := 0) d_Mod_tellFunctions_0 (by decide) ?_
  refine am_istore_n d_Mod_tellFunctions_1 rfl (by decide) ?_
  refine am_iload_n d_Mod_tellFunctions_2 rfl rfl ?_
  refine am_aload_n d_Mod_tellFunctions_3 rfl rfl ?_
  refine am_get O f_Mod_137 d_Mod_tellFunctions_4 (by exact h_160) (by decide) (by decide) rfl ?_
  refine am_icmp_ge (tgt := 216) d_Mod_tellFunctions_7 (by decide) (fun _ => ?_) (fun c => absurd (by decide) c)
  refine am_iconst (v := 0) d_Mod_tellFunctions_216 (by decide) ?_
  exact am_iret rfl d_Mod_tellFunctions_217 ⟨rfl, rfl⟩

set_option maxRecDepth 100000 in
set_option maxHeartbeats 4000000 in
theorem t137_Mod_enter (O : am_ok K X) {x : Int32}  {f : Nat → am_C} (h_160 : f 160 = .inr (14, [.ref 161, .ref 162, .int 0, .int 0, .int 0, .int 0, .int 0, .int 0, .int 0, .int (-1), .int 1, .long 0, .ref 163, .ref 170, .ref 171, .ref 172, .ref 173, .ref 174, .ref 175, .ref 176, .int 0, .ref 177, .ref 163, .ref 184, .int 0, .int 0, .ref 185, .int 0, .ref 186, .int 0, .ref 187, .ref 204, .ref 221, .ref 238, .int 0, .int 0, .ref 239, .ref 240, .ref 245, .ref 250, .ref 255, .int 0, .int 0, .int x, .int 0, .int 0, .int 0, .ref 260, .ref 261, .ref 262, .ref 263, .ref 264, .int 0])) (h_163 : f 163 = .inr (12, [.ref 164, .ref 165, .int 1, .int 0, .int 0, .int 0, .int 0, .int 0, .int 0, .int 0])) (h_260 : f 260 = .inl (.object "StowTongueModel$Code", 9, (fun _ => .null))) (h_261 : f 261 = .inl (.int, 9, (fun _ => .int 0))) (h_262 : f 262 = .inl (.int, 9, (fun _ => .int 0))) : am_Mt K X m_Mod_enter 0 0 0 [.ref 160, .ref 163, .int 0] (1330, f) (fun v h' => v = none ∧ h'.1 = 1330 ∧ h'.2 260 = .inl (.object "StowTongueModel$Code", 9, (updV (fun _ => .null) 0 (.ref 163))) ∧ h'.2 261 = .inl (.int, 9, (updV (fun _ => .int 0) 0 (.int 0))) ∧ h'.2 262 = .inl (.int, 9, (updV (fun _ => .int 0) 0 (.int 0))) ∧ h'.2 160 = .inr (14, [.ref 161, .ref 162, .int 0, .int 0, .int 0, .int 0, .int 0, .int 0, .int 0, .int (-1), .int 1, .long 0, .ref 163, .ref 170, .ref 171, .ref 172, .ref 173, .ref 174, .ref 175, .ref 176, .int 0, .ref 177, .ref 163, .ref 184, .int 0, .int 0, .ref 185, .int 0, .ref 186, .int 0, .ref 187, .ref 204, .ref 221, .ref 238, .int 0, .int 0, .ref 239, .ref 240, .ref 245, .ref 250, .ref 255, .int 0, .int 0, .int x, .int 0, .int 1, .int 0, .ref 260, .ref 261, .ref 262, .ref 263, .ref 264, .int 0]) ∧ ∀ x, x ∉ ([260, 261, 262, 160] : List Nat) → h'.2 x = f x) := by
  refine am_enter (by decide +kernel) (Nat.le_of_ble_eq_true rfl) ?_
  refine am_aload_n d_Mod_enter_0 rfl rfl ?_
  refine am_get O f_Mod_380 d_Mod_enter_1 (by exact h_160) (by decide) (by decide) rfl ?_
  refine am_aload_n d_Mod_enter_4 rfl rfl ?_
  refine am_get O f_Mod_492 d_Mod_enter_5 (by exact h_160) (by decide) (by decide) rfl ?_
  refine am_aload_n d_Mod_enter_8 rfl rfl ?_
  refine am_aast O d_Mod_enter_9 (by exact h_260) (by decide) (by decide) (by exact h_163) (by decide) (by decide) (by rfl) (by rfl) (by decide) (am_in (by decide) (by decide)) ?_
  refine am_aload_n d_Mod_enter_10 rfl rfl ?_
  refine am_get O f_Mod_383 d_Mod_enter_11 (by exact h_160) (by decide) (by decide) rfl ?_
  refine am_aload_n d_Mod_enter_14 rfl rfl ?_
  refine am_get O f_Mod_492 d_Mod_enter_15 (by exact h_160) (by decide) (by decide) rfl ?_
  refine am_aload_n d_Mod_enter_18 rfl rfl ?_
  refine am_get O f_Mod_502 d_Mod_enter_19 (by exact h_160) (by decide) (by decide) rfl ?_
  refine am_iast O (by decide) d_Mod_enter_22 (by exact h_261) (by decide) (by decide) (am_in (by decide) (by decide)) ?_
  refine am_aload_n d_Mod_enter_23 rfl rfl ?_
  refine am_get O f_Mod_386 d_Mod_enter_24 (by exact h_160) (by decide) (by decide) rfl ?_
  refine am_aload_n d_Mod_enter_27 rfl rfl ?_
  refine am_get O f_Mod_492 d_Mod_enter_28 (by exact h_160) (by decide) (by decide) rfl ?_
  refine am_aload_n d_Mod_enter_31 rfl rfl ?_
  refine am_get O f_Mod_489 d_Mod_enter_32 (by exact h_160) (by decide) (by decide) rfl ?_
  refine am_iast O (by decide) d_Mod_enter_35 (by exact h_262) (by decide) (by decide) (am_in (by decide) (by decide)) ?_
  refine am_iconst (v := 0) d_Mod_enter_36 (by decide) ?_
  refine am_istore_n d_Mod_enter_37 rfl (by decide) ?_
  refine am_iload_n d_Mod_enter_38 rfl rfl ?_
  refine am_aload_n d_Mod_enter_39 rfl rfl ?_
  refine am_get O f_Mod_160 d_Mod_enter_40 (by exact h_163) (by decide) (by decide) rfl ?_
  refine am_icmp_ge (tgt := 69) d_Mod_enter_43 (by decide) (fun _ => ?_) (fun c => absurd (by decide) c)
  refine am_iconst (v := 0) d_Mod_enter_69 (by decide) ?_
  refine am_istore_n d_Mod_enter_70 rfl (by decide) ?_
  refine am_iload_n d_Mod_enter_71 rfl rfl ?_
  refine am_iload_n d_Mod_enter_72 rfl rfl ?_
  refine am_icmp_ge (tgt := 107) d_Mod_enter_73 (by decide) (fun _ => ?_) (fun c => absurd (by decide) c)
  refine am_aload_n d_Mod_enter_107 rfl rfl ?_
  refine am_dup d_Mod_enter_108 rfl ?_
  refine am_get O f_Mod_486 d_Mod_enter_109 (by exact h_160) (by decide) (by decide) rfl ?_
  refine am_iload_n d_Mod_enter_112 rfl rfl ?_
  refine am_isub d_Mod_enter_113 ?_
  refine am_topi (v := 0) (by decide) ?_
  refine am_put O f_Mod_486 d_Mod_enter_114 (by exact h_160) (by decide) (by decide) (Nat.le_of_ble_eq_true rfl) (fun q hq => by cases hq; exact ⟨rfl, rfl, rfl⟩) ?_
  refine am_aload_n d_Mod_enter_117 rfl rfl ?_
  refine am_dup d_Mod_enter_118 rfl ?_
  refine am_get O f_Mod_489 d_Mod_enter_119 (by rfl) (by decide) (by decide) rfl ?_
  refine am_aload_n d_Mod_enter_122 rfl rfl ?_
  refine am_get O f_Mod_160 d_Mod_enter_123 (by exact h_163) (by decide) (by decide) rfl ?_
  refine am_iadd d_Mod_enter_126 ?_
  refine am_topi (v := 0) (by decide) ?_
  refine am_put O f_Mod_489 d_Mod_enter_127 (by rfl) (by decide) (by decide) (Nat.le_of_ble_eq_true rfl) (fun q hq => by cases hq; exact ⟨rfl, rfl, rfl⟩) ?_
  refine am_aload_n d_Mod_enter_130 rfl rfl ?_
  refine am_dup d_Mod_enter_131 rfl ?_
  refine am_get O f_Mod_492 d_Mod_enter_132 (by rfl) (by decide) (by decide) rfl ?_
  refine am_iconst (v := 1) d_Mod_enter_135 (by decide) ?_
  refine am_iadd d_Mod_enter_136 ?_
  refine am_topi (v := 1) (by decide) ?_
  refine am_put O f_Mod_492 d_Mod_enter_137 (by rfl) (by decide) (by decide) (Nat.le_of_ble_eq_true rfl) (fun q hq => by cases hq; exact ⟨rfl, rfl, rfl⟩) ?_
  refine am_aload_n d_Mod_enter_140 rfl rfl ?_
  refine am_iconst (v := 0) d_Mod_enter_141 (by decide) ?_
  refine am_put O f_Mod_502 d_Mod_enter_142 (by rfl) (by decide) (by decide) (Nat.le_of_ble_eq_true rfl) (fun q hq => by cases hq; exact ⟨rfl, rfl, rfl⟩) ?_
  exact am_vret rfl d_Mod_enter_145 ⟨rfl, rfl, rfl, rfl, rfl, rfl, fun x hx => by simp only [List.mem_cons, List.not_mem_nil, or_false, not_or] at hx; dsimp only; (repeat (first | rw [va_up_ne _ _ (by omega)]))⟩

set_option maxRecDepth 100000 in
set_option maxHeartbeats 4000000 in
theorem t138_Mod_next (O : am_ok K X) {x : Int32}  {f : Nat → am_C} (h_160 : f 160 = .inr (14, [.ref 161, .ref 162, .int 0, .int 0, .int 0, .int 0, .int 0, .int 0, .int 0, .int (-1), .int 1, .long 0, .ref 163, .ref 170, .ref 171, .ref 172, .ref 173, .ref 174, .ref 175, .ref 176, .int 0, .ref 177, .ref 163, .ref 184, .int 0, .int 0, .ref 185, .int 0, .ref 186, .int 0, .ref 187, .ref 204, .ref 221, .ref 238, .int 0, .int 0, .ref 239, .ref 240, .ref 245, .ref 250, .ref 255, .int 0, .int 0, .int x, .int 0, .int 1, .int 0, .ref 260, .ref 261, .ref 262, .ref 263, .ref 264, .int 0])) (h_163 : f 163 = .inr (12, [.ref 164, .ref 165, .int 1, .int 0, .int 0, .int 0, .int 0, .int 0, .int 0, .int 0])) (h_164 : f 164 = .inl (.int, 6000, (updV (fun _ => .int 0) 0 (.int 28)))) (h_260 : f 260 = .inl (.object "StowTongueModel$Code", 9, (updV (fun _ => .null) 0 (.ref 163)))) : am_Mt K X m_Mod_next 0 0 0 [.ref 160] (1330, f) (fun v h' => v = some (.int 28) ∧ h'.1 = 1330 ∧ h'.2 160 = .inr (14, [.ref 161, .ref 162, .int 0, .int 0, .int 0, .int 0, .int 0, .int 0, .int 0, .int (-1), .int 1, .long 0, .ref 163, .ref 170, .ref 171, .ref 172, .ref 173, .ref 174, .ref 175, .ref 176, .int 0, .ref 177, .ref 163, .ref 184, .int 0, .int 0, .ref 185, .int 0, .ref 186, .int 0, .ref 187, .ref 204, .ref 221, .ref 238, .int 0, .int 0, .ref 239, .ref 240, .ref 245, .ref 250, .ref 255, .int 0, .int 0, .int x, .int 0, .int 1, .int 1, .ref 260, .ref 261, .ref 262, .ref 263, .ref 264, .int 0]) ∧ ∀ x, x ∉ ([160] : List Nat) → h'.2 x = f x) := by
  refine am_enter (by decide +kernel) (Nat.le_of_ble_eq_true rfl) ?_
  refine am_aload_n d_Mod_next_0 rfl rfl ?_
  refine am_dup d_Mod_next_1 rfl ?_
  refine am_get O f_Mod_502 d_Mod_next_2 (by exact h_160) (by decide) (by decide) rfl ?_
  refine am_iconst (v := 1) d_Mod_next_5 (by decide) ?_
  refine am_iadd d_Mod_next_6 ?_
  refine am_topi (v := 1) (by decide) ?_
  refine am_put O f_Mod_502 d_Mod_next_7 (by exact h_160) (by decide) (by decide) (Nat.le_of_ble_eq_true rfl) (fun q hq => by cases hq; exact ⟨rfl, rfl, rfl⟩) ?_
  refine am_aload_n d_Mod_next_10 rfl rfl ?_
  refine am_get O f_Mod_380 d_Mod_next_11 (by rfl) (by decide) (by decide) rfl ?_
  refine am_aload_n d_Mod_next_14 rfl rfl ?_
  refine am_get O f_Mod_492 d_Mod_next_15 (by rfl) (by decide) (by decide) rfl ?_
  refine am_iconst (v := 1) d_Mod_next_18 (by decide) ?_
  refine am_isub d_Mod_next_19 ?_
  refine am_topi (v := 0) (by decide) ?_
  refine am_aald (v := .ref 163) O d_Mod_next_20 (by exact h_260) (by decide) (by decide) (by decide) rfl (am_in (by decide) (by decide)) rfl ?_
  refine am_get O f_Mod_95 d_Mod_next_21 (by exact h_163) (by decide) (by decide) rfl ?_
  refine am_aload_n d_Mod_next_24 rfl rfl ?_
  refine am_get O f_Mod_502 d_Mod_next_25 (by rfl) (by decide) (by decide) rfl ?_
  refine am_iconst (v := 1) d_Mod_next_28 (by decide) ?_
  refine am_isub d_Mod_next_29 ?_
  refine am_topi (v := 0) (by decide) ?_
  refine am_iald (v := .int 28) O (by decide) d_Mod_next_30 (by exact h_164) (by decide) (by decide) (am_in (by decide) (by decide)) rfl ?_
  exact am_iret rfl d_Mod_next_31 ⟨rfl, rfl, rfl, fun x hx => by simp only [List.mem_cons, List.not_mem_nil, or_false, not_or] at hx; dsimp only; (repeat (first | rw [va_up_ne _ _ (by omega)]))⟩

set_option maxRecDepth 100000 in
set_option maxHeartbeats 4000000 in
theorem t139_Vals_set (O : am_ok K X)   {f : Nat → am_C} (h_240 : f 240 = .inr (11, [.ref 241, .ref 242, .ref 243, .ref 244])) (h_241 : f 241 = .inl (.int, 8000, (fun _ => .int 0))) (h_242 : f 242 = .inl (.int, 8000, (fun _ => .int 0))) (h_243 : f 243 = .inl (.long, 8000, (fun _ => .long 0))) (h_244 : f 244 = .inl (.long, 8000, (fun _ => .long 0))) : am_Mt K X m_Vals_set 0 0 0 [.ref 240, .int 0, .int 0, .int 0, .long 0, .long 0] (1330, f) (fun v h' => v = none ∧ h'.1 = 1330 ∧ h'.2 241 = .inl (.int, 8000, (updV (fun _ => .int 0) 0 (.int 0))) ∧ h'.2 242 = .inl (.int, 8000, (updV (fun _ => .int 0) 0 (.int 0))) ∧ h'.2 243 = .inl (.long, 8000, (updV (fun _ => .long 0) 0 (.long 0))) ∧ h'.2 244 = .inl (.long, 8000, (updV (fun _ => .long 0) 0 (.long 0))) ∧ ∀ x, x ∉ ([241, 242, 243, 244] : List Nat) → h'.2 x = f x) := by
  refine am_enter (by decide +kernel) (Nat.le_of_ble_eq_true rfl) ?_
  refine am_aload_n d_Vals_set_0 rfl rfl ?_
  refine am_get O f_Vals_7 d_Vals_set_1 (by exact h_240) (by decide) (by decide) rfl ?_
  refine am_iload_n d_Vals_set_4 rfl rfl ?_
  refine am_iload_n d_Vals_set_5 rfl rfl ?_
  refine am_iast O (by decide) d_Vals_set_6 (by exact h_241) (by decide) (by decide) (am_in (by decide) (by decide)) ?_
  refine am_aload_n d_Vals_set_7 rfl rfl ?_
  refine am_get O f_Vals_13 d_Vals_set_8 (by exact h_240) (by decide) (by decide) rfl ?_
  refine am_iload_n d_Vals_set_11 rfl rfl ?_
  refine am_iload_n d_Vals_set_12 rfl rfl ?_
  refine am_iast O (by decide) d_Vals_set_13 (by exact h_242) (by decide) (by decide) (am_in (by decide) (by decide)) ?_
  refine am_aload_n d_Vals_set_14 rfl rfl ?_
  refine am_get O f_Vals_16 d_Vals_set_15 (by exact h_240) (by decide) (by decide) rfl ?_
  refine am_iload_n d_Vals_set_18 rfl rfl ?_
  refine am_lload d_Vals_set_19 rfl ?_
  refine am_last O (by decide) d_Vals_set_21 (by exact h_243) (by decide) (by decide) (am_in (by decide) (by decide)) ?_
  refine am_aload_n d_Vals_set_22 rfl rfl ?_
  refine am_get O f_Vals_20 d_Vals_set_23 (by exact h_240) (by decide) (by decide) rfl ?_
  refine am_iload_n d_Vals_set_26 rfl rfl ?_
  refine am_lload d_Vals_set_27 rfl ?_
  refine am_last O (by decide) d_Vals_set_29 (by exact h_244) (by decide) (by decide) (am_in (by decide) (by decide)) ?_
  exact am_vret rfl d_Vals_set_30 ⟨rfl, rfl, rfl, rfl, rfl, rfl, fun x hx => by simp only [List.mem_cons, List.not_mem_nil, or_false, not_or] at hx; dsimp only; (repeat (first | rw [va_up_ne _ _ (by omega)]))⟩

set_option maxRecDepth 100000 in
set_option maxHeartbeats 4000000 in
theorem t140_Mod_push (O : am_ok K X) {x : Int32}  {f : Nat → am_C} (h_160 : f 160 = .inr (14, [.ref 161, .ref 162, .int 0, .int 0, .int 0, .int 0, .int 0, .int 0, .int 0, .int (-1), .int 1, .long 0, .ref 163, .ref 170, .ref 171, .ref 172, .ref 173, .ref 174, .ref 175, .ref 176, .int 0, .ref 177, .ref 163, .ref 184, .int 0, .int 0, .ref 185, .int 0, .ref 186, .int 0, .ref 187, .ref 204, .ref 221, .ref 238, .int 0, .int 0, .ref 239, .ref 240, .ref 245, .ref 250, .ref 255, .int 0, .int 0, .int x, .int 0, .int 1, .int 1, .ref 260, .ref 261, .ref 262, .ref 263, .ref 264, .int 0])) (h_240 : f 240 = .inr (11, [.ref 241, .ref 242, .ref 243, .ref 244])) (h_241 : f 241 = .inl (.int, 8000, (fun _ => .int 0))) (h_242 : f 242 = .inl (.int, 8000, (fun _ => .int 0))) (h_243 : f 243 = .inl (.long, 8000, (fun _ => .long 0))) (h_244 : f 244 = .inl (.long, 8000, (fun _ => .long 0))) : am_Mt K X m_Mod_push 1 0 0 [.ref 160, .int 0, .long 0] (1330, f) (fun v h' => v = none ∧ h'.1 = 1330 ∧ h'.2 241 = .inl (.int, 8000, (updV (fun _ => .int 0) 0 (.int 0))) ∧ h'.2 242 = .inl (.int, 8000, (updV (fun _ => .int 0) 0 (.int 0))) ∧ h'.2 243 = .inl (.long, 8000, (updV (fun _ => .long 0) 0 (.long 0))) ∧ h'.2 244 = .inl (.long, 8000, (updV (fun _ => .long 0) 0 (.long 0))) ∧ h'.2 160 = .inr (14, [.ref 161, .ref 162, .int 0, .int 0, .int 0, .int 0, .int 0, .int 0, .int 0, .int (-1), .int 1, .long 0, .ref 163, .ref 170, .ref 171, .ref 172, .ref 173, .ref 174, .ref 175, .ref 176, .int 0, .ref 177, .ref 163, .ref 184, .int 0, .int 0, .ref 185, .int 0, .ref 186, .int 0, .ref 187, .ref 204, .ref 221, .ref 238, .int 0, .int 0, .ref 239, .ref 240, .ref 245, .ref 250, .ref 255, .int 1, .int 0, .int x, .int 0, .int 1, .int 1, .ref 260, .ref 261, .ref 262, .ref 263, .ref 264, .int 0]) ∧ ∀ x, x ∉ ([241, 242, 243, 244, 160] : List Nat) → h'.2 x = f x) := by
  refine am_enter (by decide +kernel) (Nat.le_of_ble_eq_true rfl) ?_
  refine am_aload_n d_Mod_push_0 rfl rfl ?_
  refine am_get O f_Mod_368 d_Mod_push_1 (by exact h_160) (by decide) (by decide) rfl ?_
  refine am_aload_n d_Mod_push_4 rfl rfl ?_
  refine am_get O f_Mod_486 d_Mod_push_5 (by exact h_160) (by decide) (by decide) rfl ?_
  refine am_iload_n d_Mod_push_8 rfl rfl ?_
  refine am_iconst (v := 0) d_Mod_push_9 (by decide) ?_
  refine am_lload_n d_Mod_push_10 rfl rfl ?_
  refine am_lconst (v := 0) d_Mod_push_11 (by decide) ?_
  refine am_callV O (t139_Vals_set O (by exact h_240) (by exact h_241) (by exact h_242) (by exact h_243) (by exact h_244)) rfl (by exact h_240) (by decide) (by decide) rfl rfl l_Mod_114 ⟨w_1914, w_1915⟩ rfl (Nat.le_of_ble_eq_true rfl) d_Mod_push_12 (by omega) (by omega) (by omega) (fun v h' hp => ?_)
  obtain ⟨n1, f1⟩ := h'
  obtain ⟨rfl, e1, g_241_1, g_242_1, g_243_1, g_244_1, fr1⟩ := hp
  obtain rfl : n1 = 1330 := e1
  have fr1 := fun (x : Nat) (hx : x ∉ ([241, 242, 243, 244] : List Nat)) => (show f1 x = _ from fr1 x hx)
  have h_241_1 : f1 241 = .inl (.int, 8000, (updV (fun _ => .int 0) 0 (.int 0))) := g_241_1
  have h_242_1 : f1 242 = .inl (.int, 8000, (updV (fun _ => .int 0) 0 (.int 0))) := g_242_1
  have h_243_1 : f1 243 = .inl (.long, 8000, (updV (fun _ => .long 0) 0 (.long 0))) := g_243_1
  have h_244_1 : f1 244 = .inl (.long, 8000, (updV (fun _ => .long 0) 0 (.long 0))) := g_244_1
  refine am_aload_n d_Mod_push_15 rfl rfl ?_
  refine am_dup d_Mod_push_16 rfl ?_
  have h_160_1 : f1 160 = .inr (14, [.ref 161, .ref 162, .int 0, .int 0, .int 0, .int 0, .int 0, .int 0, .int 0, .int (-1), .int 1, .long 0, .ref 163, .ref 170, .ref 171, .ref 172, .ref 173, .ref 174, .ref 175, .ref 176, .int 0, .ref 177, .ref 163, .ref 184, .int 0, .int 0, .ref 185, .int 0, .ref 186, .int 0, .ref 187, .ref 204, .ref 221, .ref 238, .int 0, .int 0, .ref 239, .ref 240, .ref 245, .ref 250, .ref 255, .int 0, .int 0, .int x, .int 0, .int 1, .int 1, .ref 260, .ref 261, .ref 262, .ref 263, .ref 264, .int 0]) := (fr1 160 (by decide)).trans h_160
  refine am_get O f_Mod_486 d_Mod_push_17 (by exact h_160_1) (by decide) (by decide) rfl ?_
  refine am_iconst (v := 1) d_Mod_push_20 (by decide) ?_
  refine am_iadd d_Mod_push_21 ?_
  refine am_topi (v := 1) (by decide) ?_
  refine am_put O f_Mod_486 d_Mod_push_22 (by exact h_160_1) (by decide) (by decide) (Nat.le_of_ble_eq_true rfl) (fun q hq => by cases hq; exact ⟨rfl, rfl, rfl⟩) ?_
  exact am_vret rfl d_Mod_push_25 ⟨rfl, rfl, h_241_1, h_242_1, h_243_1, h_244_1, rfl, fun x hx => by simp only [List.mem_cons, List.not_mem_nil, or_false, not_or] at hx; dsimp only; (repeat (first | rw [va_up_ne _ _ (by omega)] | rw [fr1 x (by simp only [List.mem_cons, List.not_mem_nil, or_false, not_or]; omega)]))⟩

set_option maxRecDepth 100000 in
set_option maxHeartbeats 4000000 in
theorem t141_Vals_set (O : am_ok K X)   {f : Nat → am_C} (h_255 : f 255 = .inr (11, [.ref 256, .ref 257, .ref 258, .ref 259])) (h_256 : f 256 = .inl (.int, 4, (fun _ => .int 0))) (h_257 : f 257 = .inl (.int, 4, (fun _ => .int 0))) (h_258 : f 258 = .inl (.long, 4, (fun _ => .long 0))) (h_259 : f 259 = .inl (.long, 4, (fun _ => .long 0))) : am_Mt K X m_Vals_set 0 0 0 [.ref 255, .int 0, .int 0, .int 0, .long 0, .long 0] (1330, f) (fun v h' => v = none ∧ h'.1 = 1330 ∧ h'.2 256 = .inl (.int, 4, (updV (fun _ => .int 0) 0 (.int 0))) ∧ h'.2 257 = .inl (.int, 4, (updV (fun _ => .int 0) 0 (.int 0))) ∧ h'.2 258 = .inl (.long, 4, (updV (fun _ => .long 0) 0 (.long 0))) ∧ h'.2 259 = .inl (.long, 4, (updV (fun _ => .long 0) 0 (.long 0))) ∧ ∀ x, x ∉ ([256, 257, 258, 259] : List Nat) → h'.2 x = f x) := by
  refine am_enter (by decide +kernel) (Nat.le_of_ble_eq_true rfl) ?_
  refine am_aload_n d_Vals_set_0 rfl rfl ?_
  refine am_get O f_Vals_7 d_Vals_set_1 (by exact h_255) (by decide) (by decide) rfl ?_
  refine am_iload_n d_Vals_set_4 rfl rfl ?_
  refine am_iload_n d_Vals_set_5 rfl rfl ?_
  refine am_iast O (by decide) d_Vals_set_6 (by exact h_256) (by decide) (by decide) (am_in (by decide) (by decide)) ?_
  refine am_aload_n d_Vals_set_7 rfl rfl ?_
  refine am_get O f_Vals_13 d_Vals_set_8 (by exact h_255) (by decide) (by decide) rfl ?_
  refine am_iload_n d_Vals_set_11 rfl rfl ?_
  refine am_iload_n d_Vals_set_12 rfl rfl ?_
  refine am_iast O (by decide) d_Vals_set_13 (by exact h_257) (by decide) (by decide) (am_in (by decide) (by decide)) ?_
  refine am_aload_n d_Vals_set_14 rfl rfl ?_
  refine am_get O f_Vals_16 d_Vals_set_15 (by exact h_255) (by decide) (by decide) rfl ?_
  refine am_iload_n d_Vals_set_18 rfl rfl ?_
  refine am_lload d_Vals_set_19 rfl ?_
  refine am_last O (by decide) d_Vals_set_21 (by exact h_258) (by decide) (by decide) (am_in (by decide) (by decide)) ?_
  refine am_aload_n d_Vals_set_22 rfl rfl ?_
  refine am_get O f_Vals_20 d_Vals_set_23 (by exact h_255) (by decide) (by decide) rfl ?_
  refine am_iload_n d_Vals_set_26 rfl rfl ?_
  refine am_lload d_Vals_set_27 rfl ?_
  refine am_last O (by decide) d_Vals_set_29 (by exact h_259) (by decide) (by decide) (am_in (by decide) (by decide)) ?_
  exact am_vret rfl d_Vals_set_30 ⟨rfl, rfl, rfl, rfl, rfl, rfl, fun x hx => by simp only [List.mem_cons, List.not_mem_nil, or_false, not_or] at hx; dsimp only; (repeat (first | rw [va_up_ne _ _ (by omega)]))⟩

set_option maxRecDepth 100000 in
set_option maxHeartbeats 4000000 in
theorem t142_Vals_copy (O : am_ok K X)   {f : Nat → am_C} (h_240 : f 240 = .inr (11, [.ref 241, .ref 242, .ref 243, .ref 244])) (h_241 : f 241 = .inl (.int, 8000, (updV (fun _ => .int 0) 0 (.int 0)))) (h_242 : f 242 = .inl (.int, 8000, (updV (fun _ => .int 0) 0 (.int 0)))) (h_243 : f 243 = .inl (.long, 8000, (updV (fun _ => .long 0) 0 (.long 0)))) (h_244 : f 244 = .inl (.long, 8000, (updV (fun _ => .long 0) 0 (.long 0)))) (h_255 : f 255 = .inr (11, [.ref 256, .ref 257, .ref 258, .ref 259])) (h_256 : f 256 = .inl (.int, 4, (fun _ => .int 0))) (h_257 : f 257 = .inl (.int, 4, (fun _ => .int 0))) (h_258 : f 258 = .inl (.long, 4, (fun _ => .long 0))) (h_259 : f 259 = .inl (.long, 4, (fun _ => .long 0))) : am_Mt K X m_Vals_copy 1 0 0 [.ref 255, .int 0, .ref 240, .int 0] (1330, f) (fun v h' => v = none ∧ h'.1 = 1330 ∧ h'.2 256 = .inl (.int, 4, (updV (fun _ => .int 0) 0 (.int 0))) ∧ h'.2 257 = .inl (.int, 4, (updV (fun _ => .int 0) 0 (.int 0))) ∧ h'.2 258 = .inl (.long, 4, (updV (fun _ => .long 0) 0 (.long 0))) ∧ h'.2 259 = .inl (.long, 4, (updV (fun _ => .long 0) 0 (.long 0))) ∧ ∀ x, x ∉ ([256, 257, 258, 259] : List Nat) → h'.2 x = f x) := by
  refine am_enter (by decide +kernel) (Nat.le_of_ble_eq_true rfl) ?_
  refine am_aload_n d_Vals_copy_0 rfl rfl ?_
  refine am_iload_n d_Vals_copy_1 rfl rfl ?_
  refine am_aload_n d_Vals_copy_2 rfl rfl ?_
  refine am_get O f_Vals_7 d_Vals_copy_3 (by exact h_240) (by decide) (by decide) rfl ?_
  refine am_iload_n d_Vals_copy_6 rfl rfl ?_
  refine am_iald (v := .int 0) O (by decide) d_Vals_copy_7 (by exact h_241) (by decide) (by decide) (am_in (by decide) (by decide)) rfl ?_
  refine am_aload_n d_Vals_copy_8 rfl rfl ?_
  refine am_get O f_Vals_13 d_Vals_copy_9 (by exact h_240) (by decide) (by decide) rfl ?_
  refine am_iload_n d_Vals_copy_12 rfl rfl ?_
  refine am_iald (v := .int 0) O (by decide) d_Vals_copy_13 (by exact h_242) (by decide) (by decide) (am_in (by decide) (by decide)) rfl ?_
  refine am_aload_n d_Vals_copy_14 rfl rfl ?_
  refine am_get O f_Vals_16 d_Vals_copy_15 (by exact h_240) (by decide) (by decide) rfl ?_
  refine am_iload_n d_Vals_copy_18 rfl rfl ?_
  refine am_lald (v := .long 0) O (by decide) d_Vals_copy_19 (by exact h_243) (by decide) (by decide) (am_in (by decide) (by decide)) rfl ?_
  refine am_aload_n d_Vals_copy_20 rfl rfl ?_
  refine am_get O f_Vals_20 d_Vals_copy_21 (by exact h_240) (by decide) (by decide) rfl ?_
  refine am_iload_n d_Vals_copy_24 rfl rfl ?_
  refine am_lald (v := .long 0) O (by decide) d_Vals_copy_25 (by exact h_244) (by decide) (by decide) (am_in (by decide) (by decide)) rfl ?_
  refine am_callV O (t141_Vals_set O (by exact h_255) (by exact h_256) (by exact h_257) (by exact h_258) (by exact h_259)) rfl (by exact h_255) (by decide) (by decide) rfl rfl l_Vals_23 ⟨w_1914, w_1915⟩ rfl (Nat.le_of_ble_eq_true rfl) d_Vals_copy_26 (by omega) (by omega) (by omega) (fun v h' hp => ?_)
  obtain ⟨n1, f1⟩ := h'
  obtain ⟨rfl, e1, g_256_1, g_257_1, g_258_1, g_259_1, fr1⟩ := hp
  obtain rfl : n1 = 1330 := e1
  have fr1 := fun (x : Nat) (hx : x ∉ ([256, 257, 258, 259] : List Nat)) => (show f1 x = _ from fr1 x hx)
  have h_256_1 : f1 256 = .inl (.int, 4, (updV (fun _ => .int 0) 0 (.int 0))) := g_256_1
  have h_257_1 : f1 257 = .inl (.int, 4, (updV (fun _ => .int 0) 0 (.int 0))) := g_257_1
  have h_258_1 : f1 258 = .inl (.long, 4, (updV (fun _ => .long 0) 0 (.long 0))) := g_258_1
  have h_259_1 : f1 259 = .inl (.long, 4, (updV (fun _ => .long 0) 0 (.long 0))) := g_259_1
  exact am_vret rfl d_Vals_copy_29 ⟨rfl, rfl, h_256_1, h_257_1, h_258_1, h_259_1, fun x hx => by simp only [List.mem_cons, List.not_mem_nil, or_false, not_or] at hx; dsimp only; (repeat (first | rw [va_up_ne _ _ (by omega)] | rw [fr1 x (by simp only [List.mem_cons, List.not_mem_nil, or_false, not_or]; omega)]))⟩

set_option maxRecDepth 100000 in
set_option maxHeartbeats 4000000 in
theorem t143_Vals_set (O : am_ok K X)   {f : Nat → am_C} (h_250 : f 250 = .inr (11, [.ref 251, .ref 252, .ref 253, .ref 254])) (h_251 : f 251 = .inl (.int, 1, (updV (fun _ => .int 0) 0 (.int 0)))) (h_252 : f 252 = .inl (.int, 1, (updV (fun _ => .int 0) 0 (.int 0)))) (h_253 : f 253 = .inl (.long, 1, (updV (fun _ => .long 0) 0 (.long 0)))) (h_254 : f 254 = .inl (.long, 1, (updV (fun _ => .long 0) 0 (.long 0)))) : am_Mt K X m_Vals_set 0 0 0 [.ref 250, .int 0, .int 0, .int 0, .long 0, .long 0] (1330, f) (fun v h' => v = none ∧ h'.1 = 1330 ∧ h'.2 251 = .inl (.int, 1, (updV (updV (fun _ => .int 0) 0 (.int 0)) 0 (.int 0))) ∧ h'.2 252 = .inl (.int, 1, (updV (updV (fun _ => .int 0) 0 (.int 0)) 0 (.int 0))) ∧ h'.2 253 = .inl (.long, 1, (updV (updV (fun _ => .long 0) 0 (.long 0)) 0 (.long 0))) ∧ h'.2 254 = .inl (.long, 1, (updV (updV (fun _ => .long 0) 0 (.long 0)) 0 (.long 0))) ∧ ∀ x, x ∉ ([251, 252, 253, 254] : List Nat) → h'.2 x = f x) := by
  refine am_enter (by decide +kernel) (Nat.le_of_ble_eq_true rfl) ?_
  refine am_aload_n d_Vals_set_0 rfl rfl ?_
  refine am_get O f_Vals_7 d_Vals_set_1 (by exact h_250) (by decide) (by decide) rfl ?_
  refine am_iload_n d_Vals_set_4 rfl rfl ?_
  refine am_iload_n d_Vals_set_5 rfl rfl ?_
  refine am_iast O (by decide) d_Vals_set_6 (by exact h_251) (by decide) (by decide) (am_in (by decide) (by decide)) ?_
  refine am_aload_n d_Vals_set_7 rfl rfl ?_
  refine am_get O f_Vals_13 d_Vals_set_8 (by exact h_250) (by decide) (by decide) rfl ?_
  refine am_iload_n d_Vals_set_11 rfl rfl ?_
  refine am_iload_n d_Vals_set_12 rfl rfl ?_
  refine am_iast O (by decide) d_Vals_set_13 (by exact h_252) (by decide) (by decide) (am_in (by decide) (by decide)) ?_
  refine am_aload_n d_Vals_set_14 rfl rfl ?_
  refine am_get O f_Vals_16 d_Vals_set_15 (by exact h_250) (by decide) (by decide) rfl ?_
  refine am_iload_n d_Vals_set_18 rfl rfl ?_
  refine am_lload d_Vals_set_19 rfl ?_
  refine am_last O (by decide) d_Vals_set_21 (by exact h_253) (by decide) (by decide) (am_in (by decide) (by decide)) ?_
  refine am_aload_n d_Vals_set_22 rfl rfl ?_
  refine am_get O f_Vals_20 d_Vals_set_23 (by exact h_250) (by decide) (by decide) rfl ?_
  refine am_iload_n d_Vals_set_26 rfl rfl ?_
  refine am_lload d_Vals_set_27 rfl ?_
  refine am_last O (by decide) d_Vals_set_29 (by exact h_254) (by decide) (by decide) (am_in (by decide) (by decide)) ?_
  exact am_vret rfl d_Vals_set_30 ⟨rfl, rfl, rfl, rfl, rfl, rfl, fun x hx => by simp only [List.mem_cons, List.not_mem_nil, or_false, not_or] at hx; dsimp only; (repeat (first | rw [va_up_ne _ _ (by omega)]))⟩

set_option maxRecDepth 100000 in
set_option maxHeartbeats 4000000 in
theorem t144_Vals_copy (O : am_ok K X)   {f : Nat → am_C} (h_250 : f 250 = .inr (11, [.ref 251, .ref 252, .ref 253, .ref 254])) (h_251 : f 251 = .inl (.int, 1, (updV (fun _ => .int 0) 0 (.int 0)))) (h_252 : f 252 = .inl (.int, 1, (updV (fun _ => .int 0) 0 (.int 0)))) (h_253 : f 253 = .inl (.long, 1, (updV (fun _ => .long 0) 0 (.long 0)))) (h_254 : f 254 = .inl (.long, 1, (updV (fun _ => .long 0) 0 (.long 0)))) (h_255 : f 255 = .inr (11, [.ref 256, .ref 257, .ref 258, .ref 259])) (h_256 : f 256 = .inl (.int, 4, (updV (fun _ => .int 0) 0 (.int 0)))) (h_257 : f 257 = .inl (.int, 4, (updV (fun _ => .int 0) 0 (.int 0)))) (h_258 : f 258 = .inl (.long, 4, (updV (fun _ => .long 0) 0 (.long 0)))) (h_259 : f 259 = .inl (.long, 4, (updV (fun _ => .long 0) 0 (.long 0)))) : am_Mt K X m_Vals_copy 1 0 0 [.ref 250, .int 0, .ref 255, .int 0] (1330, f) (fun v h' => v = none ∧ h'.1 = 1330 ∧ h'.2 251 = .inl (.int, 1, (updV (updV (fun _ => .int 0) 0 (.int 0)) 0 (.int 0))) ∧ h'.2 252 = .inl (.int, 1, (updV (updV (fun _ => .int 0) 0 (.int 0)) 0 (.int 0))) ∧ h'.2 253 = .inl (.long, 1, (updV (updV (fun _ => .long 0) 0 (.long 0)) 0 (.long 0))) ∧ h'.2 254 = .inl (.long, 1, (updV (updV (fun _ => .long 0) 0 (.long 0)) 0 (.long 0))) ∧ ∀ x, x ∉ ([251, 252, 253, 254] : List Nat) → h'.2 x = f x) := by
  refine am_enter (by decide +kernel) (Nat.le_of_ble_eq_true rfl) ?_
  refine am_aload_n d_Vals_copy_0 rfl rfl ?_
  refine am_iload_n d_Vals_copy_1 rfl rfl ?_
  refine am_aload_n d_Vals_copy_2 rfl rfl ?_
  refine am_get O f_Vals_7 d_Vals_copy_3 (by exact h_255) (by decide) (by decide) rfl ?_
  refine am_iload_n d_Vals_copy_6 rfl rfl ?_
  refine am_iald (v := .int 0) O (by decide) d_Vals_copy_7 (by exact h_256) (by decide) (by decide) (am_in (by decide) (by decide)) rfl ?_
  refine am_aload_n d_Vals_copy_8 rfl rfl ?_
  refine am_get O f_Vals_13 d_Vals_copy_9 (by exact h_255) (by decide) (by decide) rfl ?_
  refine am_iload_n d_Vals_copy_12 rfl rfl ?_
  refine am_iald (v := .int 0) O (by decide) d_Vals_copy_13 (by exact h_257) (by decide) (by decide) (am_in (by decide) (by decide)) rfl ?_
  refine am_aload_n d_Vals_copy_14 rfl rfl ?_
  refine am_get O f_Vals_16 d_Vals_copy_15 (by exact h_255) (by decide) (by decide) rfl ?_
  refine am_iload_n d_Vals_copy_18 rfl rfl ?_
  refine am_lald (v := .long 0) O (by decide) d_Vals_copy_19 (by exact h_258) (by decide) (by decide) (am_in (by decide) (by decide)) rfl ?_
  refine am_aload_n d_Vals_copy_20 rfl rfl ?_
  refine am_get O f_Vals_20 d_Vals_copy_21 (by exact h_255) (by decide) (by decide) rfl ?_
  refine am_iload_n d_Vals_copy_24 rfl rfl ?_
  refine am_lald (v := .long 0) O (by decide) d_Vals_copy_25 (by exact h_259) (by decide) (by decide) (am_in (by decide) (by decide)) rfl ?_
  refine am_callV O (t143_Vals_set O (by exact h_250) (by exact h_251) (by exact h_252) (by exact h_253) (by exact h_254)) rfl (by exact h_250) (by decide) (by decide) rfl rfl l_Vals_23 ⟨w_1914, w_1915⟩ rfl (Nat.le_of_ble_eq_true rfl) d_Vals_copy_26 (by omega) (by omega) (by omega) (fun v h' hp => ?_)
  obtain ⟨n1, f1⟩ := h'
  obtain ⟨rfl, e1, g_251_1, g_252_1, g_253_1, g_254_1, fr1⟩ := hp
  obtain rfl : n1 = 1330 := e1
  have fr1 := fun (x : Nat) (hx : x ∉ ([251, 252, 253, 254] : List Nat)) => (show f1 x = _ from fr1 x hx)
  have h_251_1 : f1 251 = .inl (.int, 1, (updV (updV (fun _ => .int 0) 0 (.int 0)) 0 (.int 0))) := g_251_1
  have h_252_1 : f1 252 = .inl (.int, 1, (updV (updV (fun _ => .int 0) 0 (.int 0)) 0 (.int 0))) := g_252_1
  have h_253_1 : f1 253 = .inl (.long, 1, (updV (updV (fun _ => .long 0) 0 (.long 0)) 0 (.long 0))) := g_253_1
  have h_254_1 : f1 254 = .inl (.long, 1, (updV (updV (fun _ => .long 0) 0 (.long 0)) 0 (.long 0))) := g_254_1
  exact am_vret rfl d_Vals_copy_29 ⟨rfl, rfl, h_251_1, h_252_1, h_253_1, h_254_1, fun x hx => by simp only [List.mem_cons, List.not_mem_nil, or_false, not_or] at hx; dsimp only; (repeat (first | rw [va_up_ne _ _ (by omega)] | rw [fr1 x (by simp only [List.mem_cons, List.not_mem_nil, or_false, not_or]; omega)]))⟩

set_option maxRecDepth 100000 in
set_option maxHeartbeats 4000000 in
theorem t145_Mod_leave (O : am_ok K X) {x : Int32}  {f : Nat → am_C} (h_160 : f 160 = .inr (14, [.ref 161, .ref 162, .int 0, .int 0, .int 0, .int 0, .int 0, .int 0, .int 0, .int (-1), .int 1, .long 0, .ref 163, .ref 170, .ref 171, .ref 172, .ref 173, .ref 174, .ref 175, .ref 176, .int 0, .ref 177, .ref 163, .ref 184, .int 0, .int 0, .ref 185, .int 0, .ref 186, .int 0, .ref 187, .ref 204, .ref 221, .ref 238, .int 0, .int 0, .ref 239, .ref 240, .ref 245, .ref 250, .ref 255, .int 1, .int 0, .int x, .int 0, .int 1, .int 1, .ref 260, .ref 261, .ref 262, .ref 263, .ref 264, .int 0])) (h_240 : f 240 = .inr (11, [.ref 241, .ref 242, .ref 243, .ref 244])) (h_241 : f 241 = .inl (.int, 8000, (updV (fun _ => .int 0) 0 (.int 0)))) (h_242 : f 242 = .inl (.int, 8000, (updV (fun _ => .int 0) 0 (.int 0)))) (h_243 : f 243 = .inl (.long, 8000, (updV (fun _ => .long 0) 0 (.long 0)))) (h_244 : f 244 = .inl (.long, 8000, (updV (fun _ => .long 0) 0 (.long 0)))) (h_250 : f 250 = .inr (11, [.ref 251, .ref 252, .ref 253, .ref 254])) (h_251 : f 251 = .inl (.int, 1, (updV (fun _ => .int 0) 0 (.int 0)))) (h_252 : f 252 = .inl (.int, 1, (updV (fun _ => .int 0) 0 (.int 0)))) (h_253 : f 253 = .inl (.long, 1, (updV (fun _ => .long 0) 0 (.long 0)))) (h_254 : f 254 = .inl (.long, 1, (updV (fun _ => .long 0) 0 (.long 0)))) (h_255 : f 255 = .inr (11, [.ref 256, .ref 257, .ref 258, .ref 259])) (h_256 : f 256 = .inl (.int, 4, (fun _ => .int 0))) (h_257 : f 257 = .inl (.int, 4, (fun _ => .int 0))) (h_258 : f 258 = .inl (.long, 4, (fun _ => .long 0))) (h_259 : f 259 = .inl (.long, 4, (fun _ => .long 0))) : am_Mt K X m_Mod_leave 2 0 0 [.ref 160] (1330, f) (fun v h' => v = some (.int 0) ∧ h'.1 = 1330 ∧ h'.2 160 = .inr (14, [.ref 161, .ref 162, .int 0, .int 0, .int 0, .int 0, .int 0, .int 0, .int 0, .int (-1), .int 1, .long 0, .ref 163, .ref 170, .ref 171, .ref 172, .ref 173, .ref 174, .ref 175, .ref 176, .int 0, .ref 177, .ref 163, .ref 184, .int 0, .int 0, .ref 185, .int 0, .ref 186, .int 0, .ref 187, .ref 204, .ref 221, .ref 238, .int 0, .int 0, .ref 239, .ref 240, .ref 245, .ref 250, .ref 255, .int 0, .int 0, .int x, .int 0, .int 0, .int 1, .ref 260, .ref 261, .ref 262, .ref 263, .ref 264, .int 0]) ∧ h'.2 256 = .inl (.int, 4, (updV (fun _ => .int 0) 0 (.int 0))) ∧ h'.2 257 = .inl (.int, 4, (updV (fun _ => .int 0) 0 (.int 0))) ∧ h'.2 258 = .inl (.long, 4, (updV (fun _ => .long 0) 0 (.long 0))) ∧ h'.2 259 = .inl (.long, 4, (updV (fun _ => .long 0) 0 (.long 0))) ∧ h'.2 251 = .inl (.int, 1, (updV (updV (fun _ => .int 0) 0 (.int 0)) 0 (.int 0))) ∧ h'.2 252 = .inl (.int, 1, (updV (updV (fun _ => .int 0) 0 (.int 0)) 0 (.int 0))) ∧ h'.2 253 = .inl (.long, 1, (updV (updV (fun _ => .long 0) 0 (.long 0)) 0 (.long 0))) ∧ h'.2 254 = .inl (.long, 1, (updV (updV (fun _ => .long 0) 0 (.long 0)) 0 (.long 0))) ∧ ∀ x, x ∉ ([160, 256, 257, 258, 259, 251, 252, 253, 254] : List Nat) → h'.2 x = f x) := by
  refine am_enter (by decide +kernel) (Nat.le_of_ble_eq_true rfl) ?_
  refine am_aload_n d_Mod_leave_0 rfl rfl ?_
  refine am_dup d_Mod_leave_1 rfl ?_
  refine am_get O f_Mod_486 d_Mod_leave_2 (by exact h_160) (by decide) (by decide) rfl ?_
  refine am_iconst (v := 1) d_Mod_leave_5 (by decide) ?_
  refine am_isub d_Mod_leave_6 ?_
  refine am_topi (v := 0) (by decide) ?_
  refine am_put O f_Mod_486 d_Mod_leave_7 (by exact h_160) (by decide) (by decide) (Nat.le_of_ble_eq_true rfl) (fun q hq => by cases hq; exact ⟨rfl, rfl, rfl⟩) ?_
  refine am_aload_n d_Mod_leave_10 rfl rfl ?_
  refine am_get O f_Mod_377 d_Mod_leave_11 (by rfl) (by decide) (by decide) rfl ?_
  refine am_iconst (v := 0) d_Mod_leave_14 (by decide) ?_
  refine am_aload_n d_Mod_leave_15 rfl rfl ?_
  refine am_get O f_Mod_368 d_Mod_leave_16 (by rfl) (by decide) (by decide) rfl ?_
  refine am_aload_n d_Mod_leave_19 rfl rfl ?_
  refine am_get O f_Mod_486 d_Mod_leave_20 (by rfl) (by decide) (by decide) rfl ?_
  refine am_callV O (t142_Vals_copy O (by exact h_240) (by exact h_241) (by exact h_242) (by exact h_243) (by exact h_244) (by exact h_255) (by exact h_256) (by exact h_257) (by exact h_258) (by exact h_259)) rfl (by exact h_255) (by decide) (by decide) rfl rfl l_Mod_505 ⟨w_1992, w_1993⟩ rfl (Nat.le_of_ble_eq_true rfl) d_Mod_leave_23 (by omega) (by omega) (by omega) (fun v h' hp => ?_)
  obtain ⟨n1, f1⟩ := h'
  obtain ⟨rfl, e1, g_256_1, g_257_1, g_258_1, g_259_1, fr1⟩ := hp
  obtain rfl : n1 = 1330 := e1
  have fr1 := fun (x : Nat) (hx : x ∉ ([256, 257, 258, 259] : List Nat)) => (show f1 x = _ from fr1 x hx)
  have h_256_1 : f1 256 = .inl (.int, 4, (updV (fun _ => .int 0) 0 (.int 0))) := g_256_1
  have h_257_1 : f1 257 = .inl (.int, 4, (updV (fun _ => .int 0) 0 (.int 0))) := g_257_1
  have h_258_1 : f1 258 = .inl (.long, 4, (updV (fun _ => .long 0) 0 (.long 0))) := g_258_1
  have h_259_1 : f1 259 = .inl (.long, 4, (updV (fun _ => .long 0) 0 (.long 0))) := g_259_1
  refine am_aload_n d_Mod_leave_26 rfl rfl ?_
  refine am_dup d_Mod_leave_27 rfl ?_
  have h_160_1 : f1 160 = .inr (14, [.ref 161, .ref 162, .int 0, .int 0, .int 0, .int 0, .int 0, .int 0, .int 0, .int (-1), .int 1, .long 0, .ref 163, .ref 170, .ref 171, .ref 172, .ref 173, .ref 174, .ref 175, .ref 176, .int 0, .ref 177, .ref 163, .ref 184, .int 0, .int 0, .ref 185, .int 0, .ref 186, .int 0, .ref 187, .ref 204, .ref 221, .ref 238, .int 0, .int 0, .ref 239, .ref 240, .ref 245, .ref 250, .ref 255, .int 0, .int 0, .int x, .int 0, .int 1, .int 1, .ref 260, .ref 261, .ref 262, .ref 263, .ref 264, .int 0]) := (fr1 160 (by decide)).trans rfl
  refine am_get O f_Mod_492 d_Mod_leave_28 (by exact h_160_1) (by decide) (by decide) rfl ?_
  refine am_iconst (v := 1) d_Mod_leave_31 (by decide) ?_
  refine am_isub d_Mod_leave_32 ?_
  refine am_topi (v := 0) (by decide) ?_
  refine am_put O f_Mod_492 d_Mod_leave_33 (by exact h_160_1) (by decide) (by decide) (Nat.le_of_ble_eq_true rfl) (fun q hq => by cases hq; exact ⟨rfl, rfl, rfl⟩) ?_
  refine am_aload_n d_Mod_leave_36 rfl rfl ?_
  refine am_get O f_Mod_492 d_Mod_leave_37 (by rfl) (by decide) (by decide) rfl ?_
  refine am_if_ne (tgt := 58) d_Mod_leave_40 (by decide) (fun c => absurd (by decide) c) (fun _ => ?_)
  refine am_aload_n d_Mod_leave_43 rfl rfl ?_
  refine am_get O f_Mod_374 d_Mod_leave_44 (by rfl) (by decide) (by decide) rfl ?_
  refine am_iconst (v := 0) d_Mod_leave_47 (by decide) ?_
  refine am_aload_n d_Mod_leave_48 rfl rfl ?_
  refine am_get O f_Mod_377 d_Mod_leave_49 (by rfl) (by decide) (by decide) rfl ?_
  refine am_iconst (v := 0) d_Mod_leave_52 (by decide) ?_
  have h_250_1 : f1 250 = .inr (11, [.ref 251, .ref 252, .ref 253, .ref 254]) := (fr1 250 (by decide)).trans h_250
  have h_251_1 : f1 251 = .inl (.int, 1, (updV (fun _ => .int 0) 0 (.int 0))) := (fr1 251 (by decide)).trans h_251
  have h_252_1 : f1 252 = .inl (.int, 1, (updV (fun _ => .int 0) 0 (.int 0))) := (fr1 252 (by decide)).trans h_252
  have h_253_1 : f1 253 = .inl (.long, 1, (updV (fun _ => .long 0) 0 (.long 0))) := (fr1 253 (by decide)).trans h_253
  have h_254_1 : f1 254 = .inl (.long, 1, (updV (fun _ => .long 0) 0 (.long 0))) := (fr1 254 (by decide)).trans h_254
  have h_255_1 : f1 255 = .inr (11, [.ref 256, .ref 257, .ref 258, .ref 259]) := (fr1 255 (by decide)).trans h_255
  refine am_callV O (t144_Vals_copy O (by exact h_250_1) (by exact h_251_1) (by exact h_252_1) (by exact h_253_1) (by exact h_254_1) (by exact h_255_1) (by exact h_256_1) (by exact h_257_1) (by exact h_258_1) (by exact h_259_1)) rfl (by exact h_250_1) (by decide) (by decide) rfl rfl l_Mod_505 ⟨w_1992, w_1993⟩ rfl (Nat.le_of_ble_eq_true rfl) d_Mod_leave_53 (by omega) (by omega) (by omega) (fun v h' hp => ?_)
  obtain ⟨n2, f2⟩ := h'
  obtain ⟨rfl, e2, g_251_2, g_252_2, g_253_2, g_254_2, fr2⟩ := hp
  obtain rfl : n2 = 1330 := e2
  have fr2 := fun (x : Nat) (hx : x ∉ ([251, 252, 253, 254] : List Nat)) => (show f2 x = _ from fr2 x hx)
  have h_251_2 : f2 251 = .inl (.int, 1, (updV (updV (fun _ => .int 0) 0 (.int 0)) 0 (.int 0))) := g_251_2
  have h_252_2 : f2 252 = .inl (.int, 1, (updV (updV (fun _ => .int 0) 0 (.int 0)) 0 (.int 0))) := g_252_2
  have h_253_2 : f2 253 = .inl (.long, 1, (updV (updV (fun _ => .long 0) 0 (.long 0)) 0 (.long 0))) := g_253_2
  have h_254_2 : f2 254 = .inl (.long, 1, (updV (updV (fun _ => .long 0) 0 (.long 0)) 0 (.long 0))) := g_254_2
  refine am_iconst (v := 0) d_Mod_leave_56 (by decide) ?_
  have h_160_2 : f2 160 = .inr (14, [.ref 161, .ref 162, .int 0, .int 0, .int 0, .int 0, .int 0, .int 0, .int 0, .int (-1), .int 1, .long 0, .ref 163, .ref 170, .ref 171, .ref 172, .ref 173, .ref 174, .ref 175, .ref 176, .int 0, .ref 177, .ref 163, .ref 184, .int 0, .int 0, .ref 185, .int 0, .ref 186, .int 0, .ref 187, .ref 204, .ref 221, .ref 238, .int 0, .int 0, .ref 239, .ref 240, .ref 245, .ref 250, .ref 255, .int 0, .int 0, .int x, .int 0, .int 0, .int 1, .ref 260, .ref 261, .ref 262, .ref 263, .ref 264, .int 0]) := (fr2 160 (by decide)).trans rfl
  have h_256_2 : f2 256 = .inl (.int, 4, (updV (fun _ => .int 0) 0 (.int 0))) := (fr2 256 (by decide)).trans h_256_1
  have h_257_2 : f2 257 = .inl (.int, 4, (updV (fun _ => .int 0) 0 (.int 0))) := (fr2 257 (by decide)).trans h_257_1
  have h_258_2 : f2 258 = .inl (.long, 4, (updV (fun _ => .long 0) 0 (.long 0))) := (fr2 258 (by decide)).trans h_258_1
  have h_259_2 : f2 259 = .inl (.long, 4, (updV (fun _ => .long 0) 0 (.long 0))) := (fr2 259 (by decide)).trans h_259_1
  exact am_iret rfl d_Mod_leave_57 ⟨rfl, rfl, h_160_2, h_256_2, h_257_2, h_258_2, h_259_2, h_251_2, h_252_2, h_253_2, h_254_2, fun x hx => by simp only [List.mem_cons, List.not_mem_nil, or_false, not_or] at hx; dsimp only; (repeat (first | rw [va_up_ne _ _ (by omega)] | rw [fr1 x (by simp only [List.mem_cons, List.not_mem_nil, or_false, not_or]; omega)] | rw [fr2 x (by simp only [List.mem_cons, List.not_mem_nil, or_false, not_or]; omega)]))⟩

set_option maxRecDepth 100000 in
set_option maxHeartbeats 4000000 in
theorem t146_Mod_one (O : am_ok K X) {x : Int32}  {f : Nat → am_C} (h_160 : f 160 = .inr (14, [.ref 161, .ref 162, .int 0, .int 0, .int 0, .int 0, .int 0, .int 0, .int 0, .int (-1), .int 1, .long 0, .ref 163, .ref 170, .ref 171, .ref 172, .ref 173, .ref 174, .ref 175, .ref 176, .int 0, .ref 177, .ref 163, .ref 184, .int 0, .int 0, .ref 185, .int 0, .ref 186, .int 0, .ref 187, .ref 204, .ref 221, .ref 238, .int 0, .int 0, .ref 239, .ref 240, .ref 245, .ref 250, .ref 255, .int 0, .int 0, .int x, .int 0, .int 1, .int 0, .ref 260, .ref 261, .ref 262, .ref 263, .ref 264, .int 0])) (h_163 : f 163 = .inr (12, [.ref 164, .ref 165, .int 1, .int 0, .int 0, .int 0, .int 0, .int 0, .int 0, .int 0])) (h_164 : f 164 = .inl (.int, 6000, (updV (fun _ => .int 0) 0 (.int 28)))) (h_240 : f 240 = .inr (11, [.ref 241, .ref 242, .ref 243, .ref 244])) (h_241 : f 241 = .inl (.int, 8000, (fun _ => .int 0))) (h_242 : f 242 = .inl (.int, 8000, (fun _ => .int 0))) (h_243 : f 243 = .inl (.long, 8000, (fun _ => .long 0))) (h_244 : f 244 = .inl (.long, 8000, (fun _ => .long 0))) (h_250 : f 250 = .inr (11, [.ref 251, .ref 252, .ref 253, .ref 254])) (h_251 : f 251 = .inl (.int, 1, (updV (fun _ => .int 0) 0 (.int 0)))) (h_252 : f 252 = .inl (.int, 1, (updV (fun _ => .int 0) 0 (.int 0)))) (h_253 : f 253 = .inl (.long, 1, (updV (fun _ => .long 0) 0 (.long 0)))) (h_254 : f 254 = .inl (.long, 1, (updV (fun _ => .long 0) 0 (.long 0)))) (h_255 : f 255 = .inr (11, [.ref 256, .ref 257, .ref 258, .ref 259])) (h_256 : f 256 = .inl (.int, 4, (fun _ => .int 0))) (h_257 : f 257 = .inl (.int, 4, (fun _ => .int 0))) (h_258 : f 258 = .inl (.long, 4, (fun _ => .long 0))) (h_259 : f 259 = .inl (.long, 4, (fun _ => .long 0))) (h_260 : f 260 = .inl (.object "StowTongueModel$Code", 9, (updV (fun _ => .null) 0 (.ref 163)))) : am_Mt K X m_Mod_one 3 0 0 [.ref 160] (1330, f) (fun v h' => v = some (.int 0) ∧ h'.1 = 1330 ∧ h'.2 160 = .inr (14, [.ref 161, .ref 162, .int 0, .int 0, .int 0, .int 0, .int 0, .int 0, .int 0, .int (-1), .int 1, .long 0, .ref 163, .ref 170, .ref 171, .ref 172, .ref 173, .ref 174, .ref 175, .ref 176, .int 0, .ref 177, .ref 163, .ref 184, .int 0, .int 0, .ref 185, .int 0, .ref 186, .int 0, .ref 187, .ref 204, .ref 221, .ref 238, .int 0, .int 0, .ref 239, .ref 240, .ref 245, .ref 250, .ref 255, .int 0, .int 0, .int x, .int 0, .int 0, .int 1, .ref 260, .ref 261, .ref 262, .ref 263, .ref 264, .int 0]) ∧ h'.2 241 = .inl (.int, 8000, (updV (fun _ => .int 0) 0 (.int 0))) ∧ h'.2 242 = .inl (.int, 8000, (updV (fun _ => .int 0) 0 (.int 0))) ∧ h'.2 243 = .inl (.long, 8000, (updV (fun _ => .long 0) 0 (.long 0))) ∧ h'.2 244 = .inl (.long, 8000, (updV (fun _ => .long 0) 0 (.long 0))) ∧ h'.2 256 = .inl (.int, 4, (updV (fun _ => .int 0) 0 (.int 0))) ∧ h'.2 257 = .inl (.int, 4, (updV (fun _ => .int 0) 0 (.int 0))) ∧ h'.2 258 = .inl (.long, 4, (updV (fun _ => .long 0) 0 (.long 0))) ∧ h'.2 259 = .inl (.long, 4, (updV (fun _ => .long 0) 0 (.long 0))) ∧ h'.2 251 = .inl (.int, 1, (updV (updV (fun _ => .int 0) 0 (.int 0)) 0 (.int 0))) ∧ h'.2 252 = .inl (.int, 1, (updV (updV (fun _ => .int 0) 0 (.int 0)) 0 (.int 0))) ∧ h'.2 253 = .inl (.long, 1, (updV (updV (fun _ => .long 0) 0 (.long 0)) 0 (.long 0))) ∧ h'.2 254 = .inl (.long, 1, (updV (updV (fun _ => .long 0) 0 (.long 0)) 0 (.long 0))) ∧ ∀ x, x ∉ ([160, 241, 242, 243, 244, 256, 257, 258, 259, 251, 252, 253, 254] : List Nat) → h'.2 x = f x) := by
  refine am_enter (by decide +kernel) (Nat.le_of_ble_eq_true rfl) ?_
  refine am_aload_n d_Mod_one_0 rfl rfl ?_
  refine am_callV O (t138_Mod_next O (by exact h_160) (by exact h_163) (by exact h_164) (by exact h_260)) rfl (by exact h_160) (by decide) (by decide) rfl rfl l_Mod_516 ⟨w_2036, w_120⟩ rfl (Nat.le_of_ble_eq_true rfl) d_Mod_one_1 (by omega) (by omega) (by omega) (fun v h' hp => ?_)
  obtain ⟨n1, f1⟩ := h'
  obtain ⟨rfl, e1, g_160_1, fr1⟩ := hp
  obtain rfl : n1 = 1330 := e1
  have fr1 := fun (x : Nat) (hx : x ∉ ([160] : List Nat)) => (show f1 x = _ from fr1 x hx)
  have h_160_1 : f1 160 = .inr (14, [.ref 161, .ref 162, .int 0, .int 0, .int 0, .int 0, .int 0, .int 0, .int 0, .int (-1), .int 1, .long 0, .ref 163, .ref 170, .ref 171, .ref 172, .ref 173, .ref 174, .ref 175, .ref 176, .int 0, .ref 177, .ref 163, .ref 184, .int 0, .int 0, .ref 185, .int 0, .ref 186, .int 0, .ref 187, .ref 204, .ref 221, .ref 238, .int 0, .int 0, .ref 239, .ref 240, .ref 245, .ref 250, .ref 255, .int 0, .int 0, .int x, .int 0, .int 1, .int 1, .ref 260, .ref 261, .ref 262, .ref 263, .ref 264, .int 0]) := g_160_1
  refine am_istore_n d_Mod_one_4 rfl (by decide) ?_
  refine am_aload_n d_Mod_one_5 rfl rfl ?_
  refine am_get O f_Mod_492 d_Mod_one_6 (by exact h_160_1) (by decide) (by decide) rfl ?_
  refine am_iconst (v := 1) d_Mod_one_9 (by decide) ?_
  refine am_isub d_Mod_one_10 ?_
  refine am_topi (v := 0) (by decide) ?_
  refine am_istore_n d_Mod_one_11 rfl (by decide) ?_
  refine am_iload_n d_Mod_one_12 rfl rfl ?_
  refine am_tableIn (tgt := 513) d_Mod_one_13 (by decide) (by decide) rfl (by decide) ?_
  refine am_aload_n d_Mod_one_513 rfl rfl ?_
  refine am_iconst (v := 0) d_Mod_one_514 (by decide) ?_
  refine am_lconst (v := 0) d_Mod_one_515 (by decide) ?_
  have h_240_1 : f1 240 = .inr (11, [.ref 241, .ref 242, .ref 243, .ref 244]) := (fr1 240 (by decide)).trans h_240
  have h_241_1 : f1 241 = .inl (.int, 8000, (fun _ => .int 0)) := (fr1 241 (by decide)).trans h_241
  have h_242_1 : f1 242 = .inl (.int, 8000, (fun _ => .int 0)) := (fr1 242 (by decide)).trans h_242
  have h_243_1 : f1 243 = .inl (.long, 8000, (fun _ => .long 0)) := (fr1 243 (by decide)).trans h_243
  have h_244_1 : f1 244 = .inl (.long, 8000, (fun _ => .long 0)) := (fr1 244 (by decide)).trans h_244
  refine am_callV O (t140_Mod_push O (by exact h_160_1) (by exact h_240_1) (by exact h_241_1) (by exact h_242_1) (by exact h_243_1) (by exact h_244_1)) rfl (by exact h_160_1) (by decide) (by decide) rfl rfl l_Mod_542 ⟨w_2086, w_130⟩ rfl (Nat.le_of_ble_eq_true rfl) d_Mod_one_516 (by omega) (by omega) (by omega) (fun v h' hp => ?_)
  obtain ⟨n2, f2⟩ := h'
  obtain ⟨rfl, e2, g_241_2, g_242_2, g_243_2, g_244_2, g_160_2, fr2⟩ := hp
  obtain rfl : n2 = 1330 := e2
  have fr2 := fun (x : Nat) (hx : x ∉ ([241, 242, 243, 244, 160] : List Nat)) => (show f2 x = _ from fr2 x hx)
  have h_241_2 : f2 241 = .inl (.int, 8000, (updV (fun _ => .int 0) 0 (.int 0))) := g_241_2
  have h_242_2 : f2 242 = .inl (.int, 8000, (updV (fun _ => .int 0) 0 (.int 0))) := g_242_2
  have h_243_2 : f2 243 = .inl (.long, 8000, (updV (fun _ => .long 0) 0 (.long 0))) := g_243_2
  have h_244_2 : f2 244 = .inl (.long, 8000, (updV (fun _ => .long 0) 0 (.long 0))) := g_244_2
  have h_160_2 : f2 160 = .inr (14, [.ref 161, .ref 162, .int 0, .int 0, .int 0, .int 0, .int 0, .int 0, .int 0, .int (-1), .int 1, .long 0, .ref 163, .ref 170, .ref 171, .ref 172, .ref 173, .ref 174, .ref 175, .ref 176, .int 0, .ref 177, .ref 163, .ref 184, .int 0, .int 0, .ref 185, .int 0, .ref 186, .int 0, .ref 187, .ref 204, .ref 221, .ref 238, .int 0, .int 0, .ref 239, .ref 240, .ref 245, .ref 250, .ref 255, .int 1, .int 0, .int x, .int 0, .int 1, .int 1, .ref 260, .ref 261, .ref 262, .ref 263, .ref 264, .int 0]) := g_160_2
  refine am_aload_n d_Mod_one_519 rfl rfl ?_
  have h_240_2 : f2 240 = .inr (11, [.ref 241, .ref 242, .ref 243, .ref 244]) := (fr2 240 (by decide)).trans h_240_1
  have h_250_1 : f1 250 = .inr (11, [.ref 251, .ref 252, .ref 253, .ref 254]) := (fr1 250 (by decide)).trans h_250
  have h_250_2 : f2 250 = .inr (11, [.ref 251, .ref 252, .ref 253, .ref 254]) := (fr2 250 (by decide)).trans h_250_1
  have h_251_1 : f1 251 = .inl (.int, 1, (updV (fun _ => .int 0) 0 (.int 0))) := (fr1 251 (by decide)).trans h_251
  have h_251_2 : f2 251 = .inl (.int, 1, (updV (fun _ => .int 0) 0 (.int 0))) := (fr2 251 (by decide)).trans h_251_1
  have h_252_1 : f1 252 = .inl (.int, 1, (updV (fun _ => .int 0) 0 (.int 0))) := (fr1 252 (by decide)).trans h_252
  have h_252_2 : f2 252 = .inl (.int, 1, (updV (fun _ => .int 0) 0 (.int 0))) := (fr2 252 (by decide)).trans h_252_1
  have h_253_1 : f1 253 = .inl (.long, 1, (updV (fun _ => .long 0) 0 (.long 0))) := (fr1 253 (by decide)).trans h_253
  have h_253_2 : f2 253 = .inl (.long, 1, (updV (fun _ => .long 0) 0 (.long 0))) := (fr2 253 (by decide)).trans h_253_1
  have h_254_1 : f1 254 = .inl (.long, 1, (updV (fun _ => .long 0) 0 (.long 0))) := (fr1 254 (by decide)).trans h_254
  have h_254_2 : f2 254 = .inl (.long, 1, (updV (fun _ => .long 0) 0 (.long 0))) := (fr2 254 (by decide)).trans h_254_1
  have h_255_1 : f1 255 = .inr (11, [.ref 256, .ref 257, .ref 258, .ref 259]) := (fr1 255 (by decide)).trans h_255
  have h_255_2 : f2 255 = .inr (11, [.ref 256, .ref 257, .ref 258, .ref 259]) := (fr2 255 (by decide)).trans h_255_1
  have h_256_1 : f1 256 = .inl (.int, 4, (fun _ => .int 0)) := (fr1 256 (by decide)).trans h_256
  have h_256_2 : f2 256 = .inl (.int, 4, (fun _ => .int 0)) := (fr2 256 (by decide)).trans h_256_1
  have h_257_1 : f1 257 = .inl (.int, 4, (fun _ => .int 0)) := (fr1 257 (by decide)).trans h_257
  have h_257_2 : f2 257 = .inl (.int, 4, (fun _ => .int 0)) := (fr2 257 (by decide)).trans h_257_1
  have h_258_1 : f1 258 = .inl (.long, 4, (fun _ => .long 0)) := (fr1 258 (by decide)).trans h_258
  have h_258_2 : f2 258 = .inl (.long, 4, (fun _ => .long 0)) := (fr2 258 (by decide)).trans h_258_1
  have h_259_1 : f1 259 = .inl (.long, 4, (fun _ => .long 0)) := (fr1 259 (by decide)).trans h_259
  have h_259_2 : f2 259 = .inl (.long, 4, (fun _ => .long 0)) := (fr2 259 (by decide)).trans h_259_1
  refine am_callV O (t145_Mod_leave O (by exact h_160_2) (by exact h_240_2) (by exact h_241_2) (by exact h_242_2) (by exact h_243_2) (by exact h_244_2) (by exact h_250_2) (by exact h_251_2) (by exact h_252_2) (by exact h_253_2) (by exact h_254_2) (by exact h_255_2) (by exact h_256_2) (by exact h_257_2) (by exact h_258_2) (by exact h_259_2)) rfl (by exact h_160_2) (by decide) (by decide) rfl rfl l_Mod_539 ⟨w_2082, w_129⟩ rfl (Nat.le_of_ble_eq_true rfl) d_Mod_one_520 (by omega) (by omega) (by omega) (fun v h' hp => ?_)
  obtain ⟨n3, f3⟩ := h'
  obtain ⟨rfl, e3, g_160_3, g_256_3, g_257_3, g_258_3, g_259_3, g_251_3, g_252_3, g_253_3, g_254_3, fr3⟩ := hp
  obtain rfl : n3 = 1330 := e3
  have fr3 := fun (x : Nat) (hx : x ∉ ([160, 256, 257, 258, 259, 251, 252, 253, 254] : List Nat)) => (show f3 x = _ from fr3 x hx)
  have h_160_3 : f3 160 = .inr (14, [.ref 161, .ref 162, .int 0, .int 0, .int 0, .int 0, .int 0, .int 0, .int 0, .int (-1), .int 1, .long 0, .ref 163, .ref 170, .ref 171, .ref 172, .ref 173, .ref 174, .ref 175, .ref 176, .int 0, .ref 177, .ref 163, .ref 184, .int 0, .int 0, .ref 185, .int 0, .ref 186, .int 0, .ref 187, .ref 204, .ref 221, .ref 238, .int 0, .int 0, .ref 239, .ref 240, .ref 245, .ref 250, .ref 255, .int 0, .int 0, .int x, .int 0, .int 0, .int 1, .ref 260, .ref 261, .ref 262, .ref 263, .ref 264, .int 0]) := g_160_3
  have h_256_3 : f3 256 = .inl (.int, 4, (updV (fun _ => .int 0) 0 (.int 0))) := g_256_3
  have h_257_3 : f3 257 = .inl (.int, 4, (updV (fun _ => .int 0) 0 (.int 0))) := g_257_3
  have h_258_3 : f3 258 = .inl (.long, 4, (updV (fun _ => .long 0) 0 (.long 0))) := g_258_3
  have h_259_3 : f3 259 = .inl (.long, 4, (updV (fun _ => .long 0) 0 (.long 0))) := g_259_3
  have h_251_3 : f3 251 = .inl (.int, 1, (updV (updV (fun _ => .int 0) 0 (.int 0)) 0 (.int 0))) := g_251_3
  have h_252_3 : f3 252 = .inl (.int, 1, (updV (updV (fun _ => .int 0) 0 (.int 0)) 0 (.int 0))) := g_252_3
  have h_253_3 : f3 253 = .inl (.long, 1, (updV (updV (fun _ => .long 0) 0 (.long 0)) 0 (.long 0))) := g_253_3
  have h_254_3 : f3 254 = .inl (.long, 1, (updV (updV (fun _ => .long 0) 0 (.long 0)) 0 (.long 0))) := g_254_3
  have h_241_3 : f3 241 = .inl (.int, 8000, (updV (fun _ => .int 0) 0 (.int 0))) := (fr3 241 (by decide)).trans h_241_2
  have h_242_3 : f3 242 = .inl (.int, 8000, (updV (fun _ => .int 0) 0 (.int 0))) := (fr3 242 (by decide)).trans h_242_2
  have h_243_3 : f3 243 = .inl (.long, 8000, (updV (fun _ => .long 0) 0 (.long 0))) := (fr3 243 (by decide)).trans h_243_2
  have h_244_3 : f3 244 = .inl (.long, 8000, (updV (fun _ => .long 0) 0 (.long 0))) := (fr3 244 (by decide)).trans h_244_2
  exact am_iret rfl d_Mod_one_523 ⟨rfl, rfl, h_160_3, h_241_3, h_242_3, h_243_3, h_244_3, h_256_3, h_257_3, h_258_3, h_259_3, h_251_3, h_252_3, h_253_3, h_254_3, fun x hx => by simp only [List.mem_cons, List.not_mem_nil, or_false, not_or] at hx; dsimp only; (repeat (first | rw [va_up_ne _ _ (by omega)] | rw [fr1 x (by simp only [List.mem_cons, List.not_mem_nil, or_false, not_or]; omega)] | rw [fr2 x (by simp only [List.mem_cons, List.not_mem_nil, or_false, not_or]; omega)] | rw [fr3 x (by simp only [List.mem_cons, List.not_mem_nil, or_false, not_or]; omega)]))⟩

set_option maxRecDepth 100000 in
set_option maxHeartbeats 4000000 in
theorem t147_Mod_go_ (O : am_ok K X) {x : Int32}  {f : Nat → am_C} (h_160 : f 160 = .inr (14, [.ref 161, .ref 162, .int 0, .int 0, .int 0, .int 0, .int 0, .int 0, .int 0, .int (-1), .int 1, .long 0, .ref 163, .ref 170, .ref 171, .ref 172, .ref 173, .ref 174, .ref 175, .ref 176, .int 0, .ref 177, .ref 163, .ref 184, .int 0, .int 0, .ref 185, .int 0, .ref 186, .int 0, .ref 187, .ref 204, .ref 221, .ref 238, .int 0, .int 0, .ref 239, .ref 240, .ref 245, .ref 250, .ref 255, .int 0, .int 0, .int x, .int 0, .int 0, .int 0, .ref 260, .ref 261, .ref 262, .ref 263, .ref 264, .int 0])) (h_163 : f 163 = .inr (12, [.ref 164, .ref 165, .int 1, .int 0, .int 0, .int 0, .int 0, .int 0, .int 0, .int 0])) (h_164 : f 164 = .inl (.int, 6000, (updV (fun _ => .int 0) 0 (.int 28)))) (h_240 : f 240 = .inr (11, [.ref 241, .ref 242, .ref 243, .ref 244])) (h_241 : f 241 = .inl (.int, 8000, (fun _ => .int 0))) (h_242 : f 242 = .inl (.int, 8000, (fun _ => .int 0))) (h_243 : f 243 = .inl (.long, 8000, (fun _ => .long 0))) (h_244 : f 244 = .inl (.long, 8000, (fun _ => .long 0))) (h_250 : f 250 = .inr (11, [.ref 251, .ref 252, .ref 253, .ref 254])) (h_251 : f 251 = .inl (.int, 1, (updV (fun _ => .int 0) 0 (.int 0)))) (h_252 : f 252 = .inl (.int, 1, (updV (fun _ => .int 0) 0 (.int 0)))) (h_253 : f 253 = .inl (.long, 1, (updV (fun _ => .long 0) 0 (.long 0)))) (h_254 : f 254 = .inl (.long, 1, (updV (fun _ => .long 0) 0 (.long 0)))) (h_255 : f 255 = .inr (11, [.ref 256, .ref 257, .ref 258, .ref 259])) (h_256 : f 256 = .inl (.int, 4, (fun _ => .int 0))) (h_257 : f 257 = .inl (.int, 4, (fun _ => .int 0))) (h_258 : f 258 = .inl (.long, 4, (fun _ => .long 0))) (h_259 : f 259 = .inl (.long, 4, (fun _ => .long 0))) (h_260 : f 260 = .inl (.object "StowTongueModel$Code", 9, (fun _ => .null))) (h_261 : f 261 = .inl (.int, 9, (fun _ => .int 0))) (h_262 : f 262 = .inl (.int, 9, (fun _ => .int 0))) : am_Mt K X m_Mod_go_ 4 0 0 [.ref 160] (1330, f) (fun v h' => v = some (.int 0) ∧ h'.1 = 1330 ∧ h'.2 160 = .inr (14, [.ref 161, .ref 162, .int 0, .int 0, .int 0, .int 0, .int 0, .int 0, .int 0, .int (-1), .int 1, .long 0, .ref 163, .ref 170, .ref 171, .ref 172, .ref 173, .ref 174, .ref 175, .ref 176, .int 0, .ref 177, .ref 163, .ref 184, .int 0, .int 0, .ref 185, .int 0, .ref 186, .int 0, .ref 187, .ref 204, .ref 221, .ref 238, .int 0, .int 0, .ref 239, .ref 240, .ref 245, .ref 250, .ref 255, .int 0, .int 0, .int x, .int 0, .int 0, .int 1, .ref 260, .ref 261, .ref 262, .ref 263, .ref 264, .int 0]) ∧ h'.2 260 = .inl (.object "StowTongueModel$Code", 9, (updV (fun _ => .null) 0 (.ref 163))) ∧ h'.2 261 = .inl (.int, 9, (updV (fun _ => .int 0) 0 (.int 0))) ∧ h'.2 262 = .inl (.int, 9, (updV (fun _ => .int 0) 0 (.int 0))) ∧ h'.2 241 = .inl (.int, 8000, (updV (fun _ => .int 0) 0 (.int 0))) ∧ h'.2 242 = .inl (.int, 8000, (updV (fun _ => .int 0) 0 (.int 0))) ∧ h'.2 243 = .inl (.long, 8000, (updV (fun _ => .long 0) 0 (.long 0))) ∧ h'.2 244 = .inl (.long, 8000, (updV (fun _ => .long 0) 0 (.long 0))) ∧ h'.2 256 = .inl (.int, 4, (updV (fun _ => .int 0) 0 (.int 0))) ∧ h'.2 257 = .inl (.int, 4, (updV (fun _ => .int 0) 0 (.int 0))) ∧ h'.2 258 = .inl (.long, 4, (updV (fun _ => .long 0) 0 (.long 0))) ∧ h'.2 259 = .inl (.long, 4, (updV (fun _ => .long 0) 0 (.long 0))) ∧ h'.2 251 = .inl (.int, 1, (updV (updV (fun _ => .int 0) 0 (.int 0)) 0 (.int 0))) ∧ h'.2 252 = .inl (.int, 1, (updV (updV (fun _ => .int 0) 0 (.int 0)) 0 (.int 0))) ∧ h'.2 253 = .inl (.long, 1, (updV (updV (fun _ => .long 0) 0 (.long 0)) 0 (.long 0))) ∧ h'.2 254 = .inl (.long, 1, (updV (updV (fun _ => .long 0) 0 (.long 0)) 0 (.long 0))) ∧ ∀ x, x ∉ ([160, 260, 261, 262, 241, 242, 243, 244, 256, 257, 258, 259, 251, 252, 253, 254] : List Nat) → h'.2 x = f x) := by
  refine am_enter (by decide +kernel) (Nat.le_of_ble_eq_true rfl) ?_
  refine am_aload_n d_Mod_go__0 rfl rfl ?_
  refine am_iconst (v := 0) d_Mod_go__1 (by decide) ?_
  refine am_put O f_Mod_486 d_Mod_go__2 (by exact h_160) (by decide) (by decide) (Nat.le_of_ble_eq_true rfl) (fun q hq => by cases hq; exact ⟨rfl, rfl, rfl⟩) ?_
  refine am_aload_n d_Mod_go__5 rfl rfl ?_
  refine am_iconst (v := 0) d_Mod_go__6 (by decide) ?_
  refine am_put O f_Mod_489 d_Mod_go__7 (by rfl) (by decide) (by decide) (Nat.le_of_ble_eq_true rfl) (fun q hq => by cases hq; exact ⟨rfl, rfl, rfl⟩) ?_
  refine am_aload_n d_Mod_go__10 rfl rfl ?_
  refine am_iconst (v := 0) d_Mod_go__11 (by decide) ?_
  refine am_put O f_Mod_492 d_Mod_go__12 (by rfl) (by decide) (by decide) (Nat.le_of_ble_eq_true rfl) (fun q hq => by cases hq; exact ⟨rfl, rfl, rfl⟩) ?_
  refine am_aload_n d_Mod_go__15 rfl rfl ?_
  refine am_aload_n d_Mod_go__16 rfl rfl ?_
  refine am_get O f_Mod_143 d_Mod_go__17 (by rfl) (by decide) (by decide) rfl ?_
  refine am_iconst (v := 0) d_Mod_go__20 (by decide) ?_
  refine am_callV O (t137_Mod_enter O (by rfl) (by exact h_163) (by exact h_260) (by exact h_261) (by exact h_262)) rfl (by rfl) (by decide) (by decide) rfl rfl l_Mod_495 ⟨w_2027, w_118⟩ rfl (Nat.le_of_ble_eq_true rfl) d_Mod_go__21 (by omega) (by omega) (by omega) (fun v h' hp => ?_)
  obtain ⟨n1, f1⟩ := h'
  obtain ⟨rfl, e1, g_260_1, g_261_1, g_262_1, g_160_1, fr1⟩ := hp
  obtain rfl : n1 = 1330 := e1
  have fr1 := fun (x : Nat) (hx : x ∉ ([260, 261, 262, 160] : List Nat)) => (show f1 x = _ from fr1 x hx)
  have h_260_1 : f1 260 = .inl (.object "StowTongueModel$Code", 9, (updV (fun _ => .null) 0 (.ref 163))) := g_260_1
  have h_261_1 : f1 261 = .inl (.int, 9, (updV (fun _ => .int 0) 0 (.int 0))) := g_261_1
  have h_262_1 : f1 262 = .inl (.int, 9, (updV (fun _ => .int 0) 0 (.int 0))) := g_262_1
  have h_160_1 : f1 160 = .inr (14, [.ref 161, .ref 162, .int 0, .int 0, .int 0, .int 0, .int 0, .int 0, .int 0, .int (-1), .int 1, .long 0, .ref 163, .ref 170, .ref 171, .ref 172, .ref 173, .ref 174, .ref 175, .ref 176, .int 0, .ref 177, .ref 163, .ref 184, .int 0, .int 0, .ref 185, .int 0, .ref 186, .int 0, .ref 187, .ref 204, .ref 221, .ref 238, .int 0, .int 0, .ref 239, .ref 240, .ref 245, .ref 250, .ref 255, .int 0, .int 0, .int x, .int 0, .int 1, .int 0, .ref 260, .ref 261, .ref 262, .ref 263, .ref 264, .int 0]) := g_160_1
  refine am_iconst (v := (-1)) d_Mod_go__24 (by decide) ?_
  refine am_istore_n d_Mod_go__25 rfl (by decide) ?_
  refine am_iload_n d_Mod_go__26 rfl rfl ?_
  refine am_if_ge (tgt := 38) d_Mod_go__27 (by decide) (fun c => absurd c (by decide)) (fun _ => ?_)
  refine am_aload_n d_Mod_go__30 rfl rfl ?_
  have h_163_1 : f1 163 = .inr (12, [.ref 164, .ref 165, .int 1, .int 0, .int 0, .int 0, .int 0, .int 0, .int 0, .int 0]) := (fr1 163 (by decide)).trans h_163
  have h_164_1 : f1 164 = .inl (.int, 6000, (updV (fun _ => .int 0) 0 (.int 28))) := (fr1 164 (by decide)).trans h_164
  have h_240_1 : f1 240 = .inr (11, [.ref 241, .ref 242, .ref 243, .ref 244]) := (fr1 240 (by decide)).trans h_240
  have h_241_1 : f1 241 = .inl (.int, 8000, (fun _ => .int 0)) := (fr1 241 (by decide)).trans h_241
  have h_242_1 : f1 242 = .inl (.int, 8000, (fun _ => .int 0)) := (fr1 242 (by decide)).trans h_242
  have h_243_1 : f1 243 = .inl (.long, 8000, (fun _ => .long 0)) := (fr1 243 (by decide)).trans h_243
  have h_244_1 : f1 244 = .inl (.long, 8000, (fun _ => .long 0)) := (fr1 244 (by decide)).trans h_244
  have h_250_1 : f1 250 = .inr (11, [.ref 251, .ref 252, .ref 253, .ref 254]) := (fr1 250 (by decide)).trans h_250
  have h_251_1 : f1 251 = .inl (.int, 1, (updV (fun _ => .int 0) 0 (.int 0))) := (fr1 251 (by decide)).trans h_251
  have h_252_1 : f1 252 = .inl (.int, 1, (updV (fun _ => .int 0) 0 (.int 0))) := (fr1 252 (by decide)).trans h_252
  have h_253_1 : f1 253 = .inl (.long, 1, (updV (fun _ => .long 0) 0 (.long 0))) := (fr1 253 (by decide)).trans h_253
  have h_254_1 : f1 254 = .inl (.long, 1, (updV (fun _ => .long 0) 0 (.long 0))) := (fr1 254 (by decide)).trans h_254
  have h_255_1 : f1 255 = .inr (11, [.ref 256, .ref 257, .ref 258, .ref 259]) := (fr1 255 (by decide)).trans h_255
  have h_256_1 : f1 256 = .inl (.int, 4, (fun _ => .int 0)) := (fr1 256 (by decide)).trans h_256
  have h_257_1 : f1 257 = .inl (.int, 4, (fun _ => .int 0)) := (fr1 257 (by decide)).trans h_257
  have h_258_1 : f1 258 = .inl (.long, 4, (fun _ => .long 0)) := (fr1 258 (by decide)).trans h_258
  have h_259_1 : f1 259 = .inl (.long, 4, (fun _ => .long 0)) := (fr1 259 (by decide)).trans h_259
  refine am_callV O (t146_Mod_one O (by exact h_160_1) (by exact h_163_1) (by exact h_164_1) (by exact h_240_1) (by exact h_241_1) (by exact h_242_1) (by exact h_243_1) (by exact h_244_1) (by exact h_250_1) (by exact h_251_1) (by exact h_252_1) (by exact h_253_1) (by exact h_254_1) (by exact h_255_1) (by exact h_256_1) (by exact h_257_1) (by exact h_258_1) (by exact h_259_1) (by exact h_260_1)) rfl (by exact h_160_1) (by decide) (by decide) rfl rfl l_Mod_499 ⟨w_2032, w_119⟩ rfl (Nat.le_of_ble_eq_true rfl) d_Mod_go__31 (by omega) (by omega) (by omega) (fun v h' hp => ?_)
  obtain ⟨n2, f2⟩ := h'
  obtain ⟨rfl, e2, g_160_2, g_241_2, g_242_2, g_243_2, g_244_2, g_256_2, g_257_2, g_258_2, g_259_2, g_251_2, g_252_2, g_253_2, g_254_2, fr2⟩ := hp
  obtain rfl : n2 = 1330 := e2
  have fr2 := fun (x : Nat) (hx : x ∉ ([160, 241, 242, 243, 244, 256, 257, 258, 259, 251, 252, 253, 254] : List Nat)) => (show f2 x = _ from fr2 x hx)
  have h_160_2 : f2 160 = .inr (14, [.ref 161, .ref 162, .int 0, .int 0, .int 0, .int 0, .int 0, .int 0, .int 0, .int (-1), .int 1, .long 0, .ref 163, .ref 170, .ref 171, .ref 172, .ref 173, .ref 174, .ref 175, .ref 176, .int 0, .ref 177, .ref 163, .ref 184, .int 0, .int 0, .ref 185, .int 0, .ref 186, .int 0, .ref 187, .ref 204, .ref 221, .ref 238, .int 0, .int 0, .ref 239, .ref 240, .ref 245, .ref 250, .ref 255, .int 0, .int 0, .int x, .int 0, .int 0, .int 1, .ref 260, .ref 261, .ref 262, .ref 263, .ref 264, .int 0]) := g_160_2
  have h_241_2 : f2 241 = .inl (.int, 8000, (updV (fun _ => .int 0) 0 (.int 0))) := g_241_2
  have h_242_2 : f2 242 = .inl (.int, 8000, (updV (fun _ => .int 0) 0 (.int 0))) := g_242_2
  have h_243_2 : f2 243 = .inl (.long, 8000, (updV (fun _ => .long 0) 0 (.long 0))) := g_243_2
  have h_244_2 : f2 244 = .inl (.long, 8000, (updV (fun _ => .long 0) 0 (.long 0))) := g_244_2
  have h_256_2 : f2 256 = .inl (.int, 4, (updV (fun _ => .int 0) 0 (.int 0))) := g_256_2
  have h_257_2 : f2 257 = .inl (.int, 4, (updV (fun _ => .int 0) 0 (.int 0))) := g_257_2
  have h_258_2 : f2 258 = .inl (.long, 4, (updV (fun _ => .long 0) 0 (.long 0))) := g_258_2
  have h_259_2 : f2 259 = .inl (.long, 4, (updV (fun _ => .long 0) 0 (.long 0))) := g_259_2
  have h_251_2 : f2 251 = .inl (.int, 1, (updV (updV (fun _ => .int 0) 0 (.int 0)) 0 (.int 0))) := g_251_2
  have h_252_2 : f2 252 = .inl (.int, 1, (updV (updV (fun _ => .int 0) 0 (.int 0)) 0 (.int 0))) := g_252_2
  have h_253_2 : f2 253 = .inl (.long, 1, (updV (updV (fun _ => .long 0) 0 (.long 0)) 0 (.long 0))) := g_253_2
  have h_254_2 : f2 254 = .inl (.long, 1, (updV (updV (fun _ => .long 0) 0 (.long 0)) 0 (.long 0))) := g_254_2
  refine am_istore_n d_Mod_go__34 rfl (by decide) ?_
  refine am_goto (tgt := 26) d_Mod_go__35 (by decide) ?_
  refine am_iload_n d_Mod_go__26 rfl rfl ?_
  refine am_if_ge (tgt := 38) d_Mod_go__27 (by decide) (fun _ => ?_) (fun c => absurd (by decide) c)
  refine am_iload_n d_Mod_go__38 rfl rfl ?_
  have h_260_2 : f2 260 = .inl (.object "StowTongueModel$Code", 9, (updV (fun _ => .null) 0 (.ref 163))) := (fr2 260 (by decide)).trans h_260_1
  have h_261_2 : f2 261 = .inl (.int, 9, (updV (fun _ => .int 0) 0 (.int 0))) := (fr2 261 (by decide)).trans h_261_1
  have h_262_2 : f2 262 = .inl (.int, 9, (updV (fun _ => .int 0) 0 (.int 0))) := (fr2 262 (by decide)).trans h_262_1
  exact am_iret rfl d_Mod_go__39 ⟨rfl, rfl, h_160_2, h_260_2, h_261_2, h_262_2, h_241_2, h_242_2, h_243_2, h_244_2, h_256_2, h_257_2, h_258_2, h_259_2, h_251_2, h_252_2, h_253_2, h_254_2, fun x hx => by simp only [List.mem_cons, List.not_mem_nil, or_false, not_or] at hx; dsimp only; (repeat (first | rw [va_up_ne _ _ (by omega)] | rw [fr1 x (by simp only [List.mem_cons, List.not_mem_nil, or_false, not_or]; omega)] | rw [fr2 x (by simp only [List.mem_cons, List.not_mem_nil, or_false, not_or]; omega)]))⟩

set_option maxRecDepth 100000 in
set_option maxHeartbeats 4000000 in
theorem t148_State_copy (O : am_ok K X)   {f : Nat → am_C} (h_204 : f 204 = .inr (13, [.ref 205, .ref 206, .ref 207, .ref 208, .ref 209, .ref 210, .ref 215, .ref 220, .int 0, .int 0, .int 0, .int 0])) (h_205 : f 205 = .inl (.int, 100, (va_cpy (fun _ => .int 0) (fun _ => .int 0) 0 0 100))) (h_206 : f 206 = .inl (.int, 100, (va_cpy (fun _ => .int 0) (fun _ => .int 0) 0 0 100))) (h_207 : f 207 = .inl (.long, 800, (va_cpy (fun _ => .long 0) (fun _ => .long 0) 0 0 800))) (h_208 : f 208 = .inl (.long, 12, (va_cpy (fun _ => .long 0) (fun _ => .long 0) 0 0 12))) (h_209 : f 209 = .inl (.long, 10, (va_cpy (fun _ => .long 0) (fun _ => .long 0) 0 0 10))) (h_210 : f 210 = .inr (11, [.ref 211, .ref 212, .ref 213, .ref 214])) (h_211 : f 211 = .inl (.int, 2000, (va_cpy (fun _ => .int 0) (fun _ => .int 0) 0 0 2000))) (h_212 : f 212 = .inl (.int, 2000, (va_cpy (fun _ => .int 0) (fun _ => .int 0) 0 0 2000))) (h_213 : f 213 = .inl (.long, 2000, (va_cpy (fun _ => .long 0) (fun _ => .long 0) 0 0 2000))) (h_214 : f 214 = .inl (.long, 2000, (va_cpy (fun _ => .long 0) (fun _ => .long 0) 0 0 2000))) (h_220 : f 220 = .inl (.object "StowTongueModel$Code", 10, (va_cpy (fun _ => .null) (fun _ => .null) 0 0 10))) (h_265 : f 265 = .inr (13, [.ref 266, .ref 267, .ref 268, .ref 269, .ref 270, .ref 271, .ref 276, .ref 281, .int 0, .int 0, .int 0, .int 0])) (h_266 : f 266 = .inl (.int, 100, (fun _ => .int 0))) (h_267 : f 267 = .inl (.int, 100, (fun _ => .int 0))) (h_268 : f 268 = .inl (.long, 800, (fun _ => .long 0))) (h_269 : f 269 = .inl (.long, 12, (fun _ => .long 0))) (h_270 : f 270 = .inl (.long, 10, (fun _ => .long 0))) (h_271 : f 271 = .inr (11, [.ref 272, .ref 273, .ref 274, .ref 275])) (h_272 : f 272 = .inl (.int, 2000, (fun _ => .int 0))) (h_273 : f 273 = .inl (.int, 2000, (fun _ => .int 0))) (h_274 : f 274 = .inl (.long, 2000, (fun _ => .long 0))) (h_275 : f 275 = .inl (.long, 2000, (fun _ => .long 0))) (h_281 : f 281 = .inl (.object "StowTongueModel$Code", 10, (fun _ => .null))) : am_Mt K X m_State_copy 1 0 0 [.ref 265, .ref 204] (1330, f) (fun v h' => v = none ∧ h'.1 = 1330 ∧ h'.2 266 = .inl (.int, 100, (va_cpy (va_cpy (fun _ => .int 0) (fun _ => .int 0) 0 0 100) (fun _ => .int 0) 0 0 100)) ∧ h'.2 267 = .inl (.int, 100, (va_cpy (va_cpy (fun _ => .int 0) (fun _ => .int 0) 0 0 100) (fun _ => .int 0) 0 0 100)) ∧ h'.2 268 = .inl (.long, 800, (va_cpy (va_cpy (fun _ => .long 0) (fun _ => .long 0) 0 0 800) (fun _ => .long 0) 0 0 800)) ∧ h'.2 272 = .inl (.int, 2000, (va_cpy (va_cpy (fun _ => .int 0) (fun _ => .int 0) 0 0 2000) (fun _ => .int 0) 0 0 2000)) ∧ h'.2 273 = .inl (.int, 2000, (va_cpy (va_cpy (fun _ => .int 0) (fun _ => .int 0) 0 0 2000) (fun _ => .int 0) 0 0 2000)) ∧ h'.2 274 = .inl (.long, 2000, (va_cpy (va_cpy (fun _ => .long 0) (fun _ => .long 0) 0 0 2000) (fun _ => .long 0) 0 0 2000)) ∧ h'.2 275 = .inl (.long, 2000, (va_cpy (va_cpy (fun _ => .long 0) (fun _ => .long 0) 0 0 2000) (fun _ => .long 0) 0 0 2000)) ∧ h'.2 269 = .inl (.long, 12, (va_cpy (va_cpy (fun _ => .long 0) (fun _ => .long 0) 0 0 12) (fun _ => .long 0) 0 0 12)) ∧ h'.2 270 = .inl (.long, 10, (va_cpy (va_cpy (fun _ => .long 0) (fun _ => .long 0) 0 0 10) (fun _ => .long 0) 0 0 10)) ∧ h'.2 281 = .inl (.object "StowTongueModel$Code", 10, (va_cpy (va_cpy (fun _ => .null) (fun _ => .null) 0 0 10) (fun _ => .null) 0 0 10)) ∧ h'.2 265 = .inr (13, [.ref 266, .ref 267, .ref 268, .ref 269, .ref 270, .ref 271, .ref 276, .ref 281, .int 0, .int 0, .int 0, .int 0]) ∧ ∀ x, x ∉ ([266, 267, 268, 272, 273, 274, 275, 269, 270, 281, 265] : List Nat) → h'.2 x = f x) := by
  refine am_enter (by decide +kernel) (Nat.le_of_ble_eq_true rfl) ?_
  refine am_aload_n d_State_copy_0 rfl rfl ?_
  refine am_get O f_State_9 d_State_copy_1 (by exact h_204) (by decide) (by decide) rfl ?_
  refine am_iconst (v := 0) d_State_copy_4 (by decide) ?_
  refine am_aload_n d_State_copy_5 rfl rfl ?_
  refine am_get O f_State_9 d_State_copy_6 (by exact h_265) (by decide) (by decide) rfl ?_
  refine am_iconst (v := 0) d_State_copy_9 (by decide) ?_
  refine am_bipush (v := 100) d_State_copy_10 (by decide) ?_
  refine am_copy (P := 0) (Q := 0) (N := 100) O w_1990 w_735 w_734 w_167 d_State_copy_12 (by exact h_205) (by decide) (by decide) (by exact h_266) (by decide) (by decide) (by decide) (by decide) (by decide) (by decide) (by decide) (by decide) (by decide) (by decide) (by decide) (by decide) (fun i hi => by refine ⟨?_, fun r h => ?_⟩ <;> first | rfl | cases h | (dsimp only; rw [if_pos (by omega)]; rfl) | (dsimp only at h; rw [if_pos (by omega)] at h; cases h) | (simp [va_cpy, fits]; done) | (simp [va_cpy] at h; done) | (simp only [updV]; (repeat' split) <;> rfl) | (simp only [updV] at h; (repeat' (split at h)) <;> cases h)) (Nat.le_of_ble_eq_true rfl) (by omega) ?_
  refine am_aload_n d_State_copy_15 rfl rfl ?_
  refine am_get O f_State_15 d_State_copy_16 (by exact h_204) (by decide) (by decide) rfl ?_
  refine am_iconst (v := 0) d_State_copy_19 (by decide) ?_
  refine am_aload_n d_State_copy_20 rfl rfl ?_
  refine am_get O f_State_15 d_State_copy_21 (by exact h_265) (by decide) (by decide) rfl ?_
  refine am_iconst (v := 0) d_State_copy_24 (by decide) ?_
  refine am_bipush (v := 100) d_State_copy_25 (by decide) ?_
  refine am_copy (P := 0) (Q := 0) (N := 100) O w_1990 w_735 w_734 w_167 d_State_copy_27 (by exact h_206) (by decide) (by decide) (by exact h_267) (by decide) (by decide) (by decide) (by decide) (by decide) (by decide) (by decide) (by decide) (by decide) (by decide) (by decide) (by decide) (fun i hi => by refine ⟨?_, fun r h => ?_⟩ <;> first | rfl | cases h | (dsimp only; rw [if_pos (by omega)]; rfl) | (dsimp only at h; rw [if_pos (by omega)] at h; cases h) | (simp [va_cpy, fits]; done) | (simp [va_cpy] at h; done) | (simp only [updV]; (repeat' split) <;> rfl) | (simp only [updV] at h; (repeat' (split at h)) <;> cases h)) (Nat.le_of_ble_eq_true rfl) (by omega) ?_
  refine am_aload_n d_State_copy_30 rfl rfl ?_
  refine am_get O f_State_18 d_State_copy_31 (by exact h_204) (by decide) (by decide) rfl ?_
  refine am_iconst (v := 0) d_State_copy_34 (by decide) ?_
  refine am_aload_n d_State_copy_35 rfl rfl ?_
  refine am_get O f_State_18 d_State_copy_36 (by exact h_265) (by decide) (by decide) rfl ?_
  refine am_iconst (v := 0) d_State_copy_39 (by decide) ?_
  refine am_sipush (v := 800) d_State_copy_40 (by decide) ?_
  refine am_copy (P := 0) (Q := 0) (N := 800) O w_1990 w_735 w_734 w_167 d_State_copy_43 (by exact h_207) (by decide) (by decide) (by exact h_268) (by decide) (by decide) (by decide) (by decide) (by decide) (by decide) (by decide) (by decide) (by decide) (by decide) (by decide) (by decide) (fun i hi => by refine ⟨?_, fun r h => ?_⟩ <;> first | rfl | cases h | (dsimp only; rw [if_pos (by omega)]; rfl) | (dsimp only at h; rw [if_pos (by omega)] at h; cases h) | (simp [va_cpy, fits]; done) | (simp [va_cpy] at h; done) | (simp only [updV]; (repeat' split) <;> rfl) | (simp only [updV] at h; (repeat' (split at h)) <;> cases h)) (Nat.le_of_ble_eq_true rfl) (by omega) ?_
  refine am_aload_n d_State_copy_46 rfl rfl ?_
  refine am_get O f_State_33 d_State_copy_47 (by exact h_204) (by decide) (by decide) rfl ?_
  refine am_get O f_State_52 d_State_copy_50 (by exact h_210) (by decide) (by decide) rfl ?_
  refine am_iconst (v := 0) d_State_copy_53 (by decide) ?_
  refine am_aload_n d_State_copy_54 rfl rfl ?_
  refine am_get O f_State_33 d_State_copy_55 (by exact h_265) (by decide) (by decide) rfl ?_
  refine am_get O f_State_52 d_State_copy_58 (by exact h_271) (by decide) (by decide) rfl ?_
  refine am_iconst (v := 0) d_State_copy_61 (by decide) ?_
  refine am_sipush (v := 2000) d_State_copy_62 (by decide) ?_
  refine am_copy (P := 0) (Q := 0) (N := 2000) O w_1990 w_735 w_734 w_167 d_State_copy_65 (by exact h_211) (by decide) (by decide) (by exact h_272) (by decide) (by decide) (by decide) (by decide) (by decide) (by decide) (by decide) (by decide) (by decide) (by decide) (by decide) (by decide) (fun i hi => by refine ⟨?_, fun r h => ?_⟩ <;> first | rfl | cases h | (dsimp only; rw [if_pos (by omega)]; rfl) | (dsimp only at h; rw [if_pos (by omega)] at h; cases h) | (simp [va_cpy, fits]; done) | (simp [va_cpy] at h; done) | (simp only [updV]; (repeat' split) <;> rfl) | (simp only [updV] at h; (repeat' (split at h)) <;> cases h)) (Nat.le_of_ble_eq_true rfl) (by omega) ?_
  refine am_aload_n d_State_copy_68 rfl rfl ?_
  refine am_get O f_State_33 d_State_copy_69 (by exact h_204) (by decide) (by decide) rfl ?_
  refine am_get O f_State_53 d_State_copy_72 (by exact h_210) (by decide) (by decide) rfl ?_
  refine am_iconst (v := 0) d_State_copy_75 (by decide) ?_
  refine am_aload_n d_State_copy_76 rfl rfl ?_
  refine am_get O f_State_33 d_State_copy_77 (by exact h_265) (by decide) (by decide) rfl ?_
  refine am_get O f_State_53 d_State_copy_80 (by exact h_271) (by decide) (by decide) rfl ?_
  refine am_iconst (v := 0) d_State_copy_83 (by decide) ?_
  refine am_sipush (v := 2000) d_State_copy_84 (by decide) ?_
  refine am_copy (P := 0) (Q := 0) (N := 2000) O w_1990 w_735 w_734 w_167 d_State_copy_87 (by exact h_212) (by decide) (by decide) (by exact h_273) (by decide) (by decide) (by decide) (by decide) (by decide) (by decide) (by decide) (by decide) (by decide) (by decide) (by decide) (by decide) (fun i hi => by refine ⟨?_, fun r h => ?_⟩ <;> first | rfl | cases h | (dsimp only; rw [if_pos (by omega)]; rfl) | (dsimp only at h; rw [if_pos (by omega)] at h; cases h) | (simp [va_cpy, fits]; done) | (simp [va_cpy] at h; done) | (simp only [updV]; (repeat' split) <;> rfl) | (simp only [updV] at h; (repeat' (split at h)) <;> cases h)) (Nat.le_of_ble_eq_true rfl) (by omega) ?_
  refine am_aload_n d_State_copy_90 rfl rfl ?_
  refine am_get O f_State_33 d_State_copy_91 (by exact h_204) (by decide) (by decide) rfl ?_
  refine am_get O f_State_54 d_State_copy_94 (by exact h_210) (by decide) (by decide) rfl ?_
  refine am_iconst (v := 0) d_State_copy_97 (by decide) ?_
  refine am_aload_n d_State_copy_98 rfl rfl ?_
  refine am_get O f_State_33 d_State_copy_99 (by exact h_265) (by decide) (by decide) rfl ?_
  refine am_get O f_State_54 d_State_copy_102 (by exact h_271) (by decide) (by decide) rfl ?_
  refine am_iconst (v := 0) d_State_copy_105 (by decide) ?_
  refine am_sipush (v := 2000) d_State_copy_106 (by decide) ?_
  refine am_copy (P := 0) (Q := 0) (N := 2000) O w_1990 w_735 w_734 w_167 d_State_copy_109 (by exact h_213) (by decide) (by decide) (by exact h_274) (by decide) (by decide) (by decide) (by decide) (by decide) (by decide) (by decide) (by decide) (by decide) (by decide) (by decide) (by decide) (fun i hi => by refine ⟨?_, fun r h => ?_⟩ <;> first | rfl | cases h | (dsimp only; rw [if_pos (by omega)]; rfl) | (dsimp only at h; rw [if_pos (by omega)] at h; cases h) | (simp [va_cpy, fits]; done) | (simp [va_cpy] at h; done) | (simp only [updV]; (repeat' split) <;> rfl) | (simp only [updV] at h; (repeat' (split at h)) <;> cases h)) (Nat.le_of_ble_eq_true rfl) (by omega) ?_
  refine am_aload_n d_State_copy_112 rfl rfl ?_
  refine am_get O f_State_33 d_State_copy_113 (by exact h_204) (by decide) (by decide) rfl ?_
  refine am_get O f_State_57 d_State_copy_116 (by exact h_210) (by decide) (by decide) rfl ?_
  refine am_iconst (v := 0) d_State_copy_119 (by decide) ?_
  refine am_aload_n d_State_copy_120 rfl rfl ?_
  refine am_get O f_State_33 d_State_copy_121 (by exact h_265) (by decide) (by decide) rfl ?_
  refine am_get O f_State_57 d_State_copy_124 (by exact h_271) (by decide) (by decide) rfl ?_
  refine am_iconst (v := 0) d_State_copy_127 (by decide) ?_
  refine am_sipush (v := 2000) d_State_copy_128 (by decide) ?_
  refine am_copy (P := 0) (Q := 0) (N := 2000) O w_1990 w_735 w_734 w_167 d_State_copy_131 (by exact h_214) (by decide) (by decide) (by exact h_275) (by decide) (by decide) (by decide) (by decide) (by decide) (by decide) (by decide) (by decide) (by decide) (by decide) (by decide) (by decide) (fun i hi => by refine ⟨?_, fun r h => ?_⟩ <;> first | rfl | cases h | (dsimp only; rw [if_pos (by omega)]; rfl) | (dsimp only at h; rw [if_pos (by omega)] at h; cases h) | (simp [va_cpy, fits]; done) | (simp [va_cpy] at h; done) | (simp only [updV]; (repeat' split) <;> rfl) | (simp only [updV] at h; (repeat' (split at h)) <;> cases h)) (Nat.le_of_ble_eq_true rfl) (by omega) ?_
  refine am_aload_n d_State_copy_134 rfl rfl ?_
  refine am_get O f_State_22 d_State_copy_135 (by exact h_204) (by decide) (by decide) rfl ?_
  refine am_iconst (v := 0) d_State_copy_138 (by decide) ?_
  refine am_aload_n d_State_copy_139 rfl rfl ?_
  refine am_get O f_State_22 d_State_copy_140 (by exact h_265) (by decide) (by decide) rfl ?_
  refine am_iconst (v := 0) d_State_copy_143 (by decide) ?_
  refine am_bipush (v := 12) d_State_copy_144 (by decide) ?_
  refine am_copy (P := 0) (Q := 0) (N := 12) O w_1990 w_735 w_734 w_167 d_State_copy_146 (by exact h_208) (by decide) (by decide) (by exact h_269) (by decide) (by decide) (by decide) (by decide) (by decide) (by decide) (by decide) (by decide) (by decide) (by decide) (by decide) (by decide) (fun i hi => by refine ⟨?_, fun r h => ?_⟩ <;> first | rfl | cases h | (dsimp only; rw [if_pos (by omega)]; rfl) | (dsimp only at h; rw [if_pos (by omega)] at h; cases h) | (simp [va_cpy, fits]; done) | (simp [va_cpy] at h; done) | (simp only [updV]; (repeat' split) <;> rfl) | (simp only [updV] at h; (repeat' (split at h)) <;> cases h)) (Nat.le_of_ble_eq_true rfl) (by omega) ?_
  refine am_iconst (v := 0) d_State_copy_149 (by decide) ?_
  refine am_istore_n d_State_copy_150 rfl (by decide) ?_
  refine am_iload_n d_State_copy_151 rfl rfl ?_
  refine am_aload_n d_State_copy_152 rfl rfl ?_
  refine am_get O f_State_60 d_State_copy_153 (by exact h_204) (by decide) (by decide) rfl ?_
  refine am_icmp_ge (tgt := 178) d_State_copy_156 (by decide) (fun _ => ?_) (fun c => absurd (by decide) c)
  refine am_aload_n d_State_copy_178 rfl rfl ?_
  refine am_get O f_State_25 d_State_copy_179 (by exact h_204) (by decide) (by decide) rfl ?_
  refine am_iconst (v := 0) d_State_copy_182 (by decide) ?_
  refine am_aload_n d_State_copy_183 rfl rfl ?_
  refine am_get O f_State_25 d_State_copy_184 (by exact h_265) (by decide) (by decide) rfl ?_
  refine am_iconst (v := 0) d_State_copy_187 (by decide) ?_
  refine am_bipush (v := 10) d_State_copy_188 (by decide) ?_
  refine am_copy (P := 0) (Q := 0) (N := 10) O w_1990 w_735 w_734 w_167 d_State_copy_190 (by exact h_209) (by decide) (by decide) (by exact h_270) (by decide) (by decide) (by decide) (by decide) (by decide) (by decide) (by decide) (by decide) (by decide) (by decide) (by decide) (by decide) (fun i hi => by refine ⟨?_, fun r h => ?_⟩ <;> first | rfl | cases h | (dsimp only; rw [if_pos (by omega)]; rfl) | (dsimp only at h; rw [if_pos (by omega)] at h; cases h) | (simp [va_cpy, fits]; done) | (simp [va_cpy] at h; done) | (simp only [updV]; (repeat' split) <;> rfl) | (simp only [updV] at h; (repeat' (split at h)) <;> cases h)) (Nat.le_of_ble_eq_true rfl) (by omega) ?_
  refine am_aload_n d_State_copy_193 rfl rfl ?_
  refine am_get O f_State_42 d_State_copy_194 (by exact h_204) (by decide) (by decide) rfl ?_
  refine am_iconst (v := 0) d_State_copy_197 (by decide) ?_
  refine am_aload_n d_State_copy_198 rfl rfl ?_
  refine am_get O f_State_42 d_State_copy_199 (by exact h_265) (by decide) (by decide) rfl ?_
  refine am_iconst (v := 0) d_State_copy_202 (by decide) ?_
  refine am_bipush (v := 10) d_State_copy_203 (by decide) ?_
  refine am_copyq (ci := 12) (P := 0) (Q := 0) (N := 10) O w_1990 w_735 w_734 w_167 d_State_copy_205 (by exact h_220) (by decide) (by decide) (by exact h_281) (by decide) (by decide) (by decide) (by decide) (by decide) (by decide) (by decide) (by decide) (by decide) (by decide) (by decide) (by rfl) (by rfl) (fun i hi => by first | exact Or.inl rfl | exact Or.inl (by simp [va_cpy])) (Nat.le_of_ble_eq_true rfl) (by omega) ?_
  refine am_aload_n d_State_copy_208 rfl rfl ?_
  refine am_aload_n d_State_copy_209 rfl rfl ?_
  refine am_get O f_State_68 d_State_copy_210 (by exact h_204) (by decide) (by decide) rfl ?_
  refine am_put O f_State_68 d_State_copy_213 (by exact h_265) (by decide) (by decide) (Nat.le_of_ble_eq_true rfl) (fun q hq => by cases hq; exact ⟨rfl, rfl, rfl⟩) ?_
  refine am_aload_n d_State_copy_216 rfl rfl ?_
  refine am_aload_n d_State_copy_217 rfl rfl ?_
  refine am_get O f_State_60 d_State_copy_218 (by exact h_204) (by decide) (by decide) rfl ?_
  refine am_put O f_State_60 d_State_copy_221 (by rfl) (by decide) (by decide) (Nat.le_of_ble_eq_true rfl) (fun q hq => by cases hq; exact ⟨rfl, rfl, rfl⟩) ?_
  refine am_aload_n d_State_copy_224 rfl rfl ?_
  refine am_aload_n d_State_copy_225 rfl rfl ?_
  refine am_get O f_State_71 d_State_copy_226 (by exact h_204) (by decide) (by decide) rfl ?_
  refine am_put O f_State_71 d_State_copy_229 (by rfl) (by decide) (by decide) (Nat.le_of_ble_eq_true rfl) (fun q hq => by cases hq; exact ⟨rfl, rfl, rfl⟩) ?_
  exact am_vret rfl d_State_copy_232 ⟨rfl, rfl, rfl, rfl, rfl, rfl, rfl, rfl, rfl, rfl, rfl, rfl, rfl, fun x hx => by simp only [List.mem_cons, List.not_mem_nil, or_false, not_or] at hx; dsimp only; (repeat (first | rw [va_up_ne _ _ (by omega)]))⟩

set_option maxRecDepth 100000 in
set_option maxHeartbeats 4000000 in
theorem t149_Mod_wait (O : am_ok K X) {x : Int32}  {f : Nat → am_C} (h_160 : f 160 = .inr (14, [.ref 161, .ref 162, .int 0, .int 0, .int 0, .int 0, .int 0, .int 0, .int 0, .int (-1), .int 1, .long 0, .ref 163, .ref 170, .ref 171, .ref 172, .ref 173, .ref 174, .ref 175, .ref 176, .int 0, .ref 177, .ref 163, .ref 184, .int 0, .int 0, .ref 185, .int 0, .ref 186, .int 0, .ref 204, .ref 187, .ref 221, .ref 238, .int 0, .int 0, .ref 239, .ref 240, .ref 245, .ref 250, .ref 255, .int 0, .int 0, .int x, .int 0, .int 0, .int 1, .ref 260, .ref 261, .ref 262, .ref 263, .ref 264, .int 0])) (h_204 : f 204 = .inr (13, [.ref 205, .ref 206, .ref 207, .ref 208, .ref 209, .ref 210, .ref 215, .ref 220, .int 0, .int 0, .int 0, .int 0])) (h_205 : f 205 = .inl (.int, 100, (va_cpy (fun _ => .int 0) (fun _ => .int 0) 0 0 100))) (h_206 : f 206 = .inl (.int, 100, (va_cpy (fun _ => .int 0) (fun _ => .int 0) 0 0 100))) (h_207 : f 207 = .inl (.long, 800, (va_cpy (fun _ => .long 0) (fun _ => .long 0) 0 0 800))) (h_208 : f 208 = .inl (.long, 12, (va_cpy (fun _ => .long 0) (fun _ => .long 0) 0 0 12))) (h_209 : f 209 = .inl (.long, 10, (va_cpy (fun _ => .long 0) (fun _ => .long 0) 0 0 10))) (h_210 : f 210 = .inr (11, [.ref 211, .ref 212, .ref 213, .ref 214])) (h_211 : f 211 = .inl (.int, 2000, (va_cpy (fun _ => .int 0) (fun _ => .int 0) 0 0 2000))) (h_212 : f 212 = .inl (.int, 2000, (va_cpy (fun _ => .int 0) (fun _ => .int 0) 0 0 2000))) (h_213 : f 213 = .inl (.long, 2000, (va_cpy (fun _ => .long 0) (fun _ => .long 0) 0 0 2000))) (h_214 : f 214 = .inl (.long, 2000, (va_cpy (fun _ => .long 0) (fun _ => .long 0) 0 0 2000))) (h_220 : f 220 = .inl (.object "StowTongueModel$Code", 10, (va_cpy (fun _ => .null) (fun _ => .null) 0 0 10))) (h_238 : f 238 = .inl (.object "StowTongueModel$State", 8, (updV (updV (updV (updV (updV (updV (updV (updV (fun _ => .null) 0 (.ref 265)) 1 (.ref 282)) 2 (.ref 299)) 3 (.ref 316)) 4 (.ref 333)) 5 (.ref 350)) 6 (.ref 367)) 7 (.ref 384)))) (h_265 : f 265 = .inr (13, [.ref 266, .ref 267, .ref 268, .ref 269, .ref 270, .ref 271, .ref 276, .ref 281, .int 0, .int 0, .int 0, .int 0])) (h_266 : f 266 = .inl (.int, 100, (fun _ => .int 0))) (h_267 : f 267 = .inl (.int, 100, (fun _ => .int 0))) (h_268 : f 268 = .inl (.long, 800, (fun _ => .long 0))) (h_269 : f 269 = .inl (.long, 12, (fun _ => .long 0))) (h_270 : f 270 = .inl (.long, 10, (fun _ => .long 0))) (h_271 : f 271 = .inr (11, [.ref 272, .ref 273, .ref 274, .ref 275])) (h_272 : f 272 = .inl (.int, 2000, (fun _ => .int 0))) (h_273 : f 273 = .inl (.int, 2000, (fun _ => .int 0))) (h_274 : f 274 = .inl (.long, 2000, (fun _ => .long 0))) (h_275 : f 275 = .inl (.long, 2000, (fun _ => .long 0))) (h_281 : f 281 = .inl (.object "StowTongueModel$Code", 10, (fun _ => .null))) : am_Mt K X m_Mod_wait 2 0 0 [.ref 160, .int 8] (1330, f) (fun v h' => v = none ∧ h'.1 = 1330 ∧ h'.2 160 = .inr (14, [.ref 161, .ref 162, .int 0, .int 0, .int 0, .int 0, .int 0, .int 0, .int 0, .int (-1), .int 1, .long 0, .ref 163, .ref 170, .ref 171, .ref 172, .ref 173, .ref 174, .ref 175, .ref 176, .int 0, .ref 177, .ref 163, .ref 184, .int 0, .int 0, .ref 185, .int 0, .ref 186, .int 0, .ref 204, .ref 187, .ref 221, .ref 238, .int 1, .int 8, .ref 239, .ref 240, .ref 245, .ref 250, .ref 255, .int 0, .int 0, .int x, .int 0, .int 0, .int 1, .ref 260, .ref 261, .ref 262, .ref 263, .ref 264, .int 0]) ∧ h'.2 266 = .inl (.int, 100, (va_cpy (va_cpy (fun _ => .int 0) (fun _ => .int 0) 0 0 100) (fun _ => .int 0) 0 0 100)) ∧ h'.2 267 = .inl (.int, 100, (va_cpy (va_cpy (fun _ => .int 0) (fun _ => .int 0) 0 0 100) (fun _ => .int 0) 0 0 100)) ∧ h'.2 268 = .inl (.long, 800, (va_cpy (va_cpy (fun _ => .long 0) (fun _ => .long 0) 0 0 800) (fun _ => .long 0) 0 0 800)) ∧ h'.2 272 = .inl (.int, 2000, (va_cpy (va_cpy (fun _ => .int 0) (fun _ => .int 0) 0 0 2000) (fun _ => .int 0) 0 0 2000)) ∧ h'.2 273 = .inl (.int, 2000, (va_cpy (va_cpy (fun _ => .int 0) (fun _ => .int 0) 0 0 2000) (fun _ => .int 0) 0 0 2000)) ∧ h'.2 274 = .inl (.long, 2000, (va_cpy (va_cpy (fun _ => .long 0) (fun _ => .long 0) 0 0 2000) (fun _ => .long 0) 0 0 2000)) ∧ h'.2 275 = .inl (.long, 2000, (va_cpy (va_cpy (fun _ => .long 0) (fun _ => .long 0) 0 0 2000) (fun _ => .long 0) 0 0 2000)) ∧ h'.2 269 = .inl (.long, 12, (va_cpy (va_cpy (fun _ => .long 0) (fun _ => .long 0) 0 0 12) (fun _ => .long 0) 0 0 12)) ∧ h'.2 270 = .inl (.long, 10, (va_cpy (va_cpy (fun _ => .long 0) (fun _ => .long 0) 0 0 10) (fun _ => .long 0) 0 0 10)) ∧ h'.2 281 = .inl (.object "StowTongueModel$Code", 10, (va_cpy (va_cpy (fun _ => .null) (fun _ => .null) 0 0 10) (fun _ => .null) 0 0 10)) ∧ h'.2 265 = .inr (13, [.ref 266, .ref 267, .ref 268, .ref 269, .ref 270, .ref 271, .ref 276, .ref 281, .int 0, .int 0, .int 0, .int 8]) ∧ ∀ x, x ∉ ([160, 266, 267, 268, 272, 273, 274, 275, 269, 270, 281, 265] : List Nat) → h'.2 x = f x) := by
  refine am_enter (by decide +kernel) (Nat.le_of_ble_eq_true rfl) ?_
  refine am_aload_n d_Mod_wait_0 rfl rfl ?_
  refine am_dup d_Mod_wait_1 rfl ?_
  refine am_get O f_Mod_480 d_Mod_wait_2 (by exact h_160) (by decide) (by decide) rfl ?_
  refine am_iload_n d_Mod_wait_5 rfl rfl ?_
  refine am_iadd d_Mod_wait_6 ?_
  refine am_topi (v := 8) (by decide) ?_
  refine am_put O f_Mod_480 d_Mod_wait_7 (by exact h_160) (by decide) (by decide) (Nat.le_of_ble_eq_true rfl) (fun q hq => by cases hq; exact ⟨rfl, rfl, rfl⟩) ?_
  refine am_aload_n d_Mod_wait_10 rfl rfl ?_
  refine am_get O f_Mod_409 d_Mod_wait_11 (by rfl) (by decide) (by decide) rfl ?_
  refine am_bipush (v := 8) d_Mod_wait_14 (by decide) ?_
  refine am_icmp_ne (tgt := 85) d_Mod_wait_16 (by decide) (fun _ => ?_) (fun c => absurd c (by decide))
  refine am_aload_n d_Mod_wait_85 rfl rfl ?_
  refine am_get O f_Mod_359 d_Mod_wait_86 (by rfl) (by decide) (by decide) rfl ?_
  refine am_aload_n d_Mod_wait_89 rfl rfl ?_
  refine am_get O f_Mod_409 d_Mod_wait_90 (by rfl) (by decide) (by decide) rfl ?_
  refine am_aald (v := .ref 265) O d_Mod_wait_93 (by exact h_238) (by decide) (by decide) (by decide) rfl (am_in (by decide) (by decide)) rfl ?_
  refine am_aload_n d_Mod_wait_94 rfl rfl ?_
  refine am_get O f_Mod_349 d_Mod_wait_95 (by rfl) (by decide) (by decide) rfl ?_
  refine am_callV O (t148_State_copy O (by exact h_204) (by exact h_205) (by exact h_206) (by exact h_207) (by exact h_208) (by exact h_209) (by exact h_210) (by exact h_211) (by exact h_212) (by exact h_213) (by exact h_214) (by exact h_220) (by exact h_265) (by exact h_266) (by exact h_267) (by exact h_268) (by exact h_269) (by exact h_270) (by exact h_271) (by exact h_272) (by exact h_273) (by exact h_274) (by exact h_275) (by exact h_281)) rfl (by exact h_265) (by decide) (by decide) rfl rfl l_Mod_448 ⟨w_1987, w_1988⟩ rfl (Nat.le_of_ble_eq_true rfl) d_Mod_wait_98 (by omega) (by omega) (by omega) (fun v h' hp => ?_)
  obtain ⟨n1, f1⟩ := h'
  obtain ⟨rfl, e1, g_266_1, g_267_1, g_268_1, g_272_1, g_273_1, g_274_1, g_275_1, g_269_1, g_270_1, g_281_1, g_265_1, fr1⟩ := hp
  obtain rfl : n1 = 1330 := e1
  have fr1 := fun (x : Nat) (hx : x ∉ ([266, 267, 268, 272, 273, 274, 275, 269, 270, 281, 265] : List Nat)) => (show f1 x = _ from fr1 x hx)
  have h_266_1 : f1 266 = .inl (.int, 100, (va_cpy (va_cpy (fun _ => .int 0) (fun _ => .int 0) 0 0 100) (fun _ => .int 0) 0 0 100)) := g_266_1
  have h_267_1 : f1 267 = .inl (.int, 100, (va_cpy (va_cpy (fun _ => .int 0) (fun _ => .int 0) 0 0 100) (fun _ => .int 0) 0 0 100)) := g_267_1
  have h_268_1 : f1 268 = .inl (.long, 800, (va_cpy (va_cpy (fun _ => .long 0) (fun _ => .long 0) 0 0 800) (fun _ => .long 0) 0 0 800)) := g_268_1
  have h_272_1 : f1 272 = .inl (.int, 2000, (va_cpy (va_cpy (fun _ => .int 0) (fun _ => .int 0) 0 0 2000) (fun _ => .int 0) 0 0 2000)) := g_272_1
  have h_273_1 : f1 273 = .inl (.int, 2000, (va_cpy (va_cpy (fun _ => .int 0) (fun _ => .int 0) 0 0 2000) (fun _ => .int 0) 0 0 2000)) := g_273_1
  have h_274_1 : f1 274 = .inl (.long, 2000, (va_cpy (va_cpy (fun _ => .long 0) (fun _ => .long 0) 0 0 2000) (fun _ => .long 0) 0 0 2000)) := g_274_1
  have h_275_1 : f1 275 = .inl (.long, 2000, (va_cpy (va_cpy (fun _ => .long 0) (fun _ => .long 0) 0 0 2000) (fun _ => .long 0) 0 0 2000)) := g_275_1
  have h_269_1 : f1 269 = .inl (.long, 12, (va_cpy (va_cpy (fun _ => .long 0) (fun _ => .long 0) 0 0 12) (fun _ => .long 0) 0 0 12)) := g_269_1
  have h_270_1 : f1 270 = .inl (.long, 10, (va_cpy (va_cpy (fun _ => .long 0) (fun _ => .long 0) 0 0 10) (fun _ => .long 0) 0 0 10)) := g_270_1
  have h_281_1 : f1 281 = .inl (.object "StowTongueModel$Code", 10, (va_cpy (va_cpy (fun _ => .null) (fun _ => .null) 0 0 10) (fun _ => .null) 0 0 10)) := g_281_1
  have h_265_1 : f1 265 = .inr (13, [.ref 266, .ref 267, .ref 268, .ref 269, .ref 270, .ref 271, .ref 276, .ref 281, .int 0, .int 0, .int 0, .int 0]) := g_265_1
  refine am_aload_n d_Mod_wait_101 rfl rfl ?_
  have h_160_1 : f1 160 = .inr (14, [.ref 161, .ref 162, .int 0, .int 0, .int 0, .int 0, .int 0, .int 0, .int 0, .int (-1), .int 1, .long 0, .ref 163, .ref 170, .ref 171, .ref 172, .ref 173, .ref 174, .ref 175, .ref 176, .int 0, .ref 177, .ref 163, .ref 184, .int 0, .int 0, .ref 185, .int 0, .ref 186, .int 0, .ref 204, .ref 187, .ref 221, .ref 238, .int 0, .int 8, .ref 239, .ref 240, .ref 245, .ref 250, .ref 255, .int 0, .int 0, .int x, .int 0, .int 0, .int 1, .ref 260, .ref 261, .ref 262, .ref 263, .ref 264, .int 0]) := (fr1 160 (by decide)).trans rfl
  refine am_get O f_Mod_359 d_Mod_wait_102 (by exact h_160_1) (by decide) (by decide) rfl ?_
  refine am_aload_n d_Mod_wait_105 rfl rfl ?_
  refine am_get O f_Mod_409 d_Mod_wait_106 (by exact h_160_1) (by decide) (by decide) rfl ?_
  have h_238_1 : f1 238 = .inl (.object "StowTongueModel$State", 8, (updV (updV (updV (updV (updV (updV (updV (updV (fun _ => .null) 0 (.ref 265)) 1 (.ref 282)) 2 (.ref 299)) 3 (.ref 316)) 4 (.ref 333)) 5 (.ref 350)) 6 (.ref 367)) 7 (.ref 384))) := (fr1 238 (by decide)).trans h_238
  refine am_aald (v := .ref 265) O d_Mod_wait_109 (by exact h_238_1) (by decide) (by decide) (by decide) rfl (am_in (by decide) (by decide)) rfl ?_
  refine am_iload_n d_Mod_wait_110 rfl rfl ?_
  refine am_put O f_Mod_483 d_Mod_wait_111 (by exact h_265_1) (by decide) (by decide) (Nat.le_of_ble_eq_true rfl) (fun q hq => by cases hq; exact ⟨rfl, rfl, rfl⟩) ?_
  refine am_aload_n d_Mod_wait_114 rfl rfl ?_
  refine am_dup d_Mod_wait_115 rfl ?_
  refine am_get O f_Mod_409 d_Mod_wait_116 (by exact h_160_1) (by decide) (by decide) rfl ?_
  refine am_iconst (v := 1) d_Mod_wait_119 (by decide) ?_
  refine am_iadd d_Mod_wait_120 ?_
  refine am_topi (v := 1) (by decide) ?_
  refine am_put O f_Mod_409 d_Mod_wait_121 (by exact h_160_1) (by decide) (by decide) (Nat.le_of_ble_eq_true rfl) (fun q hq => by cases hq; exact ⟨rfl, rfl, rfl⟩) ?_
  exact am_vret rfl d_Mod_wait_124 ⟨rfl, rfl, rfl, h_266_1, h_267_1, h_268_1, h_272_1, h_273_1, h_274_1, h_275_1, h_269_1, h_270_1, h_281_1, rfl, fun x hx => by simp only [List.mem_cons, List.not_mem_nil, or_false, not_or] at hx; dsimp only; (repeat (first | rw [va_up_ne _ _ (by omega)] | rw [fr1 x (by simp only [List.mem_cons, List.not_mem_nil, or_false, not_or]; omega)]))⟩

set_option maxRecDepth 100000 in
set_option maxHeartbeats 4000000 in
theorem a_run_m (O : am_ok K X) {x : Int32} (hx : 0 ≤ x.toInt ∧ x.toInt ≤ 2000) {f : Nat → am_C} (h_160 : f 160 = .inr (14, [.ref 161, .ref 162, .int 0, .int 0, .int 0, .int 0, .int 0, .int 0, .int 0, .int 0, .int 0, .long 0, .ref 163, .ref 170, .ref 171, .ref 172, .ref 173, .ref 174, .ref 175, .ref 176, .int 0, .ref 177, .null, .ref 184, .int 0, .int 0, .ref 185, .int 0, .ref 186, .int 0, .ref 187, .ref 204, .ref 221, .ref 238, .int 0, .int 0, .ref 239, .ref 240, .ref 245, .ref 250, .ref 255, .int 0, .int 0, .int 0, .int 0, .int 0, .int 0, .ref 260, .ref 261, .ref 262, .ref 263, .ref 264, .int 0])) (h_163 : f 163 = .inr (12, [.ref 164, .ref 165, .int 0, .int 0, .int 0, .int 0, .int 0, .int 0, .int 0, .int 0])) (h_164 : f 164 = .inl (.int, 6000, (fun _ => .int 0))) (h_177 : f 177 = .inr (12, [.ref 178, .ref 179, .int 0, .int 0, .int 0, .int 0, .int 0, .int 0, .int 0, .int 0])) (h_187 : f 187 = .inr (13, [.ref 188, .ref 189, .ref 190, .ref 191, .ref 192, .ref 193, .ref 198, .ref 203, .int 0, .int 0, .int 0, .int 0])) (h_188 : f 188 = .inl (.int, 100, (fun _ => .int 0))) (h_189 : f 189 = .inl (.int, 100, (fun _ => .int 0))) (h_190 : f 190 = .inl (.long, 800, (fun _ => .long 0))) (h_191 : f 191 = .inl (.long, 12, (fun _ => .long 0))) (h_192 : f 192 = .inl (.long, 10, (fun _ => .long 0))) (h_193 : f 193 = .inr (11, [.ref 194, .ref 195, .ref 196, .ref 197])) (h_194 : f 194 = .inl (.int, 2000, (fun _ => .int 0))) (h_195 : f 195 = .inl (.int, 2000, (fun _ => .int 0))) (h_196 : f 196 = .inl (.long, 2000, (fun _ => .long 0))) (h_197 : f 197 = .inl (.long, 2000, (fun _ => .long 0))) (h_203 : f 203 = .inl (.object "StowTongueModel$Code", 10, (fun _ => .null))) (h_204 : f 204 = .inr (13, [.ref 205, .ref 206, .ref 207, .ref 208, .ref 209, .ref 210, .ref 215, .ref 220, .int 0, .int 0, .int 0, .int 0])) (h_205 : f 205 = .inl (.int, 100, (fun _ => .int 0))) (h_206 : f 206 = .inl (.int, 100, (fun _ => .int 0))) (h_207 : f 207 = .inl (.long, 800, (fun _ => .long 0))) (h_208 : f 208 = .inl (.long, 12, (fun _ => .long 0))) (h_209 : f 209 = .inl (.long, 10, (fun _ => .long 0))) (h_210 : f 210 = .inr (11, [.ref 211, .ref 212, .ref 213, .ref 214])) (h_211 : f 211 = .inl (.int, 2000, (fun _ => .int 0))) (h_212 : f 212 = .inl (.int, 2000, (fun _ => .int 0))) (h_213 : f 213 = .inl (.long, 2000, (fun _ => .long 0))) (h_214 : f 214 = .inl (.long, 2000, (fun _ => .long 0))) (h_220 : f 220 = .inl (.object "StowTongueModel$Code", 10, (fun _ => .null))) (h_238 : f 238 = .inl (.object "StowTongueModel$State", 8, (updV (updV (updV (updV (updV (updV (updV (updV (fun _ => .null) 0 (.ref 265)) 1 (.ref 282)) 2 (.ref 299)) 3 (.ref 316)) 4 (.ref 333)) 5 (.ref 350)) 6 (.ref 367)) 7 (.ref 384)))) (h_240 : f 240 = .inr (11, [.ref 241, .ref 242, .ref 243, .ref 244])) (h_241 : f 241 = .inl (.int, 8000, (fun _ => .int 0))) (h_242 : f 242 = .inl (.int, 8000, (fun _ => .int 0))) (h_243 : f 243 = .inl (.long, 8000, (fun _ => .long 0))) (h_244 : f 244 = .inl (.long, 8000, (fun _ => .long 0))) (h_250 : f 250 = .inr (11, [.ref 251, .ref 252, .ref 253, .ref 254])) (h_251 : f 251 = .inl (.int, 1, (fun _ => .int 0))) (h_252 : f 252 = .inl (.int, 1, (fun _ => .int 0))) (h_253 : f 253 = .inl (.long, 1, (fun _ => .long 0))) (h_254 : f 254 = .inl (.long, 1, (fun _ => .long 0))) (h_255 : f 255 = .inr (11, [.ref 256, .ref 257, .ref 258, .ref 259])) (h_256 : f 256 = .inl (.int, 4, (fun _ => .int 0))) (h_257 : f 257 = .inl (.int, 4, (fun _ => .int 0))) (h_258 : f 258 = .inl (.long, 4, (fun _ => .long 0))) (h_259 : f 259 = .inl (.long, 4, (fun _ => .long 0))) (h_260 : f 260 = .inl (.object "StowTongueModel$Code", 9, (fun _ => .null))) (h_261 : f 261 = .inl (.int, 9, (fun _ => .int 0))) (h_262 : f 262 = .inl (.int, 9, (fun _ => .int 0))) (h_265 : f 265 = .inr (13, [.ref 266, .ref 267, .ref 268, .ref 269, .ref 270, .ref 271, .ref 276, .ref 281, .int 0, .int 0, .int 0, .int 0])) (h_266 : f 266 = .inl (.int, 100, (fun _ => .int 0))) (h_267 : f 267 = .inl (.int, 100, (fun _ => .int 0))) (h_268 : f 268 = .inl (.long, 800, (fun _ => .long 0))) (h_269 : f 269 = .inl (.long, 12, (fun _ => .long 0))) (h_270 : f 270 = .inl (.long, 10, (fun _ => .long 0))) (h_271 : f 271 = .inr (11, [.ref 272, .ref 273, .ref 274, .ref 275])) (h_272 : f 272 = .inl (.int, 2000, (fun _ => .int 0))) (h_273 : f 273 = .inl (.int, 2000, (fun _ => .int 0))) (h_274 : f 274 = .inl (.long, 2000, (fun _ => .long 0))) (h_275 : f 275 = .inl (.long, 2000, (fun _ => .long 0))) (h_281 : f 281 = .inl (.object "StowTongueModel$Code", 10, (fun _ => .null))) : am_Mt K X m_Mod_run 5 0 0 [.ref 160, .int x] (1330, f) (fun v h' => v = some (.int 0) ∧ h'.1 = 1330 ∧ h'.2 160 = .inr (14, [.ref 161, .ref 162, .int 0, .int 0, .int 0, .int 0, .int 0, .int 0, .int 0, .int (-1), .int 1, .long 0, .ref 163, .ref 170, .ref 171, .ref 172, .ref 173, .ref 174, .ref 175, .ref 176, .int 0, .ref 177, .ref 163, .ref 184, .int 0, .int 0, .ref 185, .int 0, .ref 186, .int 0, .ref 204, .ref 187, .ref 221, .ref 238, .int 1, .int 8, .ref 239, .ref 240, .ref 245, .ref 250, .ref 255, .int 0, .int 0, .int x, .int 0, .int 0, .int 1, .ref 260, .ref 261, .ref 262, .ref 263, .ref 264, .int 0]) ∧ h'.2 163 = .inr (12, [.ref 164, .ref 165, .int 1, .int 0, .int 0, .int 0, .int 0, .int 0, .int 0, .int 0]) ∧ h'.2 177 = .inr (12, [.ref 178, .ref 179, .int 0, .int 0, .int 0, .int 0, .int 0, .int 0, .int 0, .int 0]) ∧ h'.2 164 = .inl (.int, 6000, (updV (fun _ => .int 0) 0 (.int 28))) ∧ h'.2 251 = .inl (.int, 1, (updV (updV (fun _ => .int 0) 0 (.int 0)) 0 (.int 0))) ∧ h'.2 252 = .inl (.int, 1, (updV (updV (fun _ => .int 0) 0 (.int 0)) 0 (.int 0))) ∧ h'.2 253 = .inl (.long, 1, (updV (updV (fun _ => .long 0) 0 (.long 0)) 0 (.long 0))) ∧ h'.2 254 = .inl (.long, 1, (updV (updV (fun _ => .long 0) 0 (.long 0)) 0 (.long 0))) ∧ h'.2 205 = .inl (.int, 100, (va_cpy (fun _ => .int 0) (fun _ => .int 0) 0 0 100)) ∧ h'.2 206 = .inl (.int, 100, (va_cpy (fun _ => .int 0) (fun _ => .int 0) 0 0 100)) ∧ h'.2 207 = .inl (.long, 800, (va_cpy (fun _ => .long 0) (fun _ => .long 0) 0 0 800)) ∧ h'.2 211 = .inl (.int, 2000, (va_cpy (fun _ => .int 0) (fun _ => .int 0) 0 0 2000)) ∧ h'.2 212 = .inl (.int, 2000, (va_cpy (fun _ => .int 0) (fun _ => .int 0) 0 0 2000)) ∧ h'.2 213 = .inl (.long, 2000, (va_cpy (fun _ => .long 0) (fun _ => .long 0) 0 0 2000)) ∧ h'.2 214 = .inl (.long, 2000, (va_cpy (fun _ => .long 0) (fun _ => .long 0) 0 0 2000)) ∧ h'.2 208 = .inl (.long, 12, (va_cpy (fun _ => .long 0) (fun _ => .long 0) 0 0 12)) ∧ h'.2 209 = .inl (.long, 10, (va_cpy (fun _ => .long 0) (fun _ => .long 0) 0 0 10)) ∧ h'.2 220 = .inl (.object "StowTongueModel$Code", 10, (va_cpy (fun _ => .null) (fun _ => .null) 0 0 10)) ∧ h'.2 204 = .inr (13, [.ref 205, .ref 206, .ref 207, .ref 208, .ref 209, .ref 210, .ref 215, .ref 220, .int 0, .int 0, .int 0, .int 0]) ∧ h'.2 260 = .inl (.object "StowTongueModel$Code", 9, (updV (fun _ => .null) 0 (.ref 163))) ∧ h'.2 261 = .inl (.int, 9, (updV (fun _ => .int 0) 0 (.int 0))) ∧ h'.2 262 = .inl (.int, 9, (updV (fun _ => .int 0) 0 (.int 0))) ∧ h'.2 241 = .inl (.int, 8000, (updV (fun _ => .int 0) 0 (.int 0))) ∧ h'.2 242 = .inl (.int, 8000, (updV (fun _ => .int 0) 0 (.int 0))) ∧ h'.2 243 = .inl (.long, 8000, (updV (fun _ => .long 0) 0 (.long 0))) ∧ h'.2 244 = .inl (.long, 8000, (updV (fun _ => .long 0) 0 (.long 0))) ∧ h'.2 256 = .inl (.int, 4, (updV (fun _ => .int 0) 0 (.int 0))) ∧ h'.2 257 = .inl (.int, 4, (updV (fun _ => .int 0) 0 (.int 0))) ∧ h'.2 258 = .inl (.long, 4, (updV (fun _ => .long 0) 0 (.long 0))) ∧ h'.2 259 = .inl (.long, 4, (updV (fun _ => .long 0) 0 (.long 0))) ∧ h'.2 266 = .inl (.int, 100, (va_cpy (va_cpy (fun _ => .int 0) (fun _ => .int 0) 0 0 100) (fun _ => .int 0) 0 0 100)) ∧ h'.2 267 = .inl (.int, 100, (va_cpy (va_cpy (fun _ => .int 0) (fun _ => .int 0) 0 0 100) (fun _ => .int 0) 0 0 100)) ∧ h'.2 268 = .inl (.long, 800, (va_cpy (va_cpy (fun _ => .long 0) (fun _ => .long 0) 0 0 800) (fun _ => .long 0) 0 0 800)) ∧ h'.2 272 = .inl (.int, 2000, (va_cpy (va_cpy (fun _ => .int 0) (fun _ => .int 0) 0 0 2000) (fun _ => .int 0) 0 0 2000)) ∧ h'.2 273 = .inl (.int, 2000, (va_cpy (va_cpy (fun _ => .int 0) (fun _ => .int 0) 0 0 2000) (fun _ => .int 0) 0 0 2000)) ∧ h'.2 274 = .inl (.long, 2000, (va_cpy (va_cpy (fun _ => .long 0) (fun _ => .long 0) 0 0 2000) (fun _ => .long 0) 0 0 2000)) ∧ h'.2 275 = .inl (.long, 2000, (va_cpy (va_cpy (fun _ => .long 0) (fun _ => .long 0) 0 0 2000) (fun _ => .long 0) 0 0 2000)) ∧ h'.2 269 = .inl (.long, 12, (va_cpy (va_cpy (fun _ => .long 0) (fun _ => .long 0) 0 0 12) (fun _ => .long 0) 0 0 12)) ∧ h'.2 270 = .inl (.long, 10, (va_cpy (va_cpy (fun _ => .long 0) (fun _ => .long 0) 0 0 10) (fun _ => .long 0) 0 0 10)) ∧ h'.2 281 = .inl (.object "StowTongueModel$Code", 10, (va_cpy (va_cpy (fun _ => .null) (fun _ => .null) 0 0 10) (fun _ => .null) 0 0 10)) ∧ h'.2 265 = .inr (13, [.ref 266, .ref 267, .ref 268, .ref 269, .ref 270, .ref 271, .ref 276, .ref 281, .int 0, .int 0, .int 0, .int 8]) ∧ ∀ x, x ∉ ([160, 163, 177, 164, 251, 252, 253, 254, 205, 206, 207, 211, 212, 213, 214, 208, 209, 220, 204, 260, 261, 262, 241, 242, 243, 244, 256, 257, 258, 259, 266, 267, 268, 272, 273, 274, 275, 269, 270, 281, 265] : List Nat) → h'.2 x = f x) := by
  refine am_enter (by decide +kernel) (Nat.le_of_ble_eq_true rfl) ?_
  refine am_iload_n d_Mod_run_0 rfl rfl ?_
  refine am_i2l d_Mod_run_1 rfl ?_
  refine am_lconst (v := 0) d_Mod_run_2 (by decide) ?_
  refine am_ldc2 (v := 2000) w_1797 d_Mod_run_3 ?_
  refine am_callS O (c_in1 (in_le hx.1 (by decide)) (in_ge hx.2 (by decide))) rfl l_Mod_70 w_1791 rfl (Nat.le_of_ble_eq_true rfl) d_Mod_run_6 (by omega) (by omega) (by omega) (fun v h' hp => ?_)
  obtain ⟨rfl, rfl⟩ := hp
  refine am_if_ne (tgt := 14) d_Mod_run_9 (by decide) (fun _ => ?_) (fun c => absurd c (by decide))
  refine am_aload_n d_Mod_run_14 rfl rfl ?_
  refine am_callV O (t133_Mod_read O (by exact h_160) (by exact h_163) (by exact h_164) (by exact h_177)) rfl (by exact h_160) (by decide) (by decide) rfl rfl l_Mod_437 ⟨w_1800, w_83⟩ rfl (Nat.le_of_ble_eq_true rfl) d_Mod_run_15 (by omega) (by omega) (by omega) (fun v h' hp => ?_)
  obtain ⟨n1, f1⟩ := h'
  obtain ⟨rfl, e1, g_160_1, g_163_1, g_177_1, g_164_1, fr1⟩ := hp
  obtain rfl : n1 = 1330 := e1
  have fr1 := fun (x : Nat) (hx : x ∉ ([160, 163, 177, 164] : List Nat)) => (show f1 x = _ from fr1 x hx)
  have h_160_1 : f1 160 = .inr (14, [.ref 161, .ref 162, .int 0, .int 0, .int 0, .int 0, .int 0, .int 0, .int 0, .int (-1), .int 1, .long 0, .ref 163, .ref 170, .ref 171, .ref 172, .ref 173, .ref 174, .ref 175, .ref 176, .int 0, .ref 177, .ref 163, .ref 184, .int 0, .int 0, .ref 185, .int 0, .ref 186, .int 0, .ref 187, .ref 204, .ref 221, .ref 238, .int 0, .int 0, .ref 239, .ref 240, .ref 245, .ref 250, .ref 255, .int 0, .int 0, .int 0, .int 0, .int 0, .int 0, .ref 260, .ref 261, .ref 262, .ref 263, .ref 264, .int 0]) := g_160_1
  have h_163_1 : f1 163 = .inr (12, [.ref 164, .ref 165, .int 1, .int 0, .int 0, .int 0, .int 0, .int 0, .int 0, .int 0]) := g_163_1
  have h_177_1 : f1 177 = .inr (12, [.ref 178, .ref 179, .int 0, .int 0, .int 0, .int 0, .int 0, .int 0, .int 0, .int 0]) := g_177_1
  have h_164_1 : f1 164 = .inl (.int, 6000, (updV (fun _ => .int 0) 0 (.int 28))) := g_164_1
  refine am_if_ne (tgt := 29) d_Mod_run_18 (by decide) (fun _ => ?_) (fun c => absurd c (by decide))
  refine am_aload_n d_Mod_run_29 rfl rfl ?_
  refine am_iconst (v := 0) d_Mod_run_30 (by decide) ?_
  refine am_put O f_Mod_440 d_Mod_run_31 (by exact h_160_1) (by decide) (by decide) (Nat.le_of_ble_eq_true rfl) (fun q hq => by cases hq; exact ⟨rfl, rfl, rfl⟩) ?_
  refine am_aload_n d_Mod_run_34 rfl rfl ?_
  refine am_get O f_Mod_374 d_Mod_run_35 (by rfl) (by decide) (by decide) rfl ?_
  refine am_iconst (v := 0) d_Mod_run_38 (by decide) ?_
  refine am_iconst (v := 0) d_Mod_run_39 (by decide) ?_
  refine am_iconst (v := 0) d_Mod_run_40 (by decide) ?_
  refine am_lconst (v := 0) d_Mod_run_41 (by decide) ?_
  refine am_lconst (v := 0) d_Mod_run_42 (by decide) ?_
  have h_250_1 : f1 250 = .inr (11, [.ref 251, .ref 252, .ref 253, .ref 254]) := (fr1 250 (by decide)).trans h_250
  have h_251_1 : f1 251 = .inl (.int, 1, (fun _ => .int 0)) := (fr1 251 (by decide)).trans h_251
  have h_252_1 : f1 252 = .inl (.int, 1, (fun _ => .int 0)) := (fr1 252 (by decide)).trans h_252
  have h_253_1 : f1 253 = .inl (.long, 1, (fun _ => .long 0)) := (fr1 253 (by decide)).trans h_253
  have h_254_1 : f1 254 = .inl (.long, 1, (fun _ => .long 0)) := (fr1 254 (by decide)).trans h_254
  refine am_callV O (t134_Vals_set O (by exact h_250_1) (by exact h_251_1) (by exact h_252_1) (by exact h_253_1) (by exact h_254_1)) rfl (by exact h_250_1) (by decide) (by decide) rfl rfl l_Mod_114 ⟨w_1914, w_1915⟩ rfl (Nat.le_of_ble_eq_true rfl) d_Mod_run_43 (by omega) (by omega) (by omega) (fun v h' hp => ?_)
  obtain ⟨n2, f2⟩ := h'
  obtain ⟨rfl, e2, g_251_2, g_252_2, g_253_2, g_254_2, fr2⟩ := hp
  obtain rfl : n2 = 1330 := e2
  have fr2 := fun (x : Nat) (hx : x ∉ ([251, 252, 253, 254] : List Nat)) => (show f2 x = _ from fr2 x hx)
  have h_251_2 : f2 251 = .inl (.int, 1, (updV (fun _ => .int 0) 0 (.int 0))) := g_251_2
  have h_252_2 : f2 252 = .inl (.int, 1, (updV (fun _ => .int 0) 0 (.int 0))) := g_252_2
  have h_253_2 : f2 253 = .inl (.long, 1, (updV (fun _ => .long 0) 0 (.long 0))) := g_253_2
  have h_254_2 : f2 254 = .inl (.long, 1, (updV (fun _ => .long 0) 0 (.long 0))) := g_254_2
  refine am_aload_n d_Mod_run_46 rfl rfl ?_
  refine am_iload_n d_Mod_run_47 rfl rfl ?_
  have h_160_2 : f2 160 = .inr (14, [.ref 161, .ref 162, .int 0, .int 0, .int 0, .int 0, .int 0, .int 0, .int 0, .int (-1), .int 1, .long 0, .ref 163, .ref 170, .ref 171, .ref 172, .ref 173, .ref 174, .ref 175, .ref 176, .int 0, .ref 177, .ref 163, .ref 184, .int 0, .int 0, .ref 185, .int 0, .ref 186, .int 0, .ref 187, .ref 204, .ref 221, .ref 238, .int 0, .int 0, .ref 239, .ref 240, .ref 245, .ref 250, .ref 255, .int 0, .int 0, .int 0, .int 0, .int 0, .int 0, .ref 260, .ref 261, .ref 262, .ref 263, .ref 264, .int 0]) := (fr2 160 (by decide)).trans rfl
  refine am_put O f_Mod_443 d_Mod_run_48 (by exact h_160_2) (by decide) (by decide) (Nat.le_of_ble_eq_true rfl) (fun q hq => by cases hq; exact ⟨rfl, rfl, rfl⟩) ?_
  refine am_aload_n d_Mod_run_51 rfl rfl ?_
  refine am_iconst (v := 0) d_Mod_run_52 (by decide) ?_
  refine am_put O f_Mod_446 d_Mod_run_53 (by rfl) (by decide) (by decide) (Nat.le_of_ble_eq_true rfl) (fun q hq => by cases hq; exact ⟨rfl, rfl, rfl⟩) ?_
  refine am_aload_n d_Mod_run_56 rfl rfl ?_
  refine am_get O f_Mod_353 d_Mod_run_57 (by rfl) (by decide) (by decide) rfl ?_
  refine am_aload_n d_Mod_run_60 rfl rfl ?_
  refine am_get O f_Mod_349 d_Mod_run_61 (by rfl) (by decide) (by decide) rfl ?_
  have h_187_1 : f1 187 = .inr (13, [.ref 188, .ref 189, .ref 190, .ref 191, .ref 192, .ref 193, .ref 198, .ref 203, .int 0, .int 0, .int 0, .int 0]) := (fr1 187 (by decide)).trans h_187
  have h_187_2 : f2 187 = .inr (13, [.ref 188, .ref 189, .ref 190, .ref 191, .ref 192, .ref 193, .ref 198, .ref 203, .int 0, .int 0, .int 0, .int 0]) := (fr2 187 (by decide)).trans h_187_1
  have h_188_1 : f1 188 = .inl (.int, 100, (fun _ => .int 0)) := (fr1 188 (by decide)).trans h_188
  have h_188_2 : f2 188 = .inl (.int, 100, (fun _ => .int 0)) := (fr2 188 (by decide)).trans h_188_1
  have h_189_1 : f1 189 = .inl (.int, 100, (fun _ => .int 0)) := (fr1 189 (by decide)).trans h_189
  have h_189_2 : f2 189 = .inl (.int, 100, (fun _ => .int 0)) := (fr2 189 (by decide)).trans h_189_1
  have h_190_1 : f1 190 = .inl (.long, 800, (fun _ => .long 0)) := (fr1 190 (by decide)).trans h_190
  have h_190_2 : f2 190 = .inl (.long, 800, (fun _ => .long 0)) := (fr2 190 (by decide)).trans h_190_1
  have h_191_1 : f1 191 = .inl (.long, 12, (fun _ => .long 0)) := (fr1 191 (by decide)).trans h_191
  have h_191_2 : f2 191 = .inl (.long, 12, (fun _ => .long 0)) := (fr2 191 (by decide)).trans h_191_1
  have h_192_1 : f1 192 = .inl (.long, 10, (fun _ => .long 0)) := (fr1 192 (by decide)).trans h_192
  have h_192_2 : f2 192 = .inl (.long, 10, (fun _ => .long 0)) := (fr2 192 (by decide)).trans h_192_1
  have h_193_1 : f1 193 = .inr (11, [.ref 194, .ref 195, .ref 196, .ref 197]) := (fr1 193 (by decide)).trans h_193
  have h_193_2 : f2 193 = .inr (11, [.ref 194, .ref 195, .ref 196, .ref 197]) := (fr2 193 (by decide)).trans h_193_1
  have h_194_1 : f1 194 = .inl (.int, 2000, (fun _ => .int 0)) := (fr1 194 (by decide)).trans h_194
  have h_194_2 : f2 194 = .inl (.int, 2000, (fun _ => .int 0)) := (fr2 194 (by decide)).trans h_194_1
  have h_195_1 : f1 195 = .inl (.int, 2000, (fun _ => .int 0)) := (fr1 195 (by decide)).trans h_195
  have h_195_2 : f2 195 = .inl (.int, 2000, (fun _ => .int 0)) := (fr2 195 (by decide)).trans h_195_1
  have h_196_1 : f1 196 = .inl (.long, 2000, (fun _ => .long 0)) := (fr1 196 (by decide)).trans h_196
  have h_196_2 : f2 196 = .inl (.long, 2000, (fun _ => .long 0)) := (fr2 196 (by decide)).trans h_196_1
  have h_197_1 : f1 197 = .inl (.long, 2000, (fun _ => .long 0)) := (fr1 197 (by decide)).trans h_197
  have h_197_2 : f2 197 = .inl (.long, 2000, (fun _ => .long 0)) := (fr2 197 (by decide)).trans h_197_1
  have h_203_1 : f1 203 = .inl (.object "StowTongueModel$Code", 10, (fun _ => .null)) := (fr1 203 (by decide)).trans h_203
  have h_203_2 : f2 203 = .inl (.object "StowTongueModel$Code", 10, (fun _ => .null)) := (fr2 203 (by decide)).trans h_203_1
  have h_204_1 : f1 204 = .inr (13, [.ref 205, .ref 206, .ref 207, .ref 208, .ref 209, .ref 210, .ref 215, .ref 220, .int 0, .int 0, .int 0, .int 0]) := (fr1 204 (by decide)).trans h_204
  have h_204_2 : f2 204 = .inr (13, [.ref 205, .ref 206, .ref 207, .ref 208, .ref 209, .ref 210, .ref 215, .ref 220, .int 0, .int 0, .int 0, .int 0]) := (fr2 204 (by decide)).trans h_204_1
  have h_205_1 : f1 205 = .inl (.int, 100, (fun _ => .int 0)) := (fr1 205 (by decide)).trans h_205
  have h_205_2 : f2 205 = .inl (.int, 100, (fun _ => .int 0)) := (fr2 205 (by decide)).trans h_205_1
  have h_206_1 : f1 206 = .inl (.int, 100, (fun _ => .int 0)) := (fr1 206 (by decide)).trans h_206
  have h_206_2 : f2 206 = .inl (.int, 100, (fun _ => .int 0)) := (fr2 206 (by decide)).trans h_206_1
  have h_207_1 : f1 207 = .inl (.long, 800, (fun _ => .long 0)) := (fr1 207 (by decide)).trans h_207
  have h_207_2 : f2 207 = .inl (.long, 800, (fun _ => .long 0)) := (fr2 207 (by decide)).trans h_207_1
  have h_208_1 : f1 208 = .inl (.long, 12, (fun _ => .long 0)) := (fr1 208 (by decide)).trans h_208
  have h_208_2 : f2 208 = .inl (.long, 12, (fun _ => .long 0)) := (fr2 208 (by decide)).trans h_208_1
  have h_209_1 : f1 209 = .inl (.long, 10, (fun _ => .long 0)) := (fr1 209 (by decide)).trans h_209
  have h_209_2 : f2 209 = .inl (.long, 10, (fun _ => .long 0)) := (fr2 209 (by decide)).trans h_209_1
  have h_210_1 : f1 210 = .inr (11, [.ref 211, .ref 212, .ref 213, .ref 214]) := (fr1 210 (by decide)).trans h_210
  have h_210_2 : f2 210 = .inr (11, [.ref 211, .ref 212, .ref 213, .ref 214]) := (fr2 210 (by decide)).trans h_210_1
  have h_211_1 : f1 211 = .inl (.int, 2000, (fun _ => .int 0)) := (fr1 211 (by decide)).trans h_211
  have h_211_2 : f2 211 = .inl (.int, 2000, (fun _ => .int 0)) := (fr2 211 (by decide)).trans h_211_1
  have h_212_1 : f1 212 = .inl (.int, 2000, (fun _ => .int 0)) := (fr1 212 (by decide)).trans h_212
  have h_212_2 : f2 212 = .inl (.int, 2000, (fun _ => .int 0)) := (fr2 212 (by decide)).trans h_212_1
  have h_213_1 : f1 213 = .inl (.long, 2000, (fun _ => .long 0)) := (fr1 213 (by decide)).trans h_213
  have h_213_2 : f2 213 = .inl (.long, 2000, (fun _ => .long 0)) := (fr2 213 (by decide)).trans h_213_1
  have h_214_1 : f1 214 = .inl (.long, 2000, (fun _ => .long 0)) := (fr1 214 (by decide)).trans h_214
  have h_214_2 : f2 214 = .inl (.long, 2000, (fun _ => .long 0)) := (fr2 214 (by decide)).trans h_214_1
  have h_220_1 : f1 220 = .inl (.object "StowTongueModel$Code", 10, (fun _ => .null)) := (fr1 220 (by decide)).trans h_220
  have h_220_2 : f2 220 = .inl (.object "StowTongueModel$Code", 10, (fun _ => .null)) := (fr2 220 (by decide)).trans h_220_1
  refine am_callV O (t135_State_copy O (by exact h_187_2) (by exact h_188_2) (by exact h_189_2) (by exact h_190_2) (by exact h_191_2) (by exact h_192_2) (by exact h_193_2) (by exact h_194_2) (by exact h_195_2) (by exact h_196_2) (by exact h_197_2) (by exact h_203_2) (by exact h_204_2) (by exact h_205_2) (by exact h_206_2) (by exact h_207_2) (by exact h_208_2) (by exact h_209_2) (by exact h_210_2) (by exact h_211_2) (by exact h_212_2) (by exact h_213_2) (by exact h_214_2) (by exact h_220_2)) rfl (by exact h_204_2) (by decide) (by decide) rfl rfl l_Mod_448 ⟨w_1987, w_1988⟩ rfl (Nat.le_of_ble_eq_true rfl) d_Mod_run_64 (by omega) (by omega) (by omega) (fun v h' hp => ?_)
  obtain ⟨n3, f3⟩ := h'
  obtain ⟨rfl, e3, g_205_3, g_206_3, g_207_3, g_211_3, g_212_3, g_213_3, g_214_3, g_208_3, g_209_3, g_220_3, g_204_3, fr3⟩ := hp
  obtain rfl : n3 = 1330 := e3
  have fr3 := fun (x : Nat) (hx : x ∉ ([205, 206, 207, 211, 212, 213, 214, 208, 209, 220, 204] : List Nat)) => (show f3 x = _ from fr3 x hx)
  have h_205_3 : f3 205 = .inl (.int, 100, (va_cpy (fun _ => .int 0) (fun _ => .int 0) 0 0 100)) := g_205_3
  have h_206_3 : f3 206 = .inl (.int, 100, (va_cpy (fun _ => .int 0) (fun _ => .int 0) 0 0 100)) := g_206_3
  have h_207_3 : f3 207 = .inl (.long, 800, (va_cpy (fun _ => .long 0) (fun _ => .long 0) 0 0 800)) := g_207_3
  have h_211_3 : f3 211 = .inl (.int, 2000, (va_cpy (fun _ => .int 0) (fun _ => .int 0) 0 0 2000)) := g_211_3
  have h_212_3 : f3 212 = .inl (.int, 2000, (va_cpy (fun _ => .int 0) (fun _ => .int 0) 0 0 2000)) := g_212_3
  have h_213_3 : f3 213 = .inl (.long, 2000, (va_cpy (fun _ => .long 0) (fun _ => .long 0) 0 0 2000)) := g_213_3
  have h_214_3 : f3 214 = .inl (.long, 2000, (va_cpy (fun _ => .long 0) (fun _ => .long 0) 0 0 2000)) := g_214_3
  have h_208_3 : f3 208 = .inl (.long, 12, (va_cpy (fun _ => .long 0) (fun _ => .long 0) 0 0 12)) := g_208_3
  have h_209_3 : f3 209 = .inl (.long, 10, (va_cpy (fun _ => .long 0) (fun _ => .long 0) 0 0 10)) := g_209_3
  have h_220_3 : f3 220 = .inl (.object "StowTongueModel$Code", 10, (va_cpy (fun _ => .null) (fun _ => .null) 0 0 10)) := g_220_3
  have h_204_3 : f3 204 = .inr (13, [.ref 205, .ref 206, .ref 207, .ref 208, .ref 209, .ref 210, .ref 215, .ref 220, .int 0, .int 0, .int 0, .int 0]) := g_204_3
  refine am_aload_n d_Mod_run_67 rfl rfl ?_
  have h_160_3 : f3 160 = .inr (14, [.ref 161, .ref 162, .int 0, .int 0, .int 0, .int 0, .int 0, .int 0, .int 0, .int (-1), .int 1, .long 0, .ref 163, .ref 170, .ref 171, .ref 172, .ref 173, .ref 174, .ref 175, .ref 176, .int 0, .ref 177, .ref 163, .ref 184, .int 0, .int 0, .ref 185, .int 0, .ref 186, .int 0, .ref 187, .ref 204, .ref 221, .ref 238, .int 0, .int 0, .ref 239, .ref 240, .ref 245, .ref 250, .ref 255, .int 0, .int 0, .int x, .int 0, .int 0, .int 0, .ref 260, .ref 261, .ref 262, .ref 263, .ref 264, .int 0]) := (fr3 160 (by decide)).trans rfl
  refine am_callV O (t136_Mod_tellFunctions O (by exact h_160_3)) rfl (by exact h_160_3) (by decide) (by decide) rfl rfl l_Mod_451 ⟨w_1998, w_114⟩ rfl (Nat.le_of_ble_eq_true rfl) d_Mod_run_68 (by omega) (by omega) (by omega) (fun v h' hp => ?_)
  obtain ⟨rfl, rfl⟩ := hp
  refine am_istore_n d_Mod_run_71 rfl (by decide) ?_
  refine am_iload_n d_Mod_run_72 rfl rfl ?_
  refine am_if_ne (tgt := 81) d_Mod_run_73 (by decide) (fun c => absurd (by decide) c) (fun _ => ?_)
  refine am_aload_n d_Mod_run_76 rfl rfl ?_
  have h_163_2 : f2 163 = .inr (12, [.ref 164, .ref 165, .int 1, .int 0, .int 0, .int 0, .int 0, .int 0, .int 0, .int 0]) := (fr2 163 (by decide)).trans h_163_1
  have h_163_3 : f3 163 = .inr (12, [.ref 164, .ref 165, .int 1, .int 0, .int 0, .int 0, .int 0, .int 0, .int 0, .int 0]) := (fr3 163 (by decide)).trans h_163_2
  have h_164_2 : f2 164 = .inl (.int, 6000, (updV (fun _ => .int 0) 0 (.int 28))) := (fr2 164 (by decide)).trans h_164_1
  have h_164_3 : f3 164 = .inl (.int, 6000, (updV (fun _ => .int 0) 0 (.int 28))) := (fr3 164 (by decide)).trans h_164_2
  have h_240_1 : f1 240 = .inr (11, [.ref 241, .ref 242, .ref 243, .ref 244]) := (fr1 240 (by decide)).trans h_240
  have h_240_2 : f2 240 = .inr (11, [.ref 241, .ref 242, .ref 243, .ref 244]) := (fr2 240 (by decide)).trans h_240_1
  have h_240_3 : f3 240 = .inr (11, [.ref 241, .ref 242, .ref 243, .ref 244]) := (fr3 240 (by decide)).trans h_240_2
  have h_241_1 : f1 241 = .inl (.int, 8000, (fun _ => .int 0)) := (fr1 241 (by decide)).trans h_241
  have h_241_2 : f2 241 = .inl (.int, 8000, (fun _ => .int 0)) := (fr2 241 (by decide)).trans h_241_1
  have h_241_3 : f3 241 = .inl (.int, 8000, (fun _ => .int 0)) := (fr3 241 (by decide)).trans h_241_2
  have h_242_1 : f1 242 = .inl (.int, 8000, (fun _ => .int 0)) := (fr1 242 (by decide)).trans h_242
  have h_242_2 : f2 242 = .inl (.int, 8000, (fun _ => .int 0)) := (fr2 242 (by decide)).trans h_242_1
  have h_242_3 : f3 242 = .inl (.int, 8000, (fun _ => .int 0)) := (fr3 242 (by decide)).trans h_242_2
  have h_243_1 : f1 243 = .inl (.long, 8000, (fun _ => .long 0)) := (fr1 243 (by decide)).trans h_243
  have h_243_2 : f2 243 = .inl (.long, 8000, (fun _ => .long 0)) := (fr2 243 (by decide)).trans h_243_1
  have h_243_3 : f3 243 = .inl (.long, 8000, (fun _ => .long 0)) := (fr3 243 (by decide)).trans h_243_2
  have h_244_1 : f1 244 = .inl (.long, 8000, (fun _ => .long 0)) := (fr1 244 (by decide)).trans h_244
  have h_244_2 : f2 244 = .inl (.long, 8000, (fun _ => .long 0)) := (fr2 244 (by decide)).trans h_244_1
  have h_244_3 : f3 244 = .inl (.long, 8000, (fun _ => .long 0)) := (fr3 244 (by decide)).trans h_244_2
  have h_250_2 : f2 250 = .inr (11, [.ref 251, .ref 252, .ref 253, .ref 254]) := (fr2 250 (by decide)).trans h_250_1
  have h_250_3 : f3 250 = .inr (11, [.ref 251, .ref 252, .ref 253, .ref 254]) := (fr3 250 (by decide)).trans h_250_2
  have h_251_3 : f3 251 = .inl (.int, 1, (updV (fun _ => .int 0) 0 (.int 0))) := (fr3 251 (by decide)).trans h_251_2
  have h_252_3 : f3 252 = .inl (.int, 1, (updV (fun _ => .int 0) 0 (.int 0))) := (fr3 252 (by decide)).trans h_252_2
  have h_253_3 : f3 253 = .inl (.long, 1, (updV (fun _ => .long 0) 0 (.long 0))) := (fr3 253 (by decide)).trans h_253_2
  have h_254_3 : f3 254 = .inl (.long, 1, (updV (fun _ => .long 0) 0 (.long 0))) := (fr3 254 (by decide)).trans h_254_2
  have h_255_1 : f1 255 = .inr (11, [.ref 256, .ref 257, .ref 258, .ref 259]) := (fr1 255 (by decide)).trans h_255
  have h_255_2 : f2 255 = .inr (11, [.ref 256, .ref 257, .ref 258, .ref 259]) := (fr2 255 (by decide)).trans h_255_1
  have h_255_3 : f3 255 = .inr (11, [.ref 256, .ref 257, .ref 258, .ref 259]) := (fr3 255 (by decide)).trans h_255_2
  have h_256_1 : f1 256 = .inl (.int, 4, (fun _ => .int 0)) := (fr1 256 (by decide)).trans h_256
  have h_256_2 : f2 256 = .inl (.int, 4, (fun _ => .int 0)) := (fr2 256 (by decide)).trans h_256_1
  have h_256_3 : f3 256 = .inl (.int, 4, (fun _ => .int 0)) := (fr3 256 (by decide)).trans h_256_2
  have h_257_1 : f1 257 = .inl (.int, 4, (fun _ => .int 0)) := (fr1 257 (by decide)).trans h_257
  have h_257_2 : f2 257 = .inl (.int, 4, (fun _ => .int 0)) := (fr2 257 (by decide)).trans h_257_1
  have h_257_3 : f3 257 = .inl (.int, 4, (fun _ => .int 0)) := (fr3 257 (by decide)).trans h_257_2
  have h_258_1 : f1 258 = .inl (.long, 4, (fun _ => .long 0)) := (fr1 258 (by decide)).trans h_258
  have h_258_2 : f2 258 = .inl (.long, 4, (fun _ => .long 0)) := (fr2 258 (by decide)).trans h_258_1
  have h_258_3 : f3 258 = .inl (.long, 4, (fun _ => .long 0)) := (fr3 258 (by decide)).trans h_258_2
  have h_259_1 : f1 259 = .inl (.long, 4, (fun _ => .long 0)) := (fr1 259 (by decide)).trans h_259
  have h_259_2 : f2 259 = .inl (.long, 4, (fun _ => .long 0)) := (fr2 259 (by decide)).trans h_259_1
  have h_259_3 : f3 259 = .inl (.long, 4, (fun _ => .long 0)) := (fr3 259 (by decide)).trans h_259_2
  have h_260_1 : f1 260 = .inl (.object "StowTongueModel$Code", 9, (fun _ => .null)) := (fr1 260 (by decide)).trans h_260
  have h_260_2 : f2 260 = .inl (.object "StowTongueModel$Code", 9, (fun _ => .null)) := (fr2 260 (by decide)).trans h_260_1
  have h_260_3 : f3 260 = .inl (.object "StowTongueModel$Code", 9, (fun _ => .null)) := (fr3 260 (by decide)).trans h_260_2
  have h_261_1 : f1 261 = .inl (.int, 9, (fun _ => .int 0)) := (fr1 261 (by decide)).trans h_261
  have h_261_2 : f2 261 = .inl (.int, 9, (fun _ => .int 0)) := (fr2 261 (by decide)).trans h_261_1
  have h_261_3 : f3 261 = .inl (.int, 9, (fun _ => .int 0)) := (fr3 261 (by decide)).trans h_261_2
  have h_262_1 : f1 262 = .inl (.int, 9, (fun _ => .int 0)) := (fr1 262 (by decide)).trans h_262
  have h_262_2 : f2 262 = .inl (.int, 9, (fun _ => .int 0)) := (fr2 262 (by decide)).trans h_262_1
  have h_262_3 : f3 262 = .inl (.int, 9, (fun _ => .int 0)) := (fr3 262 (by decide)).trans h_262_2
  refine am_callV O (t147_Mod_go_ O (by exact h_160_3) (by exact h_163_3) (by exact h_164_3) (by exact h_240_3) (by exact h_241_3) (by exact h_242_3) (by exact h_243_3) (by exact h_244_3) (by exact h_250_3) (by exact h_251_3) (by exact h_252_3) (by exact h_253_3) (by exact h_254_3) (by exact h_255_3) (by exact h_256_3) (by exact h_257_3) (by exact h_258_3) (by exact h_259_3) (by exact h_260_3) (by exact h_261_3) (by exact h_262_3)) rfl (by exact h_160_3) (by decide) (by decide) rfl rfl l_Mod_454 ⟨w_2023, w_117⟩ rfl (Nat.le_of_ble_eq_true rfl) d_Mod_run_77 (by omega) (by omega) (by omega) (fun v h' hp => ?_)
  obtain ⟨n4, f4⟩ := h'
  obtain ⟨rfl, e4, g_160_4, g_260_4, g_261_4, g_262_4, g_241_4, g_242_4, g_243_4, g_244_4, g_256_4, g_257_4, g_258_4, g_259_4, g_251_4, g_252_4, g_253_4, g_254_4, fr4⟩ := hp
  obtain rfl : n4 = 1330 := e4
  have fr4 := fun (x : Nat) (hx : x ∉ ([160, 260, 261, 262, 241, 242, 243, 244, 256, 257, 258, 259, 251, 252, 253, 254] : List Nat)) => (show f4 x = _ from fr4 x hx)
  have h_160_4 : f4 160 = .inr (14, [.ref 161, .ref 162, .int 0, .int 0, .int 0, .int 0, .int 0, .int 0, .int 0, .int (-1), .int 1, .long 0, .ref 163, .ref 170, .ref 171, .ref 172, .ref 173, .ref 174, .ref 175, .ref 176, .int 0, .ref 177, .ref 163, .ref 184, .int 0, .int 0, .ref 185, .int 0, .ref 186, .int 0, .ref 187, .ref 204, .ref 221, .ref 238, .int 0, .int 0, .ref 239, .ref 240, .ref 245, .ref 250, .ref 255, .int 0, .int 0, .int x, .int 0, .int 0, .int 1, .ref 260, .ref 261, .ref 262, .ref 263, .ref 264, .int 0]) := g_160_4
  have h_260_4 : f4 260 = .inl (.object "StowTongueModel$Code", 9, (updV (fun _ => .null) 0 (.ref 163))) := g_260_4
  have h_261_4 : f4 261 = .inl (.int, 9, (updV (fun _ => .int 0) 0 (.int 0))) := g_261_4
  have h_262_4 : f4 262 = .inl (.int, 9, (updV (fun _ => .int 0) 0 (.int 0))) := g_262_4
  have h_241_4 : f4 241 = .inl (.int, 8000, (updV (fun _ => .int 0) 0 (.int 0))) := g_241_4
  have h_242_4 : f4 242 = .inl (.int, 8000, (updV (fun _ => .int 0) 0 (.int 0))) := g_242_4
  have h_243_4 : f4 243 = .inl (.long, 8000, (updV (fun _ => .long 0) 0 (.long 0))) := g_243_4
  have h_244_4 : f4 244 = .inl (.long, 8000, (updV (fun _ => .long 0) 0 (.long 0))) := g_244_4
  have h_256_4 : f4 256 = .inl (.int, 4, (updV (fun _ => .int 0) 0 (.int 0))) := g_256_4
  have h_257_4 : f4 257 = .inl (.int, 4, (updV (fun _ => .int 0) 0 (.int 0))) := g_257_4
  have h_258_4 : f4 258 = .inl (.long, 4, (updV (fun _ => .long 0) 0 (.long 0))) := g_258_4
  have h_259_4 : f4 259 = .inl (.long, 4, (updV (fun _ => .long 0) 0 (.long 0))) := g_259_4
  have h_251_4 : f4 251 = .inl (.int, 1, (updV (updV (fun _ => .int 0) 0 (.int 0)) 0 (.int 0))) := g_251_4
  have h_252_4 : f4 252 = .inl (.int, 1, (updV (updV (fun _ => .int 0) 0 (.int 0)) 0 (.int 0))) := g_252_4
  have h_253_4 : f4 253 = .inl (.long, 1, (updV (updV (fun _ => .long 0) 0 (.long 0)) 0 (.long 0))) := g_253_4
  have h_254_4 : f4 254 = .inl (.long, 1, (updV (updV (fun _ => .long 0) 0 (.long 0)) 0 (.long 0))) := g_254_4
  refine am_istore_n d_Mod_run_80 rfl (by decide) ?_
  refine am_iload_n d_Mod_run_81 rfl rfl ?_
  refine am_if_eq (tgt := 99) d_Mod_run_82 (by decide) (fun _ => ?_) (fun c => absurd (by decide) c)
  refine am_bipush (v := 8) d_Mod_run_99 (by decide) ?_
  refine am_istore_n d_Mod_run_101 rfl (by decide) ?_
  refine am_iconst (v := 0) d_Mod_run_102 (by decide) ?_
  refine am_istore d_Mod_run_103 (by decide) ?_
  have h_204_4 : f4 204 = .inr (13, [.ref 205, .ref 206, .ref 207, .ref 208, .ref 209, .ref 210, .ref 215, .ref 220, .int 0, .int 0, .int 0, .int 0]) := (fr4 204 (by decide)).trans h_204_3
  have h_205_4 : f4 205 = .inl (.int, 100, (va_cpy (fun _ => .int 0) (fun _ => .int 0) 0 0 100)) := (fr4 205 (by decide)).trans h_205_3
  refine am_locs (lv' := [(0, .ref 160), (1, .int x), (2, .int 0), (3, .int 8), (4, .int 0)]) rfl ?_
  refine mr_loop O (by exact h_160_4) (by rfl) (by exact h_204_4) (by exact h_205_4) (by decide) (by decide) (by decide) (by decide) (by decide) (by decide) (fun i hi => by simp [va_cpy, hi]) ?_
  refine am_iconst (v := 0) d_Mod_run_163 (by decide) ?_
  refine am_istore d_Mod_run_164 (by decide) ?_
  refine am_iload d_Mod_run_166 rfl ?_
  refine am_aload_n d_Mod_run_168 rfl rfl ?_
  refine am_get O f_Mod_353 d_Mod_run_169 (by exact h_160_4) (by decide) (by decide) rfl ?_
  refine am_get O f_Mod_463 d_Mod_run_172 (by exact h_204_4) (by decide) (by decide) rfl ?_
  refine am_icmp_ge (tgt := 235) d_Mod_run_175 (by decide) (fun _ => ?_) (fun c => absurd (by decide) c)
  refine am_iconst (v := 0) d_Mod_run_235 (by decide) ?_
  refine am_istore d_Mod_run_236 (by decide) ?_
  refine am_iload d_Mod_run_238 rfl ?_
  refine am_aload_n d_Mod_run_240 rfl rfl ?_
  refine am_get O f_Mod_349 d_Mod_run_241 (by exact h_160_4) (by decide) (by decide) rfl ?_
  have h_187_3 : f3 187 = .inr (13, [.ref 188, .ref 189, .ref 190, .ref 191, .ref 192, .ref 193, .ref 198, .ref 203, .int 0, .int 0, .int 0, .int 0]) := (fr3 187 (by decide)).trans h_187_2
  have h_187_4 : f4 187 = .inr (13, [.ref 188, .ref 189, .ref 190, .ref 191, .ref 192, .ref 193, .ref 198, .ref 203, .int 0, .int 0, .int 0, .int 0]) := (fr4 187 (by decide)).trans h_187_3
  refine am_get O f_Mod_463 d_Mod_run_244 (by exact h_187_4) (by decide) (by decide) rfl ?_
  refine am_icmp_ge (tgt := 279) d_Mod_run_247 (by decide) (fun _ => ?_) (fun c => absurd (by decide) c)
  refine am_iconst (v := 0) d_Mod_run_279 (by decide) ?_
  refine am_istore d_Mod_run_280 (by decide) ?_
  refine am_iload d_Mod_run_282 rfl ?_
  refine am_aload_n d_Mod_run_284 rfl rfl ?_
  refine am_get O f_Mod_137 d_Mod_run_285 (by exact h_160_4) (by decide) (by decide) rfl ?_
  refine am_icmp_ge (tgt := 309) d_Mod_run_288 (by decide) (fun _ => ?_) (fun c => absurd (by decide) c)
  refine am_aload_n d_Mod_run_309 rfl rfl ?_
  refine am_get O f_Mod_349 d_Mod_run_310 (by exact h_160_4) (by decide) (by decide) rfl ?_
  refine am_astore d_Mod_run_313 (by decide) ?_
  refine am_aload_n d_Mod_run_315 rfl rfl ?_
  refine am_aload_n d_Mod_run_316 rfl rfl ?_
  refine am_get O f_Mod_353 d_Mod_run_317 (by exact h_160_4) (by decide) (by decide) rfl ?_
  refine am_put O f_Mod_349 d_Mod_run_320 (by exact h_160_4) (by decide) (by decide) (Nat.le_of_ble_eq_true rfl) (fun q hq => by cases hq; exact ⟨rfl, rfl, rfl⟩) ?_
  refine am_aload_n d_Mod_run_323 rfl rfl ?_
  refine am_aload d_Mod_run_324 rfl ?_
  refine am_put O f_Mod_353 d_Mod_run_326 (by rfl) (by decide) (by decide) (Nat.le_of_ble_eq_true rfl) (fun q hq => by cases hq; exact ⟨rfl, rfl, rfl⟩) ?_
  refine am_aload_n d_Mod_run_329 rfl rfl ?_
  refine am_iload_n d_Mod_run_330 rfl rfl ?_
  have h_206_4 : f4 206 = .inl (.int, 100, (va_cpy (fun _ => .int 0) (fun _ => .int 0) 0 0 100)) := (fr4 206 (by decide)).trans h_206_3
  have h_207_4 : f4 207 = .inl (.long, 800, (va_cpy (fun _ => .long 0) (fun _ => .long 0) 0 0 800)) := (fr4 207 (by decide)).trans h_207_3
  have h_208_4 : f4 208 = .inl (.long, 12, (va_cpy (fun _ => .long 0) (fun _ => .long 0) 0 0 12)) := (fr4 208 (by decide)).trans h_208_3
  have h_209_4 : f4 209 = .inl (.long, 10, (va_cpy (fun _ => .long 0) (fun _ => .long 0) 0 0 10)) := (fr4 209 (by decide)).trans h_209_3
  have h_210_3 : f3 210 = .inr (11, [.ref 211, .ref 212, .ref 213, .ref 214]) := (fr3 210 (by decide)).trans h_210_2
  have h_210_4 : f4 210 = .inr (11, [.ref 211, .ref 212, .ref 213, .ref 214]) := (fr4 210 (by decide)).trans h_210_3
  have h_211_4 : f4 211 = .inl (.int, 2000, (va_cpy (fun _ => .int 0) (fun _ => .int 0) 0 0 2000)) := (fr4 211 (by decide)).trans h_211_3
  have h_212_4 : f4 212 = .inl (.int, 2000, (va_cpy (fun _ => .int 0) (fun _ => .int 0) 0 0 2000)) := (fr4 212 (by decide)).trans h_212_3
  have h_213_4 : f4 213 = .inl (.long, 2000, (va_cpy (fun _ => .long 0) (fun _ => .long 0) 0 0 2000)) := (fr4 213 (by decide)).trans h_213_3
  have h_214_4 : f4 214 = .inl (.long, 2000, (va_cpy (fun _ => .long 0) (fun _ => .long 0) 0 0 2000)) := (fr4 214 (by decide)).trans h_214_3
  have h_220_4 : f4 220 = .inl (.object "StowTongueModel$Code", 10, (va_cpy (fun _ => .null) (fun _ => .null) 0 0 10)) := (fr4 220 (by decide)).trans h_220_3
  have h_238_1 : f1 238 = .inl (.object "StowTongueModel$State", 8, (updV (updV (updV (updV (updV (updV (updV (updV (fun _ => .null) 0 (.ref 265)) 1 (.ref 282)) 2 (.ref 299)) 3 (.ref 316)) 4 (.ref 333)) 5 (.ref 350)) 6 (.ref 367)) 7 (.ref 384))) := (fr1 238 (by decide)).trans h_238
  have h_238_2 : f2 238 = .inl (.object "StowTongueModel$State", 8, (updV (updV (updV (updV (updV (updV (updV (updV (fun _ => .null) 0 (.ref 265)) 1 (.ref 282)) 2 (.ref 299)) 3 (.ref 316)) 4 (.ref 333)) 5 (.ref 350)) 6 (.ref 367)) 7 (.ref 384))) := (fr2 238 (by decide)).trans h_238_1
  have h_238_3 : f3 238 = .inl (.object "StowTongueModel$State", 8, (updV (updV (updV (updV (updV (updV (updV (updV (fun _ => .null) 0 (.ref 265)) 1 (.ref 282)) 2 (.ref 299)) 3 (.ref 316)) 4 (.ref 333)) 5 (.ref 350)) 6 (.ref 367)) 7 (.ref 384))) := (fr3 238 (by decide)).trans h_238_2
  have h_238_4 : f4 238 = .inl (.object "StowTongueModel$State", 8, (updV (updV (updV (updV (updV (updV (updV (updV (fun _ => .null) 0 (.ref 265)) 1 (.ref 282)) 2 (.ref 299)) 3 (.ref 316)) 4 (.ref 333)) 5 (.ref 350)) 6 (.ref 367)) 7 (.ref 384))) := (fr4 238 (by decide)).trans h_238_3
  have h_265_1 : f1 265 = .inr (13, [.ref 266, .ref 267, .ref 268, .ref 269, .ref 270, .ref 271, .ref 276, .ref 281, .int 0, .int 0, .int 0, .int 0]) := (fr1 265 (by decide)).trans h_265
  have h_265_2 : f2 265 = .inr (13, [.ref 266, .ref 267, .ref 268, .ref 269, .ref 270, .ref 271, .ref 276, .ref 281, .int 0, .int 0, .int 0, .int 0]) := (fr2 265 (by decide)).trans h_265_1
  have h_265_3 : f3 265 = .inr (13, [.ref 266, .ref 267, .ref 268, .ref 269, .ref 270, .ref 271, .ref 276, .ref 281, .int 0, .int 0, .int 0, .int 0]) := (fr3 265 (by decide)).trans h_265_2
  have h_265_4 : f4 265 = .inr (13, [.ref 266, .ref 267, .ref 268, .ref 269, .ref 270, .ref 271, .ref 276, .ref 281, .int 0, .int 0, .int 0, .int 0]) := (fr4 265 (by decide)).trans h_265_3
  have h_266_1 : f1 266 = .inl (.int, 100, (fun _ => .int 0)) := (fr1 266 (by decide)).trans h_266
  have h_266_2 : f2 266 = .inl (.int, 100, (fun _ => .int 0)) := (fr2 266 (by decide)).trans h_266_1
  have h_266_3 : f3 266 = .inl (.int, 100, (fun _ => .int 0)) := (fr3 266 (by decide)).trans h_266_2
  have h_266_4 : f4 266 = .inl (.int, 100, (fun _ => .int 0)) := (fr4 266 (by decide)).trans h_266_3
  have h_267_1 : f1 267 = .inl (.int, 100, (fun _ => .int 0)) := (fr1 267 (by decide)).trans h_267
  have h_267_2 : f2 267 = .inl (.int, 100, (fun _ => .int 0)) := (fr2 267 (by decide)).trans h_267_1
  have h_267_3 : f3 267 = .inl (.int, 100, (fun _ => .int 0)) := (fr3 267 (by decide)).trans h_267_2
  have h_267_4 : f4 267 = .inl (.int, 100, (fun _ => .int 0)) := (fr4 267 (by decide)).trans h_267_3
  have h_268_1 : f1 268 = .inl (.long, 800, (fun _ => .long 0)) := (fr1 268 (by decide)).trans h_268
  have h_268_2 : f2 268 = .inl (.long, 800, (fun _ => .long 0)) := (fr2 268 (by decide)).trans h_268_1
  have h_268_3 : f3 268 = .inl (.long, 800, (fun _ => .long 0)) := (fr3 268 (by decide)).trans h_268_2
  have h_268_4 : f4 268 = .inl (.long, 800, (fun _ => .long 0)) := (fr4 268 (by decide)).trans h_268_3
  have h_269_1 : f1 269 = .inl (.long, 12, (fun _ => .long 0)) := (fr1 269 (by decide)).trans h_269
  have h_269_2 : f2 269 = .inl (.long, 12, (fun _ => .long 0)) := (fr2 269 (by decide)).trans h_269_1
  have h_269_3 : f3 269 = .inl (.long, 12, (fun _ => .long 0)) := (fr3 269 (by decide)).trans h_269_2
  have h_269_4 : f4 269 = .inl (.long, 12, (fun _ => .long 0)) := (fr4 269 (by decide)).trans h_269_3
  have h_270_1 : f1 270 = .inl (.long, 10, (fun _ => .long 0)) := (fr1 270 (by decide)).trans h_270
  have h_270_2 : f2 270 = .inl (.long, 10, (fun _ => .long 0)) := (fr2 270 (by decide)).trans h_270_1
  have h_270_3 : f3 270 = .inl (.long, 10, (fun _ => .long 0)) := (fr3 270 (by decide)).trans h_270_2
  have h_270_4 : f4 270 = .inl (.long, 10, (fun _ => .long 0)) := (fr4 270 (by decide)).trans h_270_3
  have h_271_1 : f1 271 = .inr (11, [.ref 272, .ref 273, .ref 274, .ref 275]) := (fr1 271 (by decide)).trans h_271
  have h_271_2 : f2 271 = .inr (11, [.ref 272, .ref 273, .ref 274, .ref 275]) := (fr2 271 (by decide)).trans h_271_1
  have h_271_3 : f3 271 = .inr (11, [.ref 272, .ref 273, .ref 274, .ref 275]) := (fr3 271 (by decide)).trans h_271_2
  have h_271_4 : f4 271 = .inr (11, [.ref 272, .ref 273, .ref 274, .ref 275]) := (fr4 271 (by decide)).trans h_271_3
  have h_272_1 : f1 272 = .inl (.int, 2000, (fun _ => .int 0)) := (fr1 272 (by decide)).trans h_272
  have h_272_2 : f2 272 = .inl (.int, 2000, (fun _ => .int 0)) := (fr2 272 (by decide)).trans h_272_1
  have h_272_3 : f3 272 = .inl (.int, 2000, (fun _ => .int 0)) := (fr3 272 (by decide)).trans h_272_2
  have h_272_4 : f4 272 = .inl (.int, 2000, (fun _ => .int 0)) := (fr4 272 (by decide)).trans h_272_3
  have h_273_1 : f1 273 = .inl (.int, 2000, (fun _ => .int 0)) := (fr1 273 (by decide)).trans h_273
  have h_273_2 : f2 273 = .inl (.int, 2000, (fun _ => .int 0)) := (fr2 273 (by decide)).trans h_273_1
  have h_273_3 : f3 273 = .inl (.int, 2000, (fun _ => .int 0)) := (fr3 273 (by decide)).trans h_273_2
  have h_273_4 : f4 273 = .inl (.int, 2000, (fun _ => .int 0)) := (fr4 273 (by decide)).trans h_273_3
  have h_274_1 : f1 274 = .inl (.long, 2000, (fun _ => .long 0)) := (fr1 274 (by decide)).trans h_274
  have h_274_2 : f2 274 = .inl (.long, 2000, (fun _ => .long 0)) := (fr2 274 (by decide)).trans h_274_1
  have h_274_3 : f3 274 = .inl (.long, 2000, (fun _ => .long 0)) := (fr3 274 (by decide)).trans h_274_2
  have h_274_4 : f4 274 = .inl (.long, 2000, (fun _ => .long 0)) := (fr4 274 (by decide)).trans h_274_3
  have h_275_1 : f1 275 = .inl (.long, 2000, (fun _ => .long 0)) := (fr1 275 (by decide)).trans h_275
  have h_275_2 : f2 275 = .inl (.long, 2000, (fun _ => .long 0)) := (fr2 275 (by decide)).trans h_275_1
  have h_275_3 : f3 275 = .inl (.long, 2000, (fun _ => .long 0)) := (fr3 275 (by decide)).trans h_275_2
  have h_275_4 : f4 275 = .inl (.long, 2000, (fun _ => .long 0)) := (fr4 275 (by decide)).trans h_275_3
  have h_281_1 : f1 281 = .inl (.object "StowTongueModel$Code", 10, (fun _ => .null)) := (fr1 281 (by decide)).trans h_281
  have h_281_2 : f2 281 = .inl (.object "StowTongueModel$Code", 10, (fun _ => .null)) := (fr2 281 (by decide)).trans h_281_1
  have h_281_3 : f3 281 = .inl (.object "StowTongueModel$Code", 10, (fun _ => .null)) := (fr3 281 (by decide)).trans h_281_2
  have h_281_4 : f4 281 = .inl (.object "StowTongueModel$Code", 10, (fun _ => .null)) := (fr4 281 (by decide)).trans h_281_3
  refine am_callV O (t149_Mod_wait O (by rfl) (by exact h_204_4) (by exact h_205_4) (by exact h_206_4) (by exact h_207_4) (by exact h_208_4) (by exact h_209_4) (by exact h_210_4) (by exact h_211_4) (by exact h_212_4) (by exact h_213_4) (by exact h_214_4) (by exact h_220_4) (by exact h_238_4) (by exact h_265_4) (by exact h_266_4) (by exact h_267_4) (by exact h_268_4) (by exact h_269_4) (by exact h_270_4) (by exact h_271_4) (by exact h_272_4) (by exact h_273_4) (by exact h_274_4) (by exact h_275_4) (by exact h_281_4)) rfl (by rfl) (by decide) (by decide) rfl rfl l_Mod_477 ⟨w_2140, w_140⟩ rfl (Nat.le_of_ble_eq_true rfl) d_Mod_run_331 (by omega) (by omega) (by omega) (fun v h' hp => ?_)
  obtain ⟨n5, f5⟩ := h'
  obtain ⟨rfl, e5, g_160_5, g_266_5, g_267_5, g_268_5, g_272_5, g_273_5, g_274_5, g_275_5, g_269_5, g_270_5, g_281_5, g_265_5, fr5⟩ := hp
  obtain rfl : n5 = 1330 := e5
  have fr5 := fun (x : Nat) (hx : x ∉ ([160, 266, 267, 268, 272, 273, 274, 275, 269, 270, 281, 265] : List Nat)) => (show f5 x = _ from fr5 x hx)
  have h_160_5 : f5 160 = .inr (14, [.ref 161, .ref 162, .int 0, .int 0, .int 0, .int 0, .int 0, .int 0, .int 0, .int (-1), .int 1, .long 0, .ref 163, .ref 170, .ref 171, .ref 172, .ref 173, .ref 174, .ref 175, .ref 176, .int 0, .ref 177, .ref 163, .ref 184, .int 0, .int 0, .ref 185, .int 0, .ref 186, .int 0, .ref 204, .ref 187, .ref 221, .ref 238, .int 1, .int 8, .ref 239, .ref 240, .ref 245, .ref 250, .ref 255, .int 0, .int 0, .int x, .int 0, .int 0, .int 1, .ref 260, .ref 261, .ref 262, .ref 263, .ref 264, .int 0]) := g_160_5
  have h_266_5 : f5 266 = .inl (.int, 100, (va_cpy (va_cpy (fun _ => .int 0) (fun _ => .int 0) 0 0 100) (fun _ => .int 0) 0 0 100)) := g_266_5
  have h_267_5 : f5 267 = .inl (.int, 100, (va_cpy (va_cpy (fun _ => .int 0) (fun _ => .int 0) 0 0 100) (fun _ => .int 0) 0 0 100)) := g_267_5
  have h_268_5 : f5 268 = .inl (.long, 800, (va_cpy (va_cpy (fun _ => .long 0) (fun _ => .long 0) 0 0 800) (fun _ => .long 0) 0 0 800)) := g_268_5
  have h_272_5 : f5 272 = .inl (.int, 2000, (va_cpy (va_cpy (fun _ => .int 0) (fun _ => .int 0) 0 0 2000) (fun _ => .int 0) 0 0 2000)) := g_272_5
  have h_273_5 : f5 273 = .inl (.int, 2000, (va_cpy (va_cpy (fun _ => .int 0) (fun _ => .int 0) 0 0 2000) (fun _ => .int 0) 0 0 2000)) := g_273_5
  have h_274_5 : f5 274 = .inl (.long, 2000, (va_cpy (va_cpy (fun _ => .long 0) (fun _ => .long 0) 0 0 2000) (fun _ => .long 0) 0 0 2000)) := g_274_5
  have h_275_5 : f5 275 = .inl (.long, 2000, (va_cpy (va_cpy (fun _ => .long 0) (fun _ => .long 0) 0 0 2000) (fun _ => .long 0) 0 0 2000)) := g_275_5
  have h_269_5 : f5 269 = .inl (.long, 12, (va_cpy (va_cpy (fun _ => .long 0) (fun _ => .long 0) 0 0 12) (fun _ => .long 0) 0 0 12)) := g_269_5
  have h_270_5 : f5 270 = .inl (.long, 10, (va_cpy (va_cpy (fun _ => .long 0) (fun _ => .long 0) 0 0 10) (fun _ => .long 0) 0 0 10)) := g_270_5
  have h_281_5 : f5 281 = .inl (.object "StowTongueModel$Code", 10, (va_cpy (va_cpy (fun _ => .null) (fun _ => .null) 0 0 10) (fun _ => .null) 0 0 10)) := g_281_5
  have h_265_5 : f5 265 = .inr (13, [.ref 266, .ref 267, .ref 268, .ref 269, .ref 270, .ref 271, .ref 276, .ref 281, .int 0, .int 0, .int 0, .int 8]) := g_265_5
  refine am_iconst (v := 0) d_Mod_run_334 (by decide) ?_
  have h_163_4 : f4 163 = .inr (12, [.ref 164, .ref 165, .int 1, .int 0, .int 0, .int 0, .int 0, .int 0, .int 0, .int 0]) := (fr4 163 (by decide)).trans h_163_3
  have h_163_5 : f5 163 = .inr (12, [.ref 164, .ref 165, .int 1, .int 0, .int 0, .int 0, .int 0, .int 0, .int 0, .int 0]) := (fr5 163 (by decide)).trans h_163_4
  have h_177_2 : f2 177 = .inr (12, [.ref 178, .ref 179, .int 0, .int 0, .int 0, .int 0, .int 0, .int 0, .int 0, .int 0]) := (fr2 177 (by decide)).trans h_177_1
  have h_177_3 : f3 177 = .inr (12, [.ref 178, .ref 179, .int 0, .int 0, .int 0, .int 0, .int 0, .int 0, .int 0, .int 0]) := (fr3 177 (by decide)).trans h_177_2
  have h_177_4 : f4 177 = .inr (12, [.ref 178, .ref 179, .int 0, .int 0, .int 0, .int 0, .int 0, .int 0, .int 0, .int 0]) := (fr4 177 (by decide)).trans h_177_3
  have h_177_5 : f5 177 = .inr (12, [.ref 178, .ref 179, .int 0, .int 0, .int 0, .int 0, .int 0, .int 0, .int 0, .int 0]) := (fr5 177 (by decide)).trans h_177_4
  have h_164_4 : f4 164 = .inl (.int, 6000, (updV (fun _ => .int 0) 0 (.int 28))) := (fr4 164 (by decide)).trans h_164_3
  have h_164_5 : f5 164 = .inl (.int, 6000, (updV (fun _ => .int 0) 0 (.int 28))) := (fr5 164 (by decide)).trans h_164_4
  have h_251_5 : f5 251 = .inl (.int, 1, (updV (updV (fun _ => .int 0) 0 (.int 0)) 0 (.int 0))) := (fr5 251 (by decide)).trans h_251_4
  have h_252_5 : f5 252 = .inl (.int, 1, (updV (updV (fun _ => .int 0) 0 (.int 0)) 0 (.int 0))) := (fr5 252 (by decide)).trans h_252_4
  have h_253_5 : f5 253 = .inl (.long, 1, (updV (updV (fun _ => .long 0) 0 (.long 0)) 0 (.long 0))) := (fr5 253 (by decide)).trans h_253_4
  have h_254_5 : f5 254 = .inl (.long, 1, (updV (updV (fun _ => .long 0) 0 (.long 0)) 0 (.long 0))) := (fr5 254 (by decide)).trans h_254_4
  have h_205_5 : f5 205 = .inl (.int, 100, (va_cpy (fun _ => .int 0) (fun _ => .int 0) 0 0 100)) := (fr5 205 (by decide)).trans h_205_4
  have h_206_5 : f5 206 = .inl (.int, 100, (va_cpy (fun _ => .int 0) (fun _ => .int 0) 0 0 100)) := (fr5 206 (by decide)).trans h_206_4
  have h_207_5 : f5 207 = .inl (.long, 800, (va_cpy (fun _ => .long 0) (fun _ => .long 0) 0 0 800)) := (fr5 207 (by decide)).trans h_207_4
  have h_211_5 : f5 211 = .inl (.int, 2000, (va_cpy (fun _ => .int 0) (fun _ => .int 0) 0 0 2000)) := (fr5 211 (by decide)).trans h_211_4
  have h_212_5 : f5 212 = .inl (.int, 2000, (va_cpy (fun _ => .int 0) (fun _ => .int 0) 0 0 2000)) := (fr5 212 (by decide)).trans h_212_4
  have h_213_5 : f5 213 = .inl (.long, 2000, (va_cpy (fun _ => .long 0) (fun _ => .long 0) 0 0 2000)) := (fr5 213 (by decide)).trans h_213_4
  have h_214_5 : f5 214 = .inl (.long, 2000, (va_cpy (fun _ => .long 0) (fun _ => .long 0) 0 0 2000)) := (fr5 214 (by decide)).trans h_214_4
  have h_208_5 : f5 208 = .inl (.long, 12, (va_cpy (fun _ => .long 0) (fun _ => .long 0) 0 0 12)) := (fr5 208 (by decide)).trans h_208_4
  have h_209_5 : f5 209 = .inl (.long, 10, (va_cpy (fun _ => .long 0) (fun _ => .long 0) 0 0 10)) := (fr5 209 (by decide)).trans h_209_4
  have h_220_5 : f5 220 = .inl (.object "StowTongueModel$Code", 10, (va_cpy (fun _ => .null) (fun _ => .null) 0 0 10)) := (fr5 220 (by decide)).trans h_220_4
  have h_204_5 : f5 204 = .inr (13, [.ref 205, .ref 206, .ref 207, .ref 208, .ref 209, .ref 210, .ref 215, .ref 220, .int 0, .int 0, .int 0, .int 0]) := (fr5 204 (by decide)).trans h_204_4
  have h_260_5 : f5 260 = .inl (.object "StowTongueModel$Code", 9, (updV (fun _ => .null) 0 (.ref 163))) := (fr5 260 (by decide)).trans h_260_4
  have h_261_5 : f5 261 = .inl (.int, 9, (updV (fun _ => .int 0) 0 (.int 0))) := (fr5 261 (by decide)).trans h_261_4
  have h_262_5 : f5 262 = .inl (.int, 9, (updV (fun _ => .int 0) 0 (.int 0))) := (fr5 262 (by decide)).trans h_262_4
  have h_241_5 : f5 241 = .inl (.int, 8000, (updV (fun _ => .int 0) 0 (.int 0))) := (fr5 241 (by decide)).trans h_241_4
  have h_242_5 : f5 242 = .inl (.int, 8000, (updV (fun _ => .int 0) 0 (.int 0))) := (fr5 242 (by decide)).trans h_242_4
  have h_243_5 : f5 243 = .inl (.long, 8000, (updV (fun _ => .long 0) 0 (.long 0))) := (fr5 243 (by decide)).trans h_243_4
  have h_244_5 : f5 244 = .inl (.long, 8000, (updV (fun _ => .long 0) 0 (.long 0))) := (fr5 244 (by decide)).trans h_244_4
  have h_256_5 : f5 256 = .inl (.int, 4, (updV (fun _ => .int 0) 0 (.int 0))) := (fr5 256 (by decide)).trans h_256_4
  have h_257_5 : f5 257 = .inl (.int, 4, (updV (fun _ => .int 0) 0 (.int 0))) := (fr5 257 (by decide)).trans h_257_4
  have h_258_5 : f5 258 = .inl (.long, 4, (updV (fun _ => .long 0) 0 (.long 0))) := (fr5 258 (by decide)).trans h_258_4
  have h_259_5 : f5 259 = .inl (.long, 4, (updV (fun _ => .long 0) 0 (.long 0))) := (fr5 259 (by decide)).trans h_259_4
  exact am_iret rfl d_Mod_run_335 ⟨rfl, rfl, h_160_5, h_163_5, h_177_5, h_164_5, h_251_5, h_252_5, h_253_5, h_254_5, h_205_5, h_206_5, h_207_5, h_211_5, h_212_5, h_213_5, h_214_5, h_208_5, h_209_5, h_220_5, h_204_5, h_260_5, h_261_5, h_262_5, h_241_5, h_242_5, h_243_5, h_244_5, h_256_5, h_257_5, h_258_5, h_259_5, h_266_5, h_267_5, h_268_5, h_272_5, h_273_5, h_274_5, h_275_5, h_269_5, h_270_5, h_281_5, h_265_5, fun x hx => by simp only [List.mem_cons, List.not_mem_nil, or_false, not_or] at hx; dsimp only; (repeat (first | rw [va_up_ne _ _ (by omega)] | rw [fr1 x (by simp only [List.mem_cons, List.not_mem_nil, or_false, not_or]; omega)] | rw [fr2 x (by simp only [List.mem_cons, List.not_mem_nil, or_false, not_or]; omega)] | rw [fr3 x (by simp only [List.mem_cons, List.not_mem_nil, or_false, not_or]; omega)] | rw [fr4 x (by simp only [List.mem_cons, List.not_mem_nil, or_false, not_or]; omega)] | rw [fr5 x (by simp only [List.mem_cons, List.not_mem_nil, or_false, not_or]; omega)]))⟩
end
