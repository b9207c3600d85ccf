section
variable {K : am_K} {X : Nat → am_C}
set_option maxRecDepth 100000 in
set_option maxHeartbeats 4000000 in
theorem t1_Cell_sortOf (O : am_ok K X)   {h : am_H} : am_Mt K X m_Cell_sortOf 0 0 0 [.long 0] h (fun v h' => v = some (.int 0) ∧ h' = h) := by
  refine am_enter (by decide +kernel) (Nat.le_of_ble_eq_true rfl) ?_
  refine am_lload_n d_Cell_sortOf_0 rfl rfl ?_
  refine am_bipush (v := 56) d_Cell_sortOf_1 (by decide) ?_
  refine am_lushr d_Cell_sortOf_3 rfl ?_
  refine am_topl (v := 0) (by decide) ?_
  refine am_l2i (v := 0) d_Cell_sortOf_4 (by decide) ?_
  exact am_iret rfl d_Cell_sortOf_5 ⟨rfl, rfl⟩

set_option maxRecDepth 100000 in
set_option maxHeartbeats 4000000 in
theorem t2_Stow_asAnswer (O : am_ok K X)   {h : am_H} : am_Mt K X m_Stow_asAnswer 1 0 0 [.long 0, .long 0] h (fun v h' => v = some (.long 1099511627776) ∧ h' = h) := by
  refine am_enter (by decide +kernel) (Nat.le_of_ble_eq_true rfl) ?_
  refine am_lload_n d_Stow_asAnswer_0 rfl rfl ?_
  refine am_callS O (t1_Cell_sortOf O) rfl l_Stow_116 w_1104 rfl (Nat.le_of_ble_eq_true rfl) d_Stow_asAnswer_1 (by omega) (by omega) (by omega) (fun v h' hp => ?_)
  obtain ⟨rfl, rfl⟩ := hp
  refine am_tableOut (tgt := 50) d_Stow_asAnswer_4 (by decide) (by decide) ?_
  refine am_ldc2 (v := 1099511627776) w_1382 d_Stow_asAnswer_50 ?_
  exact am_lret rfl d_Stow_asAnswer_53 ⟨rfl, rfl⟩

set_option maxRecDepth 100000 in
set_option maxHeartbeats 4000000 in
theorem a_value_c (O : am_ok K X)   {f : Nat → am_C} (h_128 : f 128 = .inr (9, [.ref 129, .int 0, .ref 130, .ref 132, .ref 148, .ref 154, .ref 157, .long 0, .long 0, .int 0])) : am_Mt K X m_Stow_value 2 0 0 [.ref 128] (1311, f) (fun v h' => v = some (.long 1099511627776) ∧ h' = (1311, f)) := by
  refine am_enter (by decide +kernel) (Nat.le_of_ble_eq_true rfl) ?_
  refine am_aload_n d_Stow_value_0 rfl rfl ?_
  refine am_get O f_Stow_93 d_Stow_value_1 (by exact h_128) (by decide) (by decide) rfl ?_
  refine am_callS O (t1_Cell_sortOf O) rfl l_Stow_116 w_1104 rfl (Nat.le_of_ble_eq_true rfl) d_Stow_value_4 (by omega) (by omega) (by omega) (fun v h' hp => ?_)
  obtain ⟨rfl, rfl⟩ := hp
  refine am_iconst (v := 2) d_Stow_value_7 (by decide) ?_
  refine am_icmp_ne (tgt := 33) d_Stow_value_8 (by decide) (fun _ => ?_) (fun c => absurd c (by decide))
  refine am_aload_n d_Stow_value_33 rfl rfl ?_
  refine am_get O f_Stow_93 d_Stow_value_34 (by exact h_128) (by decide) (by decide) rfl ?_
  refine am_aload_n d_Stow_value_37 rfl rfl ?_
  refine am_get O f_Stow_100 d_Stow_value_38 (by exact h_128) (by decide) (by decide) rfl ?_
  refine am_callS O (t2_Stow_asAnswer O) rfl l_Stow_126 w_1377 rfl (Nat.le_of_ble_eq_true rfl) d_Stow_value_41 (by omega) (by omega) (by omega) (fun v h' hp => ?_)
  obtain ⟨rfl, rfl⟩ := hp
  exact am_lret rfl d_Stow_value_44 ⟨rfl, rfl⟩

set_option maxRecDepth 100000 in
set_option maxHeartbeats 4000000 in
theorem a_value_m (O : am_ok K X)   {f : Nat → am_C} (h_160 : f 160 = .inr (14, [.ref 161, .ref 162, .int 0, .int 0, .int 0, .int 0, .int 0, .int 0, .int 0, .int 0, .int 0, .long 0, .ref 163, .ref 170, .ref 171, .ref 172, .ref 173, .ref 174, .ref 175, .ref 176, .int 0, .ref 177, .null, .ref 184, .int 0, .int 0, .ref 185, .int 0, .ref 186, .int 0, .ref 187, .ref 204, .ref 221, .ref 238, .int 0, .int 0, .ref 239, .ref 240, .ref 245, .ref 250, .ref 255, .int 0, .int 0, .int 0, .int 0, .int 0, .int 0, .ref 260, .ref 261, .ref 262, .ref 263, .ref 264, .int 0])) (h_250 : f 250 = .inr (11, [.ref 251, .ref 252, .ref 253, .ref 254])) (h_251 : f 251 = .inl (.int, 1, (fun _ => .int 0))) : am_Mt K X m_Mod_value_ 0 0 0 [.ref 160] (1311, f) (fun v h' => v = some (.long 1099511627776) ∧ h' = (1311, f)) := by
  refine am_enter (by decide +kernel) (Nat.le_of_ble_eq_true rfl) ?_
  refine am_aload_n d_Mod_value__0 rfl rfl ?_
  refine am_get O f_Mod_374 d_Mod_value__1 (by exact h_160) (by decide) (by decide) rfl ?_
  refine am_get O f_Mod_515 d_Mod_value__4 (by exact h_250) (by decide) (by decide) rfl ?_
  refine am_iconst (v := 0) d_Mod_value__7 (by decide) ?_
  refine am_iald (v := .int 0) O (by decide) d_Mod_value__8 (by exact h_251) (by decide) (by decide) (am_in (by decide) (by decide)) rfl ?_
  refine am_tableIn (tgt := 40) d_Mod_value__9 (by decide) (by decide) rfl (by decide) ?_
  refine am_ldc2 (v := 1099511627776) w_1823 d_Mod_value__40 ?_
  exact am_lret rfl d_Mod_value__43 ⟨rfl, rfl⟩
end
