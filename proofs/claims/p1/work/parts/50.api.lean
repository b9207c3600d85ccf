section
variable {K : am_K} {X : Nat → am_C}
set_option maxRecDepth 100000 in
set_option maxHeartbeats 4000000 in
theorem t1_Cell_sortOf (O : am_ok K X)   {h : am_H} : am_Mt K X m_Cell_sortOf 0 0 0 [.long 0] h (fun v h' => v = some (.int 0) ∧ h' = h) := by
  refine am_enter (by decide +kernel) (Nat.le_of_ble_eq_true rfl) ?_
  refine am_lload_n d_Cell_sortOf_0 rfl rfl ?_
  refine am_bipush (v := 56) d_Cell_sortOf_1 (by decide) ?_
  refine am_lushr d_Cell_sortOf_3 rfl ?_
  refine am_topl (v := 0) (by decide) ?_
  refine am_l2i (v := 0) d_Cell_sortOf_4 (by decide) ?_
  exact am_iret rfl d_Cell_sortOf_5 ⟨rfl, rfl⟩

set_option maxRecDepth 100000 in
set_option maxHeartbeats 4000000 in
theorem t2_Stow_asAnswer (O : am_ok K X)   {h : am_H} : am_Mt K X m_Stow_asAnswer 1 0 0 [.long 0, .long 0] h (fun v h' => v = some (.long 1099511627776) ∧ h' = h) := by
  refine am_enter (by decide +kernel) (Nat.le_of_ble_eq_true rfl) ?_
  refine am_lload_n d_Stow_asAnswer_0 rfl rfl ?_
  refine am_callS O (t1_Cell_sortOf O) rfl l_Stow_116 w_1104 rfl (Nat.le_of_ble_eq_true rfl) d_Stow_asAnswer_1 (by omega) (by omega) (by omega) (fun v h' hp => ?_)
  obtain ⟨rfl, rfl⟩ := hp
  refine am_tableOut (tgt := 50) d_Stow_asAnswer_4 (by decide) (by decide) ?_
  refine am_ldc2 (v := 1099511627776) w_1382 d_Stow_asAnswer_50 ?_
  exact am_lret rfl d_Stow_asAnswer_53 ⟨rfl, rfl⟩

set_option maxRecDepth 100000 in
set_option maxHeartbeats 4000000 in
theorem a_value_c (O : am_ok K X)   {f : Nat → am_C} (h_128 : f 128 = .inr (9, [.ref 129, .int 0, .ref 130, .ref 132, .ref 148, .ref 154, .ref 157, .long 0, .long 0, .int 0])) : am_Mt K X m_Stow_value 2 0 0 [.ref 128] (1311, f) (fun v h' => v = some (.long 1099511627776) ∧ h' = (1311, f)) := by
  refine am_enter (by decide +kernel) (Nat.le_of_ble_eq_true rfl) ?_
  refine am_aload_n d_Stow_value_0 rfl rfl ?_
  refine am_get O f_Stow_93 d_Stow_value_1 (by exact h_128) (by decide) (by decide) rfl ?_
  refine am_callS O (t1_Cell_sortOf O) rfl l_Stow_116 w_1104 rfl (Nat.le_of_ble_eq_true rfl) d_Stow_value_4 (by omega) (by omega) (by omega) (fun v h' hp => ?_)
  obtain ⟨rfl, rfl⟩ := hp
  refine am_iconst (v := 2) d_Stow_value_7 (by decide) ?_
  refine am_icmp_ne (tgt := 33) d_Stow_value_8 (by decide) (fun _ => ?_) (fun c => absurd c (by decide))
  refine am_aload_n d_Stow_value_33 rfl rfl ?_
  refine am_get O f_Stow_93 d_Stow_value_34 (by exact h_128) (by decide) (by decide) rfl ?_
  refine am_aload_n d_Stow_value_37 rfl rfl ?_
  refine am_get O f_Stow_100 d_Stow_value_38 (by exact h_128) (by decide) (by decide) rfl ?_
  refine am_callS O (t2_Stow_asAnswer O) rfl l_Stow_126 w_1377 rfl (Nat.le_of_ble_eq_true rfl) d_Stow_value_41 (by omega) (by omega) (by omega) (fun v h' hp => ?_)
  obtain ⟨rfl, rfl⟩ := hp
  exact am_lret rfl d_Stow_value_44 ⟨rfl, rfl⟩

set_option maxRecDepth 100000 in
set_option maxHeartbeats 4000000 in
theorem a_value_m (O : am_ok K X)   {f : Nat → am_C} (h_160 : f 160 = .inr (14, [.ref 161, .ref 162, .int 0, .int 0, .int 0, .int 0, .int 0, .int 0, .int 0, .int 0, .int 0, .long 0, .ref 163, .ref 170, .ref 171, .ref 172, .ref 173, .ref 174, .ref 175, .ref 176, .int 0, .ref 177, .null, .ref 184, .int 0, .int 0, .ref 185, .int 0, .ref 186, .int 0, .ref 187, .ref 204, .ref 221, .ref 238, .int 0, .int 0, .ref 239, .ref 240, .ref 245, .ref 250, .ref 255, .int 0, .int 0, .int 0, .int 0, .int 0, .int 0, .ref 260, .ref 261, .ref 262, .ref 263, .ref 264, .int 0])) (h_250 : f 250 = .inr (11, [.ref 251, .ref 252, .ref 253, .ref 254])) (h_251 : f 251 = .inl (.int, 1, (fun _ => .int 0))) : am_Mt K X m_Mod_value_ 0 0 0 [.ref 160] (1311, f) (fun v h' => v = some (.long 1099511627776) ∧ h' = (1311, f)) := by
  refine am_enter (by decide +kernel) (Nat.le_of_ble_eq_true rfl) ?_
  refine am_aload_n d_Mod_value__0 rfl rfl ?_
  refine am_get O f_Mod_374 d_Mod_value__1 (by exact h_160) (by decide) (by decide) rfl ?_
  refine am_get O f_Mod_515 d_Mod_value__4 (by exact h_250) (by decide) (by decide) rfl ?_
  refine am_iconst (v := 0) d_Mod_value__7 (by decide) ?_
  refine am_iald (v := .int 0) O (by decide) d_Mod_value__8 (by exact h_251) (by decide) (by decide) (am_in (by decide) (by decide)) rfl ?_
  refine am_tableIn (tgt := 40) d_Mod_value__9 (by decide) (by decide) rfl (by decide) ?_
  refine am_ldc2 (v := 1099511627776) w_1823 d_Mod_value__40 ?_
  exact am_lret rfl d_Mod_value__43 ⟨rfl, rfl⟩

set_option maxRecDepth 100000 in
set_option maxHeartbeats 4000000 in
theorem t5_Log_waiting (O : am_ok K X)   {f : Nat → am_C} (h_154 : f 154 = .inr (7, [.ref 155, .ref 156, .int 0, .int 0])) : am_Mt K X m_Log_waiting 0 0 0 [.ref 154] (1311, f) (fun v h' => v = some (.int 0) ∧ h' = (1311, f)) := by
  refine am_enter (by decide +kernel) (Nat.le_of_ble_eq_true rfl) ?_
  refine am_aload_n d_Log_waiting_0 rfl rfl ?_
  refine am_get O f_Log_27 d_Log_waiting_1 (by exact h_154) (by decide) (by decide) rfl ?_
  exact am_iret rfl d_Log_waiting_4 ⟨rfl, rfl⟩

set_option maxRecDepth 100000 in
set_option maxHeartbeats 4000000 in
theorem t6_Log_settle (O : am_ok K X)   {h : am_H} : am_Mt K X m_Log_settle 0 0 0 [.ref 154, .int 0] h (fun v h' => v = none ∧ h' = h) := by
  refine am_enter (by decide +kernel) (Nat.le_of_ble_eq_true rfl) ?_
  refine am_iconst (v := 0) d_Log_settle_0 (by decide) ?_
  refine am_istore_n d_Log_settle_1 rfl (by decide) ?_
  refine am_iload_n d_Log_settle_2 rfl rfl ?_
  refine am_iload_n d_Log_settle_3 rfl rfl ?_
  refine am_icmp_ge (tgt := 24) d_Log_settle_4 (by decide) (fun _ => ?_) (fun c => absurd (by decide) c)
  exact am_vret rfl d_Log_settle_24 ⟨rfl, rfl⟩

set_option maxRecDepth 100000 in
set_option maxHeartbeats 4000000 in
theorem a_sync_c (O : am_ok K X)   {f : Nat → am_C} (h_128 : f 128 = .inr (9, [.ref 129, .int 0, .ref 130, .ref 132, .ref 148, .ref 154, .ref 157, .long 0, .long 0, .int 0])) (h_154 : f 154 = .inr (7, [.ref 155, .ref 156, .int 0, .int 0])) : am_Mt K X m_Stow_sync 1 0 0 [.ref 128] (1311, f) (fun v h' => v = some (.int 0) ∧ h' = (1311, f)) := by
  refine am_enter (by decide +kernel) (Nat.le_of_ble_eq_true rfl) ?_
  refine am_aload_n d_Stow_sync_0 rfl rfl ?_
  refine am_get O f_Stow_37 d_Stow_sync_1 (by exact h_128) (by decide) (by decide) rfl ?_
  refine am_callV O (t5_Log_waiting O (by exact h_154)) rfl (by exact h_154) (by decide) (by decide) rfl rfl l_Stow_169 ⟨w_1410, w_1411⟩ rfl (Nat.le_of_ble_eq_true rfl) d_Stow_sync_4 (by omega) (by omega) (by omega) (fun v h' hp => ?_)
  obtain ⟨rfl, rfl⟩ := hp
  refine am_istore_n d_Stow_sync_7 rfl (by decide) ?_
  refine am_aload_n d_Stow_sync_8 rfl rfl ?_
  refine am_get O f_Stow_37 d_Stow_sync_9 (by exact h_128) (by decide) (by decide) rfl ?_
  refine am_iload_n d_Stow_sync_12 rfl rfl ?_
  refine am_callV O (t6_Log_settle O) rfl (by exact h_154) (by decide) (by decide) rfl rfl l_Stow_172 ⟨w_1363, w_1364⟩ rfl (Nat.le_of_ble_eq_true rfl) d_Stow_sync_13 (by omega) (by omega) (by omega) (fun v h' hp => ?_)
  obtain ⟨rfl, rfl⟩ := hp
  refine am_iload_n d_Stow_sync_16 rfl rfl ?_
  exact am_iret rfl d_Stow_sync_17 ⟨rfl, rfl⟩

set_option maxRecDepth 100000 in
set_option maxHeartbeats 4000000 in
theorem t8_State_copy (O : am_ok K X)   {f : Nat → am_C} (h_187 : f 187 = .inr (13, [.ref 188, .ref 189, .ref 190, .ref 191, .ref 192, .ref 193, .ref 198, .ref 203, .int 0, .int 0, .int 0, .int 0])) (h_188 : f 188 = .inl (.int, 100, (fun _ => .int 0))) (h_189 : f 189 = .inl (.int, 100, (fun _ => .int 0))) (h_190 : f 190 = .inl (.long, 800, (fun _ => .long 0))) (h_191 : f 191 = .inl (.long, 12, (fun _ => .long 0))) (h_192 : f 192 = .inl (.long, 10, (fun _ => .long 0))) (h_193 : f 193 = .inr (11, [.ref 194, .ref 195, .ref 196, .ref 197])) (h_194 : f 194 = .inl (.int, 2000, (fun _ => .int 0))) (h_195 : f 195 = .inl (.int, 2000, (fun _ => .int 0))) (h_196 : f 196 = .inl (.long, 2000, (fun _ => .long 0))) (h_197 : f 197 = .inl (.long, 2000, (fun _ => .long 0))) (h_203 : f 203 = .inl (.object "StowTongueModel$Code", 10, (fun _ => .null))) (h_221 : f 221 = .inr (13, [.ref 222, .ref 223, .ref 224, .ref 225, .ref 226, .ref 227, .ref 232, .ref 237, .int 0, .int 0, .int 0, .int 0])) (h_222 : f 222 = .inl (.int, 100, (fun _ => .int 0))) (h_223 : f 223 = .inl (.int, 100, (fun _ => .int 0))) (h_224 : f 224 = .inl (.long, 800, (fun _ => .long 0))) (h_225 : f 225 = .inl (.long, 12, (fun _ => .long 0))) (h_226 : f 226 = .inl (.long, 10, (fun _ => .long 0))) (h_227 : f 227 = .inr (11, [.ref 228, .ref 229, .ref 230, .ref 231])) (h_228 : f 228 = .inl (.int, 2000, (fun _ => .int 0))) (h_229 : f 229 = .inl (.int, 2000, (fun _ => .int 0))) (h_230 : f 230 = .inl (.long, 2000, (fun _ => .long 0))) (h_231 : f 231 = .inl (.long, 2000, (fun _ => .long 0))) (h_237 : f 237 = .inl (.object "StowTongueModel$Code", 10, (fun _ => .null))) : am_Mt K X m_State_copy 1 0 0 [.ref 221, .ref 187] (1311, f) (fun v h' => v = none ∧ h'.1 = 1311 ∧ h'.2 222 = .inl (.int, 100, (va_cpy (fun _ => .int 0) (fun _ => .int 0) 0 0 100)) ∧ h'.2 223 = .inl (.int, 100, (va_cpy (fun _ => .int 0) (fun _ => .int 0) 0 0 100)) ∧ h'.2 224 = .inl (.long, 800, (va_cpy (fun _ => .long 0) (fun _ => .long 0) 0 0 800)) ∧ h'.2 228 = .inl (.int, 2000, (va_cpy (fun _ => .int 0) (fun _ => .int 0) 0 0 2000)) ∧ h'.2 229 = .inl (.int, 2000, (va_cpy (fun _ => .int 0) (fun _ => .int 0) 0 0 2000)) ∧ h'.2 230 = .inl (.long, 2000, (va_cpy (fun _ => .long 0) (fun _ => .long 0) 0 0 2000)) ∧ h'.2 231 = .inl (.long, 2000, (va_cpy (fun _ => .long 0) (fun _ => .long 0) 0 0 2000)) ∧ h'.2 225 = .inl (.long, 12, (va_cpy (fun _ => .long 0) (fun _ => .long 0) 0 0 12)) ∧ h'.2 226 = .inl (.long, 10, (va_cpy (fun _ => .long 0) (fun _ => .long 0) 0 0 10)) ∧ h'.2 237 = .inl (.object "StowTongueModel$Code", 10, (va_cpy (fun _ => .null) (fun _ => .null) 0 0 10)) ∧ h'.2 221 = .inr (13, [.ref 222, .ref 223, .ref 224, .ref 225, .ref 226, .ref 227, .ref 232, .ref 237, .int 0, .int 0, .int 0, .int 0]) ∧ ∀ x, x ∉ ([222, 223, 224, 228, 229, 230, 231, 225, 226, 237, 221] : List Nat) → h'.2 x = f x) := by
  refine am_enter (by decide +kernel) (Nat.le_of_ble_eq_true rfl) ?_
  refine am_aload_n d_State_copy_0 rfl rfl ?_
  refine am_get O f_State_9 d_State_copy_1 (by exact h_187) (by decide) (by decide) rfl ?_
  refine am_iconst (v := 0) d_State_copy_4 (by decide) ?_
  refine am_aload_n d_State_copy_5 rfl rfl ?_
  refine am_get O f_State_9 d_State_copy_6 (by exact h_221) (by decide) (by decide) rfl ?_
  refine am_iconst (v := 0) d_State_copy_9 (by decide) ?_
  refine am_bipush (v := 100) d_State_copy_10 (by decide) ?_
  refine am_copy (P := 0) (Q := 0) (N := 100) O w_1990 w_735 w_734 w_167 d_State_copy_12 (by exact h_188) (by decide) (by decide) (by exact h_222) (by decide) (by decide) (by decide) (by decide) (by decide) (by decide) (by decide) (by decide) (by decide) (by decide) (by decide) (by decide) (fun i hi => by refine ⟨?_, fun r h => ?_⟩ <;> first | rfl | cases h | (dsimp only; rw [if_pos (by omega)]; rfl) | (dsimp only at h; rw [if_pos (by omega)] at h; cases h) | (simp [va_cpy, fits]; done) | (simp [va_cpy] at h; done) | (simp only [updV]; (repeat' split) <;> rfl) | (simp only [updV] at h; (repeat' (split at h)) <;> cases h)) (Nat.le_of_ble_eq_true rfl) (by omega) ?_
  refine am_aload_n d_State_copy_15 rfl rfl ?_
  refine am_get O f_State_15 d_State_copy_16 (by exact h_187) (by decide) (by decide) rfl ?_
  refine am_iconst (v := 0) d_State_copy_19 (by decide) ?_
  refine am_aload_n d_State_copy_20 rfl rfl ?_
  refine am_get O f_State_15 d_State_copy_21 (by exact h_221) (by decide) (by decide) rfl ?_
  refine am_iconst (v := 0) d_State_copy_24 (by decide) ?_
  refine am_bipush (v := 100) d_State_copy_25 (by decide) ?_
  refine am_copy (P := 0) (Q := 0) (N := 100) O w_1990 w_735 w_734 w_167 d_State_copy_27 (by exact h_189) (by decide) (by decide) (by exact h_223) (by decide) (by decide) (by decide) (by decide) (by decide) (by decide) (by decide) (by decide) (by decide) (by decide) (by decide) (by decide) (fun i hi => by refine ⟨?_, fun r h => ?_⟩ <;> first | rfl | cases h | (dsimp only; rw [if_pos (by omega)]; rfl) | (dsimp only at h; rw [if_pos (by omega)] at h; cases h) | (simp [va_cpy, fits]; done) | (simp [va_cpy] at h; done) | (simp only [updV]; (repeat' split) <;> rfl) | (simp only [updV] at h; (repeat' (split at h)) <;> cases h)) (Nat.le_of_ble_eq_true rfl) (by omega) ?_
  refine am_aload_n d_State_copy_30 rfl rfl ?_
  refine am_get O f_State_18 d_State_copy_31 (by exact h_187) (by decide) (by decide) rfl ?_
  refine am_iconst (v := 0) d_State_copy_34 (by decide) ?_
  refine am_aload_n d_State_copy_35 rfl rfl ?_
  refine am_get O f_State_18 d_State_copy_36 (by exact h_221) (by decide) (by decide) rfl ?_
  refine am_iconst (v := 0) d_State_copy_39 (by decide) ?_
  refine am_sipush (v := 800) d_State_copy_40 (by decide) ?_
  refine am_copy (P := 0) (Q := 0) (N := 800) O w_1990 w_735 w_734 w_167 d_State_copy_43 (by exact h_190) (by decide) (by decide) (by exact h_224) (by decide) (by decide) (by decide) (by decide) (by decide) (by decide) (by decide) (by decide) (by decide) (by decide) (by decide) (by decide) (fun i hi => by refine ⟨?_, fun r h => ?_⟩ <;> first | rfl | cases h | (dsimp only; rw [if_pos (by omega)]; rfl) | (dsimp only at h; rw [if_pos (by omega)] at h; cases h) | (simp [va_cpy, fits]; done) | (simp [va_cpy] at h; done) | (simp only [updV]; (repeat' split) <;> rfl) | (simp only [updV] at h; (repeat' (split at h)) <;> cases h)) (Nat.le_of_ble_eq_true rfl) (by omega) ?_
  refine am_aload_n d_State_copy_46 rfl rfl ?_
  refine am_get O f_State_33 d_State_copy_47 (by exact h_187) (by decide) (by decide) rfl ?_
  refine am_get O f_State_52 d_State_copy_50 (by exact h_193) (by decide) (by decide) rfl ?_
  refine am_iconst (v := 0) d_State_copy_53 (by decide) ?_
  refine am_aload_n d_State_copy_54 rfl rfl ?_
  refine am_get O f_State_33 d_State_copy_55 (by exact h_221) (by decide) (by decide) rfl ?_
  refine am_get O f_State_52 d_State_copy_58 (by exact h_227) (by decide) (by decide) rfl ?_
  refine am_iconst (v := 0) d_State_copy_61 (by decide) ?_
  refine am_sipush (v := 2000) d_State_copy_62 (by decide) ?_
  refine am_copy (P := 0) (Q := 0) (N := 2000) O w_1990 w_735 w_734 w_167 d_State_copy_65 (by exact h_194) (by decide) (by decide) (by exact h_228) (by decide) (by decide) (by decide) (by decide) (by decide) (by decide) (by decide) (by decide) (by decide) (by decide) (by decide) (by decide) (fun i hi => by refine ⟨?_, fun r h => ?_⟩ <;> first | rfl | cases h | (dsimp only; rw [if_pos (by omega)]; rfl) | (dsimp only at h; rw [if_pos (by omega)] at h; cases h) | (simp [va_cpy, fits]; done) | (simp [va_cpy] at h; done) | (simp only [updV]; (repeat' split) <;> rfl) | (simp only [updV] at h; (repeat' (split at h)) <;> cases h)) (Nat.le_of_ble_eq_true rfl) (by omega) ?_
  refine am_aload_n d_State_copy_68 rfl rfl ?_
  refine am_get O f_State_33 d_State_copy_69 (by exact h_187) (by decide) (by decide) rfl ?_
  refine am_get O f_State_53 d_State_copy_72 (by exact h_193) (by decide) (by decide) rfl ?_
  refine am_iconst (v := 0) d_State_copy_75 (by decide) ?_
  refine am_aload_n d_State_copy_76 rfl rfl ?_
  refine am_get O f_State_33 d_State_copy_77 (by exact h_221) (by decide) (by decide) rfl ?_
  refine am_get O f_State_53 d_State_copy_80 (by exact h_227) (by decide) (by decide) rfl ?_
  refine am_iconst (v := 0) d_State_copy_83 (by decide) ?_
  refine am_sipush (v := 2000) d_State_copy_84 (by decide) ?_
  refine am_copy (P := 0) (Q := 0) (N := 2000) O w_1990 w_735 w_734 w_167 d_State_copy_87 (by exact h_195) (by decide) (by decide) (by exact h_229) (by decide) (by decide) (by decide) (by decide) (by decide) (by decide) (by decide) (by decide) (by decide) (by decide) (by decide) (by decide) (fun i hi => by refine ⟨?_, fun r h => ?_⟩ <;> first | rfl | cases h | (dsimp only; rw [if_pos (by omega)]; rfl) | (dsimp only at h; rw [if_pos (by omega)] at h; cases h) | (simp [va_cpy, fits]; done) | (simp [va_cpy] at h; done) | (simp only [updV]; (repeat' split) <;> rfl) | (simp only [updV] at h; (repeat' (split at h)) <;> cases h)) (Nat.le_of_ble_eq_true rfl) (by omega) ?_
  refine am_aload_n d_State_copy_90 rfl rfl ?_
  refine am_get O f_State_33 d_State_copy_91 (by exact h_187) (by decide) (by decide) rfl ?_
  refine am_get O f_State_54 d_State_copy_94 (by exact h_193) (by decide) (by decide) rfl ?_
  refine am_iconst (v := 0) d_State_copy_97 (by decide) ?_
  refine am_aload_n d_State_copy_98 rfl rfl ?_
  refine am_get O f_State_33 d_State_copy_99 (by exact h_221) (by decide) (by decide) rfl ?_
  refine am_get O f_State_54 d_State_copy_102 (by exact h_227) (by decide) (by decide) rfl ?_
  refine am_iconst (v := 0) d_State_copy_105 (by decide) ?_
  refine am_sipush (v := 2000) d_State_copy_106 (by decide) ?_
  refine am_copy (P := 0) (Q := 0) (N := 2000) O w_1990 w_735 w_734 w_167 d_State_copy_109 (by exact h_196) (by decide) (by decide) (by exact h_230) (by decide) (by decide) (by decide) (by decide) (by decide) (by decide) (by decide) (by decide) (by decide) (by decide) (by decide) (by decide) (fun i hi => by refine ⟨?_, fun r h => ?_⟩ <;> first | rfl | cases h | (dsimp only; rw [if_pos (by omega)]; rfl) | (dsimp only at h; rw [if_pos (by omega)] at h; cases h) | (simp [va_cpy, fits]; done) | (simp [va_cpy] at h; done) | (simp only [updV]; (repeat' split) <;> rfl) | (simp only [updV] at h; (repeat' (split at h)) <;> cases h)) (Nat.le_of_ble_eq_true rfl) (by omega) ?_
  refine am_aload_n d_State_copy_112 rfl rfl ?_
  refine am_get O f_State_33 d_State_copy_113 (by exact h_187) (by decide) (by decide) rfl ?_
  refine am_get O f_State_57 d_State_copy_116 (by exact h_193) (by decide) (by decide) rfl ?_
  refine am_iconst (v := 0) d_State_copy_119 (by decide) ?_
  refine am_aload_n d_State_copy_120 rfl rfl ?_
  refine am_get O f_State_33 d_State_copy_121 (by exact h_221) (by decide) (by decide) rfl ?_
  refine am_get O f_State_57 d_State_copy_124 (by exact h_227) (by decide) (by decide) rfl ?_
  refine am_iconst (v := 0) d_State_copy_127 (by decide) ?_
  refine am_sipush (v := 2000) d_State_copy_128 (by decide) ?_
  refine am_copy (P := 0) (Q := 0) (N := 2000) O w_1990 w_735 w_734 w_167 d_State_copy_131 (by exact h_197) (by decide) (by decide) (by exact h_231) (by decide) (by decide) (by decide) (by decide) (by decide) (by decide) (by decide) (by decide) (by decide) (by decide) (by decide) (by decide) (fun i hi => by refine ⟨?_, fun r h => ?_⟩ <;> first | rfl | cases h | (dsimp only; rw [if_pos (by omega)]; rfl) | (dsimp only at h; rw [if_pos (by omega)] at h; cases h) | (simp [va_cpy, fits]; done) | (simp [va_cpy] at h; done) | (simp only [updV]; (repeat' split) <;> rfl) | (simp only [updV] at h; (repeat' (split at h)) <;> cases h)) (Nat.le_of_ble_eq_true rfl) (by omega) ?_
  refine am_aload_n d_State_copy_134 rfl rfl ?_
  refine am_get O f_State_22 d_State_copy_135 (by exact h_187) (by decide) (by decide) rfl ?_
  refine am_iconst (v := 0) d_State_copy_138 (by decide) ?_
  refine am_aload_n d_State_copy_139 rfl rfl ?_
  refine am_get O f_State_22 d_State_copy_140 (by exact h_221) (by decide) (by decide) rfl ?_
  refine am_iconst (v := 0) d_State_copy_143 (by decide) ?_
  refine am_bipush (v := 12) d_State_copy_144 (by decide) ?_
  refine am_copy (P := 0) (Q := 0) (N := 12) O w_1990 w_735 w_734 w_167 d_State_copy_146 (by exact h_191) (by decide) (by decide) (by exact h_225) (by decide) (by decide) (by decide) (by decide) (by decide) (by decide) (by decide) (by decide) (by decide) (by decide) (by decide) (by decide) (fun i hi => by refine ⟨?_, fun r h => ?_⟩ <;> first | rfl | cases h | (dsimp only; rw [if_pos (by omega)]; rfl) | (dsimp only at h; rw [if_pos (by omega)] at h; cases h) | (simp [va_cpy, fits]; done) | (simp [va_cpy] at h; done) | (simp only [updV]; (repeat' split) <;> rfl) | (simp only [updV] at h; (repeat' (split at h)) <;> cases h)) (Nat.le_of_ble_eq_true rfl) (by omega) ?_
  refine am_iconst (v := 0) d_State_copy_149 (by decide) ?_
  refine am_istore_n d_State_copy_150 rfl (by decide) ?_
  refine am_iload_n d_State_copy_151 rfl rfl ?_
  refine am_aload_n d_State_copy_152 rfl rfl ?_
  refine am_get O f_State_60 d_State_copy_153 (by exact h_187) (by decide) (by decide) rfl ?_
  refine am_icmp_ge (tgt := 178) d_State_copy_156 (by decide) (fun _ => ?_) (fun c => absurd (by decide) c)
  refine am_aload_n d_State_copy_178 rfl rfl ?_
  refine am_get O f_State_25 d_State_copy_179 (by exact h_187) (by decide) (by decide) rfl ?_
  refine am_iconst (v := 0) d_State_copy_182 (by decide) ?_
  refine am_aload_n d_State_copy_183 rfl rfl ?_
  refine am_get O f_State_25 d_State_copy_184 (by exact h_221) (by decide) (by decide) rfl ?_
  refine am_iconst (v := 0) d_State_copy_187 (by decide) ?_
  refine am_bipush (v := 10) d_State_copy_188 (by decide) ?_
  refine am_copy (P := 0) (Q := 0) (N := 10) O w_1990 w_735 w_734 w_167 d_State_copy_190 (by exact h_192) (by decide) (by decide) (by exact h_226) (by decide) (by decide) (by decide) (by decide) (by decide) (by decide) (by decide) (by decide) (by decide) (by decide) (by decide) (by decide) (fun i hi => by refine ⟨?_, fun r h => ?_⟩ <;> first | rfl | cases h | (dsimp only; rw [if_pos (by omega)]; rfl) | (dsimp only at h; rw [if_pos (by omega)] at h; cases h) | (simp [va_cpy, fits]; done) | (simp [va_cpy] at h; done) | (simp only [updV]; (repeat' split) <;> rfl) | (simp only [updV] at h; (repeat' (split at h)) <;> cases h)) (Nat.le_of_ble_eq_true rfl) (by omega) ?_
  refine am_aload_n d_State_copy_193 rfl rfl ?_
  refine am_get O f_State_42 d_State_copy_194 (by exact h_187) (by decide) (by decide) rfl ?_
  refine am_iconst (v := 0) d_State_copy_197 (by decide) ?_
  refine am_aload_n d_State_copy_198 rfl rfl ?_
  refine am_get O f_State_42 d_State_copy_199 (by exact h_221) (by decide) (by decide) rfl ?_
  refine am_iconst (v := 0) d_State_copy_202 (by decide) ?_
  refine am_bipush (v := 10) d_State_copy_203 (by decide) ?_
  refine am_copyq (ci := 12) (P := 0) (Q := 0) (N := 10) O w_1990 w_735 w_734 w_167 d_State_copy_205 (by exact h_203) (by decide) (by decide) (by exact h_237) (by decide) (by decide) (by decide) (by decide) (by decide) (by decide) (by decide) (by decide) (by decide) (by decide) (by decide) (by rfl) (by rfl) (fun i hi => by first | exact Or.inl rfl | exact Or.inl (by simp [va_cpy])) (Nat.le_of_ble_eq_true rfl) (by omega) ?_
  refine am_aload_n d_State_copy_208 rfl rfl ?_
  refine am_aload_n d_State_copy_209 rfl rfl ?_
  refine am_get O f_State_68 d_State_copy_210 (by exact h_187) (by decide) (by decide) rfl ?_
  refine am_put O f_State_68 d_State_copy_213 (by exact h_221) (by decide) (by decide) (Nat.le_of_ble_eq_true rfl) (fun q hq => by cases hq; exact ⟨rfl, rfl, rfl⟩) ?_
  refine am_aload_n d_State_copy_216 rfl rfl ?_
  refine am_aload_n d_State_copy_217 rfl rfl ?_
  refine am_get O f_State_60 d_State_copy_218 (by exact h_187) (by decide) (by decide) rfl ?_
  refine am_put O f_State_60 d_State_copy_221 (by rfl) (by decide) (by decide) (Nat.le_of_ble_eq_true rfl) (fun q hq => by cases hq; exact ⟨rfl, rfl, rfl⟩) ?_
  refine am_aload_n d_State_copy_224 rfl rfl ?_
  refine am_aload_n d_State_copy_225 rfl rfl ?_
  refine am_get O f_State_71 d_State_copy_226 (by exact h_187) (by decide) (by decide) rfl ?_
  refine am_put O f_State_71 d_State_copy_229 (by rfl) (by decide) (by decide) (Nat.le_of_ble_eq_true rfl) (fun q hq => by cases hq; exact ⟨rfl, rfl, rfl⟩) ?_
  exact am_vret rfl d_State_copy_232 ⟨rfl, rfl, rfl, rfl, rfl, rfl, rfl, rfl, rfl, rfl, rfl, rfl, rfl, fun x hx => by simp only [List.mem_cons, List.not_mem_nil, or_false, not_or] at hx; dsimp only; (repeat (first | rw [va_up_ne _ _ (by omega)]))⟩

set_option maxRecDepth 100000 in
set_option maxHeartbeats 4000000 in
theorem a_sync_m (O : am_ok K X)   {f : Nat → am_C} (h_160 : f 160 = .inr (14, [.ref 161, .ref 162, .int 0, .int 0, .int 0, .int 0, .int 0, .int 0, .int 0, .int 0, .int 0, .long 0, .ref 163, .ref 170, .ref 171, .ref 172, .ref 173, .ref 174, .ref 175, .ref 176, .int 0, .ref 177, .null, .ref 184, .int 0, .int 0, .ref 185, .int 0, .ref 186, .int 0, .ref 187, .ref 204, .ref 221, .ref 238, .int 0, .int 0, .ref 239, .ref 240, .ref 245, .ref 250, .ref 255, .int 0, .int 0, .int 0, .int 0, .int 0, .int 0, .ref 260, .ref 261, .ref 262, .ref 263, .ref 264, .int 0])) (h_187 : f 187 = .inr (13, [.ref 188, .ref 189, .ref 190, .ref 191, .ref 192, .ref 193, .ref 198, .ref 203, .int 0, .int 0, .int 0, .int 0])) (h_188 : f 188 = .inl (.int, 100, (fun _ => .int 0))) (h_189 : f 189 = .inl (.int, 100, (fun _ => .int 0))) (h_190 : f 190 = .inl (.long, 800, (fun _ => .long 0))) (h_191 : f 191 = .inl (.long, 12, (fun _ => .long 0))) (h_192 : f 192 = .inl (.long, 10, (fun _ => .long 0))) (h_193 : f 193 = .inr (11, [.ref 194, .ref 195, .ref 196, .ref 197])) (h_194 : f 194 = .inl (.int, 2000, (fun _ => .int 0))) (h_195 : f 195 = .inl (.int, 2000, (fun _ => .int 0))) (h_196 : f 196 = .inl (.long, 2000, (fun _ => .long 0))) (h_197 : f 197 = .inl (.long, 2000, (fun _ => .long 0))) (h_203 : f 203 = .inl (.object "StowTongueModel$Code", 10, (fun _ => .null))) (h_221 : f 221 = .inr (13, [.ref 222, .ref 223, .ref 224, .ref 225, .ref 226, .ref 227, .ref 232, .ref 237, .int 0, .int 0, .int 0, .int 0])) (h_222 : f 222 = .inl (.int, 100, (fun _ => .int 0))) (h_223 : f 223 = .inl (.int, 100, (fun _ => .int 0))) (h_224 : f 224 = .inl (.long, 800, (fun _ => .long 0))) (h_225 : f 225 = .inl (.long, 12, (fun _ => .long 0))) (h_226 : f 226 = .inl (.long, 10, (fun _ => .long 0))) (h_227 : f 227 = .inr (11, [.ref 228, .ref 229, .ref 230, .ref 231])) (h_228 : f 228 = .inl (.int, 2000, (fun _ => .int 0))) (h_229 : f 229 = .inl (.int, 2000, (fun _ => .int 0))) (h_230 : f 230 = .inl (.long, 2000, (fun _ => .long 0))) (h_231 : f 231 = .inl (.long, 2000, (fun _ => .long 0))) (h_237 : f 237 = .inl (.object "StowTongueModel$Code", 10, (fun _ => .null))) : am_Mt K X m_Mod_sync 2 0 0 [.ref 160] (1311, f) (fun v h' => v = some (.int 0) ∧ h'.1 = 1311 ∧ h'.2 222 = .inl (.int, 100, (va_cpy (fun _ => .int 0) (fun _ => .int 0) 0 0 100)) ∧ h'.2 223 = .inl (.int, 100, (va_cpy (fun _ => .int 0) (fun _ => .int 0) 0 0 100)) ∧ h'.2 224 = .inl (.long, 800, (va_cpy (fun _ => .long 0) (fun _ => .long 0) 0 0 800)) ∧ h'.2 228 = .inl (.int, 2000, (va_cpy (fun _ => .int 0) (fun _ => .int 0) 0 0 2000)) ∧ h'.2 229 = .inl (.int, 2000, (va_cpy (fun _ => .int 0) (fun _ => .int 0) 0 0 2000)) ∧ h'.2 230 = .inl (.long, 2000, (va_cpy (fun _ => .long 0) (fun _ => .long 0) 0 0 2000)) ∧ h'.2 231 = .inl (.long, 2000, (va_cpy (fun _ => .long 0) (fun _ => .long 0) 0 0 2000)) ∧ h'.2 225 = .inl (.long, 12, (va_cpy (fun _ => .long 0) (fun _ => .long 0) 0 0 12)) ∧ h'.2 226 = .inl (.long, 10, (va_cpy (fun _ => .long 0) (fun _ => .long 0) 0 0 10)) ∧ h'.2 237 = .inl (.object "StowTongueModel$Code", 10, (va_cpy (fun _ => .null) (fun _ => .null) 0 0 10)) ∧ h'.2 221 = .inr (13, [.ref 222, .ref 223, .ref 224, .ref 225, .ref 226, .ref 227, .ref 232, .ref 237, .int 0, .int 0, .int 0, .int 0]) ∧ h'.2 160 = .inr (14, [.ref 161, .ref 162, .int 0, .int 0, .int 0, .int 0, .int 0, .int 0, .int 0, .int 0, .int 0, .long 0, .ref 163, .ref 170, .ref 171, .ref 172, .ref 173, .ref 174, .ref 175, .ref 176, .int 0, .ref 177, .null, .ref 184, .int 0, .int 0, .ref 185, .int 0, .ref 186, .int 0, .ref 187, .ref 204, .ref 221, .ref 238, .int 0, .int 0, .ref 239, .ref 240, .ref 245, .ref 250, .ref 255, .int 0, .int 0, .int 0, .int 0, .int 0, .int 0, .ref 260, .ref 261, .ref 262, .ref 263, .ref 264, .int 0]) ∧ ∀ x, x ∉ ([222, 223, 224, 228, 229, 230, 231, 225, 226, 237, 221, 160] : List Nat) → h'.2 x = f x) := by
  refine am_enter (by decide +kernel) (Nat.le_of_ble_eq_true rfl) ?_
  refine am_aload_n d_Mod_sync_0 rfl rfl ?_
  refine am_get O f_Mod_409 d_Mod_sync_1 (by exact h_160) (by decide) (by decide) rfl ?_
  refine am_istore_n d_Mod_sync_4 rfl (by decide) ?_
  refine am_aload_n d_Mod_sync_5 rfl rfl ?_
  refine am_get O f_Mod_356 d_Mod_sync_6 (by exact h_160) (by decide) (by decide) rfl ?_
  refine am_aload_n d_Mod_sync_9 rfl rfl ?_
  refine am_get O f_Mod_349 d_Mod_sync_10 (by exact h_160) (by decide) (by decide) rfl ?_
  refine am_callV O (t8_State_copy O (by exact h_187) (by exact h_188) (by exact h_189) (by exact h_190) (by exact h_191) (by exact h_192) (by exact h_193) (by exact h_194) (by exact h_195) (by exact h_196) (by exact h_197) (by exact h_203) (by exact h_221) (by exact h_222) (by exact h_223) (by exact h_224) (by exact h_225) (by exact h_226) (by exact h_227) (by exact h_228) (by exact h_229) (by exact h_230) (by exact h_231) (by exact h_237)) rfl (by exact h_221) (by decide) (by decide) rfl rfl l_Mod_448 ⟨w_1987, w_1988⟩ rfl (Nat.le_of_ble_eq_true rfl) d_Mod_sync_13 (by omega) (by omega) (by omega) (fun v h' hp => ?_)
  obtain ⟨n1, f1⟩ := h'
  obtain ⟨rfl, e1, g_222_1, g_223_1, g_224_1, g_228_1, g_229_1, g_230_1, g_231_1, g_225_1, g_226_1, g_237_1, g_221_1, fr1⟩ := hp
  obtain rfl : n1 = 1311 := e1
  have fr1 := fun (x : Nat) (hx : x ∉ ([222, 223, 224, 228, 229, 230, 231, 225, 226, 237, 221] : List Nat)) => (show f1 x = _ from fr1 x hx)
  have h_222_1 : f1 222 = .inl (.int, 100, (va_cpy (fun _ => .int 0) (fun _ => .int 0) 0 0 100)) := g_222_1
  have h_223_1 : f1 223 = .inl (.int, 100, (va_cpy (fun _ => .int 0) (fun _ => .int 0) 0 0 100)) := g_223_1
  have h_224_1 : f1 224 = .inl (.long, 800, (va_cpy (fun _ => .long 0) (fun _ => .long 0) 0 0 800)) := g_224_1
  have h_228_1 : f1 228 = .inl (.int, 2000, (va_cpy (fun _ => .int 0) (fun _ => .int 0) 0 0 2000)) := g_228_1
  have h_229_1 : f1 229 = .inl (.int, 2000, (va_cpy (fun _ => .int 0) (fun _ => .int 0) 0 0 2000)) := g_229_1
  have h_230_1 : f1 230 = .inl (.long, 2000, (va_cpy (fun _ => .long 0) (fun _ => .long 0) 0 0 2000)) := g_230_1
  have h_231_1 : f1 231 = .inl (.long, 2000, (va_cpy (fun _ => .long 0) (fun _ => .long 0) 0 0 2000)) := g_231_1
  have h_225_1 : f1 225 = .inl (.long, 12, (va_cpy (fun _ => .long 0) (fun _ => .long 0) 0 0 12)) := g_225_1
  have h_226_1 : f1 226 = .inl (.long, 10, (va_cpy (fun _ => .long 0) (fun _ => .long 0) 0 0 10)) := g_226_1
  have h_237_1 : f1 237 = .inl (.object "StowTongueModel$Code", 10, (va_cpy (fun _ => .null) (fun _ => .null) 0 0 10)) := g_237_1
  have h_221_1 : f1 221 = .inr (13, [.ref 222, .ref 223, .ref 224, .ref 225, .ref 226, .ref 227, .ref 232, .ref 237, .int 0, .int 0, .int 0, .int 0]) := g_221_1
  refine am_aload_n d_Mod_sync_16 rfl rfl ?_
  refine am_iconst (v := 0) d_Mod_sync_17 (by decide) ?_
  have h_160_1 : f1 160 = .inr (14, [.ref 161, .ref 162, .int 0, .int 0, .int 0, .int 0, .int 0, .int 0, .int 0, .int 0, .int 0, .long 0, .ref 163, .ref 170, .ref 171, .ref 172, .ref 173, .ref 174, .ref 175, .ref 176, .int 0, .ref 177, .null, .ref 184, .int 0, .int 0, .ref 185, .int 0, .ref 186, .int 0, .ref 187, .ref 204, .ref 221, .ref 238, .int 0, .int 0, .ref 239, .ref 240, .ref 245, .ref 250, .ref 255, .int 0, .int 0, .int 0, .int 0, .int 0, .int 0, .ref 260, .ref 261, .ref 262, .ref 263, .ref 264, .int 0]) := (fr1 160 (by decide)).trans h_160
  refine am_put O f_Mod_409 d_Mod_sync_18 (by exact h_160_1) (by decide) (by decide) (Nat.le_of_ble_eq_true rfl) (fun q hq => by cases hq; exact ⟨rfl, rfl, rfl⟩) ?_
  refine am_iload_n d_Mod_sync_21 rfl rfl ?_
  exact am_iret rfl d_Mod_sync_22 ⟨rfl, rfl, h_222_1, h_223_1, h_224_1, h_228_1, h_229_1, h_230_1, h_231_1, h_225_1, h_226_1, h_237_1, h_221_1, rfl, fun x hx => by simp only [List.mem_cons, List.not_mem_nil, or_false, not_or] at hx; dsimp only; (repeat (first | rw [va_up_ne _ _ (by omega)] | rw [fr1 x (by simp only [List.mem_cons, List.not_mem_nil, or_false, not_or]; omega)]))⟩

set_option maxRecDepth 100000 in
set_option maxHeartbeats 4000000 in
theorem t10_Lexer_wholeName (O : am_ok K X)   {h : am_H} : am_Mt K X m_Lexer_wholeName 0 0 0 [.ref 129, .int 0] h (fun v h' => v = some (.long 0) ∧ h' = h) := by
  refine am_enter (by decide +kernel) (Nat.le_of_ble_eq_true rfl) ?_
  refine am_iload_n d_Lexer_wholeName_0 rfl rfl ?_
  refine am_iconst (v := 1) d_Lexer_wholeName_1 (by decide) ?_
  refine am_icmp_lt (tgt := 26) d_Lexer_wholeName_2 (by decide) (fun _ => ?_) (fun c => absurd (by decide) c)
  refine am_lconst (v := 0) d_Lexer_wholeName_26 (by decide) ?_
  exact am_lret rfl d_Lexer_wholeName_27 ⟨rfl, rfl⟩

set_option maxRecDepth 100000 in
set_option maxHeartbeats 4000000 in
theorem t11_Store_init (O : am_ok K X)   {f : Nat → am_C} (h_1311 : f 1311 = .inr (10, [.null, .null, .null, .null, .null, .null, .int 0, .null, .int 0])) : am_Mt K X m_Store_init 1 7 4146 [.ref 1311] (1312, f) (fun v h' => v = none ∧ h'.1 = 1319 ∧ h'.2 1312 = .inl (.long, 2000, (fun _ => .long 0)) ∧ h'.2 1311 = .inr (10, [.ref 1312, .ref 1313, .ref 1314, .ref 1315, .ref 1316, .ref 1317, .int 0, .ref 1318, .int 0]) ∧ h'.2 1313 = .inl (.long, 2000, (fun _ => .long 0)) ∧ h'.2 1314 = .inl (.int, 100, (fun j => if j < 100 then .int (-1) else (fun _ => .int 0) j)) ∧ h'.2 1315 = .inl (.long, 12, (fun _ => .long 0)) ∧ h'.2 1316 = .inl (.long, 12, (fun _ => .long 0)) ∧ h'.2 1317 = .inl (.long, 12, (fun _ => .long 0)) ∧ h'.2 1318 = .inl (.object "StowTongue$Unit", 10, (fun _ => .null)) ∧ ∀ x, x ∉ ([1312, 1311, 1313, 1314, 1315, 1316, 1317, 1318] : List Nat) → h'.2 x = f x) := by
  refine am_enter (by decide +kernel) (Nat.le_of_ble_eq_true rfl) ?_
  refine am_aload_n d_Store_init_0 rfl rfl ?_
  refine am_obj w_965 w_177 w_178 d_Store_init_1 (by omega) (Nat.le_of_ble_eq_true rfl) ?_
  refine am_aload_n d_Store_init_4 rfl rfl ?_
  refine am_sipush (v := 2000) d_Store_init_5 (by decide) ?_
  refine am_newa (at_ := .long) (ty := .long) (N := 2000) O rfl (by decide) w_291 d_Store_init_8 (by decide) (by decide) (by decide) (by omega) (by omega) ?_
  refine am_putF O f_Store_9 (fun q hq => by cases hq; exact ⟨w_970, rfl⟩) rfl d_Store_init_10 (by exact h_1311) (by decide) (by decide) (Nat.le_of_ble_eq_true rfl) (fun q hq => by cases hq; exact ⟨rfl, rfl, rfl⟩) ?_
  refine am_aload_n d_Store_init_13 rfl rfl ?_
  refine am_sipush (v := 2000) d_Store_init_14 (by decide) ?_
  refine am_newa (at_ := .long) (ty := .long) (N := 2000) O rfl (by decide) w_291 d_Store_init_17 (by decide) (by decide) (by decide) (by omega) (by omega) ?_
  refine am_putF O f_Store_13 (fun q hq => by cases hq; exact ⟨w_973, rfl⟩) rfl d_Store_init_19 (by rfl) (by decide) (by decide) (Nat.le_of_ble_eq_true rfl) (fun q hq => by cases hq; exact ⟨rfl, rfl, rfl⟩) ?_
  refine am_aload_n d_Store_init_22 rfl rfl ?_
  refine am_bipush (v := 100) d_Store_init_23 (by decide) ?_
  refine am_newa (at_ := .int) (ty := .int) (N := 100) O rfl (by decide) w_317 d_Store_init_25 (by decide) (by decide) (by decide) (by omega) (by omega) ?_
  refine am_putF O f_Store_16 (fun q hq => by cases hq; exact ⟨w_976, rfl⟩) rfl d_Store_init_27 (by rfl) (by decide) (by decide) (Nat.le_of_ble_eq_true rfl) (fun q hq => by cases hq; exact ⟨rfl, rfl, rfl⟩) ?_
  refine am_aload_n d_Store_init_30 rfl rfl ?_
  refine am_bipush (v := 12) d_Store_init_31 (by decide) ?_
  refine am_newa (at_ := .long) (ty := .long) (N := 12) O rfl (by decide) w_291 d_Store_init_33 (by decide) (by decide) (by decide) (by omega) (by omega) ?_
  refine am_putF O f_Store_20 (fun q hq => by cases hq; exact ⟨w_977, rfl⟩) rfl d_Store_init_35 (by rfl) (by decide) (by decide) (Nat.le_of_ble_eq_true rfl) (fun q hq => by cases hq; exact ⟨rfl, rfl, rfl⟩) ?_
  refine am_aload_n d_Store_init_38 rfl rfl ?_
  refine am_bipush (v := 12) d_Store_init_39 (by decide) ?_
  refine am_newa (at_ := .long) (ty := .long) (N := 12) O rfl (by decide) w_291 d_Store_init_41 (by decide) (by decide) (by decide) (by omega) (by omega) ?_
  refine am_putF O f_Store_23 (fun q hq => by cases hq; exact ⟨w_978, rfl⟩) rfl d_Store_init_43 (by rfl) (by decide) (by decide) (Nat.le_of_ble_eq_true rfl) (fun q hq => by cases hq; exact ⟨rfl, rfl, rfl⟩) ?_
  refine am_aload_n d_Store_init_46 rfl rfl ?_
  refine am_bipush (v := 12) d_Store_init_47 (by decide) ?_
  refine am_newa (at_ := .long) (ty := .long) (N := 12) O rfl (by decide) w_291 d_Store_init_49 (by decide) (by decide) (by decide) (by omega) (by omega) ?_
  refine am_putF O f_Store_26 (fun q hq => by cases hq; exact ⟨w_982, rfl⟩) rfl d_Store_init_51 (by rfl) (by decide) (by decide) (Nat.le_of_ble_eq_true rfl) (fun q hq => by cases hq; exact ⟨rfl, rfl, rfl⟩) ?_
  refine am_aload_n d_Store_init_54 rfl rfl ?_
  refine am_bipush (v := 10) d_Store_init_55 (by decide) ?_
  refine am_anew (N := 10) O (by decide) w_966 x_401 d_Store_init_57 (by decide) (by decide) (by decide) (by omega) (by omega) ?_
  refine am_putF O f_Store_31 (fun q hq => by cases hq; exact ⟨w_987, rfl⟩) rfl d_Store_init_60 (by rfl) (by decide) (by decide) (Nat.le_of_ble_eq_true rfl) (fun q hq => by cases hq; exact ⟨rfl, rfl, rfl⟩) ?_
  refine am_aload_n d_Store_init_63 rfl rfl ?_
  refine am_get O f_Store_16 d_Store_init_64 (by rfl) (by decide) (by decide) rfl ?_
  refine am_iconst (v := (-1)) d_Store_init_67 (by decide) ?_
  refine am_callS O (c_Arr_fill_aII O (by rfl) (by decide) (by decide) (by decide)) rfl l_Store_35 w_968 rfl (Nat.le_of_ble_eq_true rfl) d_Store_init_68 (by omega) (by omega) (by omega) (fun v h' hp => ?_)
  obtain ⟨n1, f1⟩ := h'
  obtain ⟨rfl, e1, g_1314_1, fr1⟩ := hp
  obtain rfl : n1 = 1319 := e1
  have fr1 := fun (x : Nat) (hx : x ∉ ([1314] : List Nat)) => (show f1 x = _ from fr1 x hx)
  have h_1314_1 : f1 1314 = .inl (.int, 100, (fun j => if j < 100 then .int (-1) else (fun _ => .int 0) j)) := g_1314_1
  have h_1312_1 : f1 1312 = .inl (.long, 2000, (fun _ => .long 0)) := (fr1 1312 (by decide)).trans rfl
  have h_1311_1 : f1 1311 = .inr (10, [.ref 1312, .ref 1313, .ref 1314, .ref 1315, .ref 1316, .ref 1317, .int 0, .ref 1318, .int 0]) := (fr1 1311 (by decide)).trans rfl
  have h_1313_1 : f1 1313 = .inl (.long, 2000, (fun _ => .long 0)) := (fr1 1313 (by decide)).trans rfl
  have h_1315_1 : f1 1315 = .inl (.long, 12, (fun _ => .long 0)) := (fr1 1315 (by decide)).trans rfl
  have h_1316_1 : f1 1316 = .inl (.long, 12, (fun _ => .long 0)) := (fr1 1316 (by decide)).trans rfl
  have h_1317_1 : f1 1317 = .inl (.long, 12, (fun _ => .long 0)) := (fr1 1317 (by decide)).trans rfl
  have h_1318_1 : f1 1318 = .inl (.object "StowTongue$Unit", 10, (fun _ => .null)) := (fr1 1318 (by decide)).trans rfl
  exact am_vret rfl d_Store_init_71 ⟨rfl, rfl, h_1312_1, h_1311_1, h_1313_1, h_1314_1, h_1315_1, h_1316_1, h_1317_1, h_1318_1, fun x hx => by simp only [List.mem_cons, List.not_mem_nil, or_false, not_or] at hx; dsimp only; (repeat (first | rw [va_up_ne _ _ (by omega)] | rw [fr1 x (by simp only [List.mem_cons, List.not_mem_nil, or_false, not_or]; omega)]))⟩

set_option maxRecDepth 100000 in
set_option maxHeartbeats 4000000 in
theorem t12_Log_storeAt (O : am_ok K X)   {f : Nat → am_C} (h_154 : f 154 = .inr (7, [.ref 155, .ref 156, .int 0, .int 0])) (h_155 : f 155 = .inl (.object "StowTongue$Store", 10, (fun _ => .null))) : am_Mt K X m_Log_storeAt 2 8 4155 [.ref 154, .int 0] (1311, f) (fun v h' => v = some (.ref 1311) ∧ h'.1 = 1319 ∧ h'.2 1311 = .inr (10, [.ref 1312, .ref 1313, .ref 1314, .ref 1315, .ref 1316, .ref 1317, .int 0, .ref 1318, .int 0]) ∧ h'.2 1312 = .inl (.long, 2000, (fun _ => .long 0)) ∧ h'.2 1313 = .inl (.long, 2000, (fun _ => .long 0)) ∧ h'.2 1314 = .inl (.int, 100, (fun j => if j < 100 then .int (-1) else (fun _ => .int 0) j)) ∧ h'.2 1315 = .inl (.long, 12, (fun _ => .long 0)) ∧ h'.2 1316 = .inl (.long, 12, (fun _ => .long 0)) ∧ h'.2 1317 = .inl (.long, 12, (fun _ => .long 0)) ∧ h'.2 1318 = .inl (.object "StowTongue$Unit", 10, (fun _ => .null)) ∧ h'.2 155 = .inl (.object "StowTongue$Store", 10, (updV (fun _ => .null) 0 (.ref 1311))) ∧ ∀ x, x ∉ ([1311, 1312, 1313, 1314, 1315, 1316, 1317, 1318, 155] : List Nat) → h'.2 x = f x) := by
  refine am_enter (by decide +kernel) (Nat.le_of_ble_eq_true rfl) ?_
  refine am_aload_n d_Log_storeAt_0 rfl rfl ?_
  refine am_get O f_Log_11 d_Log_storeAt_1 (by exact h_154) (by decide) (by decide) rfl ?_
  refine am_iload_n d_Log_storeAt_4 rfl rfl ?_
  refine am_aald (v := .null) O d_Log_storeAt_5 (by exact h_155) (by decide) (by decide) (by decide) rfl (am_in (by decide) (by decide)) rfl ?_
  refine am_astore_nN d_Log_storeAt_6 rfl (by decide) ?_
  refine am_aload_nN d_Log_storeAt_7 rfl rfl ?_
  refine am_ifnonnullN d_Log_storeAt_8 ?_
  refine am_new O n_Log_9 d_Log_storeAt_11 (by omega) (by omega) ?_
  refine am_dup d_Log_storeAt_14 rfl ?_
  refine am_callI O (t11_Store_init O (by rfl)) rfl l_Log_26 w_963 rfl rfl rfl (Nat.le_of_ble_eq_true rfl) d_Log_storeAt_15 (by omega) (by omega) (by omega) (fun v h' hp => ?_)
  obtain ⟨n1, f1⟩ := h'
  obtain ⟨rfl, e1, g_1312_1, g_1311_1, g_1313_1, g_1314_1, g_1315_1, g_1316_1, g_1317_1, g_1318_1, fr1⟩ := hp
  obtain rfl : n1 = 1319 := e1
  have fr1 := fun (x : Nat) (hx : x ∉ ([1312, 1311, 1313, 1314, 1315, 1316, 1317, 1318] : List Nat)) => (show f1 x = _ from fr1 x hx)
  have h_1312_1 : f1 1312 = .inl (.long, 2000, (fun _ => .long 0)) := g_1312_1
  have h_1311_1 : f1 1311 = .inr (10, [.ref 1312, .ref 1313, .ref 1314, .ref 1315, .ref 1316, .ref 1317, .int 0, .ref 1318, .int 0]) := g_1311_1
  have h_1313_1 : f1 1313 = .inl (.long, 2000, (fun _ => .long 0)) := g_1313_1
  have h_1314_1 : f1 1314 = .inl (.int, 100, (fun j => if j < 100 then .int (-1) else (fun _ => .int 0) j)) := g_1314_1
  have h_1315_1 : f1 1315 = .inl (.long, 12, (fun _ => .long 0)) := g_1315_1
  have h_1316_1 : f1 1316 = .inl (.long, 12, (fun _ => .long 0)) := g_1316_1
  have h_1317_1 : f1 1317 = .inl (.long, 12, (fun _ => .long 0)) := g_1317_1
  have h_1318_1 : f1 1318 = .inl (.object "StowTongue$Unit", 10, (fun _ => .null)) := g_1318_1
  refine am_astore_n d_Log_storeAt_18 rfl (by decide) ?_
  refine am_aload_n d_Log_storeAt_19 rfl rfl ?_
  have h_154_1 : f1 154 = .inr (7, [.ref 155, .ref 156, .int 0, .int 0]) := (fr1 154 (by decide)).trans h_154
  refine am_get O f_Log_11 d_Log_storeAt_20 (by exact h_154_1) (by decide) (by decide) rfl ?_
  refine am_iload_n d_Log_storeAt_23 rfl rfl ?_
  refine am_aload_n d_Log_storeAt_24 rfl rfl ?_
  have h_155_1 : f1 155 = .inl (.object "StowTongue$Store", 10, (fun _ => .null)) := (fr1 155 (by decide)).trans h_155
  refine am_aast O d_Log_storeAt_25 (by exact h_155_1) (by decide) (by decide) (by exact h_1311_1) (by decide) (by decide) (by rfl) (by rfl) (by decide) (am_in (by decide) (by decide)) ?_
  refine am_aload_n d_Log_storeAt_26 rfl rfl ?_
  exact am_aret rfl (Or.inl ⟨_, rfl⟩) d_Log_storeAt_27 ⟨rfl, rfl, h_1311_1, h_1312_1, h_1313_1, h_1314_1, h_1315_1, h_1316_1, h_1317_1, h_1318_1, rfl, fun x hx => by simp only [List.mem_cons, List.not_mem_nil, or_false, not_or] at hx; dsimp only; (repeat (first | rw [va_up_ne _ _ (by omega)] | rw [fr1 x (by simp only [List.mem_cons, List.not_mem_nil, or_false, not_or]; omega)]))⟩

set_option maxRecDepth 100000 in
set_option maxHeartbeats 4000000 in
theorem t13_Log_latest (O : am_ok K X)   {f : Nat → am_C} (h_154 : f 154 = .inr (7, [.ref 155, .ref 156, .int 0, .int 0])) (h_155 : f 155 = .inl (.object "StowTongue$Store", 10, (fun _ => .null))) : am_Mt K X m_Log_latest 3 8 4155 [.ref 154] (1311, f) (fun v h' => v = some (.ref 1311) ∧ h'.1 = 1319 ∧ h'.2 1311 = .inr (10, [.ref 1312, .ref 1313, .ref 1314, .ref 1315, .ref 1316, .ref 1317, .int 0, .ref 1318, .int 0]) ∧ h'.2 1312 = .inl (.long, 2000, (fun _ => .long 0)) ∧ h'.2 1313 = .inl (.long, 2000, (fun _ => .long 0)) ∧ h'.2 1314 = .inl (.int, 100, (fun j => if j < 100 then .int (-1) else (fun _ => .int 0) j)) ∧ h'.2 1315 = .inl (.long, 12, (fun _ => .long 0)) ∧ h'.2 1316 = .inl (.long, 12, (fun _ => .long 0)) ∧ h'.2 1317 = .inl (.long, 12, (fun _ => .long 0)) ∧ h'.2 1318 = .inl (.object "StowTongue$Unit", 10, (fun _ => .null)) ∧ h'.2 155 = .inl (.object "StowTongue$Store", 10, (updV (fun _ => .null) 0 (.ref 1311))) ∧ ∀ x, x ∉ ([1311, 1312, 1313, 1314, 1315, 1316, 1317, 1318, 155] : List Nat) → h'.2 x = f x) := by
  refine am_enter (by decide +kernel) (Nat.le_of_ble_eq_true rfl) ?_
  refine am_aload_n d_Log_latest_0 rfl rfl ?_
  refine am_aload_n d_Log_latest_1 rfl rfl ?_
  refine am_get O f_Log_27 d_Log_latest_2 (by exact h_154) (by decide) (by decide) rfl ?_
  refine am_callV O (t12_Log_storeAt O (by exact h_154) (by exact h_155)) rfl (by exact h_154) (by decide) (by decide) rfl rfl l_Log_31 ⟨w_959, w_40⟩ rfl (Nat.le_of_ble_eq_true rfl) d_Log_latest_5 (by omega) (by omega) (by omega) (fun v h' hp => ?_)
  obtain ⟨n1, f1⟩ := h'
  obtain ⟨rfl, e1, g_1311_1, g_1312_1, g_1313_1, g_1314_1, g_1315_1, g_1316_1, g_1317_1, g_1318_1, g_155_1, fr1⟩ := hp
  obtain rfl : n1 = 1319 := e1
  have fr1 := fun (x : Nat) (hx : x ∉ ([1311, 1312, 1313, 1314, 1315, 1316, 1317, 1318, 155] : List Nat)) => (show f1 x = _ from fr1 x hx)
  have h_1311_1 : f1 1311 = .inr (10, [.ref 1312, .ref 1313, .ref 1314, .ref 1315, .ref 1316, .ref 1317, .int 0, .ref 1318, .int 0]) := g_1311_1
  have h_1312_1 : f1 1312 = .inl (.long, 2000, (fun _ => .long 0)) := g_1312_1
  have h_1313_1 : f1 1313 = .inl (.long, 2000, (fun _ => .long 0)) := g_1313_1
  have h_1314_1 : f1 1314 = .inl (.int, 100, (fun j => if j < 100 then .int (-1) else (fun _ => .int 0) j)) := g_1314_1
  have h_1315_1 : f1 1315 = .inl (.long, 12, (fun _ => .long 0)) := g_1315_1
  have h_1316_1 : f1 1316 = .inl (.long, 12, (fun _ => .long 0)) := g_1316_1
  have h_1317_1 : f1 1317 = .inl (.long, 12, (fun _ => .long 0)) := g_1317_1
  have h_1318_1 : f1 1318 = .inl (.object "StowTongue$Unit", 10, (fun _ => .null)) := g_1318_1
  have h_155_1 : f1 155 = .inl (.object "StowTongue$Store", 10, (updV (fun _ => .null) 0 (.ref 1311))) := g_155_1
  exact am_aret rfl (Or.inl ⟨_, rfl⟩) d_Log_latest_8 ⟨rfl, rfl, h_1311_1, h_1312_1, h_1313_1, h_1314_1, h_1315_1, h_1316_1, h_1317_1, h_1318_1, h_155_1, fun x hx => by simp only [List.mem_cons, List.not_mem_nil, or_false, not_or] at hx; dsimp only; (repeat (first | rw [va_up_ne _ _ (by omega)] | rw [fr1 x (by simp only [List.mem_cons, List.not_mem_nil, or_false, not_or]; omega)]))⟩

set_option maxRecDepth 100000 in
set_option maxHeartbeats 4000000 in
theorem a_root_c (O : am_ok K X)   {f : Nat → am_C} (h_128 : f 128 = .inr (9, [.ref 129, .int 0, .ref 130, .ref 132, .ref 148, .ref 154, .ref 157, .long 0, .long 0, .int 0])) (h_154 : f 154 = .inr (7, [.ref 155, .ref 156, .int 0, .int 0])) (h_155 : f 155 = .inl (.object "StowTongue$Store", 10, (fun _ => .null))) : am_Mt K X m_Stow_root 4 8 4155 [.ref 128] (1311, f) (fun v h' => v = some (.long 1099511627776) ∧ h'.1 = 1319 ∧ h'.2 128 = .inr (9, [.ref 129, .int 0, .ref 130, .ref 132, .ref 148, .ref 154, .ref 157, .long 0, .long 0, .int 0]) ∧ h'.2 1311 = .inr (10, [.ref 1312, .ref 1313, .ref 1314, .ref 1315, .ref 1316, .ref 1317, .int 0, .ref 1318, .int 0]) ∧ h'.2 1312 = .inl (.long, 2000, (fun _ => .long 0)) ∧ h'.2 1313 = .inl (.long, 2000, (fun _ => .long 0)) ∧ h'.2 1314 = .inl (.int, 100, (fun j => if j < 100 then .int (-1) else (fun _ => .int 0) j)) ∧ h'.2 1315 = .inl (.long, 12, (fun _ => .long 0)) ∧ h'.2 1316 = .inl (.long, 12, (fun _ => .long 0)) ∧ h'.2 1317 = .inl (.long, 12, (fun _ => .long 0)) ∧ h'.2 1318 = .inl (.object "StowTongue$Unit", 10, (fun _ => .null)) ∧ h'.2 155 = .inl (.object "StowTongue$Store", 10, (updV (fun _ => .null) 0 (.ref 1311))) ∧ ∀ x, x ∉ ([128, 1311, 1312, 1313, 1314, 1315, 1316, 1317, 1318, 155] : List Nat) → h'.2 x = f x) := by
  refine am_enter (by decide +kernel) (Nat.le_of_ble_eq_true rfl) ?_
  refine am_aload_n d_Stow_root_0 rfl rfl ?_
  refine am_get O f_Stow_9 d_Stow_root_1 (by exact h_128) (by decide) (by decide) rfl ?_
  refine am_aload_n d_Stow_root_4 rfl rfl ?_
  refine am_get O f_Stow_48 d_Stow_root_5 (by exact h_128) (by decide) (by decide) rfl ?_
  refine am_callS O (t10_Lexer_wholeName O) rfl l_Stow_145 w_1400 rfl (Nat.le_of_ble_eq_true rfl) d_Stow_root_8 (by omega) (by omega) (by omega) (fun v h' hp => ?_)
  obtain ⟨rfl, rfl⟩ := hp
  refine am_lstore_n d_Stow_root_11 rfl (by decide) ?_
  refine am_aload_n d_Stow_root_12 rfl rfl ?_
  refine am_iconst (v := 0) d_Stow_root_13 (by decide) ?_
  refine am_put O f_Stow_48 d_Stow_root_14 (by exact h_128) (by decide) (by decide) (Nat.le_of_ble_eq_true rfl) (fun q hq => by cases hq; exact ⟨rfl, rfl, rfl⟩) ?_
  refine am_aload_n d_Stow_root_17 rfl rfl ?_
  refine am_get O f_Stow_37 d_Stow_root_18 (by rfl) (by decide) (by decide) rfl ?_
  refine am_callV O (t13_Log_latest O (by exact h_154) (by exact h_155)) rfl (by exact h_154) (by decide) (by decide) rfl rfl l_Stow_103 ⟨w_1009, w_1010⟩ rfl (Nat.le_of_ble_eq_true rfl) d_Stow_root_21 (by omega) (by omega) (by omega) (fun v h' hp => ?_)
  obtain ⟨n1, f1⟩ := h'
  obtain ⟨rfl, e1, g_1311_1, g_1312_1, g_1313_1, g_1314_1, g_1315_1, g_1316_1, g_1317_1, g_1318_1, g_155_1, fr1⟩ := hp
  obtain rfl : n1 = 1319 := e1
  have fr1 := fun (x : Nat) (hx : x ∉ ([1311, 1312, 1313, 1314, 1315, 1316, 1317, 1318, 155] : List Nat)) => (show f1 x = _ from fr1 x hx)
  have h_1311_1 : f1 1311 = .inr (10, [.ref 1312, .ref 1313, .ref 1314, .ref 1315, .ref 1316, .ref 1317, .int 0, .ref 1318, .int 0]) := g_1311_1
  have h_1312_1 : f1 1312 = .inl (.long, 2000, (fun _ => .long 0)) := g_1312_1
  have h_1313_1 : f1 1313 = .inl (.long, 2000, (fun _ => .long 0)) := g_1313_1
  have h_1314_1 : f1 1314 = .inl (.int, 100, (fun j => if j < 100 then .int (-1) else (fun _ => .int 0) j)) := g_1314_1
  have h_1315_1 : f1 1315 = .inl (.long, 12, (fun _ => .long 0)) := g_1315_1
  have h_1316_1 : f1 1316 = .inl (.long, 12, (fun _ => .long 0)) := g_1316_1
  have h_1317_1 : f1 1317 = .inl (.long, 12, (fun _ => .long 0)) := g_1317_1
  have h_1318_1 : f1 1318 = .inl (.object "StowTongue$Unit", 10, (fun _ => .null)) := g_1318_1
  have h_155_1 : f1 155 = .inl (.object "StowTongue$Store", 10, (updV (fun _ => .null) 0 (.ref 1311))) := g_155_1
  refine am_astore_n d_Stow_root_24 rfl (by decide) ?_
  refine am_lload_n d_Stow_root_25 rfl rfl ?_
  refine am_lconst (v := 0) d_Stow_root_26 (by decide) ?_
  refine am_lcmp d_Stow_root_27 ?_
  refine am_topi (v := 0) (by decide) ?_
  refine am_if_ne (tgt := 35) d_Stow_root_28 (by decide) (fun c => absurd (by decide) c) (fun _ => ?_)
  refine am_iconst (v := (-1)) d_Stow_root_31 (by decide) ?_
  refine am_goto (tgt := 40) d_Stow_root_32 (by decide) ?_
  refine am_istore d_Stow_root_40 (by decide) ?_
  refine am_iload d_Stow_root_42 rfl ?_
  refine am_if_ge (tgt := 51) d_Stow_root_44 (by decide) (fun c => absurd c (by decide)) (fun _ => ?_)
  refine am_ldc2 (v := 1099511627776) w_1382 d_Stow_root_47 ?_
  have h_128_1 : f1 128 = .inr (9, [.ref 129, .int 0, .ref 130, .ref 132, .ref 148, .ref 154, .ref 157, .long 0, .long 0, .int 0]) := (fr1 128 (by decide)).trans rfl
  exact am_lret rfl d_Stow_root_50 ⟨rfl, rfl, h_128_1, h_1311_1, h_1312_1, h_1313_1, h_1314_1, h_1315_1, h_1316_1, h_1317_1, h_1318_1, h_155_1, fun x hx => by simp only [List.mem_cons, List.not_mem_nil, or_false, not_or] at hx; dsimp only; (repeat (first | rw [va_up_ne _ _ (by omega)] | rw [fr1 x (by simp only [List.mem_cons, List.not_mem_nil, or_false, not_or]; omega)]))⟩

set_option maxRecDepth 100000 in
set_option maxHeartbeats 4000000 in
theorem t15_State_findRoot (O : am_ok K X)   {f : Nat → am_C} (h_187 : f 187 = .inr (13, [.ref 188, .ref 189, .ref 190, .ref 191, .ref 192, .ref 193, .ref 198, .ref 203, .int 0, .int 0, .int 0, .int 0])) : am_Mt K X m_State_findRoot 0 0 0 [.ref 187, .long 0] (1319, f) (fun v h' => v = some (.int (-1)) ∧ h' = (1319, f)) := by
  refine am_enter (by decide +kernel) (Nat.le_of_ble_eq_true rfl) ?_
  refine am_iconst (v := 0) d_State_findRoot_0 (by decide) ?_
  refine am_istore_n d_State_findRoot_1 rfl (by decide) ?_
  refine am_iload_n d_State_findRoot_2 rfl rfl ?_
  refine am_aload_n d_State_findRoot_3 rfl rfl ?_
  refine am_get O f_State_60 d_State_findRoot_4 (by exact h_187) (by decide) (by decide) rfl ?_
  refine am_icmp_ge (tgt := 29) d_State_findRoot_7 (by decide) (fun _ => ?_) (fun c => absurd (by decide) c)
  refine am_iconst (v := (-1)) d_State_findRoot_29 (by decide) ?_
  exact am_iret rfl d_State_findRoot_30 ⟨rfl, rfl⟩

set_option maxRecDepth 100000 in
set_option maxHeartbeats 4000000 in
theorem a_root_m (O : am_ok K X)   {f : Nat → am_C} (h_160 : f 160 = .inr (14, [.ref 161, .ref 162, .int 0, .int 0, .int 0, .int 0, .int 0, .int 0, .int 0, .int 0, .int 0, .long 0, .ref 163, .ref 170, .ref 171, .ref 172, .ref 173, .ref 174, .ref 175, .ref 176, .int 0, .ref 177, .null, .ref 184, .int 0, .int 0, .ref 185, .int 0, .ref 186, .int 0, .ref 187, .ref 204, .ref 221, .ref 238, .int 0, .int 0, .ref 239, .ref 240, .ref 245, .ref 250, .ref 255, .int 0, .int 0, .int 0, .int 0, .int 0, .int 0, .ref 260, .ref 261, .ref 262, .ref 263, .ref 264, .int 0])) (h_187 : f 187 = .inr (13, [.ref 188, .ref 189, .ref 190, .ref 191, .ref 192, .ref 193, .ref 198, .ref 203, .int 0, .int 0, .int 0, .int 0])) : am_Mt K X m_Mod_root 1 0 0 [.ref 160] (1319, f) (fun v h' => v = some (.long 1099511627776) ∧ h'.1 = 1319 ∧ h'.2 160 = .inr (14, [.ref 161, .ref 162, .int 0, .int 0, .int 0, .int 0, .int 0, .int 0, .int 0, .int 0, .int 0, .long 0, .ref 163, .ref 170, .ref 171, .ref 172, .ref 173, .ref 174, .ref 175, .ref 176, .int 0, .ref 177, .null, .ref 184, .int 0, .int 0, .ref 185, .int 0, .ref 186, .int 0, .ref 187, .ref 204, .ref 221, .ref 238, .int 0, .int 0, .ref 239, .ref 240, .ref 245, .ref 250, .ref 255, .int 0, .int 0, .int 0, .int 0, .int 0, .int 0, .ref 260, .ref 261, .ref 262, .ref 263, .ref 264, .int 0]) ∧ ∀ x, x ∉ ([160] : List Nat) → h'.2 x = f x) := by
  refine am_enter (by decide +kernel) (Nat.le_of_ble_eq_true rfl) ?_
  refine am_aload_n d_Mod_root_0 rfl rfl ?_
  refine am_get O f_Mod_134 d_Mod_root_1 (by exact h_160) (by decide) (by decide) rfl ?_
  refine am_istore_n d_Mod_root_4 rfl (by decide) ?_
  refine am_aload_n d_Mod_root_5 rfl rfl ?_
  refine am_iconst (v := 0) d_Mod_root_6 (by decide) ?_
  refine am_put O f_Mod_134 d_Mod_root_7 (by exact h_160) (by decide) (by decide) (Nat.le_of_ble_eq_true rfl) (fun q hq => by cases hq; exact ⟨rfl, rfl, rfl⟩) ?_
  refine am_lconst (v := 0) d_Mod_root_10 (by decide) ?_
  refine am_lstore_n d_Mod_root_11 rfl (by decide) ?_
  refine am_iconst (v := 0) d_Mod_root_12 (by decide) ?_
  refine am_istore d_Mod_root_13 (by decide) ?_
  refine am_iload d_Mod_root_15 rfl ?_
  refine am_iload_n d_Mod_root_17 rfl rfl ?_
  refine am_icmp_ge (tgt := 65) d_Mod_root_18 (by decide) (fun _ => ?_) (fun c => absurd (by decide) c)
  refine am_aload_n d_Mod_root_65 rfl rfl ?_
  refine am_get O f_Mod_349 d_Mod_root_66 (by rfl) (by decide) (by decide) rfl ?_
  refine am_lload_n d_Mod_root_69 rfl rfl ?_
  refine am_callV O (t15_State_findRoot O (by exact h_187)) rfl (by exact h_187) (by decide) (by decide) rfl rfl l_Mod_469 ⟨w_2043, w_2044⟩ rfl (Nat.le_of_ble_eq_true rfl) d_Mod_root_70 (by omega) (by omega) (by omega) (fun v h' hp => ?_)
  obtain ⟨rfl, rfl⟩ := hp
  refine am_istore d_Mod_root_73 (by decide) ?_
  refine am_iload d_Mod_root_75 rfl ?_
  refine am_if_ge (tgt := 84) d_Mod_root_77 (by decide) (fun c => absurd c (by decide)) (fun _ => ?_)
  refine am_ldc2 (v := 1099511627776) w_1823 d_Mod_root_80 ?_
  exact am_lret rfl d_Mod_root_83 ⟨rfl, rfl, rfl, fun x hx => by simp only [List.mem_cons, List.not_mem_nil, or_false, not_or] at hx; dsimp only; (repeat (first | rw [va_up_ne _ _ (by omega)]))⟩

set_option maxRecDepth 100000 in
set_option maxHeartbeats 4000000 in
theorem t17_Log_storeAt (O : am_ok K X)   {f : Nat → am_C} (h_154 : f 154 = .inr (7, [.ref 155, .ref 156, .int 0, .int 0])) (h_155 : f 155 = .inl (.object "StowTongue$Store", 10, (fun _ => .null))) : am_Mt K X m_Log_storeAt 2 8 4155 [.ref 154, .int 1] (1311, f) (fun v h' => v = some (.ref 1311) ∧ h'.1 = 1319 ∧ h'.2 1311 = .inr (10, [.ref 1312, .ref 1313, .ref 1314, .ref 1315, .ref 1316, .ref 1317, .int 0, .ref 1318, .int 0]) ∧ h'.2 1312 = .inl (.long, 2000, (fun _ => .long 0)) ∧ h'.2 1313 = .inl (.long, 2000, (fun _ => .long 0)) ∧ h'.2 1314 = .inl (.int, 100, (fun j => if j < 100 then .int (-1) else (fun _ => .int 0) j)) ∧ h'.2 1315 = .inl (.long, 12, (fun _ => .long 0)) ∧ h'.2 1316 = .inl (.long, 12, (fun _ => .long 0)) ∧ h'.2 1317 = .inl (.long, 12, (fun _ => .long 0)) ∧ h'.2 1318 = .inl (.object "StowTongue$Unit", 10, (fun _ => .null)) ∧ h'.2 155 = .inl (.object "StowTongue$Store", 10, (updV (fun _ => .null) 1 (.ref 1311))) ∧ ∀ x, x ∉ ([1311, 1312, 1313, 1314, 1315, 1316, 1317, 1318, 155] : List Nat) → h'.2 x = f x) := by
  refine am_enter (by decide +kernel) (Nat.le_of_ble_eq_true rfl) ?_
  refine am_aload_n d_Log_storeAt_0 rfl rfl ?_
  refine am_get O f_Log_11 d_Log_storeAt_1 (by exact h_154) (by decide) (by decide) rfl ?_
  refine am_iload_n d_Log_storeAt_4 rfl rfl ?_
  refine am_aald (v := .null) O d_Log_storeAt_5 (by exact h_155) (by decide) (by decide) (by decide) rfl (am_in (by decide) (by decide)) rfl ?_
  refine am_astore_nN d_Log_storeAt_6 rfl (by decide) ?_
  refine am_aload_nN d_Log_storeAt_7 rfl rfl ?_
  refine am_ifnonnullN d_Log_storeAt_8 ?_
  refine am_new O n_Log_9 d_Log_storeAt_11 (by omega) (by omega) ?_
  refine am_dup d_Log_storeAt_14 rfl ?_
  refine am_callI O (t11_Store_init O (by rfl)) rfl l_Log_26 w_963 rfl rfl rfl (Nat.le_of_ble_eq_true rfl) d_Log_storeAt_15 (by omega) (by omega) (by omega) (fun v h' hp => ?_)
  obtain ⟨n1, f1⟩ := h'
  obtain ⟨rfl, e1, g_1312_1, g_1311_1, g_1313_1, g_1314_1, g_1315_1, g_1316_1, g_1317_1, g_1318_1, fr1⟩ := hp
  obtain rfl : n1 = 1319 := e1
  have fr1 := fun (x : Nat) (hx : x ∉ ([1312, 1311, 1313, 1314, 1315, 1316, 1317, 1318] : List Nat)) => (show f1 x = _ from fr1 x hx)
  have h_1312_1 : f1 1312 = .inl (.long, 2000, (fun _ => .long 0)) := g_1312_1
  have h_1311_1 : f1 1311 = .inr (10, [.ref 1312, .ref 1313, .ref 1314, .ref 1315, .ref 1316, .ref 1317, .int 0, .ref 1318, .int 0]) := g_1311_1
  have h_1313_1 : f1 1313 = .inl (.long, 2000, (fun _ => .long 0)) := g_1313_1
  have h_1314_1 : f1 1314 = .inl (.int, 100, (fun j => if j < 100 then .int (-1) else (fun _ => .int 0) j)) := g_1314_1
  have h_1315_1 : f1 1315 = .inl (.long, 12, (fun _ => .long 0)) := g_1315_1
  have h_1316_1 : f1 1316 = .inl (.long, 12, (fun _ => .long 0)) := g_1316_1
  have h_1317_1 : f1 1317 = .inl (.long, 12, (fun _ => .long 0)) := g_1317_1
  have h_1318_1 : f1 1318 = .inl (.object "StowTongue$Unit", 10, (fun _ => .null)) := g_1318_1
  refine am_astore_n d_Log_storeAt_18 rfl (by decide) ?_
  refine am_aload_n d_Log_storeAt_19 rfl rfl ?_
  have h_154_1 : f1 154 = .inr (7, [.ref 155, .ref 156, .int 0, .int 0]) := (fr1 154 (by decide)).trans h_154
  refine am_get O f_Log_11 d_Log_storeAt_20 (by exact h_154_1) (by decide) (by decide) rfl ?_
  refine am_iload_n d_Log_storeAt_23 rfl rfl ?_
  refine am_aload_n d_Log_storeAt_24 rfl rfl ?_
  have h_155_1 : f1 155 = .inl (.object "StowTongue$Store", 10, (fun _ => .null)) := (fr1 155 (by decide)).trans h_155
  refine am_aast O d_Log_storeAt_25 (by exact h_155_1) (by decide) (by decide) (by exact h_1311_1) (by decide) (by decide) (by rfl) (by rfl) (by decide) (am_in (by decide) (by decide)) ?_
  refine am_aload_n d_Log_storeAt_26 rfl rfl ?_
  exact am_aret rfl (Or.inl ⟨_, rfl⟩) d_Log_storeAt_27 ⟨rfl, rfl, h_1311_1, h_1312_1, h_1313_1, h_1314_1, h_1315_1, h_1316_1, h_1317_1, h_1318_1, rfl, fun x hx => by simp only [List.mem_cons, List.not_mem_nil, or_false, not_or] at hx; dsimp only; (repeat (first | rw [va_up_ne _ _ (by omega)] | rw [fr1 x (by simp only [List.mem_cons, List.not_mem_nil, or_false, not_or]; omega)]))⟩

set_option maxRecDepth 100000 in
set_option maxHeartbeats 4000000 in
theorem t18_Store_init (O : am_ok K X)   {f : Nat → am_C} (h_1319 : f 1319 = .inr (10, [.null, .null, .null, .null, .null, .null, .int 0, .null, .int 0])) : am_Mt K X m_Store_init 1 7 4146 [.ref 1319] (1320, f) (fun v h' => v = none ∧ h'.1 = 1327 ∧ h'.2 1320 = .inl (.long, 2000, (fun _ => .long 0)) ∧ h'.2 1319 = .inr (10, [.ref 1320, .ref 1321, .ref 1322, .ref 1323, .ref 1324, .ref 1325, .int 0, .ref 1326, .int 0]) ∧ h'.2 1321 = .inl (.long, 2000, (fun _ => .long 0)) ∧ h'.2 1322 = .inl (.int, 100, (fun j => if j < 100 then .int (-1) else (fun _ => .int 0) j)) ∧ h'.2 1323 = .inl (.long, 12, (fun _ => .long 0)) ∧ h'.2 1324 = .inl (.long, 12, (fun _ => .long 0)) ∧ h'.2 1325 = .inl (.long, 12, (fun _ => .long 0)) ∧ h'.2 1326 = .inl (.object "StowTongue$Unit", 10, (fun _ => .null)) ∧ ∀ x, x ∉ ([1320, 1319, 1321, 1322, 1323, 1324, 1325, 1326] : List Nat) → h'.2 x = f x) := by
  refine am_enter (by decide +kernel) (Nat.le_of_ble_eq_true rfl) ?_
  refine am_aload_n d_Store_init_0 rfl rfl ?_
  refine am_obj w_965 w_177 w_178 d_Store_init_1 (by omega) (Nat.le_of_ble_eq_true rfl) ?_
  refine am_aload_n d_Store_init_4 rfl rfl ?_
  refine am_sipush (v := 2000) d_Store_init_5 (by decide) ?_
  refine am_newa (at_ := .long) (ty := .long) (N := 2000) O rfl (by decide) w_291 d_Store_init_8 (by decide) (by decide) (by decide) (by omega) (by omega) ?_
  refine am_putF O f_Store_9 (fun q hq => by cases hq; exact ⟨w_970, rfl⟩) rfl d_Store_init_10 (by exact h_1319) (by decide) (by decide) (Nat.le_of_ble_eq_true rfl) (fun q hq => by cases hq; exact ⟨rfl, rfl, rfl⟩) ?_
  refine am_aload_n d_Store_init_13 rfl rfl ?_
  refine am_sipush (v := 2000) d_Store_init_14 (by decide) ?_
  refine am_newa (at_ := .long) (ty := .long) (N := 2000) O rfl (by decide) w_291 d_Store_init_17 (by decide) (by decide) (by decide) (by omega) (by omega) ?_
  refine am_putF O f_Store_13 (fun q hq => by cases hq; exact ⟨w_973, rfl⟩) rfl d_Store_init_19 (by rfl) (by decide) (by decide) (Nat.le_of_ble_eq_true rfl) (fun q hq => by cases hq; exact ⟨rfl, rfl, rfl⟩) ?_
  refine am_aload_n d_Store_init_22 rfl rfl ?_
  refine am_bipush (v := 100) d_Store_init_23 (by decide) ?_
  refine am_newa (at_ := .int) (ty := .int) (N := 100) O rfl (by decide) w_317 d_Store_init_25 (by decide) (by decide) (by decide) (by omega) (by omega) ?_
  refine am_putF O f_Store_16 (fun q hq => by cases hq; exact ⟨w_976, rfl⟩) rfl d_Store_init_27 (by rfl) (by decide) (by decide) (Nat.le_of_ble_eq_true rfl) (fun q hq => by cases hq; exact ⟨rfl, rfl, rfl⟩) ?_
  refine am_aload_n d_Store_init_30 rfl rfl ?_
  refine am_bipush (v := 12) d_Store_init_31 (by decide) ?_
  refine am_newa (at_ := .long) (ty := .long) (N := 12) O rfl (by decide) w_291 d_Store_init_33 (by decide) (by decide) (by decide) (by omega) (by omega) ?_
  refine am_putF O f_Store_20 (fun q hq => by cases hq; exact ⟨w_977, rfl⟩) rfl d_Store_init_35 (by rfl) (by decide) (by decide) (Nat.le_of_ble_eq_true rfl) (fun q hq => by cases hq; exact ⟨rfl, rfl, rfl⟩) ?_
  refine am_aload_n d_Store_init_38 rfl rfl ?_
  refine am_bipush (v := 12) d_Store_init_39 (by decide) ?_
  refine am_newa (at_ := .long) (ty := .long) (N := 12) O rfl (by decide) w_291 d_Store_init_41 (by decide) (by decide) (by decide) (by omega) (by omega) ?_
  refine am_putF O f_Store_23 (fun q hq => by cases hq; exact ⟨w_978, rfl⟩) rfl d_Store_init_43 (by rfl) (by decide) (by decide) (Nat.le_of_ble_eq_true rfl) (fun q hq => by cases hq; exact ⟨rfl, rfl, rfl⟩) ?_
  refine am_aload_n d_Store_init_46 rfl rfl ?_
  refine am_bipush (v := 12) d_Store_init_47 (by decide) ?_
  refine am_newa (at_ := .long) (ty := .long) (N := 12) O rfl (by decide) w_291 d_Store_init_49 (by decide) (by decide) (by decide) (by omega) (by omega) ?_
  refine am_putF O f_Store_26 (fun q hq => by cases hq; exact ⟨w_982, rfl⟩) rfl d_Store_init_51 (by rfl) (by decide) (by decide) (Nat.le_of_ble_eq_true rfl) (fun q hq => by cases hq; exact ⟨rfl, rfl, rfl⟩) ?_
  refine am_aload_n d_Store_init_54 rfl rfl ?_
  refine am_bipush (v := 10) d_Store_init_55 (by decide) ?_
  refine am_anew (N := 10) O (by decide) w_966 x_401 d_Store_init_57 (by decide) (by decide) (by decide) (by omega) (by omega) ?_
  refine am_putF O f_Store_31 (fun q hq => by cases hq; exact ⟨w_987, rfl⟩) rfl d_Store_init_60 (by rfl) (by decide) (by decide) (Nat.le_of_ble_eq_true rfl) (fun q hq => by cases hq; exact ⟨rfl, rfl, rfl⟩) ?_
  refine am_aload_n d_Store_init_63 rfl rfl ?_
  refine am_get O f_Store_16 d_Store_init_64 (by rfl) (by decide) (by decide) rfl ?_
  refine am_iconst (v := (-1)) d_Store_init_67 (by decide) ?_
  refine am_callS O (c_Arr_fill_aII O (by rfl) (by decide) (by decide) (by decide)) rfl l_Store_35 w_968 rfl (Nat.le_of_ble_eq_true rfl) d_Store_init_68 (by omega) (by omega) (by omega) (fun v h' hp => ?_)
  obtain ⟨n1, f1⟩ := h'
  obtain ⟨rfl, e1, g_1322_1, fr1⟩ := hp
  obtain rfl : n1 = 1327 := e1
  have fr1 := fun (x : Nat) (hx : x ∉ ([1322] : List Nat)) => (show f1 x = _ from fr1 x hx)
  have h_1322_1 : f1 1322 = .inl (.int, 100, (fun j => if j < 100 then .int (-1) else (fun _ => .int 0) j)) := g_1322_1
  have h_1320_1 : f1 1320 = .inl (.long, 2000, (fun _ => .long 0)) := (fr1 1320 (by decide)).trans rfl
  have h_1319_1 : f1 1319 = .inr (10, [.ref 1320, .ref 1321, .ref 1322, .ref 1323, .ref 1324, .ref 1325, .int 0, .ref 1326, .int 0]) := (fr1 1319 (by decide)).trans rfl
  have h_1321_1 : f1 1321 = .inl (.long, 2000, (fun _ => .long 0)) := (fr1 1321 (by decide)).trans rfl
  have h_1323_1 : f1 1323 = .inl (.long, 12, (fun _ => .long 0)) := (fr1 1323 (by decide)).trans rfl
  have h_1324_1 : f1 1324 = .inl (.long, 12, (fun _ => .long 0)) := (fr1 1324 (by decide)).trans rfl
  have h_1325_1 : f1 1325 = .inl (.long, 12, (fun _ => .long 0)) := (fr1 1325 (by decide)).trans rfl
  have h_1326_1 : f1 1326 = .inl (.object "StowTongue$Unit", 10, (fun _ => .null)) := (fr1 1326 (by decide)).trans rfl
  exact am_vret rfl d_Store_init_71 ⟨rfl, rfl, h_1320_1, h_1319_1, h_1321_1, h_1322_1, h_1323_1, h_1324_1, h_1325_1, h_1326_1, fun x hx => by simp only [List.mem_cons, List.not_mem_nil, or_false, not_or] at hx; dsimp only; (repeat (first | rw [va_up_ne _ _ (by omega)] | rw [fr1 x (by simp only [List.mem_cons, List.not_mem_nil, or_false, not_or]; omega)]))⟩

set_option maxRecDepth 100000 in
set_option maxHeartbeats 4000000 in
theorem t19_Log_storeAt (O : am_ok K X)   {f : Nat → am_C} (h_154 : f 154 = .inr (7, [.ref 155, .ref 156, .int 0, .int 0])) (h_155 : f 155 = .inl (.object "StowTongue$Store", 10, (updV (fun _ => .null) 1 (.ref 1311)))) : am_Mt K X m_Log_storeAt 2 8 4155 [.ref 154, .int 0] (1319, f) (fun v h' => v = some (.ref 1319) ∧ h'.1 = 1327 ∧ h'.2 1319 = .inr (10, [.ref 1320, .ref 1321, .ref 1322, .ref 1323, .ref 1324, .ref 1325, .int 0, .ref 1326, .int 0]) ∧ h'.2 1320 = .inl (.long, 2000, (fun _ => .long 0)) ∧ h'.2 1321 = .inl (.long, 2000, (fun _ => .long 0)) ∧ h'.2 1322 = .inl (.int, 100, (fun j => if j < 100 then .int (-1) else (fun _ => .int 0) j)) ∧ h'.2 1323 = .inl (.long, 12, (fun _ => .long 0)) ∧ h'.2 1324 = .inl (.long, 12, (fun _ => .long 0)) ∧ h'.2 1325 = .inl (.long, 12, (fun _ => .long 0)) ∧ h'.2 1326 = .inl (.object "StowTongue$Unit", 10, (fun _ => .null)) ∧ h'.2 155 = .inl (.object "StowTongue$Store", 10, (updV (updV (fun _ => .null) 1 (.ref 1311)) 0 (.ref 1319))) ∧ ∀ x, x ∉ ([1319, 1320, 1321, 1322, 1323, 1324, 1325, 1326, 155] : List Nat) → h'.2 x = f x) := by
  refine am_enter (by decide +kernel) (Nat.le_of_ble_eq_true rfl) ?_
  refine am_aload_n d_Log_storeAt_0 rfl rfl ?_
  refine am_get O f_Log_11 d_Log_storeAt_1 (by exact h_154) (by decide) (by decide) rfl ?_
  refine am_iload_n d_Log_storeAt_4 rfl rfl ?_
  refine am_aald (v := .null) O d_Log_storeAt_5 (by exact h_155) (by decide) (by decide) (by decide) rfl (am_in (by decide) (by decide)) rfl ?_
  refine am_astore_nN d_Log_storeAt_6 rfl (by decide) ?_
  refine am_aload_nN d_Log_storeAt_7 rfl rfl ?_
  refine am_ifnonnullN d_Log_storeAt_8 ?_
  refine am_new O n_Log_9 d_Log_storeAt_11 (by omega) (by omega) ?_
  refine am_dup d_Log_storeAt_14 rfl ?_
  refine am_callI O (t18_Store_init O (by rfl)) rfl l_Log_26 w_963 rfl rfl rfl (Nat.le_of_ble_eq_true rfl) d_Log_storeAt_15 (by omega) (by omega) (by omega) (fun v h' hp => ?_)
  obtain ⟨n1, f1⟩ := h'
  obtain ⟨rfl, e1, g_1320_1, g_1319_1, g_1321_1, g_1322_1, g_1323_1, g_1324_1, g_1325_1, g_1326_1, fr1⟩ := hp
  obtain rfl : n1 = 1327 := e1
  have fr1 := fun (x : Nat) (hx : x ∉ ([1320, 1319, 1321, 1322, 1323, 1324, 1325, 1326] : List Nat)) => (show f1 x = _ from fr1 x hx)
  have h_1320_1 : f1 1320 = .inl (.long, 2000, (fun _ => .long 0)) := g_1320_1
  have h_1319_1 : f1 1319 = .inr (10, [.ref 1320, .ref 1321, .ref 1322, .ref 1323, .ref 1324, .ref 1325, .int 0, .ref 1326, .int 0]) := g_1319_1
  have h_1321_1 : f1 1321 = .inl (.long, 2000, (fun _ => .long 0)) := g_1321_1
  have h_1322_1 : f1 1322 = .inl (.int, 100, (fun j => if j < 100 then .int (-1) else (fun _ => .int 0) j)) := g_1322_1
  have h_1323_1 : f1 1323 = .inl (.long, 12, (fun _ => .long 0)) := g_1323_1
  have h_1324_1 : f1 1324 = .inl (.long, 12, (fun _ => .long 0)) := g_1324_1
  have h_1325_1 : f1 1325 = .inl (.long, 12, (fun _ => .long 0)) := g_1325_1
  have h_1326_1 : f1 1326 = .inl (.object "StowTongue$Unit", 10, (fun _ => .null)) := g_1326_1
  refine am_astore_n d_Log_storeAt_18 rfl (by decide) ?_
  refine am_aload_n d_Log_storeAt_19 rfl rfl ?_
  have h_154_1 : f1 154 = .inr (7, [.ref 155, .ref 156, .int 0, .int 0]) := (fr1 154 (by decide)).trans h_154
  refine am_get O f_Log_11 d_Log_storeAt_20 (by exact h_154_1) (by decide) (by decide) rfl ?_
  refine am_iload_n d_Log_storeAt_23 rfl rfl ?_
  refine am_aload_n d_Log_storeAt_24 rfl rfl ?_
  have h_155_1 : f1 155 = .inl (.object "StowTongue$Store", 10, (updV (fun _ => .null) 1 (.ref 1311))) := (fr1 155 (by decide)).trans h_155
  refine am_aast O d_Log_storeAt_25 (by exact h_155_1) (by decide) (by decide) (by exact h_1319_1) (by decide) (by decide) (by rfl) (by rfl) (by decide) (am_in (by decide) (by decide)) ?_
  refine am_aload_n d_Log_storeAt_26 rfl rfl ?_
  exact am_aret rfl (Or.inl ⟨_, rfl⟩) d_Log_storeAt_27 ⟨rfl, rfl, h_1319_1, h_1320_1, h_1321_1, h_1322_1, h_1323_1, h_1324_1, h_1325_1, h_1326_1, rfl, fun x hx => by simp only [List.mem_cons, List.not_mem_nil, or_false, not_or] at hx; dsimp only; (repeat (first | rw [va_up_ne _ _ (by omega)] | rw [fr1 x (by simp only [List.mem_cons, List.not_mem_nil, or_false, not_or]; omega)]))⟩

set_option maxRecDepth 100000 in
set_option maxHeartbeats 4000000 in
theorem t20_Log_latest (O : am_ok K X)   {f : Nat → am_C} (h_154 : f 154 = .inr (7, [.ref 155, .ref 156, .int 0, .int 0])) (h_155 : f 155 = .inl (.object "StowTongue$Store", 10, (updV (fun _ => .null) 1 (.ref 1311)))) : am_Mt K X m_Log_latest 3 8 4155 [.ref 154] (1319, f) (fun v h' => v = some (.ref 1319) ∧ h'.1 = 1327 ∧ h'.2 1319 = .inr (10, [.ref 1320, .ref 1321, .ref 1322, .ref 1323, .ref 1324, .ref 1325, .int 0, .ref 1326, .int 0]) ∧ h'.2 1320 = .inl (.long, 2000, (fun _ => .long 0)) ∧ h'.2 1321 = .inl (.long, 2000, (fun _ => .long 0)) ∧ h'.2 1322 = .inl (.int, 100, (fun j => if j < 100 then .int (-1) else (fun _ => .int 0) j)) ∧ h'.2 1323 = .inl (.long, 12, (fun _ => .long 0)) ∧ h'.2 1324 = .inl (.long, 12, (fun _ => .long 0)) ∧ h'.2 1325 = .inl (.long, 12, (fun _ => .long 0)) ∧ h'.2 1326 = .inl (.object "StowTongue$Unit", 10, (fun _ => .null)) ∧ h'.2 155 = .inl (.object "StowTongue$Store", 10, (updV (updV (fun _ => .null) 1 (.ref 1311)) 0 (.ref 1319))) ∧ ∀ x, x ∉ ([1319, 1320, 1321, 1322, 1323, 1324, 1325, 1326, 155] : List Nat) → h'.2 x = f x) := by
  refine am_enter (by decide +kernel) (Nat.le_of_ble_eq_true rfl) ?_
  refine am_aload_n d_Log_latest_0 rfl rfl ?_
  refine am_aload_n d_Log_latest_1 rfl rfl ?_
  refine am_get O f_Log_27 d_Log_latest_2 (by exact h_154) (by decide) (by decide) rfl ?_
  refine am_callV O (t19_Log_storeAt O (by exact h_154) (by exact h_155)) rfl (by exact h_154) (by decide) (by decide) rfl rfl l_Log_31 ⟨w_959, w_40⟩ rfl (Nat.le_of_ble_eq_true rfl) d_Log_latest_5 (by omega) (by omega) (by omega) (fun v h' hp => ?_)
  obtain ⟨n1, f1⟩ := h'
  obtain ⟨rfl, e1, g_1319_1, g_1320_1, g_1321_1, g_1322_1, g_1323_1, g_1324_1, g_1325_1, g_1326_1, g_155_1, fr1⟩ := hp
  obtain rfl : n1 = 1327 := e1
  have fr1 := fun (x : Nat) (hx : x ∉ ([1319, 1320, 1321, 1322, 1323, 1324, 1325, 1326, 155] : List Nat)) => (show f1 x = _ from fr1 x hx)
  have h_1319_1 : f1 1319 = .inr (10, [.ref 1320, .ref 1321, .ref 1322, .ref 1323, .ref 1324, .ref 1325, .int 0, .ref 1326, .int 0]) := g_1319_1
  have h_1320_1 : f1 1320 = .inl (.long, 2000, (fun _ => .long 0)) := g_1320_1
  have h_1321_1 : f1 1321 = .inl (.long, 2000, (fun _ => .long 0)) := g_1321_1
  have h_1322_1 : f1 1322 = .inl (.int, 100, (fun j => if j < 100 then .int (-1) else (fun _ => .int 0) j)) := g_1322_1
  have h_1323_1 : f1 1323 = .inl (.long, 12, (fun _ => .long 0)) := g_1323_1
  have h_1324_1 : f1 1324 = .inl (.long, 12, (fun _ => .long 0)) := g_1324_1
  have h_1325_1 : f1 1325 = .inl (.long, 12, (fun _ => .long 0)) := g_1325_1
  have h_1326_1 : f1 1326 = .inl (.object "StowTongue$Unit", 10, (fun _ => .null)) := g_1326_1
  have h_155_1 : f1 155 = .inl (.object "StowTongue$Store", 10, (updV (updV (fun _ => .null) 1 (.ref 1311)) 0 (.ref 1319))) := g_155_1
  exact am_aret rfl (Or.inl ⟨_, rfl⟩) d_Log_latest_8 ⟨rfl, rfl, h_1319_1, h_1320_1, h_1321_1, h_1322_1, h_1323_1, h_1324_1, h_1325_1, h_1326_1, h_155_1, fun x hx => by simp only [List.mem_cons, List.not_mem_nil, or_false, not_or] at hx; dsimp only; (repeat (first | rw [va_up_ne _ _ (by omega)] | rw [fr1 x (by simp only [List.mem_cons, List.not_mem_nil, or_false, not_or]; omega)]))⟩

set_option maxRecDepth 100000 in
set_option maxHeartbeats 4000000 in
theorem t21_Store_copyFrom (O : am_ok K X)   {f : Nat → am_C} (h_1311 : f 1311 = .inr (10, [.ref 1312, .ref 1313, .ref 1314, .ref 1315, .ref 1316, .ref 1317, .int 0, .ref 1318, .int 0])) (h_1312 : f 1312 = .inl (.long, 2000, (fun _ => .long 0))) (h_1313 : f 1313 = .inl (.long, 2000, (fun _ => .long 0))) (h_1314 : f 1314 = .inl (.int, 100, (fun j => if j < 100 then .int (-1) else (fun _ => .int 0) j))) (h_1315 : f 1315 = .inl (.long, 12, (fun _ => .long 0))) (h_1316 : f 1316 = .inl (.long, 12, (fun _ => .long 0))) (h_1317 : f 1317 = .inl (.long, 12, (fun _ => .long 0))) (h_1318 : f 1318 = .inl (.object "StowTongue$Unit", 10, (fun _ => .null))) (h_1319 : f 1319 = .inr (10, [.ref 1320, .ref 1321, .ref 1322, .ref 1323, .ref 1324, .ref 1325, .int 0, .ref 1326, .int 0])) (h_1320 : f 1320 = .inl (.long, 2000, (fun _ => .long 0))) (h_1321 : f 1321 = .inl (.long, 2000, (fun _ => .long 0))) (h_1322 : f 1322 = .inl (.int, 100, (fun j => if j < 100 then .int (-1) else (fun _ => .int 0) j))) (h_1323 : f 1323 = .inl (.long, 12, (fun _ => .long 0))) (h_1324 : f 1324 = .inl (.long, 12, (fun _ => .long 0))) (h_1325 : f 1325 = .inl (.long, 12, (fun _ => .long 0))) (h_1326 : f 1326 = .inl (.object "StowTongue$Unit", 10, (fun _ => .null))) : am_Mt K X m_Store_copyFrom 1 0 0 [.ref 1311, .ref 1319] (1327, f) (fun v h' => v = none ∧ h'.1 = 1327 ∧ h'.2 1312 = .inl (.long, 2000, (va_cpy (fun _ => .long 0) (fun _ => .long 0) 0 0 2000)) ∧ h'.2 1313 = .inl (.long, 2000, (va_cpy (fun _ => .long 0) (fun _ => .long 0) 0 0 2000)) ∧ h'.2 1314 = .inl (.int, 100, (va_cpy (fun j => if j < 100 then .int (-1) else (fun _ => .int 0) j) (fun j => if j < 100 then .int (-1) else (fun _ => .int 0) j) 0 0 100)) ∧ h'.2 1315 = .inl (.long, 12, (va_cpy (fun _ => .long 0) (fun _ => .long 0) 0 0 12)) ∧ h'.2 1316 = .inl (.long, 12, (va_cpy (fun _ => .long 0) (fun _ => .long 0) 0 0 12)) ∧ h'.2 1317 = .inl (.long, 12, (va_cpy (fun _ => .long 0) (fun _ => .long 0) 0 0 12)) ∧ h'.2 1318 = .inl (.object "StowTongue$Unit", 10, (updV (updV (updV (updV (updV (updV (updV (updV (updV (updV (fun _ => .null) 0 (.null)) 1 (.null)) 2 (.null)) 3 (.null)) 4 (.null)) 5 (.null)) 6 (.null)) 7 (.null)) 8 (.null)) 9 (.null))) ∧ h'.2 1311 = .inr (10, [.ref 1312, .ref 1313, .ref 1314, .ref 1315, .ref 1316, .ref 1317, .int 0, .ref 1318, .int 0]) ∧ ∀ x, x ∉ ([1312, 1313, 1314, 1315, 1316, 1317, 1318, 1311] : List Nat) → h'.2 x = f x) := by
  refine am_enter (by decide +kernel) (Nat.le_of_ble_eq_true rfl) ?_
  refine am_aload_n d_Store_copyFrom_0 rfl rfl ?_
  refine am_get O f_Store_9 d_Store_copyFrom_1 (by exact h_1319) (by decide) (by decide) rfl ?_
  refine am_iconst (v := 0) d_Store_copyFrom_4 (by decide) ?_
  refine am_aload_n d_Store_copyFrom_5 rfl rfl ?_
  refine am_get O f_Store_9 d_Store_copyFrom_6 (by exact h_1311) (by decide) (by decide) rfl ?_
  refine am_iconst (v := 0) d_Store_copyFrom_9 (by decide) ?_
  refine am_aload_n d_Store_copyFrom_10 rfl rfl ?_
  refine am_get O f_Store_9 d_Store_copyFrom_11 (by exact h_1311) (by decide) (by decide) rfl ?_
  refine am_alen (v := 2000) O d_Store_copyFrom_14 (by exact h_1312) (by decide) (by decide) (by decide) (by decide) ?_
  refine am_copy (P := 0) (Q := 0) (N := 2000) O w_1016 w_735 w_734 w_167 d_Store_copyFrom_15 (by exact h_1320) (by decide) (by decide) (by exact h_1312) (by decide) (by decide) (by decide) (by decide) (by decide) (by decide) (by decide) (by decide) (by decide) (by decide) (by decide) (by decide) (fun i hi => by refine ⟨?_, fun r h => ?_⟩ <;> first | rfl | cases h | (dsimp only; rw [if_pos (by omega)]; rfl) | (dsimp only at h; rw [if_pos (by omega)] at h; cases h) | (simp [va_cpy, fits]; done) | (simp [va_cpy] at h; done) | (simp only [updV]; (repeat' split) <;> rfl) | (simp only [updV] at h; (repeat' (split at h)) <;> cases h)) (Nat.le_of_ble_eq_true rfl) (by omega) ?_
  refine am_aload_n d_Store_copyFrom_18 rfl rfl ?_
  refine am_get O f_Store_13 d_Store_copyFrom_19 (by exact h_1319) (by decide) (by decide) rfl ?_
  refine am_iconst (v := 0) d_Store_copyFrom_22 (by decide) ?_
  refine am_aload_n d_Store_copyFrom_23 rfl rfl ?_
  refine am_get O f_Store_13 d_Store_copyFrom_24 (by exact h_1311) (by decide) (by decide) rfl ?_
  refine am_iconst (v := 0) d_Store_copyFrom_27 (by decide) ?_
  refine am_aload_n d_Store_copyFrom_28 rfl rfl ?_
  refine am_get O f_Store_13 d_Store_copyFrom_29 (by exact h_1311) (by decide) (by decide) rfl ?_
  refine am_alen (v := 2000) O d_Store_copyFrom_32 (by exact h_1313) (by decide) (by decide) (by decide) (by decide) ?_
  refine am_copy (P := 0) (Q := 0) (N := 2000) O w_1016 w_735 w_734 w_167 d_Store_copyFrom_33 (by exact h_1321) (by decide) (by decide) (by exact h_1313) (by decide) (by decide) (by decide) (by decide) (by decide) (by decide) (by decide) (by decide) (by decide) (by decide) (by decide) (by decide) (fun i hi => by refine ⟨?_, fun r h => ?_⟩ <;> first | rfl | cases h | (dsimp only; rw [if_pos (by omega)]; rfl) | (dsimp only at h; rw [if_pos (by omega)] at h; cases h) | (simp [va_cpy, fits]; done) | (simp [va_cpy] at h; done) | (simp only [updV]; (repeat' split) <;> rfl) | (simp only [updV] at h; (repeat' (split at h)) <;> cases h)) (Nat.le_of_ble_eq_true rfl) (by omega) ?_
  refine am_aload_n d_Store_copyFrom_36 rfl rfl ?_
  refine am_get O f_Store_16 d_Store_copyFrom_37 (by exact h_1319) (by decide) (by decide) rfl ?_
  refine am_iconst (v := 0) d_Store_copyFrom_40 (by decide) ?_
  refine am_aload_n d_Store_copyFrom_41 rfl rfl ?_
  refine am_get O f_Store_16 d_Store_copyFrom_42 (by exact h_1311) (by decide) (by decide) rfl ?_
  refine am_iconst (v := 0) d_Store_copyFrom_45 (by decide) ?_
  refine am_aload_n d_Store_copyFrom_46 rfl rfl ?_
  refine am_get O f_Store_16 d_Store_copyFrom_47 (by exact h_1311) (by decide) (by decide) rfl ?_
  refine am_alen (v := 100) O d_Store_copyFrom_50 (by exact h_1314) (by decide) (by decide) (by decide) (by decide) ?_
  refine am_copy (P := 0) (Q := 0) (N := 100) O w_1016 w_735 w_734 w_167 d_Store_copyFrom_51 (by exact h_1322) (by decide) (by decide) (by exact h_1314) (by decide) (by decide) (by decide) (by decide) (by decide) (by decide) (by decide) (by decide) (by decide) (by decide) (by decide) (by decide) (fun i hi => by refine ⟨?_, fun r h => ?_⟩ <;> first | rfl | cases h | (dsimp only; rw [if_pos (by omega)]; rfl) | (dsimp only at h; rw [if_pos (by omega)] at h; cases h) | (simp [va_cpy, fits]; done) | (simp [va_cpy] at h; done) | (simp only [updV]; (repeat' split) <;> rfl) | (simp only [updV] at h; (repeat' (split at h)) <;> cases h)) (Nat.le_of_ble_eq_true rfl) (by omega) ?_
  refine am_aload_n d_Store_copyFrom_54 rfl rfl ?_
  refine am_get O f_Store_20 d_Store_copyFrom_55 (by exact h_1319) (by decide) (by decide) rfl ?_
  refine am_iconst (v := 0) d_Store_copyFrom_58 (by decide) ?_
  refine am_aload_n d_Store_copyFrom_59 rfl rfl ?_
  refine am_get O f_Store_20 d_Store_copyFrom_60 (by exact h_1311) (by decide) (by decide) rfl ?_
  refine am_iconst (v := 0) d_Store_copyFrom_63 (by decide) ?_
  refine am_aload_n d_Store_copyFrom_64 rfl rfl ?_
  refine am_get O f_Store_20 d_Store_copyFrom_65 (by exact h_1311) (by decide) (by decide) rfl ?_
  refine am_alen (v := 12) O d_Store_copyFrom_68 (by exact h_1315) (by decide) (by decide) (by decide) (by decide) ?_
  refine am_copy (P := 0) (Q := 0) (N := 12) O w_1016 w_735 w_734 w_167 d_Store_copyFrom_69 (by exact h_1323) (by decide) (by decide) (by exact h_1315) (by decide) (by decide) (by decide) (by decide) (by decide) (by decide) (by decide) (by decide) (by decide) (by decide) (by decide) (by decide) (fun i hi => by refine ⟨?_, fun r h => ?_⟩ <;> first | rfl | cases h | (dsimp only; rw [if_pos (by omega)]; rfl) | (dsimp only at h; rw [if_pos (by omega)] at h; cases h) | (simp [va_cpy, fits]; done) | (simp [va_cpy] at h; done) | (simp only [updV]; (repeat' split) <;> rfl) | (simp only [updV] at h; (repeat' (split at h)) <;> cases h)) (Nat.le_of_ble_eq_true rfl) (by omega) ?_
  refine am_aload_n d_Store_copyFrom_72 rfl rfl ?_
  refine am_get O f_Store_23 d_Store_copyFrom_73 (by exact h_1319) (by decide) (by decide) rfl ?_
  refine am_iconst (v := 0) d_Store_copyFrom_76 (by decide) ?_
  refine am_aload_n d_Store_copyFrom_77 rfl rfl ?_
  refine am_get O f_Store_23 d_Store_copyFrom_78 (by exact h_1311) (by decide) (by decide) rfl ?_
  refine am_iconst (v := 0) d_Store_copyFrom_81 (by decide) ?_
  refine am_aload_n d_Store_copyFrom_82 rfl rfl ?_
  refine am_get O f_Store_23 d_Store_copyFrom_83 (by exact h_1311) (by decide) (by decide) rfl ?_
  refine am_alen (v := 12) O d_Store_copyFrom_86 (by exact h_1316) (by decide) (by decide) (by decide) (by decide) ?_
  refine am_copy (P := 0) (Q := 0) (N := 12) O w_1016 w_735 w_734 w_167 d_Store_copyFrom_87 (by exact h_1324) (by decide) (by decide) (by exact h_1316) (by decide) (by decide) (by decide) (by decide) (by decide) (by decide) (by decide) (by decide) (by decide) (by decide) (by decide) (by decide) (fun i hi => by refine ⟨?_, fun r h => ?_⟩ <;> first | rfl | cases h | (dsimp only; rw [if_pos (by omega)]; rfl) | (dsimp only at h; rw [if_pos (by omega)] at h; cases h) | (simp [va_cpy, fits]; done) | (simp [va_cpy] at h; done) | (simp only [updV]; (repeat' split) <;> rfl) | (simp only [updV] at h; (repeat' (split at h)) <;> cases h)) (Nat.le_of_ble_eq_true rfl) (by omega) ?_
  refine am_aload_n d_Store_copyFrom_90 rfl rfl ?_
  refine am_get O f_Store_26 d_Store_copyFrom_91 (by exact h_1319) (by decide) (by decide) rfl ?_
  refine am_iconst (v := 0) d_Store_copyFrom_94 (by decide) ?_
  refine am_aload_n d_Store_copyFrom_95 rfl rfl ?_
  refine am_get O f_Store_26 d_Store_copyFrom_96 (by exact h_1311) (by decide) (by decide) rfl ?_
  refine am_iconst (v := 0) d_Store_copyFrom_99 (by decide) ?_
  refine am_aload_n d_Store_copyFrom_100 rfl rfl ?_
  refine am_get O f_Store_26 d_Store_copyFrom_101 (by exact h_1311) (by decide) (by decide) rfl ?_
  refine am_alen (v := 12) O d_Store_copyFrom_104 (by exact h_1317) (by decide) (by decide) (by decide) (by decide) ?_
  refine am_copy (P := 0) (Q := 0) (N := 12) O w_1016 w_735 w_734 w_167 d_Store_copyFrom_105 (by exact h_1325) (by decide) (by decide) (by exact h_1317) (by decide) (by decide) (by decide) (by decide) (by decide) (by decide) (by decide) (by decide) (by decide) (by decide) (by decide) (by decide) (fun i hi => by refine ⟨?_, fun r h => ?_⟩ <;> first | rfl | cases h | (dsimp only; rw [if_pos (by omega)]; rfl) | (dsimp only at h; rw [if_pos (by omega)] at h; cases h) | (simp [va_cpy, fits]; done) | (simp [va_cpy] at h; done) | (simp only [updV]; (repeat' split) <;> rfl) | (simp only [updV] at h; (repeat' (split at h)) <;> cases h)) (Nat.le_of_ble_eq_true rfl) (by omega) ?_
  refine am_iconst (v := 0) d_Store_copyFrom_108 (by decide) ?_
  refine am_istore_n d_Store_copyFrom_109 rfl (by decide) ?_
  refine am_iload_n d_Store_copyFrom_110 rfl rfl ?_
  refine am_bipush (v := 10) d_Store_copyFrom_111 (by decide) ?_
  refine am_icmp_ge (tgt := 134) d_Store_copyFrom_113 (by decide) (fun c => absurd c (by decide)) (fun _ => ?_)
  refine am_aload_n d_Store_copyFrom_116 rfl rfl ?_
  refine am_get O f_Store_31 d_Store_copyFrom_117 (by exact h_1311) (by decide) (by decide) rfl ?_
  refine am_iload_n d_Store_copyFrom_120 rfl rfl ?_
  refine am_aload_n d_Store_copyFrom_121 rfl rfl ?_
  refine am_get O f_Store_31 d_Store_copyFrom_122 (by exact h_1319) (by decide) (by decide) rfl ?_
  refine am_iload_n d_Store_copyFrom_125 rfl rfl ?_
  refine am_aald (v := .null) O d_Store_copyFrom_126 (by exact h_1326) (by decide) (by decide) (by decide) rfl (am_in (by decide) (by decide)) rfl ?_
  refine am_aastN (C := "StowTongue$Unit") O (by decide) d_Store_copyFrom_127 (by exact h_1318) (by decide) (by decide) (am_in (by decide) (by decide)) ?_
  refine am_iinc (v := 1) d_Store_copyFrom_128 rfl (by decide) (by decide) ?_
  refine am_locs (lv' := [(0, .ref 1311), (1, .ref 1319), (2, .int 1)]) rfl ?_
  refine am_goto (tgt := 110) d_Store_copyFrom_131 (by decide) ?_
  refine am_iload_n d_Store_copyFrom_110 rfl rfl ?_
  refine am_bipush (v := 10) d_Store_copyFrom_111 (by decide) ?_
  refine am_icmp_ge (tgt := 134) d_Store_copyFrom_113 (by decide) (fun c => absurd c (by decide)) (fun _ => ?_)
  refine am_aload_n d_Store_copyFrom_116 rfl rfl ?_
  refine am_get O f_Store_31 d_Store_copyFrom_117 (by exact h_1311) (by decide) (by decide) rfl ?_
  refine am_iload_n d_Store_copyFrom_120 rfl rfl ?_
  refine am_aload_n d_Store_copyFrom_121 rfl rfl ?_
  refine am_get O f_Store_31 d_Store_copyFrom_122 (by exact h_1319) (by decide) (by decide) rfl ?_
  refine am_iload_n d_Store_copyFrom_125 rfl rfl ?_
  refine am_aald (v := .null) O d_Store_copyFrom_126 (by exact h_1326) (by decide) (by decide) (by decide) rfl (am_in (by decide) (by decide)) rfl ?_
  refine am_aastN (C := "StowTongue$Unit") O (by decide) d_Store_copyFrom_127 (by rfl) (by decide) (by decide) (am_in (by decide) (by decide)) ?_
  refine am_iinc (v := 1) d_Store_copyFrom_128 rfl (by decide) (by decide) ?_
  refine am_locs (lv' := [(0, .ref 1311), (1, .ref 1319), (2, .int 2)]) rfl ?_
  refine am_goto (tgt := 110) d_Store_copyFrom_131 (by decide) ?_
  refine am_iload_n d_Store_copyFrom_110 rfl rfl ?_
  refine am_bipush (v := 10) d_Store_copyFrom_111 (by decide) ?_
  refine am_icmp_ge (tgt := 134) d_Store_copyFrom_113 (by decide) (fun c => absurd c (by decide)) (fun _ => ?_)
  refine am_aload_n d_Store_copyFrom_116 rfl rfl ?_
  refine am_get O f_Store_31 d_Store_copyFrom_117 (by exact h_1311) (by decide) (by decide) rfl ?_
  refine am_iload_n d_Store_copyFrom_120 rfl rfl ?_
  refine am_aload_n d_Store_copyFrom_121 rfl rfl ?_
  refine am_get O f_Store_31 d_Store_copyFrom_122 (by exact h_1319) (by decide) (by decide) rfl ?_
  refine am_iload_n d_Store_copyFrom_125 rfl rfl ?_
  refine am_aald (v := .null) O d_Store_copyFrom_126 (by exact h_1326) (by decide) (by decide) (by decide) rfl (am_in (by decide) (by decide)) rfl ?_
  refine am_aastN (C := "StowTongue$Unit") O (by decide) d_Store_copyFrom_127 (by rfl) (by decide) (by decide) (am_in (by decide) (by decide)) ?_
  refine am_iinc (v := 1) d_Store_copyFrom_128 rfl (by decide) (by decide) ?_
  refine am_locs (lv' := [(0, .ref 1311), (1, .ref 1319), (2, .int 3)]) rfl ?_
  refine am_goto (tgt := 110) d_Store_copyFrom_131 (by decide) ?_
  refine am_iload_n d_Store_copyFrom_110 rfl rfl ?_
  refine am_bipush (v := 10) d_Store_copyFrom_111 (by decide) ?_
  refine am_icmp_ge (tgt := 134) d_Store_copyFrom_113 (by decide) (fun c => absurd c (by decide)) (fun _ => ?_)
  refine am_aload_n d_Store_copyFrom_116 rfl rfl ?_
  refine am_get O f_Store_31 d_Store_copyFrom_117 (by exact h_1311) (by decide) (by decide) rfl ?_
  refine am_iload_n d_Store_copyFrom_120 rfl rfl ?_
  refine am_aload_n d_Store_copyFrom_121 rfl rfl ?_
  refine am_get O f_Store_31 d_Store_copyFrom_122 (by exact h_1319) (by decide) (by decide) rfl ?_
  refine am_iload_n d_Store_copyFrom_125 rfl rfl ?_
  refine am_aald (v := .null) O d_Store_copyFrom_126 (by exact h_1326) (by decide) (by decide) (by decide) rfl (am_in (by decide) (by decide)) rfl ?_
  refine am_aastN (C := "StowTongue$Unit") O (by decide) d_Store_copyFrom_127 (by rfl) (by decide) (by decide) (am_in (by decide) (by decide)) ?_
  refine am_iinc (v := 1) d_Store_copyFrom_128 rfl (by decide) (by decide) ?_
  refine am_locs (lv' := [(0, .ref 1311), (1, .ref 1319), (2, .int 4)]) rfl ?_
  refine am_goto (tgt := 110) d_Store_copyFrom_131 (by decide) ?_
  refine am_iload_n d_Store_copyFrom_110 rfl rfl ?_
  refine am_bipush (v := 10) d_Store_copyFrom_111 (by decide) ?_
  refine am_icmp_ge (tgt := 134) d_Store_copyFrom_113 (by decide) (fun c => absurd c (by decide)) (fun _ => ?_)
  refine am_aload_n d_Store_copyFrom_116 rfl rfl ?_
  refine am_get O f_Store_31 d_Store_copyFrom_117 (by exact h_1311) (by decide) (by decide) rfl ?_
  refine am_iload_n d_Store_copyFrom_120 rfl rfl ?_
  refine am_aload_n d_Store_copyFrom_121 rfl rfl ?_
  refine am_get O f_Store_31 d_Store_copyFrom_122 (by exact h_1319) (by decide) (by decide) rfl ?_
  refine am_iload_n d_Store_copyFrom_125 rfl rfl ?_
  refine am_aald (v := .null) O d_Store_copyFrom_126 (by exact h_1326) (by decide) (by decide) (by decide) rfl (am_in (by decide) (by decide)) rfl ?_
  refine am_aastN (C := "StowTongue$Unit") O (by decide) d_Store_copyFrom_127 (by rfl) (by decide) (by decide) (am_in (by decide) (by decide)) ?_
  refine am_iinc (v := 1) d_Store_copyFrom_128 rfl (by decide) (by decide) ?_
  refine am_locs (lv' := [(0, .ref 1311), (1, .ref 1319), (2, .int 5)]) rfl ?_
  refine am_goto (tgt := 110) d_Store_copyFrom_131 (by decide) ?_
  refine am_iload_n d_Store_copyFrom_110 rfl rfl ?_
  refine am_bipush (v := 10) d_Store_copyFrom_111 (by decide) ?_
  refine am_icmp_ge (tgt := 134) d_Store_copyFrom_113 (by decide) (fun c => absurd c (by decide)) (fun _ => ?_)
  refine am_aload_n d_Store_copyFrom_116 rfl rfl ?_
  refine am_get O f_Store_31 d_Store_copyFrom_117 (by exact h_1311) (by decide) (by decide) rfl ?_
  refine am_iload_n d_Store_copyFrom_120 rfl rfl ?_
  refine am_aload_n d_Store_copyFrom_121 rfl rfl ?_
  refine am_get O f_Store_31 d_Store_copyFrom_122 (by exact h_1319) (by decide) (by decide) rfl ?_
  refine am_iload_n d_Store_copyFrom_125 rfl rfl ?_
  refine am_aald (v := .null) O d_Store_copyFrom_126 (by exact h_1326) (by decide) (by decide) (by decide) rfl (am_in (by decide) (by decide)) rfl ?_
  refine am_aastN (C := "StowTongue$Unit") O (by decide) d_Store_copyFrom_127 (by rfl) (by decide) (by decide) (am_in (by decide) (by decide)) ?_
  refine am_iinc (v := 1) d_Store_copyFrom_128 rfl (by decide) (by decide) ?_
  refine am_locs (lv' := [(0, .ref 1311), (1, .ref 1319), (2, .int 6)]) rfl ?_
  refine am_goto (tgt := 110) d_Store_copyFrom_131 (by decide) ?_
  refine am_iload_n d_Store_copyFrom_110 rfl rfl ?_
  refine am_bipush (v := 10) d_Store_copyFrom_111 (by decide) ?_
  refine am_icmp_ge (tgt := 134) d_Store_copyFrom_113 (by decide) (fun c => absurd c (by decide)) (fun _ => ?_)
  refine am_aload_n d_Store_copyFrom_116 rfl rfl ?_
  refine am_get O f_Store_31 d_Store_copyFrom_117 (by exact h_1311) (by decide) (by decide) rfl ?_
  refine am_iload_n d_Store_copyFrom_120 rfl rfl ?_
  refine am_aload_n d_Store_copyFrom_121 rfl rfl ?_
  refine am_get O f_Store_31 d_Store_copyFrom_122 (by exact h_1319) (by decide) (by decide) rfl ?_
  refine am_iload_n d_Store_copyFrom_125 rfl rfl ?_
  refine am_aald (v := .null) O d_Store_copyFrom_126 (by exact h_1326) (by decide) (by decide) (by decide) rfl (am_in (by decide) (by decide)) rfl ?_
  refine am_aastN (C := "StowTongue$Unit") O (by decide) d_Store_copyFrom_127 (by rfl) (by decide) (by decide) (am_in (by decide) (by decide)) ?_
  refine am_iinc (v := 1) d_Store_copyFrom_128 rfl (by decide) (by decide) ?_
  refine am_locs (lv' := [(0, .ref 1311), (1, .ref 1319), (2, .int 7)]) rfl ?_
  refine am_goto (tgt := 110) d_Store_copyFrom_131 (by decide) ?_
  refine am_iload_n d_Store_copyFrom_110 rfl rfl ?_
  refine am_bipush (v := 10) d_Store_copyFrom_111 (by decide) ?_
  refine am_icmp_ge (tgt := 134) d_Store_copyFrom_113 (by decide) (fun c => absurd c (by decide)) (fun _ => ?_)
  refine am_aload_n d_Store_copyFrom_116 rfl rfl ?_
  refine am_get O f_Store_31 d_Store_copyFrom_117 (by exact h_1311) (by decide) (by decide) rfl ?_
  refine am_iload_n d_Store_copyFrom_120 rfl rfl ?_
  refine am_aload_n d_Store_copyFrom_121 rfl rfl ?_
  refine am_get O f_Store_31 d_Store_copyFrom_122 (by exact h_1319) (by decide) (by decide) rfl ?_
  refine am_iload_n d_Store_copyFrom_125 rfl rfl ?_
  refine am_aald (v := .null) O d_Store_copyFrom_126 (by exact h_1326) (by decide) (by decide) (by decide) rfl (am_in (by decide) (by decide)) rfl ?_
  refine am_aastN (C := "StowTongue$Unit") O (by decide) d_Store_copyFrom_127 (by rfl) (by decide) (by decide) (am_in (by decide) (by decide)) ?_
  refine am_iinc (v := 1) d_Store_copyFrom_128 rfl (by decide) (by decide) ?_
  refine am_locs (lv' := [(0, .ref 1311), (1, .ref 1319), (2, .int 8)]) rfl ?_
  refine am_goto (tgt := 110) d_Store_copyFrom_131 (by decide) ?_
  refine am_iload_n d_Store_copyFrom_110 rfl rfl ?_
  refine am_bipush (v := 10) d_Store_copyFrom_111 (by decide) ?_
  refine am_icmp_ge (tgt := 134) d_Store_copyFrom_113 (by decide) (fun c => absurd c (by decide)) (fun _ => ?_)
  refine am_aload_n d_Store_copyFrom_116 rfl rfl ?_
  refine am_get O f_Store_31 d_Store_copyFrom_117 (by exact h_1311) (by decide) (by decide) rfl ?_
  refine am_iload_n d_Store_copyFrom_120 rfl rfl ?_
  refine am_aload_n d_Store_copyFrom_121 rfl rfl ?_
  refine am_get O f_Store_31 d_Store_copyFrom_122 (by exact h_1319) (by decide) (by decide) rfl ?_
  refine am_iload_n d_Store_copyFrom_125 rfl rfl ?_
  refine am_aald (v := .null) O d_Store_copyFrom_126 (by exact h_1326) (by decide) (by decide) (by decide) rfl (am_in (by decide) (by decide)) rfl ?_
  refine am_aastN (C := "StowTongue$Unit") O (by decide) d_Store_copyFrom_127 (by rfl) (by decide) (by decide) (am_in (by decide) (by decide)) ?_
  refine am_iinc (v := 1) d_Store_copyFrom_128 rfl (by decide) (by decide) ?_
  refine am_locs (lv' := [(0, .ref 1311), (1, .ref 1319), (2, .int 9)]) rfl ?_
  refine am_goto (tgt := 110) d_Store_copyFrom_131 (by decide) ?_
  refine am_iload_n d_Store_copyFrom_110 rfl rfl ?_
  refine am_bipush (v := 10) d_Store_copyFrom_111 (by decide) ?_
  refine am_icmp_ge (tgt := 134) d_Store_copyFrom_113 (by decide) (fun c => absurd c (by decide)) (fun _ => ?_)
  refine am_aload_n d_Store_copyFrom_116 rfl rfl ?_
  refine am_get O f_Store_31 d_Store_copyFrom_117 (by exact h_1311) (by decide) (by decide) rfl ?_
  refine am_iload_n d_Store_copyFrom_120 rfl rfl ?_
  refine am_aload_n d_Store_copyFrom_121 rfl rfl ?_
  refine am_get O f_Store_31 d_Store_copyFrom_122 (by exact h_1319) (by decide) (by decide) rfl ?_
  refine am_iload_n d_Store_copyFrom_125 rfl rfl ?_
  refine am_aald (v := .null) O d_Store_copyFrom_126 (by exact h_1326) (by decide) (by decide) (by decide) rfl (am_in (by decide) (by decide)) rfl ?_
  refine am_aastN (C := "StowTongue$Unit") O (by decide) d_Store_copyFrom_127 (by rfl) (by decide) (by decide) (am_in (by decide) (by decide)) ?_
  refine am_iinc (v := 1) d_Store_copyFrom_128 rfl (by decide) (by decide) ?_
  refine am_locs (lv' := [(0, .ref 1311), (1, .ref 1319), (2, .int 10)]) rfl ?_
  refine am_goto (tgt := 110) d_Store_copyFrom_131 (by decide) ?_
  refine am_iload_n d_Store_copyFrom_110 rfl rfl ?_
  refine am_bipush (v := 10) d_Store_copyFrom_111 (by decide) ?_
  refine am_icmp_ge (tgt := 134) d_Store_copyFrom_113 (by decide) (fun _ => ?_) (fun c => absurd (by decide) c)
  refine am_aload_n d_Store_copyFrom_134 rfl rfl ?_
  refine am_aload_n d_Store_copyFrom_135 rfl rfl ?_
  refine am_get O f_Store_47 d_Store_copyFrom_136 (by exact h_1319) (by decide) (by decide) rfl ?_
  refine am_put O f_Store_47 d_Store_copyFrom_139 (by exact h_1311) (by decide) (by decide) (Nat.le_of_ble_eq_true rfl) (fun q hq => by cases hq; exact ⟨rfl, rfl, rfl⟩) ?_
  refine am_aload_n d_Store_copyFrom_142 rfl rfl ?_
  refine am_aload_n d_Store_copyFrom_143 rfl rfl ?_
  refine am_get O f_Store_51 d_Store_copyFrom_144 (by exact h_1319) (by decide) (by decide) rfl ?_
  refine am_put O f_Store_51 d_Store_copyFrom_147 (by rfl) (by decide) (by decide) (Nat.le_of_ble_eq_true rfl) (fun q hq => by cases hq; exact ⟨rfl, rfl, rfl⟩) ?_
  exact am_vret rfl d_Store_copyFrom_150 ⟨rfl, rfl, rfl, rfl, rfl, rfl, rfl, rfl, rfl, rfl, fun x hx => by simp only [List.mem_cons, List.not_mem_nil, or_false, not_or] at hx; dsimp only; (repeat (first | rw [va_up_ne _ _ (by omega)]))⟩

set_option maxRecDepth 100000 in
set_option maxHeartbeats 4000000 in
theorem t22_Log_workCopy (O : am_ok K X)   {f : Nat → am_C} (h_154 : f 154 = .inr (7, [.ref 155, .ref 156, .int 0, .int 0])) (h_155 : f 155 = .inl (.object "StowTongue$Store", 10, (fun _ => .null))) : am_Mt K X m_Log_workCopy 4 16 8310 [.ref 154] (1311, f) (fun v h' => v = some (.ref 1311) ∧ h'.1 = 1327 ∧ h'.2 1311 = .inr (10, [.ref 1312, .ref 1313, .ref 1314, .ref 1315, .ref 1316, .ref 1317, .int 0, .ref 1318, .int 0]) ∧ h'.2 1312 = .inl (.long, 2000, (va_cpy (fun _ => .long 0) (fun _ => .long 0) 0 0 2000)) ∧ h'.2 1313 = .inl (.long, 2000, (va_cpy (fun _ => .long 0) (fun _ => .long 0) 0 0 2000)) ∧ h'.2 1314 = .inl (.int, 100, (va_cpy (fun j => if j < 100 then .int (-1) else (fun _ => .int 0) j) (fun j => if j < 100 then .int (-1) else (fun _ => .int 0) j) 0 0 100)) ∧ h'.2 1315 = .inl (.long, 12, (va_cpy (fun _ => .long 0) (fun _ => .long 0) 0 0 12)) ∧ h'.2 1316 = .inl (.long, 12, (va_cpy (fun _ => .long 0) (fun _ => .long 0) 0 0 12)) ∧ h'.2 1317 = .inl (.long, 12, (va_cpy (fun _ => .long 0) (fun _ => .long 0) 0 0 12)) ∧ h'.2 1318 = .inl (.object "StowTongue$Unit", 10, (updV (updV (updV (updV (updV (updV (updV (updV (updV (updV (fun _ => .null) 0 (.null)) 1 (.null)) 2 (.null)) 3 (.null)) 4 (.null)) 5 (.null)) 6 (.null)) 7 (.null)) 8 (.null)) 9 (.null))) ∧ h'.2 155 = .inl (.object "StowTongue$Store", 10, (updV (updV (fun _ => .null) 1 (.ref 1311)) 0 (.ref 1319))) ∧ h'.2 1319 = .inr (10, [.ref 1320, .ref 1321, .ref 1322, .ref 1323, .ref 1324, .ref 1325, .int 0, .ref 1326, .int 0]) ∧ h'.2 1320 = .inl (.long, 2000, (fun _ => .long 0)) ∧ h'.2 1321 = .inl (.long, 2000, (fun _ => .long 0)) ∧ h'.2 1322 = .inl (.int, 100, (fun j => if j < 100 then .int (-1) else (fun _ => .int 0) j)) ∧ h'.2 1323 = .inl (.long, 12, (fun _ => .long 0)) ∧ h'.2 1324 = .inl (.long, 12, (fun _ => .long 0)) ∧ h'.2 1325 = .inl (.long, 12, (fun _ => .long 0)) ∧ h'.2 1326 = .inl (.object "StowTongue$Unit", 10, (fun _ => .null)) ∧ ∀ x, x ∉ ([1311, 1312, 1313, 1314, 1315, 1316, 1317, 1318, 155, 1319, 1320, 1321, 1322, 1323, 1324, 1325, 1326] : List Nat) → h'.2 x = f x) := by
  refine am_enter (by decide +kernel) (Nat.le_of_ble_eq_true rfl) ?_
  refine am_aload_n d_Log_workCopy_0 rfl rfl ?_
  refine am_aload_n d_Log_workCopy_1 rfl rfl ?_
  refine am_get O f_Log_27 d_Log_workCopy_2 (by exact h_154) (by decide) (by decide) rfl ?_
  refine am_iconst (v := 1) d_Log_workCopy_5 (by decide) ?_
  refine am_iadd d_Log_workCopy_6 ?_
  refine am_topi (v := 1) (by decide) ?_
  refine am_callV O (t17_Log_storeAt O (by exact h_154) (by exact h_155)) rfl (by exact h_154) (by decide) (by decide) rfl rfl l_Log_31 ⟨w_959, w_40⟩ rfl (Nat.le_of_ble_eq_true rfl) d_Log_workCopy_7 (by omega) (by omega) (by omega) (fun v h' hp => ?_)
  obtain ⟨n1, f1⟩ := h'
  obtain ⟨rfl, e1, g_1311_1, g_1312_1, g_1313_1, g_1314_1, g_1315_1, g_1316_1, g_1317_1, g_1318_1, g_155_1, fr1⟩ := hp
  obtain rfl : n1 = 1319 := e1
  have fr1 := fun (x : Nat) (hx : x ∉ ([1311, 1312, 1313, 1314, 1315, 1316, 1317, 1318, 155] : List Nat)) => (show f1 x = _ from fr1 x hx)
  have h_1311_1 : f1 1311 = .inr (10, [.ref 1312, .ref 1313, .ref 1314, .ref 1315, .ref 1316, .ref 1317, .int 0, .ref 1318, .int 0]) := g_1311_1
  have h_1312_1 : f1 1312 = .inl (.long, 2000, (fun _ => .long 0)) := g_1312_1
  have h_1313_1 : f1 1313 = .inl (.long, 2000, (fun _ => .long 0)) := g_1313_1
  have h_1314_1 : f1 1314 = .inl (.int, 100, (fun j => if j < 100 then .int (-1) else (fun _ => .int 0) j)) := g_1314_1
  have h_1315_1 : f1 1315 = .inl (.long, 12, (fun _ => .long 0)) := g_1315_1
  have h_1316_1 : f1 1316 = .inl (.long, 12, (fun _ => .long 0)) := g_1316_1
  have h_1317_1 : f1 1317 = .inl (.long, 12, (fun _ => .long 0)) := g_1317_1
  have h_1318_1 : f1 1318 = .inl (.object "StowTongue$Unit", 10, (fun _ => .null)) := g_1318_1
  have h_155_1 : f1 155 = .inl (.object "StowTongue$Store", 10, (updV (fun _ => .null) 1 (.ref 1311))) := g_155_1
  refine am_astore_n d_Log_workCopy_10 rfl (by decide) ?_
  refine am_aload_n d_Log_workCopy_11 rfl rfl ?_
  refine am_aload_n d_Log_workCopy_12 rfl rfl ?_
  have h_154_1 : f1 154 = .inr (7, [.ref 155, .ref 156, .int 0, .int 0]) := (fr1 154 (by decide)).trans h_154
  refine am_callV O (t20_Log_latest O (by exact h_154_1) (by exact h_155_1)) rfl (by exact h_154_1) (by decide) (by decide) rfl rfl l_Log_35 ⟨w_1009, w_1010⟩ rfl (Nat.le_of_ble_eq_true rfl) d_Log_workCopy_13 (by omega) (by omega) (by omega) (fun v h' hp => ?_)
  obtain ⟨n2, f2⟩ := h'
  obtain ⟨rfl, e2, g_1319_2, g_1320_2, g_1321_2, g_1322_2, g_1323_2, g_1324_2, g_1325_2, g_1326_2, g_155_2, fr2⟩ := hp
  obtain rfl : n2 = 1327 := e2
  have fr2 := fun (x : Nat) (hx : x ∉ ([1319, 1320, 1321, 1322, 1323, 1324, 1325, 1326, 155] : List Nat)) => (show f2 x = _ from fr2 x hx)
  have h_1319_2 : f2 1319 = .inr (10, [.ref 1320, .ref 1321, .ref 1322, .ref 1323, .ref 1324, .ref 1325, .int 0, .ref 1326, .int 0]) := g_1319_2
  have h_1320_2 : f2 1320 = .inl (.long, 2000, (fun _ => .long 0)) := g_1320_2
  have h_1321_2 : f2 1321 = .inl (.long, 2000, (fun _ => .long 0)) := g_1321_2
  have h_1322_2 : f2 1322 = .inl (.int, 100, (fun j => if j < 100 then .int (-1) else (fun _ => .int 0) j)) := g_1322_2
  have h_1323_2 : f2 1323 = .inl (.long, 12, (fun _ => .long 0)) := g_1323_2
  have h_1324_2 : f2 1324 = .inl (.long, 12, (fun _ => .long 0)) := g_1324_2
  have h_1325_2 : f2 1325 = .inl (.long, 12, (fun _ => .long 0)) := g_1325_2
  have h_1326_2 : f2 1326 = .inl (.object "StowTongue$Unit", 10, (fun _ => .null)) := g_1326_2
  have h_155_2 : f2 155 = .inl (.object "StowTongue$Store", 10, (updV (updV (fun _ => .null) 1 (.ref 1311)) 0 (.ref 1319))) := g_155_2
  have h_1311_2 : f2 1311 = .inr (10, [.ref 1312, .ref 1313, .ref 1314, .ref 1315, .ref 1316, .ref 1317, .int 0, .ref 1318, .int 0]) := (fr2 1311 (by decide)).trans h_1311_1
  have h_1312_2 : f2 1312 = .inl (.long, 2000, (fun _ => .long 0)) := (fr2 1312 (by decide)).trans h_1312_1
  have h_1313_2 : f2 1313 = .inl (.long, 2000, (fun _ => .long 0)) := (fr2 1313 (by decide)).trans h_1313_1
  have h_1314_2 : f2 1314 = .inl (.int, 100, (fun j => if j < 100 then .int (-1) else (fun _ => .int 0) j)) := (fr2 1314 (by decide)).trans h_1314_1
  have h_1315_2 : f2 1315 = .inl (.long, 12, (fun _ => .long 0)) := (fr2 1315 (by decide)).trans h_1315_1
  have h_1316_2 : f2 1316 = .inl (.long, 12, (fun _ => .long 0)) := (fr2 1316 (by decide)).trans h_1316_1
  have h_1317_2 : f2 1317 = .inl (.long, 12, (fun _ => .long 0)) := (fr2 1317 (by decide)).trans h_1317_1
  have h_1318_2 : f2 1318 = .inl (.object "StowTongue$Unit", 10, (fun _ => .null)) := (fr2 1318 (by decide)).trans h_1318_1
  refine am_callV O (t21_Store_copyFrom O (by exact h_1311_2) (by exact h_1312_2) (by exact h_1313_2) (by exact h_1314_2) (by exact h_1315_2) (by exact h_1316_2) (by exact h_1317_2) (by exact h_1318_2) (by exact h_1319_2) (by exact h_1320_2) (by exact h_1321_2) (by exact h_1322_2) (by exact h_1323_2) (by exact h_1324_2) (by exact h_1325_2) (by exact h_1326_2)) rfl (by exact h_1311_2) (by decide) (by decide) rfl rfl l_Log_39 ⟨w_1013, w_1014⟩ rfl (Nat.le_of_ble_eq_true rfl) d_Log_workCopy_16 (by omega) (by omega) (by omega) (fun v h' hp => ?_)
  obtain ⟨n3, f3⟩ := h'
  obtain ⟨rfl, e3, g_1312_3, g_1313_3, g_1314_3, g_1315_3, g_1316_3, g_1317_3, g_1318_3, g_1311_3, fr3⟩ := hp
  obtain rfl : n3 = 1327 := e3
  have fr3 := fun (x : Nat) (hx : x ∉ ([1312, 1313, 1314, 1315, 1316, 1317, 1318, 1311] : List Nat)) => (show f3 x = _ from fr3 x hx)
  have h_1312_3 : f3 1312 = .inl (.long, 2000, (va_cpy (fun _ => .long 0) (fun _ => .long 0) 0 0 2000)) := g_1312_3
  have h_1313_3 : f3 1313 = .inl (.long, 2000, (va_cpy (fun _ => .long 0) (fun _ => .long 0) 0 0 2000)) := g_1313_3
  have h_1314_3 : f3 1314 = .inl (.int, 100, (va_cpy (fun j => if j < 100 then .int (-1) else (fun _ => .int 0) j) (fun j => if j < 100 then .int (-1) else (fun _ => .int 0) j) 0 0 100)) := g_1314_3
  have h_1315_3 : f3 1315 = .inl (.long, 12, (va_cpy (fun _ => .long 0) (fun _ => .long 0) 0 0 12)) := g_1315_3
  have h_1316_3 : f3 1316 = .inl (.long, 12, (va_cpy (fun _ => .long 0) (fun _ => .long 0) 0 0 12)) := g_1316_3
  have h_1317_3 : f3 1317 = .inl (.long, 12, (va_cpy (fun _ => .long 0) (fun _ => .long 0) 0 0 12)) := g_1317_3
  have h_1318_3 : f3 1318 = .inl (.object "StowTongue$Unit", 10, (updV (updV (updV (updV (updV (updV (updV (updV (updV (updV (fun _ => .null) 0 (.null)) 1 (.null)) 2 (.null)) 3 (.null)) 4 (.null)) 5 (.null)) 6 (.null)) 7 (.null)) 8 (.null)) 9 (.null))) := g_1318_3
  have h_1311_3 : f3 1311 = .inr (10, [.ref 1312, .ref 1313, .ref 1314, .ref 1315, .ref 1316, .ref 1317, .int 0, .ref 1318, .int 0]) := g_1311_3
  refine am_aload_n d_Log_workCopy_19 rfl rfl ?_
  have h_155_3 : f3 155 = .inl (.object "StowTongue$Store", 10, (updV (updV (fun _ => .null) 1 (.ref 1311)) 0 (.ref 1319))) := (fr3 155 (by decide)).trans h_155_2
  have h_1319_3 : f3 1319 = .inr (10, [.ref 1320, .ref 1321, .ref 1322, .ref 1323, .ref 1324, .ref 1325, .int 0, .ref 1326, .int 0]) := (fr3 1319 (by decide)).trans h_1319_2
  have h_1320_3 : f3 1320 = .inl (.long, 2000, (fun _ => .long 0)) := (fr3 1320 (by decide)).trans h_1320_2
  have h_1321_3 : f3 1321 = .inl (.long, 2000, (fun _ => .long 0)) := (fr3 1321 (by decide)).trans h_1321_2
  have h_1322_3 : f3 1322 = .inl (.int, 100, (fun j => if j < 100 then .int (-1) else (fun _ => .int 0) j)) := (fr3 1322 (by decide)).trans h_1322_2
  have h_1323_3 : f3 1323 = .inl (.long, 12, (fun _ => .long 0)) := (fr3 1323 (by decide)).trans h_1323_2
  have h_1324_3 : f3 1324 = .inl (.long, 12, (fun _ => .long 0)) := (fr3 1324 (by decide)).trans h_1324_2
  have h_1325_3 : f3 1325 = .inl (.long, 12, (fun _ => .long 0)) := (fr3 1325 (by decide)).trans h_1325_2
  have h_1326_3 : f3 1326 = .inl (.object "StowTongue$Unit", 10, (fun _ => .null)) := (fr3 1326 (by decide)).trans h_1326_2
  exact am_aret rfl (Or.inl ⟨_, rfl⟩) d_Log_workCopy_20 ⟨rfl, rfl, h_1311_3, h_1312_3, h_1313_3, h_1314_3, h_1315_3, h_1316_3, h_1317_3, h_1318_3, h_155_3, h_1319_3, h_1320_3, h_1321_3, h_1322_3, h_1323_3, h_1324_3, h_1325_3, h_1326_3, fun x hx => by simp only [List.mem_cons, List.not_mem_nil, or_false, not_or] at hx; dsimp only; (repeat (first | rw [va_up_ne _ _ (by omega)] | rw [fr1 x (by simp only [List.mem_cons, List.not_mem_nil, or_false, not_or]; omega)] | rw [fr2 x (by simp only [List.mem_cons, List.not_mem_nil, or_false, not_or]; omega)] | rw [fr3 x (by simp only [List.mem_cons, List.not_mem_nil, or_false, not_or]; omega)]))⟩

set_option maxRecDepth 100000 in
set_option maxHeartbeats 4000000 in
theorem t23_Store_roots (O : am_ok K X)   {f : Nat → am_C} (h_1311 : f 1311 = .inr (10, [.ref 1312, .ref 1313, .ref 1314, .ref 1315, .ref 1316, .ref 1317, .int 0, .ref 1318, .int 0])) : am_Mt K X m_Store_roots 0 0 0 [.ref 1311] (1327, f) (fun v h' => v = some (.int 0) ∧ h' = (1327, f)) := by
  refine am_enter (by decide +kernel) (Nat.le_of_ble_eq_true rfl) ?_
  refine am_aload_n d_Store_roots_0 rfl rfl ?_
  refine am_get O f_Store_47 d_Store_roots_1 (by exact h_1311) (by decide) (by decide) rfl ?_
  exact am_iret rfl d_Store_roots_4 ⟨rfl, rfl⟩

set_option maxRecDepth 100000 in
set_option maxHeartbeats 4000000 in
theorem t24_Sweep_clean (O : am_ok K X)   {f : Nat → am_C} (h_157 : f 157 = .inr (8, [.ref 158, .ref 159, .int 0])) (h_158 : f 158 = .inl (.boolean, 100, (fun _ => .int 0))) (h_1311 : f 1311 = .inr (10, [.ref 1312, .ref 1313, .ref 1314, .ref 1315, .ref 1316, .ref 1317, .int 0, .ref 1318, .int 0])) (h_1314 : f 1314 = .inl (.int, 100, (va_cpy (fun j => if j < 100 then .int (-1) else (fun _ => .int 0) j) (fun j => if j < 100 then .int (-1) else (fun _ => .int 0) j) 0 0 100))) : am_Mt K X m_Sweep_clean 2 0 0 [.ref 157, .ref 1311] (1327, f) (fun v h' => v = some (.int 0) ∧ h'.1 = 1327 ∧ h'.2 158 = .inl (.boolean, 100, (fun j => if j < 100 then .int 0 else (fun _ => .int 0) j)) ∧ h'.2 157 = .inr (8, [.ref 158, .ref 159, .int 0]) ∧ ∀ x, x ∉ ([158, 157] : List Nat) → h'.2 x = f x) := by
  refine am_enter (by decide +kernel) (Nat.le_of_ble_eq_true rfl) ?_
  refine am_iconst (v := 0) d_Sweep_clean_0 (by decide) ?_
  refine am_istore_n d_Sweep_clean_1 rfl (by decide) ?_
  refine am_locs (lv' := [(0, .ref 157), (1, .ref 1311), (2, .int 0)]) rfl ?_
  refine sc_loop O (by exact h_157) (by exact h_158) (by decide) (by decide) (by decide) (by decide) (by decide) ?_
  refine am_aload_n d_Sweep_clean_21 rfl rfl ?_
  refine am_iconst (v := 0) d_Sweep_clean_22 (by decide) ?_
  refine am_put O f_Sweep_19 d_Sweep_clean_23 (by exact h_157) (by decide) (by decide) (Nat.le_of_ble_eq_true rfl) (fun q hq => by cases hq; exact ⟨rfl, rfl, rfl⟩) ?_
  refine am_iconst (v := 0) d_Sweep_clean_26 (by decide) ?_
  refine am_istore_n d_Sweep_clean_27 rfl (by decide) ?_
  refine am_iload_n d_Sweep_clean_28 rfl rfl ?_
  refine am_aload_n d_Sweep_clean_29 rfl rfl ?_
  refine am_callV O (t23_Store_roots O (by exact h_1311)) rfl (by exact h_1311) (by decide) (by decide) rfl rfl l_Sweep_23 ⟨w_1435, w_1436⟩ rfl (Nat.le_of_ble_eq_true rfl) d_Sweep_clean_30 (by omega) (by omega) (by omega) (fun v h' hp => ?_)
  obtain ⟨rfl, rfl⟩ := hp
  refine am_icmp_ge (tgt := 58) d_Sweep_clean_33 (by decide) (fun _ => ?_) (fun c => absurd (by decide) c)
  refine am_iconst (v := 0) d_Sweep_clean_58 (by decide) ?_
  refine am_istore_n d_Sweep_clean_59 rfl (by decide) ?_
  refine am_iload_n d_Sweep_clean_60 rfl rfl ?_
  refine am_aload_n d_Sweep_clean_61 rfl rfl ?_
  refine am_get O f_Sweep_19 d_Sweep_clean_62 (by rfl) (by decide) (by decide) rfl ?_
  refine am_icmp_ge (tgt := 91) d_Sweep_clean_65 (by decide) (fun _ => ?_) (fun c => absurd (by decide) c)
  refine am_aload_n d_Sweep_clean_91 rfl rfl ?_
  refine am_aload_n d_Sweep_clean_92 rfl rfl ?_
  refine am_callV O (c_take O (by exact h_1311) (by exact h_1314) (by decide) (by decide) (by decide) (by decide) (fun i hi => by simp [va_cpy, hi]) (by rfl) (by rfl) (by decide) (by decide) (by decide) (by decide) (fun i hi => by simp [va_cpy, hi])) rfl (by rfl) (by decide) (by decide) rfl rfl l_Sweep_42 ⟨w_1454, w_82⟩ rfl (Nat.le_of_ble_eq_true rfl) d_Sweep_clean_93 (by omega) (by omega) (by omega) (fun v h' hp => ?_)
  obtain ⟨rfl, rfl⟩ := hp
  exact am_iret rfl d_Sweep_clean_96 ⟨rfl, rfl, rfl, rfl, fun x hx => by simp only [List.mem_cons, List.not_mem_nil, or_false, not_or] at hx; dsimp only; (repeat (first | rw [va_up_ne _ _ (by omega)]))⟩

set_option maxRecDepth 100000 in
set_option maxHeartbeats 4000000 in
theorem a_sweep_c (O : am_ok K X)   {f : Nat → am_C} (h_128 : f 128 = .inr (9, [.ref 129, .int 0, .ref 130, .ref 132, .ref 148, .ref 154, .ref 157, .long 0, .long 0, .int 0])) (h_154 : f 154 = .inr (7, [.ref 155, .ref 156, .int 0, .int 0])) (h_155 : f 155 = .inl (.object "StowTongue$Store", 10, (fun _ => .null))) (h_157 : f 157 = .inr (8, [.ref 158, .ref 159, .int 0])) (h_158 : f 158 = .inl (.boolean, 100, (fun _ => .int 0))) : am_Mt K X m_Stow_sweep 5 16 8310 [.ref 128] (1311, f) (fun v h' => v = some (.int 0) ∧ h'.1 = 1327 ∧ h'.2 1311 = .inr (10, [.ref 1312, .ref 1313, .ref 1314, .ref 1315, .ref 1316, .ref 1317, .int 0, .ref 1318, .int 0]) ∧ h'.2 1312 = .inl (.long, 2000, (va_cpy (fun _ => .long 0) (fun _ => .long 0) 0 0 2000)) ∧ h'.2 1313 = .inl (.long, 2000, (va_cpy (fun _ => .long 0) (fun _ => .long 0) 0 0 2000)) ∧ h'.2 1314 = .inl (.int, 100, (va_cpy (fun j => if j < 100 then .int (-1) else (fun _ => .int 0) j) (fun j => if j < 100 then .int (-1) else (fun _ => .int 0) j) 0 0 100)) ∧ h'.2 1315 = .inl (.long, 12, (va_cpy (fun _ => .long 0) (fun _ => .long 0) 0 0 12)) ∧ h'.2 1316 = .inl (.long, 12, (va_cpy (fun _ => .long 0) (fun _ => .long 0) 0 0 12)) ∧ h'.2 1317 = .inl (.long, 12, (va_cpy (fun _ => .long 0) (fun _ => .long 0) 0 0 12)) ∧ h'.2 1318 = .inl (.object "StowTongue$Unit", 10, (updV (updV (updV (updV (updV (updV (updV (updV (updV (updV (fun _ => .null) 0 (.null)) 1 (.null)) 2 (.null)) 3 (.null)) 4 (.null)) 5 (.null)) 6 (.null)) 7 (.null)) 8 (.null)) 9 (.null))) ∧ h'.2 155 = .inl (.object "StowTongue$Store", 10, (updV (updV (fun _ => .null) 1 (.ref 1311)) 0 (.ref 1319))) ∧ h'.2 1319 = .inr (10, [.ref 1320, .ref 1321, .ref 1322, .ref 1323, .ref 1324, .ref 1325, .int 0, .ref 1326, .int 0]) ∧ h'.2 1320 = .inl (.long, 2000, (fun _ => .long 0)) ∧ h'.2 1321 = .inl (.long, 2000, (fun _ => .long 0)) ∧ h'.2 1322 = .inl (.int, 100, (fun j => if j < 100 then .int (-1) else (fun _ => .int 0) j)) ∧ h'.2 1323 = .inl (.long, 12, (fun _ => .long 0)) ∧ h'.2 1324 = .inl (.long, 12, (fun _ => .long 0)) ∧ h'.2 1325 = .inl (.long, 12, (fun _ => .long 0)) ∧ h'.2 1326 = .inl (.object "StowTongue$Unit", 10, (fun _ => .null)) ∧ h'.2 158 = .inl (.boolean, 100, (fun j => if j < 100 then .int 0 else (fun _ => .int 0) j)) ∧ h'.2 157 = .inr (8, [.ref 158, .ref 159, .int 0]) ∧ ∀ x, x ∉ ([1311, 1312, 1313, 1314, 1315, 1316, 1317, 1318, 155, 1319, 1320, 1321, 1322, 1323, 1324, 1325, 1326, 158, 157] : List Nat) → h'.2 x = f x) := by
  refine am_enter (by decide +kernel) (Nat.le_of_ble_eq_true rfl) ?_
  refine am_aload_n d_Stow_sweep_0 rfl rfl ?_
  refine am_get O f_Stow_37 d_Stow_sweep_1 (by exact h_128) (by decide) (by decide) rfl ?_
  refine am_callV O (t22_Log_workCopy O (by exact h_154) (by exact h_155)) rfl (by exact h_154) (by decide) (by decide) rfl rfl l_Stow_66 ⟨w_954, w_955⟩ rfl (Nat.le_of_ble_eq_true rfl) d_Stow_sweep_4 (by omega) (by omega) (by omega) (fun v h' hp => ?_)
  obtain ⟨n1, f1⟩ := h'
  obtain ⟨rfl, e1, g_1311_1, g_1312_1, g_1313_1, g_1314_1, g_1315_1, g_1316_1, g_1317_1, g_1318_1, g_155_1, g_1319_1, g_1320_1, g_1321_1, g_1322_1, g_1323_1, g_1324_1, g_1325_1, g_1326_1, fr1⟩ := hp
  obtain rfl : n1 = 1327 := e1
  have fr1 := fun (x : Nat) (hx : x ∉ ([1311, 1312, 1313, 1314, 1315, 1316, 1317, 1318, 155, 1319, 1320, 1321, 1322, 1323, 1324, 1325, 1326] : List Nat)) => (show f1 x = _ from fr1 x hx)
  have h_1311_1 : f1 1311 = .inr (10, [.ref 1312, .ref 1313, .ref 1314, .ref 1315, .ref 1316, .ref 1317, .int 0, .ref 1318, .int 0]) := g_1311_1
  have h_1312_1 : f1 1312 = .inl (.long, 2000, (va_cpy (fun _ => .long 0) (fun _ => .long 0) 0 0 2000)) := g_1312_1
  have h_1313_1 : f1 1313 = .inl (.long, 2000, (va_cpy (fun _ => .long 0) (fun _ => .long 0) 0 0 2000)) := g_1313_1
  have h_1314_1 : f1 1314 = .inl (.int, 100, (va_cpy (fun j => if j < 100 then .int (-1) else (fun _ => .int 0) j) (fun j => if j < 100 then .int (-1) else (fun _ => .int 0) j) 0 0 100)) := g_1314_1
  have h_1315_1 : f1 1315 = .inl (.long, 12, (va_cpy (fun _ => .long 0) (fun _ => .long 0) 0 0 12)) := g_1315_1
  have h_1316_1 : f1 1316 = .inl (.long, 12, (va_cpy (fun _ => .long 0) (fun _ => .long 0) 0 0 12)) := g_1316_1
  have h_1317_1 : f1 1317 = .inl (.long, 12, (va_cpy (fun _ => .long 0) (fun _ => .long 0) 0 0 12)) := g_1317_1
  have h_1318_1 : f1 1318 = .inl (.object "StowTongue$Unit", 10, (updV (updV (updV (updV (updV (updV (updV (updV (updV (updV (fun _ => .null) 0 (.null)) 1 (.null)) 2 (.null)) 3 (.null)) 4 (.null)) 5 (.null)) 6 (.null)) 7 (.null)) 8 (.null)) 9 (.null))) := g_1318_1
  have h_155_1 : f1 155 = .inl (.object "StowTongue$Store", 10, (updV (updV (fun _ => .null) 1 (.ref 1311)) 0 (.ref 1319))) := g_155_1
  have h_1319_1 : f1 1319 = .inr (10, [.ref 1320, .ref 1321, .ref 1322, .ref 1323, .ref 1324, .ref 1325, .int 0, .ref 1326, .int 0]) := g_1319_1
  have h_1320_1 : f1 1320 = .inl (.long, 2000, (fun _ => .long 0)) := g_1320_1
  have h_1321_1 : f1 1321 = .inl (.long, 2000, (fun _ => .long 0)) := g_1321_1
  have h_1322_1 : f1 1322 = .inl (.int, 100, (fun j => if j < 100 then .int (-1) else (fun _ => .int 0) j)) := g_1322_1
  have h_1323_1 : f1 1323 = .inl (.long, 12, (fun _ => .long 0)) := g_1323_1
  have h_1324_1 : f1 1324 = .inl (.long, 12, (fun _ => .long 0)) := g_1324_1
  have h_1325_1 : f1 1325 = .inl (.long, 12, (fun _ => .long 0)) := g_1325_1
  have h_1326_1 : f1 1326 = .inl (.object "StowTongue$Unit", 10, (fun _ => .null)) := g_1326_1
  refine am_astore_n d_Stow_sweep_7 rfl (by decide) ?_
  refine am_aload_n d_Stow_sweep_8 rfl rfl ?_
  have h_128_1 : f1 128 = .inr (9, [.ref 129, .int 0, .ref 130, .ref 132, .ref 148, .ref 154, .ref 157, .long 0, .long 0, .int 0]) := (fr1 128 (by decide)).trans h_128
  refine am_get O f_Stow_44 d_Stow_sweep_9 (by exact h_128_1) (by decide) (by decide) rfl ?_
  refine am_aload_n d_Stow_sweep_12 rfl rfl ?_
  have h_157_1 : f1 157 = .inr (8, [.ref 158, .ref 159, .int 0]) := (fr1 157 (by decide)).trans h_157
  have h_158_1 : f1 158 = .inl (.boolean, 100, (fun _ => .int 0)) := (fr1 158 (by decide)).trans h_158
  refine am_callV O (t24_Sweep_clean O (by exact h_157_1) (by exact h_158_1) (by exact h_1311_1) (by exact h_1314_1)) rfl (by exact h_157_1) (by decide) (by decide) rfl rfl l_Stow_181 ⟨w_1431, w_1432⟩ rfl (Nat.le_of_ble_eq_true rfl) d_Stow_sweep_13 (by omega) (by omega) (by omega) (fun v h' hp => ?_)
  obtain ⟨n2, f2⟩ := h'
  obtain ⟨rfl, e2, g_158_2, g_157_2, fr2⟩ := hp
  obtain rfl : n2 = 1327 := e2
  have fr2 := fun (x : Nat) (hx : x ∉ ([158, 157] : List Nat)) => (show f2 x = _ from fr2 x hx)
  have h_158_2 : f2 158 = .inl (.boolean, 100, (fun j => if j < 100 then .int 0 else (fun _ => .int 0) j)) := g_158_2
  have h_157_2 : f2 157 = .inr (8, [.ref 158, .ref 159, .int 0]) := g_157_2
  refine am_istore_n d_Stow_sweep_16 rfl (by decide) ?_
  refine am_iload_n d_Stow_sweep_17 rfl rfl ?_
  refine am_if_le (tgt := 30) d_Stow_sweep_18 (by decide) (fun _ => ?_) (fun c => absurd (by decide) c)
  refine am_iload_n d_Stow_sweep_30 rfl rfl ?_
  have h_1311_2 : f2 1311 = .inr (10, [.ref 1312, .ref 1313, .ref 1314, .ref 1315, .ref 1316, .ref 1317, .int 0, .ref 1318, .int 0]) := (fr2 1311 (by decide)).trans h_1311_1
  have h_1312_2 : f2 1312 = .inl (.long, 2000, (va_cpy (fun _ => .long 0) (fun _ => .long 0) 0 0 2000)) := (fr2 1312 (by decide)).trans h_1312_1
  have h_1313_2 : f2 1313 = .inl (.long, 2000, (va_cpy (fun _ => .long 0) (fun _ => .long 0) 0 0 2000)) := (fr2 1313 (by decide)).trans h_1313_1
  have h_1314_2 : f2 1314 = .inl (.int, 100, (va_cpy (fun j => if j < 100 then .int (-1) else (fun _ => .int 0) j) (fun j => if j < 100 then .int (-1) else (fun _ => .int 0) j) 0 0 100)) := (fr2 1314 (by decide)).trans h_1314_1
  have h_1315_2 : f2 1315 = .inl (.long, 12, (va_cpy (fun _ => .long 0) (fun _ => .long 0) 0 0 12)) := (fr2 1315 (by decide)).trans h_1315_1
  have h_1316_2 : f2 1316 = .inl (.long, 12, (va_cpy (fun _ => .long 0) (fun _ => .long 0) 0 0 12)) := (fr2 1316 (by decide)).trans h_1316_1
  have h_1317_2 : f2 1317 = .inl (.long, 12, (va_cpy (fun _ => .long 0) (fun _ => .long 0) 0 0 12)) := (fr2 1317 (by decide)).trans h_1317_1
  have h_1318_2 : f2 1318 = .inl (.object "StowTongue$Unit", 10, (updV (updV (updV (updV (updV (updV (updV (updV (updV (updV (fun _ => .null) 0 (.null)) 1 (.null)) 2 (.null)) 3 (.null)) 4 (.null)) 5 (.null)) 6 (.null)) 7 (.null)) 8 (.null)) 9 (.null))) := (fr2 1318 (by decide)).trans h_1318_1
  have h_155_2 : f2 155 = .inl (.object "StowTongue$Store", 10, (updV (updV (fun _ => .null) 1 (.ref 1311)) 0 (.ref 1319))) := (fr2 155 (by decide)).trans h_155_1
  have h_1319_2 : f2 1319 = .inr (10, [.ref 1320, .ref 1321, .ref 1322, .ref 1323, .ref 1324, .ref 1325, .int 0, .ref 1326, .int 0]) := (fr2 1319 (by decide)).trans h_1319_1
  have h_1320_2 : f2 1320 = .inl (.long, 2000, (fun _ => .long 0)) := (fr2 1320 (by decide)).trans h_1320_1
  have h_1321_2 : f2 1321 = .inl (.long, 2000, (fun _ => .long 0)) := (fr2 1321 (by decide)).trans h_1321_1
  have h_1322_2 : f2 1322 = .inl (.int, 100, (fun j => if j < 100 then .int (-1) else (fun _ => .int 0) j)) := (fr2 1322 (by decide)).trans h_1322_1
  have h_1323_2 : f2 1323 = .inl (.long, 12, (fun _ => .long 0)) := (fr2 1323 (by decide)).trans h_1323_1
  have h_1324_2 : f2 1324 = .inl (.long, 12, (fun _ => .long 0)) := (fr2 1324 (by decide)).trans h_1324_1
  have h_1325_2 : f2 1325 = .inl (.long, 12, (fun _ => .long 0)) := (fr2 1325 (by decide)).trans h_1325_1
  have h_1326_2 : f2 1326 = .inl (.object "StowTongue$Unit", 10, (fun _ => .null)) := (fr2 1326 (by decide)).trans h_1326_1
  exact am_iret rfl d_Stow_sweep_31 ⟨rfl, rfl, h_1311_2, h_1312_2, h_1313_2, h_1314_2, h_1315_2, h_1316_2, h_1317_2, h_1318_2, h_155_2, h_1319_2, h_1320_2, h_1321_2, h_1322_2, h_1323_2, h_1324_2, h_1325_2, h_1326_2, h_158_2, h_157_2, fun x hx => by simp only [List.mem_cons, List.not_mem_nil, or_false, not_or] at hx; dsimp only; (repeat (first | rw [va_up_ne _ _ (by omega)] | rw [fr1 x (by simp only [List.mem_cons, List.not_mem_nil, or_false, not_or]; omega)] | rw [fr2 x (by simp only [List.mem_cons, List.not_mem_nil, or_false, not_or]; omega)]))⟩

set_option maxRecDepth 100000 in
set_option maxHeartbeats 4000000 in
theorem a_sweep_m (O : am_ok K X)   {f : Nat → am_C} (h_160 : f 160 = .inr (14, [.ref 161, .ref 162, .int 0, .int 0, .int 0, .int 0, .int 0, .int 0, .int 0, .int 0, .int 0, .long 0, .ref 163, .ref 170, .ref 171, .ref 172, .ref 173, .ref 174, .ref 175, .ref 176, .int 0, .ref 177, .null, .ref 184, .int 0, .int 0, .ref 185, .int 0, .ref 186, .int 0, .ref 187, .ref 204, .ref 221, .ref 238, .int 0, .int 0, .ref 239, .ref 240, .ref 245, .ref 250, .ref 255, .int 0, .int 0, .int 0, .int 0, .int 0, .int 0, .ref 260, .ref 261, .ref 262, .ref 263, .ref 264, .int 0])) (h_187 : f 187 = .inr (13, [.ref 188, .ref 189, .ref 190, .ref 191, .ref 192, .ref 193, .ref 198, .ref 203, .int 0, .int 0, .int 0, .int 0])) (h_188 : f 188 = .inl (.int, 100, (fun _ => .int 0))) (h_263 : f 263 = .inl (.boolean, 100, (fun _ => .int 0))) : am_Mt K X m_Mod_sweep 1 0 0 [.ref 160] (1327, f) (fun v h' => v = some (.int 0) ∧ h'.1 = 1327 ∧ h'.2 263 = .inl (.boolean, 100, (fun j => if j < 100 then .int 0 else (fun _ => .int 0) j)) ∧ h'.2 160 = .inr (14, [.ref 161, .ref 162, .int 0, .int 0, .int 0, .int 0, .int 0, .int 0, .int 0, .int 0, .int 0, .long 0, .ref 163, .ref 170, .ref 171, .ref 172, .ref 173, .ref 174, .ref 175, .ref 176, .int 0, .ref 177, .null, .ref 184, .int 0, .int 0, .ref 185, .int 0, .ref 186, .int 0, .ref 187, .ref 204, .ref 221, .ref 238, .int 0, .int 0, .ref 239, .ref 240, .ref 245, .ref 250, .ref 255, .int 0, .int 0, .int 0, .int 0, .int 0, .int 0, .ref 260, .ref 261, .ref 262, .ref 263, .ref 264, .int 0]) ∧ ∀ x, x ∉ ([263, 160] : List Nat) → h'.2 x = f x) := by
  refine am_enter (by decide +kernel) (Nat.le_of_ble_eq_true rfl) ?_
  refine am_aload_n d_Mod_sweep_0 rfl rfl ?_
  refine am_get O f_Mod_389 d_Mod_sweep_1 (by exact h_160) (by decide) (by decide) rfl ?_
  refine am_iconst (v := 0) d_Mod_sweep_4 (by decide) ?_
  refine am_callS O (c_Arr_fill_aZZ O (by exact h_263) (by decide) (by decide) (by decide)) rfl l_Mod_607 w_2155 rfl (Nat.le_of_ble_eq_true rfl) d_Mod_sweep_5 (by omega) (by omega) (by omega) (fun v h' hp => ?_)
  obtain ⟨n1, f1⟩ := h'
  obtain ⟨rfl, e1, g_263_1, fr1⟩ := hp
  obtain rfl : n1 = 1327 := e1
  have fr1 := fun (x : Nat) (hx : x ∉ ([263] : List Nat)) => (show f1 x = _ from fr1 x hx)
  have h_263_1 : f1 263 = .inl (.boolean, 100, (fun j => if j < 100 then .int 0 else (fun _ => .int 0) j)) := g_263_1
  refine am_aload_n d_Mod_sweep_8 rfl rfl ?_
  refine am_iconst (v := 0) d_Mod_sweep_9 (by decide) ?_
  have h_160_1 : f1 160 = .inr (14, [.ref 161, .ref 162, .int 0, .int 0, .int 0, .int 0, .int 0, .int 0, .int 0, .int 0, .int 0, .long 0, .ref 163, .ref 170, .ref 171, .ref 172, .ref 173, .ref 174, .ref 175, .ref 176, .int 0, .ref 177, .null, .ref 184, .int 0, .int 0, .ref 185, .int 0, .ref 186, .int 0, .ref 187, .ref 204, .ref 221, .ref 238, .int 0, .int 0, .ref 239, .ref 240, .ref 245, .ref 250, .ref 255, .int 0, .int 0, .int 0, .int 0, .int 0, .int 0, .ref 260, .ref 261, .ref 262, .ref 263, .ref 264, .int 0]) := (fr1 160 (by decide)).trans h_160
  refine am_put O f_Mod_604 d_Mod_sweep_10 (by exact h_160_1) (by decide) (by decide) (Nat.le_of_ble_eq_true rfl) (fun q hq => by cases hq; exact ⟨rfl, rfl, rfl⟩) ?_
  refine am_iconst (v := 0) d_Mod_sweep_13 (by decide) ?_
  refine am_istore_n d_Mod_sweep_14 rfl (by decide) ?_
  refine am_iload_n d_Mod_sweep_15 rfl rfl ?_
  refine am_aload_n d_Mod_sweep_16 rfl rfl ?_
  refine am_get O f_Mod_349 d_Mod_sweep_17 (by rfl) (by decide) (by decide) rfl ?_
  have h_187_1 : f1 187 = .inr (13, [.ref 188, .ref 189, .ref 190, .ref 191, .ref 192, .ref 193, .ref 198, .ref 203, .int 0, .int 0, .int 0, .int 0]) := (fr1 187 (by decide)).trans h_187
  refine am_get O f_Mod_463 d_Mod_sweep_20 (by exact h_187_1) (by decide) (by decide) rfl ?_
  refine am_icmp_ge (tgt := 60) d_Mod_sweep_23 (by decide) (fun _ => ?_) (fun c => absurd (by decide) c)
  refine am_iconst (v := 0) d_Mod_sweep_60 (by decide) ?_
  refine am_istore_n d_Mod_sweep_61 rfl (by decide) ?_
  refine am_iload_n d_Mod_sweep_62 rfl rfl ?_
  refine am_aload_n d_Mod_sweep_63 rfl rfl ?_
  refine am_get O f_Mod_604 d_Mod_sweep_64 (by rfl) (by decide) (by decide) rfl ?_
  refine am_icmp_ge (tgt := 142) d_Mod_sweep_67 (by decide) (fun _ => ?_) (fun c => absurd (by decide) c)
  refine am_iconst (v := 0) d_Mod_sweep_142 (by decide) ?_
  refine am_istore_n d_Mod_sweep_143 rfl (by decide) ?_
  refine am_iconst (v := 0) d_Mod_sweep_144 (by decide) ?_
  refine am_istore_n d_Mod_sweep_145 rfl (by decide) ?_
  have h_188_1 : f1 188 = .inl (.int, 100, (fun _ => .int 0)) := (fr1 188 (by decide)).trans h_188
  refine am_locs (lv' := [(0, .ref 160), (1, .int 0), (2, .int 0)]) rfl ?_
  refine ms_loop O (by rfl) (by rfl) (by exact h_187_1) (by exact h_188_1) (by decide) (by decide) (by decide) (by decide) (by decide) (by decide) (fun i hi => by simp [va_cpy, hi]) ?_
  refine am_iload_n d_Mod_sweep_218 rfl rfl ?_
  refine am_if_le (tgt := 228) d_Mod_sweep_219 (by decide) (fun _ => ?_) (fun c => absurd (by decide) c)
  refine am_iload_n d_Mod_sweep_228 rfl rfl ?_
  exact am_iret rfl d_Mod_sweep_229 ⟨rfl, rfl, h_263_1, rfl, fun x hx => by simp only [List.mem_cons, List.not_mem_nil, or_false, not_or] at hx; dsimp only; (repeat (first | rw [va_up_ne _ _ (by omega)] | rw [fr1 x (by simp only [List.mem_cons, List.not_mem_nil, or_false, not_or]; omega)]))⟩

set_option maxRecDepth 100000 in
set_option maxHeartbeats 4000000 in
theorem a_count0_c (O : am_ok K X)   {f : Nat → am_C} (h_128 : f 128 = .inr (9, [.ref 129, .int 0, .ref 130, .ref 132, .ref 148, .ref 154, .ref 157, .long 0, .long 0, .int 0])) (h_154 : f 154 = .inr (7, [.ref 155, .ref 156, .int 0, .int 0])) (h_155 : f 155 = .inl (.object "StowTongue$Store", 10, (fun _ => .null))) : am_Mt K X m_Stow_count 4 8 4155 [.ref 128, .int 0] (1311, f) (fun v h' => v = some (.int 0) ∧ h'.1 = 1319 ∧ h'.2 1311 = .inr (10, [.ref 1312, .ref 1313, .ref 1314, .ref 1315, .ref 1316, .ref 1317, .int 0, .ref 1318, .int 0]) ∧ h'.2 1312 = .inl (.long, 2000, (fun _ => .long 0)) ∧ h'.2 1313 = .inl (.long, 2000, (fun _ => .long 0)) ∧ h'.2 1314 = .inl (.int, 100, (fun j => if j < 100 then .int (-1) else (fun _ => .int 0) j)) ∧ h'.2 1315 = .inl (.long, 12, (fun _ => .long 0)) ∧ h'.2 1316 = .inl (.long, 12, (fun _ => .long 0)) ∧ h'.2 1317 = .inl (.long, 12, (fun _ => .long 0)) ∧ h'.2 1318 = .inl (.object "StowTongue$Unit", 10, (fun _ => .null)) ∧ h'.2 155 = .inl (.object "StowTongue$Store", 10, (updV (fun _ => .null) 0 (.ref 1311))) ∧ ∀ x, x ∉ ([1311, 1312, 1313, 1314, 1315, 1316, 1317, 1318, 155] : List Nat) → h'.2 x = f x) := by
  refine am_enter (by decide +kernel) (Nat.le_of_ble_eq_true rfl) ?_
  refine am_aload_n d_Stow_count_0 rfl rfl ?_
  refine am_get O f_Stow_37 d_Stow_count_1 (by exact h_128) (by decide) (by decide) rfl ?_
  refine am_callV O (t13_Log_latest O (by exact h_154) (by exact h_155)) rfl (by exact h_154) (by decide) (by decide) rfl rfl l_Stow_103 ⟨w_1009, w_1010⟩ rfl (Nat.le_of_ble_eq_true rfl) d_Stow_count_4 (by omega) (by omega) (by omega) (fun v h' hp => ?_)
  obtain ⟨n1, f1⟩ := h'
  obtain ⟨rfl, e1, g_1311_1, g_1312_1, g_1313_1, g_1314_1, g_1315_1, g_1316_1, g_1317_1, g_1318_1, g_155_1, fr1⟩ := hp
  obtain rfl : n1 = 1319 := e1
  have fr1 := fun (x : Nat) (hx : x ∉ ([1311, 1312, 1313, 1314, 1315, 1316, 1317, 1318, 155] : List Nat)) => (show f1 x = _ from fr1 x hx)
  have h_1311_1 : f1 1311 = .inr (10, [.ref 1312, .ref 1313, .ref 1314, .ref 1315, .ref 1316, .ref 1317, .int 0, .ref 1318, .int 0]) := g_1311_1
  have h_1312_1 : f1 1312 = .inl (.long, 2000, (fun _ => .long 0)) := g_1312_1
  have h_1313_1 : f1 1313 = .inl (.long, 2000, (fun _ => .long 0)) := g_1313_1
  have h_1314_1 : f1 1314 = .inl (.int, 100, (fun j => if j < 100 then .int (-1) else (fun _ => .int 0) j)) := g_1314_1
  have h_1315_1 : f1 1315 = .inl (.long, 12, (fun _ => .long 0)) := g_1315_1
  have h_1316_1 : f1 1316 = .inl (.long, 12, (fun _ => .long 0)) := g_1316_1
  have h_1317_1 : f1 1317 = .inl (.long, 12, (fun _ => .long 0)) := g_1317_1
  have h_1318_1 : f1 1318 = .inl (.object "StowTongue$Unit", 10, (fun _ => .null)) := g_1318_1
  have h_155_1 : f1 155 = .inl (.object "StowTongue$Store", 10, (updV (fun _ => .null) 0 (.ref 1311))) := g_155_1
  refine am_astore_n d_Stow_count_7 rfl (by decide) ?_
  refine am_iload_n d_Stow_count_8 rfl rfl ?_
  refine am_tableIn (tgt := 56) d_Stow_count_9 (by decide) (by decide) rfl (by decide) ?_
  refine am_aload_n d_Stow_count_56 rfl rfl ?_
  refine am_callV O (c_objects O (by exact h_1311_1) (by exact h_1314_1) (by decide) (by decide) (by decide) (by decide) (fun i hi => by simp [va_cpy, hi])) rfl (by exact h_1311_1) (by decide) (by decide) rfl rfl l_Stow_185 ⟨w_1466, w_1467⟩ rfl (Nat.le_of_ble_eq_true rfl) d_Stow_count_57 (by omega) (by omega) (by omega) (fun v h' hp => ?_)
  obtain ⟨rfl, rfl⟩ := hp
  exact am_iret rfl d_Stow_count_60 ⟨rfl, rfl, h_1311_1, h_1312_1, h_1313_1, h_1314_1, h_1315_1, h_1316_1, h_1317_1, h_1318_1, h_155_1, fun x hx => by simp only [List.mem_cons, List.not_mem_nil, or_false, not_or] at hx; dsimp only; (repeat (first | rw [va_up_ne _ _ (by omega)] | rw [fr1 x (by simp only [List.mem_cons, List.not_mem_nil, or_false, not_or]; omega)]))⟩

set_option maxRecDepth 100000 in
set_option maxHeartbeats 4000000 in
theorem a_count0_m (O : am_ok K X)   {f : Nat → am_C} (h_160 : f 160 = .inr (14, [.ref 161, .ref 162, .int 0, .int 0, .int 0, .int 0, .int 0, .int 0, .int 0, .int 0, .int 0, .long 0, .ref 163, .ref 170, .ref 171, .ref 172, .ref 173, .ref 174, .ref 175, .ref 176, .int 0, .ref 177, .null, .ref 184, .int 0, .int 0, .ref 185, .int 0, .ref 186, .int 0, .ref 187, .ref 204, .ref 221, .ref 238, .int 0, .int 0, .ref 239, .ref 240, .ref 245, .ref 250, .ref 255, .int 0, .int 0, .int 0, .int 0, .int 0, .int 0, .ref 260, .ref 261, .ref 262, .ref 263, .ref 264, .int 0])) (h_187 : f 187 = .inr (13, [.ref 188, .ref 189, .ref 190, .ref 191, .ref 192, .ref 193, .ref 198, .ref 203, .int 0, .int 0, .int 0, .int 0])) : am_Mt K X m_Mod_count 0 0 0 [.ref 160, .int 0] (1319, f) (fun v h' => v = some (.int 0) ∧ h' = (1319, f)) := by
  refine am_enter (by decide +kernel) (Nat.le_of_ble_eq_true rfl) ?_
  refine am_iconst (v := 0) d_Mod_count_0 (by decide) ?_
  refine am_istore_n d_Mod_count_1 rfl (by decide) ?_
  refine am_iload_n d_Mod_count_2 rfl rfl ?_
  refine am_tableIn (tgt := 48) d_Mod_count_3 (by decide) (by decide) rfl (by decide) ?_
  refine am_aload_n d_Mod_count_48 rfl rfl ?_
  refine am_get O f_Mod_349 d_Mod_count_49 (by exact h_160) (by decide) (by decide) rfl ?_
  refine am_get O f_Mod_578 d_Mod_count_52 (by exact h_187) (by decide) (by decide) rfl ?_
  exact am_iret rfl d_Mod_count_55 ⟨rfl, rfl⟩

set_option maxRecDepth 100000 in
set_option maxHeartbeats 4000000 in
theorem t29_Store_roots (O : am_ok K X)   {f : Nat → am_C} (h_1311 : f 1311 = .inr (10, [.ref 1312, .ref 1313, .ref 1314, .ref 1315, .ref 1316, .ref 1317, .int 0, .ref 1318, .int 0])) : am_Mt K X m_Store_roots 0 0 0 [.ref 1311] (1319, f) (fun v h' => v = some (.int 0) ∧ h' = (1319, f)) := by
  refine am_enter (by decide +kernel) (Nat.le_of_ble_eq_true rfl) ?_
  refine am_aload_n d_Store_roots_0 rfl rfl ?_
  refine am_get O f_Store_47 d_Store_roots_1 (by exact h_1311) (by decide) (by decide) rfl ?_
  exact am_iret rfl d_Store_roots_4 ⟨rfl, rfl⟩

set_option maxRecDepth 100000 in
set_option maxHeartbeats 4000000 in
theorem a_count1_c (O : am_ok K X)   {f : Nat → am_C} (h_128 : f 128 = .inr (9, [.ref 129, .int 0, .ref 130, .ref 132, .ref 148, .ref 154, .ref 157, .long 0, .long 0, .int 0])) (h_154 : f 154 = .inr (7, [.ref 155, .ref 156, .int 0, .int 0])) (h_155 : f 155 = .inl (.object "StowTongue$Store", 10, (fun _ => .null))) : am_Mt K X m_Stow_count 4 8 4155 [.ref 128, .int 1] (1311, f) (fun v h' => v = some (.int 0) ∧ h'.1 = 1319 ∧ h'.2 1311 = .inr (10, [.ref 1312, .ref 1313, .ref 1314, .ref 1315, .ref 1316, .ref 1317, .int 0, .ref 1318, .int 0]) ∧ h'.2 1312 = .inl (.long, 2000, (fun _ => .long 0)) ∧ h'.2 1313 = .inl (.long, 2000, (fun _ => .long 0)) ∧ h'.2 1314 = .inl (.int, 100, (fun j => if j < 100 then .int (-1) else (fun _ => .int 0) j)) ∧ h'.2 1315 = .inl (.long, 12, (fun _ => .long 0)) ∧ h'.2 1316 = .inl (.long, 12, (fun _ => .long 0)) ∧ h'.2 1317 = .inl (.long, 12, (fun _ => .long 0)) ∧ h'.2 1318 = .inl (.object "StowTongue$Unit", 10, (fun _ => .null)) ∧ h'.2 155 = .inl (.object "StowTongue$Store", 10, (updV (fun _ => .null) 0 (.ref 1311))) ∧ ∀ x, x ∉ ([1311, 1312, 1313, 1314, 1315, 1316, 1317, 1318, 155] : List Nat) → h'.2 x = f x) := by
  refine am_enter (by decide +kernel) (Nat.le_of_ble_eq_true rfl) ?_
  refine am_aload_n d_Stow_count_0 rfl rfl ?_
  refine am_get O f_Stow_37 d_Stow_count_1 (by exact h_128) (by decide) (by decide) rfl ?_
  refine am_callV O (t13_Log_latest O (by exact h_154) (by exact h_155)) rfl (by exact h_154) (by decide) (by decide) rfl rfl l_Stow_103 ⟨w_1009, w_1010⟩ rfl (Nat.le_of_ble_eq_true rfl) d_Stow_count_4 (by omega) (by omega) (by omega) (fun v h' hp => ?_)
  obtain ⟨n1, f1⟩ := h'
  obtain ⟨rfl, e1, g_1311_1, g_1312_1, g_1313_1, g_1314_1, g_1315_1, g_1316_1, g_1317_1, g_1318_1, g_155_1, fr1⟩ := hp
  obtain rfl : n1 = 1319 := e1
  have fr1 := fun (x : Nat) (hx : x ∉ ([1311, 1312, 1313, 1314, 1315, 1316, 1317, 1318, 155] : List Nat)) => (show f1 x = _ from fr1 x hx)
  have h_1311_1 : f1 1311 = .inr (10, [.ref 1312, .ref 1313, .ref 1314, .ref 1315, .ref 1316, .ref 1317, .int 0, .ref 1318, .int 0]) := g_1311_1
  have h_1312_1 : f1 1312 = .inl (.long, 2000, (fun _ => .long 0)) := g_1312_1
  have h_1313_1 : f1 1313 = .inl (.long, 2000, (fun _ => .long 0)) := g_1313_1
  have h_1314_1 : f1 1314 = .inl (.int, 100, (fun j => if j < 100 then .int (-1) else (fun _ => .int 0) j)) := g_1314_1
  have h_1315_1 : f1 1315 = .inl (.long, 12, (fun _ => .long 0)) := g_1315_1
  have h_1316_1 : f1 1316 = .inl (.long, 12, (fun _ => .long 0)) := g_1316_1
  have h_1317_1 : f1 1317 = .inl (.long, 12, (fun _ => .long 0)) := g_1317_1
  have h_1318_1 : f1 1318 = .inl (.object "StowTongue$Unit", 10, (fun _ => .null)) := g_1318_1
  have h_155_1 : f1 155 = .inl (.object "StowTongue$Store", 10, (updV (fun _ => .null) 0 (.ref 1311))) := g_155_1
  refine am_astore_n d_Stow_count_7 rfl (by decide) ?_
  refine am_iload_n d_Stow_count_8 rfl rfl ?_
  refine am_tableIn (tgt := 61) d_Stow_count_9 (by decide) (by decide) rfl (by decide) ?_
  refine am_aload_n d_Stow_count_61 rfl rfl ?_
  refine am_callV O (t29_Store_roots O (by exact h_1311_1)) rfl (by exact h_1311_1) (by decide) (by decide) rfl rfl l_Stow_188 ⟨w_1435, w_1436⟩ rfl (Nat.le_of_ble_eq_true rfl) d_Stow_count_62 (by omega) (by omega) (by omega) (fun v h' hp => ?_)
  obtain ⟨rfl, rfl⟩ := hp
  exact am_iret rfl d_Stow_count_65 ⟨rfl, rfl, h_1311_1, h_1312_1, h_1313_1, h_1314_1, h_1315_1, h_1316_1, h_1317_1, h_1318_1, h_155_1, fun x hx => by simp only [List.mem_cons, List.not_mem_nil, or_false, not_or] at hx; dsimp only; (repeat (first | rw [va_up_ne _ _ (by omega)] | rw [fr1 x (by simp only [List.mem_cons, List.not_mem_nil, or_false, not_or]; omega)]))⟩

set_option maxRecDepth 100000 in
set_option maxHeartbeats 4000000 in
theorem a_count1_m (O : am_ok K X)   {f : Nat → am_C} (h_160 : f 160 = .inr (14, [.ref 161, .ref 162, .int 0, .int 0, .int 0, .int 0, .int 0, .int 0, .int 0, .int 0, .int 0, .long 0, .ref 163, .ref 170, .ref 171, .ref 172, .ref 173, .ref 174, .ref 175, .ref 176, .int 0, .ref 177, .null, .ref 184, .int 0, .int 0, .ref 185, .int 0, .ref 186, .int 0, .ref 187, .ref 204, .ref 221, .ref 238, .int 0, .int 0, .ref 239, .ref 240, .ref 245, .ref 250, .ref 255, .int 0, .int 0, .int 0, .int 0, .int 0, .int 0, .ref 260, .ref 261, .ref 262, .ref 263, .ref 264, .int 0])) (h_187 : f 187 = .inr (13, [.ref 188, .ref 189, .ref 190, .ref 191, .ref 192, .ref 193, .ref 198, .ref 203, .int 0, .int 0, .int 0, .int 0])) : am_Mt K X m_Mod_count 0 0 0 [.ref 160, .int 1] (1319, f) (fun v h' => v = some (.int 0) ∧ h' = (1319, f)) := by
  refine am_enter (by decide +kernel) (Nat.le_of_ble_eq_true rfl) ?_
  refine am_iconst (v := 0) d_Mod_count_0 (by decide) ?_
  refine am_istore_n d_Mod_count_1 rfl (by decide) ?_
  refine am_iload_n d_Mod_count_2 rfl rfl ?_
  refine am_tableIn (tgt := 56) d_Mod_count_3 (by decide) (by decide) rfl (by decide) ?_
  refine am_aload_n d_Mod_count_56 rfl rfl ?_
  refine am_get O f_Mod_349 d_Mod_count_57 (by exact h_160) (by decide) (by decide) rfl ?_
  refine am_get O f_Mod_463 d_Mod_count_60 (by exact h_187) (by decide) (by decide) rfl ?_
  exact am_iret rfl d_Mod_count_63 ⟨rfl, rfl⟩

set_option maxRecDepth 100000 in
set_option maxHeartbeats 4000000 in
theorem t32_Store_functions (O : am_ok K X)   {f : Nat → am_C} (h_1311 : f 1311 = .inr (10, [.ref 1312, .ref 1313, .ref 1314, .ref 1315, .ref 1316, .ref 1317, .int 0, .ref 1318, .int 0])) : am_Mt K X m_Store_functions 0 0 0 [.ref 1311] (1319, f) (fun v h' => v = some (.int 0) ∧ h' = (1319, f)) := by
  refine am_enter (by decide +kernel) (Nat.le_of_ble_eq_true rfl) ?_
  refine am_aload_n d_Store_functions_0 rfl rfl ?_
  refine am_get O f_Store_51 d_Store_functions_1 (by exact h_1311) (by decide) (by decide) rfl ?_
  exact am_iret rfl d_Store_functions_4 ⟨rfl, rfl⟩

set_option maxRecDepth 100000 in
set_option maxHeartbeats 4000000 in
theorem a_count2_c (O : am_ok K X)   {f : Nat → am_C} (h_128 : f 128 = .inr (9, [.ref 129, .int 0, .ref 130, .ref 132, .ref 148, .ref 154, .ref 157, .long 0, .long 0, .int 0])) (h_154 : f 154 = .inr (7, [.ref 155, .ref 156, .int 0, .int 0])) (h_155 : f 155 = .inl (.object "StowTongue$Store", 10, (fun _ => .null))) : am_Mt K X m_Stow_count 4 8 4155 [.ref 128, .int 2] (1311, f) (fun v h' => v = some (.int 0) ∧ h'.1 = 1319 ∧ h'.2 1311 = .inr (10, [.ref 1312, .ref 1313, .ref 1314, .ref 1315, .ref 1316, .ref 1317, .int 0, .ref 1318, .int 0]) ∧ h'.2 1312 = .inl (.long, 2000, (fun _ => .long 0)) ∧ h'.2 1313 = .inl (.long, 2000, (fun _ => .long 0)) ∧ h'.2 1314 = .inl (.int, 100, (fun j => if j < 100 then .int (-1) else (fun _ => .int 0) j)) ∧ h'.2 1315 = .inl (.long, 12, (fun _ => .long 0)) ∧ h'.2 1316 = .inl (.long, 12, (fun _ => .long 0)) ∧ h'.2 1317 = .inl (.long, 12, (fun _ => .long 0)) ∧ h'.2 1318 = .inl (.object "StowTongue$Unit", 10, (fun _ => .null)) ∧ h'.2 155 = .inl (.object "StowTongue$Store", 10, (updV (fun _ => .null) 0 (.ref 1311))) ∧ ∀ x, x ∉ ([1311, 1312, 1313, 1314, 1315, 1316, 1317, 1318, 155] : List Nat) → h'.2 x = f x) := by
  refine am_enter (by decide +kernel) (Nat.le_of_ble_eq_true rfl) ?_
  refine am_aload_n d_Stow_count_0 rfl rfl ?_
  refine am_get O f_Stow_37 d_Stow_count_1 (by exact h_128) (by decide) (by decide) rfl ?_
  refine am_callV O (t13_Log_latest O (by exact h_154) (by exact h_155)) rfl (by exact h_154) (by decide) (by decide) rfl rfl l_Stow_103 ⟨w_1009, w_1010⟩ rfl (Nat.le_of_ble_eq_true rfl) d_Stow_count_4 (by omega) (by omega) (by omega) (fun v h' hp => ?_)
  obtain ⟨n1, f1⟩ := h'
  obtain ⟨rfl, e1, g_1311_1, g_1312_1, g_1313_1, g_1314_1, g_1315_1, g_1316_1, g_1317_1, g_1318_1, g_155_1, fr1⟩ := hp
  obtain rfl : n1 = 1319 := e1
  have fr1 := fun (x : Nat) (hx : x ∉ ([1311, 1312, 1313, 1314, 1315, 1316, 1317, 1318, 155] : List Nat)) => (show f1 x = _ from fr1 x hx)
  have h_1311_1 : f1 1311 = .inr (10, [.ref 1312, .ref 1313, .ref 1314, .ref 1315, .ref 1316, .ref 1317, .int 0, .ref 1318, .int 0]) := g_1311_1
  have h_1312_1 : f1 1312 = .inl (.long, 2000, (fun _ => .long 0)) := g_1312_1
  have h_1313_1 : f1 1313 = .inl (.long, 2000, (fun _ => .long 0)) := g_1313_1
  have h_1314_1 : f1 1314 = .inl (.int, 100, (fun j => if j < 100 then .int (-1) else (fun _ => .int 0) j)) := g_1314_1
  have h_1315_1 : f1 1315 = .inl (.long, 12, (fun _ => .long 0)) := g_1315_1
  have h_1316_1 : f1 1316 = .inl (.long, 12, (fun _ => .long 0)) := g_1316_1
  have h_1317_1 : f1 1317 = .inl (.long, 12, (fun _ => .long 0)) := g_1317_1
  have h_1318_1 : f1 1318 = .inl (.object "StowTongue$Unit", 10, (fun _ => .null)) := g_1318_1
  have h_155_1 : f1 155 = .inl (.object "StowTongue$Store", 10, (updV (fun _ => .null) 0 (.ref 1311))) := g_155_1
  refine am_astore_n d_Stow_count_7 rfl (by decide) ?_
  refine am_iload_n d_Stow_count_8 rfl rfl ?_
  refine am_tableIn (tgt := 66) d_Stow_count_9 (by decide) (by decide) rfl (by decide) ?_
  refine am_aload_n d_Stow_count_66 rfl rfl ?_
  refine am_callV O (t32_Store_functions O (by exact h_1311_1)) rfl (by exact h_1311_1) (by decide) (by decide) rfl rfl l_Stow_191 ⟨w_1471, w_1472⟩ rfl (Nat.le_of_ble_eq_true rfl) d_Stow_count_67 (by omega) (by omega) (by omega) (fun v h' hp => ?_)
  obtain ⟨rfl, rfl⟩ := hp
  exact am_iret rfl d_Stow_count_70 ⟨rfl, rfl, h_1311_1, h_1312_1, h_1313_1, h_1314_1, h_1315_1, h_1316_1, h_1317_1, h_1318_1, h_155_1, fun x hx => by simp only [List.mem_cons, List.not_mem_nil, or_false, not_or] at hx; dsimp only; (repeat (first | rw [va_up_ne _ _ (by omega)] | rw [fr1 x (by simp only [List.mem_cons, List.not_mem_nil, or_false, not_or]; omega)]))⟩

set_option maxRecDepth 100000 in
set_option maxHeartbeats 4000000 in
theorem a_count2_m (O : am_ok K X)   {f : Nat → am_C} (h_160 : f 160 = .inr (14, [.ref 161, .ref 162, .int 0, .int 0, .int 0, .int 0, .int 0, .int 0, .int 0, .int 0, .int 0, .long 0, .ref 163, .ref 170, .ref 171, .ref 172, .ref 173, .ref 174, .ref 175, .ref 176, .int 0, .ref 177, .null, .ref 184, .int 0, .int 0, .ref 185, .int 0, .ref 186, .int 0, .ref 187, .ref 204, .ref 221, .ref 238, .int 0, .int 0, .ref 239, .ref 240, .ref 245, .ref 250, .ref 255, .int 0, .int 0, .int 0, .int 0, .int 0, .int 0, .ref 260, .ref 261, .ref 262, .ref 263, .ref 264, .int 0])) (h_187 : f 187 = .inr (13, [.ref 188, .ref 189, .ref 190, .ref 191, .ref 192, .ref 193, .ref 198, .ref 203, .int 0, .int 0, .int 0, .int 0])) : am_Mt K X m_Mod_count 0 0 0 [.ref 160, .int 2] (1319, f) (fun v h' => v = some (.int 0) ∧ h' = (1319, f)) := by
  refine am_enter (by decide +kernel) (Nat.le_of_ble_eq_true rfl) ?_
  refine am_iconst (v := 0) d_Mod_count_0 (by decide) ?_
  refine am_istore_n d_Mod_count_1 rfl (by decide) ?_
  refine am_iload_n d_Mod_count_2 rfl rfl ?_
  refine am_tableIn (tgt := 64) d_Mod_count_3 (by decide) (by decide) rfl (by decide) ?_
  refine am_aload_n d_Mod_count_64 rfl rfl ?_
  refine am_get O f_Mod_349 d_Mod_count_65 (by exact h_160) (by decide) (by decide) rfl ?_
  refine am_get O f_Mod_396 d_Mod_count_68 (by exact h_187) (by decide) (by decide) rfl ?_
  exact am_iret rfl d_Mod_count_71 ⟨rfl, rfl⟩

set_option maxRecDepth 100000 in
set_option maxHeartbeats 4000000 in
theorem t35_Store_functionTokens (O : am_ok K X)   {f : Nat → am_C} (h_1311 : f 1311 = .inr (10, [.ref 1312, .ref 1313, .ref 1314, .ref 1315, .ref 1316, .ref 1317, .int 0, .ref 1318, .int 0])) : am_Mt K X m_Store_functionTokens 0 0 0 [.ref 1311] (1319, f) (fun v h' => v = some (.int 0) ∧ h' = (1319, f)) := by
  refine am_enter (by decide +kernel) (Nat.le_of_ble_eq_true rfl) ?_
  refine am_iconst (v := 0) d_Store_functionTokens_0 (by decide) ?_
  refine am_istore_n d_Store_functionTokens_1 rfl (by decide) ?_
  refine am_iconst (v := 0) d_Store_functionTokens_2 (by decide) ?_
  refine am_istore_n d_Store_functionTokens_3 rfl (by decide) ?_
  refine am_iload_n d_Store_functionTokens_4 rfl rfl ?_
  refine am_aload_n d_Store_functionTokens_5 rfl rfl ?_
  refine am_get O f_Store_51 d_Store_functionTokens_6 (by exact h_1311) (by decide) (by decide) rfl ?_
  refine am_icmp_ge (tgt := 43) d_Store_functionTokens_9 (by decide) (fun _ => ?_) (fun c => absurd (by decide) c)
  refine am_iload_n d_Store_functionTokens_43 rfl rfl ?_
  exact am_iret rfl d_Store_functionTokens_44 ⟨rfl, rfl⟩

set_option maxRecDepth 100000 in
set_option maxHeartbeats 4000000 in
theorem a_count3_c (O : am_ok K X)   {f : Nat → am_C} (h_128 : f 128 = .inr (9, [.ref 129, .int 0, .ref 130, .ref 132, .ref 148, .ref 154, .ref 157, .long 0, .long 0, .int 0])) (h_154 : f 154 = .inr (7, [.ref 155, .ref 156, .int 0, .int 0])) (h_155 : f 155 = .inl (.object "StowTongue$Store", 10, (fun _ => .null))) : am_Mt K X m_Stow_count 4 8 4155 [.ref 128, .int 3] (1311, f) (fun v h' => v = some (.int 0) ∧ h'.1 = 1319 ∧ h'.2 1311 = .inr (10, [.ref 1312, .ref 1313, .ref 1314, .ref 1315, .ref 1316, .ref 1317, .int 0, .ref 1318, .int 0]) ∧ h'.2 1312 = .inl (.long, 2000, (fun _ => .long 0)) ∧ h'.2 1313 = .inl (.long, 2000, (fun _ => .long 0)) ∧ h'.2 1314 = .inl (.int, 100, (fun j => if j < 100 then .int (-1) else (fun _ => .int 0) j)) ∧ h'.2 1315 = .inl (.long, 12, (fun _ => .long 0)) ∧ h'.2 1316 = .inl (.long, 12, (fun _ => .long 0)) ∧ h'.2 1317 = .inl (.long, 12, (fun _ => .long 0)) ∧ h'.2 1318 = .inl (.object "StowTongue$Unit", 10, (fun _ => .null)) ∧ h'.2 155 = .inl (.object "StowTongue$Store", 10, (updV (fun _ => .null) 0 (.ref 1311))) ∧ ∀ x, x ∉ ([1311, 1312, 1313, 1314, 1315, 1316, 1317, 1318, 155] : List Nat) → h'.2 x = f x) := by
  refine am_enter (by decide +kernel) (Nat.le_of_ble_eq_true rfl) ?_
  refine am_aload_n d_Stow_count_0 rfl rfl ?_
  refine am_get O f_Stow_37 d_Stow_count_1 (by exact h_128) (by decide) (by decide) rfl ?_
  refine am_callV O (t13_Log_latest O (by exact h_154) (by exact h_155)) rfl (by exact h_154) (by decide) (by decide) rfl rfl l_Stow_103 ⟨w_1009, w_1010⟩ rfl (Nat.le_of_ble_eq_true rfl) d_Stow_count_4 (by omega) (by omega) (by omega) (fun v h' hp => ?_)
  obtain ⟨n1, f1⟩ := h'
  obtain ⟨rfl, e1, g_1311_1, g_1312_1, g_1313_1, g_1314_1, g_1315_1, g_1316_1, g_1317_1, g_1318_1, g_155_1, fr1⟩ := hp
  obtain rfl : n1 = 1319 := e1
  have fr1 := fun (x : Nat) (hx : x ∉ ([1311, 1312, 1313, 1314, 1315, 1316, 1317, 1318, 155] : List Nat)) => (show f1 x = _ from fr1 x hx)
  have h_1311_1 : f1 1311 = .inr (10, [.ref 1312, .ref 1313, .ref 1314, .ref 1315, .ref 1316, .ref 1317, .int 0, .ref 1318, .int 0]) := g_1311_1
  have h_1312_1 : f1 1312 = .inl (.long, 2000, (fun _ => .long 0)) := g_1312_1
  have h_1313_1 : f1 1313 = .inl (.long, 2000, (fun _ => .long 0)) := g_1313_1
  have h_1314_1 : f1 1314 = .inl (.int, 100, (fun j => if j < 100 then .int (-1) else (fun _ => .int 0) j)) := g_1314_1
  have h_1315_1 : f1 1315 = .inl (.long, 12, (fun _ => .long 0)) := g_1315_1
  have h_1316_1 : f1 1316 = .inl (.long, 12, (fun _ => .long 0)) := g_1316_1
  have h_1317_1 : f1 1317 = .inl (.long, 12, (fun _ => .long 0)) := g_1317_1
  have h_1318_1 : f1 1318 = .inl (.object "StowTongue$Unit", 10, (fun _ => .null)) := g_1318_1
  have h_155_1 : f1 155 = .inl (.object "StowTongue$Store", 10, (updV (fun _ => .null) 0 (.ref 1311))) := g_155_1
  refine am_astore_n d_Stow_count_7 rfl (by decide) ?_
  refine am_iload_n d_Stow_count_8 rfl rfl ?_
  refine am_tableIn (tgt := 71) d_Stow_count_9 (by decide) (by decide) rfl (by decide) ?_
  refine am_aload_n d_Stow_count_71 rfl rfl ?_
  refine am_callV O (t35_Store_functionTokens O (by exact h_1311_1)) rfl (by exact h_1311_1) (by decide) (by decide) rfl rfl l_Stow_194 ⟨w_1050, w_1051⟩ rfl (Nat.le_of_ble_eq_true rfl) d_Stow_count_72 (by omega) (by omega) (by omega) (fun v h' hp => ?_)
  obtain ⟨rfl, rfl⟩ := hp
  exact am_iret rfl d_Stow_count_75 ⟨rfl, rfl, h_1311_1, h_1312_1, h_1313_1, h_1314_1, h_1315_1, h_1316_1, h_1317_1, h_1318_1, h_155_1, fun x hx => by simp only [List.mem_cons, List.not_mem_nil, or_false, not_or] at hx; dsimp only; (repeat (first | rw [va_up_ne _ _ (by omega)] | rw [fr1 x (by simp only [List.mem_cons, List.not_mem_nil, or_false, not_or]; omega)]))⟩

set_option maxRecDepth 100000 in
set_option maxHeartbeats 4000000 in
theorem t37_Mod_tokensOf (O : am_ok K X)   {f : Nat → am_C} (h_187 : f 187 = .inr (13, [.ref 188, .ref 189, .ref 190, .ref 191, .ref 192, .ref 193, .ref 198, .ref 203, .int 0, .int 0, .int 0, .int 0])) : am_Mt K X m_Mod_tokensOf 0 0 0 [.ref 187] (1319, f) (fun v h' => v = some (.int 0) ∧ h' = (1319, f)) := by
  refine am_enter (by decide +kernel) (Nat.le_of_ble_eq_true rfl) ?_
  refine am_iconst (v := 0) d_Mod_tokensOf_0 (by decide) ?_
  refine am_istore_n d_Mod_tokensOf_1 rfl (by decide) ?_
  refine am_iconst (v := 0) d_Mod_tokensOf_2 (by decide) ?_
  refine am_istore_n d_Mod_tokensOf_3 rfl (by decide) ?_
  refine am_iload_n d_Mod_tokensOf_4 rfl rfl ?_
  refine am_aload_n d_Mod_tokensOf_5 rfl rfl ?_
  refine am_get O f_Mod_396 d_Mod_tokensOf_6 (by exact h_187) (by decide) (by decide) rfl ?_
  refine am_icmp_ge (tgt := 30) d_Mod_tokensOf_9 (by decide) (fun _ => ?_) (fun c => absurd (by decide) c)
  refine am_iload_n d_Mod_tokensOf_30 rfl rfl ?_
  exact am_iret rfl d_Mod_tokensOf_31 ⟨rfl, rfl⟩

set_option maxRecDepth 100000 in
set_option maxHeartbeats 4000000 in
theorem a_count3_m (O : am_ok K X)   {f : Nat → am_C} (h_160 : f 160 = .inr (14, [.ref 161, .ref 162, .int 0, .int 0, .int 0, .int 0, .int 0, .int 0, .int 0, .int 0, .int 0, .long 0, .ref 163, .ref 170, .ref 171, .ref 172, .ref 173, .ref 174, .ref 175, .ref 176, .int 0, .ref 177, .null, .ref 184, .int 0, .int 0, .ref 185, .int 0, .ref 186, .int 0, .ref 187, .ref 204, .ref 221, .ref 238, .int 0, .int 0, .ref 239, .ref 240, .ref 245, .ref 250, .ref 255, .int 0, .int 0, .int 0, .int 0, .int 0, .int 0, .ref 260, .ref 261, .ref 262, .ref 263, .ref 264, .int 0])) (h_187 : f 187 = .inr (13, [.ref 188, .ref 189, .ref 190, .ref 191, .ref 192, .ref 193, .ref 198, .ref 203, .int 0, .int 0, .int 0, .int 0])) : am_Mt K X m_Mod_count 1 0 0 [.ref 160, .int 3] (1319, f) (fun v h' => v = some (.int 0) ∧ h' = (1319, f)) := by
  refine am_enter (by decide +kernel) (Nat.le_of_ble_eq_true rfl) ?_
  refine am_iconst (v := 0) d_Mod_count_0 (by decide) ?_
  refine am_istore_n d_Mod_count_1 rfl (by decide) ?_
  refine am_iload_n d_Mod_count_2 rfl rfl ?_
  refine am_tableIn (tgt := 72) d_Mod_count_3 (by decide) (by decide) rfl (by decide) ?_
  refine am_aload_n d_Mod_count_72 rfl rfl ?_
  refine am_get O f_Mod_349 d_Mod_count_73 (by exact h_160) (by decide) (by decide) rfl ?_
  refine am_callS O (t37_Mod_tokensOf O (by exact h_187)) rfl l_Mod_431 w_2019 rfl (Nat.le_of_ble_eq_true rfl) d_Mod_count_76 (by omega) (by omega) (by omega) (fun v h' hp => ?_)
  obtain ⟨rfl, rfl⟩ := hp
  exact am_iret rfl d_Mod_count_79 ⟨rfl, rfl⟩

set_option maxRecDepth 100000 in
set_option maxHeartbeats 4000000 in
theorem t39_Log_safeBytes (O : am_ok K X)   {f : Nat → am_C} (h_154 : f 154 = .inr (7, [.ref 155, .ref 156, .int 0, .int 0])) : am_Mt K X m_Log_safeBytes 0 0 0 [.ref 154] (1319, f) (fun v h' => v = some (.int 0) ∧ h' = (1319, f)) := by
  refine am_enter (by decide +kernel) (Nat.le_of_ble_eq_true rfl) ?_
  refine am_aload_n d_Log_safeBytes_0 rfl rfl ?_
  refine am_get O f_Log_50 d_Log_safeBytes_1 (by exact h_154) (by decide) (by decide) rfl ?_
  exact am_iret rfl d_Log_safeBytes_4 ⟨rfl, rfl⟩

set_option maxRecDepth 100000 in
set_option maxHeartbeats 4000000 in
theorem t40_Log_waitingBytes (O : am_ok K X)   {f : Nat → am_C} (h_154 : f 154 = .inr (7, [.ref 155, .ref 156, .int 0, .int 0])) : am_Mt K X m_Log_waitingBytes 0 0 0 [.ref 154] (1319, f) (fun v h' => v = some (.int 0) ∧ h' = (1319, f)) := by
  refine am_enter (by decide +kernel) (Nat.le_of_ble_eq_true rfl) ?_
  refine am_iconst (v := 0) d_Log_waitingBytes_0 (by decide) ?_
  refine am_istore_n d_Log_waitingBytes_1 rfl (by decide) ?_
  refine am_iconst (v := 1) d_Log_waitingBytes_2 (by decide) ?_
  refine am_istore_n d_Log_waitingBytes_3 rfl (by decide) ?_
  refine am_iload_n d_Log_waitingBytes_4 rfl rfl ?_
  refine am_aload_n d_Log_waitingBytes_5 rfl rfl ?_
  refine am_get O f_Log_27 d_Log_waitingBytes_6 (by exact h_154) (by decide) (by decide) rfl ?_
  refine am_icmp_gt (tgt := 27) d_Log_waitingBytes_9 (by decide) (fun _ => ?_) (fun c => absurd (by decide) c)
  refine am_iload_n d_Log_waitingBytes_27 rfl rfl ?_
  exact am_iret rfl d_Log_waitingBytes_28 ⟨rfl, rfl⟩

set_option maxRecDepth 100000 in
set_option maxHeartbeats 4000000 in
theorem a_count4_c (O : am_ok K X)   {f : Nat → am_C} (h_128 : f 128 = .inr (9, [.ref 129, .int 0, .ref 130, .ref 132, .ref 148, .ref 154, .ref 157, .long 0, .long 0, .int 0])) (h_154 : f 154 = .inr (7, [.ref 155, .ref 156, .int 0, .int 0])) (h_155 : f 155 = .inl (.object "StowTongue$Store", 10, (fun _ => .null))) : am_Mt K X m_Stow_count 4 8 4155 [.ref 128, .int 4] (1311, f) (fun v h' => v = some (.int 0) ∧ h'.1 = 1319 ∧ h'.2 1311 = .inr (10, [.ref 1312, .ref 1313, .ref 1314, .ref 1315, .ref 1316, .ref 1317, .int 0, .ref 1318, .int 0]) ∧ h'.2 1312 = .inl (.long, 2000, (fun _ => .long 0)) ∧ h'.2 1313 = .inl (.long, 2000, (fun _ => .long 0)) ∧ h'.2 1314 = .inl (.int, 100, (fun j => if j < 100 then .int (-1) else (fun _ => .int 0) j)) ∧ h'.2 1315 = .inl (.long, 12, (fun _ => .long 0)) ∧ h'.2 1316 = .inl (.long, 12, (fun _ => .long 0)) ∧ h'.2 1317 = .inl (.long, 12, (fun _ => .long 0)) ∧ h'.2 1318 = .inl (.object "StowTongue$Unit", 10, (fun _ => .null)) ∧ h'.2 155 = .inl (.object "StowTongue$Store", 10, (updV (fun _ => .null) 0 (.ref 1311))) ∧ ∀ x, x ∉ ([1311, 1312, 1313, 1314, 1315, 1316, 1317, 1318, 155] : List Nat) → h'.2 x = f x) := by
  refine am_enter (by decide +kernel) (Nat.le_of_ble_eq_true rfl) ?_
  refine am_aload_n d_Stow_count_0 rfl rfl ?_
  refine am_get O f_Stow_37 d_Stow_count_1 (by exact h_128) (by decide) (by decide) rfl ?_
  refine am_callV O (t13_Log_latest O (by exact h_154) (by exact h_155)) rfl (by exact h_154) (by decide) (by decide) rfl rfl l_Stow_103 ⟨w_1009, w_1010⟩ rfl (Nat.le_of_ble_eq_true rfl) d_Stow_count_4 (by omega) (by omega) (by omega) (fun v h' hp => ?_)
  obtain ⟨n1, f1⟩ := h'
  obtain ⟨rfl, e1, g_1311_1, g_1312_1, g_1313_1, g_1314_1, g_1315_1, g_1316_1, g_1317_1, g_1318_1, g_155_1, fr1⟩ := hp
  obtain rfl : n1 = 1319 := e1
  have fr1 := fun (x : Nat) (hx : x ∉ ([1311, 1312, 1313, 1314, 1315, 1316, 1317, 1318, 155] : List Nat)) => (show f1 x = _ from fr1 x hx)
  have h_1311_1 : f1 1311 = .inr (10, [.ref 1312, .ref 1313, .ref 1314, .ref 1315, .ref 1316, .ref 1317, .int 0, .ref 1318, .int 0]) := g_1311_1
  have h_1312_1 : f1 1312 = .inl (.long, 2000, (fun _ => .long 0)) := g_1312_1
  have h_1313_1 : f1 1313 = .inl (.long, 2000, (fun _ => .long 0)) := g_1313_1
  have h_1314_1 : f1 1314 = .inl (.int, 100, (fun j => if j < 100 then .int (-1) else (fun _ => .int 0) j)) := g_1314_1
  have h_1315_1 : f1 1315 = .inl (.long, 12, (fun _ => .long 0)) := g_1315_1
  have h_1316_1 : f1 1316 = .inl (.long, 12, (fun _ => .long 0)) := g_1316_1
  have h_1317_1 : f1 1317 = .inl (.long, 12, (fun _ => .long 0)) := g_1317_1
  have h_1318_1 : f1 1318 = .inl (.object "StowTongue$Unit", 10, (fun _ => .null)) := g_1318_1
  have h_155_1 : f1 155 = .inl (.object "StowTongue$Store", 10, (updV (fun _ => .null) 0 (.ref 1311))) := g_155_1
  refine am_astore_n d_Stow_count_7 rfl (by decide) ?_
  refine am_iload_n d_Stow_count_8 rfl rfl ?_
  refine am_tableIn (tgt := 76) d_Stow_count_9 (by decide) (by decide) rfl (by decide) ?_
  refine am_aload_n d_Stow_count_76 rfl rfl ?_
  have h_128_1 : f1 128 = .inr (9, [.ref 129, .int 0, .ref 130, .ref 132, .ref 148, .ref 154, .ref 157, .long 0, .long 0, .int 0]) := (fr1 128 (by decide)).trans h_128
  refine am_get O f_Stow_37 d_Stow_count_77 (by exact h_128_1) (by decide) (by decide) rfl ?_
  have h_154_1 : f1 154 = .inr (7, [.ref 155, .ref 156, .int 0, .int 0]) := (fr1 154 (by decide)).trans h_154
  refine am_callV O (t39_Log_safeBytes O (by exact h_154_1)) rfl (by exact h_154_1) (by decide) (by decide) rfl rfl l_Stow_197 ⟨w_1476, w_1477⟩ rfl (Nat.le_of_ble_eq_true rfl) d_Stow_count_80 (by omega) (by omega) (by omega) (fun v h' hp => ?_)
  obtain ⟨rfl, rfl⟩ := hp
  refine am_aload_n d_Stow_count_83 rfl rfl ?_
  refine am_get O f_Stow_37 d_Stow_count_84 (by exact h_128_1) (by decide) (by decide) rfl ?_
  refine am_callV O (t40_Log_waitingBytes O (by exact h_154_1)) rfl (by exact h_154_1) (by decide) (by decide) rfl rfl l_Stow_200 ⟨w_1480, w_1481⟩ rfl (Nat.le_of_ble_eq_true rfl) d_Stow_count_87 (by omega) (by omega) (by omega) (fun v h' hp => ?_)
  obtain ⟨rfl, rfl⟩ := hp
  refine am_iadd d_Stow_count_90 ?_
  refine am_topi (v := 0) (by decide) ?_
  exact am_iret rfl d_Stow_count_91 ⟨rfl, rfl, h_1311_1, h_1312_1, h_1313_1, h_1314_1, h_1315_1, h_1316_1, h_1317_1, h_1318_1, h_155_1, fun x hx => by simp only [List.mem_cons, List.not_mem_nil, or_false, not_or] at hx; dsimp only; (repeat (first | rw [va_up_ne _ _ (by omega)] | rw [fr1 x (by simp only [List.mem_cons, List.not_mem_nil, or_false, not_or]; omega)]))⟩

set_option maxRecDepth 100000 in
set_option maxHeartbeats 4000000 in
theorem a_count4_m (O : am_ok K X)   {f : Nat → am_C} (h_160 : f 160 = .inr (14, [.ref 161, .ref 162, .int 0, .int 0, .int 0, .int 0, .int 0, .int 0, .int 0, .int 0, .int 0, .long 0, .ref 163, .ref 170, .ref 171, .ref 172, .ref 173, .ref 174, .ref 175, .ref 176, .int 0, .ref 177, .null, .ref 184, .int 0, .int 0, .ref 185, .int 0, .ref 186, .int 0, .ref 187, .ref 204, .ref 221, .ref 238, .int 0, .int 0, .ref 239, .ref 240, .ref 245, .ref 250, .ref 255, .int 0, .int 0, .int 0, .int 0, .int 0, .int 0, .ref 260, .ref 261, .ref 262, .ref 263, .ref 264, .int 0])) : am_Mt K X m_Mod_count 0 0 0 [.ref 160, .int 4] (1319, f) (fun v h' => v = some (.int 0) ∧ h' = (1319, f)) := by
  refine am_enter (by decide +kernel) (Nat.le_of_ble_eq_true rfl) ?_
  refine am_iconst (v := 0) d_Mod_count_0 (by decide) ?_
  refine am_istore_n d_Mod_count_1 rfl (by decide) ?_
  refine am_iload_n d_Mod_count_2 rfl rfl ?_
  refine am_tableIn (tgt := 80) d_Mod_count_3 (by decide) (by decide) rfl (by decide) ?_
  refine am_aload_n d_Mod_count_80 rfl rfl ?_
  refine am_get O f_Mod_480 d_Mod_count_81 (by exact h_160) (by decide) (by decide) rfl ?_
  exact am_iret rfl d_Mod_count_84 ⟨rfl, rfl⟩

set_option maxRecDepth 100000 in
set_option maxHeartbeats 4000000 in
theorem a_count5_c (O : am_ok K X)   {f : Nat → am_C} (h_128 : f 128 = .inr (9, [.ref 129, .int 0, .ref 130, .ref 132, .ref 148, .ref 154, .ref 157, .long 0, .long 0, .int 0])) (h_154 : f 154 = .inr (7, [.ref 155, .ref 156, .int 0, .int 0])) (h_155 : f 155 = .inl (.object "StowTongue$Store", 10, (fun _ => .null))) : am_Mt K X m_Stow_count 4 8 4155 [.ref 128, .int 5] (1311, f) (fun v h' => v = some (.int 0) ∧ h'.1 = 1319 ∧ h'.2 1311 = .inr (10, [.ref 1312, .ref 1313, .ref 1314, .ref 1315, .ref 1316, .ref 1317, .int 0, .ref 1318, .int 0]) ∧ h'.2 1312 = .inl (.long, 2000, (fun _ => .long 0)) ∧ h'.2 1313 = .inl (.long, 2000, (fun _ => .long 0)) ∧ h'.2 1314 = .inl (.int, 100, (fun j => if j < 100 then .int (-1) else (fun _ => .int 0) j)) ∧ h'.2 1315 = .inl (.long, 12, (fun _ => .long 0)) ∧ h'.2 1316 = .inl (.long, 12, (fun _ => .long 0)) ∧ h'.2 1317 = .inl (.long, 12, (fun _ => .long 0)) ∧ h'.2 1318 = .inl (.object "StowTongue$Unit", 10, (fun _ => .null)) ∧ h'.2 155 = .inl (.object "StowTongue$Store", 10, (updV (fun _ => .null) 0 (.ref 1311))) ∧ ∀ x, x ∉ ([1311, 1312, 1313, 1314, 1315, 1316, 1317, 1318, 155] : List Nat) → h'.2 x = f x) := by
  refine am_enter (by decide +kernel) (Nat.le_of_ble_eq_true rfl) ?_
  refine am_aload_n d_Stow_count_0 rfl rfl ?_
  refine am_get O f_Stow_37 d_Stow_count_1 (by exact h_128) (by decide) (by decide) rfl ?_
  refine am_callV O (t13_Log_latest O (by exact h_154) (by exact h_155)) rfl (by exact h_154) (by decide) (by decide) rfl rfl l_Stow_103 ⟨w_1009, w_1010⟩ rfl (Nat.le_of_ble_eq_true rfl) d_Stow_count_4 (by omega) (by omega) (by omega) (fun v h' hp => ?_)
  obtain ⟨n1, f1⟩ := h'
  obtain ⟨rfl, e1, g_1311_1, g_1312_1, g_1313_1, g_1314_1, g_1315_1, g_1316_1, g_1317_1, g_1318_1, g_155_1, fr1⟩ := hp
  obtain rfl : n1 = 1319 := e1
  have fr1 := fun (x : Nat) (hx : x ∉ ([1311, 1312, 1313, 1314, 1315, 1316, 1317, 1318, 155] : List Nat)) => (show f1 x = _ from fr1 x hx)
  have h_1311_1 : f1 1311 = .inr (10, [.ref 1312, .ref 1313, .ref 1314, .ref 1315, .ref 1316, .ref 1317, .int 0, .ref 1318, .int 0]) := g_1311_1
  have h_1312_1 : f1 1312 = .inl (.long, 2000, (fun _ => .long 0)) := g_1312_1
  have h_1313_1 : f1 1313 = .inl (.long, 2000, (fun _ => .long 0)) := g_1313_1
  have h_1314_1 : f1 1314 = .inl (.int, 100, (fun j => if j < 100 then .int (-1) else (fun _ => .int 0) j)) := g_1314_1
  have h_1315_1 : f1 1315 = .inl (.long, 12, (fun _ => .long 0)) := g_1315_1
  have h_1316_1 : f1 1316 = .inl (.long, 12, (fun _ => .long 0)) := g_1316_1
  have h_1317_1 : f1 1317 = .inl (.long, 12, (fun _ => .long 0)) := g_1317_1
  have h_1318_1 : f1 1318 = .inl (.object "StowTongue$Unit", 10, (fun _ => .null)) := g_1318_1
  have h_155_1 : f1 155 = .inl (.object "StowTongue$Store", 10, (updV (fun _ => .null) 0 (.ref 1311))) := g_155_1
  refine am_astore_n d_Stow_count_7 rfl (by decide) ?_
  refine am_iload_n d_Stow_count_8 rfl rfl ?_
  refine am_tableIn (tgt := 92) d_Stow_count_9 (by decide) (by decide) rfl (by decide) ?_
  refine am_aload_n d_Stow_count_92 rfl rfl ?_
  have h_128_1 : f1 128 = .inr (9, [.ref 129, .int 0, .ref 130, .ref 132, .ref 148, .ref 154, .ref 157, .long 0, .long 0, .int 0]) := (fr1 128 (by decide)).trans h_128
  refine am_get O f_Stow_37 d_Stow_count_93 (by exact h_128_1) (by decide) (by decide) rfl ?_
  have h_154_1 : f1 154 = .inr (7, [.ref 155, .ref 156, .int 0, .int 0]) := (fr1 154 (by decide)).trans h_154
  refine am_callV O (t40_Log_waitingBytes O (by exact h_154_1)) rfl (by exact h_154_1) (by decide) (by decide) rfl rfl l_Stow_200 ⟨w_1480, w_1481⟩ rfl (Nat.le_of_ble_eq_true rfl) d_Stow_count_96 (by omega) (by omega) (by omega) (fun v h' hp => ?_)
  obtain ⟨rfl, rfl⟩ := hp
  exact am_iret rfl d_Stow_count_99 ⟨rfl, rfl, h_1311_1, h_1312_1, h_1313_1, h_1314_1, h_1315_1, h_1316_1, h_1317_1, h_1318_1, h_155_1, fun x hx => by simp only [List.mem_cons, List.not_mem_nil, or_false, not_or] at hx; dsimp only; (repeat (first | rw [va_up_ne _ _ (by omega)] | rw [fr1 x (by simp only [List.mem_cons, List.not_mem_nil, or_false, not_or]; omega)]))⟩

set_option maxRecDepth 100000 in
set_option maxHeartbeats 4000000 in
theorem a_count5_m (O : am_ok K X)   {f : Nat → am_C} (h_160 : f 160 = .inr (14, [.ref 161, .ref 162, .int 0, .int 0, .int 0, .int 0, .int 0, .int 0, .int 0, .int 0, .int 0, .long 0, .ref 163, .ref 170, .ref 171, .ref 172, .ref 173, .ref 174, .ref 175, .ref 176, .int 0, .ref 177, .null, .ref 184, .int 0, .int 0, .ref 185, .int 0, .ref 186, .int 0, .ref 187, .ref 204, .ref 221, .ref 238, .int 0, .int 0, .ref 239, .ref 240, .ref 245, .ref 250, .ref 255, .int 0, .int 0, .int 0, .int 0, .int 0, .int 0, .ref 260, .ref 261, .ref 262, .ref 263, .ref 264, .int 0])) : am_Mt K X m_Mod_count 0 0 0 [.ref 160, .int 5] (1319, f) (fun v h' => v = some (.int 0) ∧ h' = (1319, f)) := by
  refine am_enter (by decide +kernel) (Nat.le_of_ble_eq_true rfl) ?_
  refine am_iconst (v := 0) d_Mod_count_0 (by decide) ?_
  refine am_istore_n d_Mod_count_1 rfl (by decide) ?_
  refine am_iload_n d_Mod_count_2 rfl rfl ?_
  refine am_tableIn (tgt := 85) d_Mod_count_3 (by decide) (by decide) rfl (by decide) ?_
  refine am_iconst (v := 0) d_Mod_count_85 (by decide) ?_
  refine am_istore_n d_Mod_count_86 rfl (by decide) ?_
  refine am_iload_n d_Mod_count_87 rfl rfl ?_
  refine am_aload_n d_Mod_count_88 rfl rfl ?_
  refine am_get O f_Mod_409 d_Mod_count_89 (by exact h_160) (by decide) (by decide) rfl ?_
  refine am_icmp_ge (tgt := 113) d_Mod_count_92 (by decide) (fun _ => ?_) (fun c => absurd (by decide) c)
  refine am_iload_n d_Mod_count_113 rfl rfl ?_
  exact am_iret rfl d_Mod_count_114 ⟨rfl, rfl⟩

set_option maxRecDepth 100000 in
set_option maxHeartbeats 4000000 in
theorem t45_Log_waiting (O : am_ok K X)   {f : Nat → am_C} (h_154 : f 154 = .inr (7, [.ref 155, .ref 156, .int 0, .int 0])) : am_Mt K X m_Log_waiting 0 0 0 [.ref 154] (1319, f) (fun v h' => v = some (.int 0) ∧ h' = (1319, f)) := by
  refine am_enter (by decide +kernel) (Nat.le_of_ble_eq_true rfl) ?_
  refine am_aload_n d_Log_waiting_0 rfl rfl ?_
  refine am_get O f_Log_27 d_Log_waiting_1 (by exact h_154) (by decide) (by decide) rfl ?_
  exact am_iret rfl d_Log_waiting_4 ⟨rfl, rfl⟩

set_option maxRecDepth 100000 in
set_option maxHeartbeats 4000000 in
theorem a_count6_c (O : am_ok K X)   {f : Nat → am_C} (h_128 : f 128 = .inr (9, [.ref 129, .int 0, .ref 130, .ref 132, .ref 148, .ref 154, .ref 157, .long 0, .long 0, .int 0])) (h_154 : f 154 = .inr (7, [.ref 155, .ref 156, .int 0, .int 0])) (h_155 : f 155 = .inl (.object "StowTongue$Store", 10, (fun _ => .null))) : am_Mt K X m_Stow_count 4 8 4155 [.ref 128, .int 6] (1311, f) (fun v h' => v = some (.int 0) ∧ h'.1 = 1319 ∧ h'.2 1311 = .inr (10, [.ref 1312, .ref 1313, .ref 1314, .ref 1315, .ref 1316, .ref 1317, .int 0, .ref 1318, .int 0]) ∧ h'.2 1312 = .inl (.long, 2000, (fun _ => .long 0)) ∧ h'.2 1313 = .inl (.long, 2000, (fun _ => .long 0)) ∧ h'.2 1314 = .inl (.int, 100, (fun j => if j < 100 then .int (-1) else (fun _ => .int 0) j)) ∧ h'.2 1315 = .inl (.long, 12, (fun _ => .long 0)) ∧ h'.2 1316 = .inl (.long, 12, (fun _ => .long 0)) ∧ h'.2 1317 = .inl (.long, 12, (fun _ => .long 0)) ∧ h'.2 1318 = .inl (.object "StowTongue$Unit", 10, (fun _ => .null)) ∧ h'.2 155 = .inl (.object "StowTongue$Store", 10, (updV (fun _ => .null) 0 (.ref 1311))) ∧ ∀ x, x ∉ ([1311, 1312, 1313, 1314, 1315, 1316, 1317, 1318, 155] : List Nat) → h'.2 x = f x) := by
  refine am_enter (by decide +kernel) (Nat.le_of_ble_eq_true rfl) ?_
  refine am_aload_n d_Stow_count_0 rfl rfl ?_
  refine am_get O f_Stow_37 d_Stow_count_1 (by exact h_128) (by decide) (by decide) rfl ?_
  refine am_callV O (t13_Log_latest O (by exact h_154) (by exact h_155)) rfl (by exact h_154) (by decide) (by decide) rfl rfl l_Stow_103 ⟨w_1009, w_1010⟩ rfl (Nat.le_of_ble_eq_true rfl) d_Stow_count_4 (by omega) (by omega) (by omega) (fun v h' hp => ?_)
  obtain ⟨n1, f1⟩ := h'
  obtain ⟨rfl, e1, g_1311_1, g_1312_1, g_1313_1, g_1314_1, g_1315_1, g_1316_1, g_1317_1, g_1318_1, g_155_1, fr1⟩ := hp
  obtain rfl : n1 = 1319 := e1
  have fr1 := fun (x : Nat) (hx : x ∉ ([1311, 1312, 1313, 1314, 1315, 1316, 1317, 1318, 155] : List Nat)) => (show f1 x = _ from fr1 x hx)
  have h_1311_1 : f1 1311 = .inr (10, [.ref 1312, .ref 1313, .ref 1314, .ref 1315, .ref 1316, .ref 1317, .int 0, .ref 1318, .int 0]) := g_1311_1
  have h_1312_1 : f1 1312 = .inl (.long, 2000, (fun _ => .long 0)) := g_1312_1
  have h_1313_1 : f1 1313 = .inl (.long, 2000, (fun _ => .long 0)) := g_1313_1
  have h_1314_1 : f1 1314 = .inl (.int, 100, (fun j => if j < 100 then .int (-1) else (fun _ => .int 0) j)) := g_1314_1
  have h_1315_1 : f1 1315 = .inl (.long, 12, (fun _ => .long 0)) := g_1315_1
  have h_1316_1 : f1 1316 = .inl (.long, 12, (fun _ => .long 0)) := g_1316_1
  have h_1317_1 : f1 1317 = .inl (.long, 12, (fun _ => .long 0)) := g_1317_1
  have h_1318_1 : f1 1318 = .inl (.object "StowTongue$Unit", 10, (fun _ => .null)) := g_1318_1
  have h_155_1 : f1 155 = .inl (.object "StowTongue$Store", 10, (updV (fun _ => .null) 0 (.ref 1311))) := g_155_1
  refine am_astore_n d_Stow_count_7 rfl (by decide) ?_
  refine am_iload_n d_Stow_count_8 rfl rfl ?_
  refine am_tableIn (tgt := 100) d_Stow_count_9 (by decide) (by decide) rfl (by decide) ?_
  refine am_aload_n d_Stow_count_100 rfl rfl ?_
  have h_128_1 : f1 128 = .inr (9, [.ref 129, .int 0, .ref 130, .ref 132, .ref 148, .ref 154, .ref 157, .long 0, .long 0, .int 0]) := (fr1 128 (by decide)).trans h_128
  refine am_get O f_Stow_37 d_Stow_count_101 (by exact h_128_1) (by decide) (by decide) rfl ?_
  have h_154_1 : f1 154 = .inr (7, [.ref 155, .ref 156, .int 0, .int 0]) := (fr1 154 (by decide)).trans h_154
  refine am_callV O (t45_Log_waiting O (by exact h_154_1)) rfl (by exact h_154_1) (by decide) (by decide) rfl rfl l_Stow_169 ⟨w_1410, w_1411⟩ rfl (Nat.le_of_ble_eq_true rfl) d_Stow_count_104 (by omega) (by omega) (by omega) (fun v h' hp => ?_)
  obtain ⟨rfl, rfl⟩ := hp
  exact am_iret rfl d_Stow_count_107 ⟨rfl, rfl, h_1311_1, h_1312_1, h_1313_1, h_1314_1, h_1315_1, h_1316_1, h_1317_1, h_1318_1, h_155_1, fun x hx => by simp only [List.mem_cons, List.not_mem_nil, or_false, not_or] at hx; dsimp only; (repeat (first | rw [va_up_ne _ _ (by omega)] | rw [fr1 x (by simp only [List.mem_cons, List.not_mem_nil, or_false, not_or]; omega)]))⟩

set_option maxRecDepth 100000 in
set_option maxHeartbeats 4000000 in
theorem a_count6_m (O : am_ok K X)   {f : Nat → am_C} (h_160 : f 160 = .inr (14, [.ref 161, .ref 162, .int 0, .int 0, .int 0, .int 0, .int 0, .int 0, .int 0, .int 0, .int 0, .long 0, .ref 163, .ref 170, .ref 171, .ref 172, .ref 173, .ref 174, .ref 175, .ref 176, .int 0, .ref 177, .null, .ref 184, .int 0, .int 0, .ref 185, .int 0, .ref 186, .int 0, .ref 187, .ref 204, .ref 221, .ref 238, .int 0, .int 0, .ref 239, .ref 240, .ref 245, .ref 250, .ref 255, .int 0, .int 0, .int 0, .int 0, .int 0, .int 0, .ref 260, .ref 261, .ref 262, .ref 263, .ref 264, .int 0])) : am_Mt K X m_Mod_count 0 0 0 [.ref 160, .int 6] (1319, f) (fun v h' => v = some (.int 0) ∧ h' = (1319, f)) := by
  refine am_enter (by decide +kernel) (Nat.le_of_ble_eq_true rfl) ?_
  refine am_iconst (v := 0) d_Mod_count_0 (by decide) ?_
  refine am_istore_n d_Mod_count_1 rfl (by decide) ?_
  refine am_iload_n d_Mod_count_2 rfl rfl ?_
  refine am_tableIn (tgt := 115) d_Mod_count_3 (by decide) (by decide) rfl (by decide) ?_
  refine am_aload_n d_Mod_count_115 rfl rfl ?_
  refine am_get O f_Mod_409 d_Mod_count_116 (by exact h_160) (by decide) (by decide) rfl ?_
  exact am_iret rfl d_Mod_count_119 ⟨rfl, rfl⟩

set_option maxRecDepth 100000 in
set_option maxHeartbeats 4000000 in
theorem a_count7_c (O : am_ok K X)   {f : Nat → am_C} (h_128 : f 128 = .inr (9, [.ref 129, .int 0, .ref 130, .ref 132, .ref 148, .ref 154, .ref 157, .long 0, .long 0, .int 0])) (h_154 : f 154 = .inr (7, [.ref 155, .ref 156, .int 0, .int 0])) (h_155 : f 155 = .inl (.object "StowTongue$Store", 10, (fun _ => .null))) : am_Mt K X m_Stow_count 4 8 4155 [.ref 128, .int 7] (1311, f) (fun v h' => v = some (.int 0) ∧ h'.1 = 1319 ∧ h'.2 1311 = .inr (10, [.ref 1312, .ref 1313, .ref 1314, .ref 1315, .ref 1316, .ref 1317, .int 0, .ref 1318, .int 0]) ∧ h'.2 1312 = .inl (.long, 2000, (fun _ => .long 0)) ∧ h'.2 1313 = .inl (.long, 2000, (fun _ => .long 0)) ∧ h'.2 1314 = .inl (.int, 100, (fun j => if j < 100 then .int (-1) else (fun _ => .int 0) j)) ∧ h'.2 1315 = .inl (.long, 12, (fun _ => .long 0)) ∧ h'.2 1316 = .inl (.long, 12, (fun _ => .long 0)) ∧ h'.2 1317 = .inl (.long, 12, (fun _ => .long 0)) ∧ h'.2 1318 = .inl (.object "StowTongue$Unit", 10, (fun _ => .null)) ∧ h'.2 155 = .inl (.object "StowTongue$Store", 10, (updV (fun _ => .null) 0 (.ref 1311))) ∧ ∀ x, x ∉ ([1311, 1312, 1313, 1314, 1315, 1316, 1317, 1318, 155] : List Nat) → h'.2 x = f x) := by
  refine am_enter (by decide +kernel) (Nat.le_of_ble_eq_true rfl) ?_
  refine am_aload_n d_Stow_count_0 rfl rfl ?_
  refine am_get O f_Stow_37 d_Stow_count_1 (by exact h_128) (by decide) (by decide) rfl ?_
  refine am_callV O (t13_Log_latest O (by exact h_154) (by exact h_155)) rfl (by exact h_154) (by decide) (by decide) rfl rfl l_Stow_103 ⟨w_1009, w_1010⟩ rfl (Nat.le_of_ble_eq_true rfl) d_Stow_count_4 (by omega) (by omega) (by omega) (fun v h' hp => ?_)
  obtain ⟨n1, f1⟩ := h'
  obtain ⟨rfl, e1, g_1311_1, g_1312_1, g_1313_1, g_1314_1, g_1315_1, g_1316_1, g_1317_1, g_1318_1, g_155_1, fr1⟩ := hp
  obtain rfl : n1 = 1319 := e1
  have fr1 := fun (x : Nat) (hx : x ∉ ([1311, 1312, 1313, 1314, 1315, 1316, 1317, 1318, 155] : List Nat)) => (show f1 x = _ from fr1 x hx)
  have h_1311_1 : f1 1311 = .inr (10, [.ref 1312, .ref 1313, .ref 1314, .ref 1315, .ref 1316, .ref 1317, .int 0, .ref 1318, .int 0]) := g_1311_1
  have h_1312_1 : f1 1312 = .inl (.long, 2000, (fun _ => .long 0)) := g_1312_1
  have h_1313_1 : f1 1313 = .inl (.long, 2000, (fun _ => .long 0)) := g_1313_1
  have h_1314_1 : f1 1314 = .inl (.int, 100, (fun j => if j < 100 then .int (-1) else (fun _ => .int 0) j)) := g_1314_1
  have h_1315_1 : f1 1315 = .inl (.long, 12, (fun _ => .long 0)) := g_1315_1
  have h_1316_1 : f1 1316 = .inl (.long, 12, (fun _ => .long 0)) := g_1316_1
  have h_1317_1 : f1 1317 = .inl (.long, 12, (fun _ => .long 0)) := g_1317_1
  have h_1318_1 : f1 1318 = .inl (.object "StowTongue$Unit", 10, (fun _ => .null)) := g_1318_1
  have h_155_1 : f1 155 = .inl (.object "StowTongue$Store", 10, (updV (fun _ => .null) 0 (.ref 1311))) := g_155_1
  refine am_astore_n d_Stow_count_7 rfl (by decide) ?_
  refine am_iload_n d_Stow_count_8 rfl rfl ?_
  refine am_tableIn (tgt := 108) d_Stow_count_9 (by decide) (by decide) rfl (by decide) ?_
  refine am_aload_n d_Stow_count_108 rfl rfl ?_
  have h_128_1 : f1 128 = .inr (9, [.ref 129, .int 0, .ref 130, .ref 132, .ref 148, .ref 154, .ref 157, .long 0, .long 0, .int 0]) := (fr1 128 (by decide)).trans h_128
  refine am_get O f_Stow_86 d_Stow_count_109 (by exact h_128_1) (by decide) (by decide) rfl ?_
  exact am_iret rfl d_Stow_count_112 ⟨rfl, rfl, h_1311_1, h_1312_1, h_1313_1, h_1314_1, h_1315_1, h_1316_1, h_1317_1, h_1318_1, h_155_1, fun x hx => by simp only [List.mem_cons, List.not_mem_nil, or_false, not_or] at hx; dsimp only; (repeat (first | rw [va_up_ne _ _ (by omega)] | rw [fr1 x (by simp only [List.mem_cons, List.not_mem_nil, or_false, not_or]; omega)]))⟩

set_option maxRecDepth 100000 in
set_option maxHeartbeats 4000000 in
theorem a_count7_m (O : am_ok K X)   {f : Nat → am_C} (h_160 : f 160 = .inr (14, [.ref 161, .ref 162, .int 0, .int 0, .int 0, .int 0, .int 0, .int 0, .int 0, .int 0, .int 0, .long 0, .ref 163, .ref 170, .ref 171, .ref 172, .ref 173, .ref 174, .ref 175, .ref 176, .int 0, .ref 177, .null, .ref 184, .int 0, .int 0, .ref 185, .int 0, .ref 186, .int 0, .ref 187, .ref 204, .ref 221, .ref 238, .int 0, .int 0, .ref 239, .ref 240, .ref 245, .ref 250, .ref 255, .int 0, .int 0, .int 0, .int 0, .int 0, .int 0, .ref 260, .ref 261, .ref 262, .ref 263, .ref 264, .int 0])) : am_Mt K X m_Mod_count 0 0 0 [.ref 160, .int 7] (1319, f) (fun v h' => v = some (.int 0) ∧ h' = (1319, f)) := by
  refine am_enter (by decide +kernel) (Nat.le_of_ble_eq_true rfl) ?_
  refine am_iconst (v := 0) d_Mod_count_0 (by decide) ?_
  refine am_istore_n d_Mod_count_1 rfl (by decide) ?_
  refine am_iload_n d_Mod_count_2 rfl rfl ?_
  refine am_tableIn (tgt := 120) d_Mod_count_3 (by decide) (by decide) rfl (by decide) ?_
  refine am_aload_n d_Mod_count_120 rfl rfl ?_
  refine am_get O f_Mod_446 d_Mod_count_121 (by exact h_160) (by decide) (by decide) rfl ?_
  exact am_iret rfl d_Mod_count_124 ⟨rfl, rfl⟩
end
