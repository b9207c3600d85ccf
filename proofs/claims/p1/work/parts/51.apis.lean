section
variable {K : am_K} {X : Nat → am_C}
set_option maxRecDepth 100000 in
set_option maxHeartbeats 4000000 in
theorem a_countx_c (O : am_ok K X) {x : Int32} (hx : x.toInt < 0 ∨ 7 < x.toInt) {f : Nat → am_C} (h_128 : f 128 = .inr (9, [.ref 129, .int 0, .ref 130, .ref 132, .ref 148, .ref 154, .ref 157, .long 0, .long 0, .int 0])) (h_154 : f 154 = .inr (7, [.ref 155, .ref 156, .int 0, .int 0])) (h_155 : f 155 = .inl (.object "StowTongue$Store", 10, (fun _ => .null))) : am_Mt K X m_Stow_count 4 8 4155 [.ref 128, .int x] (1311, f) (fun v h' => v = some (.int (-1)) ∧ h'.1 = 1319 ∧ h'.2 1311 = .inr (10, [.ref 1312, .ref 1313, .ref 1314, .ref 1315, .ref 1316, .ref 1317, .int 0, .ref 1318, .int 0]) ∧ h'.2 1312 = .inl (.long, 2000, (fun _ => .long 0)) ∧ h'.2 1313 = .inl (.long, 2000, (fun _ => .long 0)) ∧ h'.2 1314 = .inl (.int, 100, (fun j => if j < 100 then .int (-1) else (fun _ => .int 0) j)) ∧ h'.2 1315 = .inl (.long, 12, (fun _ => .long 0)) ∧ h'.2 1316 = .inl (.long, 12, (fun _ => .long 0)) ∧ h'.2 1317 = .inl (.long, 12, (fun _ => .long 0)) ∧ h'.2 1318 = .inl (.object "StowTongue$Unit", 10, (fun _ => .null)) ∧ h'.2 155 = .inl (.object "StowTongue$Store", 10, (updV (fun _ => .null) 0 (.ref 1311))) ∧ ∀ x, x ∉ ([1311, 1312, 1313, 1314, 1315, 1316, 1317, 1318, 155] : List Nat) → h'.2 x = f x) := by
  refine am_enter (by decide +kernel) (Nat.le_of_ble_eq_true rfl) ?_
  refine am_aload_n d_Stow_count_0 rfl rfl ?_
  refine am_get O f_Stow_37 d_Stow_count_1 (by exact h_128) (by decide) (by decide) rfl ?_
  refine am_callV O (t13_Log_latest O (by exact h_154) (by exact h_155)) rfl (by exact h_154) (by decide) (by decide) rfl rfl l_Stow_103 ⟨w_1009, w_1010⟩ rfl (Nat.le_of_ble_eq_true rfl) d_Stow_count_4 (by omega) (by omega) (by omega) (fun v h' hp => ?_)
  obtain ⟨n1, f1⟩ := h'
  obtain ⟨rfl, e1, g_1311_1, g_1312_1, g_1313_1, g_1314_1, g_1315_1, g_1316_1, g_1317_1, g_1318_1, g_155_1, fr1⟩ := hp
  obtain rfl : n1 = 1319 := e1
  have fr1 := fun (x : Nat) (hx : x ∉ ([1311, 1312, 1313, 1314, 1315, 1316, 1317, 1318, 155] : List Nat)) => (show f1 x = _ from fr1 x hx)
  have h_1311_1 : f1 1311 = .inr (10, [.ref 1312, .ref 1313, .ref 1314, .ref 1315, .ref 1316, .ref 1317, .int 0, .ref 1318, .int 0]) := g_1311_1
  have h_1312_1 : f1 1312 = .inl (.long, 2000, (fun _ => .long 0)) := g_1312_1
  have h_1313_1 : f1 1313 = .inl (.long, 2000, (fun _ => .long 0)) := g_1313_1
  have h_1314_1 : f1 1314 = .inl (.int, 100, (fun j => if j < 100 then .int (-1) else (fun _ => .int 0) j)) := g_1314_1
  have h_1315_1 : f1 1315 = .inl (.long, 12, (fun _ => .long 0)) := g_1315_1
  have h_1316_1 : f1 1316 = .inl (.long, 12, (fun _ => .long 0)) := g_1316_1
  have h_1317_1 : f1 1317 = .inl (.long, 12, (fun _ => .long 0)) := g_1317_1
  have h_1318_1 : f1 1318 = .inl (.object "StowTongue$Unit", 10, (fun _ => .null)) := g_1318_1
  have h_155_1 : f1 155 = .inl (.object "StowTongue$Store", 10, (updV (fun _ => .null) 0 (.ref 1311))) := g_155_1
  refine am_astore_n d_Stow_count_7 rfl (by decide) ?_
  refine am_iload_n d_Stow_count_8 rfl rfl ?_
  refine am_tableOut (tgt := 113) d_Stow_count_9 hx (by decide) ?_
  refine am_iconst (v := (-1)) d_Stow_count_113 (by decide) ?_
  exact am_iret rfl d_Stow_count_114 ⟨rfl, rfl, h_1311_1, h_1312_1, h_1313_1, h_1314_1, h_1315_1, h_1316_1, h_1317_1, h_1318_1, h_155_1, fun x hx => by simp only [List.mem_cons, List.not_mem_nil, or_false, not_or] at hx; dsimp only; (repeat (first | rw [va_up_ne _ _ (by omega)] | rw [fr1 x (by simp only [List.mem_cons, List.not_mem_nil, or_false, not_or]; omega)]))⟩

set_option maxRecDepth 100000 in
set_option maxHeartbeats 4000000 in
theorem a_countx_m (O : am_ok K X) {x : Int32} (hx : x.toInt < 0 ∨ 7 < x.toInt) {h : am_H} : am_Mt K X m_Mod_count 0 0 0 [.ref 160, .int x] h (fun v h' => v = some (.int (-1)) ∧ h' = h) := by
  refine am_enter (by decide +kernel) (Nat.le_of_ble_eq_true rfl) ?_
  refine am_iconst (v := 0) d_Mod_count_0 (by decide) ?_
  refine am_istore_n d_Mod_count_1 rfl (by decide) ?_
  refine am_iload_n d_Mod_count_2 rfl rfl ?_
  refine am_tableOut (tgt := 125) d_Mod_count_3 hx (by decide) ?_
  refine am_iconst (v := (-1)) d_Mod_count_125 (by decide) ?_
  exact am_iret rfl d_Mod_count_126 ⟨rfl, rfl⟩

set_option maxRecDepth 100000 in
set_option maxHeartbeats 4000000 in
theorem a_end0_c (O : am_ok K X)   {f : Nat → am_C} (h_128 : f 128 = .inr (9, [.ref 129, .int 0, .ref 130, .ref 132, .ref 148, .ref 154, .ref 157, .long 0, .long 0, .int 0])) : am_Mt K X m_Stow_end 0 0 0 [.ref 128, .int 0] (1311, f) (fun v h' => v = some (.int 0) ∧ h'.1 = 1311 ∧ h'.2 128 = .inr (9, [.ref 129, .int 0, .ref 130, .ref 132, .ref 148, .ref 154, .ref 157, .long 0, .long 0, .int 0]) ∧ ∀ x, x ∉ ([128] : List Nat) → h'.2 x = f x) := by
  refine am_enter (by decide +kernel) (Nat.le_of_ble_eq_true rfl) ?_
  refine am_iload_n d_Stow_end_0 rfl rfl ?_
  refine am_if_lt (tgt := 12) d_Stow_end_1 (by decide) (fun c => absurd c (by decide)) (fun _ => ?_)
  refine am_iload_n d_Stow_end_4 rfl rfl ?_
  refine am_aload_n d_Stow_end_5 rfl rfl ?_
  refine am_get O f_Stow_48 d_Stow_end_6 (by exact h_128) (by decide) (by decide) rfl ?_
  refine am_icmp_le (tgt := 14) d_Stow_end_9 (by decide) (fun _ => ?_) (fun c => absurd (by decide) c)
  refine am_aload_n d_Stow_end_14 rfl rfl ?_
  refine am_iload_n d_Stow_end_15 rfl rfl ?_
  refine am_put O f_Stow_48 d_Stow_end_16 (by exact h_128) (by decide) (by decide) (Nat.le_of_ble_eq_true rfl) (fun q hq => by cases hq; exact ⟨rfl, rfl, rfl⟩) ?_
  refine am_iload_n d_Stow_end_19 rfl rfl ?_
  exact am_iret rfl d_Stow_end_20 ⟨rfl, rfl, rfl, fun x hx => by simp only [List.mem_cons, List.not_mem_nil, or_false, not_or] at hx; dsimp only; (repeat (first | rw [va_up_ne _ _ (by omega)]))⟩

set_option maxRecDepth 100000 in
set_option maxHeartbeats 4000000 in
theorem t53_Mod_in (O : am_ok K X)   {h : am_H} : am_Mt K X m_Mod_in 0 0 0 [.long 0, .long 0, .long 0] h (fun v h' => v = some (.int 1) ∧ h' = h) := by
  refine am_enter (by decide +kernel) (Nat.le_of_ble_eq_true rfl) ?_
  refine am_lload_n d_Mod_in_0 rfl rfl ?_
  refine am_lload_n d_Mod_in_1 rfl rfl ?_
  refine am_lcmp d_Mod_in_2 ?_
  refine am_topi (v := 0) (by decide) ?_
  refine am_if_lt (tgt := 17) d_Mod_in_3 (by decide) (fun c => absurd c (by decide)) (fun _ => ?_)
  refine am_lload_n d_Mod_in_6 rfl rfl ?_
  refine am_lload d_Mod_in_7 rfl ?_
  refine am_lcmp d_Mod_in_9 ?_
  refine am_topi (v := 0) (by decide) ?_
  refine am_if_gt (tgt := 17) d_Mod_in_10 (by decide) (fun c => absurd c (by decide)) (fun _ => ?_)
  refine am_iconst (v := 1) d_Mod_in_13 (by decide) ?_
  refine am_goto (tgt := 18) d_Mod_in_14 (by decide) ?_
  exact am_zret rfl rfl d_Mod_in_18 ⟨rfl, rfl⟩

set_option maxRecDepth 100000 in
set_option maxHeartbeats 4000000 in
theorem a_end0_m (O : am_ok K X)   {f : Nat → am_C} (h_160 : f 160 = .inr (14, [.ref 161, .ref 162, .int 0, .int 0, .int 0, .int 0, .int 0, .int 0, .int 0, .int 0, .int 0, .long 0, .ref 163, .ref 170, .ref 171, .ref 172, .ref 173, .ref 174, .ref 175, .ref 176, .int 0, .ref 177, .null, .ref 184, .int 0, .int 0, .ref 185, .int 0, .ref 186, .int 0, .ref 187, .ref 204, .ref 221, .ref 238, .int 0, .int 0, .ref 239, .ref 240, .ref 245, .ref 250, .ref 255, .int 0, .int 0, .int 0, .int 0, .int 0, .int 0, .ref 260, .ref 261, .ref 262, .ref 263, .ref 264, .int 0])) : am_Mt K X m_Mod_end 1 0 0 [.ref 160, .int 0] (1311, f) (fun v h' => v = some (.int 0) ∧ h'.1 = 1311 ∧ h'.2 160 = .inr (14, [.ref 161, .ref 162, .int 0, .int 0, .int 0, .int 0, .int 0, .int 0, .int 0, .int 0, .int 0, .long 0, .ref 163, .ref 170, .ref 171, .ref 172, .ref 173, .ref 174, .ref 175, .ref 176, .int 0, .ref 177, .null, .ref 184, .int 0, .int 0, .ref 185, .int 0, .ref 186, .int 0, .ref 187, .ref 204, .ref 221, .ref 238, .int 0, .int 0, .ref 239, .ref 240, .ref 245, .ref 250, .ref 255, .int 0, .int 0, .int 0, .int 0, .int 0, .int 0, .ref 260, .ref 261, .ref 262, .ref 263, .ref 264, .int 0]) ∧ ∀ x, x ∉ ([160] : List Nat) → h'.2 x = f x) := by
  refine am_enter (by decide +kernel) (Nat.le_of_ble_eq_true rfl) ?_
  refine am_iload_n d_Mod_end_0 rfl rfl ?_
  refine am_i2l (v := 0) d_Mod_end_1 (by decide) ?_
  refine am_lconst (v := 0) d_Mod_end_2 (by decide) ?_
  refine am_aload_n d_Mod_end_3 rfl rfl ?_
  refine am_get O f_Mod_134 d_Mod_end_4 (by exact h_160) (by decide) (by decide) rfl ?_
  refine am_i2l (v := 0) d_Mod_end_7 (by decide) ?_
  refine am_callS O (t53_Mod_in O) rfl l_Mod_70 w_1791 rfl (Nat.le_of_ble_eq_true rfl) d_Mod_end_8 (by omega) (by omega) (by omega) (fun v h' hp => ?_)
  obtain ⟨rfl, rfl⟩ := hp
  refine am_if_ne (tgt := 16) d_Mod_end_11 (by decide) (fun _ => ?_) (fun c => absurd c (by decide))
  refine am_aload_n d_Mod_end_16 rfl rfl ?_
  refine am_iload_n d_Mod_end_17 rfl rfl ?_
  refine am_put O f_Mod_134 d_Mod_end_18 (by exact h_160) (by decide) (by decide) (Nat.le_of_ble_eq_true rfl) (fun q hq => by cases hq; exact ⟨rfl, rfl, rfl⟩) ?_
  refine am_iload_n d_Mod_end_21 rfl rfl ?_
  exact am_iret rfl d_Mod_end_22 ⟨rfl, rfl, rfl, fun x hx => by simp only [List.mem_cons, List.not_mem_nil, or_false, not_or] at hx; dsimp only; (repeat (first | rw [va_up_ne _ _ (by omega)]))⟩

set_option maxRecDepth 100000 in
set_option maxHeartbeats 4000000 in
theorem a_endn_c (O : am_ok K X) {x : Int32} (hx : x.toInt < 0) {h : am_H} : am_Mt K X m_Stow_end 0 0 0 [.ref 128, .int x] h (fun v h' => v = some (.int (-1)) ∧ h' = h) := by
  refine am_enter (by decide +kernel) (Nat.le_of_ble_eq_true rfl) ?_
  refine am_iload_n d_Stow_end_0 rfl rfl ?_
  refine am_if_lt (tgt := 12) d_Stow_end_1 (by decide) (fun _ => ?_) (fun c => absurd (xl hx (by decide)) c)
  refine am_iconst (v := (-1)) d_Stow_end_12 (by decide) ?_
  exact am_iret rfl d_Stow_end_13 ⟨rfl, rfl⟩

set_option maxRecDepth 100000 in
set_option maxHeartbeats 4000000 in
theorem a_endn_m (O : am_ok K X) {x : Int32} (hx : x.toInt < 0) {f : Nat → am_C} (h_160 : f 160 = .inr (14, [.ref 161, .ref 162, .int 0, .int 0, .int 0, .int 0, .int 0, .int 0, .int 0, .int 0, .int 0, .long 0, .ref 163, .ref 170, .ref 171, .ref 172, .ref 173, .ref 174, .ref 175, .ref 176, .int 0, .ref 177, .null, .ref 184, .int 0, .int 0, .ref 185, .int 0, .ref 186, .int 0, .ref 187, .ref 204, .ref 221, .ref 238, .int 0, .int 0, .ref 239, .ref 240, .ref 245, .ref 250, .ref 255, .int 0, .int 0, .int 0, .int 0, .int 0, .int 0, .ref 260, .ref 261, .ref 262, .ref 263, .ref 264, .int 0])) : am_Mt K X m_Mod_end 1 0 0 [.ref 160, .int x] (1311, f) (fun v h' => v = some (.int (-1)) ∧ h' = (1311, f)) := by
  refine am_enter (by decide +kernel) (Nat.le_of_ble_eq_true rfl) ?_
  refine am_iload_n d_Mod_end_0 rfl rfl ?_
  refine am_i2l d_Mod_end_1 rfl ?_
  refine am_lconst (v := 0) d_Mod_end_2 (by decide) ?_
  refine am_aload_n d_Mod_end_3 rfl rfl ?_
  refine am_get O f_Mod_134 d_Mod_end_4 (by exact h_160) (by decide) (by decide) rfl ?_
  refine am_i2l (v := 0) d_Mod_end_7 (by decide) ?_
  refine am_callS O (c_in0 (Or.inl (in_lo hx (by decide)))) rfl l_Mod_70 w_1791 rfl (Nat.le_of_ble_eq_true rfl) d_Mod_end_8 (by omega) (by omega) (by omega) (fun v h' hp => ?_)
  obtain ⟨rfl, rfl⟩ := hp
  refine am_if_ne (tgt := 16) d_Mod_end_11 (by decide) (fun c => absurd (by decide) c) (fun _ => ?_)
  refine am_iconst (v := (-1)) d_Mod_end_14 (by decide) ?_
  exact am_iret rfl d_Mod_end_15 ⟨rfl, rfl⟩

set_option maxRecDepth 100000 in
set_option maxHeartbeats 4000000 in
theorem a_endp_c (O : am_ok K X) {x : Int32} (hx : 0 < x.toInt) {f : Nat → am_C} (h_128 : f 128 = .inr (9, [.ref 129, .int 0, .ref 130, .ref 132, .ref 148, .ref 154, .ref 157, .long 0, .long 0, .int 0])) : am_Mt K X m_Stow_end 0 0 0 [.ref 128, .int x] (1311, f) (fun v h' => v = some (.int (-1)) ∧ h' = (1311, f)) := by
  refine am_enter (by decide +kernel) (Nat.le_of_ble_eq_true rfl) ?_
  refine am_iload_n d_Stow_end_0 rfl rfl ?_
  refine am_if_lt (tgt := 12) d_Stow_end_1 (by decide) (fun c => absurd c (Int32.not_lt.mpr (xge (Int.le_of_lt hx) (by decide)))) (fun _ => ?_)
  refine am_iload_n d_Stow_end_4 rfl rfl ?_
  refine am_aload_n d_Stow_end_5 rfl rfl ?_
  refine am_get O f_Stow_48 d_Stow_end_6 (by exact h_128) (by decide) (by decide) rfl ?_
  refine am_icmp_le (tgt := 14) d_Stow_end_9 (by decide) (fun c => absurd c (Int32.not_le.mpr (xg hx (by decide)))) (fun _ => ?_)
  refine am_iconst (v := (-1)) d_Stow_end_12 (by decide) ?_
  exact am_iret rfl d_Stow_end_13 ⟨rfl, rfl⟩

set_option maxRecDepth 100000 in
set_option maxHeartbeats 4000000 in
theorem a_endp_m (O : am_ok K X) {x : Int32} (hx : 0 < x.toInt) {f : Nat → am_C} (h_160 : f 160 = .inr (14, [.ref 161, .ref 162, .int 0, .int 0, .int 0, .int 0, .int 0, .int 0, .int 0, .int 0, .int 0, .long 0, .ref 163, .ref 170, .ref 171, .ref 172, .ref 173, .ref 174, .ref 175, .ref 176, .int 0, .ref 177, .null, .ref 184, .int 0, .int 0, .ref 185, .int 0, .ref 186, .int 0, .ref 187, .ref 204, .ref 221, .ref 238, .int 0, .int 0, .ref 239, .ref 240, .ref 245, .ref 250, .ref 255, .int 0, .int 0, .int 0, .int 0, .int 0, .int 0, .ref 260, .ref 261, .ref 262, .ref 263, .ref 264, .int 0])) : am_Mt K X m_Mod_end 1 0 0 [.ref 160, .int x] (1311, f) (fun v h' => v = some (.int (-1)) ∧ h' = (1311, f)) := by
  refine am_enter (by decide +kernel) (Nat.le_of_ble_eq_true rfl) ?_
  refine am_iload_n d_Mod_end_0 rfl rfl ?_
  refine am_i2l d_Mod_end_1 rfl ?_
  refine am_lconst (v := 0) d_Mod_end_2 (by decide) ?_
  refine am_aload_n d_Mod_end_3 rfl rfl ?_
  refine am_get O f_Mod_134 d_Mod_end_4 (by exact h_160) (by decide) (by decide) rfl ?_
  refine am_i2l (v := 0) d_Mod_end_7 (by decide) ?_
  refine am_callS O (c_in0 (Or.inr (in_hi hx (by decide)))) rfl l_Mod_70 w_1791 rfl (Nat.le_of_ble_eq_true rfl) d_Mod_end_8 (by omega) (by omega) (by omega) (fun v h' hp => ?_)
  obtain ⟨rfl, rfl⟩ := hp
  refine am_if_ne (tgt := 16) d_Mod_end_11 (by decide) (fun c => absurd (by decide) c) (fun _ => ?_)
  refine am_iconst (v := (-1)) d_Mod_end_14 (by decide) ?_
  exact am_iret rfl d_Mod_end_15 ⟨rfl, rfl⟩

set_option maxRecDepth 100000 in
set_option maxHeartbeats 4000000 in
theorem t59_Out_size (O : am_ok K X)   {f : Nat → am_C} (h_130 : f 130 = .inr (0, [.ref 131, .int 0, .int 0])) : am_Mt K X m_Out_size 0 0 0 [.ref 130] (1311, f) (fun v h' => v = some (.int 0) ∧ h' = (1311, f)) := by
  refine am_enter (by decide +kernel) (Nat.le_of_ble_eq_true rfl) ?_
  refine am_aload_n d_Out_size_0 rfl rfl ?_
  refine am_get O f_Out_15 d_Out_size_1 (by exact h_130) (by decide) (by decide) rfl ?_
  exact am_iret rfl d_Out_size_4 ⟨rfl, rfl⟩

set_option maxRecDepth 100000 in
set_option maxHeartbeats 4000000 in
theorem a_octm_c (O : am_ok K X)   {f : Nat → am_C} (h_128 : f 128 = .inr (9, [.ref 129, .int 0, .ref 130, .ref 132, .ref 148, .ref 154, .ref 157, .long 0, .long 0, .int 0])) (h_130 : f 130 = .inr (0, [.ref 131, .int 0, .int 0])) : am_Mt K X m_Stow_octet 1 0 0 [.ref 128, .int (-1)] (1311, f) (fun v h' => v = some (.int 0) ∧ h' = (1311, f)) := by
  refine am_enter (by decide +kernel) (Nat.le_of_ble_eq_true rfl) ?_
  refine am_iload_n d_Stow_octet_0 rfl rfl ?_
  refine am_iconst (v := (-1)) d_Stow_octet_1 (by decide) ?_
  refine am_icmp_ne (tgt := 13) d_Stow_octet_2 (by decide) (fun c => absurd (by decide) c) (fun _ => ?_)
  refine am_aload_n d_Stow_octet_5 rfl rfl ?_
  refine am_get O f_Stow_16 d_Stow_octet_6 (by exact h_128) (by decide) (by decide) rfl ?_
  refine am_callV O (t59_Out_size O (by exact h_130)) rfl (by exact h_130) (by decide) (by decide) rfl rfl l_Stow_138 ⟨w_1388, w_1389⟩ rfl (Nat.le_of_ble_eq_true rfl) d_Stow_octet_9 (by omega) (by omega) (by omega) (fun v h' hp => ?_)
  obtain ⟨rfl, rfl⟩ := hp
  exact am_iret rfl d_Stow_octet_12 ⟨rfl, rfl⟩

set_option maxRecDepth 100000 in
set_option maxHeartbeats 4000000 in
theorem t61_Mod_in (O : am_ok K X)   {h : am_H} : am_Mt K X m_Mod_in 0 0 0 [.long (-1), .long (-1), .long (-1)] h (fun v h' => v = some (.int 1) ∧ h' = h) := by
  refine am_enter (by decide +kernel) (Nat.le_of_ble_eq_true rfl) ?_
  refine am_lload_n d_Mod_in_0 rfl rfl ?_
  refine am_lload_n d_Mod_in_1 rfl rfl ?_
  refine am_lcmp d_Mod_in_2 ?_
  refine am_topi (v := 0) (by decide) ?_
  refine am_if_lt (tgt := 17) d_Mod_in_3 (by decide) (fun c => absurd c (by decide)) (fun _ => ?_)
  refine am_lload_n d_Mod_in_6 rfl rfl ?_
  refine am_lload d_Mod_in_7 rfl ?_
  refine am_lcmp d_Mod_in_9 ?_
  refine am_topi (v := 0) (by decide) ?_
  refine am_if_gt (tgt := 17) d_Mod_in_10 (by decide) (fun c => absurd c (by decide)) (fun _ => ?_)
  refine am_iconst (v := 1) d_Mod_in_13 (by decide) ?_
  refine am_goto (tgt := 18) d_Mod_in_14 (by decide) ?_
  exact am_zret rfl rfl d_Mod_in_18 ⟨rfl, rfl⟩

set_option maxRecDepth 100000 in
set_option maxHeartbeats 4000000 in
theorem a_octm_m (O : am_ok K X)   {f : Nat → am_C} (h_160 : f 160 = .inr (14, [.ref 161, .ref 162, .int 0, .int 0, .int 0, .int 0, .int 0, .int 0, .int 0, .int 0, .int 0, .long 0, .ref 163, .ref 170, .ref 171, .ref 172, .ref 173, .ref 174, .ref 175, .ref 176, .int 0, .ref 177, .null, .ref 184, .int 0, .int 0, .ref 185, .int 0, .ref 186, .int 0, .ref 187, .ref 204, .ref 221, .ref 238, .int 0, .int 0, .ref 239, .ref 240, .ref 245, .ref 250, .ref 255, .int 0, .int 0, .int 0, .int 0, .int 0, .int 0, .ref 260, .ref 261, .ref 262, .ref 263, .ref 264, .int 0])) : am_Mt K X m_Mod_octet 1 0 0 [.ref 160, .int (-1)] (1311, f) (fun v h' => v = some (.int 0) ∧ h' = (1311, f)) := by
  refine am_enter (by decide +kernel) (Nat.le_of_ble_eq_true rfl) ?_
  refine am_iload_n d_Mod_octet_0 rfl rfl ?_
  refine am_i2l (v := (-1)) d_Mod_octet_1 (by decide) ?_
  refine am_ldc2 (v := (-1)) w_2172 d_Mod_octet_2 ?_
  refine am_aload_n d_Mod_octet_5 rfl rfl ?_
  refine am_get O f_Mod_440 d_Mod_octet_6 (by exact h_160) (by decide) (by decide) rfl ?_
  refine am_iconst (v := 1) d_Mod_octet_9 (by decide) ?_
  refine am_isub d_Mod_octet_10 ?_
  refine am_topi (v := (-1)) (by decide) ?_
  refine am_i2l (v := (-1)) d_Mod_octet_11 (by decide) ?_
  refine am_callS O (t61_Mod_in O) rfl l_Mod_70 w_1791 rfl (Nat.le_of_ble_eq_true rfl) d_Mod_octet_12 (by omega) (by omega) (by omega) (fun v h' hp => ?_)
  obtain ⟨rfl, rfl⟩ := hp
  refine am_if_ne (tgt := 21) d_Mod_octet_15 (by decide) (fun _ => ?_) (fun c => absurd c (by decide))
  refine am_iload_n d_Mod_octet_21 rfl rfl ?_
  refine am_if_ge (tgt := 32) d_Mod_octet_22 (by decide) (fun c => absurd c (by decide)) (fun _ => ?_)
  refine am_aload_n d_Mod_octet_25 rfl rfl ?_
  refine am_get O f_Mod_440 d_Mod_octet_26 (by exact h_160) (by decide) (by decide) rfl ?_
  refine am_goto (tgt := 42) d_Mod_octet_29 (by decide) ?_
  exact am_iret rfl d_Mod_octet_42 ⟨rfl, rfl⟩

set_option maxRecDepth 100000 in
set_option maxHeartbeats 4000000 in
theorem a_octn_c (O : am_ok K X) {x : Int32} (hx : x.toInt < -1) {h : am_H} : am_Mt K X m_Stow_octet 0 0 0 [.ref 128, .int x] h (fun v h' => v = some (.int (-2)) ∧ h' = h) := by
  refine am_enter (by decide +kernel) (Nat.le_of_ble_eq_true rfl) ?_
  refine am_iload_n d_Stow_octet_0 rfl rfl ?_
  refine am_iconst (v := (-1)) d_Stow_octet_1 (by decide) ?_
  refine am_icmp_ne (tgt := 13) d_Stow_octet_2 (by decide) (fun _ => ?_) (fun c => absurd c (xne (k := -1) (by omega) (by decide)))
  refine am_iload_n d_Stow_octet_13 rfl rfl ?_
  refine am_if_lt (tgt := 39) d_Stow_octet_14 (by decide) (fun _ => ?_) (fun c => absurd (xl (k := 0) (by omega) (by decide)) c)
  refine am_bipush (v := (-2)) d_Stow_octet_39 (by decide) ?_
  exact am_iret rfl d_Stow_octet_41 ⟨rfl, rfl⟩

set_option maxRecDepth 100000 in
set_option maxHeartbeats 4000000 in
theorem a_octn_m (O : am_ok K X) {x : Int32} (hx : x.toInt < -1) {f : Nat → am_C} (h_160 : f 160 = .inr (14, [.ref 161, .ref 162, .int 0, .int 0, .int 0, .int 0, .int 0, .int 0, .int 0, .int 0, .int 0, .long 0, .ref 163, .ref 170, .ref 171, .ref 172, .ref 173, .ref 174, .ref 175, .ref 176, .int 0, .ref 177, .null, .ref 184, .int 0, .int 0, .ref 185, .int 0, .ref 186, .int 0, .ref 187, .ref 204, .ref 221, .ref 238, .int 0, .int 0, .ref 239, .ref 240, .ref 245, .ref 250, .ref 255, .int 0, .int 0, .int 0, .int 0, .int 0, .int 0, .ref 260, .ref 261, .ref 262, .ref 263, .ref 264, .int 0])) : am_Mt K X m_Mod_octet 1 0 0 [.ref 160, .int x] (1311, f) (fun v h' => v = some (.int (-2)) ∧ h' = (1311, f)) := by
  refine am_enter (by decide +kernel) (Nat.le_of_ble_eq_true rfl) ?_
  refine am_iload_n d_Mod_octet_0 rfl rfl ?_
  refine am_i2l d_Mod_octet_1 rfl ?_
  refine am_ldc2 (v := (-1)) w_2172 d_Mod_octet_2 ?_
  refine am_aload_n d_Mod_octet_5 rfl rfl ?_
  refine am_get O f_Mod_440 d_Mod_octet_6 (by exact h_160) (by decide) (by decide) rfl ?_
  refine am_iconst (v := 1) d_Mod_octet_9 (by decide) ?_
  refine am_isub d_Mod_octet_10 ?_
  refine am_topi (v := (-1)) (by decide) ?_
  refine am_i2l (v := (-1)) d_Mod_octet_11 (by decide) ?_
  refine am_callS O (c_in0 (Or.inl (in_lo hx (by decide)))) rfl l_Mod_70 w_1791 rfl (Nat.le_of_ble_eq_true rfl) d_Mod_octet_12 (by omega) (by omega) (by omega) (fun v h' hp => ?_)
  obtain ⟨rfl, rfl⟩ := hp
  refine am_if_ne (tgt := 21) d_Mod_octet_15 (by decide) (fun c => absurd (by decide) c) (fun _ => ?_)
  refine am_bipush (v := (-2)) d_Mod_octet_18 (by decide) ?_
  exact am_iret rfl d_Mod_octet_20 ⟨rfl, rfl⟩

set_option maxRecDepth 100000 in
set_option maxHeartbeats 4000000 in
theorem a_octp_c (O : am_ok K X) {x : Int32} (hx : -1 < x.toInt) {f : Nat → am_C} (h_128 : f 128 = .inr (9, [.ref 129, .int 0, .ref 130, .ref 132, .ref 148, .ref 154, .ref 157, .long 0, .long 0, .int 0])) (h_130 : f 130 = .inr (0, [.ref 131, .int 0, .int 0])) : am_Mt K X m_Stow_octet 1 0 0 [.ref 128, .int x] (1311, f) (fun v h' => v = some (.int (-2)) ∧ h' = (1311, f)) := by
  refine am_enter (by decide +kernel) (Nat.le_of_ble_eq_true rfl) ?_
  refine am_iload_n d_Stow_octet_0 rfl rfl ?_
  refine am_iconst (v := (-1)) d_Stow_octet_1 (by decide) ?_
  refine am_icmp_ne (tgt := 13) d_Stow_octet_2 (by decide) (fun _ => ?_) (fun c => absurd c (xne (k := -1) (by omega) (by decide)))
  refine am_iload_n d_Stow_octet_13 rfl rfl ?_
  refine am_if_lt (tgt := 39) d_Stow_octet_14 (by decide) (fun c => absurd c (Int32.not_lt.mpr (xge (k := 0) (by omega) (by decide)))) (fun _ => ?_)
  refine am_iload_n d_Stow_octet_17 rfl rfl ?_
  refine am_aload_n d_Stow_octet_18 rfl rfl ?_
  refine am_get O f_Stow_16 d_Stow_octet_19 (by exact h_128) (by decide) (by decide) rfl ?_
  refine am_callV O (t59_Out_size O (by exact h_130)) rfl (by exact h_130) (by decide) (by decide) rfl rfl l_Stow_138 ⟨w_1388, w_1389⟩ rfl (Nat.le_of_ble_eq_true rfl) d_Stow_octet_22 (by omega) (by omega) (by omega) (fun v h' hp => ?_)
  obtain ⟨rfl, rfl⟩ := hp
  refine am_icmp_ge (tgt := 39) d_Stow_octet_25 (by decide) (fun _ => ?_) (fun c => absurd (xge (k := 0) (by omega) (by decide)) c)
  refine am_bipush (v := (-2)) d_Stow_octet_39 (by decide) ?_
  exact am_iret rfl d_Stow_octet_41 ⟨rfl, rfl⟩

set_option maxRecDepth 100000 in
set_option maxHeartbeats 4000000 in
theorem a_octp_m (O : am_ok K X) {x : Int32} (hx : -1 < x.toInt) {f : Nat → am_C} (h_160 : f 160 = .inr (14, [.ref 161, .ref 162, .int 0, .int 0, .int 0, .int 0, .int 0, .int 0, .int 0, .int 0, .int 0, .long 0, .ref 163, .ref 170, .ref 171, .ref 172, .ref 173, .ref 174, .ref 175, .ref 176, .int 0, .ref 177, .null, .ref 184, .int 0, .int 0, .ref 185, .int 0, .ref 186, .int 0, .ref 187, .ref 204, .ref 221, .ref 238, .int 0, .int 0, .ref 239, .ref 240, .ref 245, .ref 250, .ref 255, .int 0, .int 0, .int 0, .int 0, .int 0, .int 0, .ref 260, .ref 261, .ref 262, .ref 263, .ref 264, .int 0])) : am_Mt K X m_Mod_octet 1 0 0 [.ref 160, .int x] (1311, f) (fun v h' => v = some (.int (-2)) ∧ h' = (1311, f)) := by
  refine am_enter (by decide +kernel) (Nat.le_of_ble_eq_true rfl) ?_
  refine am_iload_n d_Mod_octet_0 rfl rfl ?_
  refine am_i2l d_Mod_octet_1 rfl ?_
  refine am_ldc2 (v := (-1)) w_2172 d_Mod_octet_2 ?_
  refine am_aload_n d_Mod_octet_5 rfl rfl ?_
  refine am_get O f_Mod_440 d_Mod_octet_6 (by exact h_160) (by decide) (by decide) rfl ?_
  refine am_iconst (v := 1) d_Mod_octet_9 (by decide) ?_
  refine am_isub d_Mod_octet_10 ?_
  refine am_topi (v := (-1)) (by decide) ?_
  refine am_i2l (v := (-1)) d_Mod_octet_11 (by decide) ?_
  refine am_callS O (c_in0 (Or.inr (in_hi hx (by decide)))) rfl l_Mod_70 w_1791 rfl (Nat.le_of_ble_eq_true rfl) d_Mod_octet_12 (by omega) (by omega) (by omega) (fun v h' hp => ?_)
  obtain ⟨rfl, rfl⟩ := hp
  refine am_if_ne (tgt := 21) d_Mod_octet_15 (by decide) (fun c => absurd (by decide) c) (fun _ => ?_)
  refine am_bipush (v := (-2)) d_Mod_octet_18 (by decide) ?_
  exact am_iret rfl d_Mod_octet_20 ⟨rfl, rfl⟩

set_option maxRecDepth 100000 in
set_option maxHeartbeats 4000000 in
theorem a_crashn_c (O : am_ok K X) {x : Int32} (hx : x.toInt < 0) {h : am_H} : am_Mt K X m_Stow_crash 0 0 0 [.ref 128, .int x] h (fun v h' => v = some (.int (-1)) ∧ h' = h) := by
  refine am_enter (by decide +kernel) (Nat.le_of_ble_eq_true rfl) ?_
  refine am_iload_n d_Stow_crash_0 rfl rfl ?_
  refine am_if_ge (tgt := 6) d_Stow_crash_1 (by decide) (fun c => absurd c (Int32.not_le.mpr (xl hx (by decide)))) (fun _ => ?_)
  refine am_iconst (v := (-1)) d_Stow_crash_4 (by decide) ?_
  exact am_iret rfl d_Stow_crash_5 ⟨rfl, rfl⟩

set_option maxRecDepth 100000 in
set_option maxHeartbeats 4000000 in
theorem a_crashn_m (O : am_ok K X) {x : Int32} (hx : x.toInt < 0) {h : am_H} : am_Mt K X m_Mod_crash 0 0 0 [.ref 160, .int x] h (fun v h' => v = some (.int (-1)) ∧ h' = h) := by
  refine am_enter (by decide +kernel) (Nat.le_of_ble_eq_true rfl) ?_
  refine am_iload_n d_Mod_crash_0 rfl rfl ?_
  refine am_if_ge (tgt := 6) d_Mod_crash_1 (by decide) (fun c => absurd c (Int32.not_le.mpr (xl hx (by decide)))) (fun _ => ?_)
  refine am_iconst (v := (-1)) d_Mod_crash_4 (by decide) ?_
  exact am_iret rfl d_Mod_crash_5 ⟨rfl, rfl⟩

set_option maxRecDepth 100000 in
set_option maxHeartbeats 4000000 in
theorem t69_Log_wholeWithin (O : am_ok K X) {x : Int32}  {f : Nat → am_C} (h_154 : f 154 = .inr (7, [.ref 155, .ref 156, .int 0, .int 0])) : am_Mt K X m_Log_wholeWithin 0 0 0 [.ref 154, .int x] (1311, f) (fun v h' => v = some (.int 0) ∧ h' = (1311, f)) := by
  refine am_enter (by decide +kernel) (Nat.le_of_ble_eq_true rfl) ?_
  refine am_iload_n d_Log_wholeWithin_0 rfl rfl ?_
  refine am_istore_n d_Log_wholeWithin_1 rfl (by decide) ?_
  refine am_iconst (v := 1) d_Log_wholeWithin_2 (by decide) ?_
  refine am_istore_n d_Log_wholeWithin_3 rfl (by decide) ?_
  refine am_iload_n d_Log_wholeWithin_4 rfl rfl ?_
  refine am_aload_n d_Log_wholeWithin_5 rfl rfl ?_
  refine am_get O f_Log_27 d_Log_wholeWithin_6 (by exact h_154) (by decide) (by decide) rfl ?_
  refine am_icmp_gt (tgt := 41) d_Log_wholeWithin_9 (by decide) (fun _ => ?_) (fun c => absurd (by decide) c)
  refine am_aload_n d_Log_wholeWithin_41 rfl rfl ?_
  refine am_get O f_Log_27 d_Log_wholeWithin_42 (by exact h_154) (by decide) (by decide) rfl ?_
  exact am_iret rfl d_Log_wholeWithin_45 ⟨rfl, rfl⟩

set_option maxRecDepth 100000 in
set_option maxHeartbeats 4000000 in
theorem t70_Log_loseWaiting (O : am_ok K X)   {f : Nat → am_C} (h_154 : f 154 = .inr (7, [.ref 155, .ref 156, .int 0, .int 0])) : am_Mt K X m_Log_loseWaiting 0 0 0 [.ref 154] (1311, f) (fun v h' => v = none ∧ h'.1 = 1311 ∧ h'.2 154 = .inr (7, [.ref 155, .ref 156, .int 0, .int 0]) ∧ ∀ x, x ∉ ([154] : List Nat) → h'.2 x = f x) := by
  refine am_enter (by decide +kernel) (Nat.le_of_ble_eq_true rfl) ?_
  refine am_aload_n d_Log_loseWaiting_0 rfl rfl ?_
  refine am_iconst (v := 0) d_Log_loseWaiting_1 (by decide) ?_
  refine am_put O f_Log_27 d_Log_loseWaiting_2 (by exact h_154) (by decide) (by decide) (Nat.le_of_ble_eq_true rfl) (fun q hq => by cases hq; exact ⟨rfl, rfl, rfl⟩) ?_
  exact am_vret rfl d_Log_loseWaiting_5 ⟨rfl, rfl, rfl, fun x hx => by simp only [List.mem_cons, List.not_mem_nil, or_false, not_or] at hx; dsimp only; (repeat (first | rw [va_up_ne _ _ (by omega)]))⟩

set_option maxRecDepth 100000 in
set_option maxHeartbeats 4000000 in
theorem a_crashp_c (O : am_ok K X) {x : Int32} (hx : 0 ≤ x.toInt) {f : Nat → am_C} (h_128 : f 128 = .inr (9, [.ref 129, .int 0, .ref 130, .ref 132, .ref 148, .ref 154, .ref 157, .long 0, .long 0, .int 0])) (h_154 : f 154 = .inr (7, [.ref 155, .ref 156, .int 0, .int 0])) : am_Mt K X m_Stow_crash 1 0 0 [.ref 128, .int x] (1311, f) (fun v h' => v = some (.int 0) ∧ h'.1 = 1311 ∧ h'.2 154 = .inr (7, [.ref 155, .ref 156, .int 0, .int 0]) ∧ ∀ x, x ∉ ([154] : List Nat) → h'.2 x = f x) := by
  refine am_enter (by decide +kernel) (Nat.le_of_ble_eq_true rfl) ?_
  refine am_iload_n d_Stow_crash_0 rfl rfl ?_
  refine am_if_ge (tgt := 6) d_Stow_crash_1 (by decide) (fun _ => ?_) (fun c => absurd (xge hx (by decide)) c)
  refine am_aload_n d_Stow_crash_6 rfl rfl ?_
  refine am_get O f_Stow_37 d_Stow_crash_7 (by exact h_128) (by decide) (by decide) rfl ?_
  refine am_iload_n d_Stow_crash_10 rfl rfl ?_
  refine am_callV O (t69_Log_wholeWithin O (by exact h_154)) rfl (by exact h_154) (by decide) (by decide) rfl rfl l_Stow_175 ⟨w_1419, w_1420⟩ rfl (Nat.le_of_ble_eq_true rfl) d_Stow_crash_11 (by omega) (by omega) (by omega) (fun v h' hp => ?_)
  obtain ⟨rfl, rfl⟩ := hp
  refine am_istore_n d_Stow_crash_14 rfl (by decide) ?_
  refine am_aload_n d_Stow_crash_15 rfl rfl ?_
  refine am_get O f_Stow_37 d_Stow_crash_16 (by exact h_128) (by decide) (by decide) rfl ?_
  refine am_iload_n d_Stow_crash_19 rfl rfl ?_
  refine am_callV O (t6_Log_settle O) rfl (by exact h_154) (by decide) (by decide) rfl rfl l_Stow_172 ⟨w_1363, w_1364⟩ rfl (Nat.le_of_ble_eq_true rfl) d_Stow_crash_20 (by omega) (by omega) (by omega) (fun v h' hp => ?_)
  obtain ⟨rfl, rfl⟩ := hp
  refine am_aload_n d_Stow_crash_23 rfl rfl ?_
  refine am_get O f_Stow_37 d_Stow_crash_24 (by exact h_128) (by decide) (by decide) rfl ?_
  refine am_callV O (t70_Log_loseWaiting O (by exact h_154)) rfl (by exact h_154) (by decide) (by decide) rfl rfl l_Stow_178 ⟨w_1423, w_1424⟩ rfl (Nat.le_of_ble_eq_true rfl) d_Stow_crash_27 (by omega) (by omega) (by omega) (fun v h' hp => ?_)
  obtain ⟨n1, f1⟩ := h'
  obtain ⟨rfl, e1, g_154_1, fr1⟩ := hp
  obtain rfl : n1 = 1311 := e1
  have fr1 := fun (x : Nat) (hx : x ∉ ([154] : List Nat)) => (show f1 x = _ from fr1 x hx)
  have h_154_1 : f1 154 = .inr (7, [.ref 155, .ref 156, .int 0, .int 0]) := g_154_1
  refine am_iload_n d_Stow_crash_30 rfl rfl ?_
  exact am_iret rfl d_Stow_crash_31 ⟨rfl, rfl, h_154_1, fun x hx => by simp only [List.mem_cons, List.not_mem_nil, or_false, not_or] at hx; dsimp only; (repeat (first | rw [va_up_ne _ _ (by omega)] | rw [fr1 x (by simp only [List.mem_cons, List.not_mem_nil, or_false, not_or]; omega)]))⟩

set_option maxRecDepth 100000 in
set_option maxHeartbeats 4000000 in
theorem t72_State_copy (O : am_ok K X)   {f : Nat → am_C} (h_187 : f 187 = .inr (13, [.ref 188, .ref 189, .ref 190, .ref 191, .ref 192, .ref 193, .ref 198, .ref 203, .int 0, .int 0, .int 0, .int 0])) (h_188 : f 188 = .inl (.int, 100, (fun _ => .int 0))) (h_189 : f 189 = .inl (.int, 100, (fun _ => .int 0))) (h_190 : f 190 = .inl (.long, 800, (fun _ => .long 0))) (h_191 : f 191 = .inl (.long, 12, (fun _ => .long 0))) (h_192 : f 192 = .inl (.long, 10, (fun _ => .long 0))) (h_193 : f 193 = .inr (11, [.ref 194, .ref 195, .ref 196, .ref 197])) (h_194 : f 194 = .inl (.int, 2000, (fun _ => .int 0))) (h_195 : f 195 = .inl (.int, 2000, (fun _ => .int 0))) (h_196 : f 196 = .inl (.long, 2000, (fun _ => .long 0))) (h_197 : f 197 = .inl (.long, 2000, (fun _ => .long 0))) (h_203 : f 203 = .inl (.object "StowTongueModel$Code", 10, (fun _ => .null))) (h_221 : f 221 = .inr (13, [.ref 222, .ref 223, .ref 224, .ref 225, .ref 226, .ref 227, .ref 232, .ref 237, .int 0, .int 0, .int 0, .int 0])) (h_222 : f 222 = .inl (.int, 100, (fun _ => .int 0))) (h_223 : f 223 = .inl (.int, 100, (fun _ => .int 0))) (h_224 : f 224 = .inl (.long, 800, (fun _ => .long 0))) (h_225 : f 225 = .inl (.long, 12, (fun _ => .long 0))) (h_226 : f 226 = .inl (.long, 10, (fun _ => .long 0))) (h_227 : f 227 = .inr (11, [.ref 228, .ref 229, .ref 230, .ref 231])) (h_228 : f 228 = .inl (.int, 2000, (fun _ => .int 0))) (h_229 : f 229 = .inl (.int, 2000, (fun _ => .int 0))) (h_230 : f 230 = .inl (.long, 2000, (fun _ => .long 0))) (h_231 : f 231 = .inl (.long, 2000, (fun _ => .long 0))) (h_237 : f 237 = .inl (.object "StowTongueModel$Code", 10, (fun _ => .null))) : am_Mt K X m_State_copy 1 0 0 [.ref 187, .ref 221] (1311, f) (fun v h' => v = none ∧ h'.1 = 1311 ∧ h'.2 188 = .inl (.int, 100, (va_cpy (fun _ => .int 0) (fun _ => .int 0) 0 0 100)) ∧ h'.2 189 = .inl (.int, 100, (va_cpy (fun _ => .int 0) (fun _ => .int 0) 0 0 100)) ∧ h'.2 190 = .inl (.long, 800, (va_cpy (fun _ => .long 0) (fun _ => .long 0) 0 0 800)) ∧ h'.2 194 = .inl (.int, 2000, (va_cpy (fun _ => .int 0) (fun _ => .int 0) 0 0 2000)) ∧ h'.2 195 = .inl (.int, 2000, (va_cpy (fun _ => .int 0) (fun _ => .int 0) 0 0 2000)) ∧ h'.2 196 = .inl (.long, 2000, (va_cpy (fun _ => .long 0) (fun _ => .long 0) 0 0 2000)) ∧ h'.2 197 = .inl (.long, 2000, (va_cpy (fun _ => .long 0) (fun _ => .long 0) 0 0 2000)) ∧ h'.2 191 = .inl (.long, 12, (va_cpy (fun _ => .long 0) (fun _ => .long 0) 0 0 12)) ∧ h'.2 192 = .inl (.long, 10, (va_cpy (fun _ => .long 0) (fun _ => .long 0) 0 0 10)) ∧ h'.2 203 = .inl (.object "StowTongueModel$Code", 10, (va_cpy (fun _ => .null) (fun _ => .null) 0 0 10)) ∧ h'.2 187 = .inr (13, [.ref 188, .ref 189, .ref 190, .ref 191, .ref 192, .ref 193, .ref 198, .ref 203, .int 0, .int 0, .int 0, .int 0]) ∧ ∀ x, x ∉ ([188, 189, 190, 194, 195, 196, 197, 191, 192, 203, 187] : List Nat) → h'.2 x = f x) := by
  refine am_enter (by decide +kernel) (Nat.le_of_ble_eq_true rfl) ?_
  refine am_aload_n d_State_copy_0 rfl rfl ?_
  refine am_get O f_State_9 d_State_copy_1 (by exact h_221) (by decide) (by decide) rfl ?_
  refine am_iconst (v := 0) d_State_copy_4 (by decide) ?_
  refine am_aload_n d_State_copy_5 rfl rfl ?_
  refine am_get O f_State_9 d_State_copy_6 (by exact h_187) (by decide) (by decide) rfl ?_
  refine am_iconst (v := 0) d_State_copy_9 (by decide) ?_
  refine am_bipush (v := 100) d_State_copy_10 (by decide) ?_
  refine am_copy (P := 0) (Q := 0) (N := 100) O w_1990 w_735 w_734 w_167 d_State_copy_12 (by exact h_222) (by decide) (by decide) (by exact h_188) (by decide) (by decide) (by decide) (by decide) (by decide) (by decide) (by decide) (by decide) (by decide) (by decide) (by decide) (by decide) (fun i hi => by refine ⟨?_, fun r h => ?_⟩ <;> first | rfl | cases h | (dsimp only; rw [if_pos (by omega)]; rfl) | (dsimp only at h; rw [if_pos (by omega)] at h; cases h) | (simp [va_cpy, fits]; done) | (simp [va_cpy] at h; done) | (simp only [updV]; (repeat' split) <;> rfl) | (simp only [updV] at h; (repeat' (split at h)) <;> cases h)) (Nat.le_of_ble_eq_true rfl) (by omega) ?_
  refine am_aload_n d_State_copy_15 rfl rfl ?_
  refine am_get O f_State_15 d_State_copy_16 (by exact h_221) (by decide) (by decide) rfl ?_
  refine am_iconst (v := 0) d_State_copy_19 (by decide) ?_
  refine am_aload_n d_State_copy_20 rfl rfl ?_
  refine am_get O f_State_15 d_State_copy_21 (by exact h_187) (by decide) (by decide) rfl ?_
  refine am_iconst (v := 0) d_State_copy_24 (by decide) ?_
  refine am_bipush (v := 100) d_State_copy_25 (by decide) ?_
  refine am_copy (P := 0) (Q := 0) (N := 100) O w_1990 w_735 w_734 w_167 d_State_copy_27 (by exact h_223) (by decide) (by decide) (by exact h_189) (by decide) (by decide) (by decide) (by decide) (by decide) (by decide) (by decide) (by decide) (by decide) (by decide) (by decide) (by decide) (fun i hi => by refine ⟨?_, fun r h => ?_⟩ <;> first | rfl | cases h | (dsimp only; rw [if_pos (by omega)]; rfl) | (dsimp only at h; rw [if_pos (by omega)] at h; cases h) | (simp [va_cpy, fits]; done) | (simp [va_cpy] at h; done) | (simp only [updV]; (repeat' split) <;> rfl) | (simp only [updV] at h; (repeat' (split at h)) <;> cases h)) (Nat.le_of_ble_eq_true rfl) (by omega) ?_
  refine am_aload_n d_State_copy_30 rfl rfl ?_
  refine am_get O f_State_18 d_State_copy_31 (by exact h_221) (by decide) (by decide) rfl ?_
  refine am_iconst (v := 0) d_State_copy_34 (by decide) ?_
  refine am_aload_n d_State_copy_35 rfl rfl ?_
  refine am_get O f_State_18 d_State_copy_36 (by exact h_187) (by decide) (by decide) rfl ?_
  refine am_iconst (v := 0) d_State_copy_39 (by decide) ?_
  refine am_sipush (v := 800) d_State_copy_40 (by decide) ?_
  refine am_copy (P := 0) (Q := 0) (N := 800) O w_1990 w_735 w_734 w_167 d_State_copy_43 (by exact h_224) (by decide) (by decide) (by exact h_190) (by decide) (by decide) (by decide) (by decide) (by decide) (by decide) (by decide) (by decide) (by decide) (by decide) (by decide) (by decide) (fun i hi => by refine ⟨?_, fun r h => ?_⟩ <;> first | rfl | cases h | (dsimp only; rw [if_pos (by omega)]; rfl) | (dsimp only at h; rw [if_pos (by omega)] at h; cases h) | (simp [va_cpy, fits]; done) | (simp [va_cpy] at h; done) | (simp only [updV]; (repeat' split) <;> rfl) | (simp only [updV] at h; (repeat' (split at h)) <;> cases h)) (Nat.le_of_ble_eq_true rfl) (by omega) ?_
  refine am_aload_n d_State_copy_46 rfl rfl ?_
  refine am_get O f_State_33 d_State_copy_47 (by exact h_221) (by decide) (by decide) rfl ?_
  refine am_get O f_State_52 d_State_copy_50 (by exact h_227) (by decide) (by decide) rfl ?_
  refine am_iconst (v := 0) d_State_copy_53 (by decide) ?_
  refine am_aload_n d_State_copy_54 rfl rfl ?_
  refine am_get O f_State_33 d_State_copy_55 (by exact h_187) (by decide) (by decide) rfl ?_
  refine am_get O f_State_52 d_State_copy_58 (by exact h_193) (by decide) (by decide) rfl ?_
  refine am_iconst (v := 0) d_State_copy_61 (by decide) ?_
  refine am_sipush (v := 2000) d_State_copy_62 (by decide) ?_
  refine am_copy (P := 0) (Q := 0) (N := 2000) O w_1990 w_735 w_734 w_167 d_State_copy_65 (by exact h_228) (by decide) (by decide) (by exact h_194) (by decide) (by decide) (by decide) (by decide) (by decide) (by decide) (by decide) (by decide) (by decide) (by decide) (by decide) (by decide) (fun i hi => by refine ⟨?_, fun r h => ?_⟩ <;> first | rfl | cases h | (dsimp only; rw [if_pos (by omega)]; rfl) | (dsimp only at h; rw [if_pos (by omega)] at h; cases h) | (simp [va_cpy, fits]; done) | (simp [va_cpy] at h; done) | (simp only [updV]; (repeat' split) <;> rfl) | (simp only [updV] at h; (repeat' (split at h)) <;> cases h)) (Nat.le_of_ble_eq_true rfl) (by omega) ?_
  refine am_aload_n d_State_copy_68 rfl rfl ?_
  refine am_get O f_State_33 d_State_copy_69 (by exact h_221) (by decide) (by decide) rfl ?_
  refine am_get O f_State_53 d_State_copy_72 (by exact h_227) (by decide) (by decide) rfl ?_
  refine am_iconst (v := 0) d_State_copy_75 (by decide) ?_
  refine am_aload_n d_State_copy_76 rfl rfl ?_
  refine am_get O f_State_33 d_State_copy_77 (by exact h_187) (by decide) (by decide) rfl ?_
  refine am_get O f_State_53 d_State_copy_80 (by exact h_193) (by decide) (by decide) rfl ?_
  refine am_iconst (v := 0) d_State_copy_83 (by decide) ?_
  refine am_sipush (v := 2000) d_State_copy_84 (by decide) ?_
  refine am_copy (P := 0) (Q := 0) (N := 2000) O w_1990 w_735 w_734 w_167 d_State_copy_87 (by exact h_229) (by decide) (by decide) (by exact h_195) (by decide) (by decide) (by decide) (by decide) (by decide) (by decide) (by decide) (by decide) (by decide) (by decide) (by decide) (by decide) (fun i hi => by refine ⟨?_, fun r h => ?_⟩ <;> first | rfl | cases h | (dsimp only; rw [if_pos (by omega)]; rfl) | (dsimp only at h; rw [if_pos (by omega)] at h; cases h) | (simp [va_cpy, fits]; done) | (simp [va_cpy] at h; done) | (simp only [updV]; (repeat' split) <;> rfl) | (simp only [updV] at h; (repeat' (split at h)) <;> cases h)) (Nat.le_of_ble_eq_true rfl) (by omega) ?_
  refine am_aload_n d_State_copy_90 rfl rfl ?_
  refine am_get O f_State_33 d_State_copy_91 (by exact h_221) (by decide) (by decide) rfl ?_
  refine am_get O f_State_54 d_State_copy_94 (by exact h_227) (by decide) (by decide) rfl ?_
  refine am_iconst (v := 0) d_State_copy_97 (by decide) ?_
  refine am_aload_n d_State_copy_98 rfl rfl ?_
  refine am_get O f_State_33 d_State_copy_99 (by exact h_187) (by decide) (by decide) rfl ?_
  refine am_get O f_State_54 d_State_copy_102 (by exact h_193) (by decide) (by decide) rfl ?_
  refine am_iconst (v := 0) d_State_copy_105 (by decide) ?_
  refine am_sipush (v := 2000) d_State_copy_106 (by decide) ?_
  refine am_copy (P := 0) (Q := 0) (N := 2000) O w_1990 w_735 w_734 w_167 d_State_copy_109 (by exact h_230) (by decide) (by decide) (by exact h_196) (by decide) (by decide) (by decide) (by decide) (by decide) (by decide) (by decide) (by decide) (by decide) (by decide) (by decide) (by decide) (fun i hi => by refine ⟨?_, fun r h => ?_⟩ <;> first | rfl | cases h | (dsimp only; rw [if_pos (by omega)]; rfl) | (dsimp only at h; rw [if_pos (by omega)] at h; cases h) | (simp [va_cpy, fits]; done) | (simp [va_cpy] at h; done) | (simp only [updV]; (repeat' split) <;> rfl) | (simp only [updV] at h; (repeat' (split at h)) <;> cases h)) (Nat.le_of_ble_eq_true rfl) (by omega) ?_
  refine am_aload_n d_State_copy_112 rfl rfl ?_
  refine am_get O f_State_33 d_State_copy_113 (by exact h_221) (by decide) (by decide) rfl ?_
  refine am_get O f_State_57 d_State_copy_116 (by exact h_227) (by decide) (by decide) rfl ?_
  refine am_iconst (v := 0) d_State_copy_119 (by decide) ?_
  refine am_aload_n d_State_copy_120 rfl rfl ?_
  refine am_get O f_State_33 d_State_copy_121 (by exact h_187) (by decide) (by decide) rfl ?_
  refine am_get O f_State_57 d_State_copy_124 (by exact h_193) (by decide) (by decide) rfl ?_
  refine am_iconst (v := 0) d_State_copy_127 (by decide) ?_
  refine am_sipush (v := 2000) d_State_copy_128 (by decide) ?_
  refine am_copy (P := 0) (Q := 0) (N := 2000) O w_1990 w_735 w_734 w_167 d_State_copy_131 (by exact h_231) (by decide) (by decide) (by exact h_197) (by decide) (by decide) (by decide) (by decide) (by decide) (by decide) (by decide) (by decide) (by decide) (by decide) (by decide) (by decide) (fun i hi => by refine ⟨?_, fun r h => ?_⟩ <;> first | rfl | cases h | (dsimp only; rw [if_pos (by omega)]; rfl) | (dsimp only at h; rw [if_pos (by omega)] at h; cases h) | (simp [va_cpy, fits]; done) | (simp [va_cpy] at h; done) | (simp only [updV]; (repeat' split) <;> rfl) | (simp only [updV] at h; (repeat' (split at h)) <;> cases h)) (Nat.le_of_ble_eq_true rfl) (by omega) ?_
  refine am_aload_n d_State_copy_134 rfl rfl ?_
  refine am_get O f_State_22 d_State_copy_135 (by exact h_221) (by decide) (by decide) rfl ?_
  refine am_iconst (v := 0) d_State_copy_138 (by decide) ?_
  refine am_aload_n d_State_copy_139 rfl rfl ?_
  refine am_get O f_State_22 d_State_copy_140 (by exact h_187) (by decide) (by decide) rfl ?_
  refine am_iconst (v := 0) d_State_copy_143 (by decide) ?_
  refine am_bipush (v := 12) d_State_copy_144 (by decide) ?_
  refine am_copy (P := 0) (Q := 0) (N := 12) O w_1990 w_735 w_734 w_167 d_State_copy_146 (by exact h_225) (by decide) (by decide) (by exact h_191) (by decide) (by decide) (by decide) (by decide) (by decide) (by decide) (by decide) (by decide) (by decide) (by decide) (by decide) (by decide) (fun i hi => by refine ⟨?_, fun r h => ?_⟩ <;> first | rfl | cases h | (dsimp only; rw [if_pos (by omega)]; rfl) | (dsimp only at h; rw [if_pos (by omega)] at h; cases h) | (simp [va_cpy, fits]; done) | (simp [va_cpy] at h; done) | (simp only [updV]; (repeat' split) <;> rfl) | (simp only [updV] at h; (repeat' (split at h)) <;> cases h)) (Nat.le_of_ble_eq_true rfl) (by omega) ?_
  refine am_iconst (v := 0) d_State_copy_149 (by decide) ?_
  refine am_istore_n d_State_copy_150 rfl (by decide) ?_
  refine am_iload_n d_State_copy_151 rfl rfl ?_
  refine am_aload_n d_State_copy_152 rfl rfl ?_
  refine am_get O f_State_60 d_State_copy_153 (by exact h_221) (by decide) (by decide) rfl ?_
  refine am_icmp_ge (tgt := 178) d_State_copy_156 (by decide) (fun _ => ?_) (fun c => absurd (by decide) c)
  refine am_aload_n d_State_copy_178 rfl rfl ?_
  refine am_get O f_State_25 d_State_copy_179 (by exact h_221) (by decide) (by decide) rfl ?_
  refine am_iconst (v := 0) d_State_copy_182 (by decide) ?_
  refine am_aload_n d_State_copy_183 rfl rfl ?_
  refine am_get O f_State_25 d_State_copy_184 (by exact h_187) (by decide) (by decide) rfl ?_
  refine am_iconst (v := 0) d_State_copy_187 (by decide) ?_
  refine am_bipush (v := 10) d_State_copy_188 (by decide) ?_
  refine am_copy (P := 0) (Q := 0) (N := 10) O w_1990 w_735 w_734 w_167 d_State_copy_190 (by exact h_226) (by decide) (by decide) (by exact h_192) (by decide) (by decide) (by decide) (by decide) (by decide) (by decide) (by decide) (by decide) (by decide) (by decide) (by decide) (by decide) (fun i hi => by refine ⟨?_, fun r h => ?_⟩ <;> first | rfl | cases h | (dsimp only; rw [if_pos (by omega)]; rfl) | (dsimp only at h; rw [if_pos (by omega)] at h; cases h) | (simp [va_cpy, fits]; done) | (simp [va_cpy] at h; done) | (simp only [updV]; (repeat' split) <;> rfl) | (simp only [updV] at h; (repeat' (split at h)) <;> cases h)) (Nat.le_of_ble_eq_true rfl) (by omega) ?_
  refine am_aload_n d_State_copy_193 rfl rfl ?_
  refine am_get O f_State_42 d_State_copy_194 (by exact h_221) (by decide) (by decide) rfl ?_
  refine am_iconst (v := 0) d_State_copy_197 (by decide) ?_
  refine am_aload_n d_State_copy_198 rfl rfl ?_
  refine am_get O f_State_42 d_State_copy_199 (by exact h_187) (by decide) (by decide) rfl ?_
  refine am_iconst (v := 0) d_State_copy_202 (by decide) ?_
  refine am_bipush (v := 10) d_State_copy_203 (by decide) ?_
  refine am_copyq (ci := 12) (P := 0) (Q := 0) (N := 10) O w_1990 w_735 w_734 w_167 d_State_copy_205 (by exact h_237) (by decide) (by decide) (by exact h_203) (by decide) (by decide) (by decide) (by decide) (by decide) (by decide) (by decide) (by decide) (by decide) (by decide) (by decide) (by rfl) (by rfl) (fun i hi => by first | exact Or.inl rfl | exact Or.inl (by simp [va_cpy])) (Nat.le_of_ble_eq_true rfl) (by omega) ?_
  refine am_aload_n d_State_copy_208 rfl rfl ?_
  refine am_aload_n d_State_copy_209 rfl rfl ?_
  refine am_get O f_State_68 d_State_copy_210 (by exact h_221) (by decide) (by decide) rfl ?_
  refine am_put O f_State_68 d_State_copy_213 (by exact h_187) (by decide) (by decide) (Nat.le_of_ble_eq_true rfl) (fun q hq => by cases hq; exact ⟨rfl, rfl, rfl⟩) ?_
  refine am_aload_n d_State_copy_216 rfl rfl ?_
  refine am_aload_n d_State_copy_217 rfl rfl ?_
  refine am_get O f_State_60 d_State_copy_218 (by exact h_221) (by decide) (by decide) rfl ?_
  refine am_put O f_State_60 d_State_copy_221 (by rfl) (by decide) (by decide) (Nat.le_of_ble_eq_true rfl) (fun q hq => by cases hq; exact ⟨rfl, rfl, rfl⟩) ?_
  refine am_aload_n d_State_copy_224 rfl rfl ?_
  refine am_aload_n d_State_copy_225 rfl rfl ?_
  refine am_get O f_State_71 d_State_copy_226 (by exact h_221) (by decide) (by decide) rfl ?_
  refine am_put O f_State_71 d_State_copy_229 (by rfl) (by decide) (by decide) (Nat.le_of_ble_eq_true rfl) (fun q hq => by cases hq; exact ⟨rfl, rfl, rfl⟩) ?_
  exact am_vret rfl d_State_copy_232 ⟨rfl, rfl, rfl, rfl, rfl, rfl, rfl, rfl, rfl, rfl, rfl, rfl, rfl, fun x hx => by simp only [List.mem_cons, List.not_mem_nil, or_false, not_or] at hx; dsimp only; (repeat (first | rw [va_up_ne _ _ (by omega)]))⟩

set_option maxRecDepth 100000 in
set_option maxHeartbeats 4000000 in
theorem t73_State_copy (O : am_ok K X)   {f : Nat → am_C} (h_187 : f 187 = .inr (13, [.ref 188, .ref 189, .ref 190, .ref 191, .ref 192, .ref 193, .ref 198, .ref 203, .int 0, .int 0, .int 0, .int 0])) (h_188 : f 188 = .inl (.int, 100, (va_cpy (fun _ => .int 0) (fun _ => .int 0) 0 0 100))) (h_189 : f 189 = .inl (.int, 100, (va_cpy (fun _ => .int 0) (fun _ => .int 0) 0 0 100))) (h_190 : f 190 = .inl (.long, 800, (va_cpy (fun _ => .long 0) (fun _ => .long 0) 0 0 800))) (h_191 : f 191 = .inl (.long, 12, (va_cpy (fun _ => .long 0) (fun _ => .long 0) 0 0 12))) (h_192 : f 192 = .inl (.long, 10, (va_cpy (fun _ => .long 0) (fun _ => .long 0) 0 0 10))) (h_193 : f 193 = .inr (11, [.ref 194, .ref 195, .ref 196, .ref 197])) (h_194 : f 194 = .inl (.int, 2000, (va_cpy (fun _ => .int 0) (fun _ => .int 0) 0 0 2000))) (h_195 : f 195 = .inl (.int, 2000, (va_cpy (fun _ => .int 0) (fun _ => .int 0) 0 0 2000))) (h_196 : f 196 = .inl (.long, 2000, (va_cpy (fun _ => .long 0) (fun _ => .long 0) 0 0 2000))) (h_197 : f 197 = .inl (.long, 2000, (va_cpy (fun _ => .long 0) (fun _ => .long 0) 0 0 2000))) (h_203 : f 203 = .inl (.object "StowTongueModel$Code", 10, (va_cpy (fun _ => .null) (fun _ => .null) 0 0 10))) (h_221 : f 221 = .inr (13, [.ref 222, .ref 223, .ref 224, .ref 225, .ref 226, .ref 227, .ref 232, .ref 237, .int 0, .int 0, .int 0, .int 0])) (h_222 : f 222 = .inl (.int, 100, (fun _ => .int 0))) (h_223 : f 223 = .inl (.int, 100, (fun _ => .int 0))) (h_224 : f 224 = .inl (.long, 800, (fun _ => .long 0))) (h_225 : f 225 = .inl (.long, 12, (fun _ => .long 0))) (h_226 : f 226 = .inl (.long, 10, (fun _ => .long 0))) (h_227 : f 227 = .inr (11, [.ref 228, .ref 229, .ref 230, .ref 231])) (h_228 : f 228 = .inl (.int, 2000, (fun _ => .int 0))) (h_229 : f 229 = .inl (.int, 2000, (fun _ => .int 0))) (h_230 : f 230 = .inl (.long, 2000, (fun _ => .long 0))) (h_231 : f 231 = .inl (.long, 2000, (fun _ => .long 0))) (h_237 : f 237 = .inl (.object "StowTongueModel$Code", 10, (fun _ => .null))) : am_Mt K X m_State_copy 1 0 0 [.ref 221, .ref 187] (1311, f) (fun v h' => v = none ∧ h'.1 = 1311 ∧ h'.2 222 = .inl (.int, 100, (va_cpy (va_cpy (fun _ => .int 0) (fun _ => .int 0) 0 0 100) (fun _ => .int 0) 0 0 100)) ∧ h'.2 223 = .inl (.int, 100, (va_cpy (va_cpy (fun _ => .int 0) (fun _ => .int 0) 0 0 100) (fun _ => .int 0) 0 0 100)) ∧ h'.2 224 = .inl (.long, 800, (va_cpy (va_cpy (fun _ => .long 0) (fun _ => .long 0) 0 0 800) (fun _ => .long 0) 0 0 800)) ∧ h'.2 228 = .inl (.int, 2000, (va_cpy (va_cpy (fun _ => .int 0) (fun _ => .int 0) 0 0 2000) (fun _ => .int 0) 0 0 2000)) ∧ h'.2 229 = .inl (.int, 2000, (va_cpy (va_cpy (fun _ => .int 0) (fun _ => .int 0) 0 0 2000) (fun _ => .int 0) 0 0 2000)) ∧ h'.2 230 = .inl (.long, 2000, (va_cpy (va_cpy (fun _ => .long 0) (fun _ => .long 0) 0 0 2000) (fun _ => .long 0) 0 0 2000)) ∧ h'.2 231 = .inl (.long, 2000, (va_cpy (va_cpy (fun _ => .long 0) (fun _ => .long 0) 0 0 2000) (fun _ => .long 0) 0 0 2000)) ∧ h'.2 225 = .inl (.long, 12, (va_cpy (va_cpy (fun _ => .long 0) (fun _ => .long 0) 0 0 12) (fun _ => .long 0) 0 0 12)) ∧ h'.2 226 = .inl (.long, 10, (va_cpy (va_cpy (fun _ => .long 0) (fun _ => .long 0) 0 0 10) (fun _ => .long 0) 0 0 10)) ∧ h'.2 237 = .inl (.object "StowTongueModel$Code", 10, (va_cpy (va_cpy (fun _ => .null) (fun _ => .null) 0 0 10) (fun _ => .null) 0 0 10)) ∧ h'.2 221 = .inr (13, [.ref 222, .ref 223, .ref 224, .ref 225, .ref 226, .ref 227, .ref 232, .ref 237, .int 0, .int 0, .int 0, .int 0]) ∧ ∀ x, x ∉ ([222, 223, 224, 228, 229, 230, 231, 225, 226, 237, 221] : List Nat) → h'.2 x = f x) := by
  refine am_enter (by decide +kernel) (Nat.le_of_ble_eq_true rfl) ?_
  refine am_aload_n d_State_copy_0 rfl rfl ?_
  refine am_get O f_State_9 d_State_copy_1 (by exact h_187) (by decide) (by decide) rfl ?_
  refine am_iconst (v := 0) d_State_copy_4 (by decide) ?_
  refine am_aload_n d_State_copy_5 rfl rfl ?_
  refine am_get O f_State_9 d_State_copy_6 (by exact h_221) (by decide) (by decide) rfl ?_
  refine am_iconst (v := 0) d_State_copy_9 (by decide) ?_
  refine am_bipush (v := 100) d_State_copy_10 (by decide) ?_
  refine am_copy (P := 0) (Q := 0) (N := 100) O w_1990 w_735 w_734 w_167 d_State_copy_12 (by exact h_188) (by decide) (by decide) (by exact h_222) (by decide) (by decide) (by decide) (by decide) (by decide) (by decide) (by decide) (by decide) (by decide) (by decide) (by decide) (by decide) (fun i hi => by refine ⟨?_, fun r h => ?_⟩ <;> first | rfl | cases h | (dsimp only; rw [if_pos (by omega)]; rfl) | (dsimp only at h; rw [if_pos (by omega)] at h; cases h) | (simp [va_cpy, fits]; done) | (simp [va_cpy] at h; done) | (simp only [updV]; (repeat' split) <;> rfl) | (simp only [updV] at h; (repeat' (split at h)) <;> cases h)) (Nat.le_of_ble_eq_true rfl) (by omega) ?_
  refine am_aload_n d_State_copy_15 rfl rfl ?_
  refine am_get O f_State_15 d_State_copy_16 (by exact h_187) (by decide) (by decide) rfl ?_
  refine am_iconst (v := 0) d_State_copy_19 (by decide) ?_
  refine am_aload_n d_State_copy_20 rfl rfl ?_
  refine am_get O f_State_15 d_State_copy_21 (by exact h_221) (by decide) (by decide) rfl ?_
  refine am_iconst (v := 0) d_State_copy_24 (by decide) ?_
  refine am_bipush (v := 100) d_State_copy_25 (by decide) ?_
  refine am_copy (P := 0) (Q := 0) (N := 100) O w_1990 w_735 w_734 w_167 d_State_copy_27 (by exact h_189) (by decide) (by decide) (by exact h_223) (by decide) (by decide) (by decide) (by decide) (by decide) (by decide) (by decide) (by decide) (by decide) (by decide) (by decide) (by decide) (fun i hi => by refine ⟨?_, fun r h => ?_⟩ <;> first | rfl | cases h | (dsimp only; rw [if_pos (by omega)]; rfl) | (dsimp only at h; rw [if_pos (by omega)] at h; cases h) | (simp [va_cpy, fits]; done) | (simp [va_cpy] at h; done) | (simp only [updV]; (repeat' split) <;> rfl) | (simp only [updV] at h; (repeat' (split at h)) <;> cases h)) (Nat.le_of_ble_eq_true rfl) (by omega) ?_
  refine am_aload_n d_State_copy_30 rfl rfl ?_
  refine am_get O f_State_18 d_State_copy_31 (by exact h_187) (by decide) (by decide) rfl ?_
  refine am_iconst (v := 0) d_State_copy_34 (by decide) ?_
  refine am_aload_n d_State_copy_35 rfl rfl ?_
  refine am_get O f_State_18 d_State_copy_36 (by exact h_221) (by decide) (by decide) rfl ?_
  refine am_iconst (v := 0) d_State_copy_39 (by decide) ?_
  refine am_sipush (v := 800) d_State_copy_40 (by decide) ?_
  refine am_copy (P := 0) (Q := 0) (N := 800) O w_1990 w_735 w_734 w_167 d_State_copy_43 (by exact h_190) (by decide) (by decide) (by exact h_224) (by decide) (by decide) (by decide) (by decide) (by decide) (by decide) (by decide) (by decide) (by decide) (by decide) (by decide) (by decide) (fun i hi => by refine ⟨?_, fun r h => ?_⟩ <;> first | rfl | cases h | (dsimp only; rw [if_pos (by omega)]; rfl) | (dsimp only at h; rw [if_pos (by omega)] at h; cases h) | (simp [va_cpy, fits]; done) | (simp [va_cpy] at h; done) | (simp only [updV]; (repeat' split) <;> rfl) | (simp only [updV] at h; (repeat' (split at h)) <;> cases h)) (Nat.le_of_ble_eq_true rfl) (by omega) ?_
  refine am_aload_n d_State_copy_46 rfl rfl ?_
  refine am_get O f_State_33 d_State_copy_47 (by exact h_187) (by decide) (by decide) rfl ?_
  refine am_get O f_State_52 d_State_copy_50 (by exact h_193) (by decide) (by decide) rfl ?_
  refine am_iconst (v := 0) d_State_copy_53 (by decide) ?_
  refine am_aload_n d_State_copy_54 rfl rfl ?_
  refine am_get O f_State_33 d_State_copy_55 (by exact h_221) (by decide) (by decide) rfl ?_
  refine am_get O f_State_52 d_State_copy_58 (by exact h_227) (by decide) (by decide) rfl ?_
  refine am_iconst (v := 0) d_State_copy_61 (by decide) ?_
  refine am_sipush (v := 2000) d_State_copy_62 (by decide) ?_
  refine am_copy (P := 0) (Q := 0) (N := 2000) O w_1990 w_735 w_734 w_167 d_State_copy_65 (by exact h_194) (by decide) (by decide) (by exact h_228) (by decide) (by decide) (by decide) (by decide) (by decide) (by decide) (by decide) (by decide) (by decide) (by decide) (by decide) (by decide) (fun i hi => by refine ⟨?_, fun r h => ?_⟩ <;> first | rfl | cases h | (dsimp only; rw [if_pos (by omega)]; rfl) | (dsimp only at h; rw [if_pos (by omega)] at h; cases h) | (simp [va_cpy, fits]; done) | (simp [va_cpy] at h; done) | (simp only [updV]; (repeat' split) <;> rfl) | (simp only [updV] at h; (repeat' (split at h)) <;> cases h)) (Nat.le_of_ble_eq_true rfl) (by omega) ?_
  refine am_aload_n d_State_copy_68 rfl rfl ?_
  refine am_get O f_State_33 d_State_copy_69 (by exact h_187) (by decide) (by decide) rfl ?_
  refine am_get O f_State_53 d_State_copy_72 (by exact h_193) (by decide) (by decide) rfl ?_
  refine am_iconst (v := 0) d_State_copy_75 (by decide) ?_
  refine am_aload_n d_State_copy_76 rfl rfl ?_
  refine am_get O f_State_33 d_State_copy_77 (by exact h_221) (by decide) (by decide) rfl ?_
  refine am_get O f_State_53 d_State_copy_80 (by exact h_227) (by decide) (by decide) rfl ?_
  refine am_iconst (v := 0) d_State_copy_83 (by decide) ?_
  refine am_sipush (v := 2000) d_State_copy_84 (by decide) ?_
  refine am_copy (P := 0) (Q := 0) (N := 2000) O w_1990 w_735 w_734 w_167 d_State_copy_87 (by exact h_195) (by decide) (by decide) (by exact h_229) (by decide) (by decide) (by decide) (by decide) (by decide) (by decide) (by decide) (by decide) (by decide) (by decide) (by decide) (by decide) (fun i hi => by refine ⟨?_, fun r h => ?_⟩ <;> first | rfl | cases h | (dsimp only; rw [if_pos (by omega)]; rfl) | (dsimp only at h; rw [if_pos (by omega)] at h; cases h) | (simp [va_cpy, fits]; done) | (simp [va_cpy] at h; done) | (simp only [updV]; (repeat' split) <;> rfl) | (simp only [updV] at h; (repeat' (split at h)) <;> cases h)) (Nat.le_of_ble_eq_true rfl) (by omega) ?_
  refine am_aload_n d_State_copy_90 rfl rfl ?_
  refine am_get O f_State_33 d_State_copy_91 (by exact h_187) (by decide) (by decide) rfl ?_
  refine am_get O f_State_54 d_State_copy_94 (by exact h_193) (by decide) (by decide) rfl ?_
  refine am_iconst (v := 0) d_State_copy_97 (by decide) ?_
  refine am_aload_n d_State_copy_98 rfl rfl ?_
  refine am_get O f_State_33 d_State_copy_99 (by exact h_221) (by decide) (by decide) rfl ?_
  refine am_get O f_State_54 d_State_copy_102 (by exact h_227) (by decide) (by decide) rfl ?_
  refine am_iconst (v := 0) d_State_copy_105 (by decide) ?_
  refine am_sipush (v := 2000) d_State_copy_106 (by decide) ?_
  refine am_copy (P := 0) (Q := 0) (N := 2000) O w_1990 w_735 w_734 w_167 d_State_copy_109 (by exact h_196) (by decide) (by decide) (by exact h_230) (by decide) (by decide) (by decide) (by decide) (by decide) (by decide) (by decide) (by decide) (by decide) (by decide) (by decide) (by decide) (fun i hi => by refine ⟨?_, fun r h => ?_⟩ <;> first | rfl | cases h | (dsimp only; rw [if_pos (by omega)]; rfl) | (dsimp only at h; rw [if_pos (by omega)] at h; cases h) | (simp [va_cpy, fits]; done) | (simp [va_cpy] at h; done) | (simp only [updV]; (repeat' split) <;> rfl) | (simp only [updV] at h; (repeat' (split at h)) <;> cases h)) (Nat.le_of_ble_eq_true rfl) (by omega) ?_
  refine am_aload_n d_State_copy_112 rfl rfl ?_
  refine am_get O f_State_33 d_State_copy_113 (by exact h_187) (by decide) (by decide) rfl ?_
  refine am_get O f_State_57 d_State_copy_116 (by exact h_193) (by decide) (by decide) rfl ?_
  refine am_iconst (v := 0) d_State_copy_119 (by decide) ?_
  refine am_aload_n d_State_copy_120 rfl rfl ?_
  refine am_get O f_State_33 d_State_copy_121 (by exact h_221) (by decide) (by decide) rfl ?_
  refine am_get O f_State_57 d_State_copy_124 (by exact h_227) (by decide) (by decide) rfl ?_
  refine am_iconst (v := 0) d_State_copy_127 (by decide) ?_
  refine am_sipush (v := 2000) d_State_copy_128 (by decide) ?_
  refine am_copy (P := 0) (Q := 0) (N := 2000) O w_1990 w_735 w_734 w_167 d_State_copy_131 (by exact h_197) (by decide) (by decide) (by exact h_231) (by decide) (by decide) (by decide) (by decide) (by decide) (by decide) (by decide) (by decide) (by decide) (by decide) (by decide) (by decide) (fun i hi => by refine ⟨?_, fun r h => ?_⟩ <;> first | rfl | cases h | (dsimp only; rw [if_pos (by omega)]; rfl) | (dsimp only at h; rw [if_pos (by omega)] at h; cases h) | (simp [va_cpy, fits]; done) | (simp [va_cpy] at h; done) | (simp only [updV]; (repeat' split) <;> rfl) | (simp only [updV] at h; (repeat' (split at h)) <;> cases h)) (Nat.le_of_ble_eq_true rfl) (by omega) ?_
  refine am_aload_n d_State_copy_134 rfl rfl ?_
  refine am_get O f_State_22 d_State_copy_135 (by exact h_187) (by decide) (by decide) rfl ?_
  refine am_iconst (v := 0) d_State_copy_138 (by decide) ?_
  refine am_aload_n d_State_copy_139 rfl rfl ?_
  refine am_get O f_State_22 d_State_copy_140 (by exact h_221) (by decide) (by decide) rfl ?_
  refine am_iconst (v := 0) d_State_copy_143 (by decide) ?_
  refine am_bipush (v := 12) d_State_copy_144 (by decide) ?_
  refine am_copy (P := 0) (Q := 0) (N := 12) O w_1990 w_735 w_734 w_167 d_State_copy_146 (by exact h_191) (by decide) (by decide) (by exact h_225) (by decide) (by decide) (by decide) (by decide) (by decide) (by decide) (by decide) (by decide) (by decide) (by decide) (by decide) (by decide) (fun i hi => by refine ⟨?_, fun r h => ?_⟩ <;> first | rfl | cases h | (dsimp only; rw [if_pos (by omega)]; rfl) | (dsimp only at h; rw [if_pos (by omega)] at h; cases h) | (simp [va_cpy, fits]; done) | (simp [va_cpy] at h; done) | (simp only [updV]; (repeat' split) <;> rfl) | (simp only [updV] at h; (repeat' (split at h)) <;> cases h)) (Nat.le_of_ble_eq_true rfl) (by omega) ?_
  refine am_iconst (v := 0) d_State_copy_149 (by decide) ?_
  refine am_istore_n d_State_copy_150 rfl (by decide) ?_
  refine am_iload_n d_State_copy_151 rfl rfl ?_
  refine am_aload_n d_State_copy_152 rfl rfl ?_
  refine am_get O f_State_60 d_State_copy_153 (by exact h_187) (by decide) (by decide) rfl ?_
  refine am_icmp_ge (tgt := 178) d_State_copy_156 (by decide) (fun _ => ?_) (fun c => absurd (by decide) c)
  refine am_aload_n d_State_copy_178 rfl rfl ?_
  refine am_get O f_State_25 d_State_copy_179 (by exact h_187) (by decide) (by decide) rfl ?_
  refine am_iconst (v := 0) d_State_copy_182 (by decide) ?_
  refine am_aload_n d_State_copy_183 rfl rfl ?_
  refine am_get O f_State_25 d_State_copy_184 (by exact h_221) (by decide) (by decide) rfl ?_
  refine am_iconst (v := 0) d_State_copy_187 (by decide) ?_
  refine am_bipush (v := 10) d_State_copy_188 (by decide) ?_
  refine am_copy (P := 0) (Q := 0) (N := 10) O w_1990 w_735 w_734 w_167 d_State_copy_190 (by exact h_192) (by decide) (by decide) (by exact h_226) (by decide) (by decide) (by decide) (by decide) (by decide) (by decide) (by decide) (by decide) (by decide) (by decide) (by decide) (by decide) (fun i hi => by refine ⟨?_, fun r h => ?_⟩ <;> first | rfl | cases h | (dsimp only; rw [if_pos (by omega)]; rfl) | (dsimp only at h; rw [if_pos (by omega)] at h; cases h) | (simp [va_cpy, fits]; done) | (simp [va_cpy] at h; done) | (simp only [updV]; (repeat' split) <;> rfl) | (simp only [updV] at h; (repeat' (split at h)) <;> cases h)) (Nat.le_of_ble_eq_true rfl) (by omega) ?_
  refine am_aload_n d_State_copy_193 rfl rfl ?_
  refine am_get O f_State_42 d_State_copy_194 (by exact h_187) (by decide) (by decide) rfl ?_
  refine am_iconst (v := 0) d_State_copy_197 (by decide) ?_
  refine am_aload_n d_State_copy_198 rfl rfl ?_
  refine am_get O f_State_42 d_State_copy_199 (by exact h_221) (by decide) (by decide) rfl ?_
  refine am_iconst (v := 0) d_State_copy_202 (by decide) ?_
  refine am_bipush (v := 10) d_State_copy_203 (by decide) ?_
  refine am_copyq (ci := 12) (P := 0) (Q := 0) (N := 10) O w_1990 w_735 w_734 w_167 d_State_copy_205 (by exact h_203) (by decide) (by decide) (by exact h_237) (by decide) (by decide) (by decide) (by decide) (by decide) (by decide) (by decide) (by decide) (by decide) (by decide) (by decide) (by rfl) (by rfl) (fun i hi => by first | exact Or.inl rfl | exact Or.inl (by simp [va_cpy])) (Nat.le_of_ble_eq_true rfl) (by omega) ?_
  refine am_aload_n d_State_copy_208 rfl rfl ?_
  refine am_aload_n d_State_copy_209 rfl rfl ?_
  refine am_get O f_State_68 d_State_copy_210 (by exact h_187) (by decide) (by decide) rfl ?_
  refine am_put O f_State_68 d_State_copy_213 (by exact h_221) (by decide) (by decide) (Nat.le_of_ble_eq_true rfl) (fun q hq => by cases hq; exact ⟨rfl, rfl, rfl⟩) ?_
  refine am_aload_n d_State_copy_216 rfl rfl ?_
  refine am_aload_n d_State_copy_217 rfl rfl ?_
  refine am_get O f_State_60 d_State_copy_218 (by exact h_187) (by decide) (by decide) rfl ?_
  refine am_put O f_State_60 d_State_copy_221 (by rfl) (by decide) (by decide) (Nat.le_of_ble_eq_true rfl) (fun q hq => by cases hq; exact ⟨rfl, rfl, rfl⟩) ?_
  refine am_aload_n d_State_copy_224 rfl rfl ?_
  refine am_aload_n d_State_copy_225 rfl rfl ?_
  refine am_get O f_State_71 d_State_copy_226 (by exact h_187) (by decide) (by decide) rfl ?_
  refine am_put O f_State_71 d_State_copy_229 (by rfl) (by decide) (by decide) (Nat.le_of_ble_eq_true rfl) (fun q hq => by cases hq; exact ⟨rfl, rfl, rfl⟩) ?_
  exact am_vret rfl d_State_copy_232 ⟨rfl, rfl, rfl, rfl, rfl, rfl, rfl, rfl, rfl, rfl, rfl, rfl, rfl, fun x hx => by simp only [List.mem_cons, List.not_mem_nil, or_false, not_or] at hx; dsimp only; (repeat (first | rw [va_up_ne _ _ (by omega)]))⟩

set_option maxRecDepth 100000 in
set_option maxHeartbeats 4000000 in
theorem a_crashp_m (O : am_ok K X) {x : Int32} (hx : 0 ≤ x.toInt) {f : Nat → am_C} (h_160 : f 160 = .inr (14, [.ref 161, .ref 162, .int 0, .int 0, .int 0, .int 0, .int 0, .int 0, .int 0, .int 0, .int 0, .long 0, .ref 163, .ref 170, .ref 171, .ref 172, .ref 173, .ref 174, .ref 175, .ref 176, .int 0, .ref 177, .null, .ref 184, .int 0, .int 0, .ref 185, .int 0, .ref 186, .int 0, .ref 187, .ref 204, .ref 221, .ref 238, .int 0, .int 0, .ref 239, .ref 240, .ref 245, .ref 250, .ref 255, .int 0, .int 0, .int 0, .int 0, .int 0, .int 0, .ref 260, .ref 261, .ref 262, .ref 263, .ref 264, .int 0])) (h_187 : f 187 = .inr (13, [.ref 188, .ref 189, .ref 190, .ref 191, .ref 192, .ref 193, .ref 198, .ref 203, .int 0, .int 0, .int 0, .int 0])) (h_188 : f 188 = .inl (.int, 100, (fun _ => .int 0))) (h_189 : f 189 = .inl (.int, 100, (fun _ => .int 0))) (h_190 : f 190 = .inl (.long, 800, (fun _ => .long 0))) (h_191 : f 191 = .inl (.long, 12, (fun _ => .long 0))) (h_192 : f 192 = .inl (.long, 10, (fun _ => .long 0))) (h_193 : f 193 = .inr (11, [.ref 194, .ref 195, .ref 196, .ref 197])) (h_194 : f 194 = .inl (.int, 2000, (fun _ => .int 0))) (h_195 : f 195 = .inl (.int, 2000, (fun _ => .int 0))) (h_196 : f 196 = .inl (.long, 2000, (fun _ => .long 0))) (h_197 : f 197 = .inl (.long, 2000, (fun _ => .long 0))) (h_203 : f 203 = .inl (.object "StowTongueModel$Code", 10, (fun _ => .null))) (h_221 : f 221 = .inr (13, [.ref 222, .ref 223, .ref 224, .ref 225, .ref 226, .ref 227, .ref 232, .ref 237, .int 0, .int 0, .int 0, .int 0])) (h_222 : f 222 = .inl (.int, 100, (fun _ => .int 0))) (h_223 : f 223 = .inl (.int, 100, (fun _ => .int 0))) (h_224 : f 224 = .inl (.long, 800, (fun _ => .long 0))) (h_225 : f 225 = .inl (.long, 12, (fun _ => .long 0))) (h_226 : f 226 = .inl (.long, 10, (fun _ => .long 0))) (h_227 : f 227 = .inr (11, [.ref 228, .ref 229, .ref 230, .ref 231])) (h_228 : f 228 = .inl (.int, 2000, (fun _ => .int 0))) (h_229 : f 229 = .inl (.int, 2000, (fun _ => .int 0))) (h_230 : f 230 = .inl (.long, 2000, (fun _ => .long 0))) (h_231 : f 231 = .inl (.long, 2000, (fun _ => .long 0))) (h_237 : f 237 = .inl (.object "StowTongueModel$Code", 10, (fun _ => .null))) : am_Mt K X m_Mod_crash 2 0 0 [.ref 160, .int x] (1311, f) (fun v h' => v = some (.int 0) ∧ h'.1 = 1311 ∧ h'.2 188 = .inl (.int, 100, (va_cpy (fun _ => .int 0) (fun _ => .int 0) 0 0 100)) ∧ h'.2 189 = .inl (.int, 100, (va_cpy (fun _ => .int 0) (fun _ => .int 0) 0 0 100)) ∧ h'.2 190 = .inl (.long, 800, (va_cpy (fun _ => .long 0) (fun _ => .long 0) 0 0 800)) ∧ h'.2 194 = .inl (.int, 2000, (va_cpy (fun _ => .int 0) (fun _ => .int 0) 0 0 2000)) ∧ h'.2 195 = .inl (.int, 2000, (va_cpy (fun _ => .int 0) (fun _ => .int 0) 0 0 2000)) ∧ h'.2 196 = .inl (.long, 2000, (va_cpy (fun _ => .long 0) (fun _ => .long 0) 0 0 2000)) ∧ h'.2 197 = .inl (.long, 2000, (va_cpy (fun _ => .long 0) (fun _ => .long 0) 0 0 2000)) ∧ h'.2 191 = .inl (.long, 12, (va_cpy (fun _ => .long 0) (fun _ => .long 0) 0 0 12)) ∧ h'.2 192 = .inl (.long, 10, (va_cpy (fun _ => .long 0) (fun _ => .long 0) 0 0 10)) ∧ h'.2 203 = .inl (.object "StowTongueModel$Code", 10, (va_cpy (fun _ => .null) (fun _ => .null) 0 0 10)) ∧ h'.2 187 = .inr (13, [.ref 188, .ref 189, .ref 190, .ref 191, .ref 192, .ref 193, .ref 198, .ref 203, .int 0, .int 0, .int 0, .int 0]) ∧ h'.2 222 = .inl (.int, 100, (va_cpy (va_cpy (fun _ => .int 0) (fun _ => .int 0) 0 0 100) (fun _ => .int 0) 0 0 100)) ∧ h'.2 223 = .inl (.int, 100, (va_cpy (va_cpy (fun _ => .int 0) (fun _ => .int 0) 0 0 100) (fun _ => .int 0) 0 0 100)) ∧ h'.2 224 = .inl (.long, 800, (va_cpy (va_cpy (fun _ => .long 0) (fun _ => .long 0) 0 0 800) (fun _ => .long 0) 0 0 800)) ∧ h'.2 228 = .inl (.int, 2000, (va_cpy (va_cpy (fun _ => .int 0) (fun _ => .int 0) 0 0 2000) (fun _ => .int 0) 0 0 2000)) ∧ h'.2 229 = .inl (.int, 2000, (va_cpy (va_cpy (fun _ => .int 0) (fun _ => .int 0) 0 0 2000) (fun _ => .int 0) 0 0 2000)) ∧ h'.2 230 = .inl (.long, 2000, (va_cpy (va_cpy (fun _ => .long 0) (fun _ => .long 0) 0 0 2000) (fun _ => .long 0) 0 0 2000)) ∧ h'.2 231 = .inl (.long, 2000, (va_cpy (va_cpy (fun _ => .long 0) (fun _ => .long 0) 0 0 2000) (fun _ => .long 0) 0 0 2000)) ∧ h'.2 225 = .inl (.long, 12, (va_cpy (va_cpy (fun _ => .long 0) (fun _ => .long 0) 0 0 12) (fun _ => .long 0) 0 0 12)) ∧ h'.2 226 = .inl (.long, 10, (va_cpy (va_cpy (fun _ => .long 0) (fun _ => .long 0) 0 0 10) (fun _ => .long 0) 0 0 10)) ∧ h'.2 237 = .inl (.object "StowTongueModel$Code", 10, (va_cpy (va_cpy (fun _ => .null) (fun _ => .null) 0 0 10) (fun _ => .null) 0 0 10)) ∧ h'.2 221 = .inr (13, [.ref 222, .ref 223, .ref 224, .ref 225, .ref 226, .ref 227, .ref 232, .ref 237, .int 0, .int 0, .int 0, .int 0]) ∧ h'.2 160 = .inr (14, [.ref 161, .ref 162, .int 0, .int 0, .int 0, .int 0, .int 0, .int 0, .int 0, .int 0, .int 0, .long 0, .ref 163, .ref 170, .ref 171, .ref 172, .ref 173, .ref 174, .ref 175, .ref 176, .int 0, .ref 177, .null, .ref 184, .int 0, .int 0, .ref 185, .int 0, .ref 186, .int 0, .ref 187, .ref 204, .ref 221, .ref 238, .int 0, .int 0, .ref 239, .ref 240, .ref 245, .ref 250, .ref 255, .int 0, .int 0, .int 0, .int 0, .int 0, .int 0, .ref 260, .ref 261, .ref 262, .ref 263, .ref 264, .int 0]) ∧ ∀ x, x ∉ ([188, 189, 190, 194, 195, 196, 197, 191, 192, 203, 187, 222, 223, 224, 228, 229, 230, 231, 225, 226, 237, 221, 160] : List Nat) → h'.2 x = f x) := by
  refine am_enter (by decide +kernel) (Nat.le_of_ble_eq_true rfl) ?_
  refine am_iload_n d_Mod_crash_0 rfl rfl ?_
  refine am_if_ge (tgt := 6) d_Mod_crash_1 (by decide) (fun _ => ?_) (fun c => absurd (xge hx (by decide)) c)
  refine am_iconst (v := 0) d_Mod_crash_6 (by decide) ?_
  refine am_istore_n d_Mod_crash_7 rfl (by decide) ?_
  refine am_iconst (v := 0) d_Mod_crash_8 (by decide) ?_
  refine am_istore_n d_Mod_crash_9 rfl (by decide) ?_
  refine am_iload_n d_Mod_crash_10 rfl rfl ?_
  refine am_aload_n d_Mod_crash_11 rfl rfl ?_
  refine am_get O f_Mod_409 d_Mod_crash_12 (by exact h_160) (by decide) (by decide) rfl ?_
  refine am_icmp_ge (tgt := 51) d_Mod_crash_15 (by decide) (fun _ => ?_) (fun c => absurd (by decide) c)
  refine am_iload_n d_Mod_crash_51 rfl rfl ?_
  refine am_istore d_Mod_crash_52 (by decide) ?_
  refine am_iload d_Mod_crash_54 rfl ?_
  refine am_aload_n d_Mod_crash_56 rfl rfl ?_
  refine am_get O f_Mod_409 d_Mod_crash_57 (by exact h_160) (by decide) (by decide) rfl ?_
  refine am_icmp_ge (tgt := 88) d_Mod_crash_60 (by decide) (fun _ => ?_) (fun c => absurd (by decide) c)
  refine am_aload_n d_Mod_crash_88 rfl rfl ?_
  refine am_get O f_Mod_349 d_Mod_crash_89 (by exact h_160) (by decide) (by decide) rfl ?_
  refine am_iload_n d_Mod_crash_92 rfl rfl ?_
  refine am_if_ne (tgt := 103) d_Mod_crash_93 (by decide) (fun c => absurd (by decide) c) (fun _ => ?_)
  refine am_aload_n d_Mod_crash_96 rfl rfl ?_
  refine am_get O f_Mod_356 d_Mod_crash_97 (by exact h_160) (by decide) (by decide) rfl ?_
  refine am_goto (tgt := 111) d_Mod_crash_100 (by decide) ?_
  refine am_callV O (t72_State_copy O (by exact h_187) (by exact h_188) (by exact h_189) (by exact h_190) (by exact h_191) (by exact h_192) (by exact h_193) (by exact h_194) (by exact h_195) (by exact h_196) (by exact h_197) (by exact h_203) (by exact h_221) (by exact h_222) (by exact h_223) (by exact h_224) (by exact h_225) (by exact h_226) (by exact h_227) (by exact h_228) (by exact h_229) (by exact h_230) (by exact h_231) (by exact h_237)) rfl (by exact h_187) (by decide) (by decide) rfl rfl l_Mod_448 ⟨w_1987, w_1988⟩ rfl (Nat.le_of_ble_eq_true rfl) d_Mod_crash_111 (by omega) (by omega) (by omega) (fun v h' hp => ?_)
  obtain ⟨n1, f1⟩ := h'
  obtain ⟨rfl, e1, g_188_1, g_189_1, g_190_1, g_194_1, g_195_1, g_196_1, g_197_1, g_191_1, g_192_1, g_203_1, g_187_1, fr1⟩ := hp
  obtain rfl : n1 = 1311 := e1
  have fr1 := fun (x : Nat) (hx : x ∉ ([188, 189, 190, 194, 195, 196, 197, 191, 192, 203, 187] : List Nat)) => (show f1 x = _ from fr1 x hx)
  have h_188_1 : f1 188 = .inl (.int, 100, (va_cpy (fun _ => .int 0) (fun _ => .int 0) 0 0 100)) := g_188_1
  have h_189_1 : f1 189 = .inl (.int, 100, (va_cpy (fun _ => .int 0) (fun _ => .int 0) 0 0 100)) := g_189_1
  have h_190_1 : f1 190 = .inl (.long, 800, (va_cpy (fun _ => .long 0) (fun _ => .long 0) 0 0 800)) := g_190_1
  have h_194_1 : f1 194 = .inl (.int, 2000, (va_cpy (fun _ => .int 0) (fun _ => .int 0) 0 0 2000)) := g_194_1
  have h_195_1 : f1 195 = .inl (.int, 2000, (va_cpy (fun _ => .int 0) (fun _ => .int 0) 0 0 2000)) := g_195_1
  have h_196_1 : f1 196 = .inl (.long, 2000, (va_cpy (fun _ => .long 0) (fun _ => .long 0) 0 0 2000)) := g_196_1
  have h_197_1 : f1 197 = .inl (.long, 2000, (va_cpy (fun _ => .long 0) (fun _ => .long 0) 0 0 2000)) := g_197_1
  have h_191_1 : f1 191 = .inl (.long, 12, (va_cpy (fun _ => .long 0) (fun _ => .long 0) 0 0 12)) := g_191_1
  have h_192_1 : f1 192 = .inl (.long, 10, (va_cpy (fun _ => .long 0) (fun _ => .long 0) 0 0 10)) := g_192_1
  have h_203_1 : f1 203 = .inl (.object "StowTongueModel$Code", 10, (va_cpy (fun _ => .null) (fun _ => .null) 0 0 10)) := g_203_1
  have h_187_1 : f1 187 = .inr (13, [.ref 188, .ref 189, .ref 190, .ref 191, .ref 192, .ref 193, .ref 198, .ref 203, .int 0, .int 0, .int 0, .int 0]) := g_187_1
  refine am_aload_n d_Mod_crash_114 rfl rfl ?_
  have h_160_1 : f1 160 = .inr (14, [.ref 161, .ref 162, .int 0, .int 0, .int 0, .int 0, .int 0, .int 0, .int 0, .int 0, .int 0, .long 0, .ref 163, .ref 170, .ref 171, .ref 172, .ref 173, .ref 174, .ref 175, .ref 176, .int 0, .ref 177, .null, .ref 184, .int 0, .int 0, .ref 185, .int 0, .ref 186, .int 0, .ref 187, .ref 204, .ref 221, .ref 238, .int 0, .int 0, .ref 239, .ref 240, .ref 245, .ref 250, .ref 255, .int 0, .int 0, .int 0, .int 0, .int 0, .int 0, .ref 260, .ref 261, .ref 262, .ref 263, .ref 264, .int 0]) := (fr1 160 (by decide)).trans h_160
  refine am_get O f_Mod_356 d_Mod_crash_115 (by exact h_160_1) (by decide) (by decide) rfl ?_
  refine am_aload_n d_Mod_crash_118 rfl rfl ?_
  refine am_get O f_Mod_349 d_Mod_crash_119 (by exact h_160_1) (by decide) (by decide) rfl ?_
  have h_193_1 : f1 193 = .inr (11, [.ref 194, .ref 195, .ref 196, .ref 197]) := (fr1 193 (by decide)).trans h_193
  have h_221_1 : f1 221 = .inr (13, [.ref 222, .ref 223, .ref 224, .ref 225, .ref 226, .ref 227, .ref 232, .ref 237, .int 0, .int 0, .int 0, .int 0]) := (fr1 221 (by decide)).trans h_221
  have h_222_1 : f1 222 = .inl (.int, 100, (fun _ => .int 0)) := (fr1 222 (by decide)).trans h_222
  have h_223_1 : f1 223 = .inl (.int, 100, (fun _ => .int 0)) := (fr1 223 (by decide)).trans h_223
  have h_224_1 : f1 224 = .inl (.long, 800, (fun _ => .long 0)) := (fr1 224 (by decide)).trans h_224
  have h_225_1 : f1 225 = .inl (.long, 12, (fun _ => .long 0)) := (fr1 225 (by decide)).trans h_225
  have h_226_1 : f1 226 = .inl (.long, 10, (fun _ => .long 0)) := (fr1 226 (by decide)).trans h_226
  have h_227_1 : f1 227 = .inr (11, [.ref 228, .ref 229, .ref 230, .ref 231]) := (fr1 227 (by decide)).trans h_227
  have h_228_1 : f1 228 = .inl (.int, 2000, (fun _ => .int 0)) := (fr1 228 (by decide)).trans h_228
  have h_229_1 : f1 229 = .inl (.int, 2000, (fun _ => .int 0)) := (fr1 229 (by decide)).trans h_229
  have h_230_1 : f1 230 = .inl (.long, 2000, (fun _ => .long 0)) := (fr1 230 (by decide)).trans h_230
  have h_231_1 : f1 231 = .inl (.long, 2000, (fun _ => .long 0)) := (fr1 231 (by decide)).trans h_231
  have h_237_1 : f1 237 = .inl (.object "StowTongueModel$Code", 10, (fun _ => .null)) := (fr1 237 (by decide)).trans h_237
  refine am_callV O (t73_State_copy O (by exact h_187_1) (by exact h_188_1) (by exact h_189_1) (by exact h_190_1) (by exact h_191_1) (by exact h_192_1) (by exact h_193_1) (by exact h_194_1) (by exact h_195_1) (by exact h_196_1) (by exact h_197_1) (by exact h_203_1) (by exact h_221_1) (by exact h_222_1) (by exact h_223_1) (by exact h_224_1) (by exact h_225_1) (by exact h_226_1) (by exact h_227_1) (by exact h_228_1) (by exact h_229_1) (by exact h_230_1) (by exact h_231_1) (by exact h_237_1)) rfl (by exact h_221_1) (by decide) (by decide) rfl rfl l_Mod_448 ⟨w_1987, w_1988⟩ rfl (Nat.le_of_ble_eq_true rfl) d_Mod_crash_122 (by omega) (by omega) (by omega) (fun v h' hp => ?_)
  obtain ⟨n2, f2⟩ := h'
  obtain ⟨rfl, e2, g_222_2, g_223_2, g_224_2, g_228_2, g_229_2, g_230_2, g_231_2, g_225_2, g_226_2, g_237_2, g_221_2, fr2⟩ := hp
  obtain rfl : n2 = 1311 := e2
  have fr2 := fun (x : Nat) (hx : x ∉ ([222, 223, 224, 228, 229, 230, 231, 225, 226, 237, 221] : List Nat)) => (show f2 x = _ from fr2 x hx)
  have h_222_2 : f2 222 = .inl (.int, 100, (va_cpy (va_cpy (fun _ => .int 0) (fun _ => .int 0) 0 0 100) (fun _ => .int 0) 0 0 100)) := g_222_2
  have h_223_2 : f2 223 = .inl (.int, 100, (va_cpy (va_cpy (fun _ => .int 0) (fun _ => .int 0) 0 0 100) (fun _ => .int 0) 0 0 100)) := g_223_2
  have h_224_2 : f2 224 = .inl (.long, 800, (va_cpy (va_cpy (fun _ => .long 0) (fun _ => .long 0) 0 0 800) (fun _ => .long 0) 0 0 800)) := g_224_2
  have h_228_2 : f2 228 = .inl (.int, 2000, (va_cpy (va_cpy (fun _ => .int 0) (fun _ => .int 0) 0 0 2000) (fun _ => .int 0) 0 0 2000)) := g_228_2
  have h_229_2 : f2 229 = .inl (.int, 2000, (va_cpy (va_cpy (fun _ => .int 0) (fun _ => .int 0) 0 0 2000) (fun _ => .int 0) 0 0 2000)) := g_229_2
  have h_230_2 : f2 230 = .inl (.long, 2000, (va_cpy (va_cpy (fun _ => .long 0) (fun _ => .long 0) 0 0 2000) (fun _ => .long 0) 0 0 2000)) := g_230_2
  have h_231_2 : f2 231 = .inl (.long, 2000, (va_cpy (va_cpy (fun _ => .long 0) (fun _ => .long 0) 0 0 2000) (fun _ => .long 0) 0 0 2000)) := g_231_2
  have h_225_2 : f2 225 = .inl (.long, 12, (va_cpy (va_cpy (fun _ => .long 0) (fun _ => .long 0) 0 0 12) (fun _ => .long 0) 0 0 12)) := g_225_2
  have h_226_2 : f2 226 = .inl (.long, 10, (va_cpy (va_cpy (fun _ => .long 0) (fun _ => .long 0) 0 0 10) (fun _ => .long 0) 0 0 10)) := g_226_2
  have h_237_2 : f2 237 = .inl (.object "StowTongueModel$Code", 10, (va_cpy (va_cpy (fun _ => .null) (fun _ => .null) 0 0 10) (fun _ => .null) 0 0 10)) := g_237_2
  have h_221_2 : f2 221 = .inr (13, [.ref 222, .ref 223, .ref 224, .ref 225, .ref 226, .ref 227, .ref 232, .ref 237, .int 0, .int 0, .int 0, .int 0]) := g_221_2
  refine am_aload_n d_Mod_crash_125 rfl rfl ?_
  refine am_iconst (v := 0) d_Mod_crash_126 (by decide) ?_
  have h_160_2 : f2 160 = .inr (14, [.ref 161, .ref 162, .int 0, .int 0, .int 0, .int 0, .int 0, .int 0, .int 0, .int 0, .int 0, .long 0, .ref 163, .ref 170, .ref 171, .ref 172, .ref 173, .ref 174, .ref 175, .ref 176, .int 0, .ref 177, .null, .ref 184, .int 0, .int 0, .ref 185, .int 0, .ref 186, .int 0, .ref 187, .ref 204, .ref 221, .ref 238, .int 0, .int 0, .ref 239, .ref 240, .ref 245, .ref 250, .ref 255, .int 0, .int 0, .int 0, .int 0, .int 0, .int 0, .ref 260, .ref 261, .ref 262, .ref 263, .ref 264, .int 0]) := (fr2 160 (by decide)).trans h_160_1
  refine am_put O f_Mod_409 d_Mod_crash_127 (by exact h_160_2) (by decide) (by decide) (Nat.le_of_ble_eq_true rfl) (fun q hq => by cases hq; exact ⟨rfl, rfl, rfl⟩) ?_
  refine am_iload_n d_Mod_crash_130 rfl rfl ?_
  have h_188_2 : f2 188 = .inl (.int, 100, (va_cpy (fun _ => .int 0) (fun _ => .int 0) 0 0 100)) := (fr2 188 (by decide)).trans h_188_1
  have h_189_2 : f2 189 = .inl (.int, 100, (va_cpy (fun _ => .int 0) (fun _ => .int 0) 0 0 100)) := (fr2 189 (by decide)).trans h_189_1
  have h_190_2 : f2 190 = .inl (.long, 800, (va_cpy (fun _ => .long 0) (fun _ => .long 0) 0 0 800)) := (fr2 190 (by decide)).trans h_190_1
  have h_194_2 : f2 194 = .inl (.int, 2000, (va_cpy (fun _ => .int 0) (fun _ => .int 0) 0 0 2000)) := (fr2 194 (by decide)).trans h_194_1
  have h_195_2 : f2 195 = .inl (.int, 2000, (va_cpy (fun _ => .int 0) (fun _ => .int 0) 0 0 2000)) := (fr2 195 (by decide)).trans h_195_1
  have h_196_2 : f2 196 = .inl (.long, 2000, (va_cpy (fun _ => .long 0) (fun _ => .long 0) 0 0 2000)) := (fr2 196 (by decide)).trans h_196_1
  have h_197_2 : f2 197 = .inl (.long, 2000, (va_cpy (fun _ => .long 0) (fun _ => .long 0) 0 0 2000)) := (fr2 197 (by decide)).trans h_197_1
  have h_191_2 : f2 191 = .inl (.long, 12, (va_cpy (fun _ => .long 0) (fun _ => .long 0) 0 0 12)) := (fr2 191 (by decide)).trans h_191_1
  have h_192_2 : f2 192 = .inl (.long, 10, (va_cpy (fun _ => .long 0) (fun _ => .long 0) 0 0 10)) := (fr2 192 (by decide)).trans h_192_1
  have h_203_2 : f2 203 = .inl (.object "StowTongueModel$Code", 10, (va_cpy (fun _ => .null) (fun _ => .null) 0 0 10)) := (fr2 203 (by decide)).trans h_203_1
  have h_187_2 : f2 187 = .inr (13, [.ref 188, .ref 189, .ref 190, .ref 191, .ref 192, .ref 193, .ref 198, .ref 203, .int 0, .int 0, .int 0, .int 0]) := (fr2 187 (by decide)).trans h_187_1
  exact am_iret rfl d_Mod_crash_131 ⟨rfl, rfl, h_188_2, h_189_2, h_190_2, h_194_2, h_195_2, h_196_2, h_197_2, h_191_2, h_192_2, h_203_2, h_187_2, h_222_2, h_223_2, h_224_2, h_228_2, h_229_2, h_230_2, h_231_2, h_225_2, h_226_2, h_237_2, h_221_2, rfl, fun x hx => by simp only [List.mem_cons, List.not_mem_nil, or_false, not_or] at hx; dsimp only; (repeat (first | rw [va_up_ne _ _ (by omega)] | rw [fr1 x (by simp only [List.mem_cons, List.not_mem_nil, or_false, not_or]; omega)] | rw [fr2 x (by simp only [List.mem_cons, List.not_mem_nil, or_false, not_or]; omega)]))⟩

set_option maxRecDepth 100000 in
set_option maxHeartbeats 4000000 in
theorem a_runn_c (O : am_ok K X) {x : Int32} (hx : x.toInt < 0) {h : am_H} : am_Mt K X m_Stow_run 0 0 0 [.ref 128, .int x] h (fun v h' => v = some (.int (-1)) ∧ h' = h) := by
  refine am_enter (by decide +kernel) (Nat.le_of_ble_eq_true rfl) ?_
  refine am_iload_n d_Stow_run_0 rfl rfl ?_
  refine am_if_lt (tgt := 11) d_Stow_run_1 (by decide) (fun _ => ?_) (fun c => absurd (xl hx (by decide)) c)
  refine am_iconst (v := (-1)) d_Stow_run_11 (by decide) ?_
  exact am_iret rfl d_Stow_run_12 ⟨rfl, rfl⟩

set_option maxRecDepth 100000 in
set_option maxHeartbeats 4000000 in
theorem a_runn_m (O : am_ok K X) {x : Int32} (hx : x.toInt < 0) {h : am_H} : am_Mt K X m_Mod_run 1 0 0 [.ref 160, .int x] h (fun v h' => v = some (.int (-1)) ∧ h' = h) := by
  refine am_enter (by decide +kernel) (Nat.le_of_ble_eq_true rfl) ?_
  refine am_iload_n d_Mod_run_0 rfl rfl ?_
  refine am_i2l d_Mod_run_1 rfl ?_
  refine am_lconst (v := 0) d_Mod_run_2 (by decide) ?_
  refine am_ldc2 (v := 2000) w_1797 d_Mod_run_3 ?_
  refine am_callS O (c_in0 (Or.inl (in_lo hx (by decide)))) rfl l_Mod_70 w_1791 rfl (Nat.le_of_ble_eq_true rfl) d_Mod_run_6 (by omega) (by omega) (by omega) (fun v h' hp => ?_)
  obtain ⟨rfl, rfl⟩ := hp
  refine am_if_ne (tgt := 14) d_Mod_run_9 (by decide) (fun c => absurd (by decide) c) (fun _ => ?_)
  refine am_iconst (v := (-1)) d_Mod_run_12 (by decide) ?_
  exact am_iret rfl d_Mod_run_13 ⟨rfl, rfl⟩

set_option maxRecDepth 100000 in
set_option maxHeartbeats 4000000 in
theorem a_runp_c (O : am_ok K X) {x : Int32} (hx : 2000 < x.toInt) {h : am_H} : am_Mt K X m_Stow_run 0 0 0 [.ref 128, .int x] h (fun v h' => v = some (.int (-1)) ∧ h' = h) := by
  refine am_enter (by decide +kernel) (Nat.le_of_ble_eq_true rfl) ?_
  refine am_iload_n d_Stow_run_0 rfl rfl ?_
  refine am_if_lt (tgt := 11) d_Stow_run_1 (by decide) (fun c => absurd c (Int32.not_lt.mpr (xge (k := 0) (by omega) (by decide)))) (fun _ => ?_)
  refine am_iload_n d_Stow_run_4 rfl rfl ?_
  refine am_sipush (v := 2000) d_Stow_run_5 (by decide) ?_
  refine am_icmp_le (tgt := 13) d_Stow_run_8 (by decide) (fun c => absurd c (Int32.not_le.mpr (xg hx (by decide)))) (fun _ => ?_)
  refine am_iconst (v := (-1)) d_Stow_run_11 (by decide) ?_
  exact am_iret rfl d_Stow_run_12 ⟨rfl, rfl⟩

set_option maxRecDepth 100000 in
set_option maxHeartbeats 4000000 in
theorem a_runp_m (O : am_ok K X) {x : Int32} (hx : 2000 < x.toInt) {h : am_H} : am_Mt K X m_Mod_run 1 0 0 [.ref 160, .int x] h (fun v h' => v = some (.int (-1)) ∧ h' = h) := by
  refine am_enter (by decide +kernel) (Nat.le_of_ble_eq_true rfl) ?_
  refine am_iload_n d_Mod_run_0 rfl rfl ?_
  refine am_i2l d_Mod_run_1 rfl ?_
  refine am_lconst (v := 0) d_Mod_run_2 (by decide) ?_
  refine am_ldc2 (v := 2000) w_1797 d_Mod_run_3 ?_
  refine am_callS O (c_in0 (Or.inr (in_hi hx (by decide)))) rfl l_Mod_70 w_1791 rfl (Nat.le_of_ble_eq_true rfl) d_Mod_run_6 (by omega) (by omega) (by omega) (fun v h' hp => ?_)
  obtain ⟨rfl, rfl⟩ := hp
  refine am_if_ne (tgt := 14) d_Mod_run_9 (by decide) (fun c => absurd (by decide) c) (fun _ => ?_)
  refine am_iconst (v := (-1)) d_Mod_run_12 (by decide) ?_
  exact am_iret rfl d_Mod_run_13 ⟨rfl, rfl⟩
end
