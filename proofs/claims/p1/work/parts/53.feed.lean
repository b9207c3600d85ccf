section
variable {K : am_K} {X : Nat → am_C}
set_option maxRecDepth 100000 in
set_option maxHeartbeats 4000000 in
theorem t151_Stow_addFour (O : am_ok K X) {x1 : Int32}  {f : Nat → am_C} (h_128 : f 128 = .inr (9, [.ref 129, .int 0, .ref 130, .ref 132, .ref 148, .ref 154, .ref 157, .long 0, .long 0, .int 0])) (h_129 : f 129 = .inl (.byte, 1500, (fun _ => .int 0))) : am_Mt K X m_Stow_addFour 0 0 0 [.ref 128, .int x1] (1311, f) (fun v h' => v = none ∧ h'.1 = 1311 ∧ h'.2 129 = .inl (.byte, 1500, (updV (updV (updV (updV (fun _ => .int 0) 0 (.int (((x1 >>> (24 &&& 31)).toInt8.toInt32).toInt8.toInt32))) 1 (.int (((x1 >>> (16 &&& 31)).toInt8.toInt32).toInt8.toInt32))) 2 (.int (((x1 >>> (8 &&& 31)).toInt8.toInt32).toInt8.toInt32))) 3 (.int (((x1 >>> (0 &&& 31)).toInt8.toInt32).toInt8.toInt32)))) ∧ h'.2 128 = .inr (9, [.ref 129, .int 4, .ref 130, .ref 132, .ref 148, .ref 154, .ref 157, .long 0, .long 0, .int 0]) ∧ ∀ x, x ∉ ([129, 128] : List Nat) → h'.2 x = f x) := by
  refine am_enter (by decide +kernel) (Nat.le_of_ble_eq_true rfl) ?_
  refine am_bipush (v := 24) d_Stow_addFour_0 (by decide) ?_
  refine am_istore_n d_Stow_addFour_2 rfl (by decide) ?_
  refine am_iload_n d_Stow_addFour_3 rfl rfl ?_
  refine am_if_lt (tgt := 46) d_Stow_addFour_4 (by decide) (fun c => absurd c (by decide)) (fun _ => ?_)
  refine am_aload_n d_Stow_addFour_7 rfl rfl ?_
  refine am_get O f_Stow_48 d_Stow_addFour_8 (by exact h_128) (by decide) (by decide) rfl ?_
  refine am_sipush (v := 1500) d_Stow_addFour_11 (by decide) ?_
  refine am_icmp_ge (tgt := 46) d_Stow_addFour_14 (by decide) (fun c => absurd c (by decide)) (fun _ => ?_)
  refine am_aload_n d_Stow_addFour_17 rfl rfl ?_
  refine am_get O f_Stow_9 d_Stow_addFour_18 (by exact h_128) (by decide) (by decide) rfl ?_
  refine am_aload_n d_Stow_addFour_21 rfl rfl ?_
  refine am_get O f_Stow_48 d_Stow_addFour_22 (by exact h_128) (by decide) (by decide) rfl ?_
  refine am_iload_n d_Stow_addFour_25 rfl rfl ?_
  refine am_iload_n d_Stow_addFour_26 rfl rfl ?_
  refine am_ishr d_Stow_addFour_27 ?_
  refine am_i2b d_Stow_addFour_28 rfl ?_
  refine am_bast O (by decide) d_Stow_addFour_29 (by exact h_129) (by decide) (by decide) (am_in (by decide) (by decide)) ?_
  refine am_aload_n d_Stow_addFour_30 rfl rfl ?_
  refine am_dup d_Stow_addFour_31 rfl ?_
  refine am_get O f_Stow_48 d_Stow_addFour_32 (by exact h_128) (by decide) (by decide) rfl ?_
  refine am_iconst (v := 1) d_Stow_addFour_35 (by decide) ?_
  refine am_iadd d_Stow_addFour_36 ?_
  refine am_topi (v := 1) (by decide) ?_
  refine am_put O f_Stow_48 d_Stow_addFour_37 (by exact h_128) (by decide) (by decide) (Nat.le_of_ble_eq_true rfl) (fun q hq => by cases hq; exact ⟨rfl, rfl, rfl⟩) ?_
  refine am_iinc (v := (-8)) d_Stow_addFour_40 rfl (by decide) (by decide) ?_
  refine am_locs (lv' := [(0, .ref 128), (1, .int x1), (2, .int 16)]) rfl ?_
  refine am_goto (tgt := 3) d_Stow_addFour_43 (by decide) ?_
  refine am_iload_n d_Stow_addFour_3 rfl rfl ?_
  refine am_if_lt (tgt := 46) d_Stow_addFour_4 (by decide) (fun c => absurd c (by decide)) (fun _ => ?_)
  refine am_aload_n d_Stow_addFour_7 rfl rfl ?_
  refine am_get O f_Stow_48 d_Stow_addFour_8 (by rfl) (by decide) (by decide) rfl ?_
  refine am_sipush (v := 1500) d_Stow_addFour_11 (by decide) ?_
  refine am_icmp_ge (tgt := 46) d_Stow_addFour_14 (by decide) (fun c => absurd c (by decide)) (fun _ => ?_)
  refine am_aload_n d_Stow_addFour_17 rfl rfl ?_
  refine am_get O f_Stow_9 d_Stow_addFour_18 (by rfl) (by decide) (by decide) rfl ?_
  refine am_aload_n d_Stow_addFour_21 rfl rfl ?_
  refine am_get O f_Stow_48 d_Stow_addFour_22 (by rfl) (by decide) (by decide) rfl ?_
  refine am_iload_n d_Stow_addFour_25 rfl rfl ?_
  refine am_iload_n d_Stow_addFour_26 rfl rfl ?_
  refine am_ishr d_Stow_addFour_27 ?_
  refine am_i2b d_Stow_addFour_28 rfl ?_
  refine am_bast O (by decide) d_Stow_addFour_29 (by rfl) (by decide) (by decide) (am_in (by decide) (by decide)) ?_
  refine am_aload_n d_Stow_addFour_30 rfl rfl ?_
  refine am_dup d_Stow_addFour_31 rfl ?_
  refine am_get O f_Stow_48 d_Stow_addFour_32 (by rfl) (by decide) (by decide) rfl ?_
  refine am_iconst (v := 1) d_Stow_addFour_35 (by decide) ?_
  refine am_iadd d_Stow_addFour_36 ?_
  refine am_topi (v := 2) (by decide) ?_
  refine am_put O f_Stow_48 d_Stow_addFour_37 (by rfl) (by decide) (by decide) (Nat.le_of_ble_eq_true rfl) (fun q hq => by cases hq; exact ⟨rfl, rfl, rfl⟩) ?_
  refine am_iinc (v := (-8)) d_Stow_addFour_40 rfl (by decide) (by decide) ?_
  refine am_locs (lv' := [(0, .ref 128), (1, .int x1), (2, .int 8)]) rfl ?_
  refine am_goto (tgt := 3) d_Stow_addFour_43 (by decide) ?_
  refine am_iload_n d_Stow_addFour_3 rfl rfl ?_
  refine am_if_lt (tgt := 46) d_Stow_addFour_4 (by decide) (fun c => absurd c (by decide)) (fun _ => ?_)
  refine am_aload_n d_Stow_addFour_7 rfl rfl ?_
  refine am_get O f_Stow_48 d_Stow_addFour_8 (by rfl) (by decide) (by decide) rfl ?_
  refine am_sipush (v := 1500) d_Stow_addFour_11 (by decide) ?_
  refine am_icmp_ge (tgt := 46) d_Stow_addFour_14 (by decide) (fun c => absurd c (by decide)) (fun _ => ?_)
  refine am_aload_n d_Stow_addFour_17 rfl rfl ?_
  refine am_get O f_Stow_9 d_Stow_addFour_18 (by rfl) (by decide) (by decide) rfl ?_
  refine am_aload_n d_Stow_addFour_21 rfl rfl ?_
  refine am_get O f_Stow_48 d_Stow_addFour_22 (by rfl) (by decide) (by decide) rfl ?_
  refine am_iload_n d_Stow_addFour_25 rfl rfl ?_
  refine am_iload_n d_Stow_addFour_26 rfl rfl ?_
  refine am_ishr d_Stow_addFour_27 ?_
  refine am_i2b d_Stow_addFour_28 rfl ?_
  refine am_bast O (by decide) d_Stow_addFour_29 (by rfl) (by decide) (by decide) (am_in (by decide) (by decide)) ?_
  refine am_aload_n d_Stow_addFour_30 rfl rfl ?_
  refine am_dup d_Stow_addFour_31 rfl ?_
  refine am_get O f_Stow_48 d_Stow_addFour_32 (by rfl) (by decide) (by decide) rfl ?_
  refine am_iconst (v := 1) d_Stow_addFour_35 (by decide) ?_
  refine am_iadd d_Stow_addFour_36 ?_
  refine am_topi (v := 3) (by decide) ?_
  refine am_put O f_Stow_48 d_Stow_addFour_37 (by rfl) (by decide) (by decide) (Nat.le_of_ble_eq_true rfl) (fun q hq => by cases hq; exact ⟨rfl, rfl, rfl⟩) ?_
  refine am_iinc (v := (-8)) d_Stow_addFour_40 rfl (by decide) (by decide) ?_
  refine am_locs (lv' := [(0, .ref 128), (1, .int x1), (2, .int 0)]) rfl ?_
  refine am_goto (tgt := 3) d_Stow_addFour_43 (by decide) ?_
  refine am_iload_n d_Stow_addFour_3 rfl rfl ?_
  refine am_if_lt (tgt := 46) d_Stow_addFour_4 (by decide) (fun c => absurd c (by decide)) (fun _ => ?_)
  refine am_aload_n d_Stow_addFour_7 rfl rfl ?_
  refine am_get O f_Stow_48 d_Stow_addFour_8 (by rfl) (by decide) (by decide) rfl ?_
  refine am_sipush (v := 1500) d_Stow_addFour_11 (by decide) ?_
  refine am_icmp_ge (tgt := 46) d_Stow_addFour_14 (by decide) (fun c => absurd c (by decide)) (fun _ => ?_)
  refine am_aload_n d_Stow_addFour_17 rfl rfl ?_
  refine am_get O f_Stow_9 d_Stow_addFour_18 (by rfl) (by decide) (by decide) rfl ?_
  refine am_aload_n d_Stow_addFour_21 rfl rfl ?_
  refine am_get O f_Stow_48 d_Stow_addFour_22 (by rfl) (by decide) (by decide) rfl ?_
  refine am_iload_n d_Stow_addFour_25 rfl rfl ?_
  refine am_iload_n d_Stow_addFour_26 rfl rfl ?_
  refine am_ishr d_Stow_addFour_27 ?_
  refine am_i2b d_Stow_addFour_28 rfl ?_
  refine am_bast O (by decide) d_Stow_addFour_29 (by rfl) (by decide) (by decide) (am_in (by decide) (by decide)) ?_
  refine am_aload_n d_Stow_addFour_30 rfl rfl ?_
  refine am_dup d_Stow_addFour_31 rfl ?_
  refine am_get O f_Stow_48 d_Stow_addFour_32 (by rfl) (by decide) (by decide) rfl ?_
  refine am_iconst (v := 1) d_Stow_addFour_35 (by decide) ?_
  refine am_iadd d_Stow_addFour_36 ?_
  refine am_topi (v := 4) (by decide) ?_
  refine am_put O f_Stow_48 d_Stow_addFour_37 (by rfl) (by decide) (by decide) (Nat.le_of_ble_eq_true rfl) (fun q hq => by cases hq; exact ⟨rfl, rfl, rfl⟩) ?_
  refine am_iinc (v := (-8)) d_Stow_addFour_40 rfl (by decide) (by decide) ?_
  refine am_locs (lv' := [(0, .ref 128), (1, .int x1), (2, .int (-8))]) rfl ?_
  refine am_goto (tgt := 3) d_Stow_addFour_43 (by decide) ?_
  refine am_iload_n d_Stow_addFour_3 rfl rfl ?_
  refine am_if_lt (tgt := 46) d_Stow_addFour_4 (by decide) (fun _ => ?_) (fun c => absurd (by decide) c)
  exact am_vret rfl d_Stow_addFour_46 ⟨rfl, rfl, rfl, rfl, fun x hx => by simp only [List.mem_cons, List.not_mem_nil, or_false, not_or] at hx; dsimp only; (repeat (first | rw [va_up_ne _ _ (by omega)]))⟩

set_option maxRecDepth 100000 in
set_option maxHeartbeats 4000000 in
theorem t152_Stow_addFour (O : am_ok K X) {x1 : Int32} {x2 : Int32}  {f : Nat → am_C} (h_128 : f 128 = .inr (9, [.ref 129, .int 4, .ref 130, .ref 132, .ref 148, .ref 154, .ref 157, .long 0, .long 0, .int 0])) (h_129 : f 129 = .inl (.byte, 1500, (updV (updV (updV (updV (fun _ => .int 0) 0 (.int (((x1 >>> (24 &&& 31)).toInt8.toInt32).toInt8.toInt32))) 1 (.int (((x1 >>> (16 &&& 31)).toInt8.toInt32).toInt8.toInt32))) 2 (.int (((x1 >>> (8 &&& 31)).toInt8.toInt32).toInt8.toInt32))) 3 (.int (((x1 >>> (0 &&& 31)).toInt8.toInt32).toInt8.toInt32))))) : am_Mt K X m_Stow_addFour 0 0 0 [.ref 128, .int x2] (1311, f) (fun v h' => v = none ∧ h'.1 = 1311 ∧ h'.2 129 = .inl (.byte, 1500, (updV (updV (updV (updV (updV (updV (updV (updV (fun _ => .int 0) 0 (.int (((x1 >>> (24 &&& 31)).toInt8.toInt32).toInt8.toInt32))) 1 (.int (((x1 >>> (16 &&& 31)).toInt8.toInt32).toInt8.toInt32))) 2 (.int (((x1 >>> (8 &&& 31)).toInt8.toInt32).toInt8.toInt32))) 3 (.int (((x1 >>> (0 &&& 31)).toInt8.toInt32).toInt8.toInt32))) 4 (.int (((x2 >>> (24 &&& 31)).toInt8.toInt32).toInt8.toInt32))) 5 (.int (((x2 >>> (16 &&& 31)).toInt8.toInt32).toInt8.toInt32))) 6 (.int (((x2 >>> (8 &&& 31)).toInt8.toInt32).toInt8.toInt32))) 7 (.int (((x2 >>> (0 &&& 31)).toInt8.toInt32).toInt8.toInt32)))) ∧ h'.2 128 = .inr (9, [.ref 129, .int 8, .ref 130, .ref 132, .ref 148, .ref 154, .ref 157, .long 0, .long 0, .int 0]) ∧ ∀ x, x ∉ ([129, 128] : List Nat) → h'.2 x = f x) := by
  refine am_enter (by decide +kernel) (Nat.le_of_ble_eq_true rfl) ?_
  refine am_bipush (v := 24) d_Stow_addFour_0 (by decide) ?_
  refine am_istore_n d_Stow_addFour_2 rfl (by decide) ?_
  refine am_iload_n d_Stow_addFour_3 rfl rfl ?_
  refine am_if_lt (tgt := 46) d_Stow_addFour_4 (by decide) (fun c => absurd c (by decide)) (fun _ => ?_)
  refine am_aload_n d_Stow_addFour_7 rfl rfl ?_
  refine am_get O f_Stow_48 d_Stow_addFour_8 (by exact h_128) (by decide) (by decide) rfl ?_
  refine am_sipush (v := 1500) d_Stow_addFour_11 (by decide) ?_
  refine am_icmp_ge (tgt := 46) d_Stow_addFour_14 (by decide) (fun c => absurd c (by decide)) (fun _ => ?_)
  refine am_aload_n d_Stow_addFour_17 rfl rfl ?_
  refine am_get O f_Stow_9 d_Stow_addFour_18 (by exact h_128) (by decide) (by decide) rfl ?_
  refine am_aload_n d_Stow_addFour_21 rfl rfl ?_
  refine am_get O f_Stow_48 d_Stow_addFour_22 (by exact h_128) (by decide) (by decide) rfl ?_
  refine am_iload_n d_Stow_addFour_25 rfl rfl ?_
  refine am_iload_n d_Stow_addFour_26 rfl rfl ?_
  refine am_ishr d_Stow_addFour_27 ?_
  refine am_i2b d_Stow_addFour_28 rfl ?_
  refine am_bast O (by decide) d_Stow_addFour_29 (by exact h_129) (by decide) (by decide) (am_in (by decide) (by decide)) ?_
  refine am_aload_n d_Stow_addFour_30 rfl rfl ?_
  refine am_dup d_Stow_addFour_31 rfl ?_
  refine am_get O f_Stow_48 d_Stow_addFour_32 (by exact h_128) (by decide) (by decide) rfl ?_
  refine am_iconst (v := 1) d_Stow_addFour_35 (by decide) ?_
  refine am_iadd d_Stow_addFour_36 ?_
  refine am_topi (v := 5) (by decide) ?_
  refine am_put O f_Stow_48 d_Stow_addFour_37 (by exact h_128) (by decide) (by decide) (Nat.le_of_ble_eq_true rfl) (fun q hq => by cases hq; exact ⟨rfl, rfl, rfl⟩) ?_
  refine am_iinc (v := (-8)) d_Stow_addFour_40 rfl (by decide) (by decide) ?_
  refine am_locs (lv' := [(0, .ref 128), (1, .int x2), (2, .int 16)]) rfl ?_
  refine am_goto (tgt := 3) d_Stow_addFour_43 (by decide) ?_
  refine am_iload_n d_Stow_addFour_3 rfl rfl ?_
  refine am_if_lt (tgt := 46) d_Stow_addFour_4 (by decide) (fun c => absurd c (by decide)) (fun _ => ?_)
  refine am_aload_n d_Stow_addFour_7 rfl rfl ?_
  refine am_get O f_Stow_48 d_Stow_addFour_8 (by rfl) (by decide) (by decide) rfl ?_
  refine am_sipush (v := 1500) d_Stow_addFour_11 (by decide) ?_
  refine am_icmp_ge (tgt := 46) d_Stow_addFour_14 (by decide) (fun c => absurd c (by decide)) (fun _ => ?_)
  refine am_aload_n d_Stow_addFour_17 rfl rfl ?_
  refine am_get O f_Stow_9 d_Stow_addFour_18 (by rfl) (by decide) (by decide) rfl ?_
  refine am_aload_n d_Stow_addFour_21 rfl rfl ?_
  refine am_get O f_Stow_48 d_Stow_addFour_22 (by rfl) (by decide) (by decide) rfl ?_
  refine am_iload_n d_Stow_addFour_25 rfl rfl ?_
  refine am_iload_n d_Stow_addFour_26 rfl rfl ?_
  refine am_ishr d_Stow_addFour_27 ?_
  refine am_i2b d_Stow_addFour_28 rfl ?_
  refine am_bast O (by decide) d_Stow_addFour_29 (by rfl) (by decide) (by decide) (am_in (by decide) (by decide)) ?_
  refine am_aload_n d_Stow_addFour_30 rfl rfl ?_
  refine am_dup d_Stow_addFour_31 rfl ?_
  refine am_get O f_Stow_48 d_Stow_addFour_32 (by rfl) (by decide) (by decide) rfl ?_
  refine am_iconst (v := 1) d_Stow_addFour_35 (by decide) ?_
  refine am_iadd d_Stow_addFour_36 ?_
  refine am_topi (v := 6) (by decide) ?_
  refine am_put O f_Stow_48 d_Stow_addFour_37 (by rfl) (by decide) (by decide) (Nat.le_of_ble_eq_true rfl) (fun q hq => by cases hq; exact ⟨rfl, rfl, rfl⟩) ?_
  refine am_iinc (v := (-8)) d_Stow_addFour_40 rfl (by decide) (by decide) ?_
  refine am_locs (lv' := [(0, .ref 128), (1, .int x2), (2, .int 8)]) rfl ?_
  refine am_goto (tgt := 3) d_Stow_addFour_43 (by decide) ?_
  refine am_iload_n d_Stow_addFour_3 rfl rfl ?_
  refine am_if_lt (tgt := 46) d_Stow_addFour_4 (by decide) (fun c => absurd c (by decide)) (fun _ => ?_)
  refine am_aload_n d_Stow_addFour_7 rfl rfl ?_
  refine am_get O f_Stow_48 d_Stow_addFour_8 (by rfl) (by decide) (by decide) rfl ?_
  refine am_sipush (v := 1500) d_Stow_addFour_11 (by decide) ?_
  refine am_icmp_ge (tgt := 46) d_Stow_addFour_14 (by decide) (fun c => absurd c (by decide)) (fun _ => ?_)
  refine am_aload_n d_Stow_addFour_17 rfl rfl ?_
  refine am_get O f_Stow_9 d_Stow_addFour_18 (by rfl) (by decide) (by decide) rfl ?_
  refine am_aload_n d_Stow_addFour_21 rfl rfl ?_
  refine am_get O f_Stow_48 d_Stow_addFour_22 (by rfl) (by decide) (by decide) rfl ?_
  refine am_iload_n d_Stow_addFour_25 rfl rfl ?_
  refine am_iload_n d_Stow_addFour_26 rfl rfl ?_
  refine am_ishr d_Stow_addFour_27 ?_
  refine am_i2b d_Stow_addFour_28 rfl ?_
  refine am_bast O (by decide) d_Stow_addFour_29 (by rfl) (by decide) (by decide) (am_in (by decide) (by decide)) ?_
  refine am_aload_n d_Stow_addFour_30 rfl rfl ?_
  refine am_dup d_Stow_addFour_31 rfl ?_
  refine am_get O f_Stow_48 d_Stow_addFour_32 (by rfl) (by decide) (by decide) rfl ?_
  refine am_iconst (v := 1) d_Stow_addFour_35 (by decide) ?_
  refine am_iadd d_Stow_addFour_36 ?_
  refine am_topi (v := 7) (by decide) ?_
  refine am_put O f_Stow_48 d_Stow_addFour_37 (by rfl) (by decide) (by decide) (Nat.le_of_ble_eq_true rfl) (fun q hq => by cases hq; exact ⟨rfl, rfl, rfl⟩) ?_
  refine am_iinc (v := (-8)) d_Stow_addFour_40 rfl (by decide) (by decide) ?_
  refine am_locs (lv' := [(0, .ref 128), (1, .int x2), (2, .int 0)]) rfl ?_
  refine am_goto (tgt := 3) d_Stow_addFour_43 (by decide) ?_
  refine am_iload_n d_Stow_addFour_3 rfl rfl ?_
  refine am_if_lt (tgt := 46) d_Stow_addFour_4 (by decide) (fun c => absurd c (by decide)) (fun _ => ?_)
  refine am_aload_n d_Stow_addFour_7 rfl rfl ?_
  refine am_get O f_Stow_48 d_Stow_addFour_8 (by rfl) (by decide) (by decide) rfl ?_
  refine am_sipush (v := 1500) d_Stow_addFour_11 (by decide) ?_
  refine am_icmp_ge (tgt := 46) d_Stow_addFour_14 (by decide) (fun c => absurd c (by decide)) (fun _ => ?_)
  refine am_aload_n d_Stow_addFour_17 rfl rfl ?_
  refine am_get O f_Stow_9 d_Stow_addFour_18 (by rfl) (by decide) (by decide) rfl ?_
  refine am_aload_n d_Stow_addFour_21 rfl rfl ?_
  refine am_get O f_Stow_48 d_Stow_addFour_22 (by rfl) (by decide) (by decide) rfl ?_
  refine am_iload_n d_Stow_addFour_25 rfl rfl ?_
  refine am_iload_n d_Stow_addFour_26 rfl rfl ?_
  refine am_ishr d_Stow_addFour_27 ?_
  refine am_i2b d_Stow_addFour_28 rfl ?_
  refine am_bast O (by decide) d_Stow_addFour_29 (by rfl) (by decide) (by decide) (am_in (by decide) (by decide)) ?_
  refine am_aload_n d_Stow_addFour_30 rfl rfl ?_
  refine am_dup d_Stow_addFour_31 rfl ?_
  refine am_get O f_Stow_48 d_Stow_addFour_32 (by rfl) (by decide) (by decide) rfl ?_
  refine am_iconst (v := 1) d_Stow_addFour_35 (by decide) ?_
  refine am_iadd d_Stow_addFour_36 ?_
  refine am_topi (v := 8) (by decide) ?_
  refine am_put O f_Stow_48 d_Stow_addFour_37 (by rfl) (by decide) (by decide) (Nat.le_of_ble_eq_true rfl) (fun q hq => by cases hq; exact ⟨rfl, rfl, rfl⟩) ?_
  refine am_iinc (v := (-8)) d_Stow_addFour_40 rfl (by decide) (by decide) ?_
  refine am_locs (lv' := [(0, .ref 128), (1, .int x2), (2, .int (-8))]) rfl ?_
  refine am_goto (tgt := 3) d_Stow_addFour_43 (by decide) ?_
  refine am_iload_n d_Stow_addFour_3 rfl rfl ?_
  refine am_if_lt (tgt := 46) d_Stow_addFour_4 (by decide) (fun _ => ?_) (fun c => absurd (by decide) c)
  exact am_vret rfl d_Stow_addFour_46 ⟨rfl, rfl, rfl, rfl, fun x hx => by simp only [List.mem_cons, List.not_mem_nil, or_false, not_or] at hx; dsimp only; (repeat (first | rw [va_up_ne _ _ (by omega)]))⟩

set_option maxRecDepth 100000 in
set_option maxHeartbeats 4000000 in
theorem t153_Stow_addFour (O : am_ok K X) {x1 : Int32} {x2 : Int32} {x3 : Int32}  {f : Nat → am_C} (h_128 : f 128 = .inr (9, [.ref 129, .int 8, .ref 130, .ref 132, .ref 148, .ref 154, .ref 157, .long 0, .long 0, .int 0])) (h_129 : f 129 = .inl (.byte, 1500, (updV (updV (updV (updV (updV (updV (updV (updV (fun _ => .int 0) 0 (.int (((x1 >>> (24 &&& 31)).toInt8.toInt32).toInt8.toInt32))) 1 (.int (((x1 >>> (16 &&& 31)).toInt8.toInt32).toInt8.toInt32))) 2 (.int (((x1 >>> (8 &&& 31)).toInt8.toInt32).toInt8.toInt32))) 3 (.int (((x1 >>> (0 &&& 31)).toInt8.toInt32).toInt8.toInt32))) 4 (.int (((x2 >>> (24 &&& 31)).toInt8.toInt32).toInt8.toInt32))) 5 (.int (((x2 >>> (16 &&& 31)).toInt8.toInt32).toInt8.toInt32))) 6 (.int (((x2 >>> (8 &&& 31)).toInt8.toInt32).toInt8.toInt32))) 7 (.int (((x2 >>> (0 &&& 31)).toInt8.toInt32).toInt8.toInt32))))) : am_Mt K X m_Stow_addFour 0 0 0 [.ref 128, .int x3] (1311, f) (fun v h' => v = none ∧ h'.1 = 1311 ∧ h'.2 129 = .inl (.byte, 1500, (updV (updV (updV (updV (updV (updV (updV (updV (updV (updV (updV (updV (fun _ => .int 0) 0 (.int (((x1 >>> (24 &&& 31)).toInt8.toInt32).toInt8.toInt32))) 1 (.int (((x1 >>> (16 &&& 31)).toInt8.toInt32).toInt8.toInt32))) 2 (.int (((x1 >>> (8 &&& 31)).toInt8.toInt32).toInt8.toInt32))) 3 (.int (((x1 >>> (0 &&& 31)).toInt8.toInt32).toInt8.toInt32))) 4 (.int (((x2 >>> (24 &&& 31)).toInt8.toInt32).toInt8.toInt32))) 5 (.int (((x2 >>> (16 &&& 31)).toInt8.toInt32).toInt8.toInt32))) 6 (.int (((x2 >>> (8 &&& 31)).toInt8.toInt32).toInt8.toInt32))) 7 (.int (((x2 >>> (0 &&& 31)).toInt8.toInt32).toInt8.toInt32))) 8 (.int (((x3 >>> (24 &&& 31)).toInt8.toInt32).toInt8.toInt32))) 9 (.int (((x3 >>> (16 &&& 31)).toInt8.toInt32).toInt8.toInt32))) 10 (.int (((x3 >>> (8 &&& 31)).toInt8.toInt32).toInt8.toInt32))) 11 (.int (((x3 >>> (0 &&& 31)).toInt8.toInt32).toInt8.toInt32)))) ∧ h'.2 128 = .inr (9, [.ref 129, .int 12, .ref 130, .ref 132, .ref 148, .ref 154, .ref 157, .long 0, .long 0, .int 0]) ∧ ∀ x, x ∉ ([129, 128] : List Nat) → h'.2 x = f x) := by
  refine am_enter (by decide +kernel) (Nat.le_of_ble_eq_true rfl) ?_
  refine am_bipush (v := 24) d_Stow_addFour_0 (by decide) ?_
  refine am_istore_n d_Stow_addFour_2 rfl (by decide) ?_
  refine am_iload_n d_Stow_addFour_3 rfl rfl ?_
  refine am_if_lt (tgt := 46) d_Stow_addFour_4 (by decide) (fun c => absurd c (by decide)) (fun _ => ?_)
  refine am_aload_n d_Stow_addFour_7 rfl rfl ?_
  refine am_get O f_Stow_48 d_Stow_addFour_8 (by exact h_128) (by decide) (by decide) rfl ?_
  refine am_sipush (v := 1500) d_Stow_addFour_11 (by decide) ?_
  refine am_icmp_ge (tgt := 46) d_Stow_addFour_14 (by decide) (fun c => absurd c (by decide)) (fun _ => ?_)
  refine am_aload_n d_Stow_addFour_17 rfl rfl ?_
  refine am_get O f_Stow_9 d_Stow_addFour_18 (by exact h_128) (by decide) (by decide) rfl ?_
  refine am_aload_n d_Stow_addFour_21 rfl rfl ?_
  refine am_get O f_Stow_48 d_Stow_addFour_22 (by exact h_128) (by decide) (by decide) rfl ?_
  refine am_iload_n d_Stow_addFour_25 rfl rfl ?_
  refine am_iload_n d_Stow_addFour_26 rfl rfl ?_
  refine am_ishr d_Stow_addFour_27 ?_
  refine am_i2b d_Stow_addFour_28 rfl ?_
  refine am_bast O (by decide) d_Stow_addFour_29 (by exact h_129) (by decide) (by decide) (am_in (by decide) (by decide)) ?_
  refine am_aload_n d_Stow_addFour_30 rfl rfl ?_
  refine am_dup d_Stow_addFour_31 rfl ?_
  refine am_get O f_Stow_48 d_Stow_addFour_32 (by exact h_128) (by decide) (by decide) rfl ?_
  refine am_iconst (v := 1) d_Stow_addFour_35 (by decide) ?_
  refine am_iadd d_Stow_addFour_36 ?_
  refine am_topi (v := 9) (by decide) ?_
  refine am_put O f_Stow_48 d_Stow_addFour_37 (by exact h_128) (by decide) (by decide) (Nat.le_of_ble_eq_true rfl) (fun q hq => by cases hq; exact ⟨rfl, rfl, rfl⟩) ?_
  refine am_iinc (v := (-8)) d_Stow_addFour_40 rfl (by decide) (by decide) ?_
  refine am_locs (lv' := [(0, .ref 128), (1, .int x3), (2, .int 16)]) rfl ?_
  refine am_goto (tgt := 3) d_Stow_addFour_43 (by decide) ?_
  refine am_iload_n d_Stow_addFour_3 rfl rfl ?_
  refine am_if_lt (tgt := 46) d_Stow_addFour_4 (by decide) (fun c => absurd c (by decide)) (fun _ => ?_)
  refine am_aload_n d_Stow_addFour_7 rfl rfl ?_
  refine am_get O f_Stow_48 d_Stow_addFour_8 (by rfl) (by decide) (by decide) rfl ?_
  refine am_sipush (v := 1500) d_Stow_addFour_11 (by decide) ?_
  refine am_icmp_ge (tgt := 46) d_Stow_addFour_14 (by decide) (fun c => absurd c (by decide)) (fun _ => ?_)
  refine am_aload_n d_Stow_addFour_17 rfl rfl ?_
  refine am_get O f_Stow_9 d_Stow_addFour_18 (by rfl) (by decide) (by decide) rfl ?_
  refine am_aload_n d_Stow_addFour_21 rfl rfl ?_
  refine am_get O f_Stow_48 d_Stow_addFour_22 (by rfl) (by decide) (by decide) rfl ?_
  refine am_iload_n d_Stow_addFour_25 rfl rfl ?_
  refine am_iload_n d_Stow_addFour_26 rfl rfl ?_
  refine am_ishr d_Stow_addFour_27 ?_
  refine am_i2b d_Stow_addFour_28 rfl ?_
  refine am_bast O (by decide) d_Stow_addFour_29 (by rfl) (by decide) (by decide) (am_in (by decide) (by decide)) ?_
  refine am_aload_n d_Stow_addFour_30 rfl rfl ?_
  refine am_dup d_Stow_addFour_31 rfl ?_
  refine am_get O f_Stow_48 d_Stow_addFour_32 (by rfl) (by decide) (by decide) rfl ?_
  refine am_iconst (v := 1) d_Stow_addFour_35 (by decide) ?_
  refine am_iadd d_Stow_addFour_36 ?_
  refine am_topi (v := 10) (by decide) ?_
  refine am_put O f_Stow_48 d_Stow_addFour_37 (by rfl) (by decide) (by decide) (Nat.le_of_ble_eq_true rfl) (fun q hq => by cases hq; exact ⟨rfl, rfl, rfl⟩) ?_
  refine am_iinc (v := (-8)) d_Stow_addFour_40 rfl (by decide) (by decide) ?_
  refine am_locs (lv' := [(0, .ref 128), (1, .int x3), (2, .int 8)]) rfl ?_
  refine am_goto (tgt := 3) d_Stow_addFour_43 (by decide) ?_
  refine am_iload_n d_Stow_addFour_3 rfl rfl ?_
  refine am_if_lt (tgt := 46) d_Stow_addFour_4 (by decide) (fun c => absurd c (by decide)) (fun _ => ?_)
  refine am_aload_n d_Stow_addFour_7 rfl rfl ?_
  refine am_get O f_Stow_48 d_Stow_addFour_8 (by rfl) (by decide) (by decide) rfl ?_
  refine am_sipush (v := 1500) d_Stow_addFour_11 (by decide) ?_
  refine am_icmp_ge (tgt := 46) d_Stow_addFour_14 (by decide) (fun c => absurd c (by decide)) (fun _ => ?_)
  refine am_aload_n d_Stow_addFour_17 rfl rfl ?_
  refine am_get O f_Stow_9 d_Stow_addFour_18 (by rfl) (by decide) (by decide) rfl ?_
  refine am_aload_n d_Stow_addFour_21 rfl rfl ?_
  refine am_get O f_Stow_48 d_Stow_addFour_22 (by rfl) (by decide) (by decide) rfl ?_
  refine am_iload_n d_Stow_addFour_25 rfl rfl ?_
  refine am_iload_n d_Stow_addFour_26 rfl rfl ?_
  refine am_ishr d_Stow_addFour_27 ?_
  refine am_i2b d_Stow_addFour_28 rfl ?_
  refine am_bast O (by decide) d_Stow_addFour_29 (by rfl) (by decide) (by decide) (am_in (by decide) (by decide)) ?_
  refine am_aload_n d_Stow_addFour_30 rfl rfl ?_
  refine am_dup d_Stow_addFour_31 rfl ?_
  refine am_get O f_Stow_48 d_Stow_addFour_32 (by rfl) (by decide) (by decide) rfl ?_
  refine am_iconst (v := 1) d_Stow_addFour_35 (by decide) ?_
  refine am_iadd d_Stow_addFour_36 ?_
  refine am_topi (v := 11) (by decide) ?_
  refine am_put O f_Stow_48 d_Stow_addFour_37 (by rfl) (by decide) (by decide) (Nat.le_of_ble_eq_true rfl) (fun q hq => by cases hq; exact ⟨rfl, rfl, rfl⟩) ?_
  refine am_iinc (v := (-8)) d_Stow_addFour_40 rfl (by decide) (by decide) ?_
  refine am_locs (lv' := [(0, .ref 128), (1, .int x3), (2, .int 0)]) rfl ?_
  refine am_goto (tgt := 3) d_Stow_addFour_43 (by decide) ?_
  refine am_iload_n d_Stow_addFour_3 rfl rfl ?_
  refine am_if_lt (tgt := 46) d_Stow_addFour_4 (by decide) (fun c => absurd c (by decide)) (fun _ => ?_)
  refine am_aload_n d_Stow_addFour_7 rfl rfl ?_
  refine am_get O f_Stow_48 d_Stow_addFour_8 (by rfl) (by decide) (by decide) rfl ?_
  refine am_sipush (v := 1500) d_Stow_addFour_11 (by decide) ?_
  refine am_icmp_ge (tgt := 46) d_Stow_addFour_14 (by decide) (fun c => absurd c (by decide)) (fun _ => ?_)
  refine am_aload_n d_Stow_addFour_17 rfl rfl ?_
  refine am_get O f_Stow_9 d_Stow_addFour_18 (by rfl) (by decide) (by decide) rfl ?_
  refine am_aload_n d_Stow_addFour_21 rfl rfl ?_
  refine am_get O f_Stow_48 d_Stow_addFour_22 (by rfl) (by decide) (by decide) rfl ?_
  refine am_iload_n d_Stow_addFour_25 rfl rfl ?_
  refine am_iload_n d_Stow_addFour_26 rfl rfl ?_
  refine am_ishr d_Stow_addFour_27 ?_
  refine am_i2b d_Stow_addFour_28 rfl ?_
  refine am_bast O (by decide) d_Stow_addFour_29 (by rfl) (by decide) (by decide) (am_in (by decide) (by decide)) ?_
  refine am_aload_n d_Stow_addFour_30 rfl rfl ?_
  refine am_dup d_Stow_addFour_31 rfl ?_
  refine am_get O f_Stow_48 d_Stow_addFour_32 (by rfl) (by decide) (by decide) rfl ?_
  refine am_iconst (v := 1) d_Stow_addFour_35 (by decide) ?_
  refine am_iadd d_Stow_addFour_36 ?_
  refine am_topi (v := 12) (by decide) ?_
  refine am_put O f_Stow_48 d_Stow_addFour_37 (by rfl) (by decide) (by decide) (Nat.le_of_ble_eq_true rfl) (fun q hq => by cases hq; exact ⟨rfl, rfl, rfl⟩) ?_
  refine am_iinc (v := (-8)) d_Stow_addFour_40 rfl (by decide) (by decide) ?_
  refine am_locs (lv' := [(0, .ref 128), (1, .int x3), (2, .int (-8))]) rfl ?_
  refine am_goto (tgt := 3) d_Stow_addFour_43 (by decide) ?_
  refine am_iload_n d_Stow_addFour_3 rfl rfl ?_
  refine am_if_lt (tgt := 46) d_Stow_addFour_4 (by decide) (fun _ => ?_) (fun c => absurd (by decide) c)
  exact am_vret rfl d_Stow_addFour_46 ⟨rfl, rfl, rfl, rfl, fun x hx => by simp only [List.mem_cons, List.not_mem_nil, or_false, not_or] at hx; dsimp only; (repeat (first | rw [va_up_ne _ _ (by omega)]))⟩

set_option maxRecDepth 100000 in
set_option maxHeartbeats 4000000 in
theorem t154_Stow_addFour (O : am_ok K X) {x1 : Int32} {x2 : Int32} {x3 : Int32} {x4 : Int32}  {f : Nat → am_C} (h_128 : f 128 = .inr (9, [.ref 129, .int 12, .ref 130, .ref 132, .ref 148, .ref 154, .ref 157, .long 0, .long 0, .int 0])) (h_129 : f 129 = .inl (.byte, 1500, (updV (updV (updV (updV (updV (updV (updV (updV (updV (updV (updV (updV (fun _ => .int 0) 0 (.int (((x1 >>> (24 &&& 31)).toInt8.toInt32).toInt8.toInt32))) 1 (.int (((x1 >>> (16 &&& 31)).toInt8.toInt32).toInt8.toInt32))) 2 (.int (((x1 >>> (8 &&& 31)).toInt8.toInt32).toInt8.toInt32))) 3 (.int (((x1 >>> (0 &&& 31)).toInt8.toInt32).toInt8.toInt32))) 4 (.int (((x2 >>> (24 &&& 31)).toInt8.toInt32).toInt8.toInt32))) 5 (.int (((x2 >>> (16 &&& 31)).toInt8.toInt32).toInt8.toInt32))) 6 (.int (((x2 >>> (8 &&& 31)).toInt8.toInt32).toInt8.toInt32))) 7 (.int (((x2 >>> (0 &&& 31)).toInt8.toInt32).toInt8.toInt32))) 8 (.int (((x3 >>> (24 &&& 31)).toInt8.toInt32).toInt8.toInt32))) 9 (.int (((x3 >>> (16 &&& 31)).toInt8.toInt32).toInt8.toInt32))) 10 (.int (((x3 >>> (8 &&& 31)).toInt8.toInt32).toInt8.toInt32))) 11 (.int (((x3 >>> (0 &&& 31)).toInt8.toInt32).toInt8.toInt32))))) : am_Mt K X m_Stow_addFour 0 0 0 [.ref 128, .int x4] (1311, f) (fun v h' => v = none ∧ h'.1 = 1311 ∧ h'.2 129 = .inl (.byte, 1500, (updV (updV (updV (updV (updV (updV (updV (updV (updV (updV (updV (updV (updV (updV (updV (updV (fun _ => .int 0) 0 (.int (((x1 >>> (24 &&& 31)).toInt8.toInt32).toInt8.toInt32))) 1 (.int (((x1 >>> (16 &&& 31)).toInt8.toInt32).toInt8.toInt32))) 2 (.int (((x1 >>> (8 &&& 31)).toInt8.toInt32).toInt8.toInt32))) 3 (.int (((x1 >>> (0 &&& 31)).toInt8.toInt32).toInt8.toInt32))) 4 (.int (((x2 >>> (24 &&& 31)).toInt8.toInt32).toInt8.toInt32))) 5 (.int (((x2 >>> (16 &&& 31)).toInt8.toInt32).toInt8.toInt32))) 6 (.int (((x2 >>> (8 &&& 31)).toInt8.toInt32).toInt8.toInt32))) 7 (.int (((x2 >>> (0 &&& 31)).toInt8.toInt32).toInt8.toInt32))) 8 (.int (((x3 >>> (24 &&& 31)).toInt8.toInt32).toInt8.toInt32))) 9 (.int (((x3 >>> (16 &&& 31)).toInt8.toInt32).toInt8.toInt32))) 10 (.int (((x3 >>> (8 &&& 31)).toInt8.toInt32).toInt8.toInt32))) 11 (.int (((x3 >>> (0 &&& 31)).toInt8.toInt32).toInt8.toInt32))) 12 (.int (((x4 >>> (24 &&& 31)).toInt8.toInt32).toInt8.toInt32))) 13 (.int (((x4 >>> (16 &&& 31)).toInt8.toInt32).toInt8.toInt32))) 14 (.int (((x4 >>> (8 &&& 31)).toInt8.toInt32).toInt8.toInt32))) 15 (.int (((x4 >>> (0 &&& 31)).toInt8.toInt32).toInt8.toInt32)))) ∧ h'.2 128 = .inr (9, [.ref 129, .int 16, .ref 130, .ref 132, .ref 148, .ref 154, .ref 157, .long 0, .long 0, .int 0]) ∧ ∀ x, x ∉ ([129, 128] : List Nat) → h'.2 x = f x) := by
  refine am_enter (by decide +kernel) (Nat.le_of_ble_eq_true rfl) ?_
  refine am_bipush (v := 24) d_Stow_addFour_0 (by decide) ?_
  refine am_istore_n d_Stow_addFour_2 rfl (by decide) ?_
  refine am_iload_n d_Stow_addFour_3 rfl rfl ?_
  refine am_if_lt (tgt := 46) d_Stow_addFour_4 (by decide) (fun c => absurd c (by decide)) (fun _ => ?_)
  refine am_aload_n d_Stow_addFour_7 rfl rfl ?_
  refine am_get O f_Stow_48 d_Stow_addFour_8 (by exact h_128) (by decide) (by decide) rfl ?_
  refine am_sipush (v := 1500) d_Stow_addFour_11 (by decide) ?_
  refine am_icmp_ge (tgt := 46) d_Stow_addFour_14 (by decide) (fun c => absurd c (by decide)) (fun _ => ?_)
  refine am_aload_n d_Stow_addFour_17 rfl rfl ?_
  refine am_get O f_Stow_9 d_Stow_addFour_18 (by exact h_128) (by decide) (by decide) rfl ?_
  refine am_aload_n d_Stow_addFour_21 rfl rfl ?_
  refine am_get O f_Stow_48 d_Stow_addFour_22 (by exact h_128) (by decide) (by decide) rfl ?_
  refine am_iload_n d_Stow_addFour_25 rfl rfl ?_
  refine am_iload_n d_Stow_addFour_26 rfl rfl ?_
  refine am_ishr d_Stow_addFour_27 ?_
  refine am_i2b d_Stow_addFour_28 rfl ?_
  refine am_bast O (by decide) d_Stow_addFour_29 (by exact h_129) (by decide) (by decide) (am_in (by decide) (by decide)) ?_
  refine am_aload_n d_Stow_addFour_30 rfl rfl ?_
  refine am_dup d_Stow_addFour_31 rfl ?_
  refine am_get O f_Stow_48 d_Stow_addFour_32 (by exact h_128) (by decide) (by decide) rfl ?_
  refine am_iconst (v := 1) d_Stow_addFour_35 (by decide) ?_
  refine am_iadd d_Stow_addFour_36 ?_
  refine am_topi (v := 13) (by decide) ?_
  refine am_put O f_Stow_48 d_Stow_addFour_37 (by exact h_128) (by decide) (by decide) (Nat.le_of_ble_eq_true rfl) (fun q hq => by cases hq; exact ⟨rfl, rfl, rfl⟩) ?_
  refine am_iinc (v := (-8)) d_Stow_addFour_40 rfl (by decide) (by decide) ?_
  refine am_locs (lv' := [(0, .ref 128), (1, .int x4), (2, .int 16)]) rfl ?_
  refine am_goto (tgt := 3) d_Stow_addFour_43 (by decide) ?_
  refine am_iload_n d_Stow_addFour_3 rfl rfl ?_
  refine am_if_lt (tgt := 46) d_Stow_addFour_4 (by decide) (fun c => absurd c (by decide)) (fun _ => ?_)
  refine am_aload_n d_Stow_addFour_7 rfl rfl ?_
  refine am_get O f_Stow_48 d_Stow_addFour_8 (by rfl) (by decide) (by decide) rfl ?_
  refine am_sipush (v := 1500) d_Stow_addFour_11 (by decide) ?_
  refine am_icmp_ge (tgt := 46) d_Stow_addFour_14 (by decide) (fun c => absurd c (by decide)) (fun _ => ?_)
  refine am_aload_n d_Stow_addFour_17 rfl rfl ?_
  refine am_get O f_Stow_9 d_Stow_addFour_18 (by rfl) (by decide) (by decide) rfl ?_
  refine am_aload_n d_Stow_addFour_21 rfl rfl ?_
  refine am_get O f_Stow_48 d_Stow_addFour_22 (by rfl) (by decide) (by decide) rfl ?_
  refine am_iload_n d_Stow_addFour_25 rfl rfl ?_
  refine am_iload_n d_Stow_addFour_26 rfl rfl ?_
  refine am_ishr d_Stow_addFour_27 ?_
  refine am_i2b d_Stow_addFour_28 rfl ?_
  refine am_bast O (by decide) d_Stow_addFour_29 (by rfl) (by decide) (by decide) (am_in (by decide) (by decide)) ?_
  refine am_aload_n d_Stow_addFour_30 rfl rfl ?_
  refine am_dup d_Stow_addFour_31 rfl ?_
  refine am_get O f_Stow_48 d_Stow_addFour_32 (by rfl) (by decide) (by decide) rfl ?_
  refine am_iconst (v := 1) d_Stow_addFour_35 (by decide) ?_
  refine am_iadd d_Stow_addFour_36 ?_
  refine am_topi (v := 14) (by decide) ?_
  refine am_put O f_Stow_48 d_Stow_addFour_37 (by rfl) (by decide) (by decide) (Nat.le_of_ble_eq_true rfl) (fun q hq => by cases hq; exact ⟨rfl, rfl, rfl⟩) ?_
  refine am_iinc (v := (-8)) d_Stow_addFour_40 rfl (by decide) (by decide) ?_
  refine am_locs (lv' := [(0, .ref 128), (1, .int x4), (2, .int 8)]) rfl ?_
  refine am_goto (tgt := 3) d_Stow_addFour_43 (by decide) ?_
  refine am_iload_n d_Stow_addFour_3 rfl rfl ?_
  refine am_if_lt (tgt := 46) d_Stow_addFour_4 (by decide) (fun c => absurd c (by decide)) (fun _ => ?_)
  refine am_aload_n d_Stow_addFour_7 rfl rfl ?_
  refine am_get O f_Stow_48 d_Stow_addFour_8 (by rfl) (by decide) (by decide) rfl ?_
  refine am_sipush (v := 1500) d_Stow_addFour_11 (by decide) ?_
  refine am_icmp_ge (tgt := 46) d_Stow_addFour_14 (by decide) (fun c => absurd c (by decide)) (fun _ => ?_)
  refine am_aload_n d_Stow_addFour_17 rfl rfl ?_
  refine am_get O f_Stow_9 d_Stow_addFour_18 (by rfl) (by decide) (by decide) rfl ?_
  refine am_aload_n d_Stow_addFour_21 rfl rfl ?_
  refine am_get O f_Stow_48 d_Stow_addFour_22 (by rfl) (by decide) (by decide) rfl ?_
  refine am_iload_n d_Stow_addFour_25 rfl rfl ?_
  refine am_iload_n d_Stow_addFour_26 rfl rfl ?_
  refine am_ishr d_Stow_addFour_27 ?_
  refine am_i2b d_Stow_addFour_28 rfl ?_
  refine am_bast O (by decide) d_Stow_addFour_29 (by rfl) (by decide) (by decide) (am_in (by decide) (by decide)) ?_
  refine am_aload_n d_Stow_addFour_30 rfl rfl ?_
  refine am_dup d_Stow_addFour_31 rfl ?_
  refine am_get O f_Stow_48 d_Stow_addFour_32 (by rfl) (by decide) (by decide) rfl ?_
  refine am_iconst (v := 1) d_Stow_addFour_35 (by decide) ?_
  refine am_iadd d_Stow_addFour_36 ?_
  refine am_topi (v := 15) (by decide) ?_
  refine am_put O f_Stow_48 d_Stow_addFour_37 (by rfl) (by decide) (by decide) (Nat.le_of_ble_eq_true rfl) (fun q hq => by cases hq; exact ⟨rfl, rfl, rfl⟩) ?_
  refine am_iinc (v := (-8)) d_Stow_addFour_40 rfl (by decide) (by decide) ?_
  refine am_locs (lv' := [(0, .ref 128), (1, .int x4), (2, .int 0)]) rfl ?_
  refine am_goto (tgt := 3) d_Stow_addFour_43 (by decide) ?_
  refine am_iload_n d_Stow_addFour_3 rfl rfl ?_
  refine am_if_lt (tgt := 46) d_Stow_addFour_4 (by decide) (fun c => absurd c (by decide)) (fun _ => ?_)
  refine am_aload_n d_Stow_addFour_7 rfl rfl ?_
  refine am_get O f_Stow_48 d_Stow_addFour_8 (by rfl) (by decide) (by decide) rfl ?_
  refine am_sipush (v := 1500) d_Stow_addFour_11 (by decide) ?_
  refine am_icmp_ge (tgt := 46) d_Stow_addFour_14 (by decide) (fun c => absurd c (by decide)) (fun _ => ?_)
  refine am_aload_n d_Stow_addFour_17 rfl rfl ?_
  refine am_get O f_Stow_9 d_Stow_addFour_18 (by rfl) (by decide) (by decide) rfl ?_
  refine am_aload_n d_Stow_addFour_21 rfl rfl ?_
  refine am_get O f_Stow_48 d_Stow_addFour_22 (by rfl) (by decide) (by decide) rfl ?_
  refine am_iload_n d_Stow_addFour_25 rfl rfl ?_
  refine am_iload_n d_Stow_addFour_26 rfl rfl ?_
  refine am_ishr d_Stow_addFour_27 ?_
  refine am_i2b d_Stow_addFour_28 rfl ?_
  refine am_bast O (by decide) d_Stow_addFour_29 (by rfl) (by decide) (by decide) (am_in (by decide) (by decide)) ?_
  refine am_aload_n d_Stow_addFour_30 rfl rfl ?_
  refine am_dup d_Stow_addFour_31 rfl ?_
  refine am_get O f_Stow_48 d_Stow_addFour_32 (by rfl) (by decide) (by decide) rfl ?_
  refine am_iconst (v := 1) d_Stow_addFour_35 (by decide) ?_
  refine am_iadd d_Stow_addFour_36 ?_
  refine am_topi (v := 16) (by decide) ?_
  refine am_put O f_Stow_48 d_Stow_addFour_37 (by rfl) (by decide) (by decide) (Nat.le_of_ble_eq_true rfl) (fun q hq => by cases hq; exact ⟨rfl, rfl, rfl⟩) ?_
  refine am_iinc (v := (-8)) d_Stow_addFour_40 rfl (by decide) (by decide) ?_
  refine am_locs (lv' := [(0, .ref 128), (1, .int x4), (2, .int (-8))]) rfl ?_
  refine am_goto (tgt := 3) d_Stow_addFour_43 (by decide) ?_
  refine am_iload_n d_Stow_addFour_3 rfl rfl ?_
  refine am_if_lt (tgt := 46) d_Stow_addFour_4 (by decide) (fun _ => ?_) (fun c => absurd (by decide) c)
  exact am_vret rfl d_Stow_addFour_46 ⟨rfl, rfl, rfl, rfl, fun x hx => by simp only [List.mem_cons, List.not_mem_nil, or_false, not_or] at hx; dsimp only; (repeat (first | rw [va_up_ne _ _ (by omega)]))⟩

set_option maxRecDepth 100000 in
set_option maxHeartbeats 4000000 in
theorem t155_Stow_addFour (O : am_ok K X) {x1 : Int32} {x2 : Int32} {x3 : Int32} {x4 : Int32} {x5 : Int32}  {f : Nat → am_C} (h_128 : f 128 = .inr (9, [.ref 129, .int 16, .ref 130, .ref 132, .ref 148, .ref 154, .ref 157, .long 0, .long 0, .int 0])) (h_129 : f 129 = .inl (.byte, 1500, (updV (updV (updV (updV (updV (updV (updV (updV (updV (updV (updV (updV (updV (updV (updV (updV (fun _ => .int 0) 0 (.int (((x1 >>> (24 &&& 31)).toInt8.toInt32).toInt8.toInt32))) 1 (.int (((x1 >>> (16 &&& 31)).toInt8.toInt32).toInt8.toInt32))) 2 (.int (((x1 >>> (8 &&& 31)).toInt8.toInt32).toInt8.toInt32))) 3 (.int (((x1 >>> (0 &&& 31)).toInt8.toInt32).toInt8.toInt32))) 4 (.int (((x2 >>> (24 &&& 31)).toInt8.toInt32).toInt8.toInt32))) 5 (.int (((x2 >>> (16 &&& 31)).toInt8.toInt32).toInt8.toInt32))) 6 (.int (((x2 >>> (8 &&& 31)).toInt8.toInt32).toInt8.toInt32))) 7 (.int (((x2 >>> (0 &&& 31)).toInt8.toInt32).toInt8.toInt32))) 8 (.int (((x3 >>> (24 &&& 31)).toInt8.toInt32).toInt8.toInt32))) 9 (.int (((x3 >>> (16 &&& 31)).toInt8.toInt32).toInt8.toInt32))) 10 (.int (((x3 >>> (8 &&& 31)).toInt8.toInt32).toInt8.toInt32))) 11 (.int (((x3 >>> (0 &&& 31)).toInt8.toInt32).toInt8.toInt32))) 12 (.int (((x4 >>> (24 &&& 31)).toInt8.toInt32).toInt8.toInt32))) 13 (.int (((x4 >>> (16 &&& 31)).toInt8.toInt32).toInt8.toInt32))) 14 (.int (((x4 >>> (8 &&& 31)).toInt8.toInt32).toInt8.toInt32))) 15 (.int (((x4 >>> (0 &&& 31)).toInt8.toInt32).toInt8.toInt32))))) : am_Mt K X m_Stow_addFour 0 0 0 [.ref 128, .int x5] (1311, f) (fun v h' => v = none ∧ h'.1 = 1311 ∧ h'.2 129 = .inl (.byte, 1500, (updV (updV (updV (updV (updV (updV (updV (updV (updV (updV (updV (updV (updV (updV (updV (updV (updV (updV (updV (updV (fun _ => .int 0) 0 (.int (((x1 >>> (24 &&& 31)).toInt8.toInt32).toInt8.toInt32))) 1 (.int (((x1 >>> (16 &&& 31)).toInt8.toInt32).toInt8.toInt32))) 2 (.int (((x1 >>> (8 &&& 31)).toInt8.toInt32).toInt8.toInt32))) 3 (.int (((x1 >>> (0 &&& 31)).toInt8.toInt32).toInt8.toInt32))) 4 (.int (((x2 >>> (24 &&& 31)).toInt8.toInt32).toInt8.toInt32))) 5 (.int (((x2 >>> (16 &&& 31)).toInt8.toInt32).toInt8.toInt32))) 6 (.int (((x2 >>> (8 &&& 31)).toInt8.toInt32).toInt8.toInt32))) 7 (.int (((x2 >>> (0 &&& 31)).toInt8.toInt32).toInt8.toInt32))) 8 (.int (((x3 >>> (24 &&& 31)).toInt8.toInt32).toInt8.toInt32))) 9 (.int (((x3 >>> (16 &&& 31)).toInt8.toInt32).toInt8.toInt32))) 10 (.int (((x3 >>> (8 &&& 31)).toInt8.toInt32).toInt8.toInt32))) 11 (.int (((x3 >>> (0 &&& 31)).toInt8.toInt32).toInt8.toInt32))) 12 (.int (((x4 >>> (24 &&& 31)).toInt8.toInt32).toInt8.toInt32))) 13 (.int (((x4 >>> (16 &&& 31)).toInt8.toInt32).toInt8.toInt32))) 14 (.int (((x4 >>> (8 &&& 31)).toInt8.toInt32).toInt8.toInt32))) 15 (.int (((x4 >>> (0 &&& 31)).toInt8.toInt32).toInt8.toInt32))) 16 (.int (((x5 >>> (24 &&& 31)).toInt8.toInt32).toInt8.toInt32))) 17 (.int (((x5 >>> (16 &&& 31)).toInt8.toInt32).toInt8.toInt32))) 18 (.int (((x5 >>> (8 &&& 31)).toInt8.toInt32).toInt8.toInt32))) 19 (.int (((x5 >>> (0 &&& 31)).toInt8.toInt32).toInt8.toInt32)))) ∧ h'.2 128 = .inr (9, [.ref 129, .int 20, .ref 130, .ref 132, .ref 148, .ref 154, .ref 157, .long 0, .long 0, .int 0]) ∧ ∀ x, x ∉ ([129, 128] : List Nat) → h'.2 x = f x) := by
  refine am_enter (by decide +kernel) (Nat.le_of_ble_eq_true rfl) ?_
  refine am_bipush (v := 24) d_Stow_addFour_0 (by decide) ?_
  refine am_istore_n d_Stow_addFour_2 rfl (by decide) ?_
  refine am_iload_n d_Stow_addFour_3 rfl rfl ?_
  refine am_if_lt (tgt := 46) d_Stow_addFour_4 (by decide) (fun c => absurd c (by decide)) (fun _ => ?_)
  refine am_aload_n d_Stow_addFour_7 rfl rfl ?_
  refine am_get O f_Stow_48 d_Stow_addFour_8 (by exact h_128) (by decide) (by decide) rfl ?_
  refine am_sipush (v := 1500) d_Stow_addFour_11 (by decide) ?_
  refine am_icmp_ge (tgt := 46) d_Stow_addFour_14 (by decide) (fun c => absurd c (by decide)) (fun _ => ?_)
  refine am_aload_n d_Stow_addFour_17 rfl rfl ?_
  refine am_get O f_Stow_9 d_Stow_addFour_18 (by exact h_128) (by decide) (by decide) rfl ?_
  refine am_aload_n d_Stow_addFour_21 rfl rfl ?_
  refine am_get O f_Stow_48 d_Stow_addFour_22 (by exact h_128) (by decide) (by decide) rfl ?_
  refine am_iload_n d_Stow_addFour_25 rfl rfl ?_
  refine am_iload_n d_Stow_addFour_26 rfl rfl ?_
  refine am_ishr d_Stow_addFour_27 ?_
  refine am_i2b d_Stow_addFour_28 rfl ?_
  refine am_bast O (by decide) d_Stow_addFour_29 (by exact h_129) (by decide) (by decide) (am_in (by decide) (by decide)) ?_
  refine am_aload_n d_Stow_addFour_30 rfl rfl ?_
  refine am_dup d_Stow_addFour_31 rfl ?_
  refine am_get O f_Stow_48 d_Stow_addFour_32 (by exact h_128) (by decide) (by decide) rfl ?_
  refine am_iconst (v := 1) d_Stow_addFour_35 (by decide) ?_
  refine am_iadd d_Stow_addFour_36 ?_
  refine am_topi (v := 17) (by decide) ?_
  refine am_put O f_Stow_48 d_Stow_addFour_37 (by exact h_128) (by decide) (by decide) (Nat.le_of_ble_eq_true rfl) (fun q hq => by cases hq; exact ⟨rfl, rfl, rfl⟩) ?_
  refine am_iinc (v := (-8)) d_Stow_addFour_40 rfl (by decide) (by decide) ?_
  refine am_locs (lv' := [(0, .ref 128), (1, .int x5), (2, .int 16)]) rfl ?_
  refine am_goto (tgt := 3) d_Stow_addFour_43 (by decide) ?_
  refine am_iload_n d_Stow_addFour_3 rfl rfl ?_
  refine am_if_lt (tgt := 46) d_Stow_addFour_4 (by decide) (fun c => absurd c (by decide)) (fun _ => ?_)
  refine am_aload_n d_Stow_addFour_7 rfl rfl ?_
  refine am_get O f_Stow_48 d_Stow_addFour_8 (by rfl) (by decide) (by decide) rfl ?_
  refine am_sipush (v := 1500) d_Stow_addFour_11 (by decide) ?_
  refine am_icmp_ge (tgt := 46) d_Stow_addFour_14 (by decide) (fun c => absurd c (by decide)) (fun _ => ?_)
  refine am_aload_n d_Stow_addFour_17 rfl rfl ?_
  refine am_get O f_Stow_9 d_Stow_addFour_18 (by rfl) (by decide) (by decide) rfl ?_
  refine am_aload_n d_Stow_addFour_21 rfl rfl ?_
  refine am_get O f_Stow_48 d_Stow_addFour_22 (by rfl) (by decide) (by decide) rfl ?_
  refine am_iload_n d_Stow_addFour_25 rfl rfl ?_
  refine am_iload_n d_Stow_addFour_26 rfl rfl ?_
  refine am_ishr d_Stow_addFour_27 ?_
  refine am_i2b d_Stow_addFour_28 rfl ?_
  refine am_bast O (by decide) d_Stow_addFour_29 (by rfl) (by decide) (by decide) (am_in (by decide) (by decide)) ?_
  refine am_aload_n d_Stow_addFour_30 rfl rfl ?_
  refine am_dup d_Stow_addFour_31 rfl ?_
  refine am_get O f_Stow_48 d_Stow_addFour_32 (by rfl) (by decide) (by decide) rfl ?_
  refine am_iconst (v := 1) d_Stow_addFour_35 (by decide) ?_
  refine am_iadd d_Stow_addFour_36 ?_
  refine am_topi (v := 18) (by decide) ?_
  refine am_put O f_Stow_48 d_Stow_addFour_37 (by rfl) (by decide) (by decide) (Nat.le_of_ble_eq_true rfl) (fun q hq => by cases hq; exact ⟨rfl, rfl, rfl⟩) ?_
  refine am_iinc (v := (-8)) d_Stow_addFour_40 rfl (by decide) (by decide) ?_
  refine am_locs (lv' := [(0, .ref 128), (1, .int x5), (2, .int 8)]) rfl ?_
  refine am_goto (tgt := 3) d_Stow_addFour_43 (by decide) ?_
  refine am_iload_n d_Stow_addFour_3 rfl rfl ?_
  refine am_if_lt (tgt := 46) d_Stow_addFour_4 (by decide) (fun c => absurd c (by decide)) (fun _ => ?_)
  refine am_aload_n d_Stow_addFour_7 rfl rfl ?_
  refine am_get O f_Stow_48 d_Stow_addFour_8 (by rfl) (by decide) (by decide) rfl ?_
  refine am_sipush (v := 1500) d_Stow_addFour_11 (by decide) ?_
  refine am_icmp_ge (tgt := 46) d_Stow_addFour_14 (by decide) (fun c => absurd c (by decide)) (fun _ => ?_)
  refine am_aload_n d_Stow_addFour_17 rfl rfl ?_
  refine am_get O f_Stow_9 d_Stow_addFour_18 (by rfl) (by decide) (by decide) rfl ?_
  refine am_aload_n d_Stow_addFour_21 rfl rfl ?_
  refine am_get O f_Stow_48 d_Stow_addFour_22 (by rfl) (by decide) (by decide) rfl ?_
  refine am_iload_n d_Stow_addFour_25 rfl rfl ?_
  refine am_iload_n d_Stow_addFour_26 rfl rfl ?_
  refine am_ishr d_Stow_addFour_27 ?_
  refine am_i2b d_Stow_addFour_28 rfl ?_
  refine am_bast O (by decide) d_Stow_addFour_29 (by rfl) (by decide) (by decide) (am_in (by decide) (by decide)) ?_
  refine am_aload_n d_Stow_addFour_30 rfl rfl ?_
  refine am_dup d_Stow_addFour_31 rfl ?_
  refine am_get O f_Stow_48 d_Stow_addFour_32 (by rfl) (by decide) (by decide) rfl ?_
  refine am_iconst (v := 1) d_Stow_addFour_35 (by decide) ?_
  refine am_iadd d_Stow_addFour_36 ?_
  refine am_topi (v := 19) (by decide) ?_
  refine am_put O f_Stow_48 d_Stow_addFour_37 (by rfl) (by decide) (by decide) (Nat.le_of_ble_eq_true rfl) (fun q hq => by cases hq; exact ⟨rfl, rfl, rfl⟩) ?_
  refine am_iinc (v := (-8)) d_Stow_addFour_40 rfl (by decide) (by decide) ?_
  refine am_locs (lv' := [(0, .ref 128), (1, .int x5), (2, .int 0)]) rfl ?_
  refine am_goto (tgt := 3) d_Stow_addFour_43 (by decide) ?_
  refine am_iload_n d_Stow_addFour_3 rfl rfl ?_
  refine am_if_lt (tgt := 46) d_Stow_addFour_4 (by decide) (fun c => absurd c (by decide)) (fun _ => ?_)
  refine am_aload_n d_Stow_addFour_7 rfl rfl ?_
  refine am_get O f_Stow_48 d_Stow_addFour_8 (by rfl) (by decide) (by decide) rfl ?_
  refine am_sipush (v := 1500) d_Stow_addFour_11 (by decide) ?_
  refine am_icmp_ge (tgt := 46) d_Stow_addFour_14 (by decide) (fun c => absurd c (by decide)) (fun _ => ?_)
  refine am_aload_n d_Stow_addFour_17 rfl rfl ?_
  refine am_get O f_Stow_9 d_Stow_addFour_18 (by rfl) (by decide) (by decide) rfl ?_
  refine am_aload_n d_Stow_addFour_21 rfl rfl ?_
  refine am_get O f_Stow_48 d_Stow_addFour_22 (by rfl) (by decide) (by decide) rfl ?_
  refine am_iload_n d_Stow_addFour_25 rfl rfl ?_
  refine am_iload_n d_Stow_addFour_26 rfl rfl ?_
  refine am_ishr d_Stow_addFour_27 ?_
  refine am_i2b d_Stow_addFour_28 rfl ?_
  refine am_bast O (by decide) d_Stow_addFour_29 (by rfl) (by decide) (by decide) (am_in (by decide) (by decide)) ?_
  refine am_aload_n d_Stow_addFour_30 rfl rfl ?_
  refine am_dup d_Stow_addFour_31 rfl ?_
  refine am_get O f_Stow_48 d_Stow_addFour_32 (by rfl) (by decide) (by decide) rfl ?_
  refine am_iconst (v := 1) d_Stow_addFour_35 (by decide) ?_
  refine am_iadd d_Stow_addFour_36 ?_
  refine am_topi (v := 20) (by decide) ?_
  refine am_put O f_Stow_48 d_Stow_addFour_37 (by rfl) (by decide) (by decide) (Nat.le_of_ble_eq_true rfl) (fun q hq => by cases hq; exact ⟨rfl, rfl, rfl⟩) ?_
  refine am_iinc (v := (-8)) d_Stow_addFour_40 rfl (by decide) (by decide) ?_
  refine am_locs (lv' := [(0, .ref 128), (1, .int x5), (2, .int (-8))]) rfl ?_
  refine am_goto (tgt := 3) d_Stow_addFour_43 (by decide) ?_
  refine am_iload_n d_Stow_addFour_3 rfl rfl ?_
  refine am_if_lt (tgt := 46) d_Stow_addFour_4 (by decide) (fun _ => ?_) (fun c => absurd (by decide) c)
  exact am_vret rfl d_Stow_addFour_46 ⟨rfl, rfl, rfl, rfl, fun x hx => by simp only [List.mem_cons, List.not_mem_nil, or_false, not_or] at hx; dsimp only; (repeat (first | rw [va_up_ne _ _ (by omega)]))⟩

set_option maxRecDepth 100000 in
set_option maxHeartbeats 4000000 in
theorem a_feed_c (O : am_ok K X) {x1 : Int32} {x2 : Int32} {x3 : Int32} {x4 : Int32} {x5 : Int32}  {f : Nat → am_C} (h_128 : f 128 = .inr (9, [.ref 129, .int 0, .ref 130, .ref 132, .ref 148, .ref 154, .ref 157, .long 0, .long 0, .int 0])) (h_129 : f 129 = .inl (.byte, 1500, (fun _ => .int 0))) : am_Mt K X m_Stow_feed 1 0 0 [.ref 128, .int x1, .int x2, .int x3, .int x4, .int x5] (1311, f) (fun v h' => v = some (.int 20) ∧ h'.1 = 1311 ∧ h'.2 129 = .inl (.byte, 1500, (updV (updV (updV (updV (updV (updV (updV (updV (updV (updV (updV (updV (updV (updV (updV (updV (updV (updV (updV (updV (fun _ => .int 0) 0 (.int (((x1 >>> (24 &&& 31)).toInt8.toInt32).toInt8.toInt32))) 1 (.int (((x1 >>> (16 &&& 31)).toInt8.toInt32).toInt8.toInt32))) 2 (.int (((x1 >>> (8 &&& 31)).toInt8.toInt32).toInt8.toInt32))) 3 (.int (((x1 >>> (0 &&& 31)).toInt8.toInt32).toInt8.toInt32))) 4 (.int (((x2 >>> (24 &&& 31)).toInt8.toInt32).toInt8.toInt32))) 5 (.int (((x2 >>> (16 &&& 31)).toInt8.toInt32).toInt8.toInt32))) 6 (.int (((x2 >>> (8 &&& 31)).toInt8.toInt32).toInt8.toInt32))) 7 (.int (((x2 >>> (0 &&& 31)).toInt8.toInt32).toInt8.toInt32))) 8 (.int (((x3 >>> (24 &&& 31)).toInt8.toInt32).toInt8.toInt32))) 9 (.int (((x3 >>> (16 &&& 31)).toInt8.toInt32).toInt8.toInt32))) 10 (.int (((x3 >>> (8 &&& 31)).toInt8.toInt32).toInt8.toInt32))) 11 (.int (((x3 >>> (0 &&& 31)).toInt8.toInt32).toInt8.toInt32))) 12 (.int (((x4 >>> (24 &&& 31)).toInt8.toInt32).toInt8.toInt32))) 13 (.int (((x4 >>> (16 &&& 31)).toInt8.toInt32).toInt8.toInt32))) 14 (.int (((x4 >>> (8 &&& 31)).toInt8.toInt32).toInt8.toInt32))) 15 (.int (((x4 >>> (0 &&& 31)).toInt8.toInt32).toInt8.toInt32))) 16 (.int (((x5 >>> (24 &&& 31)).toInt8.toInt32).toInt8.toInt32))) 17 (.int (((x5 >>> (16 &&& 31)).toInt8.toInt32).toInt8.toInt32))) 18 (.int (((x5 >>> (8 &&& 31)).toInt8.toInt32).toInt8.toInt32))) 19 (.int (((x5 >>> (0 &&& 31)).toInt8.toInt32).toInt8.toInt32)))) ∧ h'.2 128 = .inr (9, [.ref 129, .int 20, .ref 130, .ref 132, .ref 148, .ref 154, .ref 157, .long 0, .long 0, .int 0]) ∧ ∀ x, x ∉ ([129, 128] : List Nat) → h'.2 x = f x) := by
  refine am_enter (by decide +kernel) (Nat.le_of_ble_eq_true rfl) ?_
  refine am_aload_n d_Stow_feed_0 rfl rfl ?_
  refine am_get O f_Stow_48 d_Stow_feed_1 (by exact h_128) (by decide) (by decide) rfl ?_
  refine am_bipush (v := 20) d_Stow_feed_4 (by decide) ?_
  refine am_iadd d_Stow_feed_6 ?_
  refine am_topi (v := 20) (by decide) ?_
  refine am_sipush (v := 1500) d_Stow_feed_7 (by decide) ?_
  refine am_icmp_le (tgt := 16) d_Stow_feed_10 (by decide) (fun _ => ?_) (fun c => absurd (by decide) c)
  refine am_aload_n d_Stow_feed_16 rfl rfl ?_
  refine am_iload_n d_Stow_feed_17 rfl rfl ?_
  refine am_callV O (t151_Stow_addFour O (by exact h_128) (by exact h_129)) rfl (by exact h_128) (by decide) (by decide) rfl rfl l_Stow_52 ⟨w_532, w_0⟩ rfl (Nat.le_of_ble_eq_true rfl) d_Stow_feed_18 (by omega) (by omega) (by omega) (fun v h' hp => ?_)
  obtain ⟨n1, f1⟩ := h'
  obtain ⟨rfl, e1, g_129_1, g_128_1, fr1⟩ := hp
  obtain rfl : n1 = 1311 := e1
  have fr1 := fun (x : Nat) (hx : x ∉ ([129, 128] : List Nat)) => (show f1 x = _ from fr1 x hx)
  have h_129_1 : f1 129 = .inl (.byte, 1500, (updV (updV (updV (updV (fun _ => .int 0) 0 (.int (((x1 >>> (24 &&& 31)).toInt8.toInt32).toInt8.toInt32))) 1 (.int (((x1 >>> (16 &&& 31)).toInt8.toInt32).toInt8.toInt32))) 2 (.int (((x1 >>> (8 &&& 31)).toInt8.toInt32).toInt8.toInt32))) 3 (.int (((x1 >>> (0 &&& 31)).toInt8.toInt32).toInt8.toInt32)))) := g_129_1
  have h_128_1 : f1 128 = .inr (9, [.ref 129, .int 4, .ref 130, .ref 132, .ref 148, .ref 154, .ref 157, .long 0, .long 0, .int 0]) := g_128_1
  refine am_aload_n d_Stow_feed_21 rfl rfl ?_
  refine am_iload_n d_Stow_feed_22 rfl rfl ?_
  refine am_callV O (t152_Stow_addFour O (by exact h_128_1) (by exact h_129_1)) rfl (by exact h_128_1) (by decide) (by decide) rfl rfl l_Stow_52 ⟨w_532, w_0⟩ rfl (Nat.le_of_ble_eq_true rfl) d_Stow_feed_23 (by omega) (by omega) (by omega) (fun v h' hp => ?_)
  obtain ⟨n2, f2⟩ := h'
  obtain ⟨rfl, e2, g_129_2, g_128_2, fr2⟩ := hp
  obtain rfl : n2 = 1311 := e2
  have fr2 := fun (x : Nat) (hx : x ∉ ([129, 128] : List Nat)) => (show f2 x = _ from fr2 x hx)
  have h_129_2 : f2 129 = .inl (.byte, 1500, (updV (updV (updV (updV (updV (updV (updV (updV (fun _ => .int 0) 0 (.int (((x1 >>> (24 &&& 31)).toInt8.toInt32).toInt8.toInt32))) 1 (.int (((x1 >>> (16 &&& 31)).toInt8.toInt32).toInt8.toInt32))) 2 (.int (((x1 >>> (8 &&& 31)).toInt8.toInt32).toInt8.toInt32))) 3 (.int (((x1 >>> (0 &&& 31)).toInt8.toInt32).toInt8.toInt32))) 4 (.int (((x2 >>> (24 &&& 31)).toInt8.toInt32).toInt8.toInt32))) 5 (.int (((x2 >>> (16 &&& 31)).toInt8.toInt32).toInt8.toInt32))) 6 (.int (((x2 >>> (8 &&& 31)).toInt8.toInt32).toInt8.toInt32))) 7 (.int (((x2 >>> (0 &&& 31)).toInt8.toInt32).toInt8.toInt32)))) := g_129_2
  have h_128_2 : f2 128 = .inr (9, [.ref 129, .int 8, .ref 130, .ref 132, .ref 148, .ref 154, .ref 157, .long 0, .long 0, .int 0]) := g_128_2
  refine am_aload_n d_Stow_feed_26 rfl rfl ?_
  refine am_iload_n d_Stow_feed_27 rfl rfl ?_
  refine am_callV O (t153_Stow_addFour O (by exact h_128_2) (by exact h_129_2)) rfl (by exact h_128_2) (by decide) (by decide) rfl rfl l_Stow_52 ⟨w_532, w_0⟩ rfl (Nat.le_of_ble_eq_true rfl) d_Stow_feed_28 (by omega) (by omega) (by omega) (fun v h' hp => ?_)
  obtain ⟨n3, f3⟩ := h'
  obtain ⟨rfl, e3, g_129_3, g_128_3, fr3⟩ := hp
  obtain rfl : n3 = 1311 := e3
  have fr3 := fun (x : Nat) (hx : x ∉ ([129, 128] : List Nat)) => (show f3 x = _ from fr3 x hx)
  have h_129_3 : f3 129 = .inl (.byte, 1500, (updV (updV (updV (updV (updV (updV (updV (updV (updV (updV (updV (updV (fun _ => .int 0) 0 (.int (((x1 >>> (24 &&& 31)).toInt8.toInt32).toInt8.toInt32))) 1 (.int (((x1 >>> (16 &&& 31)).toInt8.toInt32).toInt8.toInt32))) 2 (.int (((x1 >>> (8 &&& 31)).toInt8.toInt32).toInt8.toInt32))) 3 (.int (((x1 >>> (0 &&& 31)).toInt8.toInt32).toInt8.toInt32))) 4 (.int (((x2 >>> (24 &&& 31)).toInt8.toInt32).toInt8.toInt32))) 5 (.int (((x2 >>> (16 &&& 31)).toInt8.toInt32).toInt8.toInt32))) 6 (.int (((x2 >>> (8 &&& 31)).toInt8.toInt32).toInt8.toInt32))) 7 (.int (((x2 >>> (0 &&& 31)).toInt8.toInt32).toInt8.toInt32))) 8 (.int (((x3 >>> (24 &&& 31)).toInt8.toInt32).toInt8.toInt32))) 9 (.int (((x3 >>> (16 &&& 31)).toInt8.toInt32).toInt8.toInt32))) 10 (.int (((x3 >>> (8 &&& 31)).toInt8.toInt32).toInt8.toInt32))) 11 (.int (((x3 >>> (0 &&& 31)).toInt8.toInt32).toInt8.toInt32)))) := g_129_3
  have h_128_3 : f3 128 = .inr (9, [.ref 129, .int 12, .ref 130, .ref 132, .ref 148, .ref 154, .ref 157, .long 0, .long 0, .int 0]) := g_128_3
  refine am_aload_n d_Stow_feed_31 rfl rfl ?_
  refine am_iload d_Stow_feed_32 rfl ?_
  refine am_callV O (t154_Stow_addFour O (by exact h_128_3) (by exact h_129_3)) rfl (by exact h_128_3) (by decide) (by decide) rfl rfl l_Stow_52 ⟨w_532, w_0⟩ rfl (Nat.le_of_ble_eq_true rfl) d_Stow_feed_34 (by omega) (by omega) (by omega) (fun v h' hp => ?_)
  obtain ⟨n4, f4⟩ := h'
  obtain ⟨rfl, e4, g_129_4, g_128_4, fr4⟩ := hp
  obtain rfl : n4 = 1311 := e4
  have fr4 := fun (x : Nat) (hx : x ∉ ([129, 128] : List Nat)) => (show f4 x = _ from fr4 x hx)
  have h_129_4 : f4 129 = .inl (.byte, 1500, (updV (updV (updV (updV (updV (updV (updV (updV (updV (updV (updV (updV (updV (updV (updV (updV (fun _ => .int 0) 0 (.int (((x1 >>> (24 &&& 31)).toInt8.toInt32).toInt8.toInt32))) 1 (.int (((x1 >>> (16 &&& 31)).toInt8.toInt32).toInt8.toInt32))) 2 (.int (((x1 >>> (8 &&& 31)).toInt8.toInt32).toInt8.toInt32))) 3 (.int (((x1 >>> (0 &&& 31)).toInt8.toInt32).toInt8.toInt32))) 4 (.int (((x2 >>> (24 &&& 31)).toInt8.toInt32).toInt8.toInt32))) 5 (.int (((x2 >>> (16 &&& 31)).toInt8.toInt32).toInt8.toInt32))) 6 (.int (((x2 >>> (8 &&& 31)).toInt8.toInt32).toInt8.toInt32))) 7 (.int (((x2 >>> (0 &&& 31)).toInt8.toInt32).toInt8.toInt32))) 8 (.int (((x3 >>> (24 &&& 31)).toInt8.toInt32).toInt8.toInt32))) 9 (.int (((x3 >>> (16 &&& 31)).toInt8.toInt32).toInt8.toInt32))) 10 (.int (((x3 >>> (8 &&& 31)).toInt8.toInt32).toInt8.toInt32))) 11 (.int (((x3 >>> (0 &&& 31)).toInt8.toInt32).toInt8.toInt32))) 12 (.int (((x4 >>> (24 &&& 31)).toInt8.toInt32).toInt8.toInt32))) 13 (.int (((x4 >>> (16 &&& 31)).toInt8.toInt32).toInt8.toInt32))) 14 (.int (((x4 >>> (8 &&& 31)).toInt8.toInt32).toInt8.toInt32))) 15 (.int (((x4 >>> (0 &&& 31)).toInt8.toInt32).toInt8.toInt32)))) := g_129_4
  have h_128_4 : f4 128 = .inr (9, [.ref 129, .int 16, .ref 130, .ref 132, .ref 148, .ref 154, .ref 157, .long 0, .long 0, .int 0]) := g_128_4
  refine am_aload_n d_Stow_feed_37 rfl rfl ?_
  refine am_iload d_Stow_feed_38 rfl ?_
  refine am_callV O (t155_Stow_addFour O (by exact h_128_4) (by exact h_129_4)) rfl (by exact h_128_4) (by decide) (by decide) rfl rfl l_Stow_52 ⟨w_532, w_0⟩ rfl (Nat.le_of_ble_eq_true rfl) d_Stow_feed_40 (by omega) (by omega) (by omega) (fun v h' hp => ?_)
  obtain ⟨n5, f5⟩ := h'
  obtain ⟨rfl, e5, g_129_5, g_128_5, fr5⟩ := hp
  obtain rfl : n5 = 1311 := e5
  have fr5 := fun (x : Nat) (hx : x ∉ ([129, 128] : List Nat)) => (show f5 x = _ from fr5 x hx)
  have h_129_5 : f5 129 = .inl (.byte, 1500, (updV (updV (updV (updV (updV (updV (updV (updV (updV (updV (updV (updV (updV (updV (updV (updV (updV (updV (updV (updV (fun _ => .int 0) 0 (.int (((x1 >>> (24 &&& 31)).toInt8.toInt32).toInt8.toInt32))) 1 (.int (((x1 >>> (16 &&& 31)).toInt8.toInt32).toInt8.toInt32))) 2 (.int (((x1 >>> (8 &&& 31)).toInt8.toInt32).toInt8.toInt32))) 3 (.int (((x1 >>> (0 &&& 31)).toInt8.toInt32).toInt8.toInt32))) 4 (.int (((x2 >>> (24 &&& 31)).toInt8.toInt32).toInt8.toInt32))) 5 (.int (((x2 >>> (16 &&& 31)).toInt8.toInt32).toInt8.toInt32))) 6 (.int (((x2 >>> (8 &&& 31)).toInt8.toInt32).toInt8.toInt32))) 7 (.int (((x2 >>> (0 &&& 31)).toInt8.toInt32).toInt8.toInt32))) 8 (.int (((x3 >>> (24 &&& 31)).toInt8.toInt32).toInt8.toInt32))) 9 (.int (((x3 >>> (16 &&& 31)).toInt8.toInt32).toInt8.toInt32))) 10 (.int (((x3 >>> (8 &&& 31)).toInt8.toInt32).toInt8.toInt32))) 11 (.int (((x3 >>> (0 &&& 31)).toInt8.toInt32).toInt8.toInt32))) 12 (.int (((x4 >>> (24 &&& 31)).toInt8.toInt32).toInt8.toInt32))) 13 (.int (((x4 >>> (16 &&& 31)).toInt8.toInt32).toInt8.toInt32))) 14 (.int (((x4 >>> (8 &&& 31)).toInt8.toInt32).toInt8.toInt32))) 15 (.int (((x4 >>> (0 &&& 31)).toInt8.toInt32).toInt8.toInt32))) 16 (.int (((x5 >>> (24 &&& 31)).toInt8.toInt32).toInt8.toInt32))) 17 (.int (((x5 >>> (16 &&& 31)).toInt8.toInt32).toInt8.toInt32))) 18 (.int (((x5 >>> (8 &&& 31)).toInt8.toInt32).toInt8.toInt32))) 19 (.int (((x5 >>> (0 &&& 31)).toInt8.toInt32).toInt8.toInt32)))) := g_129_5
  have h_128_5 : f5 128 = .inr (9, [.ref 129, .int 20, .ref 130, .ref 132, .ref 148, .ref 154, .ref 157, .long 0, .long 0, .int 0]) := g_128_5
  refine am_aload_n d_Stow_feed_43 rfl rfl ?_
  refine am_get O f_Stow_48 d_Stow_feed_44 (by exact h_128_5) (by decide) (by decide) rfl ?_
  exact am_iret rfl d_Stow_feed_47 ⟨rfl, rfl, h_129_5, h_128_5, fun x hx => by simp only [List.mem_cons, List.not_mem_nil, or_false, not_or] at hx; dsimp only; (repeat (first | rw [va_up_ne _ _ (by omega)] | rw [fr1 x (by simp only [List.mem_cons, List.not_mem_nil, or_false, not_or]; omega)] | rw [fr2 x (by simp only [List.mem_cons, List.not_mem_nil, or_false, not_or]; omega)] | rw [fr3 x (by simp only [List.mem_cons, List.not_mem_nil, or_false, not_or]; omega)] | rw [fr4 x (by simp only [List.mem_cons, List.not_mem_nil, or_false, not_or]; omega)] | rw [fr5 x (by simp only [List.mem_cons, List.not_mem_nil, or_false, not_or]; omega)]))⟩

set_option maxRecDepth 100000 in
set_option maxHeartbeats 4000000 in
theorem a_feed_m (O : am_ok K X) {x1 : Int32} {x2 : Int32} {x3 : Int32} {x4 : Int32} {x5 : Int32}  {f : Nat → am_C} (h_160 : f 160 = .inr (14, [.ref 161, .ref 162, .int 0, .int 0, .int 0, .int 0, .int 0, .int 0, .int 0, .int 0, .int 0, .long 0, .ref 163, .ref 170, .ref 171, .ref 172, .ref 173, .ref 174, .ref 175, .ref 176, .int 0, .ref 177, .null, .ref 184, .int 0, .int 0, .ref 185, .int 0, .ref 186, .int 0, .ref 187, .ref 204, .ref 221, .ref 238, .int 0, .int 0, .ref 239, .ref 240, .ref 245, .ref 250, .ref 255, .int 0, .int 0, .int 0, .int 0, .int 0, .int 0, .ref 260, .ref 261, .ref 262, .ref 263, .ref 264, .int 0])) (h_161 : f 161 = .inl (.byte, 1500, (fun _ => .int 0))) : am_Mt K X m_Mod_feed 0 1 5 [.ref 160, .int x1, .int x2, .int x3, .int x4, .int x5] (1311, f) (fun v h' => v = some (.int 20) ∧ h'.1 = 1312 ∧ h'.2 1311 = .inl (.int, 5, (updV (updV (updV (updV (updV (fun _ => .int 0) 0 (.int x1)) 1 (.int x2)) 2 (.int x3)) 3 (.int x4)) 4 (.int x5))) ∧ h'.2 161 = .inl (.byte, 1500, (updV (updV (updV (updV (updV (updV (updV (updV (updV (updV (updV (updV (updV (updV (updV (updV (updV (updV (updV (updV (fun _ => .int 0) 0 (.int (((x1 >>> (24 &&& 31)).toInt8.toInt32).toInt8.toInt32))) 1 (.int (((x1 >>> (16 &&& 31)).toInt8.toInt32).toInt8.toInt32))) 2 (.int (((x1 >>> (8 &&& 31)).toInt8.toInt32).toInt8.toInt32))) 3 (.int (((x1 >>> (0 &&& 31)).toInt8.toInt32).toInt8.toInt32))) 4 (.int (((x2 >>> (24 &&& 31)).toInt8.toInt32).toInt8.toInt32))) 5 (.int (((x2 >>> (16 &&& 31)).toInt8.toInt32).toInt8.toInt32))) 6 (.int (((x2 >>> (8 &&& 31)).toInt8.toInt32).toInt8.toInt32))) 7 (.int (((x2 >>> (0 &&& 31)).toInt8.toInt32).toInt8.toInt32))) 8 (.int (((x3 >>> (24 &&& 31)).toInt8.toInt32).toInt8.toInt32))) 9 (.int (((x3 >>> (16 &&& 31)).toInt8.toInt32).toInt8.toInt32))) 10 (.int (((x3 >>> (8 &&& 31)).toInt8.toInt32).toInt8.toInt32))) 11 (.int (((x3 >>> (0 &&& 31)).toInt8.toInt32).toInt8.toInt32))) 12 (.int (((x4 >>> (24 &&& 31)).toInt8.toInt32).toInt8.toInt32))) 13 (.int (((x4 >>> (16 &&& 31)).toInt8.toInt32).toInt8.toInt32))) 14 (.int (((x4 >>> (8 &&& 31)).toInt8.toInt32).toInt8.toInt32))) 15 (.int (((x4 >>> (0 &&& 31)).toInt8.toInt32).toInt8.toInt32))) 16 (.int (((x5 >>> (24 &&& 31)).toInt8.toInt32).toInt8.toInt32))) 17 (.int (((x5 >>> (16 &&& 31)).toInt8.toInt32).toInt8.toInt32))) 18 (.int (((x5 >>> (8 &&& 31)).toInt8.toInt32).toInt8.toInt32))) 19 (.int (((x5 >>> (0 &&& 31)).toInt8.toInt32).toInt8.toInt32)))) ∧ h'.2 160 = .inr (14, [.ref 161, .ref 162, .int 20, .int 0, .int 0, .int 0, .int 0, .int 0, .int 0, .int 0, .int 0, .long 0, .ref 163, .ref 170, .ref 171, .ref 172, .ref 173, .ref 174, .ref 175, .ref 176, .int 0, .ref 177, .null, .ref 184, .int 0, .int 0, .ref 185, .int 0, .ref 186, .int 0, .ref 187, .ref 204, .ref 221, .ref 238, .int 0, .int 0, .ref 239, .ref 240, .ref 245, .ref 250, .ref 255, .int 0, .int 0, .int 0, .int 0, .int 0, .int 0, .ref 260, .ref 261, .ref 262, .ref 263, .ref 264, .int 0]) ∧ ∀ x, x ∉ ([1311, 161, 160] : List Nat) → h'.2 x = f x) := by
  refine am_enter (by decide +kernel) (Nat.le_of_ble_eq_true rfl) ?_
  refine am_aload_n d_Mod_feed_0 rfl rfl ?_
  refine am_get O f_Mod_134 d_Mod_feed_1 (by exact h_160) (by decide) (by decide) rfl ?_
  refine am_bipush (v := 20) d_Mod_feed_4 (by decide) ?_
  refine am_iadd d_Mod_feed_6 ?_
  refine am_topi (v := 20) (by decide) ?_
  refine am_sipush (v := 1500) d_Mod_feed_7 (by decide) ?_
  refine am_icmp_le (tgt := 16) d_Mod_feed_10 (by decide) (fun _ => ?_) (fun c => absurd (by decide) c)
  refine am_iconst (v := 5) d_Mod_feed_16 (by decide) ?_
  refine am_newa (at_ := .int) (ty := .int) (N := 5) O rfl (by decide) w_317 d_Mod_feed_17 (by decide) (by decide) (by decide) (by omega) (by omega) ?_
  refine am_dup d_Mod_feed_19 rfl ?_
  refine am_iconst (v := 0) d_Mod_feed_20 (by decide) ?_
  refine am_iload_n d_Mod_feed_21 rfl rfl ?_
  refine am_iast O (by decide) d_Mod_feed_22 (by rfl) (by decide) (by decide) (am_in (by decide) (by decide)) ?_
  refine am_dup d_Mod_feed_23 rfl ?_
  refine am_iconst (v := 1) d_Mod_feed_24 (by decide) ?_
  refine am_iload_n d_Mod_feed_25 rfl rfl ?_
  refine am_iast O (by decide) d_Mod_feed_26 (by rfl) (by decide) (by decide) (am_in (by decide) (by decide)) ?_
  refine am_dup d_Mod_feed_27 rfl ?_
  refine am_iconst (v := 2) d_Mod_feed_28 (by decide) ?_
  refine am_iload_n d_Mod_feed_29 rfl rfl ?_
  refine am_iast O (by decide) d_Mod_feed_30 (by rfl) (by decide) (by decide) (am_in (by decide) (by decide)) ?_
  refine am_dup d_Mod_feed_31 rfl ?_
  refine am_iconst (v := 3) d_Mod_feed_32 (by decide) ?_
  refine am_iload d_Mod_feed_33 rfl ?_
  refine am_iast O (by decide) d_Mod_feed_35 (by rfl) (by decide) (by decide) (am_in (by decide) (by decide)) ?_
  refine am_dup d_Mod_feed_36 rfl ?_
  refine am_iconst (v := 4) d_Mod_feed_37 (by decide) ?_
  refine am_iload d_Mod_feed_38 rfl ?_
  refine am_iast O (by decide) d_Mod_feed_40 (by rfl) (by decide) (by decide) (am_in (by decide) (by decide)) ?_
  refine am_astore d_Mod_feed_41 (by decide) ?_
  refine am_iconst (v := 0) d_Mod_feed_43 (by decide) ?_
  refine am_istore d_Mod_feed_44 (by decide) ?_
  refine am_iload d_Mod_feed_46 rfl ?_
  refine am_bipush (v := 20) d_Mod_feed_48 (by decide) ?_
  refine am_icmp_ge (tgt := 90) d_Mod_feed_50 (by decide) (fun c => absurd c (by decide)) (fun _ => ?_)
  refine am_aload_n d_Mod_feed_53 rfl rfl ?_
  refine am_get O f_Mod_22 d_Mod_feed_54 (by exact h_160) (by decide) (by decide) rfl ?_
  refine am_aload_n d_Mod_feed_57 rfl rfl ?_
  refine am_get O f_Mod_134 d_Mod_feed_58 (by exact h_160) (by decide) (by decide) rfl ?_
  refine am_iload d_Mod_feed_61 rfl ?_
  refine am_iadd d_Mod_feed_63 ?_
  refine am_topi (v := 0) (by decide) ?_
  refine am_aload d_Mod_feed_64 rfl ?_
  refine am_iload d_Mod_feed_66 rfl ?_
  refine am_iconst (v := 4) d_Mod_feed_68 (by decide) ?_
  refine am_idiv d_Mod_feed_69 (by decide) ?_
  refine am_topi (v := 0) (by decide) ?_
  refine am_iald (v := .int x1) O (by decide) d_Mod_feed_70 (by rfl) (by decide) (by decide) (am_in (by decide) (by decide)) rfl ?_
  refine am_bipush (v := 24) d_Mod_feed_71 (by decide) ?_
  refine am_bipush (v := 8) d_Mod_feed_73 (by decide) ?_
  refine am_iload d_Mod_feed_75 rfl ?_
  refine am_iconst (v := 4) d_Mod_feed_77 (by decide) ?_
  refine am_irem d_Mod_feed_78 (by decide) ?_
  refine am_topi (v := 0) (by decide) ?_
  refine am_imul d_Mod_feed_79 ?_
  refine am_topi (v := 0) (by decide) ?_
  refine am_isub d_Mod_feed_80 ?_
  refine am_topi (v := 24) (by decide) ?_
  refine am_ishr d_Mod_feed_81 ?_
  refine am_i2b d_Mod_feed_82 rfl ?_
  refine am_bast O (by decide) d_Mod_feed_83 (by exact h_161) (by decide) (by decide) (am_in (by decide) (by decide)) ?_
  refine am_iinc (v := 1) d_Mod_feed_84 rfl (by decide) (by decide) ?_
  refine am_locs (lv' := [(0, .ref 160), (1, .int x1), (2, .int x2), (3, .int x3), (4, .int x4), (5, .int x5), (6, .ref 1311), (7, .int 1)]) rfl ?_
  refine am_goto (tgt := 46) d_Mod_feed_87 (by decide) ?_
  refine am_iload d_Mod_feed_46 rfl ?_
  refine am_bipush (v := 20) d_Mod_feed_48 (by decide) ?_
  refine am_icmp_ge (tgt := 90) d_Mod_feed_50 (by decide) (fun c => absurd c (by decide)) (fun _ => ?_)
  refine am_aload_n d_Mod_feed_53 rfl rfl ?_
  refine am_get O f_Mod_22 d_Mod_feed_54 (by exact h_160) (by decide) (by decide) rfl ?_
  refine am_aload_n d_Mod_feed_57 rfl rfl ?_
  refine am_get O f_Mod_134 d_Mod_feed_58 (by exact h_160) (by decide) (by decide) rfl ?_
  refine am_iload d_Mod_feed_61 rfl ?_
  refine am_iadd d_Mod_feed_63 ?_
  refine am_topi (v := 1) (by decide) ?_
  refine am_aload d_Mod_feed_64 rfl ?_
  refine am_iload d_Mod_feed_66 rfl ?_
  refine am_iconst (v := 4) d_Mod_feed_68 (by decide) ?_
  refine am_idiv d_Mod_feed_69 (by decide) ?_
  refine am_topi (v := 0) (by decide) ?_
  refine am_iald (v := .int x1) O (by decide) d_Mod_feed_70 (by rfl) (by decide) (by decide) (am_in (by decide) (by decide)) rfl ?_
  refine am_bipush (v := 24) d_Mod_feed_71 (by decide) ?_
  refine am_bipush (v := 8) d_Mod_feed_73 (by decide) ?_
  refine am_iload d_Mod_feed_75 rfl ?_
  refine am_iconst (v := 4) d_Mod_feed_77 (by decide) ?_
  refine am_irem d_Mod_feed_78 (by decide) ?_
  refine am_topi (v := 1) (by decide) ?_
  refine am_imul d_Mod_feed_79 ?_
  refine am_topi (v := 8) (by decide) ?_
  refine am_isub d_Mod_feed_80 ?_
  refine am_topi (v := 16) (by decide) ?_
  refine am_ishr d_Mod_feed_81 ?_
  refine am_i2b d_Mod_feed_82 rfl ?_
  refine am_bast O (by decide) d_Mod_feed_83 (by rfl) (by decide) (by decide) (am_in (by decide) (by decide)) ?_
  refine am_iinc (v := 1) d_Mod_feed_84 rfl (by decide) (by decide) ?_
  refine am_locs (lv' := [(0, .ref 160), (1, .int x1), (2, .int x2), (3, .int x3), (4, .int x4), (5, .int x5), (6, .ref 1311), (7, .int 2)]) rfl ?_
  refine am_goto (tgt := 46) d_Mod_feed_87 (by decide) ?_
  refine am_iload d_Mod_feed_46 rfl ?_
  refine am_bipush (v := 20) d_Mod_feed_48 (by decide) ?_
  refine am_icmp_ge (tgt := 90) d_Mod_feed_50 (by decide) (fun c => absurd c (by decide)) (fun _ => ?_)
  refine am_aload_n d_Mod_feed_53 rfl rfl ?_
  refine am_get O f_Mod_22 d_Mod_feed_54 (by exact h_160) (by decide) (by decide) rfl ?_
  refine am_aload_n d_Mod_feed_57 rfl rfl ?_
  refine am_get O f_Mod_134 d_Mod_feed_58 (by exact h_160) (by decide) (by decide) rfl ?_
  refine am_iload d_Mod_feed_61 rfl ?_
  refine am_iadd d_Mod_feed_63 ?_
  refine am_topi (v := 2) (by decide) ?_
  refine am_aload d_Mod_feed_64 rfl ?_
  refine am_iload d_Mod_feed_66 rfl ?_
  refine am_iconst (v := 4) d_Mod_feed_68 (by decide) ?_
  refine am_idiv d_Mod_feed_69 (by decide) ?_
  refine am_topi (v := 0) (by decide) ?_
  refine am_iald (v := .int x1) O (by decide) d_Mod_feed_70 (by rfl) (by decide) (by decide) (am_in (by decide) (by decide)) rfl ?_
  refine am_bipush (v := 24) d_Mod_feed_71 (by decide) ?_
  refine am_bipush (v := 8) d_Mod_feed_73 (by decide) ?_
  refine am_iload d_Mod_feed_75 rfl ?_
  refine am_iconst (v := 4) d_Mod_feed_77 (by decide) ?_
  refine am_irem d_Mod_feed_78 (by decide) ?_
  refine am_topi (v := 2) (by decide) ?_
  refine am_imul d_Mod_feed_79 ?_
  refine am_topi (v := 16) (by decide) ?_
  refine am_isub d_Mod_feed_80 ?_
  refine am_topi (v := 8) (by decide) ?_
  refine am_ishr d_Mod_feed_81 ?_
  refine am_i2b d_Mod_feed_82 rfl ?_
  refine am_bast O (by decide) d_Mod_feed_83 (by rfl) (by decide) (by decide) (am_in (by decide) (by decide)) ?_
  refine am_iinc (v := 1) d_Mod_feed_84 rfl (by decide) (by decide) ?_
  refine am_locs (lv' := [(0, .ref 160), (1, .int x1), (2, .int x2), (3, .int x3), (4, .int x4), (5, .int x5), (6, .ref 1311), (7, .int 3)]) rfl ?_
  refine am_goto (tgt := 46) d_Mod_feed_87 (by decide) ?_
  refine am_iload d_Mod_feed_46 rfl ?_
  refine am_bipush (v := 20) d_Mod_feed_48 (by decide) ?_
  refine am_icmp_ge (tgt := 90) d_Mod_feed_50 (by decide) (fun c => absurd c (by decide)) (fun _ => ?_)
  refine am_aload_n d_Mod_feed_53 rfl rfl ?_
  refine am_get O f_Mod_22 d_Mod_feed_54 (by exact h_160) (by decide) (by decide) rfl ?_
  refine am_aload_n d_Mod_feed_57 rfl rfl ?_
  refine am_get O f_Mod_134 d_Mod_feed_58 (by exact h_160) (by decide) (by decide) rfl ?_
  refine am_iload d_Mod_feed_61 rfl ?_
  refine am_iadd d_Mod_feed_63 ?_
  refine am_topi (v := 3) (by decide) ?_
  refine am_aload d_Mod_feed_64 rfl ?_
  refine am_iload d_Mod_feed_66 rfl ?_
  refine am_iconst (v := 4) d_Mod_feed_68 (by decide) ?_
  refine am_idiv d_Mod_feed_69 (by decide) ?_
  refine am_topi (v := 0) (by decide) ?_
  refine am_iald (v := .int x1) O (by decide) d_Mod_feed_70 (by rfl) (by decide) (by decide) (am_in (by decide) (by decide)) rfl ?_
  refine am_bipush (v := 24) d_Mod_feed_71 (by decide) ?_
  refine am_bipush (v := 8) d_Mod_feed_73 (by decide) ?_
  refine am_iload d_Mod_feed_75 rfl ?_
  refine am_iconst (v := 4) d_Mod_feed_77 (by decide) ?_
  refine am_irem d_Mod_feed_78 (by decide) ?_
  refine am_topi (v := 3) (by decide) ?_
  refine am_imul d_Mod_feed_79 ?_
  refine am_topi (v := 24) (by decide) ?_
  refine am_isub d_Mod_feed_80 ?_
  refine am_topi (v := 0) (by decide) ?_
  refine am_ishr d_Mod_feed_81 ?_
  refine am_i2b d_Mod_feed_82 rfl ?_
  refine am_bast O (by decide) d_Mod_feed_83 (by rfl) (by decide) (by decide) (am_in (by decide) (by decide)) ?_
  refine am_iinc (v := 1) d_Mod_feed_84 rfl (by decide) (by decide) ?_
  refine am_locs (lv' := [(0, .ref 160), (1, .int x1), (2, .int x2), (3, .int x3), (4, .int x4), (5, .int x5), (6, .ref 1311), (7, .int 4)]) rfl ?_
  refine am_goto (tgt := 46) d_Mod_feed_87 (by decide) ?_
  refine am_iload d_Mod_feed_46 rfl ?_
  refine am_bipush (v := 20) d_Mod_feed_48 (by decide) ?_
  refine am_icmp_ge (tgt := 90) d_Mod_feed_50 (by decide) (fun c => absurd c (by decide)) (fun _ => ?_)
  refine am_aload_n d_Mod_feed_53 rfl rfl ?_
  refine am_get O f_Mod_22 d_Mod_feed_54 (by exact h_160) (by decide) (by decide) rfl ?_
  refine am_aload_n d_Mod_feed_57 rfl rfl ?_
  refine am_get O f_Mod_134 d_Mod_feed_58 (by exact h_160) (by decide) (by decide) rfl ?_
  refine am_iload d_Mod_feed_61 rfl ?_
  refine am_iadd d_Mod_feed_63 ?_
  refine am_topi (v := 4) (by decide) ?_
  refine am_aload d_Mod_feed_64 rfl ?_
  refine am_iload d_Mod_feed_66 rfl ?_
  refine am_iconst (v := 4) d_Mod_feed_68 (by decide) ?_
  refine am_idiv d_Mod_feed_69 (by decide) ?_
  refine am_topi (v := 1) (by decide) ?_
  refine am_iald (v := .int x2) O (by decide) d_Mod_feed_70 (by rfl) (by decide) (by decide) (am_in (by decide) (by decide)) rfl ?_
  refine am_bipush (v := 24) d_Mod_feed_71 (by decide) ?_
  refine am_bipush (v := 8) d_Mod_feed_73 (by decide) ?_
  refine am_iload d_Mod_feed_75 rfl ?_
  refine am_iconst (v := 4) d_Mod_feed_77 (by decide) ?_
  refine am_irem d_Mod_feed_78 (by decide) ?_
  refine am_topi (v := 0) (by decide) ?_
  refine am_imul d_Mod_feed_79 ?_
  refine am_topi (v := 0) (by decide) ?_
  refine am_isub d_Mod_feed_80 ?_
  refine am_topi (v := 24) (by decide) ?_
  refine am_ishr d_Mod_feed_81 ?_
  refine am_i2b d_Mod_feed_82 rfl ?_
  refine am_bast O (by decide) d_Mod_feed_83 (by rfl) (by decide) (by decide) (am_in (by decide) (by decide)) ?_
  refine am_iinc (v := 1) d_Mod_feed_84 rfl (by decide) (by decide) ?_
  refine am_locs (lv' := [(0, .ref 160), (1, .int x1), (2, .int x2), (3, .int x3), (4, .int x4), (5, .int x5), (6, .ref 1311), (7, .int 5)]) rfl ?_
  refine am_goto (tgt := 46) d_Mod_feed_87 (by decide) ?_
  refine am_iload d_Mod_feed_46 rfl ?_
  refine am_bipush (v := 20) d_Mod_feed_48 (by decide) ?_
  refine am_icmp_ge (tgt := 90) d_Mod_feed_50 (by decide) (fun c => absurd c (by decide)) (fun _ => ?_)
  refine am_aload_n d_Mod_feed_53 rfl rfl ?_
  refine am_get O f_Mod_22 d_Mod_feed_54 (by exact h_160) (by decide) (by decide) rfl ?_
  refine am_aload_n d_Mod_feed_57 rfl rfl ?_
  refine am_get O f_Mod_134 d_Mod_feed_58 (by exact h_160) (by decide) (by decide) rfl ?_
  refine am_iload d_Mod_feed_61 rfl ?_
  refine am_iadd d_Mod_feed_63 ?_
  refine am_topi (v := 5) (by decide) ?_
  refine am_aload d_Mod_feed_64 rfl ?_
  refine am_iload d_Mod_feed_66 rfl ?_
  refine am_iconst (v := 4) d_Mod_feed_68 (by decide) ?_
  refine am_idiv d_Mod_feed_69 (by decide) ?_
  refine am_topi (v := 1) (by decide) ?_
  refine am_iald (v := .int x2) O (by decide) d_Mod_feed_70 (by rfl) (by decide) (by decide) (am_in (by decide) (by decide)) rfl ?_
  refine am_bipush (v := 24) d_Mod_feed_71 (by decide) ?_
  refine am_bipush (v := 8) d_Mod_feed_73 (by decide) ?_
  refine am_iload d_Mod_feed_75 rfl ?_
  refine am_iconst (v := 4) d_Mod_feed_77 (by decide) ?_
  refine am_irem d_Mod_feed_78 (by decide) ?_
  refine am_topi (v := 1) (by decide) ?_
  refine am_imul d_Mod_feed_79 ?_
  refine am_topi (v := 8) (by decide) ?_
  refine am_isub d_Mod_feed_80 ?_
  refine am_topi (v := 16) (by decide) ?_
  refine am_ishr d_Mod_feed_81 ?_
  refine am_i2b d_Mod_feed_82 rfl ?_
  refine am_bast O (by decide) d_Mod_feed_83 (by rfl) (by decide) (by decide) (am_in (by decide) (by decide)) ?_
  refine am_iinc (v := 1) d_Mod_feed_84 rfl (by decide) (by decide) ?_
  refine am_locs (lv' := [(0, .ref 160), (1, .int x1), (2, .int x2), (3, .int x3), (4, .int x4), (5, .int x5), (6, .ref 1311), (7, .int 6)]) rfl ?_
  refine am_goto (tgt := 46) d_Mod_feed_87 (by decide) ?_
  refine am_iload d_Mod_feed_46 rfl ?_
  refine am_bipush (v := 20) d_Mod_feed_48 (by decide) ?_
  refine am_icmp_ge (tgt := 90) d_Mod_feed_50 (by decide) (fun c => absurd c (by decide)) (fun _ => ?_)
  refine am_aload_n d_Mod_feed_53 rfl rfl ?_
  refine am_get O f_Mod_22 d_Mod_feed_54 (by exact h_160) (by decide) (by decide) rfl ?_
  refine am_aload_n d_Mod_feed_57 rfl rfl ?_
  refine am_get O f_Mod_134 d_Mod_feed_58 (by exact h_160) (by decide) (by decide) rfl ?_
  refine am_iload d_Mod_feed_61 rfl ?_
  refine am_iadd d_Mod_feed_63 ?_
  refine am_topi (v := 6) (by decide) ?_
  refine am_aload d_Mod_feed_64 rfl ?_
  refine am_iload d_Mod_feed_66 rfl ?_
  refine am_iconst (v := 4) d_Mod_feed_68 (by decide) ?_
  refine am_idiv d_Mod_feed_69 (by decide) ?_
  refine am_topi (v := 1) (by decide) ?_
  refine am_iald (v := .int x2) O (by decide) d_Mod_feed_70 (by rfl) (by decide) (by decide) (am_in (by decide) (by decide)) rfl ?_
  refine am_bipush (v := 24) d_Mod_feed_71 (by decide) ?_
  refine am_bipush (v := 8) d_Mod_feed_73 (by decide) ?_
  refine am_iload d_Mod_feed_75 rfl ?_
  refine am_iconst (v := 4) d_Mod_feed_77 (by decide) ?_
  refine am_irem d_Mod_feed_78 (by decide) ?_
  refine am_topi (v := 2) (by decide) ?_
  refine am_imul d_Mod_feed_79 ?_
  refine am_topi (v := 16) (by decide) ?_
  refine am_isub d_Mod_feed_80 ?_
  refine am_topi (v := 8) (by decide) ?_
  refine am_ishr d_Mod_feed_81 ?_
  refine am_i2b d_Mod_feed_82 rfl ?_
  refine am_bast O (by decide) d_Mod_feed_83 (by rfl) (by decide) (by decide) (am_in (by decide) (by decide)) ?_
  refine am_iinc (v := 1) d_Mod_feed_84 rfl (by decide) (by decide) ?_
  refine am_locs (lv' := [(0, .ref 160), (1, .int x1), (2, .int x2), (3, .int x3), (4, .int x4), (5, .int x5), (6, .ref 1311), (7, .int 7)]) rfl ?_
  refine am_goto (tgt := 46) d_Mod_feed_87 (by decide) ?_
  refine am_iload d_Mod_feed_46 rfl ?_
  refine am_bipush (v := 20) d_Mod_feed_48 (by decide) ?_
  refine am_icmp_ge (tgt := 90) d_Mod_feed_50 (by decide) (fun c => absurd c (by decide)) (fun _ => ?_)
  refine am_aload_n d_Mod_feed_53 rfl rfl ?_
  refine am_get O f_Mod_22 d_Mod_feed_54 (by exact h_160) (by decide) (by decide) rfl ?_
  refine am_aload_n d_Mod_feed_57 rfl rfl ?_
  refine am_get O f_Mod_134 d_Mod_feed_58 (by exact h_160) (by decide) (by decide) rfl ?_
  refine am_iload d_Mod_feed_61 rfl ?_
  refine am_iadd d_Mod_feed_63 ?_
  refine am_topi (v := 7) (by decide) ?_
  refine am_aload d_Mod_feed_64 rfl ?_
  refine am_iload d_Mod_feed_66 rfl ?_
  refine am_iconst (v := 4) d_Mod_feed_68 (by decide) ?_
  refine am_idiv d_Mod_feed_69 (by decide) ?_
  refine am_topi (v := 1) (by decide) ?_
  refine am_iald (v := .int x2) O (by decide) d_Mod_feed_70 (by rfl) (by decide) (by decide) (am_in (by decide) (by decide)) rfl ?_
  refine am_bipush (v := 24) d_Mod_feed_71 (by decide) ?_
  refine am_bipush (v := 8) d_Mod_feed_73 (by decide) ?_
  refine am_iload d_Mod_feed_75 rfl ?_
  refine am_iconst (v := 4) d_Mod_feed_77 (by decide) ?_
  refine am_irem d_Mod_feed_78 (by decide) ?_
  refine am_topi (v := 3) (by decide) ?_
  refine am_imul d_Mod_feed_79 ?_
  refine am_topi (v := 24) (by decide) ?_
  refine am_isub d_Mod_feed_80 ?_
  refine am_topi (v := 0) (by decide) ?_
  refine am_ishr d_Mod_feed_81 ?_
  refine am_i2b d_Mod_feed_82 rfl ?_
  refine am_bast O (by decide) d_Mod_feed_83 (by rfl) (by decide) (by decide) (am_in (by decide) (by decide)) ?_
  refine am_iinc (v := 1) d_Mod_feed_84 rfl (by decide) (by decide) ?_
  refine am_locs (lv' := [(0, .ref 160), (1, .int x1), (2, .int x2), (3, .int x3), (4, .int x4), (5, .int x5), (6, .ref 1311), (7, .int 8)]) rfl ?_
  refine am_goto (tgt := 46) d_Mod_feed_87 (by decide) ?_
  refine am_iload d_Mod_feed_46 rfl ?_
  refine am_bipush (v := 20) d_Mod_feed_48 (by decide) ?_
  refine am_icmp_ge (tgt := 90) d_Mod_feed_50 (by decide) (fun c => absurd c (by decide)) (fun _ => ?_)
  refine am_aload_n d_Mod_feed_53 rfl rfl ?_
  refine am_get O f_Mod_22 d_Mod_feed_54 (by exact h_160) (by decide) (by decide) rfl ?_
  refine am_aload_n d_Mod_feed_57 rfl rfl ?_
  refine am_get O f_Mod_134 d_Mod_feed_58 (by exact h_160) (by decide) (by decide) rfl ?_
  refine am_iload d_Mod_feed_61 rfl ?_
  refine am_iadd d_Mod_feed_63 ?_
  refine am_topi (v := 8) (by decide) ?_
  refine am_aload d_Mod_feed_64 rfl ?_
  refine am_iload d_Mod_feed_66 rfl ?_
  refine am_iconst (v := 4) d_Mod_feed_68 (by decide) ?_
  refine am_idiv d_Mod_feed_69 (by decide) ?_
  refine am_topi (v := 2) (by decide) ?_
  refine am_iald (v := .int x3) O (by decide) d_Mod_feed_70 (by rfl) (by decide) (by decide) (am_in (by decide) (by decide)) rfl ?_
  refine am_bipush (v := 24) d_Mod_feed_71 (by decide) ?_
  refine am_bipush (v := 8) d_Mod_feed_73 (by decide) ?_
  refine am_iload d_Mod_feed_75 rfl ?_
  refine am_iconst (v := 4) d_Mod_feed_77 (by decide) ?_
  refine am_irem d_Mod_feed_78 (by decide) ?_
  refine am_topi (v := 0) (by decide) ?_
  refine am_imul d_Mod_feed_79 ?_
  refine am_topi (v := 0) (by decide) ?_
  refine am_isub d_Mod_feed_80 ?_
  refine am_topi (v := 24) (by decide) ?_
  refine am_ishr d_Mod_feed_81 ?_
  refine am_i2b d_Mod_feed_82 rfl ?_
  refine am_bast O (by decide) d_Mod_feed_83 (by rfl) (by decide) (by decide) (am_in (by decide) (by decide)) ?_
  refine am_iinc (v := 1) d_Mod_feed_84 rfl (by decide) (by decide) ?_
  refine am_locs (lv' := [(0, .ref 160), (1, .int x1), (2, .int x2), (3, .int x3), (4, .int x4), (5, .int x5), (6, .ref 1311), (7, .int 9)]) rfl ?_
  refine am_goto (tgt := 46) d_Mod_feed_87 (by decide) ?_
  refine am_iload d_Mod_feed_46 rfl ?_
  refine am_bipush (v := 20) d_Mod_feed_48 (by decide) ?_
  refine am_icmp_ge (tgt := 90) d_Mod_feed_50 (by decide) (fun c => absurd c (by decide)) (fun _ => ?_)
  refine am_aload_n d_Mod_feed_53 rfl rfl ?_
  refine am_get O f_Mod_22 d_Mod_feed_54 (by exact h_160) (by decide) (by decide) rfl ?_
  refine am_aload_n d_Mod_feed_57 rfl rfl ?_
  refine am_get O f_Mod_134 d_Mod_feed_58 (by exact h_160) (by decide) (by decide) rfl ?_
  refine am_iload d_Mod_feed_61 rfl ?_
  refine am_iadd d_Mod_feed_63 ?_
  refine am_topi (v := 9) (by decide) ?_
  refine am_aload d_Mod_feed_64 rfl ?_
  refine am_iload d_Mod_feed_66 rfl ?_
  refine am_iconst (v := 4) d_Mod_feed_68 (by decide) ?_
  refine am_idiv d_Mod_feed_69 (by decide) ?_
  refine am_topi (v := 2) (by decide) ?_
  refine am_iald (v := .int x3) O (by decide) d_Mod_feed_70 (by rfl) (by decide) (by decide) (am_in (by decide) (by decide)) rfl ?_
  refine am_bipush (v := 24) d_Mod_feed_71 (by decide) ?_
  refine am_bipush (v := 8) d_Mod_feed_73 (by decide) ?_
  refine am_iload d_Mod_feed_75 rfl ?_
  refine am_iconst (v := 4) d_Mod_feed_77 (by decide) ?_
  refine am_irem d_Mod_feed_78 (by decide) ?_
  refine am_topi (v := 1) (by decide) ?_
  refine am_imul d_Mod_feed_79 ?_
  refine am_topi (v := 8) (by decide) ?_
  refine am_isub d_Mod_feed_80 ?_
  refine am_topi (v := 16) (by decide) ?_
  refine am_ishr d_Mod_feed_81 ?_
  refine am_i2b d_Mod_feed_82 rfl ?_
  refine am_bast O (by decide) d_Mod_feed_83 (by rfl) (by decide) (by decide) (am_in (by decide) (by decide)) ?_
  refine am_iinc (v := 1) d_Mod_feed_84 rfl (by decide) (by decide) ?_
  refine am_locs (lv' := [(0, .ref 160), (1, .int x1), (2, .int x2), (3, .int x3), (4, .int x4), (5, .int x5), (6, .ref 1311), (7, .int 10)]) rfl ?_
  refine am_goto (tgt := 46) d_Mod_feed_87 (by decide) ?_
  refine am_iload d_Mod_feed_46 rfl ?_
  refine am_bipush (v := 20) d_Mod_feed_48 (by decide) ?_
  refine am_icmp_ge (tgt := 90) d_Mod_feed_50 (by decide) (fun c => absurd c (by decide)) (fun _ => ?_)
  refine am_aload_n d_Mod_feed_53 rfl rfl ?_
  refine am_get O f_Mod_22 d_Mod_feed_54 (by exact h_160) (by decide) (by decide) rfl ?_
  refine am_aload_n d_Mod_feed_57 rfl rfl ?_
  refine am_get O f_Mod_134 d_Mod_feed_58 (by exact h_160) (by decide) (by decide) rfl ?_
  refine am_iload d_Mod_feed_61 rfl ?_
  refine am_iadd d_Mod_feed_63 ?_
  refine am_topi (v := 10) (by decide) ?_
  refine am_aload d_Mod_feed_64 rfl ?_
  refine am_iload d_Mod_feed_66 rfl ?_
  refine am_iconst (v := 4) d_Mod_feed_68 (by decide) ?_
  refine am_idiv d_Mod_feed_69 (by decide) ?_
  refine am_topi (v := 2) (by decide) ?_
  refine am_iald (v := .int x3) O (by decide) d_Mod_feed_70 (by rfl) (by decide) (by decide) (am_in (by decide) (by decide)) rfl ?_
  refine am_bipush (v := 24) d_Mod_feed_71 (by decide) ?_
  refine am_bipush (v := 8) d_Mod_feed_73 (by decide) ?_
  refine am_iload d_Mod_feed_75 rfl ?_
  refine am_iconst (v := 4) d_Mod_feed_77 (by decide) ?_
  refine am_irem d_Mod_feed_78 (by decide) ?_
  refine am_topi (v := 2) (by decide) ?_
  refine am_imul d_Mod_feed_79 ?_
  refine am_topi (v := 16) (by decide) ?_
  refine am_isub d_Mod_feed_80 ?_
  refine am_topi (v := 8) (by decide) ?_
  refine am_ishr d_Mod_feed_81 ?_
  refine am_i2b d_Mod_feed_82 rfl ?_
  refine am_bast O (by decide) d_Mod_feed_83 (by rfl) (by decide) (by decide) (am_in (by decide) (by decide)) ?_
  refine am_iinc (v := 1) d_Mod_feed_84 rfl (by decide) (by decide) ?_
  refine am_locs (lv' := [(0, .ref 160), (1, .int x1), (2, .int x2), (3, .int x3), (4, .int x4), (5, .int x5), (6, .ref 1311), (7, .int 11)]) rfl ?_
  refine am_goto (tgt := 46) d_Mod_feed_87 (by decide) ?_
  refine am_iload d_Mod_feed_46 rfl ?_
  refine am_bipush (v := 20) d_Mod_feed_48 (by decide) ?_
  refine am_icmp_ge (tgt := 90) d_Mod_feed_50 (by decide) (fun c => absurd c (by decide)) (fun _ => ?_)
  refine am_aload_n d_Mod_feed_53 rfl rfl ?_
  refine am_get O f_Mod_22 d_Mod_feed_54 (by exact h_160) (by decide) (by decide) rfl ?_
  refine am_aload_n d_Mod_feed_57 rfl rfl ?_
  refine am_get O f_Mod_134 d_Mod_feed_58 (by exact h_160) (by decide) (by decide) rfl ?_
  refine am_iload d_Mod_feed_61 rfl ?_
  refine am_iadd d_Mod_feed_63 ?_
  refine am_topi (v := 11) (by decide) ?_
  refine am_aload d_Mod_feed_64 rfl ?_
  refine am_iload d_Mod_feed_66 rfl ?_
  refine am_iconst (v := 4) d_Mod_feed_68 (by decide) ?_
  refine am_idiv d_Mod_feed_69 (by decide) ?_
  refine am_topi (v := 2) (by decide) ?_
  refine am_iald (v := .int x3) O (by decide) d_Mod_feed_70 (by rfl) (by decide) (by decide) (am_in (by decide) (by decide)) rfl ?_
  refine am_bipush (v := 24) d_Mod_feed_71 (by decide) ?_
  refine am_bipush (v := 8) d_Mod_feed_73 (by decide) ?_
  refine am_iload d_Mod_feed_75 rfl ?_
  refine am_iconst (v := 4) d_Mod_feed_77 (by decide) ?_
  refine am_irem d_Mod_feed_78 (by decide) ?_
  refine am_topi (v := 3) (by decide) ?_
  refine am_imul d_Mod_feed_79 ?_
  refine am_topi (v := 24) (by decide) ?_
  refine am_isub d_Mod_feed_80 ?_
  refine am_topi (v := 0) (by decide) ?_
  refine am_ishr d_Mod_feed_81 ?_
  refine am_i2b d_Mod_feed_82 rfl ?_
  refine am_bast O (by decide) d_Mod_feed_83 (by rfl) (by decide) (by decide) (am_in (by decide) (by decide)) ?_
  refine am_iinc (v := 1) d_Mod_feed_84 rfl (by decide) (by decide) ?_
  refine am_locs (lv' := [(0, .ref 160), (1, .int x1), (2, .int x2), (3, .int x3), (4, .int x4), (5, .int x5), (6, .ref 1311), (7, .int 12)]) rfl ?_
  refine am_goto (tgt := 46) d_Mod_feed_87 (by decide) ?_
  refine am_iload d_Mod_feed_46 rfl ?_
  refine am_bipush (v := 20) d_Mod_feed_48 (by decide) ?_
  refine am_icmp_ge (tgt := 90) d_Mod_feed_50 (by decide) (fun c => absurd c (by decide)) (fun _ => ?_)
  refine am_aload_n d_Mod_feed_53 rfl rfl ?_
  refine am_get O f_Mod_22 d_Mod_feed_54 (by exact h_160) (by decide) (by decide) rfl ?_
  refine am_aload_n d_Mod_feed_57 rfl rfl ?_
  refine am_get O f_Mod_134 d_Mod_feed_58 (by exact h_160) (by decide) (by decide) rfl ?_
  refine am_iload d_Mod_feed_61 rfl ?_
  refine am_iadd d_Mod_feed_63 ?_
  refine am_topi (v := 12) (by decide) ?_
  refine am_aload d_Mod_feed_64 rfl ?_
  refine am_iload d_Mod_feed_66 rfl ?_
  refine am_iconst (v := 4) d_Mod_feed_68 (by decide) ?_
  refine am_idiv d_Mod_feed_69 (by decide) ?_
  refine am_topi (v := 3) (by decide) ?_
  refine am_iald (v := .int x4) O (by decide) d_Mod_feed_70 (by rfl) (by decide) (by decide) (am_in (by decide) (by decide)) rfl ?_
  refine am_bipush (v := 24) d_Mod_feed_71 (by decide) ?_
  refine am_bipush (v := 8) d_Mod_feed_73 (by decide) ?_
  refine am_iload d_Mod_feed_75 rfl ?_
  refine am_iconst (v := 4) d_Mod_feed_77 (by decide) ?_
  refine am_irem d_Mod_feed_78 (by decide) ?_
  refine am_topi (v := 0) (by decide) ?_
  refine am_imul d_Mod_feed_79 ?_
  refine am_topi (v := 0) (by decide) ?_
  refine am_isub d_Mod_feed_80 ?_
  refine am_topi (v := 24) (by decide) ?_
  refine am_ishr d_Mod_feed_81 ?_
  refine am_i2b d_Mod_feed_82 rfl ?_
  refine am_bast O (by decide) d_Mod_feed_83 (by rfl) (by decide) (by decide) (am_in (by decide) (by decide)) ?_
  refine am_iinc (v := 1) d_Mod_feed_84 rfl (by decide) (by decide) ?_
  refine am_locs (lv' := [(0, .ref 160), (1, .int x1), (2, .int x2), (3, .int x3), (4, .int x4), (5, .int x5), (6, .ref 1311), (7, .int 13)]) rfl ?_
  refine am_goto (tgt := 46) d_Mod_feed_87 (by decide) ?_
  refine am_iload d_Mod_feed_46 rfl ?_
  refine am_bipush (v := 20) d_Mod_feed_48 (by decide) ?_
  refine am_icmp_ge (tgt := 90) d_Mod_feed_50 (by decide) (fun c => absurd c (by decide)) (fun _ => ?_)
  refine am_aload_n d_Mod_feed_53 rfl rfl ?_
  refine am_get O f_Mod_22 d_Mod_feed_54 (by exact h_160) (by decide) (by decide) rfl ?_
  refine am_aload_n d_Mod_feed_57 rfl rfl ?_
  refine am_get O f_Mod_134 d_Mod_feed_58 (by exact h_160) (by decide) (by decide) rfl ?_
  refine am_iload d_Mod_feed_61 rfl ?_
  refine am_iadd d_Mod_feed_63 ?_
  refine am_topi (v := 13) (by decide) ?_
  refine am_aload d_Mod_feed_64 rfl ?_
  refine am_iload d_Mod_feed_66 rfl ?_
  refine am_iconst (v := 4) d_Mod_feed_68 (by decide) ?_
  refine am_idiv d_Mod_feed_69 (by decide) ?_
  refine am_topi (v := 3) (by decide) ?_
  refine am_iald (v := .int x4) O (by decide) d_Mod_feed_70 (by rfl) (by decide) (by decide) (am_in (by decide) (by decide)) rfl ?_
  refine am_bipush (v := 24) d_Mod_feed_71 (by decide) ?_
  refine am_bipush (v := 8) d_Mod_feed_73 (by decide) ?_
  refine am_iload d_Mod_feed_75 rfl ?_
  refine am_iconst (v := 4) d_Mod_feed_77 (by decide) ?_
  refine am_irem d_Mod_feed_78 (by decide) ?_
  refine am_topi (v := 1) (by decide) ?_
  refine am_imul d_Mod_feed_79 ?_
  refine am_topi (v := 8) (by decide) ?_
  refine am_isub d_Mod_feed_80 ?_
  refine am_topi (v := 16) (by decide) ?_
  refine am_ishr d_Mod_feed_81 ?_
  refine am_i2b d_Mod_feed_82 rfl ?_
  refine am_bast O (by decide) d_Mod_feed_83 (by rfl) (by decide) (by decide) (am_in (by decide) (by decide)) ?_
  refine am_iinc (v := 1) d_Mod_feed_84 rfl (by decide) (by decide) ?_
  refine am_locs (lv' := [(0, .ref 160), (1, .int x1), (2, .int x2), (3, .int x3), (4, .int x4), (5, .int x5), (6, .ref 1311), (7, .int 14)]) rfl ?_
  refine am_goto (tgt := 46) d_Mod_feed_87 (by decide) ?_
  refine am_iload d_Mod_feed_46 rfl ?_
  refine am_bipush (v := 20) d_Mod_feed_48 (by decide) ?_
  refine am_icmp_ge (tgt := 90) d_Mod_feed_50 (by decide) (fun c => absurd c (by decide)) (fun _ => ?_)
  refine am_aload_n d_Mod_feed_53 rfl rfl ?_
  refine am_get O f_Mod_22 d_Mod_feed_54 (by exact h_160) (by decide) (by decide) rfl ?_
  refine am_aload_n d_Mod_feed_57 rfl rfl ?_
  refine am_get O f_Mod_134 d_Mod_feed_58 (by exact h_160) (by decide) (by decide) rfl ?_
  refine am_iload d_Mod_feed_61 rfl ?_
  refine am_iadd d_Mod_feed_63 ?_
  refine am_topi (v := 14) (by decide) ?_
  refine am_aload d_Mod_feed_64 rfl ?_
  refine am_iload d_Mod_feed_66 rfl ?_
  refine am_iconst (v := 4) d_Mod_feed_68 (by decide) ?_
  refine am_idiv d_Mod_feed_69 (by decide) ?_
  refine am_topi (v := 3) (by decide) ?_
  refine am_iald (v := .int x4) O (by decide) d_Mod_feed_70 (by rfl) (by decide) (by decide) (am_in (by decide) (by decide)) rfl ?_
  refine am_bipush (v := 24) d_Mod_feed_71 (by decide) ?_
  refine am_bipush (v := 8) d_Mod_feed_73 (by decide) ?_
  refine am_iload d_Mod_feed_75 rfl ?_
  refine am_iconst (v := 4) d_Mod_feed_77 (by decide) ?_
  refine am_irem d_Mod_feed_78 (by decide) ?_
  refine am_topi (v := 2) (by decide) ?_
  refine am_imul d_Mod_feed_79 ?_
  refine am_topi (v := 16) (by decide) ?_
  refine am_isub d_Mod_feed_80 ?_
  refine am_topi (v := 8) (by decide) ?_
  refine am_ishr d_Mod_feed_81 ?_
  refine am_i2b d_Mod_feed_82 rfl ?_
  refine am_bast O (by decide) d_Mod_feed_83 (by rfl) (by decide) (by decide) (am_in (by decide) (by decide)) ?_
  refine am_iinc (v := 1) d_Mod_feed_84 rfl (by decide) (by decide) ?_
  refine am_locs (lv' := [(0, .ref 160), (1, .int x1), (2, .int x2), (3, .int x3), (4, .int x4), (5, .int x5), (6, .ref 1311), (7, .int 15)]) rfl ?_
  refine am_goto (tgt := 46) d_Mod_feed_87 (by decide) ?_
  refine am_iload d_Mod_feed_46 rfl ?_
  refine am_bipush (v := 20) d_Mod_feed_48 (by decide) ?_
  refine am_icmp_ge (tgt := 90) d_Mod_feed_50 (by decide) (fun c => absurd c (by decide)) (fun _ => ?_)
  refine am_aload_n d_Mod_feed_53 rfl rfl ?_
  refine am_get O f_Mod_22 d_Mod_feed_54 (by exact h_160) (by decide) (by decide) rfl ?_
  refine am_aload_n d_Mod_feed_57 rfl rfl ?_
  refine am_get O f_Mod_134 d_Mod_feed_58 (by exact h_160) (by decide) (by decide) rfl ?_
  refine am_iload d_Mod_feed_61 rfl ?_
  refine am_iadd d_Mod_feed_63 ?_
  refine am_topi (v := 15) (by decide) ?_
  refine am_aload d_Mod_feed_64 rfl ?_
  refine am_iload d_Mod_feed_66 rfl ?_
  refine am_iconst (v := 4) d_Mod_feed_68 (by decide) ?_
  refine am_idiv d_Mod_feed_69 (by decide) ?_
  refine am_topi (v := 3) (by decide) ?_
  refine am_iald (v := .int x4) O (by decide) d_Mod_feed_70 (by rfl) (by decide) (by decide) (am_in (by decide) (by decide)) rfl ?_
  refine am_bipush (v := 24) d_Mod_feed_71 (by decide) ?_
  refine am_bipush (v := 8) d_Mod_feed_73 (by decide) ?_
  refine am_iload d_Mod_feed_75 rfl ?_
  refine am_iconst (v := 4) d_Mod_feed_77 (by decide) ?_
  refine am_irem d_Mod_feed_78 (by decide) ?_
  refine am_topi (v := 3) (by decide) ?_
  refine am_imul d_Mod_feed_79 ?_
  refine am_topi (v := 24) (by decide) ?_
  refine am_isub d_Mod_feed_80 ?_
  refine am_topi (v := 0) (by decide) ?_
  refine am_ishr d_Mod_feed_81 ?_
  refine am_i2b d_Mod_feed_82 rfl ?_
  refine am_bast O (by decide) d_Mod_feed_83 (by rfl) (by decide) (by decide) (am_in (by decide) (by decide)) ?_
  refine am_iinc (v := 1) d_Mod_feed_84 rfl (by decide) (by decide) ?_
  refine am_locs (lv' := [(0, .ref 160), (1, .int x1), (2, .int x2), (3, .int x3), (4, .int x4), (5, .int x5), (6, .ref 1311), (7, .int 16)]) rfl ?_
  refine am_goto (tgt := 46) d_Mod_feed_87 (by decide) ?_
  refine am_iload d_Mod_feed_46 rfl ?_
  refine am_bipush (v := 20) d_Mod_feed_48 (by decide) ?_
  refine am_icmp_ge (tgt := 90) d_Mod_feed_50 (by decide) (fun c => absurd c (by decide)) (fun _ => ?_)
  refine am_aload_n d_Mod_feed_53 rfl rfl ?_
  refine am_get O f_Mod_22 d_Mod_feed_54 (by exact h_160) (by decide) (by decide) rfl ?_
  refine am_aload_n d_Mod_feed_57 rfl rfl ?_
  refine am_get O f_Mod_134 d_Mod_feed_58 (by exact h_160) (by decide) (by decide) rfl ?_
  refine am_iload d_Mod_feed_61 rfl ?_
  refine am_iadd d_Mod_feed_63 ?_
  refine am_topi (v := 16) (by decide) ?_
  refine am_aload d_Mod_feed_64 rfl ?_
  refine am_iload d_Mod_feed_66 rfl ?_
  refine am_iconst (v := 4) d_Mod_feed_68 (by decide) ?_
  refine am_idiv d_Mod_feed_69 (by decide) ?_
  refine am_topi (v := 4) (by decide) ?_
  refine am_iald (v := .int x5) O (by decide) d_Mod_feed_70 (by rfl) (by decide) (by decide) (am_in (by decide) (by decide)) rfl ?_
  refine am_bipush (v := 24) d_Mod_feed_71 (by decide) ?_
  refine am_bipush (v := 8) d_Mod_feed_73 (by decide) ?_
  refine am_iload d_Mod_feed_75 rfl ?_
  refine am_iconst (v := 4) d_Mod_feed_77 (by decide) ?_
  refine am_irem d_Mod_feed_78 (by decide) ?_
  refine am_topi (v := 0) (by decide) ?_
  refine am_imul d_Mod_feed_79 ?_
  refine am_topi (v := 0) (by decide) ?_
  refine am_isub d_Mod_feed_80 ?_
  refine am_topi (v := 24) (by decide) ?_
  refine am_ishr d_Mod_feed_81 ?_
  refine am_i2b d_Mod_feed_82 rfl ?_
  refine am_bast O (by decide) d_Mod_feed_83 (by rfl) (by decide) (by decide) (am_in (by decide) (by decide)) ?_
  refine am_iinc (v := 1) d_Mod_feed_84 rfl (by decide) (by decide) ?_
  refine am_locs (lv' := [(0, .ref 160), (1, .int x1), (2, .int x2), (3, .int x3), (4, .int x4), (5, .int x5), (6, .ref 1311), (7, .int 17)]) rfl ?_
  refine am_goto (tgt := 46) d_Mod_feed_87 (by decide) ?_
  refine am_iload d_Mod_feed_46 rfl ?_
  refine am_bipush (v := 20) d_Mod_feed_48 (by decide) ?_
  refine am_icmp_ge (tgt := 90) d_Mod_feed_50 (by decide) (fun c => absurd c (by decide)) (fun _ => ?_)
  refine am_aload_n d_Mod_feed_53 rfl rfl ?_
  refine am_get O f_Mod_22 d_Mod_feed_54 (by exact h_160) (by decide) (by decide) rfl ?_
  refine am_aload_n d_Mod_feed_57 rfl rfl ?_
  refine am_get O f_Mod_134 d_Mod_feed_58 (by exact h_160) (by decide) (by decide) rfl ?_
  refine am_iload d_Mod_feed_61 rfl ?_
  refine am_iadd d_Mod_feed_63 ?_
  refine am_topi (v := 17) (by decide) ?_
  refine am_aload d_Mod_feed_64 rfl ?_
  refine am_iload d_Mod_feed_66 rfl ?_
  refine am_iconst (v := 4) d_Mod_feed_68 (by decide) ?_
  refine am_idiv d_Mod_feed_69 (by decide) ?_
  refine am_topi (v := 4) (by decide) ?_
  refine am_iald (v := .int x5) O (by decide) d_Mod_feed_70 (by rfl) (by decide) (by decide) (am_in (by decide) (by decide)) rfl ?_
  refine am_bipush (v := 24) d_Mod_feed_71 (by decide) ?_
  refine am_bipush (v := 8) d_Mod_feed_73 (by decide) ?_
  refine am_iload d_Mod_feed_75 rfl ?_
  refine am_iconst (v := 4) d_Mod_feed_77 (by decide) ?_
  refine am_irem d_Mod_feed_78 (by decide) ?_
  refine am_topi (v := 1) (by decide) ?_
  refine am_imul d_Mod_feed_79 ?_
  refine am_topi (v := 8) (by decide) ?_
  refine am_isub d_Mod_feed_80 ?_
  refine am_topi (v := 16) (by decide) ?_
  refine am_ishr d_Mod_feed_81 ?_
  refine am_i2b d_Mod_feed_82 rfl ?_
  refine am_bast O (by decide) d_Mod_feed_83 (by rfl) (by decide) (by decide) (am_in (by decide) (by decide)) ?_
  refine am_iinc (v := 1) d_Mod_feed_84 rfl (by decide) (by decide) ?_
  refine am_locs (lv' := [(0, .ref 160), (1, .int x1), (2, .int x2), (3, .int x3), (4, .int x4), (5, .int x5), (6, .ref 1311), (7, .int 18)]) rfl ?_
  refine am_goto (tgt := 46) d_Mod_feed_87 (by decide) ?_
  refine am_iload d_Mod_feed_46 rfl ?_
  refine am_bipush (v := 20) d_Mod_feed_48 (by decide) ?_
  refine am_icmp_ge (tgt := 90) d_Mod_feed_50 (by decide) (fun c => absurd c (by decide)) (fun _ => ?_)
  refine am_aload_n d_Mod_feed_53 rfl rfl ?_
  refine am_get O f_Mod_22 d_Mod_feed_54 (by exact h_160) (by decide) (by decide) rfl ?_
  refine am_aload_n d_Mod_feed_57 rfl rfl ?_
  refine am_get O f_Mod_134 d_Mod_feed_58 (by exact h_160) (by decide) (by decide) rfl ?_
  refine am_iload d_Mod_feed_61 rfl ?_
  refine am_iadd d_Mod_feed_63 ?_
  refine am_topi (v := 18) (by decide) ?_
  refine am_aload d_Mod_feed_64 rfl ?_
  refine am_iload d_Mod_feed_66 rfl ?_
  refine am_iconst (v := 4) d_Mod_feed_68 (by decide) ?_
  refine am_idiv d_Mod_feed_69 (by decide) ?_
  refine am_topi (v := 4) (by decide) ?_
  refine am_iald (v := .int x5) O (by decide) d_Mod_feed_70 (by rfl) (by decide) (by decide) (am_in (by decide) (by decide)) rfl ?_
  refine am_bipush (v := 24) d_Mod_feed_71 (by decide) ?_
  refine am_bipush (v := 8) d_Mod_feed_73 (by decide) ?_
  refine am_iload d_Mod_feed_75 rfl ?_
  refine am_iconst (v := 4) d_Mod_feed_77 (by decide) ?_
  refine am_irem d_Mod_feed_78 (by decide) ?_
  refine am_topi (v := 2) (by decide) ?_
  refine am_imul d_Mod_feed_79 ?_
  refine am_topi (v := 16) (by decide) ?_
  refine am_isub d_Mod_feed_80 ?_
  refine am_topi (v := 8) (by decide) ?_
  refine am_ishr d_Mod_feed_81 ?_
  refine am_i2b d_Mod_feed_82 rfl ?_
  refine am_bast O (by decide) d_Mod_feed_83 (by rfl) (by decide) (by decide) (am_in (by decide) (by decide)) ?_
  refine am_iinc (v := 1) d_Mod_feed_84 rfl (by decide) (by decide) ?_
  refine am_locs (lv' := [(0, .ref 160), (1, .int x1), (2, .int x2), (3, .int x3), (4, .int x4), (5, .int x5), (6, .ref 1311), (7, .int 19)]) rfl ?_
  refine am_goto (tgt := 46) d_Mod_feed_87 (by decide) ?_
  refine am_iload d_Mod_feed_46 rfl ?_
  refine am_bipush (v := 20) d_Mod_feed_48 (by decide) ?_
  refine am_icmp_ge (tgt := 90) d_Mod_feed_50 (by decide) (fun c => absurd c (by decide)) (fun _ => ?_)
  refine am_aload_n d_Mod_feed_53 rfl rfl ?_
  refine am_get O f_Mod_22 d_Mod_feed_54 (by exact h_160) (by decide) (by decide) rfl ?_
  refine am_aload_n d_Mod_feed_57 rfl rfl ?_
  refine am_get O f_Mod_134 d_Mod_feed_58 (by exact h_160) (by decide) (by decide) rfl ?_
  refine am_iload d_Mod_feed_61 rfl ?_
  refine am_iadd d_Mod_feed_63 ?_
  refine am_topi (v := 19) (by decide) ?_
  refine am_aload d_Mod_feed_64 rfl ?_
  refine am_iload d_Mod_feed_66 rfl ?_
  refine am_iconst (v := 4) d_Mod_feed_68 (by decide) ?_
  refine am_idiv d_Mod_feed_69 (by decide) ?_
  refine am_topi (v := 4) (by decide) ?_
  refine am_iald (v := .int x5) O (by decide) d_Mod_feed_70 (by rfl) (by decide) (by decide) (am_in (by decide) (by decide)) rfl ?_
  refine am_bipush (v := 24) d_Mod_feed_71 (by decide) ?_
  refine am_bipush (v := 8) d_Mod_feed_73 (by decide) ?_
  refine am_iload d_Mod_feed_75 rfl ?_
  refine am_iconst (v := 4) d_Mod_feed_77 (by decide) ?_
  refine am_irem d_Mod_feed_78 (by decide) ?_
  refine am_topi (v := 3) (by decide) ?_
  refine am_imul d_Mod_feed_79 ?_
  refine am_topi (v := 24) (by decide) ?_
  refine am_isub d_Mod_feed_80 ?_
  refine am_topi (v := 0) (by decide) ?_
  refine am_ishr d_Mod_feed_81 ?_
  refine am_i2b d_Mod_feed_82 rfl ?_
  refine am_bast O (by decide) d_Mod_feed_83 (by rfl) (by decide) (by decide) (am_in (by decide) (by decide)) ?_
  refine am_iinc (v := 1) d_Mod_feed_84 rfl (by decide) (by decide) ?_
  refine am_locs (lv' := [(0, .ref 160), (1, .int x1), (2, .int x2), (3, .int x3), (4, .int x4), (5, .int x5), (6, .ref 1311), (7, .int 20)]) rfl ?_
  refine am_goto (tgt := 46) d_Mod_feed_87 (by decide) ?_
  refine am_iload d_Mod_feed_46 rfl ?_
  refine am_bipush (v := 20) d_Mod_feed_48 (by decide) ?_
  refine am_icmp_ge (tgt := 90) d_Mod_feed_50 (by decide) (fun _ => ?_) (fun c => absurd (by decide) c)
  refine am_aload_n d_Mod_feed_90 rfl rfl ?_
  refine am_dup d_Mod_feed_91 rfl ?_
  refine am_get O f_Mod_134 d_Mod_feed_92 (by exact h_160) (by decide) (by decide) rfl ?_
  refine am_bipush (v := 20) d_Mod_feed_95 (by decide) ?_
  refine am_iadd d_Mod_feed_97 ?_
  refine am_topi (v := 20) (by decide) ?_
  refine am_put O f_Mod_134 d_Mod_feed_98 (by exact h_160) (by decide) (by decide) (Nat.le_of_ble_eq_true rfl) (fun q hq => by cases hq; exact ⟨rfl, rfl, rfl⟩) ?_
  refine am_aload_n d_Mod_feed_101 rfl rfl ?_
  refine am_get O f_Mod_134 d_Mod_feed_102 (by rfl) (by decide) (by decide) rfl ?_
  exact am_iret rfl d_Mod_feed_105 ⟨rfl, rfl, rfl, rfl, rfl, fun x hx => by simp only [List.mem_cons, List.not_mem_nil, or_false, not_or] at hx; dsimp only; (repeat (first | rw [va_up_ne _ _ (by omega)]))⟩
end
