section
variable {K : am_K} {X : Nat → am_C}
set_option maxRecDepth 100000 in
set_option maxHeartbeats 4000000 in
theorem t79_Lexer_skipBlanks (O : am_ok K X)   {f : Nat → am_C} (h_133 : f 133 = .inr (1, [.ref 134, .ref 129, .int 0, .int 0, .int 0, .int 0, .int 0, .int 0, .long 0, .long 0])) : am_Mt K X m_Lexer_skipBlanks 0 0 0 [.ref 133] (1311, f) (fun v h' => v = none ∧ h' = (1311, f)) := by
  refine am_enter (by decide +kernel) (Nat.le_of_ble_eq_true rfl) ?_
  refine am_aload_n d_Lexer_skipBlanks_0 rfl rfl ?_
  refine am_get O f_Lexer_46 d_Lexer_skipBlanks_1 (by exact h_133) (by decide) (by decide) rfl ?_
  refine am_aload_n d_Lexer_skipBlanks_4 rfl rfl ?_
  refine am_get O f_Lexer_43 d_Lexer_skipBlanks_5 (by exact h_133) (by decide) (by decide) rfl ?_
  refine am_icmp_ge (tgt := 46) d_Lexer_skipBlanks_8 (by decide) (fun _ => ?_) (fun c => absurd (by decide) c)
  exact am_vret rfl d_Lexer_skipBlanks_46 ⟨rfl, rfl⟩

set_option maxRecDepth 100000 in
set_option maxHeartbeats 4000000 in
theorem t80_Lexer_byteAt (O : am_ok K X)   {f : Nat → am_C} (h_133 : f 133 = .inr (1, [.ref 134, .ref 129, .int 0, .int 0, .int 0, .int 0, .int 0, .int 0, .long 0, .long 0])) : am_Mt K X m_Lexer_byteAt 0 0 0 [.ref 133, .int 0] (1311, f) (fun v h' => v = some (.int (-1)) ∧ h' = (1311, f)) := by
  refine am_enter (by decide +kernel) (Nat.le_of_ble_eq_true rfl) ?_
  refine am_iload_n d_Lexer_byteAt_0 rfl rfl ?_
  refine am_if_lt (tgt := 25) d_Lexer_byteAt_1 (by decide) (fun c => absurd c (by decide)) (fun _ => ?_)
  refine am_iload_n d_Lexer_byteAt_4 rfl rfl ?_
  refine am_aload_n d_Lexer_byteAt_5 rfl rfl ?_
  refine am_get O f_Lexer_43 d_Lexer_byteAt_6 (by exact h_133) (by decide) (by decide) rfl ?_
  refine am_icmp_ge (tgt := 25) d_Lexer_byteAt_9 (by decide) (fun _ => ?_) (fun c => absurd (by decide) c)
  refine am_iconst (v := (-1)) d_Lexer_byteAt_25 (by decide) ?_
  exact am_iret rfl d_Lexer_byteAt_26 ⟨rfl, rfl⟩

set_option maxRecDepth 100000 in
set_option maxHeartbeats 4000000 in
theorem t81_Lexer_advance (O : am_ok K X)   {f : Nat → am_C} (h_133 : f 133 = .inr (1, [.ref 134, .ref 129, .int 0, .int 0, .int (-1), .int 0, .int 0, .int 0, .long 0, .long 0])) : am_Mt K X m_Lexer_advance 1 0 0 [.ref 133] (1311, f) (fun v h' => v = none ∧ h'.1 = 1311 ∧ h'.2 133 = .inr (1, [.ref 134, .ref 129, .int 0, .int 0, .int 0, .int 0, .int 0, .int 0, .long 0, .long 0]) ∧ ∀ x, x ∉ ([133] : List Nat) → h'.2 x = f x) := by
  refine am_enter (by decide +kernel) (Nat.le_of_ble_eq_true rfl) ?_
  refine am_aload_n d_Lexer_advance_0 rfl rfl ?_
  refine am_dup d_Lexer_advance_1 rfl ?_
  refine am_get O f_Lexer_49 d_Lexer_advance_2 (by exact h_133) (by decide) (by decide) rfl ?_
  refine am_iconst (v := 1) d_Lexer_advance_5 (by decide) ?_
  refine am_iadd d_Lexer_advance_6 ?_
  refine am_topi (v := 0) (by decide) ?_
  refine am_put O f_Lexer_49 d_Lexer_advance_7 (by exact h_133) (by decide) (by decide) (Nat.le_of_ble_eq_true rfl) (fun q hq => by cases hq; exact ⟨rfl, rfl, rfl⟩) ?_
  refine am_aload_n d_Lexer_advance_10 rfl rfl ?_
  refine am_callV O (t79_Lexer_skipBlanks O (by rfl)) rfl (by rfl) (by decide) (by decide) rfl rfl l_Lexer_55 ⟨w_559, w_1⟩ rfl (Nat.le_of_ble_eq_true rfl) d_Lexer_advance_11 (by omega) (by omega) (by omega) (fun v h' hp => ?_)
  obtain ⟨rfl, rfl⟩ := hp
  refine am_aload_n d_Lexer_advance_14 rfl rfl ?_
  refine am_aload_n d_Lexer_advance_15 rfl rfl ?_
  refine am_get O f_Lexer_46 d_Lexer_advance_16 (by rfl) (by decide) (by decide) rfl ?_
  refine am_put O f_Lexer_58 d_Lexer_advance_19 (by rfl) (by decide) (by decide) (Nat.le_of_ble_eq_true rfl) (fun q hq => by cases hq; exact ⟨rfl, rfl, rfl⟩) ?_
  refine am_aload_n d_Lexer_advance_22 rfl rfl ?_
  refine am_aload_n d_Lexer_advance_23 rfl rfl ?_
  refine am_get O f_Lexer_46 d_Lexer_advance_24 (by rfl) (by decide) (by decide) rfl ?_
  refine am_callV O (t80_Lexer_byteAt O (by rfl)) rfl (by rfl) (by decide) (by decide) rfl rfl l_Lexer_61 ⟨w_563, w_2⟩ rfl (Nat.le_of_ble_eq_true rfl) d_Lexer_advance_27 (by omega) (by omega) (by omega) (fun v h' hp => ?_)
  obtain ⟨rfl, rfl⟩ := hp
  refine am_istore_n d_Lexer_advance_30 rfl (by decide) ?_
  refine am_iload_n d_Lexer_advance_31 rfl rfl ?_
  refine am_if_ge (tgt := 43) d_Lexer_advance_32 (by decide) (fun c => absurd c (by decide)) (fun _ => ?_)
  refine am_aload_n d_Lexer_advance_35 rfl rfl ?_
  refine am_iconst (v := 0) d_Lexer_advance_36 (by decide) ?_
  refine am_put O f_Lexer_65 d_Lexer_advance_37 (by rfl) (by decide) (by decide) (Nat.le_of_ble_eq_true rfl) (fun q hq => by cases hq; exact ⟨rfl, rfl, rfl⟩) ?_
  refine am_goto (tgt := 89) d_Lexer_advance_40 (by decide) ?_
  exact am_vret rfl d_Lexer_advance_89 ⟨rfl, rfl, rfl, fun x hx => by simp only [List.mem_cons, List.not_mem_nil, or_false, not_or] at hx; dsimp only; (repeat (first | rw [va_up_ne _ _ (by omega)]))⟩

set_option maxRecDepth 100000 in
set_option maxHeartbeats 4000000 in
theorem t82_Lexer_begin (O : am_ok K X)   {f : Nat → am_C} (h_129 : f 129 = .inl (.byte, 1500, (fun _ => .int 0))) (h_133 : f 133 = .inr (1, [.ref 134, .ref 135, .int 0, .int 0, .int 0, .int 0, .int 0, .int 0, .long 0, .long 0])) : am_Mt K X m_Lexer_begin 2 0 0 [.ref 133, .ref 129, .int 0] (1311, f) (fun v h' => v = none ∧ h'.1 = 1311 ∧ h'.2 133 = .inr (1, [.ref 134, .ref 129, .int 0, .int 0, .int 0, .int 0, .int 0, .int 0, .long 0, .long 0]) ∧ ∀ x, x ∉ ([133] : List Nat) → h'.2 x = f x) := by
  refine am_enter (by decide +kernel) (Nat.le_of_ble_eq_true rfl) ?_
  refine am_aload_n d_Lexer_begin_0 rfl rfl ?_
  refine am_aload_n d_Lexer_begin_1 rfl rfl ?_
  refine am_put O f_Lexer_15 d_Lexer_begin_2 (by exact h_133) (by decide) (by decide) (Nat.le_of_ble_eq_true rfl) (fun q hq => by cases hq; exact ⟨rfl, rfl, rfl⟩) ?_
  refine am_aload_n d_Lexer_begin_5 rfl rfl ?_
  refine am_iload_n d_Lexer_begin_6 rfl rfl ?_
  refine am_aload_n d_Lexer_begin_7 rfl rfl ?_
  refine am_alen (v := 1500) O d_Lexer_begin_8 (by exact h_129) (by decide) (by decide) (by decide) (by decide) ?_
  refine am_mmin w_550 w_551 w_164 w_552 d_Lexer_begin_9 (Nat.le_of_ble_eq_true rfl) (by omega) ?_
  refine am_topi (v := 0) (by decide) ?_
  refine am_put O f_Lexer_43 d_Lexer_begin_12 (by rfl) (by decide) (by decide) (Nat.le_of_ble_eq_true rfl) (fun q hq => by cases hq; exact ⟨rfl, rfl, rfl⟩) ?_
  refine am_aload_n d_Lexer_begin_15 rfl rfl ?_
  refine am_iconst (v := 0) d_Lexer_begin_16 (by decide) ?_
  refine am_put O f_Lexer_46 d_Lexer_begin_17 (by rfl) (by decide) (by decide) (Nat.le_of_ble_eq_true rfl) (fun q hq => by cases hq; exact ⟨rfl, rfl, rfl⟩) ?_
  refine am_aload_n d_Lexer_begin_20 rfl rfl ?_
  refine am_iconst (v := (-1)) d_Lexer_begin_21 (by decide) ?_
  refine am_put O f_Lexer_49 d_Lexer_begin_22 (by rfl) (by decide) (by decide) (Nat.le_of_ble_eq_true rfl) (fun q hq => by cases hq; exact ⟨rfl, rfl, rfl⟩) ?_
  refine am_aload_n d_Lexer_begin_25 rfl rfl ?_
  refine am_callV O (t81_Lexer_advance O (by rfl)) rfl (by rfl) (by decide) (by decide) rfl rfl l_Lexer_52 ⟨w_554, w_555⟩ rfl (Nat.le_of_ble_eq_true rfl) d_Lexer_begin_26 (by omega) (by omega) (by omega) (fun v h' hp => ?_)
  obtain ⟨n1, f1⟩ := h'
  obtain ⟨rfl, e1, g_133_1, fr1⟩ := hp
  obtain rfl : n1 = 1311 := e1
  have fr1 := fun (x : Nat) (hx : x ∉ ([133] : List Nat)) => (show f1 x = _ from fr1 x hx)
  have h_133_1 : f1 133 = .inr (1, [.ref 134, .ref 129, .int 0, .int 0, .int 0, .int 0, .int 0, .int 0, .long 0, .long 0]) := g_133_1
  exact am_vret rfl d_Lexer_begin_29 ⟨rfl, rfl, h_133_1, fun x hx => by simp only [List.mem_cons, List.not_mem_nil, or_false, not_or] at hx; dsimp only; (repeat (first | rw [va_up_ne _ _ (by omega)] | rw [fr1 x (by simp only [List.mem_cons, List.not_mem_nil, or_false, not_or]; omega)]))⟩

set_option maxRecDepth 100000 in
set_option maxHeartbeats 4000000 in
theorem t83_AL_clear (O : am_ok K X)   {f : Nat → am_C} (h_144 : f 144 = .inr (3, [.ref 1, .int 0, .int 0])) : am_Mt K X m_AL_clear 0 0 0 [.ref 144] (1311, f) (fun v h' => v = none ∧ h'.1 = 1311 ∧ h'.2 144 = .inr (3, [.ref 1, .int 0, .int 1]) ∧ ∀ x, x ∉ ([144] : List Nat) → h'.2 x = f x) := by
  refine am_enter (by decide +kernel) (Nat.le_of_ble_eq_true rfl) ?_
  refine am_aload_n d_AL_clear_0 rfl rfl ?_
  refine am_dup d_AL_clear_1 rfl ?_
  refine am_getS O fS_AL_63 d_AL_clear_2 (by exact h_144) (by decide) (by decide) rfl ?_
  refine am_iconst (v := 1) d_AL_clear_5 (by decide) ?_
  refine am_iadd d_AL_clear_6 ?_
  refine am_topi (v := 1) (by decide) ?_
  refine am_putS O fS_AL_63 d_AL_clear_7 (by exact h_144) (by decide) (by decide) (Nat.le_of_ble_eq_true rfl) (fun q hq => by cases hq; exact ⟨rfl, rfl, rfl⟩) ?_
  refine am_aload_n d_AL_clear_10 rfl rfl ?_
  refine am_get O f_AL_9 d_AL_clear_11 (by rfl) (by decide) (by decide) rfl ?_
  refine am_astore_n d_AL_clear_14 rfl (by decide) ?_
  refine am_aload_n d_AL_clear_15 rfl rfl ?_
  refine am_get O f_AL_48 d_AL_clear_16 (by rfl) (by decide) (by decide) rfl ?_
  refine am_istore_n d_AL_clear_19 rfl (by decide) ?_
  refine am_aload_n d_AL_clear_20 rfl rfl ?_
  refine am_iconst (v := 0) d_AL_clear_21 (by decide) ?_
  refine am_dup_x1 d_AL_clear_22 rfl rfl ?_
  refine am_put O f_AL_48 d_AL_clear_23 (by rfl) (by decide) (by decide) (Nat.le_of_ble_eq_true rfl) (fun q hq => by cases hq; exact ⟨rfl, rfl, rfl⟩) ?_
  refine am_istore_n d_AL_clear_26 rfl (by decide) ?_
  refine am_iload_n d_AL_clear_27 rfl rfl ?_
  refine am_iload_n d_AL_clear_28 rfl rfl ?_
  refine am_icmp_ge (tgt := 42) d_AL_clear_29 (by decide) (fun _ => ?_) (fun c => absurd (by decide) c)
  exact am_vret rfl d_AL_clear_42 ⟨rfl, rfl, rfl, fun x hx => by simp only [List.mem_cons, List.not_mem_nil, or_false, not_or] at hx; dsimp only; (repeat (first | rw [va_up_ne _ _ (by omega)]))⟩

set_option maxRecDepth 100000 in
set_option maxHeartbeats 4000000 in
theorem t84_Draft_clear (O : am_ok K X)   {f : Nat → am_C} (h_136 : f 136 = .inr (2, [.ref 137, .int 0, .ref 138, .int 0, .ref 139, .int 0])) : am_Mt K X m_Draft_clear 0 0 0 [.ref 136] (1311, f) (fun v h' => v = none ∧ h'.1 = 1311 ∧ h'.2 136 = .inr (2, [.ref 137, .int 0, .ref 138, .int 0, .ref 139, .int 0]) ∧ ∀ x, x ∉ ([136] : List Nat) → h'.2 x = f x) := by
  refine am_enter (by decide +kernel) (Nat.le_of_ble_eq_true rfl) ?_
  refine am_aload_n d_Draft_clear_0 rfl rfl ?_
  refine am_iconst (v := 0) d_Draft_clear_1 (by decide) ?_
  refine am_put O f_Draft_20 d_Draft_clear_2 (by exact h_136) (by decide) (by decide) (Nat.le_of_ble_eq_true rfl) (fun q hq => by cases hq; exact ⟨rfl, rfl, rfl⟩) ?_
  refine am_aload_n d_Draft_clear_5 rfl rfl ?_
  refine am_iconst (v := 0) d_Draft_clear_6 (by decide) ?_
  refine am_put O f_Draft_24 d_Draft_clear_7 (by rfl) (by decide) (by decide) (Nat.le_of_ble_eq_true rfl) (fun q hq => by cases hq; exact ⟨rfl, rfl, rfl⟩) ?_
  refine am_aload_n d_Draft_clear_10 rfl rfl ?_
  refine am_iconst (v := 0) d_Draft_clear_11 (by decide) ?_
  refine am_put O f_Draft_27 d_Draft_clear_12 (by rfl) (by decide) (by decide) (Nat.le_of_ble_eq_true rfl) (fun q hq => by cases hq; exact ⟨rfl, rfl, rfl⟩) ?_
  exact am_vret rfl d_Draft_clear_15 ⟨rfl, rfl, rfl, fun x hx => by simp only [List.mem_cons, List.not_mem_nil, or_false, not_or] at hx; dsimp only; (repeat (first | rw [va_up_ne _ _ (by omega)]))⟩

set_option maxRecDepth 100000 in
set_option maxHeartbeats 4000000 in
theorem t85_Lexer_kind (O : am_ok K X)   {f : Nat → am_C} (h_133 : f 133 = .inr (1, [.ref 134, .ref 129, .int 0, .int 0, .int 0, .int 0, .int 0, .int 0, .long 0, .long 0])) : am_Mt K X m_Lexer_kind 0 0 0 [.ref 133] (1311, f) (fun v h' => v = some (.int 0) ∧ h' = (1311, f)) := by
  refine am_enter (by decide +kernel) (Nat.le_of_ble_eq_true rfl) ?_
  refine am_aload_n d_Lexer_kind_0 rfl rfl ?_
  refine am_get O f_Lexer_65 d_Lexer_kind_1 (by exact h_133) (by decide) (by decide) rfl ?_
  exact am_iret rfl d_Lexer_kind_4 ⟨rfl, rfl⟩

set_option maxRecDepth 100000 in
set_option maxHeartbeats 4000000 in
theorem t86_Draft_add (O : am_ok K X)   {f : Nat → am_C} (h_136 : f 136 = .inr (2, [.ref 137, .int 0, .ref 138, .int 0, .ref 139, .int 0])) (h_137 : f 137 = .inl (.int, 128, (fun _ => .int 0))) : am_Mt K X m_Draft_add 0 0 0 [.ref 136, .int 10, .int 0] (1311, f) (fun v h' => v = none ∧ h'.1 = 1311 ∧ h'.2 137 = .inl (.int, 128, (updV (updV (fun _ => .int 0) 0 (.int 10)) 1 (.int 0))) ∧ h'.2 136 = .inr (2, [.ref 137, .int 2, .ref 138, .int 0, .ref 139, .int 0]) ∧ ∀ x, x ∉ ([137, 136] : List Nat) → h'.2 x = f x) := by
  refine am_enter (by decide +kernel) (Nat.le_of_ble_eq_true rfl) ?_
  refine am_aload_n d_Draft_add_0 rfl rfl ?_
  refine am_get O f_Draft_20 d_Draft_add_1 (by exact h_136) (by decide) (by decide) rfl ?_
  refine am_iconst (v := 2) d_Draft_add_4 (by decide) ?_
  refine am_iadd d_Draft_add_5 ?_
  refine am_topi (v := 2) (by decide) ?_
  refine am_aload_n d_Draft_add_6 rfl rfl ?_
  refine am_get O f_Draft_7 d_Draft_add_7 (by exact h_136) (by decide) (by decide) rfl ?_
  refine am_alen (v := 128) O d_Draft_add_10 (by exact h_137) (by decide) (by decide) (by decide) (by decide) ?_
  refine am_icmp_le (tgt := 32) d_Draft_add_11 (by decide) (fun _ => ?_) (fun c => absurd (by decide) c)
  refine am_aload_n d_Draft_add_32 rfl rfl ?_
  refine am_get O f_Draft_7 d_Draft_add_33 (by exact h_136) (by decide) (by decide) rfl ?_
  refine am_aload_n d_Draft_add_36 rfl rfl ?_
  refine am_get O f_Draft_20 d_Draft_add_37 (by exact h_136) (by decide) (by decide) rfl ?_
  refine am_iload_n d_Draft_add_40 rfl rfl ?_
  refine am_iast O (by decide) d_Draft_add_41 (by exact h_137) (by decide) (by decide) (am_in (by decide) (by decide)) ?_
  refine am_aload_n d_Draft_add_42 rfl rfl ?_
  refine am_get O f_Draft_7 d_Draft_add_43 (by exact h_136) (by decide) (by decide) rfl ?_
  refine am_aload_n d_Draft_add_46 rfl rfl ?_
  refine am_get O f_Draft_20 d_Draft_add_47 (by exact h_136) (by decide) (by decide) rfl ?_
  refine am_iconst (v := 1) d_Draft_add_50 (by decide) ?_
  refine am_iadd d_Draft_add_51 ?_
  refine am_topi (v := 1) (by decide) ?_
  refine am_iload_n d_Draft_add_52 rfl rfl ?_
  refine am_iast O (by decide) d_Draft_add_53 (by rfl) (by decide) (by decide) (am_in (by decide) (by decide)) ?_
  refine am_aload_n d_Draft_add_54 rfl rfl ?_
  refine am_dup d_Draft_add_55 rfl ?_
  refine am_get O f_Draft_20 d_Draft_add_56 (by exact h_136) (by decide) (by decide) rfl ?_
  refine am_iconst (v := 2) d_Draft_add_59 (by decide) ?_
  refine am_iadd d_Draft_add_60 ?_
  refine am_topi (v := 2) (by decide) ?_
  refine am_put O f_Draft_20 d_Draft_add_61 (by exact h_136) (by decide) (by decide) (Nat.le_of_ble_eq_true rfl) (fun q hq => by cases hq; exact ⟨rfl, rfl, rfl⟩) ?_
  exact am_vret rfl d_Draft_add_64 ⟨rfl, rfl, rfl, rfl, fun x hx => by simp only [List.mem_cons, List.not_mem_nil, or_false, not_or] at hx; dsimp only; (repeat (first | rw [va_up_ne _ _ (by omega)]))⟩

set_option maxRecDepth 100000 in
set_option maxHeartbeats 4000000 in
theorem t87_Draft_add (O : am_ok K X)   {f : Nat → am_C} (h_136 : f 136 = .inr (2, [.ref 137, .int 2, .ref 138, .int 0, .ref 139, .int 0])) (h_137 : f 137 = .inl (.int, 128, (updV (updV (fun _ => .int 0) 0 (.int 10)) 1 (.int 0)))) : am_Mt K X m_Draft_add 0 0 0 [.ref 136, .int 6, .int 0] (1311, f) (fun v h' => v = none ∧ h'.1 = 1311 ∧ h'.2 137 = .inl (.int, 128, (updV (updV (updV (updV (fun _ => .int 0) 0 (.int 10)) 1 (.int 0)) 2 (.int 6)) 3 (.int 0))) ∧ h'.2 136 = .inr (2, [.ref 137, .int 4, .ref 138, .int 0, .ref 139, .int 0]) ∧ ∀ x, x ∉ ([137, 136] : List Nat) → h'.2 x = f x) := by
  refine am_enter (by decide +kernel) (Nat.le_of_ble_eq_true rfl) ?_
  refine am_aload_n d_Draft_add_0 rfl rfl ?_
  refine am_get O f_Draft_20 d_Draft_add_1 (by exact h_136) (by decide) (by decide) rfl ?_
  refine am_iconst (v := 2) d_Draft_add_4 (by decide) ?_
  refine am_iadd d_Draft_add_5 ?_
  refine am_topi (v := 4) (by decide) ?_
  refine am_aload_n d_Draft_add_6 rfl rfl ?_
  refine am_get O f_Draft_7 d_Draft_add_7 (by exact h_136) (by decide) (by decide) rfl ?_
  refine am_alen (v := 128) O d_Draft_add_10 (by exact h_137) (by decide) (by decide) (by decide) (by decide) ?_
  refine am_icmp_le (tgt := 32) d_Draft_add_11 (by decide) (fun _ => ?_) (fun c => absurd (by decide) c)
  refine am_aload_n d_Draft_add_32 rfl rfl ?_
  refine am_get O f_Draft_7 d_Draft_add_33 (by exact h_136) (by decide) (by decide) rfl ?_
  refine am_aload_n d_Draft_add_36 rfl rfl ?_
  refine am_get O f_Draft_20 d_Draft_add_37 (by exact h_136) (by decide) (by decide) rfl ?_
  refine am_iload_n d_Draft_add_40 rfl rfl ?_
  refine am_iast O (by decide) d_Draft_add_41 (by exact h_137) (by decide) (by decide) (am_in (by decide) (by decide)) ?_
  refine am_aload_n d_Draft_add_42 rfl rfl ?_
  refine am_get O f_Draft_7 d_Draft_add_43 (by exact h_136) (by decide) (by decide) rfl ?_
  refine am_aload_n d_Draft_add_46 rfl rfl ?_
  refine am_get O f_Draft_20 d_Draft_add_47 (by exact h_136) (by decide) (by decide) rfl ?_
  refine am_iconst (v := 1) d_Draft_add_50 (by decide) ?_
  refine am_iadd d_Draft_add_51 ?_
  refine am_topi (v := 3) (by decide) ?_
  refine am_iload_n d_Draft_add_52 rfl rfl ?_
  refine am_iast O (by decide) d_Draft_add_53 (by rfl) (by decide) (by decide) (am_in (by decide) (by decide)) ?_
  refine am_aload_n d_Draft_add_54 rfl rfl ?_
  refine am_dup d_Draft_add_55 rfl ?_
  refine am_get O f_Draft_20 d_Draft_add_56 (by exact h_136) (by decide) (by decide) rfl ?_
  refine am_iconst (v := 2) d_Draft_add_59 (by decide) ?_
  refine am_iadd d_Draft_add_60 ?_
  refine am_topi (v := 4) (by decide) ?_
  refine am_put O f_Draft_20 d_Draft_add_61 (by exact h_136) (by decide) (by decide) (Nat.le_of_ble_eq_true rfl) (fun q hq => by cases hq; exact ⟨rfl, rfl, rfl⟩) ?_
  exact am_vret rfl d_Draft_add_64 ⟨rfl, rfl, rfl, rfl, fun x hx => by simp only [List.mem_cons, List.not_mem_nil, or_false, not_or] at hx; dsimp only; (repeat (first | rw [va_up_ne _ _ (by omega)]))⟩

set_option maxRecDepth 100000 in
set_option maxHeartbeats 4000000 in
theorem t88_Arr_copyOf_aII (O : am_ok K X)   {f : Nat → am_C} (h_137 : f 137 = .inl (.int, 128, (updV (updV (updV (updV (fun _ => .int 0) 0 (.int 10)) 1 (.int 0)) 2 (.int 6)) 3 (.int 0)))) : am_Mt K X m_Arr_copyOf_aII 1 1 4 [.ref 137, .int 4] (1312, f) (fun v h' => v = some (.ref 1312) ∧ h'.1 = 1313 ∧ h'.2 1312 = .inl (.int, 4, (va_cpy (updV (updV (updV (updV (fun _ => .int 0) 0 (.int 10)) 1 (.int 0)) 2 (.int 6)) 3 (.int 0)) (fun _ => .int 0) 0 0 4)) ∧ ∀ x, x ∉ ([1312] : List Nat) → h'.2 x = f x) := by
  refine am_enter (by decide +kernel) (Nat.le_of_ble_eq_true rfl) ?_
  refine am_iload_n d_Arr_copyOf_aII_0 rfl rfl ?_
  refine am_aload_n d_Arr_copyOf_aII_1 rfl rfl ?_
  refine am_alen (v := 128) O d_Arr_copyOf_aII_2 (by exact h_137) (by decide) (by decide) (by decide) (by decide) ?_
  refine am_icmp_ne (tgt := 14) d_Arr_copyOf_aII_3 (by decide) (fun _ => ?_) (fun c => absurd c (by decide))
  refine am_iload_n d_Arr_copyOf_aII_14 rfl rfl ?_
  refine am_newa (at_ := .int) (ty := .int) (N := 4) O rfl (by decide) w_317 d_Arr_copyOf_aII_15 (by decide) (by decide) (by decide) (by omega) (by omega) ?_
  refine am_astore_n d_Arr_copyOf_aII_17 rfl (by decide) ?_
  refine am_aload_n d_Arr_copyOf_aII_18 rfl rfl ?_
  refine am_iconst (v := 0) d_Arr_copyOf_aII_19 (by decide) ?_
  refine am_aload_n d_Arr_copyOf_aII_20 rfl rfl ?_
  refine am_iconst (v := 0) d_Arr_copyOf_aII_21 (by decide) ?_
  refine am_aload_n d_Arr_copyOf_aII_22 rfl rfl ?_
  refine am_alen (v := 128) O d_Arr_copyOf_aII_23 (by exact h_137) (by decide) (by decide) (by decide) (by decide) ?_
  refine am_iload_n d_Arr_copyOf_aII_24 rfl rfl ?_
  refine am_mmin w_732 w_551 w_164 w_552 d_Arr_copyOf_aII_25 (Nat.le_of_ble_eq_true rfl) (by omega) ?_
  refine am_topi (v := 4) (by decide) ?_
  refine am_copy (P := 0) (Q := 0) (N := 4) O w_733 w_735 w_734 w_167 d_Arr_copyOf_aII_28 (by exact h_137) (by decide) (by decide) (by rfl) (by decide) (by decide) (by decide) (by decide) (by decide) (by decide) (by decide) (by decide) (by decide) (by decide) (by decide) (by decide) (fun i hi => by refine ⟨?_, fun r h => ?_⟩ <;> first | rfl | cases h | (dsimp only; rw [if_pos (by omega)]; rfl) | (dsimp only at h; rw [if_pos (by omega)] at h; cases h) | (simp [va_cpy, fits]; done) | (simp [va_cpy] at h; done) | (simp only [updV]; (repeat' split) <;> rfl) | (simp only [updV] at h; (repeat' (split at h)) <;> cases h)) (Nat.le_of_ble_eq_true rfl) (by omega) ?_
  refine am_aload_n d_Arr_copyOf_aII_31 rfl rfl ?_
  exact am_aret rfl (Or.inr ⟨_, rfl⟩) d_Arr_copyOf_aII_32 ⟨rfl, rfl, rfl, fun x hx => by simp only [List.mem_cons, List.not_mem_nil, or_false, not_or] at hx; dsimp only; (repeat (first | rw [va_up_ne _ _ (by omega)]))⟩

set_option maxRecDepth 100000 in
set_option maxHeartbeats 4000000 in
theorem t89_Arr_copyOf_aJI (O : am_ok K X)   {f : Nat → am_C} (h_138 : f 138 = .inl (.long, 32, (fun _ => .long 0))) : am_Mt K X m_Arr_copyOf_aJI 1 1 0 [.ref 138, .int 0] (1313, f) (fun v h' => v = some (.ref 1313) ∧ h'.1 = 1314 ∧ h'.2 1313 = .inl (.long, 0, (va_cpy (fun _ => .long 0) (fun _ => .long 0) 0 0 0)) ∧ ∀ x, x ∉ ([1313] : List Nat) → h'.2 x = f x) := by
  refine am_enter (by decide +kernel) (Nat.le_of_ble_eq_true rfl) ?_
  refine am_iload_n d_Arr_copyOf_aJI_0 rfl rfl ?_
  refine am_aload_n d_Arr_copyOf_aJI_1 rfl rfl ?_
  refine am_alen (v := 32) O d_Arr_copyOf_aJI_2 (by exact h_138) (by decide) (by decide) (by decide) (by decide) ?_
  refine am_icmp_ne (tgt := 14) d_Arr_copyOf_aJI_3 (by decide) (fun _ => ?_) (fun c => absurd c (by decide))
  refine am_iload_n d_Arr_copyOf_aJI_14 rfl rfl ?_
  refine am_newa (at_ := .long) (ty := .long) (N := 0) O rfl (by decide) w_291 d_Arr_copyOf_aJI_15 (by decide) (by decide) (by decide) (by omega) (by omega) ?_
  refine am_astore_n d_Arr_copyOf_aJI_17 rfl (by decide) ?_
  refine am_aload_n d_Arr_copyOf_aJI_18 rfl rfl ?_
  refine am_iconst (v := 0) d_Arr_copyOf_aJI_19 (by decide) ?_
  refine am_aload_n d_Arr_copyOf_aJI_20 rfl rfl ?_
  refine am_iconst (v := 0) d_Arr_copyOf_aJI_21 (by decide) ?_
  refine am_aload_n d_Arr_copyOf_aJI_22 rfl rfl ?_
  refine am_alen (v := 32) O d_Arr_copyOf_aJI_23 (by exact h_138) (by decide) (by decide) (by decide) (by decide) ?_
  refine am_iload_n d_Arr_copyOf_aJI_24 rfl rfl ?_
  refine am_mmin w_732 w_551 w_164 w_552 d_Arr_copyOf_aJI_25 (Nat.le_of_ble_eq_true rfl) (by omega) ?_
  refine am_topi (v := 0) (by decide) ?_
  refine am_copy (P := 0) (Q := 0) (N := 0) O w_733 w_735 w_734 w_167 d_Arr_copyOf_aJI_28 (by exact h_138) (by decide) (by decide) (by rfl) (by decide) (by decide) (by decide) (by decide) (by decide) (by decide) (by decide) (by decide) (by decide) (by decide) (by decide) (by decide) (fun i hi => by refine ⟨?_, fun r h => ?_⟩ <;> first | rfl | cases h | (dsimp only; rw [if_pos (by omega)]; rfl) | (dsimp only at h; rw [if_pos (by omega)] at h; cases h) | (simp [va_cpy, fits]; done) | (simp [va_cpy] at h; done) | (simp only [updV]; (repeat' split) <;> rfl) | (simp only [updV] at h; (repeat' (split at h)) <;> cases h)) (Nat.le_of_ble_eq_true rfl) (by omega) ?_
  refine am_aload_n d_Arr_copyOf_aJI_31 rfl rfl ?_
  exact am_aret rfl (Or.inr ⟨_, rfl⟩) d_Arr_copyOf_aJI_32 ⟨rfl, rfl, rfl, fun x hx => by simp only [List.mem_cons, List.not_mem_nil, or_false, not_or] at hx; dsimp only; (repeat (first | rw [va_up_ne _ _ (by omega)]))⟩

set_option maxRecDepth 100000 in
set_option maxHeartbeats 4000000 in
theorem t90_Unit_init (O : am_ok K X)   {f : Nat → am_C} (h_1311 : f 1311 = .inr (4, [.long 0, .int 0, .int 0, .int 0, .null, .null])) : am_Mt K X m_Unit_init 1 0 0 [.ref 1311, .long 0, .int 0, .int 0, .int 0, .ref 1312, .ref 1313] (1314, f) (fun v h' => v = none ∧ h'.1 = 1314 ∧ h'.2 1311 = .inr (4, [.long 0, .int 0, .int 0, .int 0, .ref 1312, .ref 1313]) ∧ ∀ x, x ∉ ([1311] : List Nat) → h'.2 x = f x) := by
  refine am_enter (by decide +kernel) (Nat.le_of_ble_eq_true rfl) ?_
  refine am_aload_n d_Unit_init_0 rfl rfl ?_
  refine am_obj w_349 w_177 w_178 d_Unit_init_1 (by omega) (Nat.le_of_ble_eq_true rfl) ?_
  refine am_aload_n d_Unit_init_4 rfl rfl ?_
  refine am_lload_n d_Unit_init_5 rfl rfl ?_
  refine am_putF O f_Unit_7 (fun q hq => by cases hq; exact ⟨w_350, rfl⟩) rfl d_Unit_init_6 (by exact h_1311) (by decide) (by decide) (Nat.le_of_ble_eq_true rfl) (fun q hq => by cases hq; exact ⟨rfl, rfl, rfl⟩) ?_
  refine am_aload_n d_Unit_init_9 rfl rfl ?_
  refine am_iload_n d_Unit_init_10 rfl rfl ?_
  refine am_putF O f_Unit_13 (fun q hq => by cases hq; exact ⟨w_351, rfl⟩) rfl d_Unit_init_11 (by rfl) (by decide) (by decide) (Nat.le_of_ble_eq_true rfl) (fun q hq => by cases hq; exact ⟨rfl, rfl, rfl⟩) ?_
  refine am_aload_n d_Unit_init_14 rfl rfl ?_
  refine am_iload d_Unit_init_15 rfl ?_
  refine am_putF O f_Unit_17 (fun q hq => by cases hq; exact ⟨w_352, rfl⟩) rfl d_Unit_init_17 (by rfl) (by decide) (by decide) (Nat.le_of_ble_eq_true rfl) (fun q hq => by cases hq; exact ⟨rfl, rfl, rfl⟩) ?_
  refine am_aload_n d_Unit_init_20 rfl rfl ?_
  refine am_iload d_Unit_init_21 rfl ?_
  refine am_putF O f_Unit_20 (fun q hq => by cases hq; exact ⟨w_353, rfl⟩) rfl d_Unit_init_23 (by rfl) (by decide) (by decide) (Nat.le_of_ble_eq_true rfl) (fun q hq => by cases hq; exact ⟨rfl, rfl, rfl⟩) ?_
  refine am_aload_n d_Unit_init_26 rfl rfl ?_
  refine am_aload d_Unit_init_27 rfl ?_
  refine am_putF O f_Unit_23 (fun q hq => by cases hq; exact ⟨w_354, rfl⟩) rfl d_Unit_init_29 (by rfl) (by decide) (by decide) (Nat.le_of_ble_eq_true rfl) (fun q hq => by cases hq; exact ⟨rfl, rfl, rfl⟩) ?_
  refine am_aload_n d_Unit_init_32 rfl rfl ?_
  refine am_aload d_Unit_init_33 rfl ?_
  refine am_putF O f_Unit_27 (fun q hq => by cases hq; exact ⟨w_355, rfl⟩) rfl d_Unit_init_35 (by rfl) (by decide) (by decide) (Nat.le_of_ble_eq_true rfl) (fun q hq => by cases hq; exact ⟨rfl, rfl, rfl⟩) ?_
  exact am_vret rfl d_Unit_init_38 ⟨rfl, rfl, rfl, fun x hx => by simp only [List.mem_cons, List.not_mem_nil, or_false, not_or] at hx; dsimp only; (repeat (first | rw [va_up_ne _ _ (by omega)]))⟩

set_option maxRecDepth 100000 in
set_option maxHeartbeats 4000000 in
theorem t91_Draft_finish (O : am_ok K X)   {f : Nat → am_C} (h_136 : f 136 = .inr (2, [.ref 137, .int 0, .ref 138, .int 0, .ref 139, .int 0])) (h_137 : f 137 = .inl (.int, 128, (fun _ => .int 0))) (h_138 : f 138 = .inl (.long, 32, (fun _ => .long 0))) : am_Mt K X m_Draft_finish 2 3 10 [.ref 136, .long 0, .int 0, .int 0] (1311, f) (fun v h' => v = some (.ref 1311) ∧ h'.1 = 1314 ∧ h'.2 137 = .inl (.int, 128, (updV (updV (updV (updV (fun _ => .int 0) 0 (.int 10)) 1 (.int 0)) 2 (.int 6)) 3 (.int 0))) ∧ h'.2 136 = .inr (2, [.ref 137, .int 4, .ref 138, .int 0, .ref 139, .int 0]) ∧ h'.2 1311 = .inr (4, [.long 0, .int 0, .int 0, .int 0, .ref 1312, .ref 1313]) ∧ h'.2 1312 = .inl (.int, 4, (va_cpy (updV (updV (updV (updV (fun _ => .int 0) 0 (.int 10)) 1 (.int 0)) 2 (.int 6)) 3 (.int 0)) (fun _ => .int 0) 0 0 4)) ∧ h'.2 1313 = .inl (.long, 0, (va_cpy (fun _ => .long 0) (fun _ => .long 0) 0 0 0)) ∧ ∀ x, x ∉ ([137, 136, 1311, 1312, 1313] : List Nat) → h'.2 x = f x) := by
  refine am_enter (by decide +kernel) (Nat.le_of_ble_eq_true rfl) ?_
  refine am_aload_n d_Draft_finish_0 rfl rfl ?_
  refine am_bipush (v := 10) d_Draft_finish_1 (by decide) ?_
  refine am_iconst (v := 0) d_Draft_finish_3 (by decide) ?_
  refine am_callV O (t86_Draft_add O (by exact h_136) (by exact h_137)) rfl (by exact h_136) (by decide) (by decide) rfl rfl l_Draft_55 ⟨w_753, w_754⟩ rfl (Nat.le_of_ble_eq_true rfl) d_Draft_finish_4 (by omega) (by omega) (by omega) (fun v h' hp => ?_)
  obtain ⟨n1, f1⟩ := h'
  obtain ⟨rfl, e1, g_137_1, g_136_1, fr1⟩ := hp
  obtain rfl : n1 = 1311 := e1
  have fr1 := fun (x : Nat) (hx : x ∉ ([137, 136] : List Nat)) => (show f1 x = _ from fr1 x hx)
  have h_137_1 : f1 137 = .inl (.int, 128, (updV (updV (fun _ => .int 0) 0 (.int 10)) 1 (.int 0))) := g_137_1
  have h_136_1 : f1 136 = .inr (2, [.ref 137, .int 2, .ref 138, .int 0, .ref 139, .int 0]) := g_136_1
  refine am_aload_n d_Draft_finish_7 rfl rfl ?_
  refine am_bipush (v := 6) d_Draft_finish_8 (by decide) ?_
  refine am_iconst (v := 0) d_Draft_finish_10 (by decide) ?_
  refine am_callV O (t87_Draft_add O (by exact h_136_1) (by exact h_137_1)) rfl (by exact h_136_1) (by decide) (by decide) rfl rfl l_Draft_55 ⟨w_753, w_754⟩ rfl (Nat.le_of_ble_eq_true rfl) d_Draft_finish_11 (by omega) (by omega) (by omega) (fun v h' hp => ?_)
  obtain ⟨n2, f2⟩ := h'
  obtain ⟨rfl, e2, g_137_2, g_136_2, fr2⟩ := hp
  obtain rfl : n2 = 1311 := e2
  have fr2 := fun (x : Nat) (hx : x ∉ ([137, 136] : List Nat)) => (show f2 x = _ from fr2 x hx)
  have h_137_2 : f2 137 = .inl (.int, 128, (updV (updV (updV (updV (fun _ => .int 0) 0 (.int 10)) 1 (.int 0)) 2 (.int 6)) 3 (.int 0))) := g_137_2
  have h_136_2 : f2 136 = .inr (2, [.ref 137, .int 4, .ref 138, .int 0, .ref 139, .int 0]) := g_136_2
  refine am_new O n_Draft_59 d_Draft_finish_14 (by omega) (by omega) ?_
  refine am_dup d_Draft_finish_17 rfl ?_
  refine am_lload_n d_Draft_finish_18 rfl rfl ?_
  refine am_iload_n d_Draft_finish_19 rfl rfl ?_
  refine am_aload_n d_Draft_finish_20 rfl rfl ?_
  refine am_get O f_Draft_27 d_Draft_finish_21 (by exact h_136_2) (by decide) (by decide) rfl ?_
  refine am_iload d_Draft_finish_24 rfl ?_
  refine am_aload_n d_Draft_finish_26 rfl rfl ?_
  refine am_get O f_Draft_7 d_Draft_finish_27 (by exact h_136_2) (by decide) (by decide) rfl ?_
  refine am_aload_n d_Draft_finish_30 rfl rfl ?_
  refine am_get O f_Draft_20 d_Draft_finish_31 (by exact h_136_2) (by decide) (by decide) rfl ?_
  refine am_callS O (t88_Arr_copyOf_aII O (by exact h_137_2)) rfl l_Draft_30 w_757 rfl (Nat.le_of_ble_eq_true rfl) d_Draft_finish_34 (by omega) (by omega) (by omega) (fun v h' hp => ?_)
  obtain ⟨n3, f3⟩ := h'
  obtain ⟨rfl, e3, g_1312_3, fr3⟩ := hp
  obtain rfl : n3 = 1313 := e3
  have fr3 := fun (x : Nat) (hx : x ∉ ([1312] : List Nat)) => (show f3 x = _ from fr3 x hx)
  have h_1312_3 : f3 1312 = .inl (.int, 4, (va_cpy (updV (updV (updV (updV (fun _ => .int 0) 0 (.int 10)) 1 (.int 0)) 2 (.int 6)) 3 (.int 0)) (fun _ => .int 0) 0 0 4)) := g_1312_3
  refine am_aload_n d_Draft_finish_37 rfl rfl ?_
  have h_136_3 : f3 136 = .inr (2, [.ref 137, .int 4, .ref 138, .int 0, .ref 139, .int 0]) := (fr3 136 (by decide)).trans h_136_2
  refine am_get O f_Draft_13 d_Draft_finish_38 (by exact h_136_3) (by decide) (by decide) rfl ?_
  refine am_aload_n d_Draft_finish_41 rfl rfl ?_
  refine am_get O f_Draft_24 d_Draft_finish_42 (by exact h_136_3) (by decide) (by decide) rfl ?_
  have h_138_1 : f1 138 = .inl (.long, 32, (fun _ => .long 0)) := (fr1 138 (by decide)).trans h_138
  have h_138_2 : f2 138 = .inl (.long, 32, (fun _ => .long 0)) := (fr2 138 (by decide)).trans h_138_1
  have h_138_3 : f3 138 = .inl (.long, 32, (fun _ => .long 0)) := (fr3 138 (by decide)).trans h_138_2
  refine am_callS O (t89_Arr_copyOf_aJI O (by exact h_138_3)) rfl l_Draft_46 w_723 rfl (Nat.le_of_ble_eq_true rfl) d_Draft_finish_45 (by omega) (by omega) (by omega) (fun v h' hp => ?_)
  obtain ⟨n4, f4⟩ := h'
  obtain ⟨rfl, e4, g_1313_4, fr4⟩ := hp
  obtain rfl : n4 = 1314 := e4
  have fr4 := fun (x : Nat) (hx : x ∉ ([1313] : List Nat)) => (show f4 x = _ from fr4 x hx)
  have h_1313_4 : f4 1313 = .inl (.long, 0, (va_cpy (fun _ => .long 0) (fun _ => .long 0) 0 0 0)) := g_1313_4
  have h_1311_3 : f3 1311 = .inr (4, [.long 0, .int 0, .int 0, .int 0, .null, .null]) := (fr3 1311 (by decide)).trans rfl
  have h_1311_4 : f4 1311 = .inr (4, [.long 0, .int 0, .int 0, .int 0, .null, .null]) := (fr4 1311 (by decide)).trans h_1311_3
  refine am_callI O (t90_Unit_init O (by exact h_1311_4)) rfl l_Draft_61 w_347 rfl rfl rfl (Nat.le_of_ble_eq_true rfl) d_Draft_finish_48 (by omega) (by omega) (by omega) (fun v h' hp => ?_)
  obtain ⟨n5, f5⟩ := h'
  obtain ⟨rfl, e5, g_1311_5, fr5⟩ := hp
  obtain rfl : n5 = 1314 := e5
  have fr5 := fun (x : Nat) (hx : x ∉ ([1311] : List Nat)) => (show f5 x = _ from fr5 x hx)
  have h_1311_5 : f5 1311 = .inr (4, [.long 0, .int 0, .int 0, .int 0, .ref 1312, .ref 1313]) := g_1311_5
  have h_137_3 : f3 137 = .inl (.int, 128, (updV (updV (updV (updV (fun _ => .int 0) 0 (.int 10)) 1 (.int 0)) 2 (.int 6)) 3 (.int 0))) := (fr3 137 (by decide)).trans h_137_2
  have h_137_4 : f4 137 = .inl (.int, 128, (updV (updV (updV (updV (fun _ => .int 0) 0 (.int 10)) 1 (.int 0)) 2 (.int 6)) 3 (.int 0))) := (fr4 137 (by decide)).trans h_137_3
  have h_137_5 : f5 137 = .inl (.int, 128, (updV (updV (updV (updV (fun _ => .int 0) 0 (.int 10)) 1 (.int 0)) 2 (.int 6)) 3 (.int 0))) := (fr5 137 (by decide)).trans h_137_4
  have h_136_4 : f4 136 = .inr (2, [.ref 137, .int 4, .ref 138, .int 0, .ref 139, .int 0]) := (fr4 136 (by decide)).trans h_136_3
  have h_136_5 : f5 136 = .inr (2, [.ref 137, .int 4, .ref 138, .int 0, .ref 139, .int 0]) := (fr5 136 (by decide)).trans h_136_4
  have h_1312_4 : f4 1312 = .inl (.int, 4, (va_cpy (updV (updV (updV (updV (fun _ => .int 0) 0 (.int 10)) 1 (.int 0)) 2 (.int 6)) 3 (.int 0)) (fun _ => .int 0) 0 0 4)) := (fr4 1312 (by decide)).trans h_1312_3
  have h_1312_5 : f5 1312 = .inl (.int, 4, (va_cpy (updV (updV (updV (updV (fun _ => .int 0) 0 (.int 10)) 1 (.int 0)) 2 (.int 6)) 3 (.int 0)) (fun _ => .int 0) 0 0 4)) := (fr5 1312 (by decide)).trans h_1312_4
  have h_1313_5 : f5 1313 = .inl (.long, 0, (va_cpy (fun _ => .long 0) (fun _ => .long 0) 0 0 0)) := (fr5 1313 (by decide)).trans h_1313_4
  exact am_aret rfl (Or.inl ⟨_, rfl⟩) d_Draft_finish_51 ⟨rfl, rfl, h_137_5, h_136_5, h_1311_5, h_1312_5, h_1313_5, fun x hx => by simp only [List.mem_cons, List.not_mem_nil, or_false, not_or] at hx; dsimp only; (repeat (first | rw [va_up_ne _ _ (by omega)] | rw [fr1 x (by simp only [List.mem_cons, List.not_mem_nil, or_false, not_or]; omega)] | rw [fr2 x (by simp only [List.mem_cons, List.not_mem_nil, or_false, not_or]; omega)] | rw [fr3 x (by simp only [List.mem_cons, List.not_mem_nil, or_false, not_or]; omega)] | rw [fr4 x (by simp only [List.mem_cons, List.not_mem_nil, or_false, not_or]; omega)] | rw [fr5 x (by simp only [List.mem_cons, List.not_mem_nil, or_false, not_or]; omega)]))⟩

set_option maxRecDepth 100000 in
set_option maxHeartbeats 4000000 in
theorem t92_Pars_read (O : am_ok K X)   {f : Nat → am_C} (h_129 : f 129 = .inl (.byte, 1500, (fun _ => .int 0))) (h_132 : f 132 = .inr (5, [.ref 133, .ref 136, .ref 140, .ref 136, .ref 144, .ref 145, .int 0, .int 0])) (h_133 : f 133 = .inr (1, [.ref 134, .ref 135, .int 0, .int 0, .int 0, .int 0, .int 0, .int 0, .long 0, .long 0])) (h_136 : f 136 = .inr (2, [.ref 137, .int 0, .ref 138, .int 0, .ref 139, .int 0])) (h_137 : f 137 = .inl (.int, 128, (fun _ => .int 0))) (h_138 : f 138 = .inl (.long, 32, (fun _ => .long 0))) (h_144 : f 144 = .inr (3, [.ref 1, .int 0, .int 0])) : am_Mt K X m_Pars_read 3 3 10 [.ref 132, .ref 129, .int 0] (1311, f) (fun v h' => v = some (.int (-1)) ∧ h'.1 = 1314 ∧ h'.2 133 = .inr (1, [.ref 134, .ref 129, .int 0, .int 0, .int 0, .int 0, .int 0, .int 0, .long 0, .long 0]) ∧ h'.2 132 = .inr (5, [.ref 133, .ref 136, .ref 140, .ref 136, .ref 144, .ref 1311, .int (-1), .int 0]) ∧ h'.2 144 = .inr (3, [.ref 1, .int 0, .int 1]) ∧ h'.2 136 = .inr (2, [.ref 137, .int 4, .ref 138, .int 0, .ref 139, .int 0]) ∧ h'.2 137 = .inl (.int, 128, (updV (updV (updV (updV (fun _ => .int 0) 0 (.int 10)) 1 (.int 0)) 2 (.int 6)) 3 (.int 0))) ∧ h'.2 1311 = .inr (4, [.long 0, .int 0, .int 0, .int 0, .ref 1312, .ref 1313]) ∧ h'.2 1312 = .inl (.int, 4, (va_cpy (updV (updV (updV (updV (fun _ => .int 0) 0 (.int 10)) 1 (.int 0)) 2 (.int 6)) 3 (.int 0)) (fun _ => .int 0) 0 0 4)) ∧ h'.2 1313 = .inl (.long, 0, (va_cpy (fun _ => .long 0) (fun _ => .long 0) 0 0 0)) ∧ ∀ x, x ∉ ([133, 132, 144, 136, 137, 1311, 1312, 1313] : List Nat) → h'.2 x = f x) := by
  refine am_enter (by decide +kernel) (Nat.le_of_ble_eq_true rfl) ?_
  refine am_aload_n d_Pars_read_0 rfl rfl ?_
  refine am_get O f_Pars_12 d_Pars_read_1 (by exact h_132) (by decide) (by decide) rfl ?_
  refine am_aload_n d_Pars_read_4 rfl rfl ?_
  refine am_iload_n d_Pars_read_5 rfl rfl ?_
  refine am_callV O (t82_Lexer_begin O (by exact h_129) (by exact h_133)) rfl (by exact h_133) (by decide) (by decide) rfl rfl l_Pars_47 ⟨w_547, w_548⟩ rfl (Nat.le_of_ble_eq_true rfl) d_Pars_read_6 (by omega) (by omega) (by omega) (fun v h' hp => ?_)
  obtain ⟨n1, f1⟩ := h'
  obtain ⟨rfl, e1, g_133_1, fr1⟩ := hp
  obtain rfl : n1 = 1311 := e1
  have fr1 := fun (x : Nat) (hx : x ∉ ([133] : List Nat)) => (show f1 x = _ from fr1 x hx)
  have h_133_1 : f1 133 = .inr (1, [.ref 134, .ref 129, .int 0, .int 0, .int 0, .int 0, .int 0, .int 0, .long 0, .long 0]) := g_133_1
  refine am_aload_n d_Pars_read_9 rfl rfl ?_
  refine am_iconst (v := (-1)) d_Pars_read_10 (by decide) ?_
  have h_132_1 : f1 132 = .inr (5, [.ref 133, .ref 136, .ref 140, .ref 136, .ref 144, .ref 145, .int 0, .int 0]) := (fr1 132 (by decide)).trans h_132
  refine am_put O f_Pars_51 d_Pars_read_11 (by exact h_132_1) (by decide) (by decide) (Nat.le_of_ble_eq_true rfl) (fun q hq => by cases hq; exact ⟨rfl, rfl, rfl⟩) ?_
  refine am_aload_n d_Pars_read_14 rfl rfl ?_
  refine am_get O f_Pars_34 d_Pars_read_15 (by rfl) (by decide) (by decide) rfl ?_
  have h_144_1 : f1 144 = .inr (3, [.ref 1, .int 0, .int 0]) := (fr1 144 (by decide)).trans h_144
  refine am_callV O (t83_AL_clear O (by exact h_144_1)) rfl (by exact h_144_1) (by decide) (by decide) rfl rfl l_Pars_55 ⟨w_665, w_666⟩ rfl (Nat.le_of_ble_eq_true rfl) d_Pars_read_18 (by omega) (by omega) (by omega) (fun v h' hp => ?_)
  obtain ⟨n2, f2⟩ := h'
  obtain ⟨rfl, e2, g_144_2, fr2⟩ := hp
  obtain rfl : n2 = 1311 := e2
  have fr2 := fun (x : Nat) (hx : x ∉ ([144] : List Nat)) => (show f2 x = _ from fr2 x hx)
  have h_144_2 : f2 144 = .inr (3, [.ref 1, .int 0, .int 1]) := g_144_2
  refine am_aload_n d_Pars_read_21 rfl rfl ?_
  have h_132_2 : f2 132 = .inr (5, [.ref 133, .ref 136, .ref 140, .ref 136, .ref 144, .ref 145, .int (-1), .int 0]) := (fr2 132 (by decide)).trans rfl
  refine am_get O f_Pars_21 d_Pars_read_22 (by exact h_132_2) (by decide) (by decide) rfl ?_
  have h_136_1 : f1 136 = .inr (2, [.ref 137, .int 0, .ref 138, .int 0, .ref 139, .int 0]) := (fr1 136 (by decide)).trans h_136
  have h_136_2 : f2 136 = .inr (2, [.ref 137, .int 0, .ref 138, .int 0, .ref 139, .int 0]) := (fr2 136 (by decide)).trans h_136_1
  refine am_callV O (t84_Draft_clear O (by exact h_136_2)) rfl (by exact h_136_2) (by decide) (by decide) rfl rfl l_Pars_58 ⟨w_669, w_670⟩ rfl (Nat.le_of_ble_eq_true rfl) d_Pars_read_25 (by omega) (by omega) (by omega) (fun v h' hp => ?_)
  obtain ⟨n3, f3⟩ := h'
  obtain ⟨rfl, e3, g_136_3, fr3⟩ := hp
  obtain rfl : n3 = 1311 := e3
  have fr3 := fun (x : Nat) (hx : x ∉ ([136] : List Nat)) => (show f3 x = _ from fr3 x hx)
  have h_136_3 : f3 136 = .inr (2, [.ref 137, .int 0, .ref 138, .int 0, .ref 139, .int 0]) := g_136_3
  refine am_aload_n d_Pars_read_28 rfl rfl ?_
  refine am_aload_n d_Pars_read_29 rfl rfl ?_
  have h_132_3 : f3 132 = .inr (5, [.ref 133, .ref 136, .ref 140, .ref 136, .ref 144, .ref 145, .int (-1), .int 0]) := (fr3 132 (by decide)).trans h_132_2
  refine am_get O f_Pars_21 d_Pars_read_30 (by exact h_132_3) (by decide) (by decide) rfl ?_
  refine am_put O f_Pars_28 d_Pars_read_33 (by exact h_132_3) (by decide) (by decide) (Nat.le_of_ble_eq_true rfl) (fun q hq => by cases hq; exact ⟨rfl, rfl, rfl⟩) ?_
  refine am_iconst (v := 0) d_Pars_read_36 (by decide) ?_
  refine am_istore_n d_Pars_read_37 rfl (by decide) ?_
  refine am_iload_n d_Pars_read_38 rfl rfl ?_
  refine am_sipush (v := 1500) d_Pars_read_39 (by decide) ?_
  refine am_icmp_gt (tgt := 91) d_Pars_read_42 (by decide) (fun c => absurd c (by decide)) (fun _ => ?_)
  refine am_aload_n d_Pars_read_45 rfl rfl ?_
  refine am_get O f_Pars_51 d_Pars_read_46 (by rfl) (by decide) (by decide) rfl ?_
  refine am_if_ge (tgt := 91) d_Pars_read_49 (by decide) (fun c => absurd c (by decide)) (fun _ => ?_)
  refine am_aload_n d_Pars_read_52 rfl rfl ?_
  refine am_get O f_Pars_12 d_Pars_read_53 (by rfl) (by decide) (by decide) rfl ?_
  have h_133_2 : f2 133 = .inr (1, [.ref 134, .ref 129, .int 0, .int 0, .int 0, .int 0, .int 0, .int 0, .long 0, .long 0]) := (fr2 133 (by decide)).trans h_133_1
  have h_133_3 : f3 133 = .inr (1, [.ref 134, .ref 129, .int 0, .int 0, .int 0, .int 0, .int 0, .int 0, .long 0, .long 0]) := (fr3 133 (by decide)).trans h_133_2
  refine am_callV O (t85_Lexer_kind O (by exact h_133_3)) rfl (by exact h_133_3) (by decide) (by decide) rfl rfl l_Pars_59 ⟨w_673, w_674⟩ rfl (Nat.le_of_ble_eq_true rfl) d_Pars_read_56 (by omega) (by omega) (by omega) (fun v h' hp => ?_)
  obtain ⟨rfl, rfl⟩ := hp
  refine am_if_eq (tgt := 91) d_Pars_read_59 (by decide) (fun _ => ?_) (fun c => absurd (by decide) c)
  refine am_aload_n d_Pars_read_91 rfl rfl ?_
  refine am_get O f_Pars_51 d_Pars_read_92 (by rfl) (by decide) (by decide) rfl ?_
  refine am_if_ge (tgt := 112) d_Pars_read_95 (by decide) (fun c => absurd c (by decide)) (fun _ => ?_)
  refine am_aload_n d_Pars_read_98 rfl rfl ?_
  refine am_aload_n d_Pars_read_99 rfl rfl ?_
  refine am_get O f_Pars_21 d_Pars_read_100 (by rfl) (by decide) (by decide) rfl ?_
  refine am_lconst (v := 0) d_Pars_read_103 (by decide) ?_
  refine am_iconst (v := 0) d_Pars_read_104 (by decide) ?_
  refine am_iconst (v := 0) d_Pars_read_105 (by decide) ?_
  have h_137_1 : f1 137 = .inl (.int, 128, (fun _ => .int 0)) := (fr1 137 (by decide)).trans h_137
  have h_137_2 : f2 137 = .inl (.int, 128, (fun _ => .int 0)) := (fr2 137 (by decide)).trans h_137_1
  have h_137_3 : f3 137 = .inl (.int, 128, (fun _ => .int 0)) := (fr3 137 (by decide)).trans h_137_2
  have h_138_1 : f1 138 = .inl (.long, 32, (fun _ => .long 0)) := (fr1 138 (by decide)).trans h_138
  have h_138_2 : f2 138 = .inl (.long, 32, (fun _ => .long 0)) := (fr2 138 (by decide)).trans h_138_1
  have h_138_3 : f3 138 = .inl (.long, 32, (fun _ => .long 0)) := (fr3 138 (by decide)).trans h_138_2
  refine am_callV O (t91_Draft_finish O (by exact h_136_3) (by exact h_137_3) (by exact h_138_3)) rfl (by exact h_136_3) (by decide) (by decide) rfl rfl l_Pars_70 ⟨w_885, w_886⟩ rfl (Nat.le_of_ble_eq_true rfl) d_Pars_read_106 (by omega) (by omega) (by omega) (fun v h' hp => ?_)
  obtain ⟨n4, f4⟩ := h'
  obtain ⟨rfl, e4, g_137_4, g_136_4, g_1311_4, g_1312_4, g_1313_4, fr4⟩ := hp
  obtain rfl : n4 = 1314 := e4
  have fr4 := fun (x : Nat) (hx : x ∉ ([137, 136, 1311, 1312, 1313] : List Nat)) => (show f4 x = _ from fr4 x hx)
  have h_137_4 : f4 137 = .inl (.int, 128, (updV (updV (updV (updV (fun _ => .int 0) 0 (.int 10)) 1 (.int 0)) 2 (.int 6)) 3 (.int 0))) := g_137_4
  have h_136_4 : f4 136 = .inr (2, [.ref 137, .int 4, .ref 138, .int 0, .ref 139, .int 0]) := g_136_4
  have h_1311_4 : f4 1311 = .inr (4, [.long 0, .int 0, .int 0, .int 0, .ref 1312, .ref 1313]) := g_1311_4
  have h_1312_4 : f4 1312 = .inl (.int, 4, (va_cpy (updV (updV (updV (updV (fun _ => .int 0) 0 (.int 10)) 1 (.int 0)) 2 (.int 6)) 3 (.int 0)) (fun _ => .int 0) 0 0 4)) := g_1312_4
  have h_1313_4 : f4 1313 = .inl (.long, 0, (va_cpy (fun _ => .long 0) (fun _ => .long 0) 0 0 0)) := g_1313_4
  have h_132_4 : f4 132 = .inr (5, [.ref 133, .ref 136, .ref 140, .ref 136, .ref 144, .ref 145, .int (-1), .int 0]) := (fr4 132 (by decide)).trans rfl
  refine am_put O f_Pars_43 d_Pars_read_109 (by exact h_132_4) (by decide) (by decide) (Nat.le_of_ble_eq_true rfl) (fun q hq => by cases hq; exact ⟨rfl, rfl, rfl⟩) ?_
  refine am_aload_n d_Pars_read_112 rfl rfl ?_
  refine am_get O f_Pars_51 d_Pars_read_113 (by rfl) (by decide) (by decide) rfl ?_
  have h_133_4 : f4 133 = .inr (1, [.ref 134, .ref 129, .int 0, .int 0, .int 0, .int 0, .int 0, .int 0, .long 0, .long 0]) := (fr4 133 (by decide)).trans h_133_3
  have h_144_3 : f3 144 = .inr (3, [.ref 1, .int 0, .int 1]) := (fr3 144 (by decide)).trans h_144_2
  have h_144_4 : f4 144 = .inr (3, [.ref 1, .int 0, .int 1]) := (fr4 144 (by decide)).trans h_144_3
  exact am_iret rfl d_Pars_read_116 ⟨rfl, rfl, h_133_4, rfl, h_144_4, h_136_4, h_137_4, h_1311_4, h_1312_4, h_1313_4, fun x hx => by simp only [List.mem_cons, List.not_mem_nil, or_false, not_or] at hx; dsimp only; (repeat (first | rw [va_up_ne _ _ (by omega)] | rw [fr1 x (by simp only [List.mem_cons, List.not_mem_nil, or_false, not_or]; omega)] | rw [fr2 x (by simp only [List.mem_cons, List.not_mem_nil, or_false, not_or]; omega)] | rw [fr3 x (by simp only [List.mem_cons, List.not_mem_nil, or_false, not_or]; omega)] | rw [fr4 x (by simp only [List.mem_cons, List.not_mem_nil, or_false, not_or]; omega)]))⟩

set_option maxRecDepth 100000 in
set_option maxHeartbeats 4000000 in
theorem t93_Out_clear (O : am_ok K X)   {f : Nat → am_C} (h_130 : f 130 = .inr (0, [.ref 131, .int 0, .int 0])) : am_Mt K X m_Out_clear 0 0 0 [.ref 130] (1314, f) (fun v h' => v = none ∧ h'.1 = 1314 ∧ h'.2 130 = .inr (0, [.ref 131, .int 0, .int 0]) ∧ ∀ x, x ∉ ([130] : List Nat) → h'.2 x = f x) := by
  refine am_enter (by decide +kernel) (Nat.le_of_ble_eq_true rfl) ?_
  refine am_aload_n d_Out_clear_0 rfl rfl ?_
  refine am_iconst (v := 0) d_Out_clear_1 (by decide) ?_
  refine am_put O f_Out_15 d_Out_clear_2 (by exact h_130) (by decide) (by decide) (Nat.le_of_ble_eq_true rfl) (fun q hq => by cases hq; exact ⟨rfl, rfl, rfl⟩) ?_
  refine am_aload_n d_Out_clear_5 rfl rfl ?_
  refine am_iconst (v := 0) d_Out_clear_6 (by decide) ?_
  refine am_put O f_Out_19 d_Out_clear_7 (by rfl) (by decide) (by decide) (Nat.le_of_ble_eq_true rfl) (fun q hq => by cases hq; exact ⟨rfl, rfl, rfl⟩) ?_
  exact am_vret rfl d_Out_clear_10 ⟨rfl, rfl, rfl, fun x hx => by simp only [List.mem_cons, List.not_mem_nil, or_false, not_or] at hx; dsimp only; (repeat (first | rw [va_up_ne _ _ (by omega)]))⟩

set_option maxRecDepth 100000 in
set_option maxHeartbeats 4000000 in
theorem t94_Stow_forgetLatestRun (O : am_ok K X)   {f : Nat → am_C} (h_128 : f 128 = .inr (9, [.ref 129, .int 0, .ref 130, .ref 132, .ref 148, .ref 154, .ref 157, .long 0, .long 0, .int 0])) : am_Mt K X m_Stow_forgetLatestRun 0 0 0 [.ref 128] (1314, f) (fun v h' => v = none ∧ h'.1 = 1314 ∧ h'.2 128 = .inr (9, [.ref 129, .int 0, .ref 130, .ref 132, .ref 148, .ref 154, .ref 157, .long 0, .long 0, .int 0]) ∧ ∀ x, x ∉ ([128] : List Nat) → h'.2 x = f x) := by
  refine am_enter (by decide +kernel) (Nat.le_of_ble_eq_true rfl) ?_
  refine am_aload_n d_Stow_forgetLatestRun_0 rfl rfl ?_
  refine am_iconst (v := 0) d_Stow_forgetLatestRun_1 (by decide) ?_
  refine am_put O f_Stow_86 d_Stow_forgetLatestRun_2 (by exact h_128) (by decide) (by decide) (Nat.le_of_ble_eq_true rfl) (fun q hq => by cases hq; exact ⟨rfl, rfl, rfl⟩) ?_
  refine am_aload_n d_Stow_forgetLatestRun_5 rfl rfl ?_
  refine am_lconst (v := 0) d_Stow_forgetLatestRun_6 (by decide) ?_
  refine am_put O f_Stow_93 d_Stow_forgetLatestRun_7 (by rfl) (by decide) (by decide) (Nat.le_of_ble_eq_true rfl) (fun q hq => by cases hq; exact ⟨rfl, rfl, rfl⟩) ?_
  refine am_aload_n d_Stow_forgetLatestRun_10 rfl rfl ?_
  refine am_lconst (v := 0) d_Stow_forgetLatestRun_11 (by decide) ?_
  refine am_put O f_Stow_100 d_Stow_forgetLatestRun_12 (by rfl) (by decide) (by decide) (Nat.le_of_ble_eq_true rfl) (fun q hq => by cases hq; exact ⟨rfl, rfl, rfl⟩) ?_
  exact am_vret rfl d_Stow_forgetLatestRun_15 ⟨rfl, rfl, rfl, fun x hx => by simp only [List.mem_cons, List.not_mem_nil, or_false, not_or] at hx; dsimp only; (repeat (first | rw [va_up_ne _ _ (by omega)]))⟩

set_option maxRecDepth 100000 in
set_option maxHeartbeats 4000000 in
theorem t95_Store_init (O : am_ok K X)   {f : Nat → am_C} (h_1314 : f 1314 = .inr (10, [.null, .null, .null, .null, .null, .null, .int 0, .null, .int 0])) : am_Mt K X m_Store_init 1 7 4146 [.ref 1314] (1315, f) (fun v h' => v = none ∧ h'.1 = 1322 ∧ h'.2 1315 = .inl (.long, 2000, (fun _ => .long 0)) ∧ h'.2 1314 = .inr (10, [.ref 1315, .ref 1316, .ref 1317, .ref 1318, .ref 1319, .ref 1320, .int 0, .ref 1321, .int 0]) ∧ h'.2 1316 = .inl (.long, 2000, (fun _ => .long 0)) ∧ h'.2 1317 = .inl (.int, 100, (fun j => if j < 100 then .int (-1) else (fun _ => .int 0) j)) ∧ h'.2 1318 = .inl (.long, 12, (fun _ => .long 0)) ∧ h'.2 1319 = .inl (.long, 12, (fun _ => .long 0)) ∧ h'.2 1320 = .inl (.long, 12, (fun _ => .long 0)) ∧ h'.2 1321 = .inl (.object "StowTongue$Unit", 10, (fun _ => .null)) ∧ ∀ x, x ∉ ([1315, 1314, 1316, 1317, 1318, 1319, 1320, 1321] : List Nat) → h'.2 x = f x) := by
  refine am_enter (by decide +kernel) (Nat.le_of_ble_eq_true rfl) ?_
  refine am_aload_n d_Store_init_0 rfl rfl ?_
  refine am_obj w_965 w_177 w_178 d_Store_init_1 (by omega) (Nat.le_of_ble_eq_true rfl) ?_
  refine am_aload_n d_Store_init_4 rfl rfl ?_
  refine am_sipush (v := 2000) d_Store_init_5 (by decide) ?_
  refine am_newa (at_ := .long) (ty := .long) (N := 2000) O rfl (by decide) w_291 d_Store_init_8 (by decide) (by decide) (by decide) (by omega) (by omega) ?_
  refine am_putF O f_Store_9 (fun q hq => by cases hq; exact ⟨w_970, rfl⟩) rfl d_Store_init_10 (by exact h_1314) (by decide) (by decide) (Nat.le_of_ble_eq_true rfl) (fun q hq => by cases hq; exact ⟨rfl, rfl, rfl⟩) ?_
  refine am_aload_n d_Store_init_13 rfl rfl ?_
  refine am_sipush (v := 2000) d_Store_init_14 (by decide) ?_
  refine am_newa (at_ := .long) (ty := .long) (N := 2000) O rfl (by decide) w_291 d_Store_init_17 (by decide) (by decide) (by decide) (by omega) (by omega) ?_
  refine am_putF O f_Store_13 (fun q hq => by cases hq; exact ⟨w_973, rfl⟩) rfl d_Store_init_19 (by rfl) (by decide) (by decide) (Nat.le_of_ble_eq_true rfl) (fun q hq => by cases hq; exact ⟨rfl, rfl, rfl⟩) ?_
  refine am_aload_n d_Store_init_22 rfl rfl ?_
  refine am_bipush (v := 100) d_Store_init_23 (by decide) ?_
  refine am_newa (at_ := .int) (ty := .int) (N := 100) O rfl (by decide) w_317 d_Store_init_25 (by decide) (by decide) (by decide) (by omega) (by omega) ?_
  refine am_putF O f_Store_16 (fun q hq => by cases hq; exact ⟨w_976, rfl⟩) rfl d_Store_init_27 (by rfl) (by decide) (by decide) (Nat.le_of_ble_eq_true rfl) (fun q hq => by cases hq; exact ⟨rfl, rfl, rfl⟩) ?_
  refine am_aload_n d_Store_init_30 rfl rfl ?_
  refine am_bipush (v := 12) d_Store_init_31 (by decide) ?_
  refine am_newa (at_ := .long) (ty := .long) (N := 12) O rfl (by decide) w_291 d_Store_init_33 (by decide) (by decide) (by decide) (by omega) (by omega) ?_
  refine am_putF O f_Store_20 (fun q hq => by cases hq; exact ⟨w_977, rfl⟩) rfl d_Store_init_35 (by rfl) (by decide) (by decide) (Nat.le_of_ble_eq_true rfl) (fun q hq => by cases hq; exact ⟨rfl, rfl, rfl⟩) ?_
  refine am_aload_n d_Store_init_38 rfl rfl ?_
  refine am_bipush (v := 12) d_Store_init_39 (by decide) ?_
  refine am_newa (at_ := .long) (ty := .long) (N := 12) O rfl (by decide) w_291 d_Store_init_41 (by decide) (by decide) (by decide) (by omega) (by omega) ?_
  refine am_putF O f_Store_23 (fun q hq => by cases hq; exact ⟨w_978, rfl⟩) rfl d_Store_init_43 (by rfl) (by decide) (by decide) (Nat.le_of_ble_eq_true rfl) (fun q hq => by cases hq; exact ⟨rfl, rfl, rfl⟩) ?_
  refine am_aload_n d_Store_init_46 rfl rfl ?_
  refine am_bipush (v := 12) d_Store_init_47 (by decide) ?_
  refine am_newa (at_ := .long) (ty := .long) (N := 12) O rfl (by decide) w_291 d_Store_init_49 (by decide) (by decide) (by decide) (by omega) (by omega) ?_
  refine am_putF O f_Store_26 (fun q hq => by cases hq; exact ⟨w_982, rfl⟩) rfl d_Store_init_51 (by rfl) (by decide) (by decide) (Nat.le_of_ble_eq_true rfl) (fun q hq => by cases hq; exact ⟨rfl, rfl, rfl⟩) ?_
  refine am_aload_n d_Store_init_54 rfl rfl ?_
  refine am_bipush (v := 10) d_Store_init_55 (by decide) ?_
  refine am_anew (N := 10) O (by decide) w_966 x_401 d_Store_init_57 (by decide) (by decide) (by decide) (by omega) (by omega) ?_
  refine am_putF O f_Store_31 (fun q hq => by cases hq; exact ⟨w_987, rfl⟩) rfl d_Store_init_60 (by rfl) (by decide) (by decide) (Nat.le_of_ble_eq_true rfl) (fun q hq => by cases hq; exact ⟨rfl, rfl, rfl⟩) ?_
  refine am_aload_n d_Store_init_63 rfl rfl ?_
  refine am_get O f_Store_16 d_Store_init_64 (by rfl) (by decide) (by decide) rfl ?_
  refine am_iconst (v := (-1)) d_Store_init_67 (by decide) ?_
  refine am_callS O (c_Arr_fill_aII O (by rfl) (by decide) (by decide) (by decide)) rfl l_Store_35 w_968 rfl (Nat.le_of_ble_eq_true rfl) d_Store_init_68 (by omega) (by omega) (by omega) (fun v h' hp => ?_)
  obtain ⟨n1, f1⟩ := h'
  obtain ⟨rfl, e1, g_1317_1, fr1⟩ := hp
  obtain rfl : n1 = 1322 := e1
  have fr1 := fun (x : Nat) (hx : x ∉ ([1317] : List Nat)) => (show f1 x = _ from fr1 x hx)
  have h_1317_1 : f1 1317 = .inl (.int, 100, (fun j => if j < 100 then .int (-1) else (fun _ => .int 0) j)) := g_1317_1
  have h_1315_1 : f1 1315 = .inl (.long, 2000, (fun _ => .long 0)) := (fr1 1315 (by decide)).trans rfl
  have h_1314_1 : f1 1314 = .inr (10, [.ref 1315, .ref 1316, .ref 1317, .ref 1318, .ref 1319, .ref 1320, .int 0, .ref 1321, .int 0]) := (fr1 1314 (by decide)).trans rfl
  have h_1316_1 : f1 1316 = .inl (.long, 2000, (fun _ => .long 0)) := (fr1 1316 (by decide)).trans rfl
  have h_1318_1 : f1 1318 = .inl (.long, 12, (fun _ => .long 0)) := (fr1 1318 (by decide)).trans rfl
  have h_1319_1 : f1 1319 = .inl (.long, 12, (fun _ => .long 0)) := (fr1 1319 (by decide)).trans rfl
  have h_1320_1 : f1 1320 = .inl (.long, 12, (fun _ => .long 0)) := (fr1 1320 (by decide)).trans rfl
  have h_1321_1 : f1 1321 = .inl (.object "StowTongue$Unit", 10, (fun _ => .null)) := (fr1 1321 (by decide)).trans rfl
  exact am_vret rfl d_Store_init_71 ⟨rfl, rfl, h_1315_1, h_1314_1, h_1316_1, h_1317_1, h_1318_1, h_1319_1, h_1320_1, h_1321_1, fun x hx => by simp only [List.mem_cons, List.not_mem_nil, or_false, not_or] at hx; dsimp only; (repeat (first | rw [va_up_ne _ _ (by omega)] | rw [fr1 x (by simp only [List.mem_cons, List.not_mem_nil, or_false, not_or]; omega)]))⟩

set_option maxRecDepth 100000 in
set_option maxHeartbeats 4000000 in
theorem t96_Log_storeAt (O : am_ok K X)   {f : Nat → am_C} (h_154 : f 154 = .inr (7, [.ref 155, .ref 156, .int 0, .int 0])) (h_155 : f 155 = .inl (.object "StowTongue$Store", 10, (fun _ => .null))) : am_Mt K X m_Log_storeAt 2 8 4155 [.ref 154, .int 1] (1314, f) (fun v h' => v = some (.ref 1314) ∧ h'.1 = 1322 ∧ h'.2 1314 = .inr (10, [.ref 1315, .ref 1316, .ref 1317, .ref 1318, .ref 1319, .ref 1320, .int 0, .ref 1321, .int 0]) ∧ h'.2 1315 = .inl (.long, 2000, (fun _ => .long 0)) ∧ h'.2 1316 = .inl (.long, 2000, (fun _ => .long 0)) ∧ h'.2 1317 = .inl (.int, 100, (fun j => if j < 100 then .int (-1) else (fun _ => .int 0) j)) ∧ h'.2 1318 = .inl (.long, 12, (fun _ => .long 0)) ∧ h'.2 1319 = .inl (.long, 12, (fun _ => .long 0)) ∧ h'.2 1320 = .inl (.long, 12, (fun _ => .long 0)) ∧ h'.2 1321 = .inl (.object "StowTongue$Unit", 10, (fun _ => .null)) ∧ h'.2 155 = .inl (.object "StowTongue$Store", 10, (updV (fun _ => .null) 1 (.ref 1314))) ∧ ∀ x, x ∉ ([1314, 1315, 1316, 1317, 1318, 1319, 1320, 1321, 155] : List Nat) → h'.2 x = f x) := by
  refine am_enter (by decide +kernel) (Nat.le_of_ble_eq_true rfl) ?_
  refine am_aload_n d_Log_storeAt_0 rfl rfl ?_
  refine am_get O f_Log_11 d_Log_storeAt_1 (by exact h_154) (by decide) (by decide) rfl ?_
  refine am_iload_n d_Log_storeAt_4 rfl rfl ?_
  refine am_aald (v := .null) O d_Log_storeAt_5 (by exact h_155) (by decide) (by decide) (by decide) rfl (am_in (by decide) (by decide)) rfl ?_
  refine am_astore_nN d_Log_storeAt_6 rfl (by decide) ?_
  refine am_aload_nN d_Log_storeAt_7 rfl rfl ?_
  refine am_ifnonnullN d_Log_storeAt_8 ?_
  refine am_new O n_Log_9 d_Log_storeAt_11 (by omega) (by omega) ?_
  refine am_dup d_Log_storeAt_14 rfl ?_
  refine am_callI O (t95_Store_init O (by rfl)) rfl l_Log_26 w_963 rfl rfl rfl (Nat.le_of_ble_eq_true rfl) d_Log_storeAt_15 (by omega) (by omega) (by omega) (fun v h' hp => ?_)
  obtain ⟨n1, f1⟩ := h'
  obtain ⟨rfl, e1, g_1315_1, g_1314_1, g_1316_1, g_1317_1, g_1318_1, g_1319_1, g_1320_1, g_1321_1, fr1⟩ := hp
  obtain rfl : n1 = 1322 := e1
  have fr1 := fun (x : Nat) (hx : x ∉ ([1315, 1314, 1316, 1317, 1318, 1319, 1320, 1321] : List Nat)) => (show f1 x = _ from fr1 x hx)
  have h_1315_1 : f1 1315 = .inl (.long, 2000, (fun _ => .long 0)) := g_1315_1
  have h_1314_1 : f1 1314 = .inr (10, [.ref 1315, .ref 1316, .ref 1317, .ref 1318, .ref 1319, .ref 1320, .int 0, .ref 1321, .int 0]) := g_1314_1
  have h_1316_1 : f1 1316 = .inl (.long, 2000, (fun _ => .long 0)) := g_1316_1
  have h_1317_1 : f1 1317 = .inl (.int, 100, (fun j => if j < 100 then .int (-1) else (fun _ => .int 0) j)) := g_1317_1
  have h_1318_1 : f1 1318 = .inl (.long, 12, (fun _ => .long 0)) := g_1318_1
  have h_1319_1 : f1 1319 = .inl (.long, 12, (fun _ => .long 0)) := g_1319_1
  have h_1320_1 : f1 1320 = .inl (.long, 12, (fun _ => .long 0)) := g_1320_1
  have h_1321_1 : f1 1321 = .inl (.object "StowTongue$Unit", 10, (fun _ => .null)) := g_1321_1
  refine am_astore_n d_Log_storeAt_18 rfl (by decide) ?_
  refine am_aload_n d_Log_storeAt_19 rfl rfl ?_
  have h_154_1 : f1 154 = .inr (7, [.ref 155, .ref 156, .int 0, .int 0]) := (fr1 154 (by decide)).trans h_154
  refine am_get O f_Log_11 d_Log_storeAt_20 (by exact h_154_1) (by decide) (by decide) rfl ?_
  refine am_iload_n d_Log_storeAt_23 rfl rfl ?_
  refine am_aload_n d_Log_storeAt_24 rfl rfl ?_
  have h_155_1 : f1 155 = .inl (.object "StowTongue$Store", 10, (fun _ => .null)) := (fr1 155 (by decide)).trans h_155
  refine am_aast O d_Log_storeAt_25 (by exact h_155_1) (by decide) (by decide) (by exact h_1314_1) (by decide) (by decide) (by rfl) (by rfl) (by decide) (am_in (by decide) (by decide)) ?_
  refine am_aload_n d_Log_storeAt_26 rfl rfl ?_
  exact am_aret rfl (Or.inl ⟨_, rfl⟩) d_Log_storeAt_27 ⟨rfl, rfl, h_1314_1, h_1315_1, h_1316_1, h_1317_1, h_1318_1, h_1319_1, h_1320_1, h_1321_1, rfl, fun x hx => by simp only [List.mem_cons, List.not_mem_nil, or_false, not_or] at hx; dsimp only; (repeat (first | rw [va_up_ne _ _ (by omega)] | rw [fr1 x (by simp only [List.mem_cons, List.not_mem_nil, or_false, not_or]; omega)]))⟩

set_option maxRecDepth 100000 in
set_option maxHeartbeats 4000000 in
theorem t97_Store_init (O : am_ok K X)   {f : Nat → am_C} (h_1322 : f 1322 = .inr (10, [.null, .null, .null, .null, .null, .null, .int 0, .null, .int 0])) : am_Mt K X m_Store_init 1 7 4146 [.ref 1322] (1323, f) (fun v h' => v = none ∧ h'.1 = 1330 ∧ h'.2 1323 = .inl (.long, 2000, (fun _ => .long 0)) ∧ h'.2 1322 = .inr (10, [.ref 1323, .ref 1324, .ref 1325, .ref 1326, .ref 1327, .ref 1328, .int 0, .ref 1329, .int 0]) ∧ h'.2 1324 = .inl (.long, 2000, (fun _ => .long 0)) ∧ h'.2 1325 = .inl (.int, 100, (fun j => if j < 100 then .int (-1) else (fun _ => .int 0) j)) ∧ h'.2 1326 = .inl (.long, 12, (fun _ => .long 0)) ∧ h'.2 1327 = .inl (.long, 12, (fun _ => .long 0)) ∧ h'.2 1328 = .inl (.long, 12, (fun _ => .long 0)) ∧ h'.2 1329 = .inl (.object "StowTongue$Unit", 10, (fun _ => .null)) ∧ ∀ x, x ∉ ([1323, 1322, 1324, 1325, 1326, 1327, 1328, 1329] : List Nat) → h'.2 x = f x) := by
  refine am_enter (by decide +kernel) (Nat.le_of_ble_eq_true rfl) ?_
  refine am_aload_n d_Store_init_0 rfl rfl ?_
  refine am_obj w_965 w_177 w_178 d_Store_init_1 (by omega) (Nat.le_of_ble_eq_true rfl) ?_
  refine am_aload_n d_Store_init_4 rfl rfl ?_
  refine am_sipush (v := 2000) d_Store_init_5 (by decide) ?_
  refine am_newa (at_ := .long) (ty := .long) (N := 2000) O rfl (by decide) w_291 d_Store_init_8 (by decide) (by decide) (by decide) (by omega) (by omega) ?_
  refine am_putF O f_Store_9 (fun q hq => by cases hq; exact ⟨w_970, rfl⟩) rfl d_Store_init_10 (by exact h_1322) (by decide) (by decide) (Nat.le_of_ble_eq_true rfl) (fun q hq => by cases hq; exact ⟨rfl, rfl, rfl⟩) ?_
  refine am_aload_n d_Store_init_13 rfl rfl ?_
  refine am_sipush (v := 2000) d_Store_init_14 (by decide) ?_
  refine am_newa (at_ := .long) (ty := .long) (N := 2000) O rfl (by decide) w_291 d_Store_init_17 (by decide) (by decide) (by decide) (by omega) (by omega) ?_
  refine am_putF O f_Store_13 (fun q hq => by cases hq; exact ⟨w_973, rfl⟩) rfl d_Store_init_19 (by rfl) (by decide) (by decide) (Nat.le_of_ble_eq_true rfl) (fun q hq => by cases hq; exact ⟨rfl, rfl, rfl⟩) ?_
  refine am_aload_n d_Store_init_22 rfl rfl ?_
  refine am_bipush (v := 100) d_Store_init_23 (by decide) ?_
  refine am_newa (at_ := .int) (ty := .int) (N := 100) O rfl (by decide) w_317 d_Store_init_25 (by decide) (by decide) (by decide) (by omega) (by omega) ?_
  refine am_putF O f_Store_16 (fun q hq => by cases hq; exact ⟨w_976, rfl⟩) rfl d_Store_init_27 (by rfl) (by decide) (by decide) (Nat.le_of_ble_eq_true rfl) (fun q hq => by cases hq; exact ⟨rfl, rfl, rfl⟩) ?_
  refine am_aload_n d_Store_init_30 rfl rfl ?_
  refine am_bipush (v := 12) d_Store_init_31 (by decide) ?_
  refine am_newa (at_ := .long) (ty := .long) (N := 12) O rfl (by decide) w_291 d_Store_init_33 (by decide) (by decide) (by decide) (by omega) (by omega) ?_
  refine am_putF O f_Store_20 (fun q hq => by cases hq; exact ⟨w_977, rfl⟩) rfl d_Store_init_35 (by rfl) (by decide) (by decide) (Nat.le_of_ble_eq_true rfl) (fun q hq => by cases hq; exact ⟨rfl, rfl, rfl⟩) ?_
  refine am_aload_n d_Store_init_38 rfl rfl ?_
  refine am_bipush (v := 12) d_Store_init_39 (by decide) ?_
  refine am_newa (at_ := .long) (ty := .long) (N := 12) O rfl (by decide) w_291 d_Store_init_41 (by decide) (by decide) (by decide) (by omega) (by omega) ?_
  refine am_putF O f_Store_23 (fun q hq => by cases hq; exact ⟨w_978, rfl⟩) rfl d_Store_init_43 (by rfl) (by decide) (by decide) (Nat.le_of_ble_eq_true rfl) (fun q hq => by cases hq; exact ⟨rfl, rfl, rfl⟩) ?_
  refine am_aload_n d_Store_init_46 rfl rfl ?_
  refine am_bipush (v := 12) d_Store_init_47 (by decide) ?_
  refine am_newa (at_ := .long) (ty := .long) (N := 12) O rfl (by decide) w_291 d_Store_init_49 (by decide) (by decide) (by decide) (by omega) (by omega) ?_
  refine am_putF O f_Store_26 (fun q hq => by cases hq; exact ⟨w_982, rfl⟩) rfl d_Store_init_51 (by rfl) (by decide) (by decide) (Nat.le_of_ble_eq_true rfl) (fun q hq => by cases hq; exact ⟨rfl, rfl, rfl⟩) ?_
  refine am_aload_n d_Store_init_54 rfl rfl ?_
  refine am_bipush (v := 10) d_Store_init_55 (by decide) ?_
  refine am_anew (N := 10) O (by decide) w_966 x_401 d_Store_init_57 (by decide) (by decide) (by decide) (by omega) (by omega) ?_
  refine am_putF O f_Store_31 (fun q hq => by cases hq; exact ⟨w_987, rfl⟩) rfl d_Store_init_60 (by rfl) (by decide) (by decide) (Nat.le_of_ble_eq_true rfl) (fun q hq => by cases hq; exact ⟨rfl, rfl, rfl⟩) ?_
  refine am_aload_n d_Store_init_63 rfl rfl ?_
  refine am_get O f_Store_16 d_Store_init_64 (by rfl) (by decide) (by decide) rfl ?_
  refine am_iconst (v := (-1)) d_Store_init_67 (by decide) ?_
  refine am_callS O (c_Arr_fill_aII O (by rfl) (by decide) (by decide) (by decide)) rfl l_Store_35 w_968 rfl (Nat.le_of_ble_eq_true rfl) d_Store_init_68 (by omega) (by omega) (by omega) (fun v h' hp => ?_)
  obtain ⟨n1, f1⟩ := h'
  obtain ⟨rfl, e1, g_1325_1, fr1⟩ := hp
  obtain rfl : n1 = 1330 := e1
  have fr1 := fun (x : Nat) (hx : x ∉ ([1325] : List Nat)) => (show f1 x = _ from fr1 x hx)
  have h_1325_1 : f1 1325 = .inl (.int, 100, (fun j => if j < 100 then .int (-1) else (fun _ => .int 0) j)) := g_1325_1
  have h_1323_1 : f1 1323 = .inl (.long, 2000, (fun _ => .long 0)) := (fr1 1323 (by decide)).trans rfl
  have h_1322_1 : f1 1322 = .inr (10, [.ref 1323, .ref 1324, .ref 1325, .ref 1326, .ref 1327, .ref 1328, .int 0, .ref 1329, .int 0]) := (fr1 1322 (by decide)).trans rfl
  have h_1324_1 : f1 1324 = .inl (.long, 2000, (fun _ => .long 0)) := (fr1 1324 (by decide)).trans rfl
  have h_1326_1 : f1 1326 = .inl (.long, 12, (fun _ => .long 0)) := (fr1 1326 (by decide)).trans rfl
  have h_1327_1 : f1 1327 = .inl (.long, 12, (fun _ => .long 0)) := (fr1 1327 (by decide)).trans rfl
  have h_1328_1 : f1 1328 = .inl (.long, 12, (fun _ => .long 0)) := (fr1 1328 (by decide)).trans rfl
  have h_1329_1 : f1 1329 = .inl (.object "StowTongue$Unit", 10, (fun _ => .null)) := (fr1 1329 (by decide)).trans rfl
  exact am_vret rfl d_Store_init_71 ⟨rfl, rfl, h_1323_1, h_1322_1, h_1324_1, h_1325_1, h_1326_1, h_1327_1, h_1328_1, h_1329_1, fun x hx => by simp only [List.mem_cons, List.not_mem_nil, or_false, not_or] at hx; dsimp only; (repeat (first | rw [va_up_ne _ _ (by omega)] | rw [fr1 x (by simp only [List.mem_cons, List.not_mem_nil, or_false, not_or]; omega)]))⟩

set_option maxRecDepth 100000 in
set_option maxHeartbeats 4000000 in
theorem t98_Log_storeAt (O : am_ok K X)   {f : Nat → am_C} (h_154 : f 154 = .inr (7, [.ref 155, .ref 156, .int 0, .int 0])) (h_155 : f 155 = .inl (.object "StowTongue$Store", 10, (updV (fun _ => .null) 1 (.ref 1314)))) : am_Mt K X m_Log_storeAt 2 8 4155 [.ref 154, .int 0] (1322, f) (fun v h' => v = some (.ref 1322) ∧ h'.1 = 1330 ∧ h'.2 1322 = .inr (10, [.ref 1323, .ref 1324, .ref 1325, .ref 1326, .ref 1327, .ref 1328, .int 0, .ref 1329, .int 0]) ∧ h'.2 1323 = .inl (.long, 2000, (fun _ => .long 0)) ∧ h'.2 1324 = .inl (.long, 2000, (fun _ => .long 0)) ∧ h'.2 1325 = .inl (.int, 100, (fun j => if j < 100 then .int (-1) else (fun _ => .int 0) j)) ∧ h'.2 1326 = .inl (.long, 12, (fun _ => .long 0)) ∧ h'.2 1327 = .inl (.long, 12, (fun _ => .long 0)) ∧ h'.2 1328 = .inl (.long, 12, (fun _ => .long 0)) ∧ h'.2 1329 = .inl (.object "StowTongue$Unit", 10, (fun _ => .null)) ∧ h'.2 155 = .inl (.object "StowTongue$Store", 10, (updV (updV (fun _ => .null) 1 (.ref 1314)) 0 (.ref 1322))) ∧ ∀ x, x ∉ ([1322, 1323, 1324, 1325, 1326, 1327, 1328, 1329, 155] : List Nat) → h'.2 x = f x) := by
  refine am_enter (by decide +kernel) (Nat.le_of_ble_eq_true rfl) ?_
  refine am_aload_n d_Log_storeAt_0 rfl rfl ?_
  refine am_get O f_Log_11 d_Log_storeAt_1 (by exact h_154) (by decide) (by decide) rfl ?_
  refine am_iload_n d_Log_storeAt_4 rfl rfl ?_
  refine am_aald (v := .null) O d_Log_storeAt_5 (by exact h_155) (by decide) (by decide) (by decide) rfl (am_in (by decide) (by decide)) rfl ?_
  refine am_astore_nN d_Log_storeAt_6 rfl (by decide) ?_
  refine am_aload_nN d_Log_storeAt_7 rfl rfl ?_
  refine am_ifnonnullN d_Log_storeAt_8 ?_
  refine am_new O n_Log_9 d_Log_storeAt_11 (by omega) (by omega) ?_
  refine am_dup d_Log_storeAt_14 rfl ?_
  refine am_callI O (t97_Store_init O (by rfl)) rfl l_Log_26 w_963 rfl rfl rfl (Nat.le_of_ble_eq_true rfl) d_Log_storeAt_15 (by omega) (by omega) (by omega) (fun v h' hp => ?_)
  obtain ⟨n1, f1⟩ := h'
  obtain ⟨rfl, e1, g_1323_1, g_1322_1, g_1324_1, g_1325_1, g_1326_1, g_1327_1, g_1328_1, g_1329_1, fr1⟩ := hp
  obtain rfl : n1 = 1330 := e1
  have fr1 := fun (x : Nat) (hx : x ∉ ([1323, 1322, 1324, 1325, 1326, 1327, 1328, 1329] : List Nat)) => (show f1 x = _ from fr1 x hx)
  have h_1323_1 : f1 1323 = .inl (.long, 2000, (fun _ => .long 0)) := g_1323_1
  have h_1322_1 : f1 1322 = .inr (10, [.ref 1323, .ref 1324, .ref 1325, .ref 1326, .ref 1327, .ref 1328, .int 0, .ref 1329, .int 0]) := g_1322_1
  have h_1324_1 : f1 1324 = .inl (.long, 2000, (fun _ => .long 0)) := g_1324_1
  have h_1325_1 : f1 1325 = .inl (.int, 100, (fun j => if j < 100 then .int (-1) else (fun _ => .int 0) j)) := g_1325_1
  have h_1326_1 : f1 1326 = .inl (.long, 12, (fun _ => .long 0)) := g_1326_1
  have h_1327_1 : f1 1327 = .inl (.long, 12, (fun _ => .long 0)) := g_1327_1
  have h_1328_1 : f1 1328 = .inl (.long, 12, (fun _ => .long 0)) := g_1328_1
  have h_1329_1 : f1 1329 = .inl (.object "StowTongue$Unit", 10, (fun _ => .null)) := g_1329_1
  refine am_astore_n d_Log_storeAt_18 rfl (by decide) ?_
  refine am_aload_n d_Log_storeAt_19 rfl rfl ?_
  have h_154_1 : f1 154 = .inr (7, [.ref 155, .ref 156, .int 0, .int 0]) := (fr1 154 (by decide)).trans h_154
  refine am_get O f_Log_11 d_Log_storeAt_20 (by exact h_154_1) (by decide) (by decide) rfl ?_
  refine am_iload_n d_Log_storeAt_23 rfl rfl ?_
  refine am_aload_n d_Log_storeAt_24 rfl rfl ?_
  have h_155_1 : f1 155 = .inl (.object "StowTongue$Store", 10, (updV (fun _ => .null) 1 (.ref 1314))) := (fr1 155 (by decide)).trans h_155
  refine am_aast O d_Log_storeAt_25 (by exact h_155_1) (by decide) (by decide) (by exact h_1322_1) (by decide) (by decide) (by rfl) (by rfl) (by decide) (am_in (by decide) (by decide)) ?_
  refine am_aload_n d_Log_storeAt_26 rfl rfl ?_
  exact am_aret rfl (Or.inl ⟨_, rfl⟩) d_Log_storeAt_27 ⟨rfl, rfl, h_1322_1, h_1323_1, h_1324_1, h_1325_1, h_1326_1, h_1327_1, h_1328_1, h_1329_1, rfl, fun x hx => by simp only [List.mem_cons, List.not_mem_nil, or_false, not_or] at hx; dsimp only; (repeat (first | rw [va_up_ne _ _ (by omega)] | rw [fr1 x (by simp only [List.mem_cons, List.not_mem_nil, or_false, not_or]; omega)]))⟩

set_option maxRecDepth 100000 in
set_option maxHeartbeats 4000000 in
theorem t99_Log_latest (O : am_ok K X)   {f : Nat → am_C} (h_154 : f 154 = .inr (7, [.ref 155, .ref 156, .int 0, .int 0])) (h_155 : f 155 = .inl (.object "StowTongue$Store", 10, (updV (fun _ => .null) 1 (.ref 1314)))) : am_Mt K X m_Log_latest 3 8 4155 [.ref 154] (1322, f) (fun v h' => v = some (.ref 1322) ∧ h'.1 = 1330 ∧ h'.2 1322 = .inr (10, [.ref 1323, .ref 1324, .ref 1325, .ref 1326, .ref 1327, .ref 1328, .int 0, .ref 1329, .int 0]) ∧ h'.2 1323 = .inl (.long, 2000, (fun _ => .long 0)) ∧ h'.2 1324 = .inl (.long, 2000, (fun _ => .long 0)) ∧ h'.2 1325 = .inl (.int, 100, (fun j => if j < 100 then .int (-1) else (fun _ => .int 0) j)) ∧ h'.2 1326 = .inl (.long, 12, (fun _ => .long 0)) ∧ h'.2 1327 = .inl (.long, 12, (fun _ => .long 0)) ∧ h'.2 1328 = .inl (.long, 12, (fun _ => .long 0)) ∧ h'.2 1329 = .inl (.object "StowTongue$Unit", 10, (fun _ => .null)) ∧ h'.2 155 = .inl (.object "StowTongue$Store", 10, (updV (updV (fun _ => .null) 1 (.ref 1314)) 0 (.ref 1322))) ∧ ∀ x, x ∉ ([1322, 1323, 1324, 1325, 1326, 1327, 1328, 1329, 155] : List Nat) → h'.2 x = f x) := by
  refine am_enter (by decide +kernel) (Nat.le_of_ble_eq_true rfl) ?_
  refine am_aload_n d_Log_latest_0 rfl rfl ?_
  refine am_aload_n d_Log_latest_1 rfl rfl ?_
  refine am_get O f_Log_27 d_Log_latest_2 (by exact h_154) (by decide) (by decide) rfl ?_
  refine am_callV O (t98_Log_storeAt O (by exact h_154) (by exact h_155)) rfl (by exact h_154) (by decide) (by decide) rfl rfl l_Log_31 ⟨w_959, w_40⟩ rfl (Nat.le_of_ble_eq_true rfl) d_Log_latest_5 (by omega) (by omega) (by omega) (fun v h' hp => ?_)
  obtain ⟨n1, f1⟩ := h'
  obtain ⟨rfl, e1, g_1322_1, g_1323_1, g_1324_1, g_1325_1, g_1326_1, g_1327_1, g_1328_1, g_1329_1, g_155_1, fr1⟩ := hp
  obtain rfl : n1 = 1330 := e1
  have fr1 := fun (x : Nat) (hx : x ∉ ([1322, 1323, 1324, 1325, 1326, 1327, 1328, 1329, 155] : List Nat)) => (show f1 x = _ from fr1 x hx)
  have h_1322_1 : f1 1322 = .inr (10, [.ref 1323, .ref 1324, .ref 1325, .ref 1326, .ref 1327, .ref 1328, .int 0, .ref 1329, .int 0]) := g_1322_1
  have h_1323_1 : f1 1323 = .inl (.long, 2000, (fun _ => .long 0)) := g_1323_1
  have h_1324_1 : f1 1324 = .inl (.long, 2000, (fun _ => .long 0)) := g_1324_1
  have h_1325_1 : f1 1325 = .inl (.int, 100, (fun j => if j < 100 then .int (-1) else (fun _ => .int 0) j)) := g_1325_1
  have h_1326_1 : f1 1326 = .inl (.long, 12, (fun _ => .long 0)) := g_1326_1
  have h_1327_1 : f1 1327 = .inl (.long, 12, (fun _ => .long 0)) := g_1327_1
  have h_1328_1 : f1 1328 = .inl (.long, 12, (fun _ => .long 0)) := g_1328_1
  have h_1329_1 : f1 1329 = .inl (.object "StowTongue$Unit", 10, (fun _ => .null)) := g_1329_1
  have h_155_1 : f1 155 = .inl (.object "StowTongue$Store", 10, (updV (updV (fun _ => .null) 1 (.ref 1314)) 0 (.ref 1322))) := g_155_1
  exact am_aret rfl (Or.inl ⟨_, rfl⟩) d_Log_latest_8 ⟨rfl, rfl, h_1322_1, h_1323_1, h_1324_1, h_1325_1, h_1326_1, h_1327_1, h_1328_1, h_1329_1, h_155_1, fun x hx => by simp only [List.mem_cons, List.not_mem_nil, or_false, not_or] at hx; dsimp only; (repeat (first | rw [va_up_ne _ _ (by omega)] | rw [fr1 x (by simp only [List.mem_cons, List.not_mem_nil, or_false, not_or]; omega)]))⟩

set_option maxRecDepth 100000 in
set_option maxHeartbeats 4000000 in
theorem t100_Store_copyFrom (O : am_ok K X)   {f : Nat → am_C} (h_1314 : f 1314 = .inr (10, [.ref 1315, .ref 1316, .ref 1317, .ref 1318, .ref 1319, .ref 1320, .int 0, .ref 1321, .int 0])) (h_1315 : f 1315 = .inl (.long, 2000, (fun _ => .long 0))) (h_1316 : f 1316 = .inl (.long, 2000, (fun _ => .long 0))) (h_1317 : f 1317 = .inl (.int, 100, (fun j => if j < 100 then .int (-1) else (fun _ => .int 0) j))) (h_1318 : f 1318 = .inl (.long, 12, (fun _ => .long 0))) (h_1319 : f 1319 = .inl (.long, 12, (fun _ => .long 0))) (h_1320 : f 1320 = .inl (.long, 12, (fun _ => .long 0))) (h_1321 : f 1321 = .inl (.object "StowTongue$Unit", 10, (fun _ => .null))) (h_1322 : f 1322 = .inr (10, [.ref 1323, .ref 1324, .ref 1325, .ref 1326, .ref 1327, .ref 1328, .int 0, .ref 1329, .int 0])) (h_1323 : f 1323 = .inl (.long, 2000, (fun _ => .long 0))) (h_1324 : f 1324 = .inl (.long, 2000, (fun _ => .long 0))) (h_1325 : f 1325 = .inl (.int, 100, (fun j => if j < 100 then .int (-1) else (fun _ => .int 0) j))) (h_1326 : f 1326 = .inl (.long, 12, (fun _ => .long 0))) (h_1327 : f 1327 = .inl (.long, 12, (fun _ => .long 0))) (h_1328 : f 1328 = .inl (.long, 12, (fun _ => .long 0))) (h_1329 : f 1329 = .inl (.object "StowTongue$Unit", 10, (fun _ => .null))) : am_Mt K X m_Store_copyFrom 1 0 0 [.ref 1314, .ref 1322] (1330, f) (fun v h' => v = none ∧ h'.1 = 1330 ∧ h'.2 1315 = .inl (.long, 2000, (va_cpy (fun _ => .long 0) (fun _ => .long 0) 0 0 2000)) ∧ h'.2 1316 = .inl (.long, 2000, (va_cpy (fun _ => .long 0) (fun _ => .long 0) 0 0 2000)) ∧ h'.2 1317 = .inl (.int, 100, (va_cpy (fun j => if j < 100 then .int (-1) else (fun _ => .int 0) j) (fun j => if j < 100 then .int (-1) else (fun _ => .int 0) j) 0 0 100)) ∧ h'.2 1318 = .inl (.long, 12, (va_cpy (fun _ => .long 0) (fun _ => .long 0) 0 0 12)) ∧ h'.2 1319 = .inl (.long, 12, (va_cpy (fun _ => .long 0) (fun _ => .long 0) 0 0 12)) ∧ h'.2 1320 = .inl (.long, 12, (va_cpy (fun _ => .long 0) (fun _ => .long 0) 0 0 12)) ∧ h'.2 1321 = .inl (.object "StowTongue$Unit", 10, (updV (updV (updV (updV (updV (updV (updV (updV (updV (updV (fun _ => .null) 0 (.null)) 1 (.null)) 2 (.null)) 3 (.null)) 4 (.null)) 5 (.null)) 6 (.null)) 7 (.null)) 8 (.null)) 9 (.null))) ∧ h'.2 1314 = .inr (10, [.ref 1315, .ref 1316, .ref 1317, .ref 1318, .ref 1319, .ref 1320, .int 0, .ref 1321, .int 0]) ∧ ∀ x, x ∉ ([1315, 1316, 1317, 1318, 1319, 1320, 1321, 1314] : List Nat) → h'.2 x = f x) := by
  refine am_enter (by decide +kernel) (Nat.le_of_ble_eq_true rfl) ?_
  refine am_aload_n d_Store_copyFrom_0 rfl rfl ?_
  refine am_get O f_Store_9 d_Store_copyFrom_1 (by exact h_1322) (by decide) (by decide) rfl ?_
  refine am_iconst (v := 0) d_Store_copyFrom_4 (by decide) ?_
  refine am_aload_n d_Store_copyFrom_5 rfl rfl ?_
  refine am_get O f_Store_9 d_Store_copyFrom_6 (by exact h_1314) (by decide) (by decide) rfl ?_
  refine am_iconst (v := 0) d_Store_copyFrom_9 (by decide) ?_
  refine am_aload_n d_Store_copyFrom_10 rfl rfl ?_
  refine am_get O f_Store_9 d_Store_copyFrom_11 (by exact h_1314) (by decide) (by decide) rfl ?_
  refine am_alen (v := 2000) O d_Store_copyFrom_14 (by exact h_1315) (by decide) (by decide) (by decide) (by decide) ?_
  refine am_copy (P := 0) (Q := 0) (N := 2000) O w_1016 w_735 w_734 w_167 d_Store_copyFrom_15 (by exact h_1323) (by decide) (by decide) (by exact h_1315) (by decide) (by decide) (by decide) (by decide) (by decide) (by decide) (by decide) (by decide) (by decide) (by decide) (by decide) (by decide) (fun i hi => by refine ⟨?_, fun r h => ?_⟩ <;> first | rfl | cases h | (dsimp only; rw [if_pos (by omega)]; rfl) | (dsimp only at h; rw [if_pos (by omega)] at h; cases h) | (simp [va_cpy, fits]; done) | (simp [va_cpy] at h; done) | (simp only [updV]; (repeat' split) <;> rfl) | (simp only [updV] at h; (repeat' (split at h)) <;> cases h)) (Nat.le_of_ble_eq_true rfl) (by omega) ?_
  refine am_aload_n d_Store_copyFrom_18 rfl rfl ?_
  refine am_get O f_Store_13 d_Store_copyFrom_19 (by exact h_1322) (by decide) (by decide) rfl ?_
  refine am_iconst (v := 0) d_Store_copyFrom_22 (by decide) ?_
  refine am_aload_n d_Store_copyFrom_23 rfl rfl ?_
  refine am_get O f_Store_13 d_Store_copyFrom_24 (by exact h_1314) (by decide) (by decide) rfl ?_
  refine am_iconst (v := 0) d_Store_copyFrom_27 (by decide) ?_
  refine am_aload_n d_Store_copyFrom_28 rfl rfl ?_
  refine am_get O f_Store_13 d_Store_copyFrom_29 (by exact h_1314) (by decide) (by decide) rfl ?_
  refine am_alen (v := 2000) O d_Store_copyFrom_32 (by exact h_1316) (by decide) (by decide) (by decide) (by decide) ?_
  refine am_copy (P := 0) (Q := 0) (N := 2000) O w_1016 w_735 w_734 w_167 d_Store_copyFrom_33 (by exact h_1324) (by decide) (by decide) (by exact h_1316) (by decide) (by decide) (by decide) (by decide) (by decide) (by decide) (by decide) (by decide) (by decide) (by decide) (by decide) (by decide) (fun i hi => by refine ⟨?_, fun r h => ?_⟩ <;> first | rfl | cases h | (dsimp only; rw [if_pos (by omega)]; rfl) | (dsimp only at h; rw [if_pos (by omega)] at h; cases h) | (simp [va_cpy, fits]; done) | (simp [va_cpy] at h; done) | (simp only [updV]; (repeat' split) <;> rfl) | (simp only [updV] at h; (repeat' (split at h)) <;> cases h)) (Nat.le_of_ble_eq_true rfl) (by omega) ?_
  refine am_aload_n d_Store_copyFrom_36 rfl rfl ?_
  refine am_get O f_Store_16 d_Store_copyFrom_37 (by exact h_1322) (by decide) (by decide) rfl ?_
  refine am_iconst (v := 0) d_Store_copyFrom_40 (by decide) ?_
  refine am_aload_n d_Store_copyFrom_41 rfl rfl ?_
  refine am_get O f_Store_16 d_Store_copyFrom_42 (by exact h_1314) (by decide) (by decide) rfl ?_
  refine am_iconst (v := 0) d_Store_copyFrom_45 (by decide) ?_
  refine am_aload_n d_Store_copyFrom_46 rfl rfl ?_
  refine am_get O f_Store_16 d_Store_copyFrom_47 (by exact h_1314) (by decide) (by decide) rfl ?_
  refine am_alen (v := 100) O d_Store_copyFrom_50 (by exact h_1317) (by decide) (by decide) (by decide) (by decide) ?_
  refine am_copy (P := 0) (Q := 0) (N := 100) O w_1016 w_735 w_734 w_167 d_Store_copyFrom_51 (by exact h_1325) (by decide) (by decide) (by exact h_1317) (by decide) (by decide) (by decide) (by decide) (by decide) (by decide) (by decide) (by decide) (by decide) (by decide) (by decide) (by decide) (fun i hi => by refine ⟨?_, fun r h => ?_⟩ <;> first | rfl | cases h | (dsimp only; rw [if_pos (by omega)]; rfl) | (dsimp only at h; rw [if_pos (by omega)] at h; cases h) | (simp [va_cpy, fits]; done) | (simp [va_cpy] at h; done) | (simp only [updV]; (repeat' split) <;> rfl) | (simp only [updV] at h; (repeat' (split at h)) <;> cases h)) (Nat.le_of_ble_eq_true rfl) (by omega) ?_
  refine am_aload_n d_Store_copyFrom_54 rfl rfl ?_
  refine am_get O f_Store_20 d_Store_copyFrom_55 (by exact h_1322) (by decide) (by decide) rfl ?_
  refine am_iconst (v := 0) d_Store_copyFrom_58 (by decide) ?_
  refine am_aload_n d_Store_copyFrom_59 rfl rfl ?_
  refine am_get O f_Store_20 d_Store_copyFrom_60 (by exact h_1314) (by decide) (by decide) rfl ?_
  refine am_iconst (v := 0) d_Store_copyFrom_63 (by decide) ?_
  refine am_aload_n d_Store_copyFrom_64 rfl rfl ?_
  refine am_get O f_Store_20 d_Store_copyFrom_65 (by exact h_1314) (by decide) (by decide) rfl ?_
  refine am_alen (v := 12) O d_Store_copyFrom_68 (by exact h_1318) (by decide) (by decide) (by decide) (by decide) ?_
  refine am_copy (P := 0) (Q := 0) (N := 12) O w_1016 w_735 w_734 w_167 d_Store_copyFrom_69 (by exact h_1326) (by decide) (by decide) (by exact h_1318) (by decide) (by decide) (by decide) (by decide) (by decide) (by decide) (by decide) (by decide) (by decide) (by decide) (by decide) (by decide) (fun i hi => by refine ⟨?_, fun r h => ?_⟩ <;> first | rfl | cases h | (dsimp only; rw [if_pos (by omega)]; rfl) | (dsimp only at h; rw [if_pos (by omega)] at h; cases h) | (simp [va_cpy, fits]; done) | (simp [va_cpy] at h; done) | (simp only [updV]; (repeat' split) <;> rfl) | (simp only [updV] at h; (repeat' (split at h)) <;> cases h)) (Nat.le_of_ble_eq_true rfl) (by omega) ?_
  refine am_aload_n d_Store_copyFrom_72 rfl rfl ?_
  refine am_get O f_Store_23 d_Store_copyFrom_73 (by exact h_1322) (by decide) (by decide) rfl ?_
  refine am_iconst (v := 0) d_Store_copyFrom_76 (by decide) ?_
  refine am_aload_n d_Store_copyFrom_77 rfl rfl ?_
  refine am_get O f_Store_23 d_Store_copyFrom_78 (by exact h_1314) (by decide) (by decide) rfl ?_
  refine am_iconst (v := 0) d_Store_copyFrom_81 (by decide) ?_
  refine am_aload_n d_Store_copyFrom_82 rfl rfl ?_
  refine am_get O f_Store_23 d_Store_copyFrom_83 (by exact h_1314) (by decide) (by decide) rfl ?_
  refine am_alen (v := 12) O d_Store_copyFrom_86 (by exact h_1319) (by decide) (by decide) (by decide) (by decide) ?_
  refine am_copy (P := 0) (Q := 0) (N := 12) O w_1016 w_735 w_734 w_167 d_Store_copyFrom_87 (by exact h_1327) (by decide) (by decide) (by exact h_1319) (by decide) (by decide) (by decide) (by decide) (by decide) (by decide) (by decide) (by decide) (by decide) (by decide) (by decide) (by decide) (fun i hi => by refine ⟨?_, fun r h => ?_⟩ <;> first | rfl | cases h | (dsimp only; rw [if_pos (by omega)]; rfl) | (dsimp only at h; rw [if_pos (by omega)] at h; cases h) | (simp [va_cpy, fits]; done) | (simp [va_cpy] at h; done) | (simp only [updV]; (repeat' split) <;> rfl) | (simp only [updV] at h; (repeat' (split at h)) <;> cases h)) (Nat.le_of_ble_eq_true rfl) (by omega) ?_
  refine am_aload_n d_Store_copyFrom_90 rfl rfl ?_
  refine am_get O f_Store_26 d_Store_copyFrom_91 (by exact h_1322) (by decide) (by decide) rfl ?_
  refine am_iconst (v := 0) d_Store_copyFrom_94 (by decide) ?_
  refine am_aload_n d_Store_copyFrom_95 rfl rfl ?_
  refine am_get O f_Store_26 d_Store_copyFrom_96 (by exact h_1314) (by decide) (by decide) rfl ?_
  refine am_iconst (v := 0) d_Store_copyFrom_99 (by decide) ?_
  refine am_aload_n d_Store_copyFrom_100 rfl rfl ?_
  refine am_get O f_Store_26 d_Store_copyFrom_101 (by exact h_1314) (by decide) (by decide) rfl ?_
  refine am_alen (v := 12) O d_Store_copyFrom_104 (by exact h_1320) (by decide) (by decide) (by decide) (by decide) ?_
  refine am_copy (P := 0) (Q := 0) (N := 12) O w_1016 w_735 w_734 w_167 d_Store_copyFrom_105 (by exact h_1328) (by decide) (by decide) (by exact h_1320) (by decide) (by decide) (by decide) (by decide) (by decide) (by decide) (by decide) (by decide) (by decide) (by decide) (by decide) (by decide) (fun i hi => by refine ⟨?_, fun r h => ?_⟩ <;> first | rfl | cases h | (dsimp only; rw [if_pos (by omega)]; rfl) | (dsimp only at h; rw [if_pos (by omega)] at h; cases h) | (simp [va_cpy, fits]; done) | (simp [va_cpy] at h; done) | (simp only [updV]; (repeat' split) <;> rfl) | (simp only [updV] at h; (repeat' (split at h)) <;> cases h)) (Nat.le_of_ble_eq_true rfl) (by omega) ?_
  refine am_iconst (v := 0) d_Store_copyFrom_108 (by decide) ?_
  refine am_istore_n d_Store_copyFrom_109 rfl (by decide) ?_
  refine am_iload_n d_Store_copyFrom_110 rfl rfl ?_
  refine am_bipush (v := 10) d_Store_copyFrom_111 (by decide) ?_
  refine am_icmp_ge (tgt := 134) d_Store_copyFrom_113 (by decide) (fun c => absurd c (by decide)) (fun _ => ?_)
  refine am_aload_n d_Store_copyFrom_116 rfl rfl ?_
  refine am_get O f_Store_31 d_Store_copyFrom_117 (by exact h_1314) (by decide) (by decide) rfl ?_
  refine am_iload_n d_Store_copyFrom_120 rfl rfl ?_
  refine am_aload_n d_Store_copyFrom_121 rfl rfl ?_
  refine am_get O f_Store_31 d_Store_copyFrom_122 (by exact h_1322) (by decide) (by decide) rfl ?_
  refine am_iload_n d_Store_copyFrom_125 rfl rfl ?_
  refine am_aald (v := .null) O d_Store_copyFrom_126 (by exact h_1329) (by decide) (by decide) (by decide) rfl (am_in (by decide) (by decide)) rfl ?_
  refine am_aastN (C := "StowTongue$Unit") O (by decide) d_Store_copyFrom_127 (by exact h_1321) (by decide) (by decide) (am_in (by decide) (by decide)) ?_
  refine am_iinc (v := 1) d_Store_copyFrom_128 rfl (by decide) (by decide) ?_
  refine am_locs (lv' := [(0, .ref 1314), (1, .ref 1322), (2, .int 1)]) rfl ?_
  refine am_goto (tgt := 110) d_Store_copyFrom_131 (by decide) ?_
  refine am_iload_n d_Store_copyFrom_110 rfl rfl ?_
  refine am_bipush (v := 10) d_Store_copyFrom_111 (by decide) ?_
  refine am_icmp_ge (tgt := 134) d_Store_copyFrom_113 (by decide) (fun c => absurd c (by decide)) (fun _ => ?_)
  refine am_aload_n d_Store_copyFrom_116 rfl rfl ?_
  refine am_get O f_Store_31 d_Store_copyFrom_117 (by exact h_1314) (by decide) (by decide) rfl ?_
  refine am_iload_n d_Store_copyFrom_120 rfl rfl ?_
  refine am_aload_n d_Store_copyFrom_121 rfl rfl ?_
  refine am_get O f_Store_31 d_Store_copyFrom_122 (by exact h_1322) (by decide) (by decide) rfl ?_
  refine am_iload_n d_Store_copyFrom_125 rfl rfl ?_
  refine am_aald (v := .null) O d_Store_copyFrom_126 (by exact h_1329) (by decide) (by decide) (by decide) rfl (am_in (by decide) (by decide)) rfl ?_
  refine am_aastN (C := "StowTongue$Unit") O (by decide) d_Store_copyFrom_127 (by rfl) (by decide) (by decide) (am_in (by decide) (by decide)) ?_
  refine am_iinc (v := 1) d_Store_copyFrom_128 rfl (by decide) (by decide) ?_
  refine am_locs (lv' := [(0, .ref 1314), (1, .ref 1322), (2, .int 2)]) rfl ?_
  refine am_goto (tgt := 110) d_Store_copyFrom_131 (by decide) ?_
  refine am_iload_n d_Store_copyFrom_110 rfl rfl ?_
  refine am_bipush (v := 10) d_Store_copyFrom_111 (by decide) ?_
  refine am_icmp_ge (tgt := 134) d_Store_copyFrom_113 (by decide) (fun c => absurd c (by decide)) (fun _ => ?_)
  refine am_aload_n d_Store_copyFrom_116 rfl rfl ?_
  refine am_get O f_Store_31 d_Store_copyFrom_117 (by exact h_1314) (by decide) (by decide) rfl ?_
  refine am_iload_n d_Store_copyFrom_120 rfl rfl ?_
  refine am_aload_n d_Store_copyFrom_121 rfl rfl ?_
  refine am_get O f_Store_31 d_Store_copyFrom_122 (by exact h_1322) (by decide) (by decide) rfl ?_
  refine am_iload_n d_Store_copyFrom_125 rfl rfl ?_
  refine am_aald (v := .null) O d_Store_copyFrom_126 (by exact h_1329) (by decide) (by decide) (by decide) rfl (am_in (by decide) (by decide)) rfl ?_
  refine am_aastN (C := "StowTongue$Unit") O (by decide) d_Store_copyFrom_127 (by rfl) (by decide) (by decide) (am_in (by decide) (by decide)) ?_
  refine am_iinc (v := 1) d_Store_copyFrom_128 rfl (by decide) (by decide) ?_
  refine am_locs (lv' := [(0, .ref 1314), (1, .ref 1322), (2, .int 3)]) rfl ?_
  refine am_goto (tgt := 110) d_Store_copyFrom_131 (by decide) ?_
  refine am_iload_n d_Store_copyFrom_110 rfl rfl ?_
  refine am_bipush (v := 10) d_Store_copyFrom_111 (by decide) ?_
  refine am_icmp_ge (tgt := 134) d_Store_copyFrom_113 (by decide) (fun c => absurd c (by decide)) (fun _ => ?_)
  refine am_aload_n d_Store_copyFrom_116 rfl rfl ?_
  refine am_get O f_Store_31 d_Store_copyFrom_117 (by exact h_1314) (by decide) (by decide) rfl ?_
  refine am_iload_n d_Store_copyFrom_120 rfl rfl ?_
  refine am_aload_n d_Store_copyFrom_121 rfl rfl ?_
  refine am_get O f_Store_31 d_Store_copyFrom_122 (by exact h_1322) (by decide) (by decide) rfl ?_
  refine am_iload_n d_Store_copyFrom_125 rfl rfl ?_
  refine am_aald (v := .null) O d_Store_copyFrom_126 (by exact h_1329) (by decide) (by decide) (by decide) rfl (am_in (by decide) (by decide)) rfl ?_
  refine am_aastN (C := "StowTongue$Unit") O (by decide) d_Store_copyFrom_127 (by rfl) (by decide) (by decide) (am_in (by decide) (by decide)) ?_
  refine am_iinc (v := 1) d_Store_copyFrom_128 rfl (by decide) (by decide) ?_
  refine am_locs (lv' := [(0, .ref 1314), (1, .ref 1322), (2, .int 4)]) rfl ?_
  refine am_goto (tgt := 110) d_Store_copyFrom_131 (by decide) ?_
  refine am_iload_n d_Store_copyFrom_110 rfl rfl ?_
  refine am_bipush (v := 10) d_Store_copyFrom_111 (by decide) ?_
  refine am_icmp_ge (tgt := 134) d_Store_copyFrom_113 (by decide) (fun c => absurd c (by decide)) (fun _ => ?_)
  refine am_aload_n d_Store_copyFrom_116 rfl rfl ?_
  refine am_get O f_Store_31 d_Store_copyFrom_117 (by exact h_1314) (by decide) (by decide) rfl ?_
  refine am_iload_n d_Store_copyFrom_120 rfl rfl ?_
  refine am_aload_n d_Store_copyFrom_121 rfl rfl ?_
  refine am_get O f_Store_31 d_Store_copyFrom_122 (by exact h_1322) (by decide) (by decide) rfl ?_
  refine am_iload_n d_Store_copyFrom_125 rfl rfl ?_
  refine am_aald (v := .null) O d_Store_copyFrom_126 (by exact h_1329) (by decide) (by decide) (by decide) rfl (am_in (by decide) (by decide)) rfl ?_
  refine am_aastN (C := "StowTongue$Unit") O (by decide) d_Store_copyFrom_127 (by rfl) (by decide) (by decide) (am_in (by decide) (by decide)) ?_
  refine am_iinc (v := 1) d_Store_copyFrom_128 rfl (by decide) (by decide) ?_
  refine am_locs (lv' := [(0, .ref 1314), (1, .ref 1322), (2, .int 5)]) rfl ?_
  refine am_goto (tgt := 110) d_Store_copyFrom_131 (by decide) ?_
  refine am_iload_n d_Store_copyFrom_110 rfl rfl ?_
  refine am_bipush (v := 10) d_Store_copyFrom_111 (by decide) ?_
  refine am_icmp_ge (tgt := 134) d_Store_copyFrom_113 (by decide) (fun c => absurd c (by decide)) (fun _ => ?_)
  refine am_aload_n d_Store_copyFrom_116 rfl rfl ?_
  refine am_get O f_Store_31 d_Store_copyFrom_117 (by exact h_1314) (by decide) (by decide) rfl ?_
  refine am_iload_n d_Store_copyFrom_120 rfl rfl ?_
  refine am_aload_n d_Store_copyFrom_121 rfl rfl ?_
  refine am_get O f_Store_31 d_Store_copyFrom_122 (by exact h_1322) (by decide) (by decide) rfl ?_
  refine am_iload_n d_Store_copyFrom_125 rfl rfl ?_
  refine am_aald (v := .null) O d_Store_copyFrom_126 (by exact h_1329) (by decide) (by decide) (by decide) rfl (am_in (by decide) (by decide)) rfl ?_
  refine am_aastN (C := "StowTongue$Unit") O (by decide) d_Store_copyFrom_127 (by rfl) (by decide) (by decide) (am_in (by decide) (by decide)) ?_
  refine am_iinc (v := 1) d_Store_copyFrom_128 rfl (by decide) (by decide) ?_
  refine am_locs (lv' := [(0, .ref 1314), (1, .ref 1322), (2, .int 6)]) rfl ?_
  refine am_goto (tgt := 110) d_Store_copyFrom_131 (by decide) ?_
  refine am_iload_n d_Store_copyFrom_110 rfl rfl ?_
  refine am_bipush (v := 10) d_Store_copyFrom_111 (by decide) ?_
  refine am_icmp_ge (tgt := 134) d_Store_copyFrom_113 (by decide) (fun c => absurd c (by decide)) (fun _ => ?_)
  refine am_aload_n d_Store_copyFrom_116 rfl rfl ?_
  refine am_get O f_Store_31 d_Store_copyFrom_117 (by exact h_1314) (by decide) (by decide) rfl ?_
  refine am_iload_n d_Store_copyFrom_120 rfl rfl ?_
  refine am_aload_n d_Store_copyFrom_121 rfl rfl ?_
  refine am_get O f_Store_31 d_Store_copyFrom_122 (by exact h_1322) (by decide) (by decide) rfl ?_
  refine am_iload_n d_Store_copyFrom_125 rfl rfl ?_
  refine am_aald (v := .null) O d_Store_copyFrom_126 (by exact h_1329) (by decide) (by decide) (by decide) rfl (am_in (by decide) (by decide)) rfl ?_
  refine am_aastN (C := "StowTongue$Unit") O (by decide) d_Store_copyFrom_127 (by rfl) (by decide) (by decide) (am_in (by decide) (by decide)) ?_
  refine am_iinc (v := 1) d_Store_copyFrom_128 rfl (by decide) (by decide) ?_
  refine am_locs (lv' := [(0, .ref 1314), (1, .ref 1322), (2, .int 7)]) rfl ?_
  refine am_goto (tgt := 110) d_Store_copyFrom_131 (by decide) ?_
  refine am_iload_n d_Store_copyFrom_110 rfl rfl ?_
  refine am_bipush (v := 10) d_Store_copyFrom_111 (by decide) ?_
  refine am_icmp_ge (tgt := 134) d_Store_copyFrom_113 (by decide) (fun c => absurd c (by decide)) (fun _ => ?_)
  refine am_aload_n d_Store_copyFrom_116 rfl rfl ?_
  refine am_get O f_Store_31 d_Store_copyFrom_117 (by exact h_1314) (by decide) (by decide) rfl ?_
  refine am_iload_n d_Store_copyFrom_120 rfl rfl ?_
  refine am_aload_n d_Store_copyFrom_121 rfl rfl ?_
  refine am_get O f_Store_31 d_Store_copyFrom_122 (by exact h_1322) (by decide) (by decide) rfl ?_
  refine am_iload_n d_Store_copyFrom_125 rfl rfl ?_
  refine am_aald (v := .null) O d_Store_copyFrom_126 (by exact h_1329) (by decide) (by decide) (by decide) rfl (am_in (by decide) (by decide)) rfl ?_
  refine am_aastN (C := "StowTongue$Unit") O (by decide) d_Store_copyFrom_127 (by rfl) (by decide) (by decide) (am_in (by decide) (by decide)) ?_
  refine am_iinc (v := 1) d_Store_copyFrom_128 rfl (by decide) (by decide) ?_
  refine am_locs (lv' := [(0, .ref 1314), (1, .ref 1322), (2, .int 8)]) rfl ?_
  refine am_goto (tgt := 110) d_Store_copyFrom_131 (by decide) ?_
  refine am_iload_n d_Store_copyFrom_110 rfl rfl ?_
  refine am_bipush (v := 10) d_Store_copyFrom_111 (by decide) ?_
  refine am_icmp_ge (tgt := 134) d_Store_copyFrom_113 (by decide) (fun c => absurd c (by decide)) (fun _ => ?_)
  refine am_aload_n d_Store_copyFrom_116 rfl rfl ?_
  refine am_get O f_Store_31 d_Store_copyFrom_117 (by exact h_1314) (by decide) (by decide) rfl ?_
  refine am_iload_n d_Store_copyFrom_120 rfl rfl ?_
  refine am_aload_n d_Store_copyFrom_121 rfl rfl ?_
  refine am_get O f_Store_31 d_Store_copyFrom_122 (by exact h_1322) (by decide) (by decide) rfl ?_
  refine am_iload_n d_Store_copyFrom_125 rfl rfl ?_
  refine am_aald (v := .null) O d_Store_copyFrom_126 (by exact h_1329) (by decide) (by decide) (by decide) rfl (am_in (by decide) (by decide)) rfl ?_
  refine am_aastN (C := "StowTongue$Unit") O (by decide) d_Store_copyFrom_127 (by rfl) (by decide) (by decide) (am_in (by decide) (by decide)) ?_
  refine am_iinc (v := 1) d_Store_copyFrom_128 rfl (by decide) (by decide) ?_
  refine am_locs (lv' := [(0, .ref 1314), (1, .ref 1322), (2, .int 9)]) rfl ?_
  refine am_goto (tgt := 110) d_Store_copyFrom_131 (by decide) ?_
  refine am_iload_n d_Store_copyFrom_110 rfl rfl ?_
  refine am_bipush (v := 10) d_Store_copyFrom_111 (by decide) ?_
  refine am_icmp_ge (tgt := 134) d_Store_copyFrom_113 (by decide) (fun c => absurd c (by decide)) (fun _ => ?_)
  refine am_aload_n d_Store_copyFrom_116 rfl rfl ?_
  refine am_get O f_Store_31 d_Store_copyFrom_117 (by exact h_1314) (by decide) (by decide) rfl ?_
  refine am_iload_n d_Store_copyFrom_120 rfl rfl ?_
  refine am_aload_n d_Store_copyFrom_121 rfl rfl ?_
  refine am_get O f_Store_31 d_Store_copyFrom_122 (by exact h_1322) (by decide) (by decide) rfl ?_
  refine am_iload_n d_Store_copyFrom_125 rfl rfl ?_
  refine am_aald (v := .null) O d_Store_copyFrom_126 (by exact h_1329) (by decide) (by decide) (by decide) rfl (am_in (by decide) (by decide)) rfl ?_
  refine am_aastN (C := "StowTongue$Unit") O (by decide) d_Store_copyFrom_127 (by rfl) (by decide) (by decide) (am_in (by decide) (by decide)) ?_
  refine am_iinc (v := 1) d_Store_copyFrom_128 rfl (by decide) (by decide) ?_
  refine am_locs (lv' := [(0, .ref 1314), (1, .ref 1322), (2, .int 10)]) rfl ?_
  refine am_goto (tgt := 110) d_Store_copyFrom_131 (by decide) ?_
  refine am_iload_n d_Store_copyFrom_110 rfl rfl ?_
  refine am_bipush (v := 10) d_Store_copyFrom_111 (by decide) ?_
  refine am_icmp_ge (tgt := 134) d_Store_copyFrom_113 (by decide) (fun _ => ?_) (fun c => absurd (by decide) c)
  refine am_aload_n d_Store_copyFrom_134 rfl rfl ?_
  refine am_aload_n d_Store_copyFrom_135 rfl rfl ?_
  refine am_get O f_Store_47 d_Store_copyFrom_136 (by exact h_1322) (by decide) (by decide) rfl ?_
  refine am_put O f_Store_47 d_Store_copyFrom_139 (by exact h_1314) (by decide) (by decide) (Nat.le_of_ble_eq_true rfl) (fun q hq => by cases hq; exact ⟨rfl, rfl, rfl⟩) ?_
  refine am_aload_n d_Store_copyFrom_142 rfl rfl ?_
  refine am_aload_n d_Store_copyFrom_143 rfl rfl ?_
  refine am_get O f_Store_51 d_Store_copyFrom_144 (by exact h_1322) (by decide) (by decide) rfl ?_
  refine am_put O f_Store_51 d_Store_copyFrom_147 (by rfl) (by decide) (by decide) (Nat.le_of_ble_eq_true rfl) (fun q hq => by cases hq; exact ⟨rfl, rfl, rfl⟩) ?_
  exact am_vret rfl d_Store_copyFrom_150 ⟨rfl, rfl, rfl, rfl, rfl, rfl, rfl, rfl, rfl, rfl, fun x hx => by simp only [List.mem_cons, List.not_mem_nil, or_false, not_or] at hx; dsimp only; (repeat (first | rw [va_up_ne _ _ (by omega)]))⟩

set_option maxRecDepth 100000 in
set_option maxHeartbeats 4000000 in
theorem t101_Log_workCopy (O : am_ok K X)   {f : Nat → am_C} (h_154 : f 154 = .inr (7, [.ref 155, .ref 156, .int 0, .int 0])) (h_155 : f 155 = .inl (.object "StowTongue$Store", 10, (fun _ => .null))) : am_Mt K X m_Log_workCopy 4 16 8310 [.ref 154] (1314, f) (fun v h' => v = some (.ref 1314) ∧ h'.1 = 1330 ∧ h'.2 1314 = .inr (10, [.ref 1315, .ref 1316, .ref 1317, .ref 1318, .ref 1319, .ref 1320, .int 0, .ref 1321, .int 0]) ∧ h'.2 1315 = .inl (.long, 2000, (va_cpy (fun _ => .long 0) (fun _ => .long 0) 0 0 2000)) ∧ h'.2 1316 = .inl (.long, 2000, (va_cpy (fun _ => .long 0) (fun _ => .long 0) 0 0 2000)) ∧ h'.2 1317 = .inl (.int, 100, (va_cpy (fun j => if j < 100 then .int (-1) else (fun _ => .int 0) j) (fun j => if j < 100 then .int (-1) else (fun _ => .int 0) j) 0 0 100)) ∧ h'.2 1318 = .inl (.long, 12, (va_cpy (fun _ => .long 0) (fun _ => .long 0) 0 0 12)) ∧ h'.2 1319 = .inl (.long, 12, (va_cpy (fun _ => .long 0) (fun _ => .long 0) 0 0 12)) ∧ h'.2 1320 = .inl (.long, 12, (va_cpy (fun _ => .long 0) (fun _ => .long 0) 0 0 12)) ∧ h'.2 1321 = .inl (.object "StowTongue$Unit", 10, (updV (updV (updV (updV (updV (updV (updV (updV (updV (updV (fun _ => .null) 0 (.null)) 1 (.null)) 2 (.null)) 3 (.null)) 4 (.null)) 5 (.null)) 6 (.null)) 7 (.null)) 8 (.null)) 9 (.null))) ∧ h'.2 155 = .inl (.object "StowTongue$Store", 10, (updV (updV (fun _ => .null) 1 (.ref 1314)) 0 (.ref 1322))) ∧ h'.2 1322 = .inr (10, [.ref 1323, .ref 1324, .ref 1325, .ref 1326, .ref 1327, .ref 1328, .int 0, .ref 1329, .int 0]) ∧ h'.2 1323 = .inl (.long, 2000, (fun _ => .long 0)) ∧ h'.2 1324 = .inl (.long, 2000, (fun _ => .long 0)) ∧ h'.2 1325 = .inl (.int, 100, (fun j => if j < 100 then .int (-1) else (fun _ => .int 0) j)) ∧ h'.2 1326 = .inl (.long, 12, (fun _ => .long 0)) ∧ h'.2 1327 = .inl (.long, 12, (fun _ => .long 0)) ∧ h'.2 1328 = .inl (.long, 12, (fun _ => .long 0)) ∧ h'.2 1329 = .inl (.object "StowTongue$Unit", 10, (fun _ => .null)) ∧ ∀ x, x ∉ ([1314, 1315, 1316, 1317, 1318, 1319, 1320, 1321, 155, 1322, 1323, 1324, 1325, 1326, 1327, 1328, 1329] : List Nat) → h'.2 x = f x) := by
  refine am_enter (by decide +kernel) (Nat.le_of_ble_eq_true rfl) ?_
  refine am_aload_n d_Log_workCopy_0 rfl rfl ?_
  refine am_aload_n d_Log_workCopy_1 rfl rfl ?_
  refine am_get O f_Log_27 d_Log_workCopy_2 (by exact h_154) (by decide) (by decide) rfl ?_
  refine am_iconst (v := 1) d_Log_workCopy_5 (by decide) ?_
  refine am_iadd d_Log_workCopy_6 ?_
  refine am_topi (v := 1) (by decide) ?_
  refine am_callV O (t96_Log_storeAt O (by exact h_154) (by exact h_155)) rfl (by exact h_154) (by decide) (by decide) rfl rfl l_Log_31 ⟨w_959, w_40⟩ rfl (Nat.le_of_ble_eq_true rfl) d_Log_workCopy_7 (by omega) (by omega) (by omega) (fun v h' hp => ?_)
  obtain ⟨n1, f1⟩ := h'
  obtain ⟨rfl, e1, g_1314_1, g_1315_1, g_1316_1, g_1317_1, g_1318_1, g_1319_1, g_1320_1, g_1321_1, g_155_1, fr1⟩ := hp
  obtain rfl : n1 = 1322 := e1
  have fr1 := fun (x : Nat) (hx : x ∉ ([1314, 1315, 1316, 1317, 1318, 1319, 1320, 1321, 155] : List Nat)) => (show f1 x = _ from fr1 x hx)
  have h_1314_1 : f1 1314 = .inr (10, [.ref 1315, .ref 1316, .ref 1317, .ref 1318, .ref 1319, .ref 1320, .int 0, .ref 1321, .int 0]) := g_1314_1
  have h_1315_1 : f1 1315 = .inl (.long, 2000, (fun _ => .long 0)) := g_1315_1
  have h_1316_1 : f1 1316 = .inl (.long, 2000, (fun _ => .long 0)) := g_1316_1
  have h_1317_1 : f1 1317 = .inl (.int, 100, (fun j => if j < 100 then .int (-1) else (fun _ => .int 0) j)) := g_1317_1
  have h_1318_1 : f1 1318 = .inl (.long, 12, (fun _ => .long 0)) := g_1318_1
  have h_1319_1 : f1 1319 = .inl (.long, 12, (fun _ => .long 0)) := g_1319_1
  have h_1320_1 : f1 1320 = .inl (.long, 12, (fun _ => .long 0)) := g_1320_1
  have h_1321_1 : f1 1321 = .inl (.object "StowTongue$Unit", 10, (fun _ => .null)) := g_1321_1
  have h_155_1 : f1 155 = .inl (.object "StowTongue$Store", 10, (updV (fun _ => .null) 1 (.ref 1314))) := g_155_1
  refine am_astore_n d_Log_workCopy_10 rfl (by decide) ?_
  refine am_aload_n d_Log_workCopy_11 rfl rfl ?_
  refine am_aload_n d_Log_workCopy_12 rfl rfl ?_
  have h_154_1 : f1 154 = .inr (7, [.ref 155, .ref 156, .int 0, .int 0]) := (fr1 154 (by decide)).trans h_154
  refine am_callV O (t99_Log_latest O (by exact h_154_1) (by exact h_155_1)) rfl (by exact h_154_1) (by decide) (by decide) rfl rfl l_Log_35 ⟨w_1009, w_1010⟩ rfl (Nat.le_of_ble_eq_true rfl) d_Log_workCopy_13 (by omega) (by omega) (by omega) (fun v h' hp => ?_)
  obtain ⟨n2, f2⟩ := h'
  obtain ⟨rfl, e2, g_1322_2, g_1323_2, g_1324_2, g_1325_2, g_1326_2, g_1327_2, g_1328_2, g_1329_2, g_155_2, fr2⟩ := hp
  obtain rfl : n2 = 1330 := e2
  have fr2 := fun (x : Nat) (hx : x ∉ ([1322, 1323, 1324, 1325, 1326, 1327, 1328, 1329, 155] : List Nat)) => (show f2 x = _ from fr2 x hx)
  have h_1322_2 : f2 1322 = .inr (10, [.ref 1323, .ref 1324, .ref 1325, .ref 1326, .ref 1327, .ref 1328, .int 0, .ref 1329, .int 0]) := g_1322_2
  have h_1323_2 : f2 1323 = .inl (.long, 2000, (fun _ => .long 0)) := g_1323_2
  have h_1324_2 : f2 1324 = .inl (.long, 2000, (fun _ => .long 0)) := g_1324_2
  have h_1325_2 : f2 1325 = .inl (.int, 100, (fun j => if j < 100 then .int (-1) else (fun _ => .int 0) j)) := g_1325_2
  have h_1326_2 : f2 1326 = .inl (.long, 12, (fun _ => .long 0)) := g_1326_2
  have h_1327_2 : f2 1327 = .inl (.long, 12, (fun _ => .long 0)) := g_1327_2
  have h_1328_2 : f2 1328 = .inl (.long, 12, (fun _ => .long 0)) := g_1328_2
  have h_1329_2 : f2 1329 = .inl (.object "StowTongue$Unit", 10, (fun _ => .null)) := g_1329_2
  have h_155_2 : f2 155 = .inl (.object "StowTongue$Store", 10, (updV (updV (fun _ => .null) 1 (.ref 1314)) 0 (.ref 1322))) := g_155_2
  have h_1314_2 : f2 1314 = .inr (10, [.ref 1315, .ref 1316, .ref 1317, .ref 1318, .ref 1319, .ref 1320, .int 0, .ref 1321, .int 0]) := (fr2 1314 (by decide)).trans h_1314_1
  have h_1315_2 : f2 1315 = .inl (.long, 2000, (fun _ => .long 0)) := (fr2 1315 (by decide)).trans h_1315_1
  have h_1316_2 : f2 1316 = .inl (.long, 2000, (fun _ => .long 0)) := (fr2 1316 (by decide)).trans h_1316_1
  have h_1317_2 : f2 1317 = .inl (.int, 100, (fun j => if j < 100 then .int (-1) else (fun _ => .int 0) j)) := (fr2 1317 (by decide)).trans h_1317_1
  have h_1318_2 : f2 1318 = .inl (.long, 12, (fun _ => .long 0)) := (fr2 1318 (by decide)).trans h_1318_1
  have h_1319_2 : f2 1319 = .inl (.long, 12, (fun _ => .long 0)) := (fr2 1319 (by decide)).trans h_1319_1
  have h_1320_2 : f2 1320 = .inl (.long, 12, (fun _ => .long 0)) := (fr2 1320 (by decide)).trans h_1320_1
  have h_1321_2 : f2 1321 = .inl (.object "StowTongue$Unit", 10, (fun _ => .null)) := (fr2 1321 (by decide)).trans h_1321_1
  refine am_callV O (t100_Store_copyFrom O (by exact h_1314_2) (by exact h_1315_2) (by exact h_1316_2) (by exact h_1317_2) (by exact h_1318_2) (by exact h_1319_2) (by exact h_1320_2) (by exact h_1321_2) (by exact h_1322_2) (by exact h_1323_2) (by exact h_1324_2) (by exact h_1325_2) (by exact h_1326_2) (by exact h_1327_2) (by exact h_1328_2) (by exact h_1329_2)) rfl (by exact h_1314_2) (by decide) (by decide) rfl rfl l_Log_39 ⟨w_1013, w_1014⟩ rfl (Nat.le_of_ble_eq_true rfl) d_Log_workCopy_16 (by omega) (by omega) (by omega) (fun v h' hp => ?_)
  obtain ⟨n3, f3⟩ := h'
  obtain ⟨rfl, e3, g_1315_3, g_1316_3, g_1317_3, g_1318_3, g_1319_3, g_1320_3, g_1321_3, g_1314_3, fr3⟩ := hp
  obtain rfl : n3 = 1330 := e3
  have fr3 := fun (x : Nat) (hx : x ∉ ([1315, 1316, 1317, 1318, 1319, 1320, 1321, 1314] : List Nat)) => (show f3 x = _ from fr3 x hx)
  have h_1315_3 : f3 1315 = .inl (.long, 2000, (va_cpy (fun _ => .long 0) (fun _ => .long 0) 0 0 2000)) := g_1315_3
  have h_1316_3 : f3 1316 = .inl (.long, 2000, (va_cpy (fun _ => .long 0) (fun _ => .long 0) 0 0 2000)) := g_1316_3
  have h_1317_3 : f3 1317 = .inl (.int, 100, (va_cpy (fun j => if j < 100 then .int (-1) else (fun _ => .int 0) j) (fun j => if j < 100 then .int (-1) else (fun _ => .int 0) j) 0 0 100)) := g_1317_3
  have h_1318_3 : f3 1318 = .inl (.long, 12, (va_cpy (fun _ => .long 0) (fun _ => .long 0) 0 0 12)) := g_1318_3
  have h_1319_3 : f3 1319 = .inl (.long, 12, (va_cpy (fun _ => .long 0) (fun _ => .long 0) 0 0 12)) := g_1319_3
  have h_1320_3 : f3 1320 = .inl (.long, 12, (va_cpy (fun _ => .long 0) (fun _ => .long 0) 0 0 12)) := g_1320_3
  have h_1321_3 : f3 1321 = .inl (.object "StowTongue$Unit", 10, (updV (updV (updV (updV (updV (updV (updV (updV (updV (updV (fun _ => .null) 0 (.null)) 1 (.null)) 2 (.null)) 3 (.null)) 4 (.null)) 5 (.null)) 6 (.null)) 7 (.null)) 8 (.null)) 9 (.null))) := g_1321_3
  have h_1314_3 : f3 1314 = .inr (10, [.ref 1315, .ref 1316, .ref 1317, .ref 1318, .ref 1319, .ref 1320, .int 0, .ref 1321, .int 0]) := g_1314_3
  refine am_aload_n d_Log_workCopy_19 rfl rfl ?_
  have h_155_3 : f3 155 = .inl (.object "StowTongue$Store", 10, (updV (updV (fun _ => .null) 1 (.ref 1314)) 0 (.ref 1322))) := (fr3 155 (by decide)).trans h_155_2
  have h_1322_3 : f3 1322 = .inr (10, [.ref 1323, .ref 1324, .ref 1325, .ref 1326, .ref 1327, .ref 1328, .int 0, .ref 1329, .int 0]) := (fr3 1322 (by decide)).trans h_1322_2
  have h_1323_3 : f3 1323 = .inl (.long, 2000, (fun _ => .long 0)) := (fr3 1323 (by decide)).trans h_1323_2
  have h_1324_3 : f3 1324 = .inl (.long, 2000, (fun _ => .long 0)) := (fr3 1324 (by decide)).trans h_1324_2
  have h_1325_3 : f3 1325 = .inl (.int, 100, (fun j => if j < 100 then .int (-1) else (fun _ => .int 0) j)) := (fr3 1325 (by decide)).trans h_1325_2
  have h_1326_3 : f3 1326 = .inl (.long, 12, (fun _ => .long 0)) := (fr3 1326 (by decide)).trans h_1326_2
  have h_1327_3 : f3 1327 = .inl (.long, 12, (fun _ => .long 0)) := (fr3 1327 (by decide)).trans h_1327_2
  have h_1328_3 : f3 1328 = .inl (.long, 12, (fun _ => .long 0)) := (fr3 1328 (by decide)).trans h_1328_2
  have h_1329_3 : f3 1329 = .inl (.object "StowTongue$Unit", 10, (fun _ => .null)) := (fr3 1329 (by decide)).trans h_1329_2
  exact am_aret rfl (Or.inl ⟨_, rfl⟩) d_Log_workCopy_20 ⟨rfl, rfl, h_1314_3, h_1315_3, h_1316_3, h_1317_3, h_1318_3, h_1319_3, h_1320_3, h_1321_3, h_155_3, h_1322_3, h_1323_3, h_1324_3, h_1325_3, h_1326_3, h_1327_3, h_1328_3, h_1329_3, fun x hx => by simp only [List.mem_cons, List.not_mem_nil, or_false, not_or] at hx; dsimp only; (repeat (first | rw [va_up_ne _ _ (by omega)] | rw [fr1 x (by simp only [List.mem_cons, List.not_mem_nil, or_false, not_or]; omega)] | rw [fr2 x (by simp only [List.mem_cons, List.not_mem_nil, or_false, not_or]; omega)] | rw [fr3 x (by simp only [List.mem_cons, List.not_mem_nil, or_false, not_or]; omega)]))⟩

set_option maxRecDepth 100000 in
set_option maxHeartbeats 4000000 in
theorem t102_AL_size (O : am_ok K X)   {f : Nat → am_C} (h_144 : f 144 = .inr (3, [.ref 1, .int 0, .int 1])) : am_Mt K X m_AL_size 0 0 0 [.ref 144] (1330, f) (fun v h' => v = some (.int 0) ∧ h' = (1330, f)) := by
  refine am_enter (by decide +kernel) (Nat.le_of_ble_eq_true rfl) ?_
  refine am_aload_n d_AL_size_0 rfl rfl ?_
  refine am_get O f_AL_48 d_AL_size_1 (by exact h_144) (by decide) (by decide) rfl ?_
  exact am_iret rfl d_AL_size_4 ⟨rfl, rfl⟩

set_option maxRecDepth 100000 in
set_option maxHeartbeats 4000000 in
theorem t103_Pars_tellInto (O : am_ok K X)   {f : Nat → am_C} (h_132 : f 132 = .inr (5, [.ref 133, .ref 136, .ref 140, .ref 136, .ref 144, .ref 1311, .int (-1), .int 0])) (h_144 : f 144 = .inr (3, [.ref 1, .int 0, .int 1])) : am_Mt K X m_Pars_tellInto 1 0 0 [.ref 132, .ref 1314] (1330, f) (fun v h' => v = some (.int 1) ∧ h' = (1330, f)) := by
  refine am_enter (by decide +kernel) (Nat.le_of_ble_eq_true rfl) ?_
  refine am_iconst (v := 0) d_Pars_tellInto_0 (by decide) ?_
  refine am_istore_n d_Pars_tellInto_1 rfl (by decide) ?_
  refine am_iload_n d_Pars_tellInto_2 rfl rfl ?_
  refine am_aload_n d_Pars_tellInto_3 rfl rfl ?_
  refine am_get O f_Pars_34 d_Pars_tellInto_4 (by exact h_132) (by decide) (by decide) rfl ?_
  refine am_callV O (t102_AL_size O (by exact h_144)) rfl (by exact h_144) (by decide) (by decide) rfl rfl l_Pars_74 ⟨w_1022, w_1023⟩ rfl (Nat.le_of_ble_eq_true rfl) d_Pars_tellInto_7 (by omega) (by omega) (by omega) (fun v h' hp => ?_)
  obtain ⟨rfl, rfl⟩ := hp
  refine am_icmp_ge (tgt := 39) d_Pars_tellInto_10 (by decide) (fun _ => ?_) (fun c => absurd (by decide) c)
  refine am_iconst (v := 1) d_Pars_tellInto_39 (by decide) ?_
  exact am_zret rfl rfl d_Pars_tellInto_40 ⟨rfl, rfl⟩

set_option maxRecDepth 100000 in
set_option maxHeartbeats 4000000 in
theorem t104_Pars_program (O : am_ok K X)   {f : Nat → am_C} (h_132 : f 132 = .inr (5, [.ref 133, .ref 136, .ref 140, .ref 136, .ref 144, .ref 1311, .int (-1), .int 0])) : am_Mt K X m_Pars_program 0 0 0 [.ref 132] (1330, f) (fun v h' => v = some (.ref 1311) ∧ h' = (1330, f)) := by
  refine am_enter (by decide +kernel) (Nat.le_of_ble_eq_true rfl) ?_
  refine am_aload_n d_Pars_program_0 rfl rfl ?_
  refine am_get O f_Pars_43 d_Pars_program_1 (by exact h_132) (by decide) (by decide) rfl ?_
  exact am_aret rfl (Or.inl ⟨_, rfl⟩) d_Pars_program_4 ⟨rfl, rfl⟩

set_option maxRecDepth 100000 in
set_option maxHeartbeats 4000000 in
theorem t105_Mach_below (O : am_ok K X) {x : Int32}  {f : Nat → am_C} (h_148 : f 148 = .inr (6, [.ref 149, .ref 150, .int 0, .int 0, .null, .int 0, .ref 151, .ref 152, .ref 153, .int 0, .ref 1314, .ref 130, .int x, .int 0, .int 0, .int 0, .long 0, .long 0])) : am_Mt K X m_Mach_below 1 0 0 [.ref 148, .int 0] (1330, f) (fun v h' => v = some (.int 0) ∧ h' = (1330, f)) := by
  refine am_enter (by decide +kernel) (Nat.le_of_ble_eq_true rfl) ?_
  refine am_iconst (v := 0) d_Mach_below_0 (by decide) ?_
  refine am_aload_n d_Mach_below_1 rfl rfl ?_
  refine am_get O f_Mach_54 d_Mach_below_2 (by exact h_148) (by decide) (by decide) rfl ?_
  refine am_iload_n d_Mach_below_5 rfl rfl ?_
  refine am_isub d_Mach_below_6 ?_
  refine am_topi (v := 0) (by decide) ?_
  refine am_mmax w_1073 w_623 w_164 w_624 d_Mach_below_7 (Nat.le_of_ble_eq_true rfl) (by omega) ?_
  refine am_topi (v := 0) (by decide) ?_
  exact am_iret rfl d_Mach_below_10 ⟨rfl, rfl⟩

set_option maxRecDepth 100000 in
set_option maxHeartbeats 4000000 in
theorem t106_Unit_locals (O : am_ok K X)   {f : Nat → am_C} (h_1311 : f 1311 = .inr (4, [.long 0, .int 0, .int 0, .int 0, .ref 1312, .ref 1313])) : am_Mt K X m_Unit_locals 0 0 0 [.ref 1311] (1330, f) (fun v h' => v = some (.int 0) ∧ h' = (1330, f)) := by
  refine am_enter (by decide +kernel) (Nat.le_of_ble_eq_true rfl) ?_
  refine am_aload_n d_Unit_locals_0 rfl rfl ?_
  refine am_get O f_Unit_17 d_Unit_locals_1 (by exact h_1311) (by decide) (by decide) rfl ?_
  exact am_iret rfl d_Unit_locals_4 ⟨rfl, rfl⟩

set_option maxRecDepth 100000 in
set_option maxHeartbeats 4000000 in
theorem t107_Mach_enter (O : am_ok K X) {x : Int32}  {f : Nat → am_C} (h_148 : f 148 = .inr (6, [.ref 149, .ref 150, .int 0, .int 0, .null, .int 0, .ref 151, .ref 152, .ref 153, .int 0, .ref 1314, .ref 130, .int x, .int 0, .int 0, .int 0, .long 0, .long 0])) (h_1311 : f 1311 = .inr (4, [.long 0, .int 0, .int 0, .int 0, .ref 1312, .ref 1313])) : am_Mt K X m_Mach_enter 2 0 0 [.ref 148, .ref 1311, .int 0] (1330, f) (fun v h' => v = none ∧ h'.1 = 1330 ∧ h'.2 148 = .inr (6, [.ref 149, .ref 150, .int 0, .int 0, .ref 1311, .int 0, .ref 151, .ref 152, .ref 153, .int 0, .ref 1314, .ref 130, .int x, .int 0, .int 0, .int 0, .long 0, .long 0]) ∧ ∀ x, x ∉ ([148] : List Nat) → h'.2 x = f x) := by
  refine am_enter (by decide +kernel) (Nat.le_of_ble_eq_true rfl) ?_
  refine am_aload_n d_Mach_enter_0 rfl rfl ?_
  refine am_aload_n d_Mach_enter_1 rfl rfl ?_
  refine am_iload_n d_Mach_enter_2 rfl rfl ?_
  refine am_callV O (t105_Mach_below O (by exact h_148)) rfl (by exact h_148) (by decide) (by decide) rfl rfl l_Mach_133 ⟨w_1071, w_43⟩ rfl (Nat.le_of_ble_eq_true rfl) d_Mach_enter_3 (by omega) (by omega) (by omega) (fun v h' hp => ?_)
  obtain ⟨rfl, rfl⟩ := hp
  refine am_put O f_Mach_171 d_Mach_enter_6 (by exact h_148) (by decide) (by decide) (Nat.le_of_ble_eq_true rfl) (fun q hq => by cases hq; exact ⟨rfl, rfl, rfl⟩) ?_
  refine am_aload_n d_Mach_enter_9 rfl rfl ?_
  refine am_aload_n d_Mach_enter_10 rfl rfl ?_
  refine am_put O f_Mach_62 d_Mach_enter_11 (by rfl) (by decide) (by decide) (Nat.le_of_ble_eq_true rfl) (fun q hq => by cases hq; exact ⟨rfl, rfl, rfl⟩) ?_
  refine am_aload_n d_Mach_enter_14 rfl rfl ?_
  refine am_iconst (v := 0) d_Mach_enter_15 (by decide) ?_
  refine am_put O f_Mach_66 d_Mach_enter_16 (by rfl) (by decide) (by decide) (Nat.le_of_ble_eq_true rfl) (fun q hq => by cases hq; exact ⟨rfl, rfl, rfl⟩) ?_
  refine am_iload_n d_Mach_enter_19 rfl rfl ?_
  refine am_istore_n d_Mach_enter_20 rfl (by decide) ?_
  refine am_iload_n d_Mach_enter_21 rfl rfl ?_
  refine am_aload_n d_Mach_enter_22 rfl rfl ?_
  refine am_callV O (t106_Unit_locals O (by exact h_1311)) rfl (by exact h_1311) (by decide) (by decide) rfl rfl l_Mach_174 ⟨w_1075, w_1076⟩ rfl (Nat.le_of_ble_eq_true rfl) d_Mach_enter_23 (by omega) (by omega) (by omega) (fun v h' hp => ?_)
  obtain ⟨rfl, rfl⟩ := hp
  refine am_icmp_ge (tgt := 41) d_Mach_enter_26 (by decide) (fun _ => ?_) (fun c => absurd (by decide) c)
  exact am_vret rfl d_Mach_enter_41 ⟨rfl, rfl, rfl, fun x hx => by simp only [List.mem_cons, List.not_mem_nil, or_false, not_or] at hx; dsimp only; (repeat (first | rw [va_up_ne _ _ (by omega)]))⟩

set_option maxRecDepth 100000 in
set_option maxHeartbeats 4000000 in
theorem t108_Unit_op (O : am_ok K X)   {f : Nat → am_C} (h_1311 : f 1311 = .inr (4, [.long 0, .int 0, .int 0, .int 0, .ref 1312, .ref 1313])) (h_1312 : f 1312 = .inl (.int, 4, (va_cpy (updV (updV (updV (updV (fun _ => .int 0) 0 (.int 10)) 1 (.int 0)) 2 (.int 6)) 3 (.int 0)) (fun _ => .int 0) 0 0 4))) : am_Mt K X m_Unit_op 0 0 0 [.ref 1311, .int 0] (1330, f) (fun v h' => v = some (.int 10) ∧ h' = (1330, f)) := by
  refine am_enter (by decide +kernel) (Nat.le_of_ble_eq_true rfl) ?_
  refine am_iconst (v := 2) d_Unit_op_0 (by decide) ?_
  refine am_iload_n d_Unit_op_1 rfl rfl ?_
  refine am_imul d_Unit_op_2 ?_
  refine am_topi (v := 0) (by decide) ?_
  refine am_istore_n d_Unit_op_3 rfl (by decide) ?_
  refine am_iload_n d_Unit_op_4 rfl rfl ?_
  refine am_if_lt (tgt := 26) d_Unit_op_5 (by decide) (fun c => absurd c (by decide)) (fun _ => ?_)
  refine am_iload_n d_Unit_op_8 rfl rfl ?_
  refine am_aload_n d_Unit_op_9 rfl rfl ?_
  refine am_get O f_Unit_23 d_Unit_op_10 (by exact h_1311) (by decide) (by decide) rfl ?_
  refine am_alen (v := 4) O d_Unit_op_13 (by exact h_1312) (by decide) (by decide) (by decide) (by decide) ?_
  refine am_icmp_ge (tgt := 26) d_Unit_op_14 (by decide) (fun c => absurd c (by decide)) (fun _ => ?_)
  refine am_aload_n d_Unit_op_17 rfl rfl ?_
  refine am_get O f_Unit_23 d_Unit_op_18 (by exact h_1311) (by decide) (by decide) rfl ?_
  refine am_iload_n d_Unit_op_21 rfl rfl ?_
  refine am_iald (v := .int 10) O (by decide) d_Unit_op_22 (by exact h_1312) (by decide) (by decide) (am_in (by decide) (by decide)) rfl ?_
  refine am_goto (tgt := 28) d_Unit_op_23 (by decide) ?_
  exact am_iret rfl d_Unit_op_28 ⟨rfl, rfl⟩

set_option maxRecDepth 100000 in
set_option maxHeartbeats 4000000 in
theorem t109_Unit_argument (O : am_ok K X)   {f : Nat → am_C} (h_1311 : f 1311 = .inr (4, [.long 0, .int 0, .int 0, .int 0, .ref 1312, .ref 1313])) (h_1312 : f 1312 = .inl (.int, 4, (va_cpy (updV (updV (updV (updV (fun _ => .int 0) 0 (.int 10)) 1 (.int 0)) 2 (.int 6)) 3 (.int 0)) (fun _ => .int 0) 0 0 4))) : am_Mt K X m_Unit_argument 0 0 0 [.ref 1311, .int 0] (1330, f) (fun v h' => v = some (.int 0) ∧ h' = (1330, f)) := by
  refine am_enter (by decide +kernel) (Nat.le_of_ble_eq_true rfl) ?_
  refine am_iconst (v := 2) d_Unit_argument_0 (by decide) ?_
  refine am_iload_n d_Unit_argument_1 rfl rfl ?_
  refine am_imul d_Unit_argument_2 ?_
  refine am_topi (v := 0) (by decide) ?_
  refine am_iconst (v := 1) d_Unit_argument_3 (by decide) ?_
  refine am_iadd d_Unit_argument_4 ?_
  refine am_topi (v := 1) (by decide) ?_
  refine am_istore_n d_Unit_argument_5 rfl (by decide) ?_
  refine am_iload_n d_Unit_argument_6 rfl rfl ?_
  refine am_iconst (v := 1) d_Unit_argument_7 (by decide) ?_
  refine am_icmp_lt (tgt := 29) d_Unit_argument_8 (by decide) (fun c => absurd c (by decide)) (fun _ => ?_)
  refine am_iload_n d_Unit_argument_11 rfl rfl ?_
  refine am_aload_n d_Unit_argument_12 rfl rfl ?_
  refine am_get O f_Unit_23 d_Unit_argument_13 (by exact h_1311) (by decide) (by decide) rfl ?_
  refine am_alen (v := 4) O d_Unit_argument_16 (by exact h_1312) (by decide) (by decide) (by decide) (by decide) ?_
  refine am_icmp_ge (tgt := 29) d_Unit_argument_17 (by decide) (fun c => absurd c (by decide)) (fun _ => ?_)
  refine am_aload_n d_Unit_argument_20 rfl rfl ?_
  refine am_get O f_Unit_23 d_Unit_argument_21 (by exact h_1311) (by decide) (by decide) rfl ?_
  refine am_iload_n d_Unit_argument_24 rfl rfl ?_
  refine am_iald (v := .int 0) O (by decide) d_Unit_argument_25 (by exact h_1312) (by decide) (by decide) (am_in (by decide) (by decide)) rfl ?_
  refine am_goto (tgt := 30) d_Unit_argument_26 (by decide) ?_
  exact am_iret rfl d_Unit_argument_30 ⟨rfl, rfl⟩

set_option maxRecDepth 100000 in
set_option maxHeartbeats 4000000 in
theorem t110_Mach_lay (O : am_ok K X) {x : Int32}  {f : Nat → am_C} (h_148 : f 148 = .inr (6, [.ref 149, .ref 150, .int 0, .int 0, .ref 1311, .int 1, .ref 151, .ref 152, .ref 153, .int 0, .ref 1314, .ref 130, .int x, .int 0, .int 0, .int 0, .long 0, .long 0])) (h_149 : f 149 = .inl (.long, 64, (fun _ => .long 0))) (h_150 : f 150 = .inl (.long, 64, (fun _ => .long 0))) : am_Mt K X m_Mach_lay 0 0 0 [.ref 148, .long 0, .long 0] (1330, f) (fun v h' => v = none ∧ h'.1 = 1330 ∧ h'.2 149 = .inl (.long, 64, (updV (fun _ => .long 0) 0 (.long 0))) ∧ h'.2 150 = .inl (.long, 64, (updV (fun _ => .long 0) 0 (.long 0))) ∧ h'.2 148 = .inr (6, [.ref 149, .ref 150, .int 1, .int 0, .ref 1311, .int 1, .ref 151, .ref 152, .ref 153, .int 0, .ref 1314, .ref 130, .int x, .int 0, .int 0, .int 0, .long 0, .long 0]) ∧ ∀ x, x ∉ ([149, 150, 148] : List Nat) → h'.2 x = f x) := by
  refine am_enter (by decide +kernel) (Nat.le_of_ble_eq_true rfl) ?_
  refine am_aload_n d_Mach_lay_0 rfl rfl ?_
  refine am_get O f_Mach_54 d_Mach_lay_1 (by exact h_148) (by decide) (by decide) rfl ?_
  refine am_aload_n d_Mach_lay_4 rfl rfl ?_
  refine am_get O f_Mach_7 d_Mach_lay_5 (by exact h_148) (by decide) (by decide) rfl ?_
  refine am_alen (v := 64) O d_Mach_lay_8 (by exact h_149) (by decide) (by decide) (by decide) (by decide) ?_
  refine am_icmp_ne (tgt := 63) d_Mach_lay_9 (by decide) (fun _ => ?_) (fun c => absurd c (by decide))
  refine am_aload_n d_Mach_lay_63 rfl rfl ?_
  refine am_get O f_Mach_7 d_Mach_lay_64 (by exact h_148) (by decide) (by decide) rfl ?_
  refine am_aload_n d_Mach_lay_67 rfl rfl ?_
  refine am_get O f_Mach_54 d_Mach_lay_68 (by exact h_148) (by decide) (by decide) rfl ?_
  refine am_lload_n d_Mach_lay_71 rfl rfl ?_
  refine am_last O (by decide) d_Mach_lay_72 (by exact h_149) (by decide) (by decide) (am_in (by decide) (by decide)) ?_
  refine am_aload_n d_Mach_lay_73 rfl rfl ?_
  refine am_get O f_Mach_13 d_Mach_lay_74 (by exact h_148) (by decide) (by decide) rfl ?_
  refine am_aload_n d_Mach_lay_77 rfl rfl ?_
  refine am_get O f_Mach_54 d_Mach_lay_78 (by exact h_148) (by decide) (by decide) rfl ?_
  refine am_lload_n d_Mach_lay_81 rfl rfl ?_
  refine am_last O (by decide) d_Mach_lay_82 (by exact h_150) (by decide) (by decide) (am_in (by decide) (by decide)) ?_
  refine am_aload_n d_Mach_lay_83 rfl rfl ?_
  refine am_dup d_Mach_lay_84 rfl ?_
  refine am_get O f_Mach_54 d_Mach_lay_85 (by exact h_148) (by decide) (by decide) rfl ?_
  refine am_iconst (v := 1) d_Mach_lay_88 (by decide) ?_
  refine am_iadd d_Mach_lay_89 ?_
  refine am_topi (v := 1) (by decide) ?_
  refine am_put O f_Mach_54 d_Mach_lay_90 (by exact h_148) (by decide) (by decide) (Nat.le_of_ble_eq_true rfl) (fun q hq => by cases hq; exact ⟨rfl, rfl, rfl⟩) ?_
  exact am_vret rfl d_Mach_lay_93 ⟨rfl, rfl, rfl, rfl, rfl, fun x hx => by simp only [List.mem_cons, List.not_mem_nil, or_false, not_or] at hx; dsimp only; (repeat (first | rw [va_up_ne _ _ (by omega)]))⟩

set_option maxRecDepth 100000 in
set_option maxHeartbeats 4000000 in
theorem t111_Mach_doConstant (O : am_ok K X) {x : Int32}  {f : Nat → am_C} (h_148 : f 148 = .inr (6, [.ref 149, .ref 150, .int 0, .int 0, .ref 1311, .int 1, .ref 151, .ref 152, .ref 153, .int 0, .ref 1314, .ref 130, .int x, .int 0, .int 0, .int 0, .long 0, .long 0])) (h_149 : f 149 = .inl (.long, 64, (fun _ => .long 0))) (h_150 : f 150 = .inl (.long, 64, (fun _ => .long 0))) : am_Mt K X m_Mach_doConstant 1 0 0 [.ref 148, .int 10, .int 0] (1330, f) (fun v h' => v = none ∧ h'.1 = 1330 ∧ h'.2 149 = .inl (.long, 64, (updV (fun _ => .long 0) 0 (.long 0))) ∧ h'.2 150 = .inl (.long, 64, (updV (fun _ => .long 0) 0 (.long 0))) ∧ h'.2 148 = .inr (6, [.ref 149, .ref 150, .int 1, .int 0, .ref 1311, .int 1, .ref 151, .ref 152, .ref 153, .int 0, .ref 1314, .ref 130, .int x, .int 0, .int 0, .int 0, .long 0, .long 0]) ∧ ∀ x, x ∉ ([149, 150, 148] : List Nat) → h'.2 x = f x) := by
  refine am_enter (by decide +kernel) (Nat.le_of_ble_eq_true rfl) ?_
  refine am_iload_n d_Mach_doConstant_0 rfl rfl ?_
  refine am_bipush (v := 11) d_Mach_doConstant_1 (by decide) ?_
  refine am_icmp_ne (tgt := 15) d_Mach_doConstant_3 (by decide) (fun _ => ?_) (fun c => absurd c (by decide))
  refine am_iload_n d_Mach_doConstant_15 rfl rfl ?_
  refine am_bipush (v := 12) d_Mach_doConstant_16 (by decide) ?_
  refine am_icmp_ne (tgt := 46) d_Mach_doConstant_18 (by decide) (fun _ => ?_) (fun c => absurd c (by decide))
  refine am_aload_n d_Mach_doConstant_46 rfl rfl ?_
  refine am_lconst (v := 0) d_Mach_doConstant_47 (by decide) ?_
  refine am_lconst (v := 0) d_Mach_doConstant_48 (by decide) ?_
  refine am_callV O (t110_Mach_lay O (by exact h_148) (by exact h_149) (by exact h_150)) rfl (by exact h_148) (by decide) (by decide) rfl rfl l_Mach_121 ⟨w_1080, w_44⟩ rfl (Nat.le_of_ble_eq_true rfl) d_Mach_doConstant_49 (by omega) (by omega) (by omega) (fun v h' hp => ?_)
  obtain ⟨n1, f1⟩ := h'
  obtain ⟨rfl, e1, g_149_1, g_150_1, g_148_1, fr1⟩ := hp
  obtain rfl : n1 = 1330 := e1
  have fr1 := fun (x : Nat) (hx : x ∉ ([149, 150, 148] : List Nat)) => (show f1 x = _ from fr1 x hx)
  have h_149_1 : f1 149 = .inl (.long, 64, (updV (fun _ => .long 0) 0 (.long 0))) := g_149_1
  have h_150_1 : f1 150 = .inl (.long, 64, (updV (fun _ => .long 0) 0 (.long 0))) := g_150_1
  have h_148_1 : f1 148 = .inr (6, [.ref 149, .ref 150, .int 1, .int 0, .ref 1311, .int 1, .ref 151, .ref 152, .ref 153, .int 0, .ref 1314, .ref 130, .int x, .int 0, .int 0, .int 0, .long 0, .long 0]) := g_148_1
  exact am_vret rfl d_Mach_doConstant_52 ⟨rfl, rfl, h_149_1, h_150_1, h_148_1, fun x hx => by simp only [List.mem_cons, List.not_mem_nil, or_false, not_or] at hx; dsimp only; (repeat (first | rw [va_up_ne _ _ (by omega)] | rw [fr1 x (by simp only [List.mem_cons, List.not_mem_nil, or_false, not_or]; omega)]))⟩

set_option maxRecDepth 100000 in
set_option maxHeartbeats 4000000 in
theorem t112_Unit_op (O : am_ok K X)   {f : Nat → am_C} (h_1311 : f 1311 = .inr (4, [.long 0, .int 0, .int 0, .int 0, .ref 1312, .ref 1313])) (h_1312 : f 1312 = .inl (.int, 4, (va_cpy (updV (updV (updV (updV (fun _ => .int 0) 0 (.int 10)) 1 (.int 0)) 2 (.int 6)) 3 (.int 0)) (fun _ => .int 0) 0 0 4))) : am_Mt K X m_Unit_op 0 0 0 [.ref 1311, .int 1] (1330, f) (fun v h' => v = some (.int 6) ∧ h' = (1330, f)) := by
  refine am_enter (by decide +kernel) (Nat.le_of_ble_eq_true rfl) ?_
  refine am_iconst (v := 2) d_Unit_op_0 (by decide) ?_
  refine am_iload_n d_Unit_op_1 rfl rfl ?_
  refine am_imul d_Unit_op_2 ?_
  refine am_topi (v := 2) (by decide) ?_
  refine am_istore_n d_Unit_op_3 rfl (by decide) ?_
  refine am_iload_n d_Unit_op_4 rfl rfl ?_
  refine am_if_lt (tgt := 26) d_Unit_op_5 (by decide) (fun c => absurd c (by decide)) (fun _ => ?_)
  refine am_iload_n d_Unit_op_8 rfl rfl ?_
  refine am_aload_n d_Unit_op_9 rfl rfl ?_
  refine am_get O f_Unit_23 d_Unit_op_10 (by exact h_1311) (by decide) (by decide) rfl ?_
  refine am_alen (v := 4) O d_Unit_op_13 (by exact h_1312) (by decide) (by decide) (by decide) (by decide) ?_
  refine am_icmp_ge (tgt := 26) d_Unit_op_14 (by decide) (fun c => absurd c (by decide)) (fun _ => ?_)
  refine am_aload_n d_Unit_op_17 rfl rfl ?_
  refine am_get O f_Unit_23 d_Unit_op_18 (by exact h_1311) (by decide) (by decide) rfl ?_
  refine am_iload_n d_Unit_op_21 rfl rfl ?_
  refine am_iald (v := .int 6) O (by decide) d_Unit_op_22 (by exact h_1312) (by decide) (by decide) (am_in (by decide) (by decide)) rfl ?_
  refine am_goto (tgt := 28) d_Unit_op_23 (by decide) ?_
  exact am_iret rfl d_Unit_op_28 ⟨rfl, rfl⟩

set_option maxRecDepth 100000 in
set_option maxHeartbeats 4000000 in
theorem t113_Unit_argument (O : am_ok K X)   {f : Nat → am_C} (h_1311 : f 1311 = .inr (4, [.long 0, .int 0, .int 0, .int 0, .ref 1312, .ref 1313])) (h_1312 : f 1312 = .inl (.int, 4, (va_cpy (updV (updV (updV (updV (fun _ => .int 0) 0 (.int 10)) 1 (.int 0)) 2 (.int 6)) 3 (.int 0)) (fun _ => .int 0) 0 0 4))) : am_Mt K X m_Unit_argument 0 0 0 [.ref 1311, .int 1] (1330, f) (fun v h' => v = some (.int 0) ∧ h' = (1330, f)) := by
  refine am_enter (by decide +kernel) (Nat.le_of_ble_eq_true rfl) ?_
  refine am_iconst (v := 2) d_Unit_argument_0 (by decide) ?_
  refine am_iload_n d_Unit_argument_1 rfl rfl ?_
  refine am_imul d_Unit_argument_2 ?_
  refine am_topi (v := 2) (by decide) ?_
  refine am_iconst (v := 1) d_Unit_argument_3 (by decide) ?_
  refine am_iadd d_Unit_argument_4 ?_
  refine am_topi (v := 3) (by decide) ?_
  refine am_istore_n d_Unit_argument_5 rfl (by decide) ?_
  refine am_iload_n d_Unit_argument_6 rfl rfl ?_
  refine am_iconst (v := 1) d_Unit_argument_7 (by decide) ?_
  refine am_icmp_lt (tgt := 29) d_Unit_argument_8 (by decide) (fun c => absurd c (by decide)) (fun _ => ?_)
  refine am_iload_n d_Unit_argument_11 rfl rfl ?_
  refine am_aload_n d_Unit_argument_12 rfl rfl ?_
  refine am_get O f_Unit_23 d_Unit_argument_13 (by exact h_1311) (by decide) (by decide) rfl ?_
  refine am_alen (v := 4) O d_Unit_argument_16 (by exact h_1312) (by decide) (by decide) (by decide) (by decide) ?_
  refine am_icmp_ge (tgt := 29) d_Unit_argument_17 (by decide) (fun c => absurd c (by decide)) (fun _ => ?_)
  refine am_aload_n d_Unit_argument_20 rfl rfl ?_
  refine am_get O f_Unit_23 d_Unit_argument_21 (by exact h_1311) (by decide) (by decide) rfl ?_
  refine am_iload_n d_Unit_argument_24 rfl rfl ?_
  refine am_iald (v := .int 0) O (by decide) d_Unit_argument_25 (by exact h_1312) (by decide) (by decide) (am_in (by decide) (by decide)) rfl ?_
  refine am_goto (tgt := 30) d_Unit_argument_26 (by decide) ?_
  exact am_iret rfl d_Unit_argument_30 ⟨rfl, rfl⟩

set_option maxRecDepth 100000 in
set_option maxHeartbeats 4000000 in
theorem t114_Mach_below (O : am_ok K X) {x : Int32}  {f : Nat → am_C} (h_148 : f 148 = .inr (6, [.ref 149, .ref 150, .int 1, .int 0, .ref 1311, .int 2, .ref 151, .ref 152, .ref 153, .int 0, .ref 1314, .ref 130, .int x, .int 0, .int 0, .int 0, .long 0, .long 0])) : am_Mt K X m_Mach_below 1 0 0 [.ref 148, .int 1] (1330, f) (fun v h' => v = some (.int 0) ∧ h' = (1330, f)) := by
  refine am_enter (by decide +kernel) (Nat.le_of_ble_eq_true rfl) ?_
  refine am_iconst (v := 0) d_Mach_below_0 (by decide) ?_
  refine am_aload_n d_Mach_below_1 rfl rfl ?_
  refine am_get O f_Mach_54 d_Mach_below_2 (by exact h_148) (by decide) (by decide) rfl ?_
  refine am_iload_n d_Mach_below_5 rfl rfl ?_
  refine am_isub d_Mach_below_6 ?_
  refine am_topi (v := 0) (by decide) ?_
  refine am_mmax w_1073 w_623 w_164 w_624 d_Mach_below_7 (Nat.le_of_ble_eq_true rfl) (by omega) ?_
  refine am_topi (v := 0) (by decide) ?_
  exact am_iret rfl d_Mach_below_10 ⟨rfl, rfl⟩

set_option maxRecDepth 100000 in
set_option maxHeartbeats 4000000 in
theorem t115_Cell_isTrue (O : am_ok K X)   {h : am_H} : am_Mt K X m_Cell_isTrue 1 0 0 [.long 0, .long 0] h (fun v h' => v = some (.int 0) ∧ h' = h) := by
  refine am_enter (by decide +kernel) (Nat.le_of_ble_eq_true rfl) ?_
  refine am_lload_n d_Cell_isTrue_0 rfl rfl ?_
  refine am_callS O (t1_Cell_sortOf O) rfl l_Cell_9 w_1104 rfl (Nat.le_of_ble_eq_true rfl) d_Cell_isTrue_1 (by omega) (by omega) (by omega) (fun v h' hp => ?_)
  obtain ⟨rfl, rfl⟩ := hp
  refine am_istore d_Cell_isTrue_4 (by decide) ?_
  refine am_iload d_Cell_isTrue_6 rfl ?_
  refine am_if_eq (tgt := 27) d_Cell_isTrue_8 (by decide) (fun _ => ?_) (fun c => absurd (by decide) c)
  refine am_iconst (v := 0) d_Cell_isTrue_27 (by decide) ?_
  exact am_zret rfl rfl d_Cell_isTrue_28 ⟨rfl, rfl⟩

set_option maxRecDepth 100000 in
set_option maxHeartbeats 4000000 in
theorem t116_Mach_leave (O : am_ok K X) {x : Int32}  {f : Nat → am_C} (h_148 : f 148 = .inr (6, [.ref 149, .ref 150, .int 1, .int 0, .ref 1311, .int 2, .ref 151, .ref 152, .ref 153, .int 0, .ref 1314, .ref 130, .int x, .int 0, .int 0, .int 0, .long 0, .long 0])) (h_149 : f 149 = .inl (.long, 64, (updV (fun _ => .long 0) 0 (.long 0)))) (h_150 : f 150 = .inl (.long, 64, (updV (fun _ => .long 0) 0 (.long 0)))) : am_Mt K X m_Mach_leave 2 0 0 [.ref 148] (1330, f) (fun v h' => v = none ∧ h'.1 = 1330 ∧ h'.2 148 = .inr (6, [.ref 149, .ref 150, .int 1, .int 0, .ref 1311, .int 2, .ref 151, .ref 152, .ref 153, .int 0, .ref 1314, .ref 130, .int x, .int 0, .int 0, .int 1, .long 0, .long 0]) ∧ ∀ x, x ∉ ([148] : List Nat) → h'.2 x = f x) := by
  refine am_enter (by decide +kernel) (Nat.le_of_ble_eq_true rfl) ?_
  refine am_aload_n d_Mach_leave_0 rfl rfl ?_
  refine am_iconst (v := 1) d_Mach_leave_1 (by decide) ?_
  refine am_callV O (t114_Mach_below O (by exact h_148)) rfl (by exact h_148) (by decide) (by decide) rfl rfl l_Mach_133 ⟨w_1071, w_43⟩ rfl (Nat.le_of_ble_eq_true rfl) d_Mach_leave_2 (by omega) (by omega) (by omega) (fun v h' hp => ?_)
  obtain ⟨rfl, rfl⟩ := hp
  refine am_istore_n d_Mach_leave_5 rfl (by decide) ?_
  refine am_aload_n d_Mach_leave_6 rfl rfl ?_
  refine am_aload_n d_Mach_leave_7 rfl rfl ?_
  refine am_get O f_Mach_7 d_Mach_leave_8 (by exact h_148) (by decide) (by decide) rfl ?_
  refine am_iload_n d_Mach_leave_11 rfl rfl ?_
  refine am_lald (v := .long 0) O (by decide) d_Mach_leave_12 (by exact h_149) (by decide) (by decide) (am_in (by decide) (by decide)) rfl ?_
  refine am_put O f_Mach_93 d_Mach_leave_13 (by exact h_148) (by decide) (by decide) (Nat.le_of_ble_eq_true rfl) (fun q hq => by cases hq; exact ⟨rfl, rfl, rfl⟩) ?_
  refine am_aload_n d_Mach_leave_16 rfl rfl ?_
  refine am_aload_n d_Mach_leave_17 rfl rfl ?_
  refine am_get O f_Mach_13 d_Mach_leave_18 (by rfl) (by decide) (by decide) rfl ?_
  refine am_iload_n d_Mach_leave_21 rfl rfl ?_
  refine am_lald (v := .long 0) O (by decide) d_Mach_leave_22 (by exact h_150) (by decide) (by decide) (am_in (by decide) (by decide)) rfl ?_
  refine am_put O f_Mach_97 d_Mach_leave_23 (by rfl) (by decide) (by decide) (Nat.le_of_ble_eq_true rfl) (fun q hq => by cases hq; exact ⟨rfl, rfl, rfl⟩) ?_
  refine am_aload_n d_Mach_leave_26 rfl rfl ?_
  refine am_get O f_Mach_51 d_Mach_leave_27 (by rfl) (by decide) (by decide) rfl ?_
  refine am_if_ne (tgt := 39) d_Mach_leave_30 (by decide) (fun c => absurd (by decide) c) (fun _ => ?_)
  refine am_aload_n d_Mach_leave_33 rfl rfl ?_
  refine am_iconst (v := 1) d_Mach_leave_34 (by decide) ?_
  refine am_put O f_Mach_47 d_Mach_leave_35 (by rfl) (by decide) (by decide) (Nat.le_of_ble_eq_true rfl) (fun q hq => by cases hq; exact ⟨rfl, rfl, rfl⟩) ?_
  exact am_vret rfl d_Mach_leave_38 ⟨rfl, rfl, rfl, fun x hx => by simp only [List.mem_cons, List.not_mem_nil, or_false, not_or] at hx; dsimp only; (repeat (first | rw [va_up_ne _ _ (by omega)]))⟩

set_option maxRecDepth 100000 in
set_option maxHeartbeats 4000000 in
theorem t117_Mach_doFlow (O : am_ok K X) {x : Int32}  {f : Nat → am_C} (h_148 : f 148 = .inr (6, [.ref 149, .ref 150, .int 1, .int 0, .ref 1311, .int 2, .ref 151, .ref 152, .ref 153, .int 0, .ref 1314, .ref 130, .int x, .int 0, .int 0, .int 0, .long 0, .long 0])) (h_149 : f 149 = .inl (.long, 64, (updV (fun _ => .long 0) 0 (.long 0)))) (h_150 : f 150 = .inl (.long, 64, (updV (fun _ => .long 0) 0 (.long 0)))) : am_Mt K X m_Mach_doFlow 3 0 0 [.ref 148, .int 6, .int 0] (1330, f) (fun v h' => v = none ∧ h'.1 = 1330 ∧ h'.2 148 = .inr (6, [.ref 149, .ref 150, .int 1, .int 0, .ref 1311, .int 2, .ref 151, .ref 152, .ref 153, .int 0, .ref 1314, .ref 130, .int x, .int 0, .int 0, .int 1, .long 0, .long 0]) ∧ ∀ x, x ∉ ([148] : List Nat) → h'.2 x = f x) := by
  refine am_enter (by decide +kernel) (Nat.le_of_ble_eq_true rfl) ?_
  refine am_aload_n d_Mach_doFlow_0 rfl rfl ?_
  refine am_iconst (v := 1) d_Mach_doFlow_1 (by decide) ?_
  refine am_callV O (t114_Mach_below O (by exact h_148)) rfl (by exact h_148) (by decide) (by decide) rfl rfl l_Mach_133 ⟨w_1071, w_43⟩ rfl (Nat.le_of_ble_eq_true rfl) d_Mach_doFlow_2 (by omega) (by omega) (by omega) (fun v h' hp => ?_)
  obtain ⟨rfl, rfl⟩ := hp
  refine am_istore_n d_Mach_doFlow_5 rfl (by decide) ?_
  refine am_aload_n d_Mach_doFlow_6 rfl rfl ?_
  refine am_get O f_Mach_7 d_Mach_doFlow_7 (by exact h_148) (by decide) (by decide) rfl ?_
  refine am_iload_n d_Mach_doFlow_10 rfl rfl ?_
  refine am_lald (v := .long 0) O (by decide) d_Mach_doFlow_11 (by exact h_149) (by decide) (by decide) (am_in (by decide) (by decide)) rfl ?_
  refine am_aload_n d_Mach_doFlow_12 rfl rfl ?_
  refine am_get O f_Mach_13 d_Mach_doFlow_13 (by exact h_148) (by decide) (by decide) rfl ?_
  refine am_iload_n d_Mach_doFlow_16 rfl rfl ?_
  refine am_lald (v := .long 0) O (by decide) d_Mach_doFlow_17 (by exact h_150) (by decide) (by decide) (am_in (by decide) (by decide)) rfl ?_
  refine am_callS O (t115_Cell_isTrue O) rfl l_Mach_136 w_1101 rfl (Nat.le_of_ble_eq_true rfl) d_Mach_doFlow_18 (by omega) (by omega) (by omega) (fun v h' hp => ?_)
  obtain ⟨rfl, rfl⟩ := hp
  refine am_istore d_Mach_doFlow_21 (by decide) ?_
  refine am_iload_n d_Mach_doFlow_23 rfl rfl ?_
  refine am_tableIn (tgt := 171) d_Mach_doFlow_24 (by decide) (by decide) rfl (by decide) ?_
  refine am_aload_n d_Mach_doFlow_171 rfl rfl ?_
  refine am_callV O (t116_Mach_leave O (by exact h_148) (by exact h_149) (by exact h_150)) rfl (by exact h_148) (by decide) (by decide) rfl rfl l_Mach_155 ⟨w_1132, w_50⟩ rfl (Nat.le_of_ble_eq_true rfl) d_Mach_doFlow_172 (by omega) (by omega) (by omega) (fun v h' hp => ?_)
  obtain ⟨n1, f1⟩ := h'
  obtain ⟨rfl, e1, g_148_1, fr1⟩ := hp
  obtain rfl : n1 = 1330 := e1
  have fr1 := fun (x : Nat) (hx : x ∉ ([148] : List Nat)) => (show f1 x = _ from fr1 x hx)
  have h_148_1 : f1 148 = .inr (6, [.ref 149, .ref 150, .int 1, .int 0, .ref 1311, .int 2, .ref 151, .ref 152, .ref 153, .int 0, .ref 1314, .ref 130, .int x, .int 0, .int 0, .int 1, .long 0, .long 0]) := g_148_1
  refine am_goto (tgt := 205) d_Mach_doFlow_175 (by decide) ?_
  exact am_vret rfl d_Mach_doFlow_205 ⟨rfl, rfl, h_148_1, fun x hx => by simp only [List.mem_cons, List.not_mem_nil, or_false, not_or] at hx; dsimp only; (repeat (first | rw [va_up_ne _ _ (by omega)] | rw [fr1 x (by simp only [List.mem_cons, List.not_mem_nil, or_false, not_or]; omega)]))⟩

set_option maxRecDepth 100000 in
set_option maxHeartbeats 4000000 in
theorem t118_Mach_perform (O : am_ok K X) {x : Int32}  {f : Nat → am_C} (h_148 : f 148 = .inr (6, [.ref 149, .ref 150, .int 0, .int 0, .null, .int 0, .ref 151, .ref 152, .ref 153, .int 0, .null, .null, .int 0, .int 0, .int 0, .int 0, .long 0, .long 0])) (h_149 : f 149 = .inl (.long, 64, (fun _ => .long 0))) (h_150 : f 150 = .inl (.long, 64, (fun _ => .long 0))) (h_1311 : f 1311 = .inr (4, [.long 0, .int 0, .int 0, .int 0, .ref 1312, .ref 1313])) (h_1312 : f 1312 = .inl (.int, 4, (va_cpy (updV (updV (updV (updV (fun _ => .int 0) 0 (.int 10)) 1 (.int 0)) 2 (.int 6)) 3 (.int 0)) (fun _ => .int 0) 0 0 4))) : am_Mt K X m_Mach_perform 4 0 0 [.ref 148, .ref 1311, .ref 1314, .ref 130, .int x] (1330, f) (fun v h' => v = some (.int 0) ∧ h'.1 = 1330 ∧ h'.2 148 = .inr (6, [.ref 149, .ref 150, .int 1, .int 0, .ref 1311, .int 2, .ref 151, .ref 152, .ref 153, .int 0, .ref 1314, .ref 130, .int x, .int 0, .int 0, .int 1, .long 0, .long 0]) ∧ h'.2 149 = .inl (.long, 64, (updV (fun _ => .long 0) 0 (.long 0))) ∧ h'.2 150 = .inl (.long, 64, (updV (fun _ => .long 0) 0 (.long 0))) ∧ ∀ x, x ∉ ([148, 149, 150] : List Nat) → h'.2 x = f x) := by
  refine am_enter (by decide +kernel) (Nat.le_of_ble_eq_true rfl) ?_
  refine am_aload_n d_Mach_perform_0 rfl rfl ?_
  refine am_aload_n d_Mach_perform_1 rfl rfl ?_
  refine am_put O f_Mach_29 d_Mach_perform_2 (by exact h_148) (by decide) (by decide) (Nat.le_of_ble_eq_true rfl) (fun q hq => by cases hq; exact ⟨rfl, rfl, rfl⟩) ?_
  refine am_aload_n d_Mach_perform_5 rfl rfl ?_
  refine am_aload_n d_Mach_perform_6 rfl rfl ?_
  refine am_put O f_Mach_33 d_Mach_perform_7 (by rfl) (by decide) (by decide) (Nat.le_of_ble_eq_true rfl) (fun q hq => by cases hq; exact ⟨rfl, rfl, rfl⟩) ?_
  refine am_aload_n d_Mach_perform_10 rfl rfl ?_
  refine am_iload d_Mach_perform_11 rfl ?_
  refine am_put O f_Mach_37 d_Mach_perform_13 (by rfl) (by decide) (by decide) (Nat.le_of_ble_eq_true rfl) (fun q hq => by cases hq; exact ⟨rfl, rfl, rfl⟩) ?_
  refine am_aload_n d_Mach_perform_16 rfl rfl ?_
  refine am_iconst (v := 0) d_Mach_perform_17 (by decide) ?_
  refine am_put O f_Mach_41 d_Mach_perform_18 (by rfl) (by decide) (by decide) (Nat.le_of_ble_eq_true rfl) (fun q hq => by cases hq; exact ⟨rfl, rfl, rfl⟩) ?_
  refine am_aload_n d_Mach_perform_21 rfl rfl ?_
  refine am_iconst (v := 0) d_Mach_perform_22 (by decide) ?_
  refine am_put O f_Mach_44 d_Mach_perform_23 (by rfl) (by decide) (by decide) (Nat.le_of_ble_eq_true rfl) (fun q hq => by cases hq; exact ⟨rfl, rfl, rfl⟩) ?_
  refine am_aload_n d_Mach_perform_26 rfl rfl ?_
  refine am_iconst (v := 0) d_Mach_perform_27 (by decide) ?_
  refine am_put O f_Mach_47 d_Mach_perform_28 (by rfl) (by decide) (by decide) (Nat.le_of_ble_eq_true rfl) (fun q hq => by cases hq; exact ⟨rfl, rfl, rfl⟩) ?_
  refine am_aload_n d_Mach_perform_31 rfl rfl ?_
  refine am_iconst (v := 0) d_Mach_perform_32 (by decide) ?_
  refine am_put O f_Mach_51 d_Mach_perform_33 (by rfl) (by decide) (by decide) (Nat.le_of_ble_eq_true rfl) (fun q hq => by cases hq; exact ⟨rfl, rfl, rfl⟩) ?_
  refine am_aload_n d_Mach_perform_36 rfl rfl ?_
  refine am_iconst (v := 0) d_Mach_perform_37 (by decide) ?_
  refine am_put O f_Mach_54 d_Mach_perform_38 (by rfl) (by decide) (by decide) (Nat.le_of_ble_eq_true rfl) (fun q hq => by cases hq; exact ⟨rfl, rfl, rfl⟩) ?_
  refine am_aload_n d_Mach_perform_41 rfl rfl ?_
  refine am_aload_n d_Mach_perform_42 rfl rfl ?_
  refine am_iconst (v := 0) d_Mach_perform_43 (by decide) ?_
  refine am_callV O (t107_Mach_enter O (by rfl) (by exact h_1311)) rfl (by rfl) (by decide) (by decide) rfl rfl l_Mach_57 ⟨w_1067, w_42⟩ rfl (Nat.le_of_ble_eq_true rfl) d_Mach_perform_44 (by omega) (by omega) (by omega) (fun v h' hp => ?_)
  obtain ⟨n1, f1⟩ := h'
  obtain ⟨rfl, e1, g_148_1, fr1⟩ := hp
  obtain rfl : n1 = 1330 := e1
  have fr1 := fun (x : Nat) (hx : x ∉ ([148] : List Nat)) => (show f1 x = _ from fr1 x hx)
  have h_148_1 : f1 148 = .inr (6, [.ref 149, .ref 150, .int 0, .int 0, .ref 1311, .int 0, .ref 151, .ref 152, .ref 153, .int 0, .ref 1314, .ref 130, .int x, .int 0, .int 0, .int 0, .long 0, .long 0]) := g_148_1
  refine am_iconst (v := 0) d_Mach_perform_47 (by decide) ?_
  refine am_istore d_Mach_perform_48 (by decide) ?_
  refine am_iload d_Mach_perform_50 rfl ?_
  refine am_ldc (v := 100000000) w_1087 d_Mach_perform_52 ?_
  refine am_icmp_ge (tgt := 191) d_Mach_perform_54 (by decide) (fun c => absurd c (by decide)) (fun _ => ?_)
  refine am_aload_n d_Mach_perform_57 rfl rfl ?_
  refine am_get O f_Mach_47 d_Mach_perform_58 (by exact h_148_1) (by decide) (by decide) rfl ?_
  refine am_if_ne (tgt := 191) d_Mach_perform_61 (by decide) (fun c => absurd (by decide) c) (fun _ => ?_)
  refine am_aload_n d_Mach_perform_64 rfl rfl ?_
  refine am_get O f_Mach_62 d_Mach_perform_65 (by exact h_148_1) (by decide) (by decide) rfl ?_
  refine am_ifnullR d_Mach_perform_68 ?_
  refine am_aload_n d_Mach_perform_71 rfl rfl ?_
  refine am_get O f_Mach_62 d_Mach_perform_72 (by exact h_148_1) (by decide) (by decide) rfl ?_
  refine am_aload_n d_Mach_perform_75 rfl rfl ?_
  refine am_get O f_Mach_66 d_Mach_perform_76 (by exact h_148_1) (by decide) (by decide) rfl ?_
  have h_1311_1 : f1 1311 = .inr (4, [.long 0, .int 0, .int 0, .int 0, .ref 1312, .ref 1313]) := (fr1 1311 (by decide)).trans h_1311
  have h_1312_1 : f1 1312 = .inl (.int, 4, (va_cpy (updV (updV (updV (updV (fun _ => .int 0) 0 (.int 10)) 1 (.int 0)) 2 (.int 6)) 3 (.int 0)) (fun _ => .int 0) 0 0 4)) := (fr1 1312 (by decide)).trans h_1312
  refine am_callV O (t108_Unit_op O (by exact h_1311_1) (by exact h_1312_1)) rfl (by exact h_1311_1) (by decide) (by decide) rfl rfl l_Mach_69 ⟨w_1089, w_1090⟩ rfl (Nat.le_of_ble_eq_true rfl) d_Mach_perform_79 (by omega) (by omega) (by omega) (fun v h' hp => ?_)
  obtain ⟨rfl, rfl⟩ := hp
  refine am_istore d_Mach_perform_82 (by decide) ?_
  refine am_aload_n d_Mach_perform_84 rfl rfl ?_
  refine am_get O f_Mach_62 d_Mach_perform_85 (by exact h_148_1) (by decide) (by decide) rfl ?_
  refine am_aload_n d_Mach_perform_88 rfl rfl ?_
  refine am_get O f_Mach_66 d_Mach_perform_89 (by exact h_148_1) (by decide) (by decide) rfl ?_
  refine am_callV O (t109_Unit_argument O (by exact h_1311_1) (by exact h_1312_1)) rfl (by exact h_1311_1) (by decide) (by decide) rfl rfl l_Mach_73 ⟨w_1093, w_1094⟩ rfl (Nat.le_of_ble_eq_true rfl) d_Mach_perform_92 (by omega) (by omega) (by omega) (fun v h' hp => ?_)
  obtain ⟨rfl, rfl⟩ := hp
  refine am_istore d_Mach_perform_95 (by decide) ?_
  refine am_aload_n d_Mach_perform_97 rfl rfl ?_
  refine am_dup d_Mach_perform_98 rfl ?_
  refine am_get O f_Mach_66 d_Mach_perform_99 (by exact h_148_1) (by decide) (by decide) rfl ?_
  refine am_iconst (v := 1) d_Mach_perform_102 (by decide) ?_
  refine am_iadd d_Mach_perform_103 ?_
  refine am_topi (v := 1) (by decide) ?_
  refine am_put O f_Mach_66 d_Mach_perform_104 (by exact h_148_1) (by decide) (by decide) (Nat.le_of_ble_eq_true rfl) (fun q hq => by cases hq; exact ⟨rfl, rfl, rfl⟩) ?_
  refine am_iload d_Mach_perform_107 rfl ?_
  refine am_bipush (v := 9) d_Mach_perform_109 (by decide) ?_
  refine am_icmp_gt (tgt := 125) d_Mach_perform_111 (by decide) (fun _ => ?_) (fun c => absurd (by decide) c)
  refine am_iload d_Mach_perform_125 rfl ?_
  refine am_bipush (v := 12) d_Mach_perform_127 (by decide) ?_
  refine am_icmp_gt (tgt := 143) d_Mach_perform_129 (by decide) (fun c => absurd c (by decide)) (fun _ => ?_)
  refine am_aload_n d_Mach_perform_132 rfl rfl ?_
  refine am_iload d_Mach_perform_133 rfl ?_
  refine am_iload d_Mach_perform_135 rfl ?_
  have h_149_1 : f1 149 = .inl (.long, 64, (fun _ => .long 0)) := (fr1 149 (by decide)).trans h_149
  have h_150_1 : f1 150 = .inl (.long, 64, (fun _ => .long 0)) := (fr1 150 (by decide)).trans h_150
  refine am_callV O (t111_Mach_doConstant O (by rfl) (by exact h_149_1) (by exact h_150_1)) rfl (by rfl) (by decide) (by decide) rfl rfl l_Mach_80 ⟨w_1174, w_53⟩ rfl (Nat.le_of_ble_eq_true rfl) d_Mach_perform_137 (by omega) (by omega) (by omega) (fun v h' hp => ?_)
  obtain ⟨n2, f2⟩ := h'
  obtain ⟨rfl, e2, g_149_2, g_150_2, g_148_2, fr2⟩ := hp
  obtain rfl : n2 = 1330 := e2
  have fr2 := fun (x : Nat) (hx : x ∉ ([149, 150, 148] : List Nat)) => (show f2 x = _ from fr2 x hx)
  have h_149_2 : f2 149 = .inl (.long, 64, (updV (fun _ => .long 0) 0 (.long 0))) := g_149_2
  have h_150_2 : f2 150 = .inl (.long, 64, (updV (fun _ => .long 0) 0 (.long 0))) := g_150_2
  have h_148_2 : f2 148 = .inr (6, [.ref 149, .ref 150, .int 1, .int 0, .ref 1311, .int 1, .ref 151, .ref 152, .ref 153, .int 0, .ref 1314, .ref 130, .int x, .int 0, .int 0, .int 0, .long 0, .long 0]) := g_148_2
  refine am_goto (tgt := 185) d_Mach_perform_140 (by decide) ?_
  refine am_iinc (v := 1) d_Mach_perform_185 rfl (by decide) (by decide) ?_
  refine am_locs (lv' := [(0, .ref 148), (1, .ref 1311), (2, .ref 1314), (3, .ref 130), (4, .int x), (5, .int 1), (6, .int 10), (7, .int 0)]) rfl ?_
  refine am_goto (tgt := 50) d_Mach_perform_188 (by decide) ?_
  refine am_iload d_Mach_perform_50 rfl ?_
  refine am_ldc (v := 100000000) w_1087 d_Mach_perform_52 ?_
  refine am_icmp_ge (tgt := 191) d_Mach_perform_54 (by decide) (fun c => absurd c (by decide)) (fun _ => ?_)
  refine am_aload_n d_Mach_perform_57 rfl rfl ?_
  refine am_get O f_Mach_47 d_Mach_perform_58 (by exact h_148_2) (by decide) (by decide) rfl ?_
  refine am_if_ne (tgt := 191) d_Mach_perform_61 (by decide) (fun c => absurd (by decide) c) (fun _ => ?_)
  refine am_aload_n d_Mach_perform_64 rfl rfl ?_
  refine am_get O f_Mach_62 d_Mach_perform_65 (by exact h_148_2) (by decide) (by decide) rfl ?_
  refine am_ifnullR d_Mach_perform_68 ?_
  refine am_aload_n d_Mach_perform_71 rfl rfl ?_
  refine am_get O f_Mach_62 d_Mach_perform_72 (by exact h_148_2) (by decide) (by decide) rfl ?_
  refine am_aload_n d_Mach_perform_75 rfl rfl ?_
  refine am_get O f_Mach_66 d_Mach_perform_76 (by exact h_148_2) (by decide) (by decide) rfl ?_
  have h_1311_2 : f2 1311 = .inr (4, [.long 0, .int 0, .int 0, .int 0, .ref 1312, .ref 1313]) := (fr2 1311 (by decide)).trans h_1311_1
  have h_1312_2 : f2 1312 = .inl (.int, 4, (va_cpy (updV (updV (updV (updV (fun _ => .int 0) 0 (.int 10)) 1 (.int 0)) 2 (.int 6)) 3 (.int 0)) (fun _ => .int 0) 0 0 4)) := (fr2 1312 (by decide)).trans h_1312_1
  refine am_callV O (t112_Unit_op O (by exact h_1311_2) (by exact h_1312_2)) rfl (by exact h_1311_2) (by decide) (by decide) rfl rfl l_Mach_69 ⟨w_1089, w_1090⟩ rfl (Nat.le_of_ble_eq_true rfl) d_Mach_perform_79 (by omega) (by omega) (by omega) (fun v h' hp => ?_)
  obtain ⟨rfl, rfl⟩ := hp
  refine am_istore d_Mach_perform_82 (by decide) ?_
  refine am_aload_n d_Mach_perform_84 rfl rfl ?_
  refine am_get O f_Mach_62 d_Mach_perform_85 (by exact h_148_2) (by decide) (by decide) rfl ?_
  refine am_aload_n d_Mach_perform_88 rfl rfl ?_
  refine am_get O f_Mach_66 d_Mach_perform_89 (by exact h_148_2) (by decide) (by decide) rfl ?_
  refine am_callV O (t113_Unit_argument O (by exact h_1311_2) (by exact h_1312_2)) rfl (by exact h_1311_2) (by decide) (by decide) rfl rfl l_Mach_73 ⟨w_1093, w_1094⟩ rfl (Nat.le_of_ble_eq_true rfl) d_Mach_perform_92 (by omega) (by omega) (by omega) (fun v h' hp => ?_)
  obtain ⟨rfl, rfl⟩ := hp
  refine am_istore d_Mach_perform_95 (by decide) ?_
  refine am_aload_n d_Mach_perform_97 rfl rfl ?_
  refine am_dup d_Mach_perform_98 rfl ?_
  refine am_get O f_Mach_66 d_Mach_perform_99 (by exact h_148_2) (by decide) (by decide) rfl ?_
  refine am_iconst (v := 1) d_Mach_perform_102 (by decide) ?_
  refine am_iadd d_Mach_perform_103 ?_
  refine am_topi (v := 2) (by decide) ?_
  refine am_put O f_Mach_66 d_Mach_perform_104 (by exact h_148_2) (by decide) (by decide) (Nat.le_of_ble_eq_true rfl) (fun q hq => by cases hq; exact ⟨rfl, rfl, rfl⟩) ?_
  refine am_iload d_Mach_perform_107 rfl ?_
  refine am_bipush (v := 9) d_Mach_perform_109 (by decide) ?_
  refine am_icmp_gt (tgt := 125) d_Mach_perform_111 (by decide) (fun c => absurd c (by decide)) (fun _ => ?_)
  refine am_aload_n d_Mach_perform_114 rfl rfl ?_
  refine am_iload d_Mach_perform_115 rfl ?_
  refine am_iload d_Mach_perform_117 rfl ?_
  refine am_callV O (t117_Mach_doFlow O (by rfl) (by exact h_149_2) (by exact h_150_2)) rfl (by rfl) (by decide) (by decide) rfl rfl l_Mach_76 ⟨w_1098, w_46⟩ rfl (Nat.le_of_ble_eq_true rfl) d_Mach_perform_119 (by omega) (by omega) (by omega) (fun v h' hp => ?_)
  obtain ⟨n3, f3⟩ := h'
  obtain ⟨rfl, e3, g_148_3, fr3⟩ := hp
  obtain rfl : n3 = 1330 := e3
  have fr3 := fun (x : Nat) (hx : x ∉ ([148] : List Nat)) => (show f3 x = _ from fr3 x hx)
  have h_148_3 : f3 148 = .inr (6, [.ref 149, .ref 150, .int 1, .int 0, .ref 1311, .int 2, .ref 151, .ref 152, .ref 153, .int 0, .ref 1314, .ref 130, .int x, .int 0, .int 0, .int 1, .long 0, .long 0]) := g_148_3
  refine am_goto (tgt := 185) d_Mach_perform_122 (by decide) ?_
  refine am_iinc (v := 1) d_Mach_perform_185 rfl (by decide) (by decide) ?_
  refine am_locs (lv' := [(0, .ref 148), (1, .ref 1311), (2, .ref 1314), (3, .ref 130), (4, .int x), (5, .int 2), (6, .int 6), (7, .int 0)]) rfl ?_
  refine am_goto (tgt := 50) d_Mach_perform_188 (by decide) ?_
  refine am_iload d_Mach_perform_50 rfl ?_
  refine am_ldc (v := 100000000) w_1087 d_Mach_perform_52 ?_
  refine am_icmp_ge (tgt := 191) d_Mach_perform_54 (by decide) (fun c => absurd c (by decide)) (fun _ => ?_)
  refine am_aload_n d_Mach_perform_57 rfl rfl ?_
  refine am_get O f_Mach_47 d_Mach_perform_58 (by exact h_148_3) (by decide) (by decide) rfl ?_
  refine am_if_ne (tgt := 191) d_Mach_perform_61 (by decide) (fun _ => ?_) (fun c => absurd c (by decide))
  refine am_aload_n d_Mach_perform_191 rfl rfl ?_
  refine am_get O f_Mach_44 d_Mach_perform_192 (by exact h_148_3) (by decide) (by decide) rfl ?_
  have h_149_3 : f3 149 = .inl (.long, 64, (updV (fun _ => .long 0) 0 (.long 0))) := (fr3 149 (by decide)).trans h_149_2
  have h_150_3 : f3 150 = .inl (.long, 64, (updV (fun _ => .long 0) 0 (.long 0))) := (fr3 150 (by decide)).trans h_150_2
  exact am_iret rfl d_Mach_perform_195 ⟨rfl, rfl, h_148_3, h_149_3, h_150_3, fun x hx => by simp only [List.mem_cons, List.not_mem_nil, or_false, not_or] at hx; dsimp only; (repeat (first | rw [va_up_ne _ _ (by omega)] | rw [fr1 x (by simp only [List.mem_cons, List.not_mem_nil, or_false, not_or]; omega)] | rw [fr2 x (by simp only [List.mem_cons, List.not_mem_nil, or_false, not_or]; omega)] | rw [fr3 x (by simp only [List.mem_cons, List.not_mem_nil, or_false, not_or]; omega)]))⟩

set_option maxRecDepth 100000 in
set_option maxHeartbeats 4000000 in
theorem t119_Mach_taken (O : am_ok K X) {x : Int32}  {f : Nat → am_C} (h_148 : f 148 = .inr (6, [.ref 149, .ref 150, .int 1, .int 0, .ref 1311, .int 2, .ref 151, .ref 152, .ref 153, .int 0, .ref 1314, .ref 130, .int x, .int 0, .int 0, .int 1, .long 0, .long 0])) : am_Mt K X m_Mach_taken 0 0 0 [.ref 148] (1330, f) (fun v h' => v = some (.int 0) ∧ h' = (1330, f)) := by
  refine am_enter (by decide +kernel) (Nat.le_of_ble_eq_true rfl) ?_
  refine am_aload_n d_Mach_taken_0 rfl rfl ?_
  refine am_get O f_Mach_41 d_Mach_taken_1 (by exact h_148) (by decide) (by decide) rfl ?_
  exact am_iret rfl d_Mach_taken_4 ⟨rfl, rfl⟩

set_option maxRecDepth 100000 in
set_option maxHeartbeats 4000000 in
theorem t120_Mach_resultHead (O : am_ok K X) {x : Int32}  {f : Nat → am_C} (h_148 : f 148 = .inr (6, [.ref 149, .ref 150, .int 1, .int 0, .ref 1311, .int 2, .ref 151, .ref 152, .ref 153, .int 0, .ref 1314, .ref 130, .int x, .int 0, .int 0, .int 1, .long 0, .long 0])) : am_Mt K X m_Mach_resultHead 0 0 0 [.ref 148] (1330, f) (fun v h' => v = some (.long 0) ∧ h' = (1330, f)) := by
  refine am_enter (by decide +kernel) (Nat.le_of_ble_eq_true rfl) ?_
  refine am_aload_n d_Mach_resultHead_0 rfl rfl ?_
  refine am_get O f_Mach_93 d_Mach_resultHead_1 (by exact h_148) (by decide) (by decide) rfl ?_
  exact am_lret rfl d_Mach_resultHead_4 ⟨rfl, rfl⟩

set_option maxRecDepth 100000 in
set_option maxHeartbeats 4000000 in
theorem t121_Mach_resultTail (O : am_ok K X) {x : Int32}  {f : Nat → am_C} (h_148 : f 148 = .inr (6, [.ref 149, .ref 150, .int 1, .int 0, .ref 1311, .int 2, .ref 151, .ref 152, .ref 153, .int 0, .ref 1314, .ref 130, .int x, .int 0, .int 0, .int 1, .long 0, .long 0])) : am_Mt K X m_Mach_resultTail 0 0 0 [.ref 148] (1330, f) (fun v h' => v = some (.long 0) ∧ h' = (1330, f)) := by
  refine am_enter (by decide +kernel) (Nat.le_of_ble_eq_true rfl) ?_
  refine am_aload_n d_Mach_resultTail_0 rfl rfl ?_
  refine am_get O f_Mach_97 d_Mach_resultTail_1 (by exact h_148) (by decide) (by decide) rfl ?_
  exact am_lret rfl d_Mach_resultTail_4 ⟨rfl, rfl⟩

set_option maxRecDepth 100000 in
set_option maxHeartbeats 4000000 in
theorem t122_Log_storeAt (O : am_ok K X)   {f : Nat → am_C} (h_154 : f 154 = .inr (7, [.ref 155, .ref 156, .int 0, .int 0])) (h_155 : f 155 = .inl (.object "StowTongue$Store", 10, (updV (updV (fun _ => .null) 1 (.ref 1314)) 0 (.ref 1322)))) : am_Mt K X m_Log_storeAt 0 0 0 [.ref 154, .int 0] (1330, f) (fun v h' => v = some (.ref 1322) ∧ h' = (1330, f)) := by
  refine am_enter (by decide +kernel) (Nat.le_of_ble_eq_true rfl) ?_
  refine am_aload_n d_Log_storeAt_0 rfl rfl ?_
  refine am_get O f_Log_11 d_Log_storeAt_1 (by exact h_154) (by decide) (by decide) rfl ?_
  refine am_iload_n d_Log_storeAt_4 rfl rfl ?_
  refine am_aald (v := .ref 1322) O d_Log_storeAt_5 (by exact h_155) (by decide) (by decide) (by decide) rfl (am_in (by decide) (by decide)) rfl ?_
  refine am_astore_n d_Log_storeAt_6 rfl (by decide) ?_
  refine am_aload_n d_Log_storeAt_7 rfl rfl ?_
  refine am_ifnonnullR (tgt := 26) d_Log_storeAt_8 (by decide) ?_
  refine am_aload_n d_Log_storeAt_26 rfl rfl ?_
  exact am_aret rfl (Or.inl ⟨_, rfl⟩) d_Log_storeAt_27 ⟨rfl, rfl⟩

set_option maxRecDepth 100000 in
set_option maxHeartbeats 4000000 in
theorem t123_Log_latest (O : am_ok K X)   {f : Nat → am_C} (h_154 : f 154 = .inr (7, [.ref 155, .ref 156, .int 0, .int 0])) (h_155 : f 155 = .inl (.object "StowTongue$Store", 10, (updV (updV (fun _ => .null) 1 (.ref 1314)) 0 (.ref 1322)))) : am_Mt K X m_Log_latest 1 0 0 [.ref 154] (1330, f) (fun v h' => v = some (.ref 1322) ∧ h' = (1330, f)) := by
  refine am_enter (by decide +kernel) (Nat.le_of_ble_eq_true rfl) ?_
  refine am_aload_n d_Log_latest_0 rfl rfl ?_
  refine am_aload_n d_Log_latest_1 rfl rfl ?_
  refine am_get O f_Log_27 d_Log_latest_2 (by exact h_154) (by decide) (by decide) rfl ?_
  refine am_callV O (t122_Log_storeAt O (by exact h_154) (by exact h_155)) rfl (by exact h_154) (by decide) (by decide) rfl rfl l_Log_31 ⟨w_959, w_40⟩ rfl (Nat.le_of_ble_eq_true rfl) d_Log_latest_5 (by omega) (by omega) (by omega) (fun v h' hp => ?_)
  obtain ⟨rfl, rfl⟩ := hp
  exact am_aret rfl (Or.inl ⟨_, rfl⟩) d_Log_latest_8 ⟨rfl, rfl⟩

set_option maxRecDepth 100000 in
set_option maxHeartbeats 4000000 in
theorem t124_Pars_toldTokens (O : am_ok K X)   {f : Nat → am_C} (h_132 : f 132 = .inr (5, [.ref 133, .ref 136, .ref 140, .ref 136, .ref 144, .ref 1311, .int (-1), .int 0])) (h_144 : f 144 = .inr (3, [.ref 1, .int 0, .int 1])) : am_Mt K X m_Pars_toldTokens 1 0 0 [.ref 132] (1330, f) (fun v h' => v = some (.int 0) ∧ h' = (1330, f)) := by
  refine am_enter (by decide +kernel) (Nat.le_of_ble_eq_true rfl) ?_
  refine am_iconst (v := 0) d_Pars_toldTokens_0 (by decide) ?_
  refine am_istore_n d_Pars_toldTokens_1 rfl (by decide) ?_
  refine am_iconst (v := 0) d_Pars_toldTokens_2 (by decide) ?_
  refine am_istore_n d_Pars_toldTokens_3 rfl (by decide) ?_
  refine am_iload_n d_Pars_toldTokens_4 rfl rfl ?_
  refine am_aload_n d_Pars_toldTokens_5 rfl rfl ?_
  refine am_get O f_Pars_34 d_Pars_toldTokens_6 (by exact h_132) (by decide) (by decide) rfl ?_
  refine am_callV O (t102_AL_size O (by exact h_144)) rfl (by exact h_144) (by decide) (by decide) rfl rfl l_Pars_74 ⟨w_1022, w_1023⟩ rfl (Nat.le_of_ble_eq_true rfl) d_Pars_toldTokens_9 (by omega) (by omega) (by omega) (fun v h' hp => ?_)
  obtain ⟨rfl, rfl⟩ := hp
  refine am_icmp_ge (tgt := 38) d_Pars_toldTokens_12 (by decide) (fun _ => ?_) (fun c => absurd (by decide) c)
  refine am_iload_n d_Pars_toldTokens_38 rfl rfl ?_
  exact am_iret rfl d_Pars_toldTokens_39 ⟨rfl, rfl⟩

set_option maxRecDepth 100000 in
set_option maxHeartbeats 4000000 in
theorem t125_Store_rootsChangedSince (O : am_ok K X)   {f : Nat → am_C} (h_1314 : f 1314 = .inr (10, [.ref 1315, .ref 1316, .ref 1317, .ref 1318, .ref 1319, .ref 1320, .int 0, .ref 1321, .int 0])) (h_1322 : f 1322 = .inr (10, [.ref 1323, .ref 1324, .ref 1325, .ref 1326, .ref 1327, .ref 1328, .int 0, .ref 1329, .int 0])) : am_Mt K X m_Store_rootsChangedSince 0 0 0 [.ref 1314, .ref 1322] (1330, f) (fun v h' => v = some (.int 0) ∧ h' = (1330, f)) := by
  refine am_enter (by decide +kernel) (Nat.le_of_ble_eq_true rfl) ?_
  refine am_iconst (v := 0) d_Store_rootsChangedSince_0 (by decide) ?_
  refine am_istore_n d_Store_rootsChangedSince_1 rfl (by decide) ?_
  refine am_iconst (v := 0) d_Store_rootsChangedSince_2 (by decide) ?_
  refine am_istore_n d_Store_rootsChangedSince_3 rfl (by decide) ?_
  refine am_iload_n d_Store_rootsChangedSince_4 rfl rfl ?_
  refine am_aload_n d_Store_rootsChangedSince_5 rfl rfl ?_
  refine am_get O f_Store_47 d_Store_rootsChangedSince_6 (by exact h_1314) (by decide) (by decide) rfl ?_
  refine am_icmp_ge (tgt := 72) d_Store_rootsChangedSince_9 (by decide) (fun _ => ?_) (fun c => absurd (by decide) c)
  refine am_iconst (v := 0) d_Store_rootsChangedSince_72 (by decide) ?_
  refine am_istore_n d_Store_rootsChangedSince_73 rfl (by decide) ?_
  refine am_iload_n d_Store_rootsChangedSince_74 rfl rfl ?_
  refine am_aload_n d_Store_rootsChangedSince_75 rfl rfl ?_
  refine am_get O f_Store_47 d_Store_rootsChangedSince_76 (by exact h_1322) (by decide) (by decide) rfl ?_
  refine am_icmp_ge (tgt := 104) d_Store_rootsChangedSince_79 (by decide) (fun _ => ?_) (fun c => absurd (by decide) c)
  refine am_iload_n d_Store_rootsChangedSince_104 rfl rfl ?_
  exact am_iret rfl d_Store_rootsChangedSince_105 ⟨rfl, rfl⟩

set_option maxRecDepth 100000 in
set_option maxHeartbeats 4000000 in
theorem t126_Log_commitBytes (O : am_ok K X)   {f : Nat → am_C} (h_1314 : f 1314 = .inr (10, [.ref 1315, .ref 1316, .ref 1317, .ref 1318, .ref 1319, .ref 1320, .int 0, .ref 1321, .int 0])) (h_1317 : f 1317 = .inl (.int, 100, (va_cpy (fun j => if j < 100 then .int (-1) else (fun _ => .int 0) j) (fun j => if j < 100 then .int (-1) else (fun _ => .int 0) j) 0 0 100))) (h_1322 : f 1322 = .inr (10, [.ref 1323, .ref 1324, .ref 1325, .ref 1326, .ref 1327, .ref 1328, .int 0, .ref 1329, .int 0])) : am_Mt K X m_Log_commitBytes 2 0 0 [.ref 1322, .ref 1314, .int 0] (1330, f) (fun v h' => v = some (.int 8) ∧ h' = (1330, f)) := by
  refine am_enter (by decide +kernel) (Nat.le_of_ble_eq_true rfl) ?_
  refine am_bipush (v := 8) d_Log_commitBytes_0 (by decide) ?_
  refine am_bipush (v := 16) d_Log_commitBytes_2 (by decide) ?_
  refine am_aload_n d_Log_commitBytes_4 rfl rfl ?_
  refine am_aload_n d_Log_commitBytes_5 rfl rfl ?_
  refine am_callV O (c_changed O (by exact h_1314) (by exact h_1317) (by decide) (by decide) (by decide) (by decide) (fun i hi => by simp [va_cpy, hi])) rfl (by exact h_1314) (by decide) (by decide) rfl rfl l_Log_19 ⟨w_1347, w_1348⟩ rfl (Nat.le_of_ble_eq_true rfl) d_Log_commitBytes_6 (by omega) (by omega) (by omega) (fun v h' hp => ?_)
  obtain ⟨rfl, rfl⟩ := hp
  refine am_imul d_Log_commitBytes_9 ?_
  refine am_topi (v := 0) (by decide) ?_
  refine am_iadd d_Log_commitBytes_10 ?_
  refine am_topi (v := 8) (by decide) ?_
  refine am_bipush (v := 6) d_Log_commitBytes_11 (by decide) ?_
  refine am_aload_n d_Log_commitBytes_13 rfl rfl ?_
  refine am_aload_n d_Log_commitBytes_14 rfl rfl ?_
  refine am_callV O (t125_Store_rootsChangedSince O (by exact h_1314) (by exact h_1322)) rfl (by exact h_1314) (by decide) (by decide) rfl rfl l_Log_23 ⟨w_1355, w_1356⟩ rfl (Nat.le_of_ble_eq_true rfl) d_Log_commitBytes_15 (by omega) (by omega) (by omega) (fun v h' hp => ?_)
  obtain ⟨rfl, rfl⟩ := hp
  refine am_imul d_Log_commitBytes_18 ?_
  refine am_topi (v := 0) (by decide) ?_
  refine am_iadd d_Log_commitBytes_19 ?_
  refine am_topi (v := 8) (by decide) ?_
  refine am_iconst (v := 3) d_Log_commitBytes_20 (by decide) ?_
  refine am_iload_n d_Log_commitBytes_21 rfl rfl ?_
  refine am_imul d_Log_commitBytes_22 ?_
  refine am_topi (v := 0) (by decide) ?_
  refine am_iadd d_Log_commitBytes_23 ?_
  refine am_topi (v := 8) (by decide) ?_
  exact am_iret rfl d_Log_commitBytes_24 ⟨rfl, rfl⟩

set_option maxRecDepth 100000 in
set_option maxHeartbeats 4000000 in
theorem t127_Log_append (O : am_ok K X)   {f : Nat → am_C} (h_154 : f 154 = .inr (7, [.ref 155, .ref 156, .int 0, .int 0])) (h_156 : f 156 = .inl (.int, 10, (fun _ => .int 0))) : am_Mt K X m_Log_append 0 0 0 [.ref 154, .int 8] (1330, f) (fun v h' => v = none ∧ h'.1 = 1330 ∧ h'.2 154 = .inr (7, [.ref 155, .ref 156, .int 1, .int 0]) ∧ h'.2 156 = .inl (.int, 10, (updV (fun _ => .int 0) 1 (.int 8))) ∧ ∀ x, x ∉ ([154, 156] : List Nat) → h'.2 x = f x) := by
  refine am_enter (by decide +kernel) (Nat.le_of_ble_eq_true rfl) ?_
  refine am_aload_n d_Log_append_0 rfl rfl ?_
  refine am_dup d_Log_append_1 rfl ?_
  refine am_get O f_Log_27 d_Log_append_2 (by exact h_154) (by decide) (by decide) rfl ?_
  refine am_iconst (v := 1) d_Log_append_5 (by decide) ?_
  refine am_iadd d_Log_append_6 ?_
  refine am_topi (v := 1) (by decide) ?_
  refine am_put O f_Log_27 d_Log_append_7 (by exact h_154) (by decide) (by decide) (Nat.le_of_ble_eq_true rfl) (fun q hq => by cases hq; exact ⟨rfl, rfl, rfl⟩) ?_
  refine am_aload_n d_Log_append_10 rfl rfl ?_
  refine am_get O f_Log_15 d_Log_append_11 (by rfl) (by decide) (by decide) rfl ?_
  refine am_aload_n d_Log_append_14 rfl rfl ?_
  refine am_get O f_Log_27 d_Log_append_15 (by rfl) (by decide) (by decide) rfl ?_
  refine am_iload_n d_Log_append_18 rfl rfl ?_
  refine am_iast O (by decide) d_Log_append_19 (by exact h_156) (by decide) (by decide) (am_in (by decide) (by decide)) ?_
  refine am_aload_n d_Log_append_20 rfl rfl ?_
  refine am_get O f_Log_27 d_Log_append_21 (by rfl) (by decide) (by decide) rfl ?_
  refine am_bipush (v := 8) d_Log_append_24 (by decide) ?_
  refine am_icmp_le (tgt := 34) d_Log_append_26 (by decide) (fun _ => ?_) (fun c => absurd (by decide) c)
  exact am_vret rfl d_Log_append_34 ⟨rfl, rfl, rfl, rfl, fun x hx => by simp only [List.mem_cons, List.not_mem_nil, or_false, not_or] at hx; dsimp only; (repeat (first | rw [va_up_ne _ _ (by omega)]))⟩

set_option maxRecDepth 100000 in
set_option maxHeartbeats 4000000 in
theorem a_run_c (O : am_ok K X) {x : Int32} (hx : 0 ≤ x.toInt ∧ x.toInt ≤ 2000) {f : Nat → am_C} (h_128 : f 128 = .inr (9, [.ref 129, .int 0, .ref 130, .ref 132, .ref 148, .ref 154, .ref 157, .long 0, .long 0, .int 0])) (h_129 : f 129 = .inl (.byte, 1500, (fun _ => .int 0))) (h_130 : f 130 = .inr (0, [.ref 131, .int 0, .int 0])) (h_132 : f 132 = .inr (5, [.ref 133, .ref 136, .ref 140, .ref 136, .ref 144, .ref 145, .int 0, .int 0])) (h_133 : f 133 = .inr (1, [.ref 134, .ref 135, .int 0, .int 0, .int 0, .int 0, .int 0, .int 0, .long 0, .long 0])) (h_136 : f 136 = .inr (2, [.ref 137, .int 0, .ref 138, .int 0, .ref 139, .int 0])) (h_137 : f 137 = .inl (.int, 128, (fun _ => .int 0))) (h_138 : f 138 = .inl (.long, 32, (fun _ => .long 0))) (h_144 : f 144 = .inr (3, [.ref 1, .int 0, .int 0])) (h_148 : f 148 = .inr (6, [.ref 149, .ref 150, .int 0, .int 0, .null, .int 0, .ref 151, .ref 152, .ref 153, .int 0, .null, .null, .int 0, .int 0, .int 0, .int 0, .long 0, .long 0])) (h_149 : f 149 = .inl (.long, 64, (fun _ => .long 0))) (h_150 : f 150 = .inl (.long, 64, (fun _ => .long 0))) (h_154 : f 154 = .inr (7, [.ref 155, .ref 156, .int 0, .int 0])) (h_155 : f 155 = .inl (.object "StowTongue$Store", 10, (fun _ => .null))) (h_156 : f 156 = .inl (.int, 10, (fun _ => .int 0))) : am_Mt K X m_Stow_run 5 19 8320 [.ref 128, .int x] (1311, f) (fun v h' => v = some (.int 0) ∧ h'.1 = 1330 ∧ h'.2 133 = .inr (1, [.ref 134, .ref 129, .int 0, .int 0, .int 0, .int 0, .int 0, .int 0, .long 0, .long 0]) ∧ h'.2 132 = .inr (5, [.ref 133, .ref 136, .ref 140, .ref 136, .ref 144, .ref 1311, .int (-1), .int 0]) ∧ h'.2 144 = .inr (3, [.ref 1, .int 0, .int 1]) ∧ h'.2 136 = .inr (2, [.ref 137, .int 4, .ref 138, .int 0, .ref 139, .int 0]) ∧ h'.2 137 = .inl (.int, 128, (updV (updV (updV (updV (fun _ => .int 0) 0 (.int 10)) 1 (.int 0)) 2 (.int 6)) 3 (.int 0))) ∧ h'.2 1311 = .inr (4, [.long 0, .int 0, .int 0, .int 0, .ref 1312, .ref 1313]) ∧ h'.2 1312 = .inl (.int, 4, (va_cpy (updV (updV (updV (updV (fun _ => .int 0) 0 (.int 10)) 1 (.int 0)) 2 (.int 6)) 3 (.int 0)) (fun _ => .int 0) 0 0 4)) ∧ h'.2 1313 = .inl (.long, 0, (va_cpy (fun _ => .long 0) (fun _ => .long 0) 0 0 0)) ∧ h'.2 128 = .inr (9, [.ref 129, .int 0, .ref 130, .ref 132, .ref 148, .ref 154, .ref 157, .long 0, .long 0, .int 0]) ∧ h'.2 130 = .inr (0, [.ref 131, .int 0, .int 0]) ∧ h'.2 1314 = .inr (10, [.ref 1315, .ref 1316, .ref 1317, .ref 1318, .ref 1319, .ref 1320, .int 0, .ref 1321, .int 0]) ∧ h'.2 1315 = .inl (.long, 2000, (va_cpy (fun _ => .long 0) (fun _ => .long 0) 0 0 2000)) ∧ h'.2 1316 = .inl (.long, 2000, (va_cpy (fun _ => .long 0) (fun _ => .long 0) 0 0 2000)) ∧ h'.2 1317 = .inl (.int, 100, (va_cpy (fun j => if j < 100 then .int (-1) else (fun _ => .int 0) j) (fun j => if j < 100 then .int (-1) else (fun _ => .int 0) j) 0 0 100)) ∧ h'.2 1318 = .inl (.long, 12, (va_cpy (fun _ => .long 0) (fun _ => .long 0) 0 0 12)) ∧ h'.2 1319 = .inl (.long, 12, (va_cpy (fun _ => .long 0) (fun _ => .long 0) 0 0 12)) ∧ h'.2 1320 = .inl (.long, 12, (va_cpy (fun _ => .long 0) (fun _ => .long 0) 0 0 12)) ∧ h'.2 1321 = .inl (.object "StowTongue$Unit", 10, (updV (updV (updV (updV (updV (updV (updV (updV (updV (updV (fun _ => .null) 0 (.null)) 1 (.null)) 2 (.null)) 3 (.null)) 4 (.null)) 5 (.null)) 6 (.null)) 7 (.null)) 8 (.null)) 9 (.null))) ∧ h'.2 155 = .inl (.object "StowTongue$Store", 10, (updV (updV (fun _ => .null) 1 (.ref 1314)) 0 (.ref 1322))) ∧ h'.2 1322 = .inr (10, [.ref 1323, .ref 1324, .ref 1325, .ref 1326, .ref 1327, .ref 1328, .int 0, .ref 1329, .int 0]) ∧ h'.2 1323 = .inl (.long, 2000, (fun _ => .long 0)) ∧ h'.2 1324 = .inl (.long, 2000, (fun _ => .long 0)) ∧ h'.2 1325 = .inl (.int, 100, (fun j => if j < 100 then .int (-1) else (fun _ => .int 0) j)) ∧ h'.2 1326 = .inl (.long, 12, (fun _ => .long 0)) ∧ h'.2 1327 = .inl (.long, 12, (fun _ => .long 0)) ∧ h'.2 1328 = .inl (.long, 12, (fun _ => .long 0)) ∧ h'.2 1329 = .inl (.object "StowTongue$Unit", 10, (fun _ => .null)) ∧ h'.2 148 = .inr (6, [.ref 149, .ref 150, .int 1, .int 0, .ref 1311, .int 2, .ref 151, .ref 152, .ref 153, .int 0, .ref 1314, .ref 130, .int x, .int 0, .int 0, .int 1, .long 0, .long 0]) ∧ h'.2 149 = .inl (.long, 64, (updV (fun _ => .long 0) 0 (.long 0))) ∧ h'.2 150 = .inl (.long, 64, (updV (fun _ => .long 0) 0 (.long 0))) ∧ h'.2 154 = .inr (7, [.ref 155, .ref 156, .int 1, .int 0]) ∧ h'.2 156 = .inl (.int, 10, (updV (fun _ => .int 0) 1 (.int 8))) ∧ ∀ x, x ∉ ([133, 132, 144, 136, 137, 1311, 1312, 1313, 128, 130, 1314, 1315, 1316, 1317, 1318, 1319, 1320, 1321, 155, 1322, 1323, 1324, 1325, 1326, 1327, 1328, 1329, 148, 149, 150, 154, 156] : List Nat) → h'.2 x = f x) := by
  refine am_enter (by decide +kernel) (Nat.le_of_ble_eq_true rfl) ?_
  refine am_iload_n d_Stow_run_0 rfl rfl ?_
  refine am_if_lt (tgt := 11) d_Stow_run_1 (by decide) (fun c => absurd c (Int32.not_lt.mpr (xge hx.1 (by decide)))) (fun _ => ?_)
  refine am_iload_n d_Stow_run_4 rfl rfl ?_
  refine am_sipush (v := 2000) d_Stow_run_5 (by decide) ?_
  refine am_icmp_le (tgt := 13) d_Stow_run_8 (by decide) (fun _ => ?_) (fun c => absurd (xle hx.2 (by decide)) c)
  refine am_aload_n d_Stow_run_13 rfl rfl ?_
  refine am_get O f_Stow_23 d_Stow_run_14 (by exact h_128) (by decide) (by decide) rfl ?_
  refine am_aload_n d_Stow_run_17 rfl rfl ?_
  refine am_get O f_Stow_9 d_Stow_run_18 (by exact h_128) (by decide) (by decide) rfl ?_
  refine am_aload_n d_Stow_run_21 rfl rfl ?_
  refine am_get O f_Stow_48 d_Stow_run_22 (by exact h_128) (by decide) (by decide) rfl ?_
  refine am_callV O (t92_Pars_read O (by exact h_129) (by exact h_132) (by exact h_133) (by exact h_136) (by exact h_137) (by exact h_138) (by exact h_144)) rfl (by exact h_132) (by decide) (by decide) rfl rfl l_Stow_56 ⟨w_543, w_544⟩ rfl (Nat.le_of_ble_eq_true rfl) d_Stow_run_25 (by omega) (by omega) (by omega) (fun v h' hp => ?_)
  obtain ⟨n1, f1⟩ := h'
  obtain ⟨rfl, e1, g_133_1, g_132_1, g_144_1, g_136_1, g_137_1, g_1311_1, g_1312_1, g_1313_1, fr1⟩ := hp
  obtain rfl : n1 = 1314 := e1
  have fr1 := fun (x : Nat) (hx : x ∉ ([133, 132, 144, 136, 137, 1311, 1312, 1313] : List Nat)) => (show f1 x = _ from fr1 x hx)
  have h_133_1 : f1 133 = .inr (1, [.ref 134, .ref 129, .int 0, .int 0, .int 0, .int 0, .int 0, .int 0, .long 0, .long 0]) := g_133_1
  have h_132_1 : f1 132 = .inr (5, [.ref 133, .ref 136, .ref 140, .ref 136, .ref 144, .ref 1311, .int (-1), .int 0]) := g_132_1
  have h_144_1 : f1 144 = .inr (3, [.ref 1, .int 0, .int 1]) := g_144_1
  have h_136_1 : f1 136 = .inr (2, [.ref 137, .int 4, .ref 138, .int 0, .ref 139, .int 0]) := g_136_1
  have h_137_1 : f1 137 = .inl (.int, 128, (updV (updV (updV (updV (fun _ => .int 0) 0 (.int 10)) 1 (.int 0)) 2 (.int 6)) 3 (.int 0))) := g_137_1
  have h_1311_1 : f1 1311 = .inr (4, [.long 0, .int 0, .int 0, .int 0, .ref 1312, .ref 1313]) := g_1311_1
  have h_1312_1 : f1 1312 = .inl (.int, 4, (va_cpy (updV (updV (updV (updV (fun _ => .int 0) 0 (.int 10)) 1 (.int 0)) 2 (.int 6)) 3 (.int 0)) (fun _ => .int 0) 0 0 4)) := g_1312_1
  have h_1313_1 : f1 1313 = .inl (.long, 0, (va_cpy (fun _ => .long 0) (fun _ => .long 0) 0 0 0)) := g_1313_1
  refine am_istore_n d_Stow_run_28 rfl (by decide) ?_
  refine am_aload_n d_Stow_run_29 rfl rfl ?_
  refine am_iconst (v := 0) d_Stow_run_30 (by decide) ?_
  have h_128_1 : f1 128 = .inr (9, [.ref 129, .int 0, .ref 130, .ref 132, .ref 148, .ref 154, .ref 157, .long 0, .long 0, .int 0]) := (fr1 128 (by decide)).trans h_128
  refine am_put O f_Stow_48 d_Stow_run_31 (by exact h_128_1) (by decide) (by decide) (Nat.le_of_ble_eq_true rfl) (fun q hq => by cases hq; exact ⟨rfl, rfl, rfl⟩) ?_
  refine am_iload_n d_Stow_run_34 rfl rfl ?_
  refine am_if_lt (tgt := 43) d_Stow_run_35 (by decide) (fun _ => ?_) (fun c => absurd (by decide) c)
  refine am_aload_n d_Stow_run_43 rfl rfl ?_
  refine am_get O f_Stow_16 d_Stow_run_44 (by rfl) (by decide) (by decide) rfl ?_
  have h_130_1 : f1 130 = .inr (0, [.ref 131, .int 0, .int 0]) := (fr1 130 (by decide)).trans h_130
  refine am_callV O (t93_Out_clear O (by exact h_130_1)) rfl (by exact h_130_1) (by decide) (by decide) rfl rfl l_Stow_60 ⟨w_946, w_947⟩ rfl (Nat.le_of_ble_eq_true rfl) d_Stow_run_47 (by omega) (by omega) (by omega) (fun v h' hp => ?_)
  obtain ⟨n2, f2⟩ := h'
  obtain ⟨rfl, e2, g_130_2, fr2⟩ := hp
  obtain rfl : n2 = 1314 := e2
  have fr2 := fun (x : Nat) (hx : x ∉ ([130] : List Nat)) => (show f2 x = _ from fr2 x hx)
  have h_130_2 : f2 130 = .inr (0, [.ref 131, .int 0, .int 0]) := g_130_2
  refine am_aload_n d_Stow_run_50 rfl rfl ?_
  have h_128_2 : f2 128 = .inr (9, [.ref 129, .int 0, .ref 130, .ref 132, .ref 148, .ref 154, .ref 157, .long 0, .long 0, .int 0]) := (fr2 128 (by decide)).trans rfl
  refine am_callV O (t94_Stow_forgetLatestRun O (by exact h_128_2)) rfl (by exact h_128_2) (by decide) (by decide) rfl rfl l_Stow_63 ⟨w_951, w_39⟩ rfl (Nat.le_of_ble_eq_true rfl) d_Stow_run_51 (by omega) (by omega) (by omega) (fun v h' hp => ?_)
  obtain ⟨n3, f3⟩ := h'
  obtain ⟨rfl, e3, g_128_3, fr3⟩ := hp
  obtain rfl : n3 = 1314 := e3
  have fr3 := fun (x : Nat) (hx : x ∉ ([128] : List Nat)) => (show f3 x = _ from fr3 x hx)
  have h_128_3 : f3 128 = .inr (9, [.ref 129, .int 0, .ref 130, .ref 132, .ref 148, .ref 154, .ref 157, .long 0, .long 0, .int 0]) := g_128_3
  refine am_aload_n d_Stow_run_54 rfl rfl ?_
  refine am_get O f_Stow_37 d_Stow_run_55 (by exact h_128_3) (by decide) (by decide) rfl ?_
  have h_154_1 : f1 154 = .inr (7, [.ref 155, .ref 156, .int 0, .int 0]) := (fr1 154 (by decide)).trans h_154
  have h_154_2 : f2 154 = .inr (7, [.ref 155, .ref 156, .int 0, .int 0]) := (fr2 154 (by decide)).trans h_154_1
  have h_154_3 : f3 154 = .inr (7, [.ref 155, .ref 156, .int 0, .int 0]) := (fr3 154 (by decide)).trans h_154_2
  have h_155_1 : f1 155 = .inl (.object "StowTongue$Store", 10, (fun _ => .null)) := (fr1 155 (by decide)).trans h_155
  have h_155_2 : f2 155 = .inl (.object "StowTongue$Store", 10, (fun _ => .null)) := (fr2 155 (by decide)).trans h_155_1
  have h_155_3 : f3 155 = .inl (.object "StowTongue$Store", 10, (fun _ => .null)) := (fr3 155 (by decide)).trans h_155_2
  refine am_callV O (t101_Log_workCopy O (by exact h_154_3) (by exact h_155_3)) rfl (by exact h_154_3) (by decide) (by decide) rfl rfl l_Stow_66 ⟨w_954, w_955⟩ rfl (Nat.le_of_ble_eq_true rfl) d_Stow_run_58 (by omega) (by omega) (by omega) (fun v h' hp => ?_)
  obtain ⟨n4, f4⟩ := h'
  obtain ⟨rfl, e4, g_1314_4, g_1315_4, g_1316_4, g_1317_4, g_1318_4, g_1319_4, g_1320_4, g_1321_4, g_155_4, g_1322_4, g_1323_4, g_1324_4, g_1325_4, g_1326_4, g_1327_4, g_1328_4, g_1329_4, fr4⟩ := hp
  obtain rfl : n4 = 1330 := e4
  have fr4 := fun (x : Nat) (hx : x ∉ ([1314, 1315, 1316, 1317, 1318, 1319, 1320, 1321, 155, 1322, 1323, 1324, 1325, 1326, 1327, 1328, 1329] : List Nat)) => (show f4 x = _ from fr4 x hx)
  have h_1314_4 : f4 1314 = .inr (10, [.ref 1315, .ref 1316, .ref 1317, .ref 1318, .ref 1319, .ref 1320, .int 0, .ref 1321, .int 0]) := g_1314_4
  have h_1315_4 : f4 1315 = .inl (.long, 2000, (va_cpy (fun _ => .long 0) (fun _ => .long 0) 0 0 2000)) := g_1315_4
  have h_1316_4 : f4 1316 = .inl (.long, 2000, (va_cpy (fun _ => .long 0) (fun _ => .long 0) 0 0 2000)) := g_1316_4
  have h_1317_4 : f4 1317 = .inl (.int, 100, (va_cpy (fun j => if j < 100 then .int (-1) else (fun _ => .int 0) j) (fun j => if j < 100 then .int (-1) else (fun _ => .int 0) j) 0 0 100)) := g_1317_4
  have h_1318_4 : f4 1318 = .inl (.long, 12, (va_cpy (fun _ => .long 0) (fun _ => .long 0) 0 0 12)) := g_1318_4
  have h_1319_4 : f4 1319 = .inl (.long, 12, (va_cpy (fun _ => .long 0) (fun _ => .long 0) 0 0 12)) := g_1319_4
  have h_1320_4 : f4 1320 = .inl (.long, 12, (va_cpy (fun _ => .long 0) (fun _ => .long 0) 0 0 12)) := g_1320_4
  have h_1321_4 : f4 1321 = .inl (.object "StowTongue$Unit", 10, (updV (updV (updV (updV (updV (updV (updV (updV (updV (updV (fun _ => .null) 0 (.null)) 1 (.null)) 2 (.null)) 3 (.null)) 4 (.null)) 5 (.null)) 6 (.null)) 7 (.null)) 8 (.null)) 9 (.null))) := g_1321_4
  have h_155_4 : f4 155 = .inl (.object "StowTongue$Store", 10, (updV (updV (fun _ => .null) 1 (.ref 1314)) 0 (.ref 1322))) := g_155_4
  have h_1322_4 : f4 1322 = .inr (10, [.ref 1323, .ref 1324, .ref 1325, .ref 1326, .ref 1327, .ref 1328, .int 0, .ref 1329, .int 0]) := g_1322_4
  have h_1323_4 : f4 1323 = .inl (.long, 2000, (fun _ => .long 0)) := g_1323_4
  have h_1324_4 : f4 1324 = .inl (.long, 2000, (fun _ => .long 0)) := g_1324_4
  have h_1325_4 : f4 1325 = .inl (.int, 100, (fun j => if j < 100 then .int (-1) else (fun _ => .int 0) j)) := g_1325_4
  have h_1326_4 : f4 1326 = .inl (.long, 12, (fun _ => .long 0)) := g_1326_4
  have h_1327_4 : f4 1327 = .inl (.long, 12, (fun _ => .long 0)) := g_1327_4
  have h_1328_4 : f4 1328 = .inl (.long, 12, (fun _ => .long 0)) := g_1328_4
  have h_1329_4 : f4 1329 = .inl (.object "StowTongue$Unit", 10, (fun _ => .null)) := g_1329_4
  refine am_astore_n d_Stow_run_61 rfl (by decide) ?_
  refine am_aload_n d_Stow_run_62 rfl rfl ?_
  have h_128_4 : f4 128 = .inr (9, [.ref 129, .int 0, .ref 130, .ref 132, .ref 148, .ref 154, .ref 157, .long 0, .long 0, .int 0]) := (fr4 128 (by decide)).trans h_128_3
  refine am_get O f_Stow_23 d_Stow_run_63 (by exact h_128_4) (by decide) (by decide) rfl ?_
  refine am_aload_n d_Stow_run_66 rfl rfl ?_
  have h_132_2 : f2 132 = .inr (5, [.ref 133, .ref 136, .ref 140, .ref 136, .ref 144, .ref 1311, .int (-1), .int 0]) := (fr2 132 (by decide)).trans h_132_1
  have h_132_3 : f3 132 = .inr (5, [.ref 133, .ref 136, .ref 140, .ref 136, .ref 144, .ref 1311, .int (-1), .int 0]) := (fr3 132 (by decide)).trans h_132_2
  have h_132_4 : f4 132 = .inr (5, [.ref 133, .ref 136, .ref 140, .ref 136, .ref 144, .ref 1311, .int (-1), .int 0]) := (fr4 132 (by decide)).trans h_132_3
  have h_144_2 : f2 144 = .inr (3, [.ref 1, .int 0, .int 1]) := (fr2 144 (by decide)).trans h_144_1
  have h_144_3 : f3 144 = .inr (3, [.ref 1, .int 0, .int 1]) := (fr3 144 (by decide)).trans h_144_2
  have h_144_4 : f4 144 = .inr (3, [.ref 1, .int 0, .int 1]) := (fr4 144 (by decide)).trans h_144_3
  refine am_callV O (t103_Pars_tellInto O (by exact h_132_4) (by exact h_144_4)) rfl (by exact h_132_4) (by decide) (by decide) rfl rfl l_Stow_70 ⟨w_1018, w_1019⟩ rfl (Nat.le_of_ble_eq_true rfl) d_Stow_run_67 (by omega) (by omega) (by omega) (fun v h' hp => ?_)
  obtain ⟨rfl, rfl⟩ := hp
  refine am_if_ne (tgt := 76) d_Stow_run_70 (by decide) (fun _ => ?_) (fun c => absurd c (by decide))
  refine am_aload_n d_Stow_run_76 rfl rfl ?_
  refine am_get O f_Stow_30 d_Stow_run_77 (by exact h_128_4) (by decide) (by decide) rfl ?_
  refine am_aload_n d_Stow_run_80 rfl rfl ?_
  refine am_get O f_Stow_23 d_Stow_run_81 (by exact h_128_4) (by decide) (by decide) rfl ?_
  refine am_callV O (t104_Pars_program O (by exact h_132_4)) rfl (by exact h_132_4) (by decide) (by decide) rfl rfl l_Stow_74 ⟨w_1058, w_1059⟩ rfl (Nat.le_of_ble_eq_true rfl) d_Stow_run_84 (by omega) (by omega) (by omega) (fun v h' hp => ?_)
  obtain ⟨rfl, rfl⟩ := hp
  refine am_aload_n d_Stow_run_87 rfl rfl ?_
  refine am_aload_n d_Stow_run_88 rfl rfl ?_
  refine am_get O f_Stow_16 d_Stow_run_89 (by exact h_128_4) (by decide) (by decide) rfl ?_
  refine am_iload_n d_Stow_run_92 rfl rfl ?_
  have h_148_1 : f1 148 = .inr (6, [.ref 149, .ref 150, .int 0, .int 0, .null, .int 0, .ref 151, .ref 152, .ref 153, .int 0, .null, .null, .int 0, .int 0, .int 0, .int 0, .long 0, .long 0]) := (fr1 148 (by decide)).trans h_148
  have h_148_2 : f2 148 = .inr (6, [.ref 149, .ref 150, .int 0, .int 0, .null, .int 0, .ref 151, .ref 152, .ref 153, .int 0, .null, .null, .int 0, .int 0, .int 0, .int 0, .long 0, .long 0]) := (fr2 148 (by decide)).trans h_148_1
  have h_148_3 : f3 148 = .inr (6, [.ref 149, .ref 150, .int 0, .int 0, .null, .int 0, .ref 151, .ref 152, .ref 153, .int 0, .null, .null, .int 0, .int 0, .int 0, .int 0, .long 0, .long 0]) := (fr3 148 (by decide)).trans h_148_2
  have h_148_4 : f4 148 = .inr (6, [.ref 149, .ref 150, .int 0, .int 0, .null, .int 0, .ref 151, .ref 152, .ref 153, .int 0, .null, .null, .int 0, .int 0, .int 0, .int 0, .long 0, .long 0]) := (fr4 148 (by decide)).trans h_148_3
  have h_149_1 : f1 149 = .inl (.long, 64, (fun _ => .long 0)) := (fr1 149 (by decide)).trans h_149
  have h_149_2 : f2 149 = .inl (.long, 64, (fun _ => .long 0)) := (fr2 149 (by decide)).trans h_149_1
  have h_149_3 : f3 149 = .inl (.long, 64, (fun _ => .long 0)) := (fr3 149 (by decide)).trans h_149_2
  have h_149_4 : f4 149 = .inl (.long, 64, (fun _ => .long 0)) := (fr4 149 (by decide)).trans h_149_3
  have h_150_1 : f1 150 = .inl (.long, 64, (fun _ => .long 0)) := (fr1 150 (by decide)).trans h_150
  have h_150_2 : f2 150 = .inl (.long, 64, (fun _ => .long 0)) := (fr2 150 (by decide)).trans h_150_1
  have h_150_3 : f3 150 = .inl (.long, 64, (fun _ => .long 0)) := (fr3 150 (by decide)).trans h_150_2
  have h_150_4 : f4 150 = .inl (.long, 64, (fun _ => .long 0)) := (fr4 150 (by decide)).trans h_150_3
  have h_1311_2 : f2 1311 = .inr (4, [.long 0, .int 0, .int 0, .int 0, .ref 1312, .ref 1313]) := (fr2 1311 (by decide)).trans h_1311_1
  have h_1311_3 : f3 1311 = .inr (4, [.long 0, .int 0, .int 0, .int 0, .ref 1312, .ref 1313]) := (fr3 1311 (by decide)).trans h_1311_2
  have h_1311_4 : f4 1311 = .inr (4, [.long 0, .int 0, .int 0, .int 0, .ref 1312, .ref 1313]) := (fr4 1311 (by decide)).trans h_1311_3
  have h_1312_2 : f2 1312 = .inl (.int, 4, (va_cpy (updV (updV (updV (updV (fun _ => .int 0) 0 (.int 10)) 1 (.int 0)) 2 (.int 6)) 3 (.int 0)) (fun _ => .int 0) 0 0 4)) := (fr2 1312 (by decide)).trans h_1312_1
  have h_1312_3 : f3 1312 = .inl (.int, 4, (va_cpy (updV (updV (updV (updV (fun _ => .int 0) 0 (.int 10)) 1 (.int 0)) 2 (.int 6)) 3 (.int 0)) (fun _ => .int 0) 0 0 4)) := (fr3 1312 (by decide)).trans h_1312_2
  have h_1312_4 : f4 1312 = .inl (.int, 4, (va_cpy (updV (updV (updV (updV (fun _ => .int 0) 0 (.int 10)) 1 (.int 0)) 2 (.int 6)) 3 (.int 0)) (fun _ => .int 0) 0 0 4)) := (fr4 1312 (by decide)).trans h_1312_3
  refine am_callV O (t118_Mach_perform O (by exact h_148_4) (by exact h_149_4) (by exact h_150_4) (by exact h_1311_4) (by exact h_1312_4)) rfl (by exact h_148_4) (by decide) (by decide) rfl rfl l_Stow_78 ⟨w_1062, w_1063⟩ rfl (Nat.le_of_ble_eq_true rfl) d_Stow_run_93 (by omega) (by omega) (by omega) (fun v h' hp => ?_)
  obtain ⟨n5, f5⟩ := h'
  obtain ⟨rfl, e5, g_148_5, g_149_5, g_150_5, fr5⟩ := hp
  obtain rfl : n5 = 1330 := e5
  have fr5 := fun (x : Nat) (hx : x ∉ ([148, 149, 150] : List Nat)) => (show f5 x = _ from fr5 x hx)
  have h_148_5 : f5 148 = .inr (6, [.ref 149, .ref 150, .int 1, .int 0, .ref 1311, .int 2, .ref 151, .ref 152, .ref 153, .int 0, .ref 1314, .ref 130, .int x, .int 0, .int 0, .int 1, .long 0, .long 0]) := g_148_5
  have h_149_5 : f5 149 = .inl (.long, 64, (updV (fun _ => .long 0) 0 (.long 0))) := g_149_5
  have h_150_5 : f5 150 = .inl (.long, 64, (updV (fun _ => .long 0) 0 (.long 0))) := g_150_5
  refine am_istore d_Stow_run_96 (by decide) ?_
  refine am_aload_n d_Stow_run_98 rfl rfl ?_
  refine am_aload_n d_Stow_run_99 rfl rfl ?_
  have h_128_5 : f5 128 = .inr (9, [.ref 129, .int 0, .ref 130, .ref 132, .ref 148, .ref 154, .ref 157, .long 0, .long 0, .int 0]) := (fr5 128 (by decide)).trans h_128_4
  refine am_get O f_Stow_30 d_Stow_run_100 (by exact h_128_5) (by decide) (by decide) rfl ?_
  refine am_callV O (t119_Mach_taken O (by exact h_148_5)) rfl (by exact h_148_5) (by decide) (by decide) rfl rfl l_Stow_82 ⟨w_1326, w_1327⟩ rfl (Nat.le_of_ble_eq_true rfl) d_Stow_run_103 (by omega) (by omega) (by omega) (fun v h' hp => ?_)
  obtain ⟨rfl, rfl⟩ := hp
  refine am_put O f_Stow_86 d_Stow_run_106 (by exact h_128_5) (by decide) (by decide) (Nat.le_of_ble_eq_true rfl) (fun q hq => by cases hq; exact ⟨rfl, rfl, rfl⟩) ?_
  refine am_iload d_Stow_run_109 rfl ?_
  refine am_if_ne (tgt := 161) d_Stow_run_111 (by decide) (fun c => absurd (by decide) c) (fun _ => ?_)
  refine am_aload_n d_Stow_run_114 rfl rfl ?_
  refine am_aload_n d_Stow_run_115 rfl rfl ?_
  refine am_get O f_Stow_30 d_Stow_run_116 (by rfl) (by decide) (by decide) rfl ?_
  refine am_callV O (t120_Mach_resultHead O (by exact h_148_5)) rfl (by exact h_148_5) (by decide) (by decide) rfl rfl l_Stow_89 ⟨w_1330, w_1331⟩ rfl (Nat.le_of_ble_eq_true rfl) d_Stow_run_119 (by omega) (by omega) (by omega) (fun v h' hp => ?_)
  obtain ⟨rfl, rfl⟩ := hp
  refine am_put O f_Stow_93 d_Stow_run_122 (by rfl) (by decide) (by decide) (Nat.le_of_ble_eq_true rfl) (fun q hq => by cases hq; exact ⟨rfl, rfl, rfl⟩) ?_
  refine am_aload_n d_Stow_run_125 rfl rfl ?_
  refine am_aload_n d_Stow_run_126 rfl rfl ?_
  refine am_get O f_Stow_30 d_Stow_run_127 (by rfl) (by decide) (by decide) rfl ?_
  refine am_callV O (t121_Mach_resultTail O (by exact h_148_5)) rfl (by exact h_148_5) (by decide) (by decide) rfl rfl l_Stow_97 ⟨w_1334, w_1335⟩ rfl (Nat.le_of_ble_eq_true rfl) d_Stow_run_130 (by omega) (by omega) (by omega) (fun v h' hp => ?_)
  obtain ⟨rfl, rfl⟩ := hp
  refine am_put O f_Stow_100 d_Stow_run_133 (by rfl) (by decide) (by decide) (Nat.le_of_ble_eq_true rfl) (fun q hq => by cases hq; exact ⟨rfl, rfl, rfl⟩) ?_
  refine am_aload_n d_Stow_run_136 rfl rfl ?_
  refine am_get O f_Stow_37 d_Stow_run_137 (by rfl) (by decide) (by decide) rfl ?_
  refine am_aload_n d_Stow_run_140 rfl rfl ?_
  refine am_get O f_Stow_37 d_Stow_run_141 (by rfl) (by decide) (by decide) rfl ?_
  have h_154_4 : f4 154 = .inr (7, [.ref 155, .ref 156, .int 0, .int 0]) := (fr4 154 (by decide)).trans h_154_3
  have h_154_5 : f5 154 = .inr (7, [.ref 155, .ref 156, .int 0, .int 0]) := (fr5 154 (by decide)).trans h_154_4
  have h_155_5 : f5 155 = .inl (.object "StowTongue$Store", 10, (updV (updV (fun _ => .null) 1 (.ref 1314)) 0 (.ref 1322))) := (fr5 155 (by decide)).trans h_155_4
  refine am_callV O (t123_Log_latest O (by exact h_154_5) (by exact h_155_5)) rfl (by exact h_154_5) (by decide) (by decide) rfl rfl l_Stow_103 ⟨w_1009, w_1010⟩ rfl (Nat.le_of_ble_eq_true rfl) d_Stow_run_144 (by omega) (by omega) (by omega) (fun v h' hp => ?_)
  obtain ⟨rfl, rfl⟩ := hp
  refine am_aload_n d_Stow_run_147 rfl rfl ?_
  refine am_aload_n d_Stow_run_148 rfl rfl ?_
  refine am_get O f_Stow_23 d_Stow_run_149 (by rfl) (by decide) (by decide) rfl ?_
  have h_132_5 : f5 132 = .inr (5, [.ref 133, .ref 136, .ref 140, .ref 136, .ref 144, .ref 1311, .int (-1), .int 0]) := (fr5 132 (by decide)).trans h_132_4
  have h_144_5 : f5 144 = .inr (3, [.ref 1, .int 0, .int 1]) := (fr5 144 (by decide)).trans h_144_4
  refine am_callV O (t124_Pars_toldTokens O (by exact h_132_5) (by exact h_144_5)) rfl (by exact h_132_5) (by decide) (by decide) rfl rfl l_Stow_106 ⟨w_1339, w_1340⟩ rfl (Nat.le_of_ble_eq_true rfl) d_Stow_run_152 (by omega) (by omega) (by omega) (fun v h' hp => ?_)
  obtain ⟨rfl, rfl⟩ := hp
  have h_1314_5 : f5 1314 = .inr (10, [.ref 1315, .ref 1316, .ref 1317, .ref 1318, .ref 1319, .ref 1320, .int 0, .ref 1321, .int 0]) := (fr5 1314 (by decide)).trans h_1314_4
  have h_1317_5 : f5 1317 = .inl (.int, 100, (va_cpy (fun j => if j < 100 then .int (-1) else (fun _ => .int 0) j) (fun j => if j < 100 then .int (-1) else (fun _ => .int 0) j) 0 0 100)) := (fr5 1317 (by decide)).trans h_1317_4
  have h_1322_5 : f5 1322 = .inr (10, [.ref 1323, .ref 1324, .ref 1325, .ref 1326, .ref 1327, .ref 1328, .int 0, .ref 1329, .int 0]) := (fr5 1322 (by decide)).trans h_1322_4
  refine am_callS O (t126_Log_commitBytes O (by exact h_1314_5) (by exact h_1317_5) (by exact h_1322_5)) rfl l_Stow_109 w_1344 rfl (Nat.le_of_ble_eq_true rfl) d_Stow_run_155 (by omega) (by omega) (by omega) (fun v h' hp => ?_)
  obtain ⟨rfl, rfl⟩ := hp
  have h_156_1 : f1 156 = .inl (.int, 10, (fun _ => .int 0)) := (fr1 156 (by decide)).trans h_156
  have h_156_2 : f2 156 = .inl (.int, 10, (fun _ => .int 0)) := (fr2 156 (by decide)).trans h_156_1
  have h_156_3 : f3 156 = .inl (.int, 10, (fun _ => .int 0)) := (fr3 156 (by decide)).trans h_156_2
  have h_156_4 : f4 156 = .inl (.int, 10, (fun _ => .int 0)) := (fr4 156 (by decide)).trans h_156_3
  have h_156_5 : f5 156 = .inl (.int, 10, (fun _ => .int 0)) := (fr5 156 (by decide)).trans h_156_4
  refine am_callV O (t127_Log_append O (by exact h_154_5) (by exact h_156_5)) rfl (by exact h_154_5) (by decide) (by decide) rfl rfl l_Stow_113 ⟨w_1359, w_1360⟩ rfl (Nat.le_of_ble_eq_true rfl) d_Stow_run_158 (by omega) (by omega) (by omega) (fun v h' hp => ?_)
  obtain ⟨n6, f6⟩ := h'
  obtain ⟨rfl, e6, g_154_6, g_156_6, fr6⟩ := hp
  obtain rfl : n6 = 1330 := e6
  have fr6 := fun (x : Nat) (hx : x ∉ ([154, 156] : List Nat)) => (show f6 x = _ from fr6 x hx)
  have h_154_6 : f6 154 = .inr (7, [.ref 155, .ref 156, .int 1, .int 0]) := g_154_6
  have h_156_6 : f6 156 = .inl (.int, 10, (updV (fun _ => .int 0) 1 (.int 8))) := g_156_6
  refine am_iload d_Stow_run_161 rfl ?_
  have h_133_2 : f2 133 = .inr (1, [.ref 134, .ref 129, .int 0, .int 0, .int 0, .int 0, .int 0, .int 0, .long 0, .long 0]) := (fr2 133 (by decide)).trans h_133_1
  have h_133_3 : f3 133 = .inr (1, [.ref 134, .ref 129, .int 0, .int 0, .int 0, .int 0, .int 0, .int 0, .long 0, .long 0]) := (fr3 133 (by decide)).trans h_133_2
  have h_133_4 : f4 133 = .inr (1, [.ref 134, .ref 129, .int 0, .int 0, .int 0, .int 0, .int 0, .int 0, .long 0, .long 0]) := (fr4 133 (by decide)).trans h_133_3
  have h_133_5 : f5 133 = .inr (1, [.ref 134, .ref 129, .int 0, .int 0, .int 0, .int 0, .int 0, .int 0, .long 0, .long 0]) := (fr5 133 (by decide)).trans h_133_4
  have h_133_6 : f6 133 = .inr (1, [.ref 134, .ref 129, .int 0, .int 0, .int 0, .int 0, .int 0, .int 0, .long 0, .long 0]) := (fr6 133 (by decide)).trans h_133_5
  have h_132_6 : f6 132 = .inr (5, [.ref 133, .ref 136, .ref 140, .ref 136, .ref 144, .ref 1311, .int (-1), .int 0]) := (fr6 132 (by decide)).trans h_132_5
  have h_144_6 : f6 144 = .inr (3, [.ref 1, .int 0, .int 1]) := (fr6 144 (by decide)).trans h_144_5
  have h_136_2 : f2 136 = .inr (2, [.ref 137, .int 4, .ref 138, .int 0, .ref 139, .int 0]) := (fr2 136 (by decide)).trans h_136_1
  have h_136_3 : f3 136 = .inr (2, [.ref 137, .int 4, .ref 138, .int 0, .ref 139, .int 0]) := (fr3 136 (by decide)).trans h_136_2
  have h_136_4 : f4 136 = .inr (2, [.ref 137, .int 4, .ref 138, .int 0, .ref 139, .int 0]) := (fr4 136 (by decide)).trans h_136_3
  have h_136_5 : f5 136 = .inr (2, [.ref 137, .int 4, .ref 138, .int 0, .ref 139, .int 0]) := (fr5 136 (by decide)).trans h_136_4
  have h_136_6 : f6 136 = .inr (2, [.ref 137, .int 4, .ref 138, .int 0, .ref 139, .int 0]) := (fr6 136 (by decide)).trans h_136_5
  have h_137_2 : f2 137 = .inl (.int, 128, (updV (updV (updV (updV (fun _ => .int 0) 0 (.int 10)) 1 (.int 0)) 2 (.int 6)) 3 (.int 0))) := (fr2 137 (by decide)).trans h_137_1
  have h_137_3 : f3 137 = .inl (.int, 128, (updV (updV (updV (updV (fun _ => .int 0) 0 (.int 10)) 1 (.int 0)) 2 (.int 6)) 3 (.int 0))) := (fr3 137 (by decide)).trans h_137_2
  have h_137_4 : f4 137 = .inl (.int, 128, (updV (updV (updV (updV (fun _ => .int 0) 0 (.int 10)) 1 (.int 0)) 2 (.int 6)) 3 (.int 0))) := (fr4 137 (by decide)).trans h_137_3
  have h_137_5 : f5 137 = .inl (.int, 128, (updV (updV (updV (updV (fun _ => .int 0) 0 (.int 10)) 1 (.int 0)) 2 (.int 6)) 3 (.int 0))) := (fr5 137 (by decide)).trans h_137_4
  have h_137_6 : f6 137 = .inl (.int, 128, (updV (updV (updV (updV (fun _ => .int 0) 0 (.int 10)) 1 (.int 0)) 2 (.int 6)) 3 (.int 0))) := (fr6 137 (by decide)).trans h_137_5
  have h_1311_5 : f5 1311 = .inr (4, [.long 0, .int 0, .int 0, .int 0, .ref 1312, .ref 1313]) := (fr5 1311 (by decide)).trans h_1311_4
  have h_1311_6 : f6 1311 = .inr (4, [.long 0, .int 0, .int 0, .int 0, .ref 1312, .ref 1313]) := (fr6 1311 (by decide)).trans h_1311_5
  have h_1312_5 : f5 1312 = .inl (.int, 4, (va_cpy (updV (updV (updV (updV (fun _ => .int 0) 0 (.int 10)) 1 (.int 0)) 2 (.int 6)) 3 (.int 0)) (fun _ => .int 0) 0 0 4)) := (fr5 1312 (by decide)).trans h_1312_4
  have h_1312_6 : f6 1312 = .inl (.int, 4, (va_cpy (updV (updV (updV (updV (fun _ => .int 0) 0 (.int 10)) 1 (.int 0)) 2 (.int 6)) 3 (.int 0)) (fun _ => .int 0) 0 0 4)) := (fr6 1312 (by decide)).trans h_1312_5
  have h_1313_2 : f2 1313 = .inl (.long, 0, (va_cpy (fun _ => .long 0) (fun _ => .long 0) 0 0 0)) := (fr2 1313 (by decide)).trans h_1313_1
  have h_1313_3 : f3 1313 = .inl (.long, 0, (va_cpy (fun _ => .long 0) (fun _ => .long 0) 0 0 0)) := (fr3 1313 (by decide)).trans h_1313_2
  have h_1313_4 : f4 1313 = .inl (.long, 0, (va_cpy (fun _ => .long 0) (fun _ => .long 0) 0 0 0)) := (fr4 1313 (by decide)).trans h_1313_3
  have h_1313_5 : f5 1313 = .inl (.long, 0, (va_cpy (fun _ => .long 0) (fun _ => .long 0) 0 0 0)) := (fr5 1313 (by decide)).trans h_1313_4
  have h_1313_6 : f6 1313 = .inl (.long, 0, (va_cpy (fun _ => .long 0) (fun _ => .long 0) 0 0 0)) := (fr6 1313 (by decide)).trans h_1313_5
  have h_128_6 : f6 128 = .inr (9, [.ref 129, .int 0, .ref 130, .ref 132, .ref 148, .ref 154, .ref 157, .long 0, .long 0, .int 0]) := (fr6 128 (by decide)).trans rfl
  have h_130_3 : f3 130 = .inr (0, [.ref 131, .int 0, .int 0]) := (fr3 130 (by decide)).trans h_130_2
  have h_130_4 : f4 130 = .inr (0, [.ref 131, .int 0, .int 0]) := (fr4 130 (by decide)).trans h_130_3
  have h_130_5 : f5 130 = .inr (0, [.ref 131, .int 0, .int 0]) := (fr5 130 (by decide)).trans h_130_4
  have h_130_6 : f6 130 = .inr (0, [.ref 131, .int 0, .int 0]) := (fr6 130 (by decide)).trans h_130_5
  have h_1314_6 : f6 1314 = .inr (10, [.ref 1315, .ref 1316, .ref 1317, .ref 1318, .ref 1319, .ref 1320, .int 0, .ref 1321, .int 0]) := (fr6 1314 (by decide)).trans h_1314_5
  have h_1315_5 : f5 1315 = .inl (.long, 2000, (va_cpy (fun _ => .long 0) (fun _ => .long 0) 0 0 2000)) := (fr5 1315 (by decide)).trans h_1315_4
  have h_1315_6 : f6 1315 = .inl (.long, 2000, (va_cpy (fun _ => .long 0) (fun _ => .long 0) 0 0 2000)) := (fr6 1315 (by decide)).trans h_1315_5
  have h_1316_5 : f5 1316 = .inl (.long, 2000, (va_cpy (fun _ => .long 0) (fun _ => .long 0) 0 0 2000)) := (fr5 1316 (by decide)).trans h_1316_4
  have h_1316_6 : f6 1316 = .inl (.long, 2000, (va_cpy (fun _ => .long 0) (fun _ => .long 0) 0 0 2000)) := (fr6 1316 (by decide)).trans h_1316_5
  have h_1317_6 : f6 1317 = .inl (.int, 100, (va_cpy (fun j => if j < 100 then .int (-1) else (fun _ => .int 0) j) (fun j => if j < 100 then .int (-1) else (fun _ => .int 0) j) 0 0 100)) := (fr6 1317 (by decide)).trans h_1317_5
  have h_1318_5 : f5 1318 = .inl (.long, 12, (va_cpy (fun _ => .long 0) (fun _ => .long 0) 0 0 12)) := (fr5 1318 (by decide)).trans h_1318_4
  have h_1318_6 : f6 1318 = .inl (.long, 12, (va_cpy (fun _ => .long 0) (fun _ => .long 0) 0 0 12)) := (fr6 1318 (by decide)).trans h_1318_5
  have h_1319_5 : f5 1319 = .inl (.long, 12, (va_cpy (fun _ => .long 0) (fun _ => .long 0) 0 0 12)) := (fr5 1319 (by decide)).trans h_1319_4
  have h_1319_6 : f6 1319 = .inl (.long, 12, (va_cpy (fun _ => .long 0) (fun _ => .long 0) 0 0 12)) := (fr6 1319 (by decide)).trans h_1319_5
  have h_1320_5 : f5 1320 = .inl (.long, 12, (va_cpy (fun _ => .long 0) (fun _ => .long 0) 0 0 12)) := (fr5 1320 (by decide)).trans h_1320_4
  have h_1320_6 : f6 1320 = .inl (.long, 12, (va_cpy (fun _ => .long 0) (fun _ => .long 0) 0 0 12)) := (fr6 1320 (by decide)).trans h_1320_5
  have h_1321_5 : f5 1321 = .inl (.object "StowTongue$Unit", 10, (updV (updV (updV (updV (updV (updV (updV (updV (updV (updV (fun _ => .null) 0 (.null)) 1 (.null)) 2 (.null)) 3 (.null)) 4 (.null)) 5 (.null)) 6 (.null)) 7 (.null)) 8 (.null)) 9 (.null))) := (fr5 1321 (by decide)).trans h_1321_4
  have h_1321_6 : f6 1321 = .inl (.object "StowTongue$Unit", 10, (updV (updV (updV (updV (updV (updV (updV (updV (updV (updV (fun _ => .null) 0 (.null)) 1 (.null)) 2 (.null)) 3 (.null)) 4 (.null)) 5 (.null)) 6 (.null)) 7 (.null)) 8 (.null)) 9 (.null))) := (fr6 1321 (by decide)).trans h_1321_5
  have h_155_6 : f6 155 = .inl (.object "StowTongue$Store", 10, (updV (updV (fun _ => .null) 1 (.ref 1314)) 0 (.ref 1322))) := (fr6 155 (by decide)).trans h_155_5
  have h_1322_6 : f6 1322 = .inr (10, [.ref 1323, .ref 1324, .ref 1325, .ref 1326, .ref 1327, .ref 1328, .int 0, .ref 1329, .int 0]) := (fr6 1322 (by decide)).trans h_1322_5
  have h_1323_5 : f5 1323 = .inl (.long, 2000, (fun _ => .long 0)) := (fr5 1323 (by decide)).trans h_1323_4
  have h_1323_6 : f6 1323 = .inl (.long, 2000, (fun _ => .long 0)) := (fr6 1323 (by decide)).trans h_1323_5
  have h_1324_5 : f5 1324 = .inl (.long, 2000, (fun _ => .long 0)) := (fr5 1324 (by decide)).trans h_1324_4
  have h_1324_6 : f6 1324 = .inl (.long, 2000, (fun _ => .long 0)) := (fr6 1324 (by decide)).trans h_1324_5
  have h_1325_5 : f5 1325 = .inl (.int, 100, (fun j => if j < 100 then .int (-1) else (fun _ => .int 0) j)) := (fr5 1325 (by decide)).trans h_1325_4
  have h_1325_6 : f6 1325 = .inl (.int, 100, (fun j => if j < 100 then .int (-1) else (fun _ => .int 0) j)) := (fr6 1325 (by decide)).trans h_1325_5
  have h_1326_5 : f5 1326 = .inl (.long, 12, (fun _ => .long 0)) := (fr5 1326 (by decide)).trans h_1326_4
  have h_1326_6 : f6 1326 = .inl (.long, 12, (fun _ => .long 0)) := (fr6 1326 (by decide)).trans h_1326_5
  have h_1327_5 : f5 1327 = .inl (.long, 12, (fun _ => .long 0)) := (fr5 1327 (by decide)).trans h_1327_4
  have h_1327_6 : f6 1327 = .inl (.long, 12, (fun _ => .long 0)) := (fr6 1327 (by decide)).trans h_1327_5
  have h_1328_5 : f5 1328 = .inl (.long, 12, (fun _ => .long 0)) := (fr5 1328 (by decide)).trans h_1328_4
  have h_1328_6 : f6 1328 = .inl (.long, 12, (fun _ => .long 0)) := (fr6 1328 (by decide)).trans h_1328_5
  have h_1329_5 : f5 1329 = .inl (.object "StowTongue$Unit", 10, (fun _ => .null)) := (fr5 1329 (by decide)).trans h_1329_4
  have h_1329_6 : f6 1329 = .inl (.object "StowTongue$Unit", 10, (fun _ => .null)) := (fr6 1329 (by decide)).trans h_1329_5
  have h_148_6 : f6 148 = .inr (6, [.ref 149, .ref 150, .int 1, .int 0, .ref 1311, .int 2, .ref 151, .ref 152, .ref 153, .int 0, .ref 1314, .ref 130, .int x, .int 0, .int 0, .int 1, .long 0, .long 0]) := (fr6 148 (by decide)).trans h_148_5
  have h_149_6 : f6 149 = .inl (.long, 64, (updV (fun _ => .long 0) 0 (.long 0))) := (fr6 149 (by decide)).trans h_149_5
  have h_150_6 : f6 150 = .inl (.long, 64, (updV (fun _ => .long 0) 0 (.long 0))) := (fr6 150 (by decide)).trans h_150_5
  exact am_iret rfl d_Stow_run_163 ⟨rfl, rfl, h_133_6, h_132_6, h_144_6, h_136_6, h_137_6, h_1311_6, h_1312_6, h_1313_6, h_128_6, h_130_6, h_1314_6, h_1315_6, h_1316_6, h_1317_6, h_1318_6, h_1319_6, h_1320_6, h_1321_6, h_155_6, h_1322_6, h_1323_6, h_1324_6, h_1325_6, h_1326_6, h_1327_6, h_1328_6, h_1329_6, h_148_6, h_149_6, h_150_6, h_154_6, h_156_6, fun x hx => by simp only [List.mem_cons, List.not_mem_nil, or_false, not_or] at hx; dsimp only; (repeat (first | rw [va_up_ne _ _ (by omega)] | rw [fr1 x (by simp only [List.mem_cons, List.not_mem_nil, or_false, not_or]; omega)] | rw [fr2 x (by simp only [List.mem_cons, List.not_mem_nil, or_false, not_or]; omega)] | rw [fr3 x (by simp only [List.mem_cons, List.not_mem_nil, or_false, not_or]; omega)] | rw [fr4 x (by simp only [List.mem_cons, List.not_mem_nil, or_false, not_or]; omega)] | rw [fr5 x (by simp only [List.mem_cons, List.not_mem_nil, or_false, not_or]; omega)] | rw [fr6 x (by simp only [List.mem_cons, List.not_mem_nil, or_false, not_or]; omega)]))⟩
end
