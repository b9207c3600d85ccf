section
variable {K : am_K} {X : Nat → am_C}
def F_AL (n : Nat) (f : Nat → am_C) (r : Nat) : Nat → am_C := va_up f r (.inr (3, [.ref 1, .int 0, .int 0]))
theorem F_AL_lt {n : Nat} {f : Nat → am_C} {r x : Nat} (_ : x < n) (hr : x ≠ r) : F_AL n f r x = f x := va_up_ne _ _ hr

set_option maxRecDepth 100000 in
set_option maxHeartbeats 4000000 in
theorem c_ACo_init {r : Nat} {h : am_H} : am_Mt K X m_ACo_init 1 0 0 [.ref r] h (fun v h' => v = none ∧ h' = h) := by
  refine am_enter (by decide +kernel) (Nat.le_of_ble_eq_true rfl) ?_
  refine am_aload_n d_ACo_init_0 rfl rfl ?_
  refine am_obj w_329 w_177 w_178 d_ACo_init_1 (by omega) (Nat.le_of_ble_eq_true rfl) ?_
  exact am_vret rfl d_ACo_init_4 ⟨rfl, rfl⟩

set_option maxRecDepth 100000 in
set_option maxHeartbeats 4000000 in
theorem c_ALs_init (O : am_ok K X) {n r : Nat} {f : Nat → am_C} {e : Value} {z x : Int32} (h0 : f r = .inr (3, [e, .int z, .int x])) (h1 : 128 ≤ r) (h2 : r < n) : am_Mt K X m_ALs_init 2 0 0 [.ref r] (n, f) (fun v h' => v = none ∧ h' = (n, va_up f r (.inr (3, [e, .int z, .int 0])))) := by
  refine am_enter (by decide +kernel) (Nat.le_of_ble_eq_true rfl) ?_
  refine am_aload_n d_ALs_init_0 rfl rfl ?_
  refine am_callI O c_ACo_init rfl l_ALs_1 w_327 rfl rfl rfl (Nat.le_of_ble_eq_true rfl) d_ALs_init_1 (by omega) (by omega) (by omega) (fun v h' hp => ?_)
  obtain ⟨rfl, rfl⟩ := hp
  refine am_aload_n d_ALs_init_4 rfl rfl ?_
  refine am_iconst (v := 0) d_ALs_init_5 (by decide) ?_
  refine am_put O f_ALs_7 d_ALs_init_6 (by (repeat (first | rw [va_up_self] | rw [va_up_ne _ _ (by omega)])); first | done | rfl | assumption) (by omega) (by omega) (Nat.le_of_ble_eq_true rfl) (fun q hq => by cases hq; exact ⟨rfl, rfl, rfl⟩) ?_
  exact am_vret rfl d_ALs_init_9 ⟨rfl, rfl⟩

set_option maxRecDepth 100000 in
set_option maxHeartbeats 4000000 in
theorem c_AL_init (O : am_ok K X) (E : am_E0 K) {n r : Nat} {f : Nat → am_C} (h0 : f r = .inr (3, [.null, .int 0, .int 0])) (h1 : 128 ≤ r) (h2 : r < n) : am_Mt K X m_AL_init 3 0 0 [.ref r] (n, f) (fun v h' => v = none ∧ h' = (n + 0, F_AL n f r)) := by
  refine am_enter (by decide +kernel) (Nat.le_of_ble_eq_true rfl) ?_
  refine am_aload_n d_AL_init_0 rfl rfl ?_
  refine am_callI O (c_ALs_init O h0 h1 h2) rfl l_AL_1 w_324 rfl rfl rfl (Nat.le_of_ble_eq_true rfl) d_AL_init_1 (by omega) (by omega) (by omega) (fun v h' hp => ?_)
  obtain ⟨rfl, rfl⟩ := hp
  refine am_aload_n d_AL_init_4 rfl rfl ?_
  refine am_gets (v := .ref 1) E.2.2 w_330 d_AL_init_5 ?_
  refine am_put O f_AL_9 d_AL_init_8 (by (repeat (first | rw [va_up_self] | rw [va_up_ne _ _ (by omega)])); first | done | rfl | assumption) (by omega) (by omega) (Nat.le_of_ble_eq_true rfl) (fun q hq => by cases hq; exact ⟨rfl, rfl, rfl⟩) ?_
  refine am_vret rfl d_AL_init_11 ⟨rfl, ?_⟩
  exact Prod.ext rfl (bx_uu f r _ _)


set_option maxRecDepth 100000 in
set_option maxHeartbeats 4000000 in
theorem c_Unit_init (O : am_ok K X) {n r p q : Nat} {f : Nat → am_C} {a : Int64} {x y z : Int32} (h0 : f r = .inr (4, [.long 0, .int 0, .int 0, .int 0, .null, .null])) (h1 : 128 ≤ r) (h2 : r < n) : am_Mt K X m_Unit_init 1 0 0 [.ref r, .long a, .int x, .int y, .int z, .ref p, .ref q] (n, f) (fun v h' => v = none ∧ h' = (n + 0, va_up f r (.inr (4, [.long a, .int x, .int y, .int z, .ref p, .ref q])))) := by
  refine am_enter (by decide +kernel) (Nat.le_of_ble_eq_true rfl) ?_
  refine am_aload_n d_Unit_init_0 rfl rfl ?_
  refine am_obj w_349 w_177 w_178 d_Unit_init_1 (by omega) (Nat.le_of_ble_eq_true rfl) ?_
  refine am_aload_n d_Unit_init_4 rfl rfl ?_
  refine am_lload_n d_Unit_init_5 rfl rfl ?_
  refine am_putF O f_Unit_7 (fun q hq => by cases hq; exact ⟨w_350, rfl⟩) rfl d_Unit_init_6 (by (repeat (first | rw [va_up_self] | rw [va_up_ne _ _ (by omega)])); first | done | rfl | assumption) (by omega) (by omega) (Nat.le_of_ble_eq_true rfl) (fun q hq => by cases hq; exact ⟨rfl, rfl, rfl⟩) ?_
  refine am_aload_n d_Unit_init_9 rfl rfl ?_
  refine am_iload_n d_Unit_init_10 rfl rfl ?_
  refine am_putF O f_Unit_13 (fun q hq => by cases hq; exact ⟨w_351, rfl⟩) rfl d_Unit_init_11 (by (repeat (first | rw [va_up_self] | rw [va_up_ne _ _ (by omega)])); first | done | rfl | assumption) (by omega) (by omega) (Nat.le_of_ble_eq_true rfl) (fun q hq => by cases hq; exact ⟨rfl, rfl, rfl⟩) ?_
  refine am_aload_n d_Unit_init_14 rfl rfl ?_
  refine am_iload d_Unit_init_15 rfl ?_
  refine am_putF O f_Unit_17 (fun q hq => by cases hq; exact ⟨w_352, rfl⟩) rfl d_Unit_init_17 (by (repeat (first | rw [va_up_self] | rw [va_up_ne _ _ (by omega)])); first | done | rfl | assumption) (by omega) (by omega) (Nat.le_of_ble_eq_true rfl) (fun q hq => by cases hq; exact ⟨rfl, rfl, rfl⟩) ?_
  refine am_aload_n d_Unit_init_20 rfl rfl ?_
  refine am_iload d_Unit_init_21 rfl ?_
  refine am_putF O f_Unit_20 (fun q hq => by cases hq; exact ⟨w_353, rfl⟩) rfl d_Unit_init_23 (by (repeat (first | rw [va_up_self] | rw [va_up_ne _ _ (by omega)])); first | done | rfl | assumption) (by omega) (by omega) (Nat.le_of_ble_eq_true rfl) (fun q hq => by cases hq; exact ⟨rfl, rfl, rfl⟩) ?_
  refine am_aload_n d_Unit_init_26 rfl rfl ?_
  refine am_aload d_Unit_init_27 rfl ?_
  refine am_putF O f_Unit_23 (fun q hq => by cases hq; exact ⟨w_354, rfl⟩) rfl d_Unit_init_29 (by (repeat (first | rw [va_up_self] | rw [va_up_ne _ _ (by omega)])); first | done | rfl | assumption) (by omega) (by omega) (Nat.le_of_ble_eq_true rfl) (fun q hq => by cases hq; exact ⟨rfl, rfl, rfl⟩) ?_
  refine am_aload_n d_Unit_init_32 rfl rfl ?_
  refine am_aload d_Unit_init_33 rfl ?_
  refine am_putF O f_Unit_27 (fun q hq => by cases hq; exact ⟨w_355, rfl⟩) rfl d_Unit_init_35 (by (repeat (first | rw [va_up_self] | rw [va_up_ne _ _ (by omega)])); first | done | rfl | assumption) (by omega) (by omega) (Nat.le_of_ble_eq_true rfl) (fun q hq => by cases hq; exact ⟨rfl, rfl, rfl⟩) ?_
  refine am_vret rfl d_Unit_init_38 ⟨rfl, ?_⟩
  refine Prod.ext rfl ?_
  show va_up _ _ _ = va_up _ _ _
  simp only [bx_uu]
  rfl
end
