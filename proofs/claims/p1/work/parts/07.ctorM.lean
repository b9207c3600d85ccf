section
variable {K : am_K} {X : Nat → am_C}
def F_Vals (n : Nat) (f : Nat → am_C) (r N : Nat) : Nat → am_C := va_up (va_up (va_up (va_up (va_up f n (.inl (.int, N, fun _ => .int 0))) (n + 1) (.inl (.int, N, fun _ => .int 0))) (n + 2) (.inl (.long, N, fun _ => .long 0))) (n + 3) (.inl (.long, N, fun _ => .long 0))) r (.inr (11, [.ref n, .ref (n + 1), .ref (n + 2), .ref (n + 3)]))

set_option maxRecDepth 100000 in
set_option maxHeartbeats 4000000 in
/-- Values(n): four rows of n noughts -/
theorem c_Vals_init (O : am_ok K X) {n r N : Nat} {f : Nat → am_C} {x : Int32} (h0 : f r = .inr (11, [.null, .null, .null, .null])) (h1 : 64 ≤ r) (h2 : r < n) (hx : ¬ x < 0) (hN : x.toNatClampNeg = N) (hb : N ≤ 60000) : am_Mt K X m_Vals_init 1 4 (4 * N) [.ref r, .int x] (n, f) (fun v h' => v = none ∧ h' = (n + 4, F_Vals n f r N)) := by
  refine am_enter (by decide +kernel) (Nat.le_of_ble_eq_true rfl) ?_
  refine am_aload_n d_Vals_init_0 rfl rfl ?_
  refine am_obj w_1500 w_177 w_178 d_Vals_init_1 (by omega) (Nat.le_of_ble_eq_true rfl) ?_
  refine am_aload_n d_Vals_init_4 rfl rfl ?_
  refine am_iload_n d_Vals_init_5 rfl rfl ?_
  refine am_newa (at_ := .int) (ty := .int) O rfl (by decide) w_317 d_Vals_init_6 hx hN (by show N * 4 ≤ _; omega) (by omega) (by omega) ?_
  refine am_putF O f_Vals_7 (fun q hq => by cases hq; exact ⟨w_1501, rfl⟩) rfl d_Vals_init_8 (by (repeat (first | rw [va_up_self] | rw [va_up_ne _ _ (by omega)])); first | done | rfl | assumption) (by omega) (by omega) (Nat.le_of_ble_eq_true rfl) (fun q hq => by cases hq; exact ⟨rfl, rfl, rfl⟩) ?_
  refine am_aload_n d_Vals_init_11 rfl rfl ?_
  refine am_iload_n d_Vals_init_12 rfl rfl ?_
  refine am_newa (at_ := .int) (ty := .int) O rfl (by decide) w_317 d_Vals_init_13 hx hN (by show N * 4 ≤ _; omega) (by omega) (by omega) ?_
  refine am_putF O f_Vals_13 (fun q hq => by cases hq; exact ⟨w_1504, rfl⟩) rfl d_Vals_init_15 (by (repeat (first | rw [va_up_self] | rw [va_up_ne _ _ (by omega)])); first | done | rfl | assumption) (by omega) (by omega) (Nat.le_of_ble_eq_true rfl) (fun q hq => by cases hq; exact ⟨rfl, rfl, rfl⟩) ?_
  refine am_aload_n d_Vals_init_18 rfl rfl ?_
  refine am_iload_n d_Vals_init_19 rfl rfl ?_
  refine am_newa (at_ := .long) (ty := .long) O rfl (by decide) w_291 d_Vals_init_20 hx hN (by show N * 8 ≤ _; omega) (by omega) (by omega) ?_
  refine am_putF O f_Vals_16 (fun q hq => by cases hq; exact ⟨w_1507, rfl⟩) rfl d_Vals_init_22 (by (repeat (first | rw [va_up_self] | rw [va_up_ne _ _ (by omega)])); first | done | rfl | assumption) (by omega) (by omega) (Nat.le_of_ble_eq_true rfl) (fun q hq => by cases hq; exact ⟨rfl, rfl, rfl⟩) ?_
  refine am_aload_n d_Vals_init_25 rfl rfl ?_
  refine am_iload_n d_Vals_init_26 rfl rfl ?_
  refine am_newa (at_ := .long) (ty := .long) O rfl (by decide) w_291 d_Vals_init_27 hx hN (by show N * 8 ≤ _; omega) (by omega) (by omega) ?_
  refine am_putF O f_Vals_20 (fun q hq => by cases hq; exact ⟨w_1510, rfl⟩) rfl d_Vals_init_29 (by (repeat (first | rw [va_up_self] | rw [va_up_ne _ _ (by omega)])); first | done | rfl | assumption) (by omega) (by omega) (Nat.le_of_ble_eq_true rfl) (fun q hq => by cases hq; exact ⟨rfl, rfl, rfl⟩) ?_
  refine am_vret rfl d_Vals_init_32 ⟨rfl, ?_⟩
  refine Prod.ext rfl (funext fun x => ?_)
  show va_up _ _ _ x = F_Vals n f r N x
  simp only [F_Vals, va_up]
  repeat' split
  all_goals first | rfl | omega
end
