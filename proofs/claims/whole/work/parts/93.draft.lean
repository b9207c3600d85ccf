/-- the class's Draft at r: its three arrays at c, p, l, of which so much is used -/
def dR (f : Nat → am_C) (r c p l s k t : Nat) : Prop := f r = .inr (2, [.ref c, .int (nI s), .ref p, .int (nI k), .ref l, .int (nI t)])
section
variable {K : am_K} {X : Nat → am_C}

set_option maxRecDepth 100000 in
set_option maxHeartbeats 1000000 in
theorem g_Draft_clear (O : am_ok K X) {n r c p l s k t : Nat} {f : Nat → am_C} (V : dR f r c p l s k t) (h1 : 128 ≤ r) (h2 : r < n) : am_Mt K X m_Draft_clear 0 0 0 [.ref r] (n, f) (fun v h' => v = none ∧ ∃ f', h' = (n, f') ∧ dR f' r c p l 0 0 0 ∧ ∀ x, x ≠ r → f' x = f x) := by
  refine am_enter (by decide +kernel) (Nat.le_of_ble_eq_true rfl) ?_
  refine am_aload_n d_Draft_clear_0 rfl rfl ?_
  refine am_iconst (v := 0) d_Draft_clear_1 (by decide) ?_
  refine am_put O f_Draft_20 d_Draft_clear_2 (by (repeat (first | rw [va_up_self] | rw [va_up_ne _ _ (by omega)])); first | done | rfl | exact V) (by omega) (by omega) (Nat.le_of_ble_eq_true rfl) (fun q hq => by cases hq; exact ⟨rfl, rfl, rfl⟩) ?_
  refine am_aload_n d_Draft_clear_5 rfl rfl ?_
  refine am_iconst (v := 0) d_Draft_clear_6 (by decide) ?_
  refine am_put O f_Draft_24 d_Draft_clear_7 (by (repeat (first | rw [va_up_self] | rw [va_up_ne _ _ (by omega)])); first | done | rfl | exact V) (by omega) (by omega) (Nat.le_of_ble_eq_true rfl) (fun q hq => by cases hq; exact ⟨rfl, rfl, rfl⟩) ?_
  refine am_aload_n d_Draft_clear_10 rfl rfl ?_
  refine am_iconst (v := 0) d_Draft_clear_11 (by decide) ?_
  refine am_put O f_Draft_27 d_Draft_clear_12 (by (repeat (first | rw [va_up_self] | rw [va_up_ne _ _ (by omega)])); first | done | rfl | exact V) (by omega) (by omega) (Nat.le_of_ble_eq_true rfl) (fun q hq => by cases hq; exact ⟨rfl, rfl, rfl⟩) ?_
  exact am_vret rfl d_Draft_clear_15 ⟨rfl, _, rfl, by unfold dR; rw [va_up_self]; rfl, fun x hx => by rw [va_up_ne _ _ hx, va_up_ne _ _ hx, va_up_ne _ _ hx]⟩

set_option maxRecDepth 100000 in
set_option maxHeartbeats 1000000 in
theorem g_Draft_here (O : am_ok K X) {n r c p l s k t : Nat} {f : Nat → am_C} (V : dR f r c p l s k t) (h1 : 128 ≤ r) (h2 : r < n) : am_Mt K X m_Draft_here 0 0 0 [.ref r] (n, f) (fun v h' => v = some (.int (nI s / 2)) ∧ h' = (n, f)) := by
  refine am_enter (by decide +kernel) (Nat.le_of_ble_eq_true rfl) ?_
  refine am_aload_n d_Draft_here_0 rfl rfl ?_
  refine am_get O f_Draft_20 d_Draft_here_1 (by (repeat (first | rw [va_up_self] | rw [va_up_ne _ _ (by omega)])); first | done | rfl | exact V) (by omega) (by omega) rfl ?_
  refine am_iconst (v := 2) d_Draft_here_4 (by decide) ?_
  refine am_idiv d_Draft_here_5 (by decide) ?_
  exact am_iret rfl d_Draft_here_6 ⟨rfl, rfl⟩

end
