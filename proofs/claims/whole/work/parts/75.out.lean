/-- the class's Out at r: k bytes g, and whether one was too many -/
def oR (f : Nat → am_C) (r k : Nat) (sp : Int32) (g : Nat → Int32) : Prop :=
  f r = .inr (0, [.ref (r + 1), .int (nI k), .int sp]) ∧ f (r + 1) = .inl (.byte, 600, fun j => .int (g j)) ∧ k ≤ 600
section
variable {K : am_K} {X : Nat → am_C}

set_option maxRecDepth 100000 in
set_option maxHeartbeats 1000000 in
theorem g_Out_clear (O : am_ok K X) {n r k : Nat} {sp : Int32} {g : Nat → Int32} {f : Nat → am_C} (V : oR f r k sp g) (h1 : 128 ≤ r) (h2 : r + 1 < n) : am_Mt K X m_Out_clear 0 0 0 [.ref r] (n, f) (fun v h' => v = none ∧ ∃ f', h' = (n, f') ∧ oR f' r 0 0 g ∧ ∀ x, x ≠ r → f' x = f x) := by
  refine am_enter (by decide +kernel) (Nat.le_of_ble_eq_true rfl) ?_
  refine am_aload_n d_Out_clear_0 rfl rfl ?_
  refine am_iconst (v := 0) d_Out_clear_1 (by decide) ?_
  refine am_put O f_Out_15 d_Out_clear_2 (by (repeat (first | rw [va_up_self] | rw [va_up_ne _ _ (by omega)])); first | done | rfl | exact V.1 | exact V.2.1) (by omega) (by omega) (Nat.le_of_ble_eq_true rfl) (fun q hq => by cases hq; exact ⟨rfl, rfl, rfl⟩) ?_
  refine am_aload_n d_Out_clear_5 rfl rfl ?_
  refine am_iconst (v := 0) d_Out_clear_6 (by decide) ?_
  refine am_put O f_Out_19 d_Out_clear_7 (by (repeat (first | rw [va_up_self] | rw [va_up_ne _ _ (by omega)])); first | done | rfl | exact V.1 | exact V.2.1) (by omega) (by omega) (Nat.le_of_ble_eq_true rfl) (fun q hq => by cases hq; exact ⟨rfl, rfl, rfl⟩) ?_
  exact am_vret rfl d_Out_clear_10 ⟨rfl, _, rfl, ⟨(by (repeat (first | rw [va_up_self] | rw [va_up_ne _ _ (by omega)])); first | done | rfl | exact V.1 | exact V.2.1), (by (repeat (first | rw [va_up_self] | rw [va_up_ne _ _ (by omega)])); first | done | rfl | exact V.1 | exact V.2.1), by omega⟩, fun x hx => by rw [va_up_ne _ _ hx, va_up_ne _ _ hx]⟩

set_option maxRecDepth 100000 in
set_option maxHeartbeats 1000000 in
theorem g_Out_size (O : am_ok K X) {n r k : Nat} {sp : Int32} {g : Nat → Int32} {f : Nat → am_C} (V : oR f r k sp g) (h1 : 128 ≤ r) (h2 : r + 1 < n) : am_Mt K X m_Out_size 0 0 0 [.ref r] (n, f) (fun v h' => v = some (.int (nI k)) ∧ h' = (n, f)) := by
  refine am_enter (by decide +kernel) (Nat.le_of_ble_eq_true rfl) ?_
  refine am_aload_n d_Out_size_0 rfl rfl ?_
  refine am_get O f_Out_15 d_Out_size_1 (by (repeat (first | rw [va_up_self] | rw [va_up_ne _ _ (by omega)])); first | done | rfl | exact V.1 | exact V.2.1) (by omega) (by omega) rfl ?_
  exact am_iret rfl d_Out_size_4 ⟨rfl, rfl⟩

theorem i8_i8 {x : Int32} : x.toInt8.toInt32.toInt8.toInt32 = x.toInt8.toInt32 := by simp

set_option maxRecDepth 100000 in
set_option maxHeartbeats 1000000 in
theorem g_Out_add (O : am_ok K X) {n r k : Nat} {sp : Int32} {g : Nat → Int32} {f : Nat → am_C} (V : oR f r k sp g) (h1 : 128 ≤ r) (h2 : r + 1 < n) {x : Int32} : am_Mt K X m_Out_add 0 0 0 [.ref r, .int x] (n, f) (fun v h' => v = none ∧ ∃ f', h' = (n, f') ∧ oR f' r (if k < 600 then k + 1 else k) (if k < 600 then sp else 1) (if k < 600 then upI g k x.toInt8.toInt32 else g) ∧ ∀ x, x ≠ r ∧ x ≠ r + 1 → f' x = f x) := by
  refine am_enter (by decide +kernel) (Nat.le_of_ble_eq_true rfl) ?_
  refine am_aload_n d_Out_add_0 rfl rfl ?_
  refine am_get O f_Out_15 d_Out_add_1 (by (repeat (first | rw [va_up_self] | rw [va_up_ne _ _ (by omega)])); first | done | rfl | exact V.1 | exact V.2.1) (by omega) (by omega) rfl ?_
  refine am_sipush (v := 600) d_Out_add_4 (by decide) ?_
  refine am_icmp_ge (tgt := 34) d_Out_add_7 (by decide) (fun c => ?_) (fun c => ?_)
  · refine am_aload_n d_Out_add_34 rfl rfl ?_
    refine am_iconst (v := 1) d_Out_add_35 (by decide) ?_
    refine am_put O f_Out_19 d_Out_add_36 (by (repeat (first | rw [va_up_self] | rw [va_up_ne _ _ (by omega)])); first | done | rfl | exact V.1 | exact V.2.1) (by omega) (by omega) (Nat.le_of_ble_eq_true rfl) (fun q hq => by cases hq; exact ⟨rfl, rfl, rfl⟩) ?_
    exact am_vret rfl d_Out_add_39 ⟨rfl, _, rfl, by rw [if_neg (show ¬ k < 600 from fun q => nI_ge q (by decide) c), if_neg (show ¬ k < 600 from fun q => nI_ge q (by decide) c), if_neg (show ¬ k < 600 from fun q => nI_ge q (by decide) c)]; exact ⟨(by (repeat (first | rw [va_up_self] | rw [va_up_ne _ _ (by omega)])); first | done | rfl | exact V.1 | exact V.2.1), (by (repeat (first | rw [va_up_self] | rw [va_up_ne _ _ (by omega)])); first | done | rfl | exact V.1 | exact V.2.1), V.2.2⟩, fun x hx => by rw [va_up_ne _ _ (by omega)]⟩
  · have hk : k < 600 := Nat.not_le.mp fun q => c (nI_le q (by have := V.2.2; omega))
    refine am_aload_n d_Out_add_10 rfl rfl ?_
    refine am_get O f_Out_11 d_Out_add_11 (by (repeat (first | rw [va_up_self] | rw [va_up_ne _ _ (by omega)])); first | done | rfl | exact V.1 | exact V.2.1) (by omega) (by omega) rfl ?_
    refine am_aload_n d_Out_add_14 rfl rfl ?_
    refine am_get O f_Out_15 d_Out_add_15 (by (repeat (first | rw [va_up_self] | rw [va_up_ne _ _ (by omega)])); first | done | rfl | exact V.1 | exact V.2.1) (by omega) (by omega) rfl ?_
    refine am_iload_n d_Out_add_18 rfl rfl ?_
    refine am_i2b d_Out_add_19 rfl ?_
    refine am_bast O (by decide) d_Out_add_20 (by (repeat (first | rw [va_up_self] | rw [va_up_ne _ _ (by omega)])); first | done | rfl | exact V.1 | exact V.2.1) (by omega) (by omega) (vp_in_nI hk (by decide)) ?_
    refine am_aload_n d_Out_add_21 rfl rfl ?_
    refine am_dup d_Out_add_22 rfl ?_
    refine am_get O f_Out_15 d_Out_add_23 (by (repeat (first | rw [va_up_self] | rw [va_up_ne _ _ (by omega)])); first | done | rfl | exact V.1 | exact V.2.1) (by omega) (by omega) rfl ?_
    refine am_iconst (v := 1) d_Out_add_26 (by decide) ?_
    refine am_iadd d_Out_add_27 ?_
    refine am_put O f_Out_15 d_Out_add_28 (by (repeat (first | rw [va_up_self] | rw [va_up_ne _ _ (by omega)])); first | done | rfl | exact V.1 | exact V.2.1) (by omega) (by omega) (Nat.le_of_ble_eq_true rfl) (fun q hq => by cases hq; exact ⟨rfl, rfl, rfl⟩) ?_
    refine am_goto (tgt := 39) d_Out_add_31 (by decide) ?_
    exact am_vret rfl d_Out_add_39 ⟨rfl, _, rfl, by rw [if_pos hk, if_pos hk, if_pos hk]; exact ⟨by rw [va_up_self, nI_succ]; rfl, by rw [va_up_ne _ _ (by omega), va_up_self, nI_clamp (by omega), updV_I, i8_i8], hk⟩, fun x hx => by rw [va_up_ne _ _ (by omega), va_up_ne _ _ (by omega)]⟩

end
