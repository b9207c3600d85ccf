def upI (k : Nat → Int32) (i : Nat) (x : Int32) : Nat → Int32 := fun j => if j = i then x else k j
def upL (k : Nat → Int64) (i : Nat) (x : Int64) : Nat → Int64 := fun j => if j = i then x else k j
theorem updV_I {k : Nat → Int32} {i : Nat} {x : Int32} : updV (fun j => Value.int (k j)) i (.int x) = fun j => .int (upI k i x j) := by
  funext j
  by_cases h : j = i <;> simp [updV, upI, h]
theorem updV_L {k : Nat → Int64} {i : Nat} {x : Int64} : updV (fun j => Value.long (k j)) i (.long x) = fun j => .long (upL k i x j) := by
  funext j
  by_cases h : j = i <;> simp [updV, upL, h]
/-- a Values of the reference at r, its four arrays behind it -/
def vR (f : Nat → am_C) (r N : Nat) (kd sz : Nat → Int32) (on tw : Nat → Int64) : Prop :=
  f r = .inr (11, [.ref (r + 1), .ref (r + 2), .ref (r + 3), .ref (r + 4)]) ∧ f (r + 1) = .inl (.int, N, fun j => .int (kd j)) ∧ f (r + 2) = .inl (.int, N, fun j => .int (sz j)) ∧ f (r + 3) = .inl (.long, N, fun j => .long (on j)) ∧ f (r + 4) = .inl (.long, N, fun j => .long (tw j))
theorem vR.kept {f f' : Nat → am_C} {r N : Nat} {kd sz : Nat → Int32} {on tw : Nat → Int64} (V : vR f r N kd sz on tw) (h : ∀ x, r ≤ x → x ≤ r + 4 → f' x = f x) : vR f' r N kd sz on tw :=
  ⟨(h _ (by omega) (by omega)).trans V.1, (h _ (by omega) (by omega)).trans V.2.1, (h _ (by omega) (by omega)).trans V.2.2.1, (h _ (by omega) (by omega)).trans V.2.2.2.1, (h _ (by omega) (by omega)).trans V.2.2.2.2⟩
section
variable {K : am_K} {X : Nat → am_C}

set_option maxRecDepth 100000 in
set_option maxHeartbeats 1000000 in
theorem g_Vals_set (O : am_ok K X) {n r N : Nat} {f : Nat → am_C} {kd sz : Nat → Int32} {on tw : Nat → Int64} (V : vR f r N kd sz on tw) (h1 : 128 ≤ r) (h2 : r + 4 < n) {i : Int32} (hi : vp_in i N) {x1 x2 : Int32} {y1 y2 : Int64} : am_Mt K X m_Vals_set 0 0 0 [.ref r, .int i, .int x1, .int x2, .long y1, .long y2] (n, f) (fun v h' => v = none ∧ ∃ f', h' = (n, f') ∧ vR f' r N (upI kd i.toNatClampNeg x1) (upI sz i.toNatClampNeg x2) (upL on i.toNatClampNeg y1) (upL tw i.toNatClampNeg y2) ∧ ∀ x, x < r + 1 ∨ r + 4 < x → f' x = f x) := by
  refine am_enter (by decide +kernel) (Nat.le_of_ble_eq_true rfl) ?_
  refine am_aload_n d_Vals_set_0 rfl rfl ?_
  refine am_get O f_Vals_7 d_Vals_set_1 (by (repeat (first | rw [va_up_self] | rw [va_up_ne _ _ (by omega)])); first | exact V.1 | exact V.2.1 | exact V.2.2.1 | exact V.2.2.2.1 | exact V.2.2.2.2) (by omega) (by omega) rfl ?_
  refine am_iload_n d_Vals_set_4 rfl rfl ?_
  refine am_iload_n d_Vals_set_5 rfl rfl ?_
  refine am_iast O (by decide) d_Vals_set_6 (by (repeat (first | rw [va_up_self] | rw [va_up_ne _ _ (by omega)])); first | exact V.1 | exact V.2.1 | exact V.2.2.1 | exact V.2.2.2.1 | exact V.2.2.2.2) (by omega) (by omega) hi ?_
  refine am_aload_n d_Vals_set_7 rfl rfl ?_
  refine am_get O f_Vals_13 d_Vals_set_8 (by (repeat (first | rw [va_up_self] | rw [va_up_ne _ _ (by omega)])); first | exact V.1 | exact V.2.1 | exact V.2.2.1 | exact V.2.2.2.1 | exact V.2.2.2.2) (by omega) (by omega) rfl ?_
  refine am_iload_n d_Vals_set_11 rfl rfl ?_
  refine am_iload_n d_Vals_set_12 rfl rfl ?_
  refine am_iast O (by decide) d_Vals_set_13 (by (repeat (first | rw [va_up_self] | rw [va_up_ne _ _ (by omega)])); first | exact V.1 | exact V.2.1 | exact V.2.2.1 | exact V.2.2.2.1 | exact V.2.2.2.2) (by omega) (by omega) hi ?_
  refine am_aload_n d_Vals_set_14 rfl rfl ?_
  refine am_get O f_Vals_16 d_Vals_set_15 (by (repeat (first | rw [va_up_self] | rw [va_up_ne _ _ (by omega)])); first | exact V.1 | exact V.2.1 | exact V.2.2.1 | exact V.2.2.2.1 | exact V.2.2.2.2) (by omega) (by omega) rfl ?_
  refine am_iload_n d_Vals_set_18 rfl rfl ?_
  refine am_lload d_Vals_set_19 rfl ?_
  refine am_last O (by decide) d_Vals_set_21 (by (repeat (first | rw [va_up_self] | rw [va_up_ne _ _ (by omega)])); first | exact V.1 | exact V.2.1 | exact V.2.2.1 | exact V.2.2.2.1 | exact V.2.2.2.2) (by omega) (by omega) hi ?_
  refine am_aload_n d_Vals_set_22 rfl rfl ?_
  refine am_get O f_Vals_20 d_Vals_set_23 (by (repeat (first | rw [va_up_self] | rw [va_up_ne _ _ (by omega)])); first | exact V.1 | exact V.2.1 | exact V.2.2.1 | exact V.2.2.2.1 | exact V.2.2.2.2) (by omega) (by omega) rfl ?_
  refine am_iload_n d_Vals_set_26 rfl rfl ?_
  refine am_lload d_Vals_set_27 rfl ?_
  refine am_last O (by decide) d_Vals_set_29 (by (repeat (first | rw [va_up_self] | rw [va_up_ne _ _ (by omega)])); first | exact V.1 | exact V.2.1 | exact V.2.2.1 | exact V.2.2.2.1 | exact V.2.2.2.2) (by omega) (by omega) hi ?_
  exact am_vret rfl d_Vals_set_30 ⟨rfl, _, rfl, ⟨(by (repeat (first | rw [va_up_self] | rw [va_up_ne _ _ (by omega)])); first | exact V.1 | rw [updV_I] | rw [updV_L]), (by (repeat (first | rw [va_up_self] | rw [va_up_ne _ _ (by omega)])); first | exact V.1 | rw [updV_I] | rw [updV_L]), (by (repeat (first | rw [va_up_self] | rw [va_up_ne _ _ (by omega)])); first | exact V.1 | rw [updV_I] | rw [updV_L]), (by (repeat (first | rw [va_up_self] | rw [va_up_ne _ _ (by omega)])); first | exact V.1 | rw [updV_I] | rw [updV_L]), (by (repeat (first | rw [va_up_self] | rw [va_up_ne _ _ (by omega)])); first | exact V.1 | rw [updV_I] | rw [updV_L])⟩, fun x hx => by rw [va_up_ne _ _ (by omega), va_up_ne _ _ (by omega), va_up_ne _ _ (by omega), va_up_ne _ _ (by omega)]⟩

def s_Vals_sign (y1 y2 : Int64) (x1 : Int32) : Int32 := if 8 ≤ x1 then (((y2 : Int64).toUInt64 >>> ((8 * (x1 &&& 7) : Int32).toInt64.toUInt64 &&& Int64.toUInt64 63)).toInt64.toInt32 &&& 255) else (((y1 : Int64).toUInt64 >>> ((8 * (x1 &&& 7) : Int32).toInt64.toUInt64 &&& Int64.toUInt64 63)).toInt64.toInt32 &&& 255)

set_option maxRecDepth 100000 in
set_option maxHeartbeats 1000000 in
theorem g_Vals_sign (O : am_ok K X) {n r N : Nat} {f : Nat → am_C} {kd sz : Nat → Int32} {on tw : Nat → Int64} (V : vR f r N kd sz on tw) (h1 : 128 ≤ r) (h2 : r + 4 < n) {i : Int32} (hi : vp_in i N) {x1 : Int32} : am_Mt K X m_Vals_sign 0 0 0 [.ref r, .int i, .int x1] (n, f) (fun v h' => v = some (.int (s_Vals_sign (on i.toNatClampNeg) (tw i.toNatClampNeg) x1)) ∧ h' = (n, f)) := by
  refine am_enter (by decide +kernel) (Nat.le_of_ble_eq_true rfl) ?_
  refine am_iload_n d_Vals_sign_0 rfl rfl ?_
  refine am_bipush (v := 8) d_Vals_sign_1 (by decide) ?_
  refine am_icmp_ge (tgt := 15) d_Vals_sign_3 (by decide) (fun c => ?_) (fun c => ?_)
  · refine am_aload_n d_Vals_sign_15 rfl rfl ?_
    refine am_get O f_Vals_20 d_Vals_sign_16 (by (repeat (first | rw [va_up_self] | rw [va_up_ne _ _ (by omega)])); first | exact V.1 | exact V.2.1 | exact V.2.2.1 | exact V.2.2.2.1 | exact V.2.2.2.2) (by omega) (by omega) rfl ?_
    refine am_iload_n d_Vals_sign_19 rfl rfl ?_
    refine am_lald O (by decide) d_Vals_sign_20 (by (repeat (first | rw [va_up_self] | rw [va_up_ne _ _ (by omega)])); first | exact V.1 | exact V.2.1 | exact V.2.2.1 | exact V.2.2.2.1 | exact V.2.2.2.2) (by omega) (by omega) hi rfl ?_
    refine am_bipush (v := 8) d_Vals_sign_21 (by decide) ?_
    refine am_iload_n d_Vals_sign_23 rfl rfl ?_
    refine am_bipush (v := 7) d_Vals_sign_24 (by decide) ?_
    refine am_iand d_Vals_sign_26 ?_
    refine am_imul d_Vals_sign_27 ?_
    refine am_lushr d_Vals_sign_28 rfl ?_
    refine am_l2i d_Vals_sign_29 rfl ?_
    refine am_sipush (v := 255) d_Vals_sign_30 (by decide) ?_
    refine am_iand d_Vals_sign_33 ?_
    exact am_iret rfl d_Vals_sign_34 ⟨by rw [s_Vals_sign, if_pos c], rfl⟩
  · refine am_aload_n d_Vals_sign_6 rfl rfl ?_
    refine am_get O f_Vals_16 d_Vals_sign_7 (by (repeat (first | rw [va_up_self] | rw [va_up_ne _ _ (by omega)])); first | exact V.1 | exact V.2.1 | exact V.2.2.1 | exact V.2.2.2.1 | exact V.2.2.2.2) (by omega) (by omega) rfl ?_
    refine am_iload_n d_Vals_sign_10 rfl rfl ?_
    refine am_lald O (by decide) d_Vals_sign_11 (by (repeat (first | rw [va_up_self] | rw [va_up_ne _ _ (by omega)])); first | exact V.1 | exact V.2.1 | exact V.2.2.1 | exact V.2.2.2.1 | exact V.2.2.2.2) (by omega) (by omega) hi rfl ?_
    refine am_goto (tgt := 21) d_Vals_sign_12 (by decide) ?_
    refine am_bipush (v := 8) d_Vals_sign_21 (by decide) ?_
    refine am_iload_n d_Vals_sign_23 rfl rfl ?_
    refine am_bipush (v := 7) d_Vals_sign_24 (by decide) ?_
    refine am_iand d_Vals_sign_26 ?_
    refine am_imul d_Vals_sign_27 ?_
    refine am_lushr d_Vals_sign_28 rfl ?_
    refine am_l2i d_Vals_sign_29 rfl ?_
    refine am_sipush (v := 255) d_Vals_sign_30 (by decide) ?_
    refine am_iand d_Vals_sign_33 ?_
    exact am_iret rfl d_Vals_sign_34 ⟨by rw [s_Vals_sign, if_neg c], rfl⟩

set_option maxRecDepth 100000 in
set_option maxHeartbeats 1000000 in
theorem g_Vals_copy (O : am_ok K X) {n r N : Nat} {f : Nat → am_C} {kd sz : Nat → Int32} {on tw : Nat → Int64} (V : vR f r N kd sz on tw) (h1 : 128 ≤ r) (h2 : r + 4 < n) {i : Int32} (hi : vp_in i N) {r2 N2 : Nat} {k2 s2 : Nat → Int32} {o2 t2 : Nat → Int64} (U : vR f r2 N2 k2 s2 o2 t2) (u1 : 128 ≤ r2) (u2 : r2 + 4 < n) {j : Int32} (hj : vp_in j N2) : am_Mt K X m_Vals_copy 1 0 0 [.ref r, .int i, .ref r2, .int j] (n, f) (fun v h' => v = none ∧ ∃ f', h' = (n, f') ∧ vR f' r N (upI kd i.toNatClampNeg (k2 j.toNatClampNeg)) (upI sz i.toNatClampNeg (s2 j.toNatClampNeg)) (upL on i.toNatClampNeg (o2 j.toNatClampNeg)) (upL tw i.toNatClampNeg (t2 j.toNatClampNeg)) ∧ ∀ x, x < r + 1 ∨ r + 4 < x → f' x = f x) := by
  refine am_enter (by decide +kernel) (Nat.le_of_ble_eq_true rfl) ?_
  refine am_aload_n d_Vals_copy_0 rfl rfl ?_
  refine am_iload_n d_Vals_copy_1 rfl rfl ?_
  refine am_aload_n d_Vals_copy_2 rfl rfl ?_
  refine am_get O f_Vals_7 d_Vals_copy_3 (by (repeat (first | rw [va_up_self] | rw [va_up_ne _ _ (by omega)])); first | exact U.1 | exact U.2.1 | exact U.2.2.1 | exact U.2.2.2.1 | exact U.2.2.2.2) (by omega) (by omega) rfl ?_
  refine am_iload_n d_Vals_copy_6 rfl rfl ?_
  refine am_iald O (by decide) d_Vals_copy_7 (by (repeat (first | rw [va_up_self] | rw [va_up_ne _ _ (by omega)])); first | exact U.1 | exact U.2.1 | exact U.2.2.1 | exact U.2.2.2.1 | exact U.2.2.2.2) (by omega) (by omega) hj rfl ?_
  refine am_aload_n d_Vals_copy_8 rfl rfl ?_
  refine am_get O f_Vals_13 d_Vals_copy_9 (by (repeat (first | rw [va_up_self] | rw [va_up_ne _ _ (by omega)])); first | exact U.1 | exact U.2.1 | exact U.2.2.1 | exact U.2.2.2.1 | exact U.2.2.2.2) (by omega) (by omega) rfl ?_
  refine am_iload_n d_Vals_copy_12 rfl rfl ?_
  refine am_iald O (by decide) d_Vals_copy_13 (by (repeat (first | rw [va_up_self] | rw [va_up_ne _ _ (by omega)])); first | exact U.1 | exact U.2.1 | exact U.2.2.1 | exact U.2.2.2.1 | exact U.2.2.2.2) (by omega) (by omega) hj rfl ?_
  refine am_aload_n d_Vals_copy_14 rfl rfl ?_
  refine am_get O f_Vals_16 d_Vals_copy_15 (by (repeat (first | rw [va_up_self] | rw [va_up_ne _ _ (by omega)])); first | exact U.1 | exact U.2.1 | exact U.2.2.1 | exact U.2.2.2.1 | exact U.2.2.2.2) (by omega) (by omega) rfl ?_
  refine am_iload_n d_Vals_copy_18 rfl rfl ?_
  refine am_lald O (by decide) d_Vals_copy_19 (by (repeat (first | rw [va_up_self] | rw [va_up_ne _ _ (by omega)])); first | exact U.1 | exact U.2.1 | exact U.2.2.1 | exact U.2.2.2.1 | exact U.2.2.2.2) (by omega) (by omega) hj rfl ?_
  refine am_aload_n d_Vals_copy_20 rfl rfl ?_
  refine am_get O f_Vals_20 d_Vals_copy_21 (by (repeat (first | rw [va_up_self] | rw [va_up_ne _ _ (by omega)])); first | exact U.1 | exact U.2.1 | exact U.2.2.1 | exact U.2.2.2.1 | exact U.2.2.2.2) (by omega) (by omega) rfl ?_
  refine am_iload_n d_Vals_copy_24 rfl rfl ?_
  refine am_lald O (by decide) d_Vals_copy_25 (by (repeat (first | rw [va_up_self] | rw [va_up_ne _ _ (by omega)])); first | exact U.1 | exact U.2.1 | exact U.2.2.1 | exact U.2.2.2.1 | exact U.2.2.2.2) (by omega) (by omega) hj rfl ?_
  refine am_callV O (g_Vals_set O V h1 h2 hi) rfl V.1 (by omega) (by omega) rfl rfl l_Vals_23 ⟨w_1914, w_1915⟩ rfl (Nat.le_of_ble_eq_true rfl) d_Vals_copy_26 (by omega) (by omega) (by omega) (fun v h' hp => ?_)
  obtain ⟨rfl, f', rfl, hV, hf⟩ := hp
  exact am_vret rfl d_Vals_copy_29 ⟨rfl, f', rfl, hV, hf⟩

end
