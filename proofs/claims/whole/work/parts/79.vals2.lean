section
variable {K : am_K} {X : Nat → am_C}

def s_shl8 (x z : Int32) : Int64 := x.toInt64 <<< ((8 * (z &&& 7) : Int32).toInt64 &&& 63)

set_option maxRecDepth 100000 in
set_option maxHeartbeats 1000000 in
theorem g_Vals_add (O : am_ok K X) {n r N : Nat} {f : Nat → am_C} {kd sz : Nat → Int32} {on tw : Nat → Int64} (V : vR f r N kd sz on tw) (h1 : 128 ≤ r) (h2 : r + 4 < n) {i : Int32} (hi : vp_in i N) {x : Int32} : am_Mt K X m_Vals_add 0 0 0 [.ref r, .int i, .int x] (n, f) (fun v h' => v = none ∧ ∃ f', h' = (n, f') ∧ vR f' r N kd (upI sz i.toNatClampNeg (sz i.toNatClampNeg + 1)) (if 8 ≤ sz i.toNatClampNeg then on else upL on i.toNatClampNeg (on i.toNatClampNeg ||| s_shl8 x (sz i.toNatClampNeg))) (if 8 ≤ sz i.toNatClampNeg then upL tw i.toNatClampNeg (tw i.toNatClampNeg ||| s_shl8 x (sz i.toNatClampNeg)) else tw) ∧ ∀ x, x < r + 1 ∨ r + 4 < x → f' x = f x) := by
  refine am_enter (by decide +kernel) (Nat.le_of_ble_eq_true rfl) ?_
  refine am_iload_n d_Vals_add_0 rfl rfl ?_
  refine am_i2l d_Vals_add_1 rfl ?_
  refine am_bipush (v := 8) d_Vals_add_2 (by decide) ?_
  refine am_aload_n d_Vals_add_4 rfl rfl ?_
  refine am_get O f_Vals_13 d_Vals_add_5 (by (repeat (first | rw [va_up_self] | rw [va_up_ne _ _ (by omega)])); first | done | rfl | exact V.1 | exact V.2.1 | exact V.2.2.1 | exact V.2.2.2.1 | exact V.2.2.2.2) (by omega) (by omega) rfl ?_
  refine am_iload_n d_Vals_add_8 rfl rfl ?_
  refine am_iald O (by decide) d_Vals_add_9 (by (repeat (first | rw [va_up_self] | rw [va_up_ne _ _ (by omega)])); first | done | rfl | exact V.1 | exact V.2.1 | exact V.2.2.1 | exact V.2.2.2.1 | exact V.2.2.2.2) (by omega) (by omega) hi rfl ?_
  refine am_bipush (v := 7) d_Vals_add_10 (by decide) ?_
  refine am_iand d_Vals_add_12 ?_
  refine am_imul d_Vals_add_13 ?_
  refine am_lshl d_Vals_add_14 rfl ?_
  refine am_lstore_n d_Vals_add_15 rfl (Nat.le_of_ble_eq_true rfl) ?_
  refine am_aload_n d_Vals_add_16 rfl rfl ?_
  refine am_get O f_Vals_13 d_Vals_add_17 (by (repeat (first | rw [va_up_self] | rw [va_up_ne _ _ (by omega)])); first | done | rfl | exact V.1 | exact V.2.1 | exact V.2.2.1 | exact V.2.2.2.1 | exact V.2.2.2.2) (by omega) (by omega) rfl ?_
  refine am_iload_n d_Vals_add_20 rfl rfl ?_
  refine am_iald O (by decide) d_Vals_add_21 (by (repeat (first | rw [va_up_self] | rw [va_up_ne _ _ (by omega)])); first | done | rfl | exact V.1 | exact V.2.1 | exact V.2.2.1 | exact V.2.2.2.1 | exact V.2.2.2.2) (by omega) (by omega) hi rfl ?_
  refine am_bipush (v := 8) d_Vals_add_22 (by decide) ?_
  refine am_icmp_ge (tgt := 40) d_Vals_add_24 (by decide) (fun c => ?_) (fun c => ?_)
  · refine am_aload_n d_Vals_add_40 rfl rfl ?_
    refine am_get O f_Vals_20 d_Vals_add_41 (by (repeat (first | rw [va_up_self] | rw [va_up_ne _ _ (by omega)])); first | done | rfl | exact V.1 | exact V.2.1 | exact V.2.2.1 | exact V.2.2.2.1 | exact V.2.2.2.2) (by omega) (by omega) rfl ?_
    refine am_iload_n d_Vals_add_44 rfl rfl ?_
    refine am_dup2 d_Vals_add_45 rfl rfl ?_
    refine am_lald O (by decide) d_Vals_add_46 (by (repeat (first | rw [va_up_self] | rw [va_up_ne _ _ (by omega)])); first | done | rfl | exact V.1 | exact V.2.1 | exact V.2.2.1 | exact V.2.2.2.1 | exact V.2.2.2.2) (by omega) (by omega) hi rfl ?_
    refine am_lload_n d_Vals_add_47 rfl rfl ?_
    refine am_lor d_Vals_add_48 ?_
    refine am_last O (by decide) d_Vals_add_49 (by (repeat (first | rw [va_up_self] | rw [va_up_ne _ _ (by omega)])); first | done | rfl | exact V.1 | exact V.2.1 | exact V.2.2.1 | exact V.2.2.2.1 | exact V.2.2.2.2) (by omega) (by omega) hi ?_
    refine am_aload_n d_Vals_add_50 rfl rfl ?_
    refine am_get O f_Vals_13 d_Vals_add_51 (by (repeat (first | rw [va_up_self] | rw [va_up_ne _ _ (by omega)])); first | done | rfl | exact V.1 | exact V.2.1 | exact V.2.2.1 | exact V.2.2.2.1 | exact V.2.2.2.2) (by omega) (by omega) rfl ?_
    refine am_iload_n d_Vals_add_54 rfl rfl ?_
    refine am_dup2 d_Vals_add_55 rfl rfl ?_
    refine am_iald O (by decide) d_Vals_add_56 (by (repeat (first | rw [va_up_self] | rw [va_up_ne _ _ (by omega)])); first | done | rfl | exact V.1 | exact V.2.1 | exact V.2.2.1 | exact V.2.2.2.1 | exact V.2.2.2.2) (by omega) (by omega) hi rfl ?_
    refine am_iconst (v := 1) d_Vals_add_57 (by decide) ?_
    refine am_iadd d_Vals_add_58 ?_
    refine am_iast O (by decide) d_Vals_add_59 (by (repeat (first | rw [va_up_self] | rw [va_up_ne _ _ (by omega)])); first | done | rfl | exact V.1 | exact V.2.1 | exact V.2.2.1 | exact V.2.2.2.1 | exact V.2.2.2.2) (by omega) (by omega) hi ?_
    exact am_vret rfl d_Vals_add_60 ⟨rfl, _, rfl, by rw [if_pos c, if_pos c]; exact ⟨(by (repeat (first | rw [va_up_self] | rw [va_up_ne _ _ (by omega)])); first | exact V.1 | exact V.2.1 | exact V.2.2.2.1 | exact V.2.2.2.2 | (rw [updV_I]; rfl) | (rw [updV_L]; rfl) | rw [updV_I] | rw [updV_L]), (by (repeat (first | rw [va_up_self] | rw [va_up_ne _ _ (by omega)])); first | exact V.1 | exact V.2.1 | exact V.2.2.2.1 | exact V.2.2.2.2 | (rw [updV_I]; rfl) | (rw [updV_L]; rfl) | rw [updV_I] | rw [updV_L]), (by (repeat (first | rw [va_up_self] | rw [va_up_ne _ _ (by omega)])); first | exact V.1 | exact V.2.1 | exact V.2.2.2.1 | exact V.2.2.2.2 | (rw [updV_I]; rfl) | (rw [updV_L]; rfl) | rw [updV_I] | rw [updV_L]), (by (repeat (first | rw [va_up_self] | rw [va_up_ne _ _ (by omega)])); first | exact V.1 | exact V.2.1 | exact V.2.2.2.1 | exact V.2.2.2.2 | (rw [updV_I]; rfl) | (rw [updV_L]; rfl) | rw [updV_I] | rw [updV_L]), (by (repeat (first | rw [va_up_self] | rw [va_up_ne _ _ (by omega)])); first | exact V.1 | exact V.2.1 | exact V.2.2.2.1 | exact V.2.2.2.2 | (rw [updV_I]; rfl) | (rw [updV_L]; rfl) | rw [updV_I] | rw [updV_L])⟩, fun x hx => by rw [va_up_ne _ _ (by omega), va_up_ne _ _ (by omega)]⟩
  · refine am_aload_n d_Vals_add_27 rfl rfl ?_
    refine am_get O f_Vals_16 d_Vals_add_28 (by (repeat (first | rw [va_up_self] | rw [va_up_ne _ _ (by omega)])); first | done | rfl | exact V.1 | exact V.2.1 | exact V.2.2.1 | exact V.2.2.2.1 | exact V.2.2.2.2) (by omega) (by omega) rfl ?_
    refine am_iload_n d_Vals_add_31 rfl rfl ?_
    refine am_dup2 d_Vals_add_32 rfl rfl ?_
    refine am_lald O (by decide) d_Vals_add_33 (by (repeat (first | rw [va_up_self] | rw [va_up_ne _ _ (by omega)])); first | done | rfl | exact V.1 | exact V.2.1 | exact V.2.2.1 | exact V.2.2.2.1 | exact V.2.2.2.2) (by omega) (by omega) hi rfl ?_
    refine am_lload_n d_Vals_add_34 rfl rfl ?_
    refine am_lor d_Vals_add_35 ?_
    refine am_last O (by decide) d_Vals_add_36 (by (repeat (first | rw [va_up_self] | rw [va_up_ne _ _ (by omega)])); first | done | rfl | exact V.1 | exact V.2.1 | exact V.2.2.1 | exact V.2.2.2.1 | exact V.2.2.2.2) (by omega) (by omega) hi ?_
    refine am_goto (tgt := 50) d_Vals_add_37 (by decide) ?_
    refine am_aload_n d_Vals_add_50 rfl rfl ?_
    refine am_get O f_Vals_13 d_Vals_add_51 (by (repeat (first | rw [va_up_self] | rw [va_up_ne _ _ (by omega)])); first | done | rfl | exact V.1 | exact V.2.1 | exact V.2.2.1 | exact V.2.2.2.1 | exact V.2.2.2.2) (by omega) (by omega) rfl ?_
    refine am_iload_n d_Vals_add_54 rfl rfl ?_
    refine am_dup2 d_Vals_add_55 rfl rfl ?_
    refine am_iald O (by decide) d_Vals_add_56 (by (repeat (first | rw [va_up_self] | rw [va_up_ne _ _ (by omega)])); first | done | rfl | exact V.1 | exact V.2.1 | exact V.2.2.1 | exact V.2.2.2.1 | exact V.2.2.2.2) (by omega) (by omega) hi rfl ?_
    refine am_iconst (v := 1) d_Vals_add_57 (by decide) ?_
    refine am_iadd d_Vals_add_58 ?_
    refine am_iast O (by decide) d_Vals_add_59 (by (repeat (first | rw [va_up_self] | rw [va_up_ne _ _ (by omega)])); first | done | rfl | exact V.1 | exact V.2.1 | exact V.2.2.1 | exact V.2.2.2.1 | exact V.2.2.2.2) (by omega) (by omega) hi ?_
    exact am_vret rfl d_Vals_add_60 ⟨rfl, _, rfl, by rw [if_neg c, if_neg c]; exact ⟨(by (repeat (first | rw [va_up_self] | rw [va_up_ne _ _ (by omega)])); first | exact V.1 | exact V.2.1 | exact V.2.2.2.1 | exact V.2.2.2.2 | (rw [updV_I]; rfl) | (rw [updV_L]; rfl) | rw [updV_I] | rw [updV_L]), (by (repeat (first | rw [va_up_self] | rw [va_up_ne _ _ (by omega)])); first | exact V.1 | exact V.2.1 | exact V.2.2.2.1 | exact V.2.2.2.2 | (rw [updV_I]; rfl) | (rw [updV_L]; rfl) | rw [updV_I] | rw [updV_L]), (by (repeat (first | rw [va_up_self] | rw [va_up_ne _ _ (by omega)])); first | exact V.1 | exact V.2.1 | exact V.2.2.2.1 | exact V.2.2.2.2 | (rw [updV_I]; rfl) | (rw [updV_L]; rfl) | rw [updV_I] | rw [updV_L]), (by (repeat (first | rw [va_up_self] | rw [va_up_ne _ _ (by omega)])); first | exact V.1 | exact V.2.1 | exact V.2.2.2.1 | exact V.2.2.2.2 | (rw [updV_I]; rfl) | (rw [updV_L]; rfl) | rw [updV_I] | rw [updV_L]), (by (repeat (first | rw [va_up_self] | rw [va_up_ne _ _ (by omega)])); first | exact V.1 | exact V.2.1 | exact V.2.2.2.1 | exact V.2.2.2.2 | (rw [updV_I]; rfl) | (rw [updV_L]; rfl) | rw [updV_I] | rw [updV_L])⟩, fun x hx => by rw [va_up_ne _ _ (by omega), va_up_ne _ _ (by omega)]⟩

def s_like (k1 k2 z1 z2 : Int32) (a1 a2 b1 b2 : Int64) : Int32 := if k1 = k2 then (if z1 = z2 then (if lg_cmp a1 a2 = 0 then (if lg_cmp b1 b2 = 0 then 1 else 0) else 0) else 0) else 0

set_option maxRecDepth 100000 in
set_option maxHeartbeats 1000000 in
theorem g_Vals_isLike (O : am_ok K X) {n r N : Nat} {f : Nat → am_C} {kd sz : Nat → Int32} {on tw : Nat → Int64} (V : vR f r N kd sz on tw) (h1 : 128 ≤ r) (h2 : r + 4 < n) {i : Int32} (hi : vp_in i N) {r2 N2 : Nat} {k2 s2 : Nat → Int32} {o2 t2 : Nat → Int64} (U : vR f r2 N2 k2 s2 o2 t2) (u1 : 128 ≤ r2) (u2 : r2 + 4 < n) {j : Int32} (hj : vp_in j N2) : am_Mt K X m_Vals_isLike 0 0 0 [.ref r, .int i, .ref r2, .int j] (n, f) (fun v h' => v = some (.int (s_like (kd i.toNatClampNeg) (k2 j.toNatClampNeg) (sz i.toNatClampNeg) (s2 j.toNatClampNeg) (on i.toNatClampNeg) (o2 j.toNatClampNeg) (tw i.toNatClampNeg) (t2 j.toNatClampNeg))) ∧ h' = (n, f)) := by
  refine am_enter (by decide +kernel) (Nat.le_of_ble_eq_true rfl) ?_
  refine am_aload_n d_Vals_isLike_0 rfl rfl ?_
  refine am_get O f_Vals_7 d_Vals_isLike_1 (by (repeat (first | rw [va_up_self] | rw [va_up_ne _ _ (by omega)])); first | done | rfl | exact V.1 | exact V.2.1 | exact V.2.2.1 | exact V.2.2.2.1 | exact V.2.2.2.2) (by omega) (by omega) rfl ?_
  refine am_iload_n d_Vals_isLike_4 rfl rfl ?_
  refine am_iald O (by decide) d_Vals_isLike_5 (by (repeat (first | rw [va_up_self] | rw [va_up_ne _ _ (by omega)])); first | done | rfl | exact V.1 | exact V.2.1 | exact V.2.2.1 | exact V.2.2.2.1 | exact V.2.2.2.2) (by omega) (by omega) hi rfl ?_
  refine am_aload_n d_Vals_isLike_6 rfl rfl ?_
  refine am_get O f_Vals_7 d_Vals_isLike_7 (by (repeat (first | rw [va_up_self] | rw [va_up_ne _ _ (by omega)])); first | exact U.1 | exact U.2.1 | exact U.2.2.1 | exact U.2.2.2.1 | exact U.2.2.2.2) (by omega) (by omega) rfl ?_
  refine am_iload_n d_Vals_isLike_10 rfl rfl ?_
  refine am_iald O (by decide) d_Vals_isLike_11 (by (repeat (first | rw [va_up_self] | rw [va_up_ne _ _ (by omega)])); first | exact U.1 | exact U.2.1 | exact U.2.2.1 | exact U.2.2.2.1 | exact U.2.2.2.2) (by omega) (by omega) hj rfl ?_
  refine am_icmp_ne (tgt := 66) d_Vals_isLike_12 (by decide) (fun c0 => ?_) (fun c0 => ?_)
  · refine am_iconst (v := 0) d_Vals_isLike_66 (by decide) ?_
    exact am_zret (ty := .boolean) rfl rfl d_Vals_isLike_67 ⟨by rw [s_like, if_neg c0], rfl⟩
  · skip
    refine am_aload_n d_Vals_isLike_15 rfl rfl ?_
    refine am_get O f_Vals_13 d_Vals_isLike_16 (by (repeat (first | rw [va_up_self] | rw [va_up_ne _ _ (by omega)])); first | done | rfl | exact V.1 | exact V.2.1 | exact V.2.2.1 | exact V.2.2.2.1 | exact V.2.2.2.2) (by omega) (by omega) rfl ?_
    refine am_iload_n d_Vals_isLike_19 rfl rfl ?_
    refine am_iald O (by decide) d_Vals_isLike_20 (by (repeat (first | rw [va_up_self] | rw [va_up_ne _ _ (by omega)])); first | done | rfl | exact V.1 | exact V.2.1 | exact V.2.2.1 | exact V.2.2.2.1 | exact V.2.2.2.2) (by omega) (by omega) hi rfl ?_
    refine am_aload_n d_Vals_isLike_21 rfl rfl ?_
    refine am_get O f_Vals_13 d_Vals_isLike_22 (by (repeat (first | rw [va_up_self] | rw [va_up_ne _ _ (by omega)])); first | exact U.1 | exact U.2.1 | exact U.2.2.1 | exact U.2.2.2.1 | exact U.2.2.2.2) (by omega) (by omega) rfl ?_
    refine am_iload_n d_Vals_isLike_25 rfl rfl ?_
    refine am_iald O (by decide) d_Vals_isLike_26 (by (repeat (first | rw [va_up_self] | rw [va_up_ne _ _ (by omega)])); first | exact U.1 | exact U.2.1 | exact U.2.2.1 | exact U.2.2.2.1 | exact U.2.2.2.2) (by omega) (by omega) hj rfl ?_
    refine am_icmp_ne (tgt := 66) d_Vals_isLike_27 (by decide) (fun c1 => ?_) (fun c1 => ?_)
    · refine am_iconst (v := 0) d_Vals_isLike_66 (by decide) ?_
      exact am_zret (ty := .boolean) rfl rfl d_Vals_isLike_67 ⟨by rw [s_like, if_pos c0, if_neg c1], rfl⟩
    · skip
      refine am_aload_n d_Vals_isLike_30 rfl rfl ?_
      refine am_get O f_Vals_16 d_Vals_isLike_31 (by (repeat (first | rw [va_up_self] | rw [va_up_ne _ _ (by omega)])); first | done | rfl | exact V.1 | exact V.2.1 | exact V.2.2.1 | exact V.2.2.2.1 | exact V.2.2.2.2) (by omega) (by omega) rfl ?_
      refine am_iload_n d_Vals_isLike_34 rfl rfl ?_
      refine am_lald O (by decide) d_Vals_isLike_35 (by (repeat (first | rw [va_up_self] | rw [va_up_ne _ _ (by omega)])); first | done | rfl | exact V.1 | exact V.2.1 | exact V.2.2.1 | exact V.2.2.2.1 | exact V.2.2.2.2) (by omega) (by omega) hi rfl ?_
      refine am_aload_n d_Vals_isLike_36 rfl rfl ?_
      refine am_get O f_Vals_16 d_Vals_isLike_37 (by (repeat (first | rw [va_up_self] | rw [va_up_ne _ _ (by omega)])); first | exact U.1 | exact U.2.1 | exact U.2.2.1 | exact U.2.2.2.1 | exact U.2.2.2.2) (by omega) (by omega) rfl ?_
      refine am_iload_n d_Vals_isLike_40 rfl rfl ?_
      refine am_lald O (by decide) d_Vals_isLike_41 (by (repeat (first | rw [va_up_self] | rw [va_up_ne _ _ (by omega)])); first | exact U.1 | exact U.2.1 | exact U.2.2.1 | exact U.2.2.2.1 | exact U.2.2.2.2) (by omega) (by omega) hj rfl ?_
      refine am_lcmp d_Vals_isLike_42 ?_
      refine am_if_ne (tgt := 66) d_Vals_isLike_43 (by decide) (fun c2 => ?_) (fun c2 => ?_)
      · refine am_iconst (v := 0) d_Vals_isLike_66 (by decide) ?_
        exact am_zret (ty := .boolean) rfl rfl d_Vals_isLike_67 ⟨by rw [s_like, if_pos c0, if_pos c1, if_neg c2], rfl⟩
      · skip
        refine am_aload_n d_Vals_isLike_46 rfl rfl ?_
        refine am_get O f_Vals_20 d_Vals_isLike_47 (by (repeat (first | rw [va_up_self] | rw [va_up_ne _ _ (by omega)])); first | done | rfl | exact V.1 | exact V.2.1 | exact V.2.2.1 | exact V.2.2.2.1 | exact V.2.2.2.2) (by omega) (by omega) rfl ?_
        refine am_iload_n d_Vals_isLike_50 rfl rfl ?_
        refine am_lald O (by decide) d_Vals_isLike_51 (by (repeat (first | rw [va_up_self] | rw [va_up_ne _ _ (by omega)])); first | done | rfl | exact V.1 | exact V.2.1 | exact V.2.2.1 | exact V.2.2.2.1 | exact V.2.2.2.2) (by omega) (by omega) hi rfl ?_
        refine am_aload_n d_Vals_isLike_52 rfl rfl ?_
        refine am_get O f_Vals_20 d_Vals_isLike_53 (by (repeat (first | rw [va_up_self] | rw [va_up_ne _ _ (by omega)])); first | exact U.1 | exact U.2.1 | exact U.2.2.1 | exact U.2.2.2.1 | exact U.2.2.2.2) (by omega) (by omega) rfl ?_
        refine am_iload_n d_Vals_isLike_56 rfl rfl ?_
        refine am_lald O (by decide) d_Vals_isLike_57 (by (repeat (first | rw [va_up_self] | rw [va_up_ne _ _ (by omega)])); first | exact U.1 | exact U.2.1 | exact U.2.2.1 | exact U.2.2.2.1 | exact U.2.2.2.2) (by omega) (by omega) hj rfl ?_
        refine am_lcmp d_Vals_isLike_58 ?_
        refine am_if_ne (tgt := 66) d_Vals_isLike_59 (by decide) (fun c3 => ?_) (fun c3 => ?_)
        · refine am_iconst (v := 0) d_Vals_isLike_66 (by decide) ?_
          exact am_zret (ty := .boolean) rfl rfl d_Vals_isLike_67 ⟨by rw [s_like, if_pos c0, if_pos c1, if_pos c2, if_neg c3], rfl⟩
        · skip
          refine am_iconst (v := 1) d_Vals_isLike_62 (by decide) ?_
          refine am_goto (tgt := 67) d_Vals_isLike_63 (by decide) ?_
          exact am_zret (ty := .boolean) rfl rfl d_Vals_isLike_67 ⟨by rw [s_like, if_pos c0, if_pos c1, if_pos c2, if_pos c3], rfl⟩

end
