section
variable {K : am_K} {X : Nat → am_C}
def s_ix (g : Nat → Int32) (y : Int32) : Nat → Nat → Int32
  | 0, _ => -1
  | m + 1, i => if g i = y then nI i else s_ix g y m (i + 1)

set_option maxRecDepth 100000 in
theorem c_SL1_indexOfChar {r N : Nat} {g : Nat → Int32} (S : va_T .byte (am_ad K r) N (fun j => .int (g j)) (am_A K) K.1 K.1.heap) (hN : N < 2 ^ 31) {x : Int32} {h : am_H} : am_Mt K X m_SL1_indexOfChar 0 0 0 [.ref r, .int x, .int (nI 0), .int (nI N)] h (fun v h' => v = some (.int (s_ix g x.toInt8.toInt32 N 0)) ∧ h' = h) := by
  refine am_enter (by decide +kernel) (Nat.le_of_ble_eq_true rfl) ?_
  refine am_iload_n d_SL1_indexOfChar_0 rfl rfl ?_
  refine am_i2b d_SL1_indexOfChar_1 rfl ?_
  refine am_istore d_SL1_indexOfChar_2 (Nat.le_of_ble_eq_true rfl) ?_
  refine am_iload_n d_SL1_indexOfChar_4 rfl rfl ?_
  refine am_istore d_SL1_indexOfChar_5 (Nat.le_of_ble_eq_true rfl) ?_
  have key : ∀ m i : Nat, i + m = N → am_W K X m_SL1_indexOfChar 0 0 0 0 0 7 [(0, .ref r), (3, .int (nI N)), (4, .int x.toInt8.toInt32), (5, .int (nI i))] [] h (fun v h' => v = some (.int (s_ix g x.toInt8.toInt32 m i)) ∧ h' = h) := by
    intro m
    induction m with
    | zero =>
      intro i e
      obtain rfl : i = N := e
      refine am_iload d_SL1_indexOfChar_7 rfl ?_
      refine am_iload_n d_SL1_indexOfChar_9 rfl rfl ?_
      refine am_icmp_ge (tgt := 31) d_SL1_indexOfChar_10 (by decide) (fun _ => ?_) (fun c => absurd (Int32.le_refl _) c)
      refine am_iconst (v := -1) d_SL1_indexOfChar_31 (by decide) ?_
      exact am_iret rfl d_SL1_indexOfChar_32 ⟨rfl, rfl⟩
    | succ m ih =>
      intro i e
      refine am_iload d_SL1_indexOfChar_7 rfl ?_
      refine am_iload_n d_SL1_indexOfChar_9 rfl rfl ?_
      refine am_icmp_ge (tgt := 31) d_SL1_indexOfChar_10 (by decide) (fun c => absurd c (nI_ge (a := i) (b := N) (by omega) (by omega))) (fun _ => ?_)
      refine am_aload_n d_SL1_indexOfChar_13 rfl rfl ?_
      refine am_iload d_SL1_indexOfChar_14 rfl ?_
      refine am_baldE (f := fun j => .int (g j)) (v := .int (g i)) S d_SL1_indexOfChar_16 (vp_in_nI (by omega) hN) (by show Value.int (g (nI i).toNatClampNeg) = _; rw [nI_clamp (by omega)]) ?_
      refine am_iload d_SL1_indexOfChar_17 rfl ?_
      refine am_icmp_ne (tgt := 25) d_SL1_indexOfChar_19 (by decide) (fun c => ?_) (fun c => ?_)
      · refine am_iinc (v := 1) d_SL1_indexOfChar_25 rfl (by decide) (Nat.le_of_ble_eq_true rfl) ?_
        refine am_goto (tgt := 7) d_SL1_indexOfChar_28 (by decide) ?_
        refine am_locs (lv' := [(0, .ref r), (3, .int (nI N)), (4, .int x.toInt8.toInt32), (5, .int (nI (i + 1)))]) (by rw [nI_succ]; rfl) ?_
        rw [s_ix, if_neg c]
        exact ih (i + 1) (by omega)
      · refine am_iload d_SL1_indexOfChar_22 rfl ?_
        exact am_iret rfl d_SL1_indexOfChar_24 ⟨by rw [s_ix, if_pos c], rfl⟩
  exact am_locs (lv' := [(0, .ref r), (3, .int (nI N)), (4, .int x.toInt8.toInt32), (5, .int (nI 0))]) rfl (key N 0 (by omega))

set_option maxRecDepth 100000 in
theorem c_SL1_canEncode {x : Int32} (hx : ¬ x < 0) (hx2 : x ≤ 255) {h : am_H} : am_Mt K X m_SL1_canEncode 0 0 0 [.int x] h (fun v h' => v = some (.int 1) ∧ h' = h) := by
  refine am_enter (by decide +kernel) (Nat.le_of_ble_eq_true rfl) ?_
  refine am_iload_n d_SL1_canEncode_0 rfl rfl ?_
  refine am_if_lt (tgt := 15) d_SL1_canEncode_1 (by decide) (fun c1 => absurd c1 hx) (fun c1 => ?_)
  refine am_iload_n d_SL1_canEncode_4 rfl rfl ?_
  refine am_sipush (v := 255) d_SL1_canEncode_5 (by decide) ?_
  refine am_icmp_gt (tgt := 15) d_SL1_canEncode_8 (by decide) (fun c8 => absurd (Int32.not_le.mpr c8) (fun q => q hx2)) (fun c8 => ?_)
  refine am_iconst (v := 1) d_SL1_canEncode_11 (by decide) ?_
  refine am_goto (tgt := 16) d_SL1_canEncode_12 (by decide) ?_
  exact am_zret rfl rfl d_SL1_canEncode_16 ⟨rfl, rfl⟩

set_option maxRecDepth 100000 in
theorem c_SL1_indexOf (O : am_ok K X) {r N : Nat} {g : Nat → Int32} (S : va_T .byte (am_ad K r) N (fun j => .int (g j)) (am_A K) K.1 K.1.heap) (hN : N < 2 ^ 31) (h0 : 0 < N) {x : Int32} (hx : ¬ x < 0) (hx2 : x ≤ 255) {h : am_H} : am_Mt K X m_SL1_indexOf 1 0 0 [.ref r, .int x, .int 0, .int (nI N)] h (fun v h' => v = some (.int (s_ix g x.toInt8.toInt32 N 0)) ∧ h' = h) := by
  refine am_enter (by decide +kernel) (Nat.le_of_ble_eq_true rfl) ?_
  refine am_iload_n d_SL1_indexOf_0 rfl rfl ?_
  refine am_callS O (c_SL1_canEncode hx hx2) rfl l_SL1_88 w_620 rfl (Nat.le_of_ble_eq_true rfl) d_SL1_indexOf_1 (by omega) (by omega) (by omega) (fun v h' hp => ?_)
  obtain ⟨rfl, rfl⟩ := hp
  refine am_if_ne (tgt := 9) d_SL1_indexOf_4 (by decide) (fun c4 => ?_) (fun c4 => absurd c4 (by decide))
  refine am_iload_n d_SL1_indexOf_9 rfl rfl ?_
  refine am_iconst (v := 0) d_SL1_indexOf_10 (by decide) ?_
  refine am_mmax w_622 w_623 w_164 w_624 d_SL1_indexOf_11 (Nat.le_of_ble_eq_true rfl) (by omega) ?_
  refine am_istore_n d_SL1_indexOf_14 rfl (by decide) ?_
  refine am_iload_n d_SL1_indexOf_15 rfl rfl ?_
  refine am_aload_n d_SL1_indexOf_16 rfl rfl ?_
  refine am_alenE S d_SL1_indexOf_17 ?_
  refine am_mmin w_625 w_551 w_164 w_552 d_SL1_indexOf_18 (Nat.le_of_ble_eq_true rfl) (by omega) ?_
  rw [show (if Int32.ofNat N < nI N then Int32.ofNat N else nI N) = nI N from by show (if nI N < nI N then nI N else nI N) = nI N; split <;> rfl, show (if (0 : Int32) < 0 then (0 : Int32) else 0) = nI 0 from rfl]
  refine am_istore_n d_SL1_indexOf_21 rfl (by decide) ?_
  refine am_iload_n d_SL1_indexOf_22 rfl rfl ?_
  refine am_iload_n d_SL1_indexOf_23 rfl rfl ?_
  refine am_icmp_lt (tgt := 29) d_SL1_indexOf_24 (by decide) (fun c24 => ?_) (fun c24 => absurd (show (if (0 : Int32) < 0 then (0 : Int32) else 0) < _ from (by rw [show (if (0 : Int32) < 0 then (0 : Int32) else 0) = nI 0 from rfl]; exact nI_lt h0 hN)) c24)
  refine am_aload_n d_SL1_indexOf_29 rfl rfl ?_
  refine am_iload_n d_SL1_indexOf_30 rfl rfl ?_
  refine am_iload_n d_SL1_indexOf_31 rfl rfl ?_
  refine am_iload_n d_SL1_indexOf_32 rfl rfl ?_
  refine am_callS O (c_SL1_indexOfChar S hN) rfl l_SL1_95 w_627 rfl (Nat.le_of_ble_eq_true rfl) d_SL1_indexOf_33 (by omega) (by omega) (by omega) (fun v h' hp => ?_)
  obtain ⟨rfl, rfl⟩ := hp
  exact am_iret rfl d_SL1_indexOf_36 ⟨rfl, rfl⟩

set_option maxRecDepth 100000 in
theorem c_Str_indexOf_II (O : am_ok K X) (T : am_E0 K) {r N : Nat} {g : Nat → Int32} (S : am_str K r N g) (h0 : 0 < N) {x : Int32} (hx : ¬ x < 0) (hx2 : x ≤ 255) {h : am_H} : am_Mt K X m_Str_indexOf_II 2 0 0 [.ref r, .int x, .int 0] h (fun v h' => v = some (.int (s_ix g x.toInt8.toInt32 N 0)) ∧ h' = h) := by
  refine am_enter (by decide +kernel) (Nat.le_of_ble_eq_true rfl) ?_
  refine am_aload_n d_Str_indexOf_II_0 rfl rfl ?_
  refine am_callVE O (c_Str_isLatin1 T S) rfl S.1 l_Str_492 ⟨w_224, w_225⟩ rfl (Nat.le_of_ble_eq_true rfl) d_Str_indexOf_II_1 (by omega) (by omega) (by omega) (fun v h' hp => ?_)
  obtain ⟨rfl, rfl⟩ := hp
  refine am_if_eq (tgt := 23) d_Str_indexOf_II_4 (by decide) (fun c4 => absurd c4 (by decide)) (fun c4 => ?_)
  refine am_aload_n d_Str_indexOf_II_7 rfl rfl ?_
  refine am_getE (v := .ref (r + 1)) S.2.2.1 w_2200 d_Str_indexOf_II_8 ?_
  refine am_iload_n d_Str_indexOf_II_11 rfl rfl ?_
  refine am_iload_n d_Str_indexOf_II_12 rfl rfl ?_
  refine am_aload_n d_Str_indexOf_II_13 rfl rfl ?_
  refine am_callVE O (c_Str_length O T S) rfl S.1 l_Str_505 ⟨w_210, w_211⟩ rfl (Nat.le_of_ble_eq_true rfl) d_Str_indexOf_II_14 (by omega) (by omega) (by omega) (fun v h' hp => ?_)
  obtain ⟨rfl, rfl⟩ := hp
  refine am_callS O (c_SL1_indexOf O S.2.2.2.1 S.2.2.2.2 h0 hx hx2) rfl l_Str_637 w_617 rfl (Nat.le_of_ble_eq_true rfl) d_Str_indexOf_II_17 (by omega) (by omega) (by omega) (fun v h' hp => ?_)
  obtain ⟨rfl, rfl⟩ := hp
  refine am_goto (tgt := 36) d_Str_indexOf_II_20 (by decide) ?_
  exact am_iret rfl d_Str_indexOf_II_36 ⟨rfl, rfl⟩

set_option maxRecDepth 100000 in
theorem c_Str_indexOf_I (O : am_ok K X) (T : am_E0 K) {r N : Nat} {g : Nat → Int32} (S : am_str K r N g) (h0 : 0 < N) {x : Int32} (hx : ¬ x < 0) (hx2 : x ≤ 255) {h : am_H} : am_Mt K X m_Str_indexOf_I 3 0 0 [.ref r, .int x] h (fun v h' => v = some (.int (s_ix g x.toInt8.toInt32 N 0)) ∧ h' = h) := by
  refine am_enter (by decide +kernel) (Nat.le_of_ble_eq_true rfl) ?_
  refine am_aload_n d_Str_indexOf_I_0 rfl rfl ?_
  refine am_iload_n d_Str_indexOf_I_1 rfl rfl ?_
  refine am_iconst (v := 0) d_Str_indexOf_I_2 (by decide) ?_
  refine am_callVE O (c_Str_indexOf_II O T S h0 hx hx2) rfl S.1 l_Str_633 ⟨w_612, w_613⟩ rfl (Nat.le_of_ble_eq_true rfl) d_Str_indexOf_I_3 (by omega) (by omega) (by omega) (fun v h' hp => ?_)
  obtain ⟨rfl, rfl⟩ := hp
  exact am_iret rfl d_Str_indexOf_I_6 ⟨rfl, rfl⟩
end
