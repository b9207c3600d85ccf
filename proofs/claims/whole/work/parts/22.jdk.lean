section
variable {K : am_K} {X : Nat → am_C}
def am_str (K : am_K) (r N : Nat) (by_ : Nat → Int32) : Prop := va_O "java/lang/String" (am_ad K r) (am_A K) K.1 K.1.heap ∧ va_OF "java/lang/String" "coder" "B" (.int 0) (am_ad K r) (am_A K) K.1 K.1.heap ∧ va_OF "java/lang/String" "value" "[B" (.ref (am_ad K (r + 1))) (am_ad K r) (am_A K) K.1 K.1.heap ∧ va_T .byte (am_ad K (r + 1)) N (fun j => .int (by_ j)) (am_A K) K.1 K.1.heap ∧ N < 2 ^ 31
def am_E0 (K : am_K) : Prop := va_Z "java/lang/String" "COMPACT_STRINGS" "Z" (.int 1) (am_A K) K.1 K.1.heap ∧ (∃ v : Value, (v = .null ∨ v = .ref 4) ∧ va_Z "jdk/internal/util/Preconditions" "SIOOBE_FORMATTER" "Ljava/util/function/BiFunction;" (am_tr K v) (am_A K) K.1 K.1.heap) ∧ va_Z "java/util/ArrayList" "DEFAULTCAPACITY_EMPTY_ELEMENTDATA" "[Ljava/lang/Object;" (.ref (am_ad K 1)) (am_A K) K.1 K.1.heap

set_option maxRecDepth 100000 in
set_option maxHeartbeats 4000000 in
theorem c_Str_coder (E : am_E0 K) {r N : Nat} {g : Nat → Int32} (S : am_str K r N g) {h : am_H} : am_Mt K X m_Str_coder 0 0 0 [.ref r] h (fun v h' => v = some (.int 0) ∧ h' = h) := by
  refine am_enter (by decide +kernel) (Nat.le_of_ble_eq_true rfl) ?_
  refine am_gets (v := .int 1) E.1 w_217 d_Str_coder_0 ?_
  refine am_if_eq (tgt := 13) d_Str_coder_3 (by decide) (fun c_3 => ?_) (fun c_3 => ?_)
  · exact absurd c_3 (by decide)
  · refine am_aload_n d_Str_coder_6 rfl rfl ?_
    refine am_getE (v := .int 0) S.2.1 w_2201 d_Str_coder_7 ?_
    refine am_goto (tgt := 14) d_Str_coder_10 (by decide) ?_
    exact am_zret rfl rfl d_Str_coder_14 ⟨rfl, rfl⟩

set_option maxRecDepth 100000 in
set_option maxHeartbeats 4000000 in
theorem c_Str_isLatin1 (E : am_E0 K) {r N : Nat} {g : Nat → Int32} (S : am_str K r N g) {h : am_H} : am_Mt K X m_Str_isLatin1 0 0 0 [.ref r] h (fun v h' => v = some (.int 1) ∧ h' = h) := by
  refine am_enter (by decide +kernel) (Nat.le_of_ble_eq_true rfl) ?_
  refine am_gets (v := .int 1) E.1 w_217 d_Str_isLatin1_0 ?_
  refine am_if_eq (tgt := 17) d_Str_isLatin1_3 (by decide) (fun c_3 => ?_) (fun c_3 => ?_)
  · exact absurd c_3 (by decide)
  · refine am_aload_n d_Str_isLatin1_6 rfl rfl ?_
    refine am_getE (v := .int 0) S.2.1 w_2201 d_Str_isLatin1_7 ?_
    refine am_if_ne (tgt := 17) d_Str_isLatin1_10 (by decide) (fun c_10 => ?_) (fun c_10 => ?_)
    · exact absurd rfl c_10
    · refine am_iconst (v := 1) d_Str_isLatin1_13 (by decide) ?_
      refine am_goto (tgt := 18) d_Str_isLatin1_14 (by decide) ?_
      exact am_zret rfl rfl d_Str_isLatin1_18 ⟨rfl, rfl⟩

set_option maxRecDepth 100000 in
set_option maxHeartbeats 4000000 in
theorem c_Str_length (O : am_ok K X) (E : am_E0 K) {r N : Nat} {g : Nat → Int32} (S : am_str K r N g) {h : am_H} : am_Mt K X m_Str_length 1 0 0 [.ref r] h (fun v h' => v = some (.int (nI N)) ∧ h' = h) := by
  refine am_enter (by decide +kernel) (Nat.le_of_ble_eq_true rfl) ?_
  refine am_aload_n d_Str_length_0 rfl rfl ?_
  refine am_getE (v := .ref (r + 1)) S.2.2.1 w_2200 d_Str_length_1 ?_
  refine am_alenE S.2.2.2.1 d_Str_length_4 ?_
  refine am_aload_n d_Str_length_5 rfl rfl ?_
  refine am_callVE O (c_Str_coder E S) rfl S.1 l_Str_335 ⟨w_214, w_215⟩ rfl (Nat.le_of_ble_eq_true rfl) d_Str_length_6 (by omega) (by omega) (by omega) (fun v h' hp => ?_)
  obtain ⟨rfl, rfl⟩ := hp
  refine am_ishr d_Str_length_9 ?_
  refine am_iret rfl d_Str_length_10 ⟨?_, rfl⟩
  exact congrArg (fun x => some (Value.int x)) (sb_shr0 (nI N))

set_option maxRecDepth 100000 in
set_option maxHeartbeats 4000000 in
theorem c_Pre_checkIndex {k n : Nat} {v : Value} (hv : v = .null ∨ v = .ref 4) (hk : k < n) (hn : n < 2 ^ 31) {h : am_H} : am_Mt K X m_Pre_checkIndex 0 0 0 [.int (nI k), .int (nI n), v] h (fun v h' => v = some (.int (nI k)) ∧ h' = h) := by
  rcases hv with rfl | rfl
  · refine am_enter (by decide +kernel) (Nat.le_of_ble_eq_true rfl) ?_
    refine am_iload_n d_Pre_checkIndex_0 rfl rfl ?_
    refine am_if_lt (tgt := 9) d_Pre_checkIndex_1 (by decide) (fun c_1 => ?_) (fun c_1 => ?_)
    · exact absurd c_1 (nI_pos (by omega))
    · refine am_iload_n d_Pre_checkIndex_4 rfl rfl ?_
      refine am_iload_n d_Pre_checkIndex_5 rfl rfl ?_
      refine am_icmp_lt (tgt := 16) d_Pre_checkIndex_6 (by decide) (fun c_6 => ?_) (fun c_6 => ?_)
      · refine am_iload_n d_Pre_checkIndex_16 rfl rfl ?_
        exact am_iret rfl d_Pre_checkIndex_17 ⟨rfl, rfl⟩
      · exact absurd (nI_lt hk hn) c_6
  · refine am_enter (by decide +kernel) (Nat.le_of_ble_eq_true rfl) ?_
    refine am_iload_n d_Pre_checkIndex_0 rfl rfl ?_
    refine am_if_lt (tgt := 9) d_Pre_checkIndex_1 (by decide) (fun c_1 => ?_) (fun c_1 => ?_)
    · exact absurd c_1 (nI_pos (by omega))
    · refine am_iload_n d_Pre_checkIndex_4 rfl rfl ?_
      refine am_iload_n d_Pre_checkIndex_5 rfl rfl ?_
      refine am_icmp_lt (tgt := 16) d_Pre_checkIndex_6 (by decide) (fun c_6 => ?_) (fun c_6 => ?_)
      · refine am_iload_n d_Pre_checkIndex_16 rfl rfl ?_
        exact am_iret rfl d_Pre_checkIndex_17 ⟨rfl, rfl⟩
      · exact absurd (nI_lt hk hn) c_6

set_option maxRecDepth 100000 in
set_option maxHeartbeats 4000000 in
theorem c_Str_checkIndex (O : am_ok K X) (E : am_E0 K) {k n : Nat} (hk : k < n) (hn : n < 2 ^ 31) {h : am_H} : am_Mt K X m_Str_checkIndex 1 0 0 [.int (nI k), .int (nI n)] h (fun v h' => v = none ∧ h' = h) := by
  obtain ⟨fv, hfv, hZ⟩ := E.2.1
  refine am_enter (by decide +kernel) (Nat.le_of_ble_eq_true rfl) ?_
  refine am_iload_n d_Str_checkIndex_0 rfl rfl ?_
  refine am_iload_n d_Str_checkIndex_1 rfl rfl ?_
  refine am_gets (v := fv) hZ w_233 d_Str_checkIndex_2 ?_
  refine am_callS O (c_Pre_checkIndex hfv hk hn) rfl l_Str_1059 w_236 rfl (Nat.le_of_ble_eq_true rfl) d_Str_checkIndex_5 (by omega) (by omega) (by omega) (fun v h' hp => ?_)
  obtain ⟨rfl, rfl⟩ := hp
  refine am_pop d_Str_checkIndex_8 rfl ?_
  exact am_vret rfl d_Str_checkIndex_9 ⟨rfl, rfl⟩

set_option maxRecDepth 100000 in
set_option maxHeartbeats 4000000 in
theorem c_SL1_charAt (O : am_ok K X) (E : am_E0 K) {r N k : Nat} {g : Nat → Int32} (S : va_T .byte (am_ad K r) N (fun j => .int (g j)) (am_A K) K.1 K.1.heap) (hN : N < 2 ^ 31) (hk : k < N) {h : am_H} : am_Mt K X m_SL1_charAt 2 0 0 [.ref r, .int (nI k)] h (fun v h' => v = some (.int (((g k &&& 255).toUInt32 % 65536).toInt32)) ∧ h' = h) := by
  refine am_enter (by decide +kernel) (Nat.le_of_ble_eq_true rfl) ?_
  refine am_iload_n d_SL1_charAt_0 rfl rfl ?_
  refine am_aload_n d_SL1_charAt_1 rfl rfl ?_
  refine am_alenE S d_SL1_charAt_2 ?_
  refine am_callS O (c_Str_checkIndex O E hk hN) rfl l_SL1_9 w_231 rfl (Nat.le_of_ble_eq_true rfl) d_SL1_charAt_3 (by omega) (by omega) (by omega) (fun v h' hp => ?_)
  obtain ⟨rfl, rfl⟩ := hp
  refine am_aload_n d_SL1_charAt_6 rfl rfl ?_
  refine am_iload_n d_SL1_charAt_7 rfl rfl ?_
  refine am_baldE (f := fun j => .int (g j)) (v := .int (g k)) S d_SL1_charAt_8 (vp_in_nI hk hN) (by show Value.int (g (nI k).toNatClampNeg) = _; rw [nI_clamp (by omega)]) ?_
  refine am_sipush (v := 255) d_SL1_charAt_9 (by decide) ?_
  refine am_iand d_SL1_charAt_12 ?_
  refine am_i2c d_SL1_charAt_13 rfl ?_
  exact am_zret rfl (pk_nc _) d_SL1_charAt_14 ⟨rfl, rfl⟩

set_option maxRecDepth 100000 in
set_option maxHeartbeats 4000000 in
theorem c_Str_charAt (O : am_ok K X) (E : am_E0 K) {r N k : Nat} {g : Nat → Int32} (S : am_str K r N g) (hk : k < N) {h : am_H} : am_Mt K X m_Str_charAt 3 0 0 [.ref r, .int (nI k)] h (fun v h' => v = some (.int (((g k &&& 255).toUInt32 % 65536).toInt32)) ∧ h' = h) := by
  refine am_enter (by decide +kernel) (Nat.le_of_ble_eq_true rfl) ?_
  refine am_aload_n d_Str_charAt_0 rfl rfl ?_
  refine am_callVE O (c_Str_isLatin1 E S) rfl S.1 l_Str_492 ⟨w_224, w_225⟩ rfl (Nat.le_of_ble_eq_true rfl) d_Str_charAt_1 (by omega) (by omega) (by omega) (fun v h' hp => ?_)
  obtain ⟨rfl, rfl⟩ := hp
  refine am_if_eq (tgt := 16) d_Str_charAt_4 (by decide) (fun c_4 => ?_) (fun c_4 => ?_)
  · exact absurd c_4 (by decide)
  · refine am_aload_n d_Str_charAt_7 rfl rfl ?_
    refine am_getE (v := .ref (r + 1)) S.2.2.1 w_2200 d_Str_charAt_8 ?_
    refine am_iload_n d_Str_charAt_11 rfl rfl ?_
    refine am_callS O (c_SL1_charAt O E S.2.2.2.1 S.2.2.2.2 hk) rfl l_Str_495 w_228 rfl (Nat.le_of_ble_eq_true rfl) d_Str_charAt_12 (by omega) (by omega) (by omega) (fun v h' hp => ?_)
    obtain ⟨rfl, rfl⟩ := hp
    exact am_zret rfl (pk_nc _) d_Str_charAt_15 ⟨rfl, rfl⟩

def ce_placed (s a : Int32) : Int64 := s.toInt64 <<< ((7 * (7 - (a &&& 7)) : Int32).toInt64 &&& 63)

set_option maxRecDepth 100000 in
set_option maxHeartbeats 4000000 in
theorem c_Cell_placed {s a : Int32} {h : am_H} : am_Mt K X m_Cell_placed 0 0 0 [.int s, .int a] h (fun v h' => v = some (.long (ce_placed s a)) ∧ h' = h) := by
  refine am_enter (by decide +kernel) (Nat.le_of_ble_eq_true rfl) ?_
  refine am_iload_n d_Cell_placed_0 rfl rfl ?_
  refine am_i2l d_Cell_placed_1 rfl ?_
  refine am_bipush (v := 7) d_Cell_placed_2 (by decide) ?_
  refine am_bipush (v := 7) d_Cell_placed_4 (by decide) ?_
  refine am_iload_n d_Cell_placed_6 rfl rfl ?_
  refine am_bipush (v := 7) d_Cell_placed_7 (by decide) ?_
  refine am_iand d_Cell_placed_9 ?_
  refine am_isub d_Cell_placed_10 ?_
  refine am_imul d_Cell_placed_11 ?_
  refine am_lshl d_Cell_placed_12 rfl ?_
  exact am_lret rfl d_Cell_placed_13 ⟨rfl, rfl⟩
end
