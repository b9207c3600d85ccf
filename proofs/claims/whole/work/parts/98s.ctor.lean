section
variable {K : am_K} {X : Nat → am_C}
def lch (c : Int32) : Int32 := ((c &&& 255).toUInt32 % 65536).toInt32
/-- the Lexer's words, as its constructor makes them out of the text g -/
def lxw (g : Nat → Int32) (L : Nat) : Nat → Nat → Nat → Int32 → (Nat → Int64) → Nat → Int64
  | 0, _, _, _, a => a
  | m + 1, k, w, x2, a => if L ≤ k then a else if 12 ≤ w then a else if lch (g k) = 32 then lxw g L m (k + 1) (w + 1) 0 a else lxw g L m (k + 1) w (x2 + 1) (vp_updL a w (a w ||| ce_placed (lch (g k)) x2))

set_option maxRecDepth 100000 in
set_option maxHeartbeats 4000000 in
theorem lx_loop2 (O : am_ok K X) (E : am_E0 K) {tx : String} (Z : vk_R "StowTongue$Lexer" 19 tx (am_ad K 2) K.1) {L : Nat} {g : Nat → Int32} (S : am_str K 2 L g) {n r q kc ks uc us : Nat} {f : Nat → am_C} {tl : List Value} (h0 : f r = .inr (1, .ref q :: tl)) (hr : 128 ≤ r) (hr2 : r < n) (hq : 128 ≤ q) (hq2 : q < n) (hrq : r ≠ q) (hkc : uc ≤ kc) (hks : us ≤ ks) : ∀ (m k w : Nat) (x2 : Int32) (a : Nat → Int64), k ≤ L → w ≤ 12 → L - k < m → am_W K X m_Lexer_init 4 kc ks uc us 25 [(0, .ref r), (1, .int (nI w)), (2, .int x2), (3, .int (nI k))] [] (n, va_up f q (.inl (.long, 12, fun j => .long (a j)))) (fun v h' => v = none ∧ ∃ a' : Nat → Int64, a' = lxw g L m k w x2 a ∧ h' = (n, va_up f q (.inl (.long, 12, fun j => .long (a' j))))) := by
  have hL := S.2.2.2.2
  intro m
  induction m with
  | zero => intro k w x2 a h1 h2 h3; omega
  | succ m ih =>
    intro k w x2 a hk hw hm
    refine am_iload_n d_Lexer_init_25 rfl rfl ?_
    refine am_ldcS Z d_Lexer_init_26 ?_
    refine am_callVE O (c_Str_length O E S) rfl S.1 l_Lexer_21 ⟨w_210, w_211⟩ rfl (Nat.le_of_ble_eq_true rfl) d_Lexer_init_28 (by omega) (by omega) (by omega) (fun v h' hp => ?_)
    obtain ⟨rfl, rfl⟩ := hp
    refine am_icmp_ge (tgt := 87) d_Lexer_init_31 (by decide) (fun c_31 => ?_) (fun c_31 => ?_)
    · exact am_vret rfl d_Lexer_init_87 ⟨rfl, a, by rw [lxw, if_pos (by rcases Nat.lt_or_ge k L with q | q; exact absurd c_31 (nI_ge q (by omega)); exact q)], rfl⟩
    · have hkL : k < L := by
        rcases Nat.lt_or_ge k L with q | q
        · exact q
        · exact absurd (nI_le q (by omega)) c_31
      refine am_iload_n d_Lexer_init_34 rfl rfl ?_
      refine am_bipush (v := 12) d_Lexer_init_35 (by decide) ?_
      refine am_icmp_ge (tgt := 87) d_Lexer_init_37 (by decide) (fun c_37 => ?_) (fun c_37 => ?_)
      · exact am_vret rfl d_Lexer_init_87 ⟨rfl, a, by rw [lxw, if_neg (by omega), if_pos (by rcases Nat.lt_or_ge w 12 with q | q; exact absurd c_37 (nI_ge (b := 12) q (by decide)); exact q)], rfl⟩
      · have hw12 : w < 12 := by
          rcases Nat.lt_or_ge w 12 with q | q
          · exact q
          · exact absurd (nI_le q (by omega)) c_37
        refine am_ldcS Z d_Lexer_init_40 ?_
        refine am_iload_n d_Lexer_init_42 rfl rfl ?_
        refine am_callVE O (c_Str_charAt O E S hkL) rfl S.1 l_Lexer_27 ⟨w_220, w_221⟩ rfl (Nat.le_of_ble_eq_true rfl) d_Lexer_init_43 (by omega) (by omega) (by omega) (fun v h' hp => ?_)
        obtain ⟨rfl, rfl⟩ := hp
        refine am_istore d_Lexer_init_46 (by decide) ?_
        refine am_iload d_Lexer_init_48 rfl ?_
        refine am_bipush (v := 32) d_Lexer_init_50 (by decide) ?_
        refine am_icmp_ne (tgt := 63) d_Lexer_init_52 (by decide) (fun c_52 => ?_) (fun c_52 => ?_)
        · refine am_aload_n d_Lexer_init_63 rfl rfl ?_
          refine am_get O f_Lexer_11 d_Lexer_init_64 (by (repeat (first | rw [va_up_self] | rw [va_up_ne _ _ (by omega)])); first | done | rfl | assumption) (by omega) (by omega) rfl ?_
          refine am_iload_n d_Lexer_init_67 rfl rfl ?_
          refine am_dup2 d_Lexer_init_68 rfl rfl ?_
          refine am_lald O (by decide) d_Lexer_init_69 (by (repeat (first | rw [va_up_self] | rw [va_up_ne _ _ (by omega)])); first | done | rfl | assumption) (by omega) (by omega) (vp_in_nI hw12 (by omega)) rfl ?_
          refine am_iload d_Lexer_init_70 rfl ?_
          refine am_iload_n d_Lexer_init_72 rfl rfl ?_
          refine am_callS O c_Cell_placed rfl l_Lexer_31 w_258 rfl (Nat.le_of_ble_eq_true rfl) d_Lexer_init_73 (by omega) (by omega) (by omega) (fun v h' hp => ?_)
          obtain ⟨rfl, rfl⟩ := hp
          refine am_lor d_Lexer_init_76 ?_
          refine am_last O (by decide) d_Lexer_init_77 (by (repeat (first | rw [va_up_self] | rw [va_up_ne _ _ (by omega)])); first | done | rfl | assumption) (by omega) (by omega) (vp_in_nI hw12 (by omega)) ?_
          refine am_iinc (v := 1) d_Lexer_init_78 rfl (by decide) (by decide) ?_
          refine am_iinc (v := 1) d_Lexer_init_81 rfl (by decide) (by decide) ?_
          refine am_goto (tgt := 25) d_Lexer_init_84 (by decide) ?_
          rw [bx_uu, lx_upd]
          refine am_locs (lv' := [(0, .ref r), (1, .int (nI w)), (2, .int (x2 + 1)), (3, .int (nI (k + 1)))]) (by rw [← nI_1]; rfl) ?_
          rw [nI_clamp (show w < 2 ^ 31 by omega)]
          refine am_post (fun v h' hp => ?_) (ih (k + 1) w (x2 + 1) _ (by omega) hw (by omega))
          obtain ⟨a1, a', ha, e⟩ := hp
          refine ⟨a1, a', ?_, e⟩
          rw [ha]
          conv => rhs; rw [lxw]
          rw [if_neg (show ¬ L ≤ k by omega), if_neg (show ¬ 12 ≤ w by omega), if_neg (show ¬ lch (g k) = 32 from c_52)]
          rfl
        · refine am_iinc (v := 1) d_Lexer_init_55 rfl (by decide) (by decide) ?_
          refine am_iconst (v := 0) d_Lexer_init_58 (by decide) ?_
          refine am_istore_n d_Lexer_init_59 rfl (by decide) ?_
          refine am_goto (tgt := 81) d_Lexer_init_60 (by decide) ?_
          refine am_iinc (v := 1) d_Lexer_init_81 rfl (by decide) (by decide) ?_
          refine am_goto (tgt := 25) d_Lexer_init_84 (by decide) ?_
          refine am_locs (lv' := [(0, .ref r), (1, .int (nI (w + 1))), (2, .int 0), (3, .int (nI (k + 1)))]) (by rw [← nI_1, ← nI_1]; rfl) ?_
          refine am_post (fun v h' hp => ?_) (ih (k + 1) (w + 1) 0 a (by omega) (by omega) (by omega))
          obtain ⟨a1, a', ha, e⟩ := hp
          refine ⟨a1, a', ?_, e⟩
          rw [ha]
          conv => rhs; rw [lxw]
          rw [if_neg (show ¬ L ≤ k by omega), if_neg (show ¬ 12 ≤ w by omega), if_pos (show lch (g k) = 32 from c_52)]

set_option maxRecDepth 100000 in
set_option maxHeartbeats 4000000 in
theorem c_Lexer_init2 (O : am_ok K X) (E : am_E0 K) {tx : String} (Z : vk_R "StowTongue$Lexer" 19 tx (am_ad K 2) K.1) {L : Nat} {g : Nat → Int32} (S : am_str K 2 L g) {n r : Nat} {f : Nat → am_C} (h0 : f r = .inr (1, [.null, .null, .int 0, .int 0, .int 0, .int 0, .int 0, .int 0, .long 0, .long 0])) (h1 : 128 ≤ r) (h2 : r < n) : am_Mt K X m_Lexer_init 4 2 12 [.ref r] (n, f) (fun v h' => v = none ∧ ∃ a : Nat → Int64, a = lxw g L (L + 1) 0 0 0 (fun _ => 0) ∧ h' = (n + 2, F_Lexer n f r a)) := by
  refine am_enter (by decide +kernel) (Nat.le_of_ble_eq_true rfl) ?_
  refine am_aload_n d_Lexer_init_0 rfl rfl ?_
  refine am_obj w_207 w_177 w_178 d_Lexer_init_1 (by omega) (Nat.le_of_ble_eq_true rfl) ?_
  refine am_aload_n d_Lexer_init_4 rfl rfl ?_
  refine am_bipush (v := 12) d_Lexer_init_5 (by decide) ?_
  refine am_newa (at_ := .long) (ty := .long) (N := 12) O rfl (by decide) w_291 d_Lexer_init_7 (by decide) (by decide) (by decide) (by omega) (by omega) ?_
  refine am_putF O f_Lexer_11 (fun q hq => by cases hq; exact ⟨w_260, rfl⟩) rfl d_Lexer_init_9 (by (repeat (first | rw [va_up_self] | rw [va_up_ne _ _ (by omega)] | rw [F_Vals_lt (by omega) (by omega)] | rw [F_Code_init_1500_lt (by omega) (by omega)] | rw [F_Code_init_400_lt (by omega) (by omega)] | rw [F_State_init_lt (by omega) (by omega)] | rw [F_Out_init_lt (by omega) (by omega)] | rw [F_Draft_init_lt (by omega) (by omega)] | rw [F_Sweep_init_lt (by omega) (by omega)] | rw [F_Log_init_lt (by omega) (by omega)] | rw [F_Mach_init_lt (by omega) (by omega)] | rw [F_AL_lt (by omega) (by omega)])); first | done | rfl | assumption) (by omega) (by omega) (Nat.le_of_ble_eq_true rfl) (fun q hq => by cases hq; exact ⟨rfl, rfl, rfl⟩) ?_
  refine am_aload_n d_Lexer_init_12 rfl rfl ?_
  refine am_iconst (v := 0) d_Lexer_init_13 (by decide) ?_
  refine am_newa (at_ := .byte) (ty := .byte) (N := 0) O rfl (by decide) w_195 d_Lexer_init_14 (by decide) (by decide) (by decide) (by omega) (by omega) ?_
  refine am_put O f_Lexer_15 d_Lexer_init_16 (by (repeat (first | rw [va_up_self] | rw [va_up_ne _ _ (by omega)] | rw [F_Vals_lt (by omega) (by omega)] | rw [F_Code_init_1500_lt (by omega) (by omega)] | rw [F_Code_init_400_lt (by omega) (by omega)] | rw [F_State_init_lt (by omega) (by omega)] | rw [F_Out_init_lt (by omega) (by omega)] | rw [F_Draft_init_lt (by omega) (by omega)] | rw [F_Sweep_init_lt (by omega) (by omega)] | rw [F_Log_init_lt (by omega) (by omega)] | rw [F_Mach_init_lt (by omega) (by omega)] | rw [F_AL_lt (by omega) (by omega)])); first | done | rfl | assumption) (by omega) (by omega) (Nat.le_of_ble_eq_true rfl) (fun q hq => by cases hq; exact ⟨rfl, rfl, rfl⟩) ?_
  refine am_iconst (v := 0) d_Lexer_init_19 (by decide) ?_
  refine am_istore_n d_Lexer_init_20 rfl (by decide) ?_
  refine am_iconst (v := 0) d_Lexer_init_21 (by decide) ?_
  refine am_istore_n d_Lexer_init_22 rfl (by decide) ?_
  refine am_iconst (v := 0) d_Lexer_init_23 (by decide) ?_
  refine am_istore_n d_Lexer_init_24 rfl (by decide) ?_
  refine am_self (q := n) (.inl (.long, 12, fun j => .long ((fun _ => 0) j))) (by (repeat (first | rw [va_up_self] | rw [va_up_ne _ _ (by omega)] | rw [F_Vals_lt (by omega) (by omega)] | rw [F_Code_init_1500_lt (by omega) (by omega)] | rw [F_Code_init_400_lt (by omega) (by omega)] | rw [F_State_init_lt (by omega) (by omega)] | rw [F_Out_init_lt (by omega) (by omega)] | rw [F_Draft_init_lt (by omega) (by omega)] | rw [F_Sweep_init_lt (by omega) (by omega)] | rw [F_Log_init_lt (by omega) (by omega)] | rw [F_Mach_init_lt (by omega) (by omega)] | rw [F_AL_lt (by omega) (by omega)])); first | done | rfl | assumption) ?_
  refine am_locs (lv' := [(0, .ref r), (1, .int (nI 0)), (2, .int 0), (3, .int (nI 0))]) rfl ?_
  exact lx_loop2 O E Z S (tl := _) (by (repeat (first | rw [va_up_self] | rw [va_up_ne _ _ (by omega)] | rw [F_Vals_lt (by omega) (by omega)] | rw [F_Code_init_1500_lt (by omega) (by omega)] | rw [F_Code_init_400_lt (by omega) (by omega)] | rw [F_State_init_lt (by omega) (by omega)] | rw [F_Out_init_lt (by omega) (by omega)] | rw [F_Draft_init_lt (by omega) (by omega)] | rw [F_Sweep_init_lt (by omega) (by omega)] | rw [F_Log_init_lt (by omega) (by omega)] | rw [F_Mach_init_lt (by omega) (by omega)] | rw [F_AL_lt (by omega) (by omega)])); first | done | rfl | assumption) (by omega) (by omega) (by omega) (by omega) (by omega) (by omega) (by omega) (L + 1) 0 0 0 (fun _ => 0) (by omega) (by omega) (by omega)

set_option maxRecDepth 100000 in
set_option maxHeartbeats 4000000 in
theorem c_Pars_init2 (O : am_ok K X) (E : am_E0 K) {tx : String} (Z : vk_R "StowTongue$Lexer" 19 tx (am_ad K 2) K.1) {L : Nat} {g : Nat → Int32} (S : am_str K 2 L g) {n r : Nat} {f : Nat → am_C} (h0 : f r = .inr (5, [.null, .null, .null, .null, .null, .null, .int 0, .int 0])) (h1 : 128 ≤ r) (h2 : r < n) : am_Mt K X m_Pars_init 5 15 395 [.ref r] (n, f) (fun v h' => v = none ∧ ∃ aL : Nat → Int64, aL = lxw g L (L + 1) 0 0 0 (fun _ => 0) ∧ h' = (n + 15, F_Pars_init n f r aL)) := by
  refine am_enter (by decide +kernel) (Nat.le_of_ble_eq_true rfl) ?_
  refine am_aload_n d_Pars_init_0 rfl rfl ?_
  refine am_obj w_201 w_177 w_178 d_Pars_init_1 (by omega) (Nat.le_of_ble_eq_true rfl) ?_
  refine am_aload_n d_Pars_init_4 rfl rfl ?_
  refine am_new O n_Pars_9 d_Pars_init_5 (by omega) (by omega) ?_
  refine am_dup d_Pars_init_8 rfl ?_
  refine am_callI O (c_Lexer_init2 O E Z S (by (repeat (first | rw [va_up_self] | rw [va_up_ne _ _ (by omega)] | rw [F_Vals_lt (by omega) (by omega)] | rw [F_Code_init_1500_lt (by omega) (by omega)] | rw [F_Code_init_400_lt (by omega) (by omega)] | rw [F_State_init_lt (by omega) (by omega)] | rw [F_Out_init_lt (by omega) (by omega)] | rw [F_Draft_init_lt (by omega) (by omega)] | rw [F_Sweep_init_lt (by omega) (by omega)] | rw [F_Log_init_lt (by omega) (by omega)] | rw [F_Mach_init_lt (by omega) (by omega)] | rw [F_AL_lt (by omega) (by omega)] | rw [F_Lexer_lt (by omega) (by omega)])); first | done | rfl | assumption) (by omega) (by omega)) rfl l_Pars_11 w_205 rfl rfl rfl (Nat.le_of_ble_eq_true rfl) d_Pars_init_9 (by omega) (by omega) (by omega) (fun v h' hp => ?_)
  obtain ⟨rfl, aL, hw, rfl⟩ := hp
  refine am_putF O f_Pars_12 (fun q hq => by cases hq; exact ⟨w_369, rfl⟩) rfl d_Pars_init_12 (by (repeat (first | rw [va_up_self] | rw [va_up_ne _ _ (by omega)] | rw [F_Vals_lt (by omega) (by omega)] | rw [F_Code_init_1500_lt (by omega) (by omega)] | rw [F_Code_init_400_lt (by omega) (by omega)] | rw [F_State_init_lt (by omega) (by omega)] | rw [F_Out_init_lt (by omega) (by omega)] | rw [F_Draft_init_lt (by omega) (by omega)] | rw [F_Sweep_init_lt (by omega) (by omega)] | rw [F_Log_init_lt (by omega) (by omega)] | rw [F_Mach_init_lt (by omega) (by omega)] | rw [F_AL_lt (by omega) (by omega)] | rw [F_Lexer_lt (by omega) (by omega)])); first | done | rfl | assumption) (by omega) (by omega) (Nat.le_of_ble_eq_true rfl) (fun q hq => by cases hq; exact ⟨rfl, rfl, rfl⟩) ?_
  refine am_aload_n d_Pars_init_15 rfl rfl ?_
  refine am_new O n_Pars_18 d_Pars_init_16 (by omega) (by omega) ?_
  refine am_dup d_Pars_init_19 rfl ?_
  refine am_callI O (c_Draft_init O (by (repeat (first | rw [va_up_self] | rw [va_up_ne _ _ (by omega)] | rw [F_Vals_lt (by omega) (by omega)] | rw [F_Code_init_1500_lt (by omega) (by omega)] | rw [F_Code_init_400_lt (by omega) (by omega)] | rw [F_State_init_lt (by omega) (by omega)] | rw [F_Out_init_lt (by omega) (by omega)] | rw [F_Draft_init_lt (by omega) (by omega)] | rw [F_Sweep_init_lt (by omega) (by omega)] | rw [F_Log_init_lt (by omega) (by omega)] | rw [F_Mach_init_lt (by omega) (by omega)] | rw [F_AL_lt (by omega) (by omega)] | rw [F_Lexer_lt (by omega) (by omega)])); first | done | rfl | assumption) (by omega) (by omega)) rfl l_Pars_20 w_295 rfl rfl rfl (Nat.le_of_ble_eq_true rfl) d_Pars_init_20 (by omega) (by omega) (by omega) (fun v h' hp => ?_)
  obtain ⟨rfl, rfl⟩ := hp
  refine am_putF O f_Pars_21 (fun q hq => by cases hq; exact ⟨w_370, rfl⟩) rfl d_Pars_init_23 (by (repeat (first | rw [va_up_self] | rw [va_up_ne _ _ (by omega)] | rw [F_Vals_lt (by omega) (by omega)] | rw [F_Code_init_1500_lt (by omega) (by omega)] | rw [F_Code_init_400_lt (by omega) (by omega)] | rw [F_State_init_lt (by omega) (by omega)] | rw [F_Out_init_lt (by omega) (by omega)] | rw [F_Draft_init_lt (by omega) (by omega)] | rw [F_Sweep_init_lt (by omega) (by omega)] | rw [F_Log_init_lt (by omega) (by omega)] | rw [F_Mach_init_lt (by omega) (by omega)] | rw [F_AL_lt (by omega) (by omega)] | rw [F_Lexer_lt (by omega) (by omega)])); first | done | rfl | assumption) (by omega) (by omega) (Nat.le_of_ble_eq_true rfl) (fun q hq => by cases hq; exact ⟨rfl, rfl, rfl⟩) ?_
  refine am_aload_n d_Pars_init_26 rfl rfl ?_
  refine am_new O n_Pars_18 d_Pars_init_27 (by omega) (by omega) ?_
  refine am_dup d_Pars_init_30 rfl ?_
  refine am_callI O (c_Draft_init O (by (repeat (first | rw [va_up_self] | rw [va_up_ne _ _ (by omega)] | rw [F_Vals_lt (by omega) (by omega)] | rw [F_Code_init_1500_lt (by omega) (by omega)] | rw [F_Code_init_400_lt (by omega) (by omega)] | rw [F_State_init_lt (by omega) (by omega)] | rw [F_Out_init_lt (by omega) (by omega)] | rw [F_Draft_init_lt (by omega) (by omega)] | rw [F_Sweep_init_lt (by omega) (by omega)] | rw [F_Log_init_lt (by omega) (by omega)] | rw [F_Mach_init_lt (by omega) (by omega)] | rw [F_AL_lt (by omega) (by omega)] | rw [F_Lexer_lt (by omega) (by omega)])); first | done | rfl | assumption) (by omega) (by omega)) rfl l_Pars_20 w_295 rfl rfl rfl (Nat.le_of_ble_eq_true rfl) d_Pars_init_31 (by omega) (by omega) (by omega) (fun v h' hp => ?_)
  obtain ⟨rfl, rfl⟩ := hp
  refine am_putF O f_Pars_25 (fun q hq => by cases hq; exact ⟨w_371, rfl⟩) rfl d_Pars_init_34 (by (repeat (first | rw [va_up_self] | rw [va_up_ne _ _ (by omega)] | rw [F_Vals_lt (by omega) (by omega)] | rw [F_Code_init_1500_lt (by omega) (by omega)] | rw [F_Code_init_400_lt (by omega) (by omega)] | rw [F_State_init_lt (by omega) (by omega)] | rw [F_Out_init_lt (by omega) (by omega)] | rw [F_Draft_init_lt (by omega) (by omega)] | rw [F_Sweep_init_lt (by omega) (by omega)] | rw [F_Log_init_lt (by omega) (by omega)] | rw [F_Mach_init_lt (by omega) (by omega)] | rw [F_AL_lt (by omega) (by omega)] | rw [F_Lexer_lt (by omega) (by omega)])); first | done | rfl | assumption) (by omega) (by omega) (Nat.le_of_ble_eq_true rfl) (fun q hq => by cases hq; exact ⟨rfl, rfl, rfl⟩) ?_
  refine am_aload_n d_Pars_init_37 rfl rfl ?_
  refine am_aload_n d_Pars_init_38 rfl rfl ?_
  refine am_get O f_Pars_21 d_Pars_init_39 (by (repeat (first | rw [va_up_self] | rw [va_up_ne _ _ (by omega)] | rw [F_Vals_lt (by omega) (by omega)] | rw [F_Code_init_1500_lt (by omega) (by omega)] | rw [F_Code_init_400_lt (by omega) (by omega)] | rw [F_State_init_lt (by omega) (by omega)] | rw [F_Out_init_lt (by omega) (by omega)] | rw [F_Draft_init_lt (by omega) (by omega)] | rw [F_Sweep_init_lt (by omega) (by omega)] | rw [F_Log_init_lt (by omega) (by omega)] | rw [F_Mach_init_lt (by omega) (by omega)] | rw [F_AL_lt (by omega) (by omega)] | rw [F_Lexer_lt (by omega) (by omega)])); first | done | rfl | assumption) (by omega) (by omega) rfl ?_
  refine am_put O f_Pars_28 d_Pars_init_42 (by (repeat (first | rw [va_up_self] | rw [va_up_ne _ _ (by omega)] | rw [F_Vals_lt (by omega) (by omega)] | rw [F_Code_init_1500_lt (by omega) (by omega)] | rw [F_Code_init_400_lt (by omega) (by omega)] | rw [F_State_init_lt (by omega) (by omega)] | rw [F_Out_init_lt (by omega) (by omega)] | rw [F_Draft_init_lt (by omega) (by omega)] | rw [F_Sweep_init_lt (by omega) (by omega)] | rw [F_Log_init_lt (by omega) (by omega)] | rw [F_Mach_init_lt (by omega) (by omega)] | rw [F_AL_lt (by omega) (by omega)] | rw [F_Lexer_lt (by omega) (by omega)])); first | done | rfl | assumption) (by omega) (by omega) (Nat.le_of_ble_eq_true rfl) (fun q hq => by cases hq; exact ⟨rfl, rfl, rfl⟩) ?_
  refine am_aload_n d_Pars_init_45 rfl rfl ?_
  refine am_new O n_Pars_31 d_Pars_init_46 (by omega) (by omega) ?_
  refine am_dup d_Pars_init_49 rfl ?_
  refine am_callI O (c_AL_init O E (by (repeat (first | rw [va_up_self] | rw [va_up_ne _ _ (by omega)] | rw [F_Vals_lt (by omega) (by omega)] | rw [F_Code_init_1500_lt (by omega) (by omega)] | rw [F_Code_init_400_lt (by omega) (by omega)] | rw [F_State_init_lt (by omega) (by omega)] | rw [F_Out_init_lt (by omega) (by omega)] | rw [F_Draft_init_lt (by omega) (by omega)] | rw [F_Sweep_init_lt (by omega) (by omega)] | rw [F_Log_init_lt (by omega) (by omega)] | rw [F_Mach_init_lt (by omega) (by omega)] | rw [F_AL_lt (by omega) (by omega)] | rw [F_Lexer_lt (by omega) (by omega)])); first | done | rfl | assumption) (by omega) (by omega)) rfl l_Pars_33 w_321 rfl rfl rfl (Nat.le_of_ble_eq_true rfl) d_Pars_init_50 (by omega) (by omega) (by omega) (fun v h' hp => ?_)
  obtain ⟨rfl, rfl⟩ := hp
  refine am_putF O f_Pars_34 (fun q hq => by cases hq; exact ⟨w_373, rfl⟩) rfl d_Pars_init_53 (by (repeat (first | rw [va_up_self] | rw [va_up_ne _ _ (by omega)] | rw [F_Vals_lt (by omega) (by omega)] | rw [F_Code_init_1500_lt (by omega) (by omega)] | rw [F_Code_init_400_lt (by omega) (by omega)] | rw [F_State_init_lt (by omega) (by omega)] | rw [F_Out_init_lt (by omega) (by omega)] | rw [F_Draft_init_lt (by omega) (by omega)] | rw [F_Sweep_init_lt (by omega) (by omega)] | rw [F_Log_init_lt (by omega) (by omega)] | rw [F_Mach_init_lt (by omega) (by omega)] | rw [F_AL_lt (by omega) (by omega)] | rw [F_Lexer_lt (by omega) (by omega)])); first | done | rfl | assumption) (by omega) (by omega) (Nat.le_of_ble_eq_true rfl) (fun q hq => by cases hq; exact ⟨rfl, rfl, rfl⟩) ?_
  refine am_aload_n d_Pars_init_56 rfl rfl ?_
  refine am_new O n_Pars_38 d_Pars_init_57 (by omega) (by omega) ?_
  refine am_dup d_Pars_init_60 rfl ?_
  refine am_lconst (v := 0) d_Pars_init_61 (by decide) ?_
  refine am_iconst (v := 0) d_Pars_init_62 (by decide) ?_
  refine am_iconst (v := 0) d_Pars_init_63 (by decide) ?_
  refine am_iconst (v := 0) d_Pars_init_64 (by decide) ?_
  refine am_iconst (v := 0) d_Pars_init_65 (by decide) ?_
  refine am_newa (at_ := .int) (ty := .int) (N := 0) O rfl (by decide) w_317 d_Pars_init_66 (by decide) (by decide) (by decide) (by omega) (by omega) ?_
  refine am_iconst (v := 0) d_Pars_init_68 (by decide) ?_
  refine am_newa (at_ := .long) (ty := .long) (N := 0) O rfl (by decide) w_291 d_Pars_init_69 (by decide) (by decide) (by decide) (by omega) (by omega) ?_
  refine am_callI O (c_Unit_init O (by (repeat (first | rw [va_up_self] | rw [va_up_ne _ _ (by omega)] | rw [F_Vals_lt (by omega) (by omega)] | rw [F_Code_init_1500_lt (by omega) (by omega)] | rw [F_Code_init_400_lt (by omega) (by omega)] | rw [F_State_init_lt (by omega) (by omega)] | rw [F_Out_init_lt (by omega) (by omega)] | rw [F_Draft_init_lt (by omega) (by omega)] | rw [F_Sweep_init_lt (by omega) (by omega)] | rw [F_Log_init_lt (by omega) (by omega)] | rw [F_Mach_init_lt (by omega) (by omega)] | rw [F_AL_lt (by omega) (by omega)] | rw [F_Lexer_lt (by omega) (by omega)])); first | done | rfl | assumption) (by omega) (by omega)) rfl l_Pars_40 w_347 rfl rfl rfl (Nat.le_of_ble_eq_true rfl) d_Pars_init_71 (by omega) (by omega) (by omega) (fun v h' hp => ?_)
  obtain ⟨rfl, rfl⟩ := hp
  refine am_put O f_Pars_43 d_Pars_init_74 (by (repeat (first | rw [va_up_self] | rw [va_up_ne _ _ (by omega)] | rw [F_Vals_lt (by omega) (by omega)] | rw [F_Code_init_1500_lt (by omega) (by omega)] | rw [F_Code_init_400_lt (by omega) (by omega)] | rw [F_State_init_lt (by omega) (by omega)] | rw [F_Out_init_lt (by omega) (by omega)] | rw [F_Draft_init_lt (by omega) (by omega)] | rw [F_Sweep_init_lt (by omega) (by omega)] | rw [F_Log_init_lt (by omega) (by omega)] | rw [F_Mach_init_lt (by omega) (by omega)] | rw [F_AL_lt (by omega) (by omega)] | rw [F_Lexer_lt (by omega) (by omega)])); first | done | rfl | assumption) (by omega) (by omega) (Nat.le_of_ble_eq_true rfl) (fun q hq => by cases hq; exact ⟨rfl, rfl, rfl⟩) ?_
  exact am_vret rfl d_Pars_init_77 ⟨rfl, aL, hw, rfl⟩

set_option maxRecDepth 100000 in
set_option maxHeartbeats 4000000 in
theorem c_Stow_init2 (O : am_ok K X) (E : am_E0 K) {tx : String} (Z : vk_R "StowTongue$Lexer" 19 tx (am_ad K 2) K.1) {L : Nat} {g : Nat → Int32} (S : am_str K 2 L g) {n r : Nat} {f : Nat → am_C} (h0 : f r = .inr (9, [.null, .int 0, .null, .null, .null, .null, .null, .long 0, .long 0, .int 0])) (h1 : 128 ≤ r) (h2 : r < n) : am_Mt K X m_Stow_init 6 31 2903 [.ref r] (n, f) (fun v h' => v = none ∧ ∃ aL : Nat → Int64, aL = lxw g L (L + 1) 0 0 0 (fun _ => 0) ∧ h' = (n + 31, F_Stow_init n f r aL)) := by
  refine am_enter (by decide +kernel) (Nat.le_of_ble_eq_true rfl) ?_
  refine am_aload_n d_Stow_init_0 rfl rfl ?_
  refine am_obj w_176 w_177 w_178 d_Stow_init_1 (by omega) (Nat.le_of_ble_eq_true rfl) ?_
  refine am_aload_n d_Stow_init_4 rfl rfl ?_
  refine am_sipush (v := 1500) d_Stow_init_5 (by decide) ?_
  refine am_newa (at_ := .byte) (ty := .byte) (N := 1500) O rfl (by decide) w_195 d_Stow_init_8 (by decide) (by decide) (by decide) (by omega) (by omega) ?_
  refine am_putF O f_Stow_9 (fun q hq => by cases hq; exact ⟨w_495, rfl⟩) rfl d_Stow_init_10 (by (repeat (first | rw [va_up_self] | rw [va_up_ne _ _ (by omega)] | rw [F_Vals_lt (by omega) (by omega)] | rw [F_Code_init_1500_lt (by omega) (by omega)] | rw [F_Code_init_400_lt (by omega) (by omega)] | rw [F_State_init_lt (by omega) (by omega)] | rw [F_Out_init_lt (by omega) (by omega)] | rw [F_Draft_init_lt (by omega) (by omega)] | rw [F_Sweep_init_lt (by omega) (by omega)] | rw [F_Log_init_lt (by omega) (by omega)] | rw [F_Mach_init_lt (by omega) (by omega)] | rw [F_AL_lt (by omega) (by omega)] | rw [F_Lexer_lt (by omega) (by omega)] | rw [F_Pars_init_lt (by omega) (by omega)])); first | done | rfl | assumption) (by omega) (by omega) (Nat.le_of_ble_eq_true rfl) (fun q hq => by cases hq; exact ⟨rfl, rfl, rfl⟩) ?_
  refine am_aload_n d_Stow_init_13 rfl rfl ?_
  refine am_new O n_Stow_13 d_Stow_init_14 (by omega) (by omega) ?_
  refine am_dup d_Stow_init_17 rfl ?_
  refine am_callI O (c_Out_init O (by (repeat (first | rw [va_up_self] | rw [va_up_ne _ _ (by omega)] | rw [F_Vals_lt (by omega) (by omega)] | rw [F_Code_init_1500_lt (by omega) (by omega)] | rw [F_Code_init_400_lt (by omega) (by omega)] | rw [F_State_init_lt (by omega) (by omega)] | rw [F_Out_init_lt (by omega) (by omega)] | rw [F_Draft_init_lt (by omega) (by omega)] | rw [F_Sweep_init_lt (by omega) (by omega)] | rw [F_Log_init_lt (by omega) (by omega)] | rw [F_Mach_init_lt (by omega) (by omega)] | rw [F_AL_lt (by omega) (by omega)] | rw [F_Lexer_lt (by omega) (by omega)] | rw [F_Pars_init_lt (by omega) (by omega)])); first | done | rfl | assumption) (by omega) (by omega)) rfl l_Stow_15 w_182 rfl rfl rfl (Nat.le_of_ble_eq_true rfl) d_Stow_init_18 (by omega) (by omega) (by omega) (fun v h' hp => ?_)
  obtain ⟨rfl, rfl⟩ := hp
  refine am_putF O f_Stow_16 (fun q hq => by cases hq; exact ⟨w_497, rfl⟩) rfl d_Stow_init_21 (by (repeat (first | rw [va_up_self] | rw [va_up_ne _ _ (by omega)] | rw [F_Vals_lt (by omega) (by omega)] | rw [F_Code_init_1500_lt (by omega) (by omega)] | rw [F_Code_init_400_lt (by omega) (by omega)] | rw [F_State_init_lt (by omega) (by omega)] | rw [F_Out_init_lt (by omega) (by omega)] | rw [F_Draft_init_lt (by omega) (by omega)] | rw [F_Sweep_init_lt (by omega) (by omega)] | rw [F_Log_init_lt (by omega) (by omega)] | rw [F_Mach_init_lt (by omega) (by omega)] | rw [F_AL_lt (by omega) (by omega)] | rw [F_Lexer_lt (by omega) (by omega)] | rw [F_Pars_init_lt (by omega) (by omega)])); first | done | rfl | assumption) (by omega) (by omega) (Nat.le_of_ble_eq_true rfl) (fun q hq => by cases hq; exact ⟨rfl, rfl, rfl⟩) ?_
  refine am_aload_n d_Stow_init_24 rfl rfl ?_
  refine am_new O n_Stow_20 d_Stow_init_25 (by omega) (by omega) ?_
  refine am_dup d_Stow_init_28 rfl ?_
  refine am_callI O (c_Pars_init2 O E Z S (by (repeat (first | rw [va_up_self] | rw [va_up_ne _ _ (by omega)] | rw [F_Vals_lt (by omega) (by omega)] | rw [F_Code_init_1500_lt (by omega) (by omega)] | rw [F_Code_init_400_lt (by omega) (by omega)] | rw [F_State_init_lt (by omega) (by omega)] | rw [F_Out_init_lt (by omega) (by omega)] | rw [F_Draft_init_lt (by omega) (by omega)] | rw [F_Sweep_init_lt (by omega) (by omega)] | rw [F_Log_init_lt (by omega) (by omega)] | rw [F_Mach_init_lt (by omega) (by omega)] | rw [F_AL_lt (by omega) (by omega)] | rw [F_Lexer_lt (by omega) (by omega)] | rw [F_Pars_init_lt (by omega) (by omega)])); first | done | rfl | assumption) (by omega) (by omega)) rfl l_Stow_22 w_199 rfl rfl rfl (Nat.le_of_ble_eq_true rfl) d_Stow_init_29 (by omega) (by omega) (by omega) (fun v h' hp => ?_)
  obtain ⟨rfl, aL, hw, rfl⟩ := hp
  refine am_putF O f_Stow_23 (fun q hq => by cases hq; exact ⟨w_498, rfl⟩) rfl d_Stow_init_32 (by (repeat (first | rw [va_up_self] | rw [va_up_ne _ _ (by omega)] | rw [F_Vals_lt (by omega) (by omega)] | rw [F_Code_init_1500_lt (by omega) (by omega)] | rw [F_Code_init_400_lt (by omega) (by omega)] | rw [F_State_init_lt (by omega) (by omega)] | rw [F_Out_init_lt (by omega) (by omega)] | rw [F_Draft_init_lt (by omega) (by omega)] | rw [F_Sweep_init_lt (by omega) (by omega)] | rw [F_Log_init_lt (by omega) (by omega)] | rw [F_Mach_init_lt (by omega) (by omega)] | rw [F_AL_lt (by omega) (by omega)] | rw [F_Lexer_lt (by omega) (by omega)] | rw [F_Pars_init_lt (by omega) (by omega)])); first | done | rfl | assumption) (by omega) (by omega) (Nat.le_of_ble_eq_true rfl) (fun q hq => by cases hq; exact ⟨rfl, rfl, rfl⟩) ?_
  refine am_aload_n d_Stow_init_35 rfl rfl ?_
  refine am_new O n_Stow_27 d_Stow_init_36 (by omega) (by omega) ?_
  refine am_dup d_Stow_init_39 rfl ?_
  refine am_callI O (c_Mach_init O (by (repeat (first | rw [va_up_self] | rw [va_up_ne _ _ (by omega)] | rw [F_Vals_lt (by omega) (by omega)] | rw [F_Code_init_1500_lt (by omega) (by omega)] | rw [F_Code_init_400_lt (by omega) (by omega)] | rw [F_State_init_lt (by omega) (by omega)] | rw [F_Out_init_lt (by omega) (by omega)] | rw [F_Draft_init_lt (by omega) (by omega)] | rw [F_Sweep_init_lt (by omega) (by omega)] | rw [F_Log_init_lt (by omega) (by omega)] | rw [F_Mach_init_lt (by omega) (by omega)] | rw [F_AL_lt (by omega) (by omega)] | rw [F_Lexer_lt (by omega) (by omega)] | rw [F_Pars_init_lt (by omega) (by omega)])); first | done | rfl | assumption) (by omega) (by omega)) rfl l_Stow_29 w_397 rfl rfl rfl (Nat.le_of_ble_eq_true rfl) d_Stow_init_40 (by omega) (by omega) (by omega) (fun v h' hp => ?_)
  obtain ⟨rfl, rfl⟩ := hp
  refine am_putF O f_Stow_30 (fun q hq => by cases hq; exact ⟨w_499, rfl⟩) rfl d_Stow_init_43 (by (repeat (first | rw [va_up_self] | rw [va_up_ne _ _ (by omega)] | rw [F_Vals_lt (by omega) (by omega)] | rw [F_Code_init_1500_lt (by omega) (by omega)] | rw [F_Code_init_400_lt (by omega) (by omega)] | rw [F_State_init_lt (by omega) (by omega)] | rw [F_Out_init_lt (by omega) (by omega)] | rw [F_Draft_init_lt (by omega) (by omega)] | rw [F_Sweep_init_lt (by omega) (by omega)] | rw [F_Log_init_lt (by omega) (by omega)] | rw [F_Mach_init_lt (by omega) (by omega)] | rw [F_AL_lt (by omega) (by omega)] | rw [F_Lexer_lt (by omega) (by omega)] | rw [F_Pars_init_lt (by omega) (by omega)])); first | done | rfl | assumption) (by omega) (by omega) (Nat.le_of_ble_eq_true rfl) (fun q hq => by cases hq; exact ⟨rfl, rfl, rfl⟩) ?_
  refine am_aload_n d_Stow_init_46 rfl rfl ?_
  refine am_new O n_Stow_34 d_Stow_init_47 (by omega) (by omega) ?_
  refine am_dup d_Stow_init_50 rfl ?_
  refine am_callI O (c_Log_init O (by (repeat (first | rw [va_up_self] | rw [va_up_ne _ _ (by omega)] | rw [F_Vals_lt (by omega) (by omega)] | rw [F_Code_init_1500_lt (by omega) (by omega)] | rw [F_Code_init_400_lt (by omega) (by omega)] | rw [F_State_init_lt (by omega) (by omega)] | rw [F_Out_init_lt (by omega) (by omega)] | rw [F_Draft_init_lt (by omega) (by omega)] | rw [F_Sweep_init_lt (by omega) (by omega)] | rw [F_Log_init_lt (by omega) (by omega)] | rw [F_Mach_init_lt (by omega) (by omega)] | rw [F_AL_lt (by omega) (by omega)] | rw [F_Lexer_lt (by omega) (by omega)] | rw [F_Pars_init_lt (by omega) (by omega)])); first | done | rfl | assumption) (by omega) (by omega)) rfl l_Stow_36 w_460 rfl rfl rfl (Nat.le_of_ble_eq_true rfl) d_Stow_init_51 (by omega) (by omega) (by omega) (fun v h' hp => ?_)
  obtain ⟨rfl, rfl⟩ := hp
  refine am_putF O f_Stow_37 (fun q hq => by cases hq; exact ⟨w_500, rfl⟩) rfl d_Stow_init_54 (by (repeat (first | rw [va_up_self] | rw [va_up_ne _ _ (by omega)] | rw [F_Vals_lt (by omega) (by omega)] | rw [F_Code_init_1500_lt (by omega) (by omega)] | rw [F_Code_init_400_lt (by omega) (by omega)] | rw [F_State_init_lt (by omega) (by omega)] | rw [F_Out_init_lt (by omega) (by omega)] | rw [F_Draft_init_lt (by omega) (by omega)] | rw [F_Sweep_init_lt (by omega) (by omega)] | rw [F_Log_init_lt (by omega) (by omega)] | rw [F_Mach_init_lt (by omega) (by omega)] | rw [F_AL_lt (by omega) (by omega)] | rw [F_Lexer_lt (by omega) (by omega)] | rw [F_Pars_init_lt (by omega) (by omega)])); first | done | rfl | assumption) (by omega) (by omega) (Nat.le_of_ble_eq_true rfl) (fun q hq => by cases hq; exact ⟨rfl, rfl, rfl⟩) ?_
  refine am_aload_n d_Stow_init_57 rfl rfl ?_
  refine am_new O n_Stow_41 d_Stow_init_58 (by omega) (by omega) ?_
  refine am_dup d_Stow_init_61 rfl ?_
  refine am_callI O (c_Sweep_init O (by (repeat (first | rw [va_up_self] | rw [va_up_ne _ _ (by omega)] | rw [F_Vals_lt (by omega) (by omega)] | rw [F_Code_init_1500_lt (by omega) (by omega)] | rw [F_Code_init_400_lt (by omega) (by omega)] | rw [F_State_init_lt (by omega) (by omega)] | rw [F_Out_init_lt (by omega) (by omega)] | rw [F_Draft_init_lt (by omega) (by omega)] | rw [F_Sweep_init_lt (by omega) (by omega)] | rw [F_Log_init_lt (by omega) (by omega)] | rw [F_Mach_init_lt (by omega) (by omega)] | rw [F_AL_lt (by omega) (by omega)] | rw [F_Lexer_lt (by omega) (by omega)] | rw [F_Pars_init_lt (by omega) (by omega)])); first | done | rfl | assumption) (by omega) (by omega)) rfl l_Stow_43 w_481 rfl rfl rfl (Nat.le_of_ble_eq_true rfl) d_Stow_init_62 (by omega) (by omega) (by omega) (fun v h' hp => ?_)
  obtain ⟨rfl, rfl⟩ := hp
  refine am_putF O f_Stow_44 (fun q hq => by cases hq; exact ⟨w_501, rfl⟩) rfl d_Stow_init_65 (by (repeat (first | rw [va_up_self] | rw [va_up_ne _ _ (by omega)] | rw [F_Vals_lt (by omega) (by omega)] | rw [F_Code_init_1500_lt (by omega) (by omega)] | rw [F_Code_init_400_lt (by omega) (by omega)] | rw [F_State_init_lt (by omega) (by omega)] | rw [F_Out_init_lt (by omega) (by omega)] | rw [F_Draft_init_lt (by omega) (by omega)] | rw [F_Sweep_init_lt (by omega) (by omega)] | rw [F_Log_init_lt (by omega) (by omega)] | rw [F_Mach_init_lt (by omega) (by omega)] | rw [F_AL_lt (by omega) (by omega)] | rw [F_Lexer_lt (by omega) (by omega)] | rw [F_Pars_init_lt (by omega) (by omega)])); first | done | rfl | assumption) (by omega) (by omega) (Nat.le_of_ble_eq_true rfl) (fun q hq => by cases hq; exact ⟨rfl, rfl, rfl⟩) ?_
  exact am_vret rfl d_Stow_init_68 ⟨rfl, aL, hw, rfl⟩

def WDB : List Int32 := [102, 117, 110, 32, 108, 101, 116, 32, 105, 102, 32, 101, 108, 115, 101, 32, 119, 104, 105, 108, 101, 32, 114, 101, 116, 117, 114, 110, 32, 97, 98, 111, 114, 116, 32, 112, 114, 105, 110, 116, 32, 110, 105, 108, 32, 115, 105, 122, 101, 32, 112, 117, 115, 104, 32, 112, 111, 112, 32]
theorem WDB_eq : ∀ i, i < 12 → lxw (fun j => WDB.getD j 0) 59 60 0 0 0 (fun _ => 0) i = Int64.ofNat (C128 8 (RWL.getD i [])) := by decide +kernel
end
