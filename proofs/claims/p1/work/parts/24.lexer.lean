section
variable {K : am_K} {X : Nat → am_C}
theorem lx_upd (a : Nat → Int64) (k : Nat) (x : Int64) : updV (fun j => .long (a j)) k (.long x) = fun j => Value.long (vp_updL a k x j) := by
  funext j
  by_cases h : j = k
  · simp [updV, vp_updL, h]
  · simp [updV, vp_updL, h]

set_option maxRecDepth 100000 in
set_option maxHeartbeats 4000000 in
theorem lx_loop (O : am_ok K X) (E : am_E0 K) {tx : String} (Z : vk_R "StowTongue$Lexer" 19 tx (am_ad K 2) K.1) {L : Nat} {g : Nat → Int32} (S : am_str K 2 L g) {n r q kc ks uc us : Nat} {f : Nat → am_C} {tl : List Value} (h0 : f r = .inr (1, .ref q :: tl)) (hr : 128 ≤ r) (hr2 : r < n) (hq : 128 ≤ q) (hq2 : q < n) (hrq : r ≠ q) (hkc : uc ≤ kc) (hks : us ≤ ks) : ∀ (m k w : Nat) (x2 : Int32) (a : Nat → Int64), k ≤ L → w ≤ 12 → L - k < m → am_W K X m_Lexer_init 4 kc ks uc us 25 [(0, .ref r), (1, .int (nI w)), (2, .int x2), (3, .int (nI k))] [] (n, va_up f q (.inl (.long, 12, fun j => .long (a j)))) (fun v h' => v = none ∧ ∃ a : Nat → Int64, h' = (n, va_up f q (.inl (.long, 12, fun j => .long (a j))))) := by
  have hL := S.2.2.2.2
  intro m
  induction m with
  | zero => intro k w x2 a h1 h2 h3; omega
  | succ m ih =>
    intro k w x2 a hk hw hm
    refine am_iload_n d_Lexer_init_25 rfl rfl ?_
    refine am_ldcS Z d_Lexer_init_26 ?_
    refine am_callVE O (c_Str_length O E S) rfl S.1 l_Lexer_21 ⟨w_210, w_211⟩ rfl (Nat.le_of_ble_eq_true rfl) d_Lexer_init_28 (by omega) (by omega) (by omega) (fun v h' hp => ?_)
    obtain ⟨rfl, rfl⟩ := hp
    refine am_icmp_ge (tgt := 87) d_Lexer_init_31 (by decide) (fun c_31 => ?_) (fun c_31 => ?_)
    · exact am_vret rfl d_Lexer_init_87 ⟨rfl, a, rfl⟩
    · have hkL : k < L := by
        rcases Nat.lt_or_ge k L with q | q
        · exact q
        · exact absurd (nI_le q (by omega)) c_31
      refine am_iload_n d_Lexer_init_34 rfl rfl ?_
      refine am_bipush (v := 12) d_Lexer_init_35 (by decide) ?_
      refine am_icmp_ge (tgt := 87) d_Lexer_init_37 (by decide) (fun c_37 => ?_) (fun c_37 => ?_)
      · exact am_vret rfl d_Lexer_init_87 ⟨rfl, a, rfl⟩
      · have hw12 : w < 12 := by
          rcases Nat.lt_or_ge w 12 with q | q
          · exact q
          · exact absurd (nI_le q (by omega)) c_37
        refine am_ldcS Z d_Lexer_init_40 ?_
        refine am_iload_n d_Lexer_init_42 rfl rfl ?_
        refine am_callVE O (c_Str_charAt O E S hkL) rfl S.1 l_Lexer_27 ⟨w_220, w_221⟩ rfl (Nat.le_of_ble_eq_true rfl) d_Lexer_init_43 (by omega) (by omega) (by omega) (fun v h' hp => ?_)
        obtain ⟨rfl, rfl⟩ := hp
        refine am_istore d_Lexer_init_46 (by decide) ?_
        refine am_iload d_Lexer_init_48 rfl ?_
        refine am_bipush (v := 32) d_Lexer_init_50 (by decide) ?_
        refine am_icmp_ne (tgt := 63) d_Lexer_init_52 (by decide) (fun c_52 => ?_) (fun c_52 => ?_)
        · refine am_aload_n d_Lexer_init_63 rfl rfl ?_
          refine am_get O f_Lexer_11 d_Lexer_init_64 (by (repeat (first | rw [va_up_self] | rw [va_up_ne _ _ (by omega)])); first | done | rfl | assumption) (by omega) (by omega) rfl ?_
          refine am_iload_n d_Lexer_init_67 rfl rfl ?_
          refine am_dup2 d_Lexer_init_68 rfl rfl ?_
          refine am_lald O (by decide) d_Lexer_init_69 (by (repeat (first | rw [va_up_self] | rw [va_up_ne _ _ (by omega)])); first | done | rfl | assumption) (by omega) (by omega) (vp_in_nI hw12 (by omega)) rfl ?_
          refine am_iload d_Lexer_init_70 rfl ?_
          refine am_iload_n d_Lexer_init_72 rfl rfl ?_
          refine am_callS O c_Cell_placed rfl l_Lexer_31 w_258 rfl (Nat.le_of_ble_eq_true rfl) d_Lexer_init_73 (by omega) (by omega) (by omega) (fun v h' hp => ?_)
          obtain ⟨rfl, rfl⟩ := hp
          refine am_lor d_Lexer_init_76 ?_
          refine am_last O (by decide) d_Lexer_init_77 (by (repeat (first | rw [va_up_self] | rw [va_up_ne _ _ (by omega)])); first | done | rfl | assumption) (by omega) (by omega) (vp_in_nI hw12 (by omega)) ?_
          refine am_iinc (v := 1) d_Lexer_init_78 rfl (by decide) (by decide) ?_
          refine am_iinc (v := 1) d_Lexer_init_81 rfl (by decide) (by decide) ?_
          refine am_goto (tgt := 25) d_Lexer_init_84 (by decide) ?_
          rw [bx_uu, lx_upd]
          refine am_locs (lv' := [(0, .ref r), (1, .int (nI w)), (2, .int (x2 + 1)), (3, .int (nI (k + 1)))]) (by rw [← nI_1]; rfl) ?_
          exact ih (k + 1) w (x2 + 1) _ (by omega) hw (by omega)
        · refine am_iinc (v := 1) d_Lexer_init_55 rfl (by decide) (by decide) ?_
          refine am_iconst (v := 0) d_Lexer_init_58 (by decide) ?_
          refine am_istore_n d_Lexer_init_59 rfl (by decide) ?_
          refine am_goto (tgt := 81) d_Lexer_init_60 (by decide) ?_
          refine am_iinc (v := 1) d_Lexer_init_81 rfl (by decide) (by decide) ?_
          refine am_goto (tgt := 25) d_Lexer_init_84 (by decide) ?_
          refine am_locs (lv' := [(0, .ref r), (1, .int (nI (w + 1))), (2, .int 0), (3, .int (nI (k + 1)))]) (by rw [← nI_1, ← nI_1]; rfl) ?_
          exact ih (k + 1) (w + 1) 0 a (by omega) (by omega) (by omega)
end
