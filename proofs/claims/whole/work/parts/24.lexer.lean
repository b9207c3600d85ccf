section
variable {K : am_K} {X : Nat → am_C}
theorem lx_upd (a : Nat → Int64) (k : Nat) (x : Int64) : updV (fun j => .long (a j)) k (.long x) = fun j => Value.long (vp_updL a k x j) := by
  funext j
  by_cases h : j = k
  · simp [updV, vp_updL, h]
  · simp [updV, vp_updL, h]

set_option maxRecDepth 100000 in
set_option maxHeartbeats 4000000 in
theorem lx_loop (O : am_ok K X) (E : am_E0 K) {tx : String} (Z : vk_R "StowTongue$Lexer" 19 tx (am_ad K 2) K.1) {L : Nat} {g : Nat → Int32} (S : am_str K 2 L g) {n r q kc ks uc us : Nat} {f : Nat → am_C} {tl : List Value} (h0 : f r = .inr (1, .ref q :: tl)) (hr : 128 ≤ r) (hr2 : r < n) (hq : 128 ≤ q) (hq2 : q < n) (hrq : r ≠ q) (hkc : uc ≤ kc) (hks : us ≤ ks) : ∀ (m k w : Nat) (x2 : Int32) (a : Nat → Int64), k ≤ L → w ≤ 12 → L - k < m → am_W K X m_Lexer_init 4 kc ks uc us 25 [(0, .ref r), (1, .int (nI w)), (2, .int x2), (3, .int (nI k))] [] (n, va_up f q (.inl (.long, 12, fun j => .long (a j)))) (fun v h' => v = none ∧ ∃ a : Nat → Int64, h' = (n, va_up f q (.inl (.long, 12, fun j => .long (a j))))) := by
  have hL := S.2.2.2.2
  intro m
  induction m with
  | zero => intro k w x2 a h1 h2 h3; omega
  | succ m ih =>
    intro k w x2 a hk hw hm
    refine am_iload_n d_Lexer_init_25 rfl rfl ?_
    refine am_ldcS Z d_Lexer_init_26 ?_
    refine am_callVE O (c_Str_length O E S) rfl S.1 l_Lexer_21 ⟨w_210, w_211⟩ rfl (Nat.le_of_ble_eq_true rfl) d_Lexer_init_28 (by omega) (by omega) (by omega) (fun v h' hp => ?_)
    obtain ⟨rfl, rfl⟩ := hp
    refine am_icmp_ge (tgt := 87) d_Lexer_init_31 (by decide) (fun c_31 => ?_) (fun c_31 => ?_)
    · exact am_vret rfl d_Lexer_init_87 ⟨rfl, a, rfl⟩
    · have hkL : k < L := by
        rcases Nat.lt_or_ge k L with q | q
        · exact q
        · exact absurd (nI_le q (by omega)) c_31
      refine am_iload_n d_Lexer_init_34 rfl rfl ?_
      refine am_bipush (v := 12) d_Lexer_init_35 (by decide) ?_
      refine am_icmp_ge (tgt := 87) d_Lexer_init_37 (by decide) (fun c_37 => ?_) (fun c_37 => ?_)
      · exact am_vret rfl d_Lexer_init_87 ⟨rfl, a, rfl⟩
      · have hw12 : w < 12 := by
          rcases Nat.lt_or_ge w 12 with q | q
          · exact q
          · exact absurd (nI_le q (by omega)) c_37
        refine am_ldcS Z d_Lexer_init_40 ?_
        refine am_iload_n d_Lexer_init_42 rfl rfl ?_
        refine am_callVE O (c_Str_charAt O E S hkL) rfl S.1 l_Lexer_27 ⟨w_220, w_221⟩ rfl (Nat.le_of_ble_eq_true rfl) d_Lexer_init_43 (by omega) (by omega) (by omega) (fun v h' hp => ?_)
        obtain ⟨rfl, rfl⟩ := hp
        refine am_istore d_Lexer_init_46 (by decide) ?_
        refine am_iload d_Lexer_init_48 rfl ?_
        refine am_bipush (v := 32) d_Lexer_init_50 (by decide) ?_
        refine am_icmp_ne (tgt := 63) d_Lexer_init_52 (by decide) (fun c_52 => ?_) (fun c_52 => ?_)
        · refine am_aload_n d_Lexer_init_63 rfl rfl ?_
          refine am_get O f_Lexer_11 d_Lexer_init_64 (by (repeat (first | rw [va_up_self] | rw [va_up_ne _ _ (by omega)])); first | done | rfl | assumption) (by omega) (by omega) rfl ?_
          refine am_iload_n d_Lexer_init_67 rfl rfl ?_
          refine am_dup2 d_Lexer_init_68 rfl rfl ?_
          refine am_lald O (by decide) d_Lexer_init_69 (by (repeat (first | rw [va_up_self] | rw [va_up_ne _ _ (by omega)])); first | done | rfl | assumption) (by omega) (by omega) (vp_in_nI hw12 (by omega)) rfl ?_
          refine am_iload d_Lexer_init_70 rfl ?_
          refine am_iload_n d_Lexer_init_72 rfl rfl ?_
          refine am_callS O c_Cell_placed rfl l_Lexer_31 w_258 rfl (Nat.le_of_ble_eq_true rfl) d_Lexer_init_73 (by omega) (by omega) (by omega) (fun v h' hp => ?_)
          obtain ⟨rfl, rfl⟩ := hp
          refine am_lor d_Lexer_init_76 ?_
          refine am_last O (by decide) d_Lexer_init_77 (by (repeat (first | rw [va_up_self] | rw [va_up_ne _ _ (by omega)])); first | done | rfl | assumption) (by omega) (by omega) (vp_in_nI hw12 (by omega)) ?_
          refine am_iinc (v := 1) d_Lexer_init_78 rfl (by decide) (by decide) ?_
          refine am_iinc (v := 1) d_Lexer_init_81 rfl (by decide) (by decide) ?_
          refine am_goto (tgt := 25) d_Lexer_init_84 (by decide) ?_
          rw [bx_uu, lx_upd]
          refine am_locs (lv' := [(0, .ref r), (1, .int (nI w)), (2, .int (x2 + 1)), (3, .int (nI (k + 1)))]) (by rw [← nI_1]; rfl) ?_
          exact ih (k + 1) w (x2 + 1) _ (by omega) hw (by omega)
        · refine am_iinc (v := 1) d_Lexer_init_55 rfl (by decide) (by decide) ?_
          refine am_iconst (v := 0) d_Lexer_init_58 (by decide) ?_
          refine am_istore_n d_Lexer_init_59 rfl (by decide) ?_
          refine am_goto (tgt := 81) d_Lexer_init_60 (by decide) ?_
          refine am_iinc (v := 1) d_Lexer_init_81 rfl (by decide) (by decide) ?_
          refine am_goto (tgt := 25) d_Lexer_init_84 (by decide) ?_
          refine am_locs (lv' := [(0, .ref r), (1, .int (nI (w + 1))), (2, .int 0), (3, .int (nI (k + 1)))]) (by rw [← nI_1, ← nI_1]; rfl) ?_
          exact ih (k + 1) (w + 1) 0 a (by omega) (by omega) (by omega)

theorem am_up_same {f : Nat → am_C} {q : Nat} {c : am_C} (h : f q = c) : va_up f q c = f := by
  funext x
  by_cases hx : x = q
  · subst hx
    rw [va_up_self, h]
  · rw [va_up_ne _ _ hx]
theorem am_self {M : am_M} {d kc ks uc us pc n q : Nat} {lv : List (Nat × Value)} {st : List Value} {f : Nat → am_C} {post : Option Value → am_H → Prop} (c : am_C) (hc : f q = c) (k : am_W K X M d kc ks uc us pc lv st (n, va_up f q c) post) : am_W K X M d kc ks uc us pc lv st (n, f) post := by
  rw [am_up_same hc] at k
  exact k

def F_Lexer (n : Nat) (f : Nat → am_C) (r : Nat) (a : Nat → Int64) : Nat → am_C := va_up (va_up (va_up (va_up (va_up f n (.inl (.long, 12, fun _ => .long 0))) r (.inr (1, [.ref n, .null, .int 0, .int 0, .int 0, .int 0, .int 0, .int 0, .long 0, .long 0]))) (n + 1) (.inl (.byte, 0, fun _ => .int 0))) r (.inr (1, [.ref n, .ref (n + 1), .int 0, .int 0, .int 0, .int 0, .int 0, .int 0, .long 0, .long 0]))) n (.inl (.long, 12, fun j => .long (a j)))
theorem F_Lexer_lt {n : Nat} {f : Nat → am_C} {r x : Nat} {a : Nat → Int64} (hx : x < n) (hr : x ≠ r) : F_Lexer n f r a x = f x := by
  unfold F_Lexer
  (repeat rw [va_up_ne _ _ (by omega)])

set_option maxRecDepth 100000 in
set_option maxHeartbeats 4000000 in
theorem c_Lexer_init (O : am_ok K X) (E : am_E0 K) {tx : String} (Z : vk_R "StowTongue$Lexer" 19 tx (am_ad K 2) K.1) {L : Nat} {g : Nat → Int32} (S : am_str K 2 L g) {n r : Nat} {f : Nat → am_C} (h0 : f r = .inr (1, [.null, .null, .int 0, .int 0, .int 0, .int 0, .int 0, .int 0, .long 0, .long 0])) (h1 : 128 ≤ r) (h2 : r < n) : am_Mt K X m_Lexer_init 4 2 12 [.ref r] (n, f) (fun v h' => v = none ∧ ∃ a : Nat → Int64, h' = (n + 2, F_Lexer n f r a)) := by
  refine am_enter (by decide +kernel) (Nat.le_of_ble_eq_true rfl) ?_
  refine am_aload_n d_Lexer_init_0 rfl rfl ?_
  refine am_obj w_207 w_177 w_178 d_Lexer_init_1 (by omega) (Nat.le_of_ble_eq_true rfl) ?_
  refine am_aload_n d_Lexer_init_4 rfl rfl ?_
  refine am_bipush (v := 12) d_Lexer_init_5 (by decide) ?_
  refine am_newa (at_ := .long) (ty := .long) (N := 12) O rfl (by decide) w_291 d_Lexer_init_7 (by decide) (by decide) (by decide) (by omega) (by omega) ?_
  refine am_putF O f_Lexer_11 (fun q hq => by cases hq; exact ⟨w_260, rfl⟩) rfl d_Lexer_init_9 (by (repeat (first | rw [va_up_self] | rw [va_up_ne _ _ (by omega)] | rw [F_Vals_lt (by omega) (by omega)] | rw [F_Code_init_1500_lt (by omega) (by omega)] | rw [F_Code_init_400_lt (by omega) (by omega)] | rw [F_State_init_lt (by omega) (by omega)] | rw [F_Out_init_lt (by omega) (by omega)] | rw [F_Draft_init_lt (by omega) (by omega)] | rw [F_Sweep_init_lt (by omega) (by omega)] | rw [F_Log_init_lt (by omega) (by omega)] | rw [F_Mach_init_lt (by omega) (by omega)] | rw [F_AL_lt (by omega) (by omega)])); first | done | rfl | assumption) (by omega) (by omega) (Nat.le_of_ble_eq_true rfl) (fun q hq => by cases hq; exact ⟨rfl, rfl, rfl⟩) ?_
  refine am_aload_n d_Lexer_init_12 rfl rfl ?_
  refine am_iconst (v := 0) d_Lexer_init_13 (by decide) ?_
  refine am_newa (at_ := .byte) (ty := .byte) (N := 0) O rfl (by decide) w_195 d_Lexer_init_14 (by decide) (by decide) (by decide) (by omega) (by omega) ?_
  refine am_put O f_Lexer_15 d_Lexer_init_16 (by (repeat (first | rw [va_up_self] | rw [va_up_ne _ _ (by omega)] | rw [F_Vals_lt (by omega) (by omega)] | rw [F_Code_init_1500_lt (by omega) (by omega)] | rw [F_Code_init_400_lt (by omega) (by omega)] | rw [F_State_init_lt (by omega) (by omega)] | rw [F_Out_init_lt (by omega) (by omega)] | rw [F_Draft_init_lt (by omega) (by omega)] | rw [F_Sweep_init_lt (by omega) (by omega)] | rw [F_Log_init_lt (by omega) (by omega)] | rw [F_Mach_init_lt (by omega) (by omega)] | rw [F_AL_lt (by omega) (by omega)])); first | done | rfl | assumption) (by omega) (by omega) (Nat.le_of_ble_eq_true rfl) (fun q hq => by cases hq; exact ⟨rfl, rfl, rfl⟩) ?_
  refine am_iconst (v := 0) d_Lexer_init_19 (by decide) ?_
  refine am_istore_n d_Lexer_init_20 rfl (by decide) ?_
  refine am_iconst (v := 0) d_Lexer_init_21 (by decide) ?_
  refine am_istore_n d_Lexer_init_22 rfl (by decide) ?_
  refine am_iconst (v := 0) d_Lexer_init_23 (by decide) ?_
  refine am_istore_n d_Lexer_init_24 rfl (by decide) ?_
  refine am_self (q := n) (.inl (.long, 12, fun j => .long ((fun _ => 0) j))) (by (repeat (first | rw [va_up_self] | rw [va_up_ne _ _ (by omega)] | rw [F_Vals_lt (by omega) (by omega)] | rw [F_Code_init_1500_lt (by omega) (by omega)] | rw [F_Code_init_400_lt (by omega) (by omega)] | rw [F_State_init_lt (by omega) (by omega)] | rw [F_Out_init_lt (by omega) (by omega)] | rw [F_Draft_init_lt (by omega) (by omega)] | rw [F_Sweep_init_lt (by omega) (by omega)] | rw [F_Log_init_lt (by omega) (by omega)] | rw [F_Mach_init_lt (by omega) (by omega)] | rw [F_AL_lt (by omega) (by omega)])); first | done | rfl | assumption) ?_
  refine am_locs (lv' := [(0, .ref r), (1, .int (nI 0)), (2, .int 0), (3, .int (nI 0))]) rfl ?_
  exact lx_loop O E Z S (tl := _) (by (repeat (first | rw [va_up_self] | rw [va_up_ne _ _ (by omega)] | rw [F_Vals_lt (by omega) (by omega)] | rw [F_Code_init_1500_lt (by omega) (by omega)] | rw [F_Code_init_400_lt (by omega) (by omega)] | rw [F_State_init_lt (by omega) (by omega)] | rw [F_Out_init_lt (by omega) (by omega)] | rw [F_Draft_init_lt (by omega) (by omega)] | rw [F_Sweep_init_lt (by omega) (by omega)] | rw [F_Log_init_lt (by omega) (by omega)] | rw [F_Mach_init_lt (by omega) (by omega)] | rw [F_AL_lt (by omega) (by omega)])); first | done | rfl | assumption) (by omega) (by omega) (by omega) (by omega) (by omega) (by omega) (by omega) (L + 1) 0 0 0 (fun _ => 0) (by omega) (by omega) (by omega)
end
