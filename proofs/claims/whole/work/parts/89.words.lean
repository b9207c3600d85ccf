def s_wk (ws : Nat → Int64) (y : Int64) : Nat → Nat → Int32
  | 0, _ => 2
  | m + 1, i => if lg_cmp (ws i) y = 0 then 5 + nI i else s_wk ws y m (i + 1)
section
variable {K : am_K} {X : Nat → am_C}
set_option maxRecDepth 100000 in
theorem g_Lexer_wordKind (O : am_ok K X) {n r w : Nat} {fs : List Value} {ws : Nat → Int64} {f : Nat → am_C} (V : f r = .inr (1, fs)) (vw : fs[0]? = some (.ref w)) (U : f w = .inl (.long, 12, fun j => .long (ws j))) (h1 : 128 ≤ r) (h2 : r < n) (u1 : 128 ≤ w) (u2 : w < n) {y : Int64} : am_Mt K X m_Lexer_wordKind 0 0 0 [.ref r, .long y] (n, f) (fun v h' => v = some (.int (s_wk ws y 12 0)) ∧ h' = (n, f)) := by
  refine am_enter (by decide +kernel) (Nat.le_of_ble_eq_true rfl) ?_
  refine am_iconst (v := 0) d_Lexer_wordKind_0 (by decide) ?_
  refine am_istore_n d_Lexer_wordKind_1 rfl (Nat.le_of_ble_eq_true rfl) ?_
  have key : ∀ m i : Nat, i + m = 12 → am_W K X m_Lexer_wordKind 0 0 0 0 0 2 [(0, .ref r), (1, .long y), (3, .int (nI i))] [] (n, f) (fun v h' => v = some (.int (s_wk ws y m i)) ∧ h' = (n, f)) := by
    intro m
    induction m with
    | zero =>
      intro i e
      obtain rfl : i = 12 := e
      refine am_iload_n d_Lexer_wordKind_2 rfl rfl ?_
      refine am_bipush (v := 12) d_Lexer_wordKind_3 (by decide) ?_
      refine am_icmp_ge (tgt := 29) d_Lexer_wordKind_5 (by decide) (fun _ => ?_) (fun c => absurd (by decide) c)
      refine am_iconst (v := 2) d_Lexer_wordKind_29 (by decide) ?_
      exact am_iret rfl d_Lexer_wordKind_30 ⟨rfl, rfl⟩
    | succ m ih =>
      intro i e
      refine am_iload_n d_Lexer_wordKind_2 rfl rfl ?_
      refine am_bipush (v := 12) d_Lexer_wordKind_3 (by decide) ?_
      refine am_icmp_ge (tgt := 29) d_Lexer_wordKind_5 (by decide) (fun c => absurd c (nI_ge (a := i) (b := 12) (by omega) (by decide))) (fun _ => ?_)
      refine am_aload_n d_Lexer_wordKind_8 rfl rfl ?_
      refine am_get O f_Lexer_11 d_Lexer_wordKind_9 V h1 h2 vw ?_
      refine am_iload_n d_Lexer_wordKind_12 rfl rfl ?_
      refine am_lald (v := .long (ws i)) O (by decide) d_Lexer_wordKind_13 U u1 u2 (vp_in_nI (by omega) (by decide)) (by rw [nI_clamp (by omega)]) ?_
      refine am_lload_n d_Lexer_wordKind_14 rfl rfl ?_
      refine am_lcmp d_Lexer_wordKind_15 ?_
      refine am_if_ne (tgt := 23) d_Lexer_wordKind_16 (by decide) (fun c => ?_) (fun c => ?_)
      · refine am_iinc (v := 1) d_Lexer_wordKind_23 rfl (by decide) (Nat.le_of_ble_eq_true rfl) ?_
        refine am_goto (tgt := 2) d_Lexer_wordKind_26 (by decide) ?_
        refine am_locs (lv' := [(0, .ref r), (1, .long y), (3, .int (nI (i + 1)))]) (by rw [nI_succ]; rfl) ?_
        rw [s_wk, if_neg c]
        exact ih (i + 1) (by omega)
      · refine am_iconst (v := 5) d_Lexer_wordKind_19 (by decide) ?_
        refine am_iload_n d_Lexer_wordKind_20 rfl rfl ?_
        refine am_iadd d_Lexer_wordKind_21 ?_
        exact am_iret rfl d_Lexer_wordKind_22 ⟨by rw [s_wk, if_pos c], rfl⟩
  exact am_locs (lv' := [(0, .ref r), (1, .long y), (3, .int (nI 0))]) rfl (key 12 0 rfl)

def s_Out_byteAt (g : Nat → Int32) (k : Nat) (x : Int32) : Int32 := if x < 0 then -2 else if nI k ≤ x then -2 else g x.toNatClampNeg

set_option maxRecDepth 100000 in
set_option maxHeartbeats 1000000 in
theorem g_Out_byteAt (O : am_ok K X) {n r k : Nat} {sp : Int32} {g : Nat → Int32} {f : Nat → am_C} (V : oR f r k sp g) (h1 : 128 ≤ r) (h2 : r + 1 < n) {x : Int32} : am_Mt K X m_Out_byteAt 0 0 0 [.ref r, .int x] (n, f) (fun v h' => v = some (.int (s_Out_byteAt g k x)) ∧ h' = (n, f)) := by
  refine am_enter (by decide +kernel) (Nat.le_of_ble_eq_true rfl) ?_
  refine am_iload_n d_Out_byteAt_0 rfl rfl ?_
  refine am_if_lt (tgt := 21) d_Out_byteAt_1 (by decide) (fun c => ?_) (fun c => ?_)
  · refine am_bipush (v := (-2)) d_Out_byteAt_21 (by decide) ?_
    exact am_iret rfl d_Out_byteAt_23 ⟨by rw [s_Out_byteAt, if_pos c], rfl⟩
  · refine am_iload_n d_Out_byteAt_4 rfl rfl ?_
    refine am_aload_n d_Out_byteAt_5 rfl rfl ?_
    refine am_get O f_Out_15 d_Out_byteAt_6 (by (repeat (first | rw [va_up_self] | rw [va_up_ne _ _ (by omega)])); first | done | rfl | exact V.1 | exact V.2.1) (by omega) (by omega) rfl ?_
    refine am_icmp_ge (tgt := 21) d_Out_byteAt_9 (by decide) (fun e => ?_) (fun e => ?_)
    · refine am_bipush (v := (-2)) d_Out_byteAt_21 (by decide) ?_
      exact am_iret rfl d_Out_byteAt_23 ⟨by rw [s_Out_byteAt, if_neg c, if_pos e], rfl⟩
    · have hk := V.2.2
      refine am_aload_n d_Out_byteAt_12 rfl rfl ?_
      refine am_get O f_Out_11 d_Out_byteAt_13 (by (repeat (first | rw [va_up_self] | rw [va_up_ne _ _ (by omega)])); first | done | rfl | exact V.1 | exact V.2.1) (by omega) (by omega) rfl ?_
      refine am_iload_n d_Out_byteAt_16 rfl rfl ?_
      refine am_bald O (by decide) d_Out_byteAt_17 V.2.1 (by omega) (by omega) (am_in c (Nat.lt_of_lt_of_le (lt_clamp c e (by omega)) V.2.2)) rfl ?_
      refine am_goto (tgt := 23) d_Out_byteAt_18 (by decide) ?_
      exact am_iret rfl d_Out_byteAt_23 ⟨by rw [s_Out_byteAt, if_neg c, if_neg e], rfl⟩

end
