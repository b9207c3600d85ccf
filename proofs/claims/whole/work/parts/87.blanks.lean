/-- the class's Lexer at r, its words at w, its text at a -/
def lR (f : Nat → am_C) (r w a L p : Nat) (tk kd pl nu : Int32) (hd tl : Int64) : Prop :=
  f r = .inr (1, [.ref w, .ref a, .int (nI L), .int (nI p), .int tk, .int kd, .int pl, .int nu, .long hd, .long tl])
def s_sk (g : Nat → Int32) (L : Nat) : Nat → Nat → Nat
  | 0, p => p
  | m + 1, p => if s_byteAt g L (nI p) = 32 then s_sk g L m (p + 1) else if s_byteAt g L (nI p) = 10 then s_sk g L m (p + 1) else p
section
variable {K : am_K} {X : Nat → am_C}
set_option maxRecDepth 100000 in
set_option maxHeartbeats 1000000 in
theorem g_Lexer_skipBlanks (O : am_ok K X) {n r w a L N p : Nat} {g : Nat → Int32} {tk kd pl nu : Int32} {hd tl : Int64} {f : Nat → am_C} (V : lR f r w a L p tk kd pl nu hd tl) (U : f a = .inl (.byte, N, fun j => .int (g j))) (hp : p ≤ L) (hL : L ≤ N) (hN : N < 2 ^ 31) (h1 : 128 ≤ r) (h2 : r < n) (u1 : 128 ≤ a) (u2 : a < n) (hne : a ≠ r) : am_Mt K X m_Lexer_skipBlanks 1 0 0 [.ref r] (n, f) (fun v h' => v = none ∧ ∃ f', h' = (n, f') ∧ lR f' r w a L (s_sk g L (L - p) p) tk kd pl nu hd tl ∧ ∀ x, x ≠ r → f' x = f x) := by
  refine am_enter (by decide +kernel) (Nat.le_of_ble_eq_true rfl) ?_
  have key : ∀ (m p : Nat) (f : Nat → am_C), p + m = L → lR f r w a L p tk kd pl nu hd tl → f a = .inl (.byte, N, fun j => .int (g j)) → am_W K X m_Lexer_skipBlanks 1 0 0 0 0 0 [(0, .ref r)] [] (n, f) (fun v h' => v = none ∧ ∃ f', h' = (n, f') ∧ lR f' r w a L (s_sk g L m p) tk kd pl nu hd tl ∧ ∀ x, x ≠ r → f' x = f x) := by
    intro m
    induction m with
    | zero =>
      intro p f e V U
      obtain rfl : p = L := e
      refine am_aload_n d_Lexer_skipBlanks_0 rfl rfl ?_
      refine am_get O f_Lexer_46 d_Lexer_skipBlanks_1 V h1 h2 rfl ?_
      refine am_aload_n d_Lexer_skipBlanks_4 rfl rfl ?_
      refine am_get O f_Lexer_43 d_Lexer_skipBlanks_5 V h1 h2 rfl ?_
      refine am_icmp_ge (tgt := 46) d_Lexer_skipBlanks_8 (by decide) (fun _ => ?_) (fun c => absurd (Int32.le_refl _) c)
      exact am_vret rfl d_Lexer_skipBlanks_46 ⟨rfl, f, rfl, V, fun _ _ => rfl⟩
    | succ m ih =>
      intro p f e V U
      refine am_aload_n d_Lexer_skipBlanks_0 rfl rfl ?_
      refine am_get O f_Lexer_46 d_Lexer_skipBlanks_1 V h1 h2 rfl ?_
      refine am_aload_n d_Lexer_skipBlanks_4 rfl rfl ?_
      refine am_get O f_Lexer_43 d_Lexer_skipBlanks_5 V h1 h2 rfl ?_
      refine am_icmp_ge (tgt := 46) d_Lexer_skipBlanks_8 (by decide) (fun c => absurd c (nI_ge (a := p) (b := L) (by omega) (by omega))) (fun _ => ?_)
      refine am_aload_n d_Lexer_skipBlanks_11 rfl rfl ?_
      refine am_aload_n d_Lexer_skipBlanks_12 rfl rfl ?_
      refine am_get O f_Lexer_46 d_Lexer_skipBlanks_13 V h1 h2 rfl ?_
      refine am_callV O (g_Lexer_byteAt O V rfl rfl U hL hN h1 h2 u1 u2) rfl V (by omega) (by omega) rfl rfl l_Lexer_61 ⟨w_563, w_2⟩ rfl (Nat.le_of_ble_eq_true rfl) d_Lexer_skipBlanks_16 (by omega) (by omega) (by omega) (fun v h' hp => ?_)
      obtain ⟨rfl, rfl⟩ := hp
      refine am_istore_n d_Lexer_skipBlanks_19 rfl (Nat.le_of_ble_eq_true rfl) ?_
      refine am_iload_n d_Lexer_skipBlanks_20 rfl rfl ?_
      refine am_bipush (v := 32) d_Lexer_skipBlanks_21 (by decide) ?_
      refine am_icmp_eq (tgt := 33) d_Lexer_skipBlanks_23 (by decide) (fun c => ?_) (fun c => ?_)
      · refine am_aload_n d_Lexer_skipBlanks_33 rfl rfl ?_
        refine am_dup d_Lexer_skipBlanks_34 rfl ?_
        refine am_get O f_Lexer_46 d_Lexer_skipBlanks_35 V h1 h2 rfl ?_
        refine am_iconst (v := 1) d_Lexer_skipBlanks_38 (by decide) ?_
        refine am_iadd d_Lexer_skipBlanks_39 ?_
        refine am_put O f_Lexer_46 d_Lexer_skipBlanks_40 V h1 h2 (Nat.le_of_ble_eq_true rfl) (fun q hq => by cases hq; exact ⟨rfl, rfl, rfl⟩) ?_
        refine am_goto (tgt := 0) d_Lexer_skipBlanks_43 (by decide) ?_
        refine am_locs (lv' := [(0, .ref r)]) rfl ?_
        rw [s_sk, if_pos c]
        refine am_post (fun v h' hp => ?_) (ih (p + 1) _ (by omega) (by unfold lR; rw [va_up_self, nI_succ]; rfl) ((va_up_ne _ _ hne).trans U))
        obtain ⟨a1, f', a2, a3, a4⟩ := hp
        exact ⟨a1, f', a2, a3, fun x hx => (a4 x hx).trans (va_up_ne _ _ hx)⟩
      · refine am_iload_n d_Lexer_skipBlanks_26 rfl rfl ?_
        refine am_bipush (v := 10) d_Lexer_skipBlanks_27 (by decide) ?_
        refine am_icmp_eq (tgt := 33) d_Lexer_skipBlanks_29 (by decide) (fun e => ?_) (fun e => ?_)
        · refine am_aload_n d_Lexer_skipBlanks_33 rfl rfl ?_
          refine am_dup d_Lexer_skipBlanks_34 rfl ?_
          refine am_get O f_Lexer_46 d_Lexer_skipBlanks_35 V h1 h2 rfl ?_
          refine am_iconst (v := 1) d_Lexer_skipBlanks_38 (by decide) ?_
          refine am_iadd d_Lexer_skipBlanks_39 ?_
          refine am_put O f_Lexer_46 d_Lexer_skipBlanks_40 V h1 h2 (Nat.le_of_ble_eq_true rfl) (fun q hq => by cases hq; exact ⟨rfl, rfl, rfl⟩) ?_
          refine am_goto (tgt := 0) d_Lexer_skipBlanks_43 (by decide) ?_
          refine am_locs (lv' := [(0, .ref r)]) rfl ?_
          rw [s_sk, if_neg c, if_pos e]
          refine am_post (fun v h' hp => ?_) (ih (p + 1) _ (by omega) (by unfold lR; rw [va_up_self, nI_succ]; rfl) ((va_up_ne _ _ hne).trans U))
          obtain ⟨a1, f', a2, a3, a4⟩ := hp
          exact ⟨a1, f', a2, a3, fun x hx => (a4 x hx).trans (va_up_ne _ _ hx)⟩
        · exact am_vret rfl d_Lexer_skipBlanks_32 ⟨rfl, f, rfl, by rw [s_sk, if_neg c, if_neg e]; exact V, fun _ _ => rfl⟩
  exact key (L - p) p f (by omega) V U
end
