def s_sn (g : Nat → Int32) (L : Nat) : Nat → Nat → Nat → Int64 → Nat × Nat × Int64
  | 0, p, sz, hd => (p, sz, hd)
  | m + 1, p, sz, hd => if s_Lexer_isLetter (s_byteAt g L (nI p)) = 0 ∧ s_Lexer_isDigit (s_byteAt g L (nI p)) = 0 then (p, sz, hd) else s_sn g L m (p + 1) (sz + 1) (if 8 ≤ nI sz then hd else hd ||| s_Cell_placed (s_byteAt g L (nI p)) (nI sz))
def s_nk (ws : Nat → Int64) (sz : Nat) (hd : Int64) : Int32 := if nI sz ≤ 8 then s_wk ws hd 12 0 else 1
section
variable {K : am_K} {X : Nat → am_C}
set_option maxRecDepth 100000 in
set_option maxHeartbeats 2000000 in
theorem g_Lexer_scanName (O : am_ok K X) {n r w a L N p : Nat} {g : Nat → Int32} {ws : Nat → Int64} {tk kd pl nu : Int32} {hd tl : Int64} {f : Nat → am_C} (V : lR f r w a L p tk kd pl nu hd tl) (U : f a = .inl (.byte, N, fun j => .int (g j))) (UW : f w = .inl (.long, 12, fun j => .long (ws j))) (hp : p ≤ L) (hL : L ≤ N) (hN : N < 2 ^ 31) (h1 : 128 ≤ r) (h2 : r < n) (u1 : 128 ≤ a) (u2 : a < n) (w1 : 128 ≤ w) (w2 : w < n) (hne : a ≠ r) (hnw : w ≠ r) : am_Mt K X m_Lexer_scanName 1 0 0 [.ref r] (n, f) (fun v h' => v = none ∧ ∃ f', h' = (n, f') ∧ lR f' r w a L (s_sn g L (L - p) p 0 0).1 tk (s_nk ws (s_sn g L (L - p) p 0 0).2.1 (s_sn g L (L - p) p 0 0).2.2) pl nu (s_sn g L (L - p) p 0 0).2.2 tl ∧ ∀ x, x ≠ r → f' x = f x) := by
  refine am_enter (by decide +kernel) (Nat.le_of_ble_eq_true rfl) ?_
  refine am_iconst (v := 0) d_Lexer_scanName_0 (by decide) ?_
  refine am_istore_n d_Lexer_scanName_1 rfl (Nat.le_of_ble_eq_true rfl) ?_
  refine am_aload_n d_Lexer_scanName_2 rfl rfl ?_
  refine am_lconst (v := 0) d_Lexer_scanName_3 (by decide) ?_
  refine am_put O f_Lexer_91 d_Lexer_scanName_4 V h1 h2 (Nat.le_of_ble_eq_true rfl) (fun q hq => by cases hq; exact ⟨rfl, rfl, rfl⟩) ?_
  have fin : ∀ (p sz : Nat) (hd : Int64) (f : Nat → am_C), lR f r w a L p tk kd pl nu hd tl → f w = .inl (.long, 12, fun j => .long (ws j)) → ∀ lv, am_lk lv 0 = some (.ref r) → am_lk lv 1 = some (.int (nI sz)) → am_W K X m_Lexer_scanName 1 0 0 0 0 80 lv [] (n, f) (fun v h' => v = none ∧ ∃ f', h' = (n, f') ∧ lR f' r w a L p tk (s_nk ws sz hd) pl nu hd tl ∧ ∀ x, x ≠ r → f' x = f x) := by
    intro p sz hd f V UW lv v0 v1
    refine am_locs (lv' := [(0, .ref r), (1, .int (nI sz))]) (by simp [v0, v1]) ?_
    refine am_aload_n d_Lexer_scanName_80 rfl rfl ?_
    refine am_iload_n d_Lexer_scanName_81 rfl rfl ?_
    refine am_bipush (v := 8) d_Lexer_scanName_82 (by decide) ?_
    refine am_icmp_le (tgt := 91) d_Lexer_scanName_84 (by decide) (fun c => ?_) (fun c => ?_)
    · refine am_aload_n d_Lexer_scanName_91 rfl rfl ?_
      refine am_aload_n d_Lexer_scanName_92 rfl rfl ?_
      refine am_get O f_Lexer_91 d_Lexer_scanName_93 V h1 h2 rfl ?_
      refine am_callV O (g_Lexer_wordKind O V rfl UW h1 h2 w1 w2) rfl V (by omega) (by omega) rfl rfl l_Lexer_98 ⟨w_577, w_4⟩ rfl (Nat.le_of_ble_eq_true rfl) d_Lexer_scanName_96 (by omega) (by omega) (by omega) (fun v h' hp => ?_)
      obtain ⟨rfl, rfl⟩ := hp
      refine am_put O f_Lexer_65 d_Lexer_scanName_99 V h1 h2 (Nat.le_of_ble_eq_true rfl) (fun q hq => by cases hq; exact ⟨rfl, rfl, rfl⟩) ?_
      exact am_vret rfl d_Lexer_scanName_102 ⟨rfl, _, rfl, by rw [s_nk, if_pos c]; unfold lR; rw [va_up_self]; rfl, fun x hx => va_up_ne _ _ hx⟩
    · refine am_iconst (v := 1) d_Lexer_scanName_87 (by decide) ?_
      refine am_goto (tgt := 99) d_Lexer_scanName_88 (by decide) ?_
      refine am_put O f_Lexer_65 d_Lexer_scanName_99 V h1 h2 (Nat.le_of_ble_eq_true rfl) (fun q hq => by cases hq; exact ⟨rfl, rfl, rfl⟩) ?_
      exact am_vret rfl d_Lexer_scanName_102 ⟨rfl, _, rfl, by rw [s_nk, if_neg c]; unfold lR; rw [va_up_self]; rfl, fun x hx => va_up_ne _ _ hx⟩
  have key : ∀ (m p sz : Nat) (hd : Int64) (f : Nat → am_C), p + m = L → lR f r w a L p tk kd pl nu hd tl → f a = .inl (.byte, N, fun j => .int (g j)) → f w = .inl (.long, 12, fun j => .long (ws j)) → am_W K X m_Lexer_scanName 1 0 0 0 0 7 [(0, .ref r), (1, .int (nI sz))] [] (n, f) (fun v h' => v = none ∧ ∃ f', h' = (n, f') ∧ lR f' r w a L (s_sn g L m p sz hd).1 tk (s_nk ws (s_sn g L m p sz hd).2.1 (s_sn g L m p sz hd).2.2) pl nu (s_sn g L m p sz hd).2.2 tl ∧ ∀ x, x ≠ r → f' x = f x) := by
    intro m
    induction m with
    | zero =>
      intro p sz hd f e V U UW
      obtain rfl : p = L := e
      refine am_aload_n d_Lexer_scanName_7 rfl rfl ?_
      refine am_get O f_Lexer_46 d_Lexer_scanName_8 V h1 h2 rfl ?_
      refine am_aload_n d_Lexer_scanName_11 rfl rfl ?_
      refine am_get O f_Lexer_43 d_Lexer_scanName_12 V h1 h2 rfl ?_
      refine am_icmp_ge (tgt := 80) d_Lexer_scanName_15 (by decide) (fun _ => ?_) (fun c => absurd (Int32.le_refl _) c)
      exact fin _ _ _ _ V UW _ rfl rfl
    | succ m ih =>
      intro p sz hd f e V U UW
      refine am_aload_n d_Lexer_scanName_7 rfl rfl ?_
      refine am_get O f_Lexer_46 d_Lexer_scanName_8 V h1 h2 rfl ?_
      refine am_aload_n d_Lexer_scanName_11 rfl rfl ?_
      refine am_get O f_Lexer_43 d_Lexer_scanName_12 V h1 h2 rfl ?_
      refine am_icmp_ge (tgt := 80) d_Lexer_scanName_15 (by decide) (fun c => absurd c (nI_ge (a := p) (b := L) (by omega) (by omega))) (fun _ => ?_)
      refine am_aload_n d_Lexer_scanName_18 rfl rfl ?_
      refine am_aload_n d_Lexer_scanName_19 rfl rfl ?_
      refine am_get O f_Lexer_46 d_Lexer_scanName_20 V h1 h2 rfl ?_
      refine am_callV O (g_Lexer_byteAt O V rfl rfl U hL hN h1 h2 u1 u2) rfl V (by omega) (by omega) rfl rfl l_Lexer_61 ⟨w_563, w_2⟩ rfl (Nat.le_of_ble_eq_true rfl) d_Lexer_scanName_23 (by omega) (by omega) (by omega) (fun v h' hp => ?_)
      obtain ⟨rfl, rfl⟩ := hp
      refine am_istore_n d_Lexer_scanName_26 rfl (Nat.le_of_ble_eq_true rfl) ?_
      have stp : (¬ (s_Lexer_isLetter (s_byteAt g L (nI p)) = 0 ∧ s_Lexer_isDigit (s_byteAt g L (nI p)) = 0)) → am_W K X m_Lexer_scanName 1 0 0 0 0 44 [(0, .ref r), (1, .int (nI sz)), (2, .int (s_byteAt g L (nI p)))] [] (n, f) (fun v h' => v = none ∧ ∃ f', h' = (n, f') ∧ lR f' r w a L (s_sn g L (m + 1) p sz hd).1 tk (s_nk ws (s_sn g L (m + 1) p sz hd).2.1 (s_sn g L (m + 1) p sz hd).2.2) pl nu (s_sn g L (m + 1) p sz hd).2.2 tl ∧ ∀ x, x ≠ r → f' x = f x) := by
        intro cc
        rw [s_sn, if_neg cc]
        refine am_iload_n d_Lexer_scanName_44 rfl rfl ?_
        refine am_bipush (v := 8) d_Lexer_scanName_45 (by decide) ?_
        refine am_icmp_ge (tgt := 64) d_Lexer_scanName_47 (by decide) (fun c => ?_) (fun c => ?_)
        · rw [if_pos c]
          refine am_iinc (v := 1) d_Lexer_scanName_64 rfl (by decide) (Nat.le_of_ble_eq_true rfl) ?_
          refine am_aload_n d_Lexer_scanName_67 rfl rfl ?_
          refine am_dup d_Lexer_scanName_68 rfl ?_
          refine am_get O f_Lexer_46 d_Lexer_scanName_69 V h1 h2 rfl ?_
          refine am_iconst (v := 1) d_Lexer_scanName_72 (by decide) ?_
          refine am_iadd d_Lexer_scanName_73 ?_
          refine am_put O f_Lexer_46 d_Lexer_scanName_74 V h1 h2 (Nat.le_of_ble_eq_true rfl) (fun q hq => by cases hq; exact ⟨rfl, rfl, rfl⟩) ?_
          refine am_goto (tgt := 7) d_Lexer_scanName_77 (by decide) ?_
          refine am_locs (lv' := [(0, .ref r), (1, .int (nI (sz + 1)))]) (by rw [nI_succ]; rfl) ?_
          refine am_post (fun v h' hp => ?_) (ih (p + 1) (sz + 1) hd _ (by omega) (by unfold lR; rw [va_up_self, nI_succ]; rfl) ((va_up_ne _ _ hne).trans U) ((va_up_ne _ _ hnw).trans UW))
          obtain ⟨a1, f', a2, a3, a4⟩ := hp
          exact ⟨a1, f', a2, a3, fun x hx => (a4 x hx).trans (va_up_ne _ _ hx)⟩
        · rw [if_neg c]
          refine am_aload_n d_Lexer_scanName_50 rfl rfl ?_
          refine am_dup d_Lexer_scanName_51 rfl ?_
          refine am_get O f_Lexer_91 d_Lexer_scanName_52 V h1 h2 rfl ?_
          refine am_iload_n d_Lexer_scanName_55 rfl rfl ?_
          refine am_iload_n d_Lexer_scanName_56 rfl rfl ?_
          refine am_callS O g_Cell_placed rfl l_Lexer_31 w_258 rfl (Nat.le_of_ble_eq_true rfl) d_Lexer_scanName_57 (by omega) (by omega) (by omega) (fun v h' hp => ?_)
          obtain ⟨rfl, rfl⟩ := hp
          refine am_lor d_Lexer_scanName_60 ?_
          refine am_put O f_Lexer_91 d_Lexer_scanName_61 V h1 h2 (Nat.le_of_ble_eq_true rfl) (fun q hq => by cases hq; exact ⟨rfl, rfl, rfl⟩) ?_
          refine am_iinc (v := 1) d_Lexer_scanName_64 rfl (by decide) (Nat.le_of_ble_eq_true rfl) ?_
          refine am_aload_n d_Lexer_scanName_67 rfl rfl ?_
          refine am_dup d_Lexer_scanName_68 rfl ?_
          refine am_get O f_Lexer_46 d_Lexer_scanName_69 (va_up_self _ _ _) h1 h2 rfl ?_
          refine am_iconst (v := 1) d_Lexer_scanName_72 (by decide) ?_
          refine am_iadd d_Lexer_scanName_73 ?_
          refine am_put O f_Lexer_46 d_Lexer_scanName_74 (va_up_self _ _ _) h1 h2 (Nat.le_of_ble_eq_true rfl) (fun q hq => by cases hq; exact ⟨rfl, rfl, rfl⟩) ?_
          refine am_goto (tgt := 7) d_Lexer_scanName_77 (by decide) ?_
          refine am_locs (lv' := [(0, .ref r), (1, .int (nI (sz + 1)))]) (by rw [nI_succ]; rfl) ?_
          refine am_post (fun v h' hp => ?_) (ih (p + 1) (sz + 1) _ _ (by omega) (by unfold lR; rw [va_up_self, nI_succ]; rfl) ((va_up_ne _ _ hne).trans ((va_up_ne _ _ hne).trans U)) ((va_up_ne _ _ hnw).trans ((va_up_ne _ _ hnw).trans UW)))
          obtain ⟨a1, f', a2, a3, a4⟩ := hp
          exact ⟨a1, f', a2, a3, fun x hx => (a4 x hx).trans ((va_up_ne _ _ hx).trans (va_up_ne _ _ hx))⟩
      refine am_iload_n d_Lexer_scanName_27 rfl rfl ?_
      refine am_callS O g_Lexer_isLetter rfl l_Lexer_68 w_566 rfl (Nat.le_of_ble_eq_true rfl) d_Lexer_scanName_28 (by omega) (by omega) (by omega) (fun v h' hp => ?_)
      obtain ⟨rfl, rfl⟩ := hp
      refine am_if_ne (tgt := 44) d_Lexer_scanName_31 (by decide) (fun c => ?_) (fun c => ?_)
      · exact am_locs (lv' := [(0, .ref r), (1, .int (nI sz)), (2, .int (s_byteAt g L (nI p)))]) rfl (stp (fun q => c q.1))
      · refine am_iload_n d_Lexer_scanName_34 rfl rfl ?_
        refine am_callS O g_Lexer_isDigit rfl l_Lexer_75 w_573 rfl (Nat.le_of_ble_eq_true rfl) d_Lexer_scanName_35 (by omega) (by omega) (by omega) (fun v h' hp => ?_)
        obtain ⟨rfl, rfl⟩ := hp
        refine am_if_ne (tgt := 44) d_Lexer_scanName_38 (by decide) (fun e2 => ?_) (fun e2 => ?_)
        · exact am_locs (lv' := [(0, .ref r), (1, .int (nI sz)), (2, .int (s_byteAt g L (nI p)))]) rfl (stp (fun q => e2 q.2))
        · refine am_goto (tgt := 80) d_Lexer_scanName_41 (by decide) ?_
          rw [s_sn, if_pos ⟨c, e2⟩]
          exact fin _ _ _ _ V UW _ rfl rfl
  refine am_locs (lv' := [(0, .ref r), (1, .int (nI 0))]) rfl ?_
  refine am_post (fun v h' hp => ?_) (key (L - p) p 0 0 _ (by omega) (by unfold lR; rw [va_up_self]; rfl) ((va_up_ne _ _ hne).trans U) ((va_up_ne _ _ hnw).trans UW))
  obtain ⟨a1, f', a2, a3, a4⟩ := hp
  exact ⟨a1, f', a2, a3, fun x hx => (a4 x hx).trans (va_up_ne _ _ hx)⟩
end
