def s_fd (g : Nat → Int64) (y : Int64) : Nat → Nat → Int32
  | 0, _ => -1
  | m + 1, i => if lg_cmp (g i) y = 0 then nI i else s_fd g y m (i + 1)
/-- where y stands among the first k of g, or -1 -/
def s_find (g : Nat → Int64) (k : Nat) (y : Int64) : Int32 := s_fd g y k 0
section
variable {K : am_K} {X : Nat → am_C}

set_option maxRecDepth 100000 in
theorem g_State_findRoot (O : am_ok K X) {n r a k N : Nat} {fs : List Value} {g : Nat → Int64} {f : Nat → am_C} (V : f r = .inr (13, fs)) (vk : fs[9]? = some (.int (nI k))) (va : fs[3]? = some (.ref a)) (U : f a = .inl (.long, N, fun j => .long (g j))) (hk : k ≤ N) (hN : N < 2 ^ 31) (h1 : 128 ≤ r) (h2 : r < n) (u1 : 128 ≤ a) (u2 : a < n) {y : Int64} : am_Mt K X m_State_findRoot 0 0 0 [.ref r, .long y] (n, f) (fun v h' => v = some (.int (s_find g k y)) ∧ h' = (n, f)) := by
  refine am_enter (by decide +kernel) (Nat.le_of_ble_eq_true rfl) ?_
  refine am_iconst (v := 0) d_State_findRoot_0 (by decide) ?_
  refine am_istore_n d_State_findRoot_1 rfl (Nat.le_of_ble_eq_true rfl) ?_
  have key : ∀ m i : Nat, i + m = k → am_W K X m_State_findRoot 0 0 0 0 0 2 [(0, .ref r), (1, .long y), (3, .int (nI i))] [] (n, f) (fun v h' => v = some (.int (s_fd g y m i)) ∧ h' = (n, f)) := by
    intro m
    induction m with
    | zero =>
      intro i e
      obtain rfl : i = k := e
      refine am_iload_n d_State_findRoot_2 rfl rfl ?_
      refine am_aload_n d_State_findRoot_3 rfl rfl ?_
      refine am_get O f_State_60 d_State_findRoot_4 V h1 h2 vk ?_
      refine am_icmp_ge (tgt := 29) d_State_findRoot_7 (by decide) (fun _ => ?_) (fun c => absurd (Int32.le_refl _) c)
      refine am_iconst (v := -1) d_State_findRoot_29 (by decide) ?_
      exact am_iret rfl d_State_findRoot_30 ⟨rfl, rfl⟩
    | succ m ih =>
      intro i e
      refine am_iload_n d_State_findRoot_2 rfl rfl ?_
      refine am_aload_n d_State_findRoot_3 rfl rfl ?_
      refine am_get O f_State_60 d_State_findRoot_4 V h1 h2 vk ?_
      refine am_icmp_ge (tgt := 29) d_State_findRoot_7 (by decide) (fun c => absurd c (nI_ge (a := i) (b := k) (by omega) (by omega))) (fun _ => ?_)
      refine am_aload_n d_State_findRoot_10 rfl rfl ?_
      refine am_get O f_State_22 d_State_findRoot_11 V h1 h2 va ?_
      refine am_iload_n d_State_findRoot_14 rfl rfl ?_
      refine am_lald (v := .long (g i)) O (by decide) d_State_findRoot_15 U u1 u2 (vp_in_nI (by omega) hN) (by rw [nI_clamp (by omega)]) ?_
      refine am_lload_n d_State_findRoot_16 rfl rfl ?_
      refine am_lcmp d_State_findRoot_17 ?_
      refine am_if_ne (tgt := 23) d_State_findRoot_18 (by decide) (fun c => ?_) (fun c => ?_)
      · refine am_iinc (v := 1) d_State_findRoot_23 rfl (by decide) (Nat.le_of_ble_eq_true rfl) ?_
        refine am_goto (tgt := 2) d_State_findRoot_26 (by decide) ?_
        refine am_locs (lv' := [(0, .ref r), (1, .long y), (3, .int (nI (i + 1)))]) (by rw [nI_succ]; rfl) ?_
        rw [s_fd, if_neg c]
        exact ih (i + 1) (by omega)
      · refine am_iload_n d_State_findRoot_21 rfl rfl ?_
        exact am_iret rfl d_State_findRoot_22 ⟨by rw [s_fd, if_pos c], rfl⟩
  exact am_locs (lv' := [(0, .ref r), (1, .long y), (3, .int (nI 0))]) rfl (key k 0 (Nat.zero_add k))

set_option maxRecDepth 100000 in
theorem g_State_findFunction (O : am_ok K X) {n r a k N : Nat} {fs : List Value} {g : Nat → Int64} {f : Nat → am_C} (V : f r = .inr (13, fs)) (vk : fs[10]? = some (.int (nI k))) (va : fs[4]? = some (.ref a)) (U : f a = .inl (.long, N, fun j => .long (g j))) (hk : k ≤ N) (hN : N < 2 ^ 31) (h1 : 128 ≤ r) (h2 : r < n) (u1 : 128 ≤ a) (u2 : a < n) {y : Int64} : am_Mt K X m_State_findFunction 0 0 0 [.ref r, .long y] (n, f) (fun v h' => v = some (.int (s_find g k y)) ∧ h' = (n, f)) := by
  refine am_enter (by decide +kernel) (Nat.le_of_ble_eq_true rfl) ?_
  refine am_iconst (v := 0) d_State_findFunction_0 (by decide) ?_
  refine am_istore_n d_State_findFunction_1 rfl (Nat.le_of_ble_eq_true rfl) ?_
  have key : ∀ m i : Nat, i + m = k → am_W K X m_State_findFunction 0 0 0 0 0 2 [(0, .ref r), (1, .long y), (3, .int (nI i))] [] (n, f) (fun v h' => v = some (.int (s_fd g y m i)) ∧ h' = (n, f)) := by
    intro m
    induction m with
    | zero =>
      intro i e
      obtain rfl : i = k := e
      refine am_iload_n d_State_findFunction_2 rfl rfl ?_
      refine am_aload_n d_State_findFunction_3 rfl rfl ?_
      refine am_get O f_State_71 d_State_findFunction_4 V h1 h2 vk ?_
      refine am_icmp_ge (tgt := 29) d_State_findFunction_7 (by decide) (fun _ => ?_) (fun c => absurd (Int32.le_refl _) c)
      refine am_iconst (v := -1) d_State_findFunction_29 (by decide) ?_
      exact am_iret rfl d_State_findFunction_30 ⟨rfl, rfl⟩
    | succ m ih =>
      intro i e
      refine am_iload_n d_State_findFunction_2 rfl rfl ?_
      refine am_aload_n d_State_findFunction_3 rfl rfl ?_
      refine am_get O f_State_71 d_State_findFunction_4 V h1 h2 vk ?_
      refine am_icmp_ge (tgt := 29) d_State_findFunction_7 (by decide) (fun c => absurd c (nI_ge (a := i) (b := k) (by omega) (by omega))) (fun _ => ?_)
      refine am_aload_n d_State_findFunction_10 rfl rfl ?_
      refine am_get O f_State_25 d_State_findFunction_11 V h1 h2 va ?_
      refine am_iload_n d_State_findFunction_14 rfl rfl ?_
      refine am_lald (v := .long (g i)) O (by decide) d_State_findFunction_15 U u1 u2 (vp_in_nI (by omega) hN) (by rw [nI_clamp (by omega)]) ?_
      refine am_lload_n d_State_findFunction_16 rfl rfl ?_
      refine am_lcmp d_State_findFunction_17 ?_
      refine am_if_ne (tgt := 23) d_State_findFunction_18 (by decide) (fun c => ?_) (fun c => ?_)
      · refine am_iinc (v := 1) d_State_findFunction_23 rfl (by decide) (Nat.le_of_ble_eq_true rfl) ?_
        refine am_goto (tgt := 2) d_State_findFunction_26 (by decide) ?_
        refine am_locs (lv' := [(0, .ref r), (1, .long y), (3, .int (nI (i + 1)))]) (by rw [nI_succ]; rfl) ?_
        rw [s_fd, if_neg c]
        exact ih (i + 1) (by omega)
      · refine am_iload_n d_State_findFunction_21 rfl rfl ?_
        exact am_iret rfl d_State_findFunction_22 ⟨by rw [s_fd, if_pos c], rfl⟩
  exact am_locs (lv' := [(0, .ref r), (1, .long y), (3, .int (nI 0))]) rfl (key k 0 (Nat.zero_add k))

set_option maxRecDepth 100000 in
theorem g_Store_rootAt (O : am_ok K X) {n r a k N : Nat} {fs : List Value} {g : Nat → Int64} {f : Nat → am_C} (V : f r = .inr (10, fs)) (vk : fs[6]? = some (.int (nI k))) (va : fs[3]? = some (.ref a)) (U : f a = .inl (.long, N, fun j => .long (g j))) (hk : k ≤ N) (hN : N < 2 ^ 31) (h1 : 128 ≤ r) (h2 : r < n) (u1 : 128 ≤ a) (u2 : a < n) {y : Int64} : am_Mt K X m_Store_rootAt 0 0 0 [.ref r, .long y] (n, f) (fun v h' => v = some (.int (s_find g k y)) ∧ h' = (n, f)) := by
  refine am_enter (by decide +kernel) (Nat.le_of_ble_eq_true rfl) ?_
  refine am_iconst (v := 0) d_Store_rootAt_0 (by decide) ?_
  refine am_istore_n d_Store_rootAt_1 rfl (Nat.le_of_ble_eq_true rfl) ?_
  have key : ∀ m i : Nat, i + m = k → am_W K X m_Store_rootAt 0 0 0 0 0 2 [(0, .ref r), (1, .long y), (3, .int (nI i))] [] (n, f) (fun v h' => v = some (.int (s_fd g y m i)) ∧ h' = (n, f)) := by
    intro m
    induction m with
    | zero =>
      intro i e
      obtain rfl : i = k := e
      refine am_iload_n d_Store_rootAt_2 rfl rfl ?_
      refine am_aload_n d_Store_rootAt_3 rfl rfl ?_
      refine am_get O f_Store_47 d_Store_rootAt_4 V h1 h2 vk ?_
      refine am_icmp_ge (tgt := 29) d_Store_rootAt_7 (by decide) (fun _ => ?_) (fun c => absurd (Int32.le_refl _) c)
      refine am_iconst (v := -1) d_Store_rootAt_29 (by decide) ?_
      exact am_iret rfl d_Store_rootAt_30 ⟨rfl, rfl⟩
    | succ m ih =>
      intro i e
      refine am_iload_n d_Store_rootAt_2 rfl rfl ?_
      refine am_aload_n d_Store_rootAt_3 rfl rfl ?_
      refine am_get O f_Store_47 d_Store_rootAt_4 V h1 h2 vk ?_
      refine am_icmp_ge (tgt := 29) d_Store_rootAt_7 (by decide) (fun c => absurd c (nI_ge (a := i) (b := k) (by omega) (by omega))) (fun _ => ?_)
      refine am_aload_n d_Store_rootAt_10 rfl rfl ?_
      refine am_get O f_Store_20 d_Store_rootAt_11 V h1 h2 va ?_
      refine am_iload_n d_Store_rootAt_14 rfl rfl ?_
      refine am_lald (v := .long (g i)) O (by decide) d_Store_rootAt_15 U u1 u2 (vp_in_nI (by omega) hN) (by rw [nI_clamp (by omega)]) ?_
      refine am_lload_n d_Store_rootAt_16 rfl rfl ?_
      refine am_lcmp d_Store_rootAt_17 ?_
      refine am_if_ne (tgt := 23) d_Store_rootAt_18 (by decide) (fun c => ?_) (fun c => ?_)
      · refine am_iinc (v := 1) d_Store_rootAt_23 rfl (by decide) (Nat.le_of_ble_eq_true rfl) ?_
        refine am_goto (tgt := 2) d_Store_rootAt_26 (by decide) ?_
        refine am_locs (lv' := [(0, .ref r), (1, .long y), (3, .int (nI (i + 1)))]) (by rw [nI_succ]; rfl) ?_
        rw [s_fd, if_neg c]
        exact ih (i + 1) (by omega)
      · refine am_iload_n d_Store_rootAt_21 rfl rfl ?_
        exact am_iret rfl d_Store_rootAt_22 ⟨by rw [s_fd, if_pos c], rfl⟩
  exact am_locs (lv' := [(0, .ref r), (1, .long y), (3, .int (nI 0))]) rfl (key k 0 (Nat.zero_add k))

set_option maxRecDepth 100000 in
theorem g_Draft_localOf (O : am_ok K X) {n r a k N : Nat} {fs : List Value} {g : Nat → Int64} {f : Nat → am_C} (V : f r = .inr (2, fs)) (vk : fs[5]? = some (.int (nI k))) (va : fs[4]? = some (.ref a)) (U : f a = .inl (.long, N, fun j => .long (g j))) (hk : k ≤ N) (hN : N < 2 ^ 31) (h1 : 128 ≤ r) (h2 : r < n) (u1 : 128 ≤ a) (u2 : a < n) {y : Int64} : am_Mt K X m_Draft_localOf 0 0 0 [.ref r, .long y] (n, f) (fun v h' => v = some (.int (s_find g k y)) ∧ h' = (n, f)) := by
  refine am_enter (by decide +kernel) (Nat.le_of_ble_eq_true rfl) ?_
  refine am_iconst (v := 0) d_Draft_localOf_0 (by decide) ?_
  refine am_istore_n d_Draft_localOf_1 rfl (Nat.le_of_ble_eq_true rfl) ?_
  have key : ∀ m i : Nat, i + m = k → am_W K X m_Draft_localOf 0 0 0 0 0 2 [(0, .ref r), (1, .long y), (3, .int (nI i))] [] (n, f) (fun v h' => v = some (.int (s_fd g y m i)) ∧ h' = (n, f)) := by
    intro m
    induction m with
    | zero =>
      intro i e
      obtain rfl : i = k := e
      refine am_iload_n d_Draft_localOf_2 rfl rfl ?_
      refine am_aload_n d_Draft_localOf_3 rfl rfl ?_
      refine am_get O f_Draft_27 d_Draft_localOf_4 V h1 h2 vk ?_
      refine am_icmp_ge (tgt := 29) d_Draft_localOf_7 (by decide) (fun _ => ?_) (fun c => absurd (Int32.le_refl _) c)
      refine am_iconst (v := -1) d_Draft_localOf_29 (by decide) ?_
      exact am_iret rfl d_Draft_localOf_30 ⟨rfl, rfl⟩
    | succ m ih =>
      intro i e
      refine am_iload_n d_Draft_localOf_2 rfl rfl ?_
      refine am_aload_n d_Draft_localOf_3 rfl rfl ?_
      refine am_get O f_Draft_27 d_Draft_localOf_4 V h1 h2 vk ?_
      refine am_icmp_ge (tgt := 29) d_Draft_localOf_7 (by decide) (fun c => absurd c (nI_ge (a := i) (b := k) (by omega) (by omega))) (fun _ => ?_)
      refine am_aload_n d_Draft_localOf_10 rfl rfl ?_
      refine am_get O f_Draft_17 d_Draft_localOf_11 V h1 h2 va ?_
      refine am_iload_n d_Draft_localOf_14 rfl rfl ?_
      refine am_lald (v := .long (g i)) O (by decide) d_Draft_localOf_15 U u1 u2 (vp_in_nI (by omega) hN) (by rw [nI_clamp (by omega)]) ?_
      refine am_lload_n d_Draft_localOf_16 rfl rfl ?_
      refine am_lcmp d_Draft_localOf_17 ?_
      refine am_if_ne (tgt := 23) d_Draft_localOf_18 (by decide) (fun c => ?_) (fun c => ?_)
      · refine am_iinc (v := 1) d_Draft_localOf_23 rfl (by decide) (Nat.le_of_ble_eq_true rfl) ?_
        refine am_goto (tgt := 2) d_Draft_localOf_26 (by decide) ?_
        refine am_locs (lv' := [(0, .ref r), (1, .long y), (3, .int (nI (i + 1)))]) (by rw [nI_succ]; rfl) ?_
        rw [s_fd, if_neg c]
        exact ih (i + 1) (by omega)
      · refine am_iload_n d_Draft_localOf_21 rfl rfl ?_
        exact am_iret rfl d_Draft_localOf_22 ⟨by rw [s_fd, if_pos c], rfl⟩
  exact am_locs (lv' := [(0, .ref r), (1, .long y), (3, .int (nI 0))]) rfl (key k 0 (Nat.zero_add k))

end
