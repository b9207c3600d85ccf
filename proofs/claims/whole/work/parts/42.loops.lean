section
variable {K : am_K} {X : Nat → am_C}
set_option maxRecDepth 100000 in
set_option maxHeartbeats 4000000 in
theorem c_Arr_fill_aII (O : am_ok K X) {n q N : Nat} {f : Nat → am_C} {g : Nat → Value} {x : Int32} (h0 : f q = .inl (.int, N, g)) (h1 : 128 ≤ q) (h2 : q < n) (hN : N < 2 ^ 31) : am_Mt K X m_Arr_fill_aII 0 0 0 [.ref q, .int x] (n, f) (fun v h' => v = none ∧ h'.1 = n ∧ h'.2 q = (.inl (.int, N, fun j => if j < N then .int x else g j)) ∧ ∀ x, x ∉ ([q] : List Nat) → h'.2 x = f x) := by
  refine am_enter (by decide +kernel) (Nat.le_of_ble_eq_true rfl) ?_
  refine am_iconst (v := 0) d_Arr_fill_aII_0 (by decide) ?_
  refine am_istore_n d_Arr_fill_aII_1 rfl (by decide) ?_
  refine am_aload_n d_Arr_fill_aII_2 rfl rfl ?_
  refine am_alen (v := nI N) O d_Arr_fill_aII_3 h0 (by omega) (by omega) (by decide) rfl ?_
  refine am_istore_n d_Arr_fill_aII_4 rfl (by decide) ?_
  refine am_self (q := q) (.inl (.int, N, fun j => if j < 0 then .int x else g j)) (by rw [h0]; simp) ?_
  refine am_locs (lv' := [(0, .ref q), (1, .int x), (2, .int (nI 0)), (3, .int (nI N))]) rfl ?_
  refine am_for N (fun k => [(0, .ref q), (1, .int x), (2, .int (nI k)), (3, .int (nI N))]) (fun k => (n, va_up f q (.inl (.int, N, fun j => if j < k then .int x else g j)))) (fun k hk ih => ?_) ?_
  · refine am_iload_n d_Arr_fill_aII_5 rfl rfl ?_
    refine am_iload_n d_Arr_fill_aII_6 rfl rfl ?_
    refine am_icmp_ge (tgt := 20) d_Arr_fill_aII_7 (by decide) (fun c => absurd c (nI_ge hk hN)) (fun _ => ?_)
    refine am_aload_n d_Arr_fill_aII_10 rfl rfl ?_
    refine am_iload_n d_Arr_fill_aII_11 rfl rfl ?_
    refine am_iload_n d_Arr_fill_aII_12 rfl rfl ?_
    refine am_iast O (by decide) d_Arr_fill_aII_13 (va_up_self _ _ _) (by omega) (by omega) (vp_in_nI hk hN) ?_
    refine am_iinc (v := 1) d_Arr_fill_aII_14 rfl (by decide) (by decide) ?_
    refine am_goto (tgt := 5) d_Arr_fill_aII_17 (by decide) ?_
    rw [bx_uu, nI_clamp (by omega)]
    refine am_locs (lv' := [(0, .ref q), (1, .int x), (2, .int (nI (k + 1))), (3, .int (nI N))]) (by rw [← nI_1]; rfl) ?_
    have e : (updV (fun j => if j < k then .int x else g j) k (.int x)) = fun j => if j < k + 1 then .int x else g j := by
      funext j
      unfold updV
      by_cases h1 : j = k
      · rw [if_pos h1, if_pos (by omega)]
      · rw [if_neg h1]
        dsimp only
        by_cases h2 : j < k
        · rw [if_pos h2, if_pos (by omega)]
        · rw [if_neg h2, if_neg (by omega)]
    rw [e]
    exact ih
  · refine am_iload_n d_Arr_fill_aII_5 rfl rfl ?_
    refine am_iload_n d_Arr_fill_aII_6 rfl rfl ?_
    refine am_icmp_ge (tgt := 20) d_Arr_fill_aII_7 (by decide) (fun _ => ?_) (fun c => absurd (nI_le (Nat.le_refl N) hN) c)
    exact am_vret rfl d_Arr_fill_aII_20 ⟨rfl, rfl, va_up_self _ _ _, fun x hx => va_up_ne _ _ (by simpa using hx)⟩

set_option maxRecDepth 100000 in
set_option maxHeartbeats 4000000 in
theorem c_Arr_fill_aZZ (O : am_ok K X) {n q N : Nat} {f : Nat → am_C} {g : Nat → Value}  (h0 : f q = .inl (.boolean, N, g)) (h1 : 128 ≤ q) (h2 : q < n) (hN : N < 2 ^ 31) : am_Mt K X m_Arr_fill_aZZ 0 0 0 [.ref q, .int 0] (n, f) (fun v h' => v = none ∧ h'.1 = n ∧ h'.2 q = (.inl (.boolean, N, fun j => if j < N then .int 0 else g j)) ∧ ∀ x, x ∉ ([q] : List Nat) → h'.2 x = f x) := by
  refine am_enter (by decide +kernel) (Nat.le_of_ble_eq_true rfl) ?_
  refine am_iconst (v := 0) d_Arr_fill_aZZ_0 (by decide) ?_
  refine am_istore_n d_Arr_fill_aZZ_1 rfl (by decide) ?_
  refine am_aload_n d_Arr_fill_aZZ_2 rfl rfl ?_
  refine am_alen (v := nI N) O d_Arr_fill_aZZ_3 h0 (by omega) (by omega) (by decide) rfl ?_
  refine am_istore_n d_Arr_fill_aZZ_4 rfl (by decide) ?_
  refine am_self (q := q) (.inl (.boolean, N, fun j => if j < 0 then .int 0 else g j)) (by rw [h0]; simp) ?_
  refine am_locs (lv' := [(0, .ref q), (1, .int 0), (2, .int (nI 0)), (3, .int (nI N))]) rfl ?_
  refine am_for N (fun k => [(0, .ref q), (1, .int 0), (2, .int (nI k)), (3, .int (nI N))]) (fun k => (n, va_up f q (.inl (.boolean, N, fun j => if j < k then .int 0 else g j)))) (fun k hk ih => ?_) ?_
  · refine am_iload_n d_Arr_fill_aZZ_5 rfl rfl ?_
    refine am_iload_n d_Arr_fill_aZZ_6 rfl rfl ?_
    refine am_icmp_ge (tgt := 20) d_Arr_fill_aZZ_7 (by decide) (fun c => absurd c (nI_ge hk hN)) (fun _ => ?_)
    refine am_aload_n d_Arr_fill_aZZ_10 rfl rfl ?_
    refine am_iload_n d_Arr_fill_aZZ_11 rfl rfl ?_
    refine am_iload_n d_Arr_fill_aZZ_12 rfl rfl ?_
    refine am_zast O (by decide) d_Arr_fill_aZZ_13 (va_up_self _ _ _) (by omega) (by omega) (vp_in_nI hk hN) ?_
    refine am_iinc (v := 1) d_Arr_fill_aZZ_14 rfl (by decide) (by decide) ?_
    refine am_goto (tgt := 5) d_Arr_fill_aZZ_17 (by decide) ?_
    rw [bx_uu, nI_clamp (by omega)]
    refine am_locs (lv' := [(0, .ref q), (1, .int 0), (2, .int (nI (k + 1))), (3, .int (nI N))]) (by rw [← nI_1]; rfl) ?_
    have e : (updV (fun j => if j < k then .int 0 else g j) k (.int 0)) = fun j => if j < k + 1 then .int 0 else g j := by
      funext j
      unfold updV
      by_cases h1 : j = k
      · rw [if_pos h1, if_pos (by omega)]
      · rw [if_neg h1]
        dsimp only
        by_cases h2 : j < k
        · rw [if_pos h2, if_pos (by omega)]
        · rw [if_neg h2, if_neg (by omega)]
    rw [show narrow FieldType.boolean (.int 0) = .int 0 from rfl, e]
    exact ih
  · refine am_iload_n d_Arr_fill_aZZ_5 rfl rfl ?_
    refine am_iload_n d_Arr_fill_aZZ_6 rfl rfl ?_
    refine am_icmp_ge (tgt := 20) d_Arr_fill_aZZ_7 (by decide) (fun _ => ?_) (fun c => absurd (nI_le (Nat.le_refl N) hN) c)
    exact am_vret rfl d_Arr_fill_aZZ_20 ⟨rfl, rfl, va_up_self _ _ _, fun x hx => va_up_ne _ _ (by simpa using hx)⟩

set_option maxRecDepth 100000 in
set_option maxHeartbeats 4000000 in
theorem c_isThere (O : am_ok K X) {n q c i : Nat} {f : Nat → am_C} {a1 a2 : Value} {tl : List Value} {g : Nat → Value} (h0 : f q = .inr (10, a1 :: a2 :: .ref c :: tl)) (hc : f c = .inl (.int, 100, g)) (h1 : 128 ≤ q) (h2 : q < n) (h3 : 128 ≤ c) (h4 : c < n) (hi : i < 100) (hg : g i = .int (-1)) : am_Mt K X m_Store_isThere 0 0 0 [.ref q, .int (nI i)] (n, f) (fun v h' => v = some (.int 0) ∧ h' = (n, f)) := by
  refine am_enter (by decide +kernel) (Nat.le_of_ble_eq_true rfl) ?_
  refine am_iload_n d_Store_isThere_0 rfl rfl ?_
  refine am_if_lt (tgt := 24) d_Store_isThere_1 (by decide) (fun c => absurd c (nI_pos (by omega))) (fun _ => ?_)
  refine am_iload_n d_Store_isThere_4 rfl rfl ?_
  refine am_bipush (v := 100) d_Store_isThere_5 (by decide) ?_
  refine am_icmp_ge (tgt := 24) d_Store_isThere_7 (by decide) (fun c => absurd c (nI_ge (b := 100) hi (by omega))) (fun _ => ?_)
  refine am_aload_n d_Store_isThere_10 rfl rfl ?_
  refine am_get O f_Store_16 d_Store_isThere_11 h0 h1 h2 rfl ?_
  refine am_iload_n d_Store_isThere_14 rfl rfl ?_
  refine am_iald (v := .int (-1)) O (by decide) d_Store_isThere_15 hc h3 h4 (vp_in_nI hi (by omega)) (by rw [nI_clamp (by omega)]; exact hg) ?_
  refine am_iconst (v := (-1)) d_Store_isThere_16 (by decide) ?_
  refine am_icmp_eq (tgt := 24) d_Store_isThere_17 (by decide) (fun _ => ?_) (fun c => absurd rfl c)
  refine am_iconst (v := 0) d_Store_isThere_24 (by decide) ?_
  exact am_zret rfl rfl d_Store_isThere_25 ⟨rfl, rfl⟩

set_option maxRecDepth 100000 in
set_option maxHeartbeats 4000000 in
theorem c_objects (O : am_ok K X) {n q c : Nat} {f : Nat → am_C} {a1 a2 : Value} {tl : List Value} {g : Nat → Value} (h0 : f q = .inr (10, a1 :: a2 :: .ref c :: tl)) (hc : f c = .inl (.int, 100, g)) (h1 : 128 ≤ q) (h2 : q < n) (h3 : 128 ≤ c) (h4 : c < n) (hg : ∀ i : Nat, i < 100 → g i = .int (-1)) : am_Mt K X m_Store_objects 1 0 0 [.ref q] (n, f) (fun v h' => v = some (.int 0) ∧ h' = (n, f)) := by
  refine am_enter (by decide +kernel) (Nat.le_of_ble_eq_true rfl) ?_
  refine am_iconst (v := 0) d_Store_objects_0 (by decide) ?_
  refine am_istore_n d_Store_objects_1 rfl (by decide) ?_
  refine am_iconst (v := 0) d_Store_objects_2 (by decide) ?_
  refine am_istore_n d_Store_objects_3 rfl (by decide) ?_
  refine am_locs (lv' := [(0, .ref q), (1, .int 0), (2, .int (nI 0))]) rfl ?_
  refine am_for 100 (fun k => [(0, .ref q), (1, .int 0), (2, .int (nI k))]) (fun _ => (n, f)) (fun k hk ih => ?_) ?_
  · refine am_iload_n d_Store_objects_4 rfl rfl ?_
    refine am_bipush (v := 100) d_Store_objects_5 (by decide) ?_
    refine am_icmp_ge (tgt := 27) d_Store_objects_7 (by decide) (fun c => absurd c (nI_ge (b := 100) hk (by omega))) (fun _ => ?_)
    refine am_aload_n d_Store_objects_10 rfl rfl ?_
    refine am_iload_n d_Store_objects_11 rfl rfl ?_
    refine am_callV O (c_isThere O h0 hc h1 h2 h3 h4 hk (hg k hk)) rfl h0 h1 h2 rfl rfl l_Store_54 ⟨w_1245, w_1246⟩ rfl (Nat.le_of_ble_eq_true rfl) d_Store_objects_12 (by omega) (by omega) (by omega) (fun v h' hp => ?_)
    obtain ⟨rfl, rfl⟩ := hp
    refine am_if_eq (tgt := 21) d_Store_objects_15 (by decide) (fun _ => ?_) (fun c => absurd rfl c)
    refine am_iinc (v := 1) d_Store_objects_21 rfl (by decide) (by decide) ?_
    refine am_goto (tgt := 4) d_Store_objects_24 (by decide) ?_
    refine am_locs (lv' := [(0, .ref q), (1, .int 0), (2, .int (nI (k + 1)))]) (by rw [← nI_1]; rfl) ?_
    exact ih
  · refine am_iload_n d_Store_objects_4 rfl rfl ?_
    refine am_bipush (v := 100) d_Store_objects_5 (by decide) ?_
    refine am_icmp_ge (tgt := 27) d_Store_objects_7 (by decide) (fun _ => ?_) (fun c => absurd (nI_le (a := 100) (b := 100) (by omega) (by omega)) c)
    refine am_iload_n d_Store_objects_27 rfl rfl ?_
    exact am_iret rfl d_Store_objects_28 ⟨rfl, rfl⟩

set_option maxRecDepth 100000 in
set_option maxHeartbeats 4000000 in
theorem c_changed (O : am_ok K X) {n q c : Nat} {f : Nat → am_C} {a1 a2 : Value} {tl : List Value} {g : Nat → Value} (h0 : f q = .inr (10, a1 :: a2 :: .ref c :: tl)) (hc : f c = .inl (.int, 100, g)) (h1 : 128 ≤ q) (h2 : q < n) (h3 : 128 ≤ c) (h4 : c < n) (hg : ∀ i : Nat, i < 100 → g i = .int (-1)) {y : Nat} : am_Mt K X m_Store_objectsChangedSince 1 0 0 [.ref q, .ref y] (n, f) (fun v h' => v = some (.int 0) ∧ h' = (n, f)) := by
  refine am_enter (by decide +kernel) (Nat.le_of_ble_eq_true rfl) ?_
  refine am_iconst (v := 0) d_Store_objectsChangedSince_0 (by decide) ?_
  refine am_istore_n d_Store_objectsChangedSince_1 rfl (by decide) ?_
  refine am_iconst (v := 0) d_Store_objectsChangedSince_2 (by decide) ?_
  refine am_istore_n d_Store_objectsChangedSince_3 rfl (by decide) ?_
  refine am_locs (lv' := [(0, .ref q), (1, .ref y), (2, .int 0), (3, .int (nI 0))]) rfl ?_
  refine am_for 100 (fun k => [(0, .ref q), (1, .ref y), (2, .int 0), (3, .int (nI k))]) (fun _ => (n, f)) (fun k hk ih => ?_) ?_
  · refine am_iload_n d_Store_objectsChangedSince_4 rfl rfl ?_
    refine am_bipush (v := 100) d_Store_objectsChangedSince_5 (by decide) ?_
    refine am_icmp_ge (tgt := 36) d_Store_objectsChangedSince_7 (by decide) (fun c => absurd c (nI_ge (b := 100) hk (by omega))) (fun _ => ?_)
    refine am_aload_n d_Store_objectsChangedSince_10 rfl rfl ?_
    refine am_iload_n d_Store_objectsChangedSince_11 rfl rfl ?_
    refine am_callV O (c_isThere O h0 hc h1 h2 h3 h4 hk (hg k hk)) rfl h0 h1 h2 rfl rfl l_Store_54 ⟨w_1245, w_1246⟩ rfl (Nat.le_of_ble_eq_true rfl) d_Store_objectsChangedSince_12 (by omega) (by omega) (by omega) (fun v h' hp => ?_)
    obtain ⟨rfl, rfl⟩ := hp
    refine am_if_eq (tgt := 30) d_Store_objectsChangedSince_15 (by decide) (fun _ => ?_) (fun c => absurd rfl c)
    refine am_iinc (v := 1) d_Store_objectsChangedSince_30 rfl (by decide) (by decide) ?_
    refine am_goto (tgt := 4) d_Store_objectsChangedSince_33 (by decide) ?_
    refine am_locs (lv' := [(0, .ref q), (1, .ref y), (2, .int 0), (3, .int (nI (k + 1)))]) (by rw [← nI_1]; rfl) ?_
    exact ih
  · refine am_iload_n d_Store_objectsChangedSince_4 rfl rfl ?_
    refine am_bipush (v := 100) d_Store_objectsChangedSince_5 (by decide) ?_
    refine am_icmp_ge (tgt := 36) d_Store_objectsChangedSince_7 (by decide) (fun _ => ?_) (fun c => absurd (nI_le (a := 100) (b := 100) (by omega) (by omega)) c)
    refine am_iload_n d_Store_objectsChangedSince_36 rfl rfl ?_
    exact am_iret rfl d_Store_objectsChangedSince_37 ⟨rfl, rfl⟩

set_option maxRecDepth 100000 in
set_option maxHeartbeats 4000000 in
theorem c_take (O : am_ok K X) {n q c : Nat} {f : Nat → am_C} {a1 a2 : Value} {tl : List Value} {g : Nat → Value} (h0 : f q = .inr (10, a1 :: a2 :: .ref c :: tl)) (hc : f c = .inl (.int, 100, g)) (h1 : 128 ≤ q) (h2 : q < n) (h3 : 128 ≤ c) (h4 : c < n) (hg : ∀ i : Nat, i < 100 → g i = .int (-1)) {p r : Nat} {rc : Nat → Value} {t2 : List Value} (hs : f p = .inr (8, .ref r :: t2)) (hr : f r = .inl (.boolean, 100, rc)) (k1 : 128 ≤ p) (k2 : p < n) (k3 : 128 ≤ r) (k4 : r < n) (hz : ∀ i : Nat, i < 100 → rc i = .int 0) : am_Mt K X m_Sweep_takeUnreached 1 0 0 [.ref p, .ref q] (n, f) (fun v h' => v = some (.int 0) ∧ h' = (n, f)) := by
  refine am_enter (by decide +kernel) (Nat.le_of_ble_eq_true rfl) ?_
  refine am_iconst (v := 0) d_Sweep_takeUnreached_0 (by decide) ?_
  refine am_istore_n d_Sweep_takeUnreached_1 rfl (by decide) ?_
  refine am_iconst (v := 0) d_Sweep_takeUnreached_2 (by decide) ?_
  refine am_istore_n d_Sweep_takeUnreached_3 rfl (by decide) ?_
  refine am_locs (lv' := [(0, .ref p), (1, .ref q), (2, .int 0), (3, .int (nI 0))]) rfl ?_
  refine am_for 100 (fun k => [(0, .ref p), (1, .ref q), (2, .int 0), (3, .int (nI k))]) (fun _ => (n, f)) (fun k hk ih => ?_) ?_
  · refine am_iload_n d_Sweep_takeUnreached_4 rfl rfl ?_
    refine am_bipush (v := 100) d_Sweep_takeUnreached_5 (by decide) ?_
    refine am_icmp_ge (tgt := 41) d_Sweep_takeUnreached_7 (by decide) (fun c => absurd c (nI_ge (b := 100) hk (by omega))) (fun _ => ?_)
    refine am_aload_n d_Sweep_takeUnreached_10 rfl rfl ?_
    refine am_get O f_Sweep_9 d_Sweep_takeUnreached_11 hs k1 k2 rfl ?_
    refine am_iload_n d_Sweep_takeUnreached_14 rfl rfl ?_
    refine am_zald (v := .int 0) O (by decide) d_Sweep_takeUnreached_15 hr k3 k4 (vp_in_nI hk (by omega)) (by rw [nI_clamp (by omega)]; exact hz k hk) ?_
    refine am_if_ne (tgt := 35) d_Sweep_takeUnreached_16 (by decide) (fun c => absurd rfl c) (fun _ => ?_)
    refine am_aload_n d_Sweep_takeUnreached_19 rfl rfl ?_
    refine am_iload_n d_Sweep_takeUnreached_20 rfl rfl ?_
    refine am_callV O (c_isThere O h0 hc h1 h2 h3 h4 hk (hg k hk)) rfl h0 h1 h2 rfl rfl l_Sweep_67 ⟨w_1245, w_1246⟩ rfl (Nat.le_of_ble_eq_true rfl) d_Sweep_takeUnreached_21 (by omega) (by omega) (by omega) (fun v h' hp => ?_)
    obtain ⟨rfl, rfl⟩ := hp
    refine am_if_eq (tgt := 35) d_Sweep_takeUnreached_24 (by decide) (fun _ => ?_) (fun c => absurd rfl c)
    refine am_iinc (v := 1) d_Sweep_takeUnreached_35 rfl (by decide) (by decide) ?_
    refine am_goto (tgt := 4) d_Sweep_takeUnreached_38 (by decide) ?_
    refine am_locs (lv' := [(0, .ref p), (1, .ref q), (2, .int 0), (3, .int (nI (k + 1)))]) (by rw [← nI_1]; rfl) ?_
    exact ih
  · refine am_iload_n d_Sweep_takeUnreached_4 rfl rfl ?_
    refine am_bipush (v := 100) d_Sweep_takeUnreached_5 (by decide) ?_
    refine am_icmp_ge (tgt := 41) d_Sweep_takeUnreached_7 (by decide) (fun _ => ?_) (fun c => absurd (nI_le (a := 100) (b := 100) (by omega) (by omega)) c)
    refine am_iload_n d_Sweep_takeUnreached_41 rfl rfl ?_
    exact am_iret rfl d_Sweep_takeUnreached_42 ⟨rfl, rfl⟩

set_option maxRecDepth 100000 in
set_option maxHeartbeats 4000000 in
theorem ms_loop (O : am_ok K X) {n p q c : Nat} {d kc ks uc us : Nat} {post : Option Value → am_H → Prop} {f : Nat → am_C} {fs tl : List Value} {g : Nat → Value}  (h0 : f p = .inr (14, fs)) (hfs : fs[30]? = some (.ref q)) (hq : f q = .inr (13, .ref c :: tl)) (hc : f c = .inl (.int, 100, g)) (b1 : 128 ≤ p) (b2 : p < n) (b3 : 128 ≤ q) (b4 : q < n) (b5 : 128 ≤ c) (b6 : c < n) (hg : ∀ i : Nat, i < 100 → g i = .int 0) (kk : am_W K X m_Mod_sweep d kc ks uc us 218 [(0, .ref p), (1, .int 0), (2, .int 100)] [] (n, f) post) : am_W K X m_Mod_sweep d kc ks uc us 146 [(0, .ref p), (1, .int 0), (2, .int 0)] [] (n, f) post := by
  refine am_for 100 (fun k => [(0, .ref p), (1, .int 0), (2, .int (nI k))]) (fun _ => (n, f)) (fun k hk ih => ?_) ?_
  · refine am_iload_n d_Mod_sweep_146 rfl rfl ?_
    refine am_bipush (v := 100) d_Mod_sweep_147 (by decide) ?_
    refine am_icmp_ge (tgt := 218) d_Mod_sweep_149 (by decide) (fun c => absurd c (nI_ge (b := 100) hk (by omega))) (fun _ => ?_)
    refine am_aload_n d_Mod_sweep_152 rfl rfl ?_
    refine am_get O f_Mod_349 d_Mod_sweep_153 h0 b1 b2 hfs ?_
    refine am_get O f_Mod_457 d_Mod_sweep_156 hq b3 b4 rfl ?_
    refine am_iload_n d_Mod_sweep_159 rfl rfl ?_
    refine am_iald (v := .int 0) O (by decide) d_Mod_sweep_160 hc b5 b6 (vp_in_nI hk (by omega)) (by rw [nI_clamp (by omega)]; exact hg k hk) ?_
    refine am_if_eq (tgt := 212) d_Mod_sweep_161 (by decide) (fun _ => ?_) (fun c => absurd rfl c)
    refine am_iinc (v := 1) d_Mod_sweep_212 rfl (by decide) (by decide) ?_
    refine am_goto (tgt := 146) d_Mod_sweep_215 (by decide) ?_
    refine am_locs (lv' := [(0, .ref p), (1, .int 0), (2, .int (nI (k + 1)))]) (by rw [← nI_1]; rfl) ?_
    exact ih
  · refine am_iload_n d_Mod_sweep_146 rfl rfl ?_
    refine am_bipush (v := 100) d_Mod_sweep_147 (by decide) ?_
    refine am_icmp_ge (tgt := 218) d_Mod_sweep_149 (by decide) (fun _ => ?_) (fun c => absurd (nI_le (a := 100) (b := 100) (by omega) (by omega)) c)
    exact kk

set_option maxRecDepth 100000 in
set_option maxHeartbeats 4000000 in
theorem mr_loop (O : am_ok K X) {n p q c : Nat} {d kc ks uc us : Nat} {post : Option Value → am_H → Prop} {f : Nat → am_C} {fs tl : List Value} {g : Nat → Value} {x : Int32} (h0 : f p = .inr (14, fs)) (hfs : fs[31]? = some (.ref q)) (hq : f q = .inr (13, .ref c :: tl)) (hc : f c = .inl (.int, 100, g)) (b1 : 128 ≤ p) (b2 : p < n) (b3 : 128 ≤ q) (b4 : q < n) (b5 : 128 ≤ c) (b6 : c < n) (hg : ∀ i : Nat, i < 100 → g i = .int 0) (kk : am_W K X m_Mod_run d kc ks uc us 163 [(0, .ref p), (1, .int x), (2, .int 0), (3, .int 8), (4, .int 100)] [] (n, f) post) : am_W K X m_Mod_run d kc ks uc us 105 [(0, .ref p), (1, .int x), (2, .int 0), (3, .int 8), (4, .int 0)] [] (n, f) post := by
  refine am_for 100 (fun k => [(0, .ref p), (1, .int x), (2, .int 0), (3, .int 8), (4, .int (nI k))]) (fun _ => (n, f)) (fun k hk ih => ?_) ?_
  · refine am_iload d_Mod_run_105 rfl ?_
    refine am_bipush (v := 100) d_Mod_run_107 (by decide) ?_
    refine am_icmp_ge (tgt := 163) d_Mod_run_109 (by decide) (fun c => absurd c (nI_ge (b := 100) hk (by omega))) (fun _ => ?_)
    refine am_aload_n d_Mod_run_112 rfl rfl ?_
    refine am_get O f_Mod_353 d_Mod_run_113 h0 b1 b2 hfs ?_
    refine am_get O f_Mod_457 d_Mod_run_116 hq b3 b4 rfl ?_
    refine am_iload d_Mod_run_119 rfl ?_
    refine am_iald (v := .int 0) O (by decide) d_Mod_run_121 hc b5 b6 (vp_in_nI hk (by omega)) (by rw [nI_clamp (by omega)]; exact hg k hk) ?_
    refine am_if_eq (tgt := 157) d_Mod_run_122 (by decide) (fun _ => ?_) (fun c => absurd rfl c)
    refine am_iinc (v := 1) d_Mod_run_157 rfl (by decide) (by decide) ?_
    refine am_goto (tgt := 105) d_Mod_run_160 (by decide) ?_
    refine am_locs (lv' := [(0, .ref p), (1, .int x), (2, .int 0), (3, .int 8), (4, .int (nI (k + 1)))]) (by rw [← nI_1]; rfl) ?_
    exact ih
  · refine am_iload d_Mod_run_105 rfl ?_
    refine am_bipush (v := 100) d_Mod_run_107 (by decide) ?_
    refine am_icmp_ge (tgt := 163) d_Mod_run_109 (by decide) (fun _ => ?_) (fun c => absurd (nI_le (a := 100) (b := 100) (by omega) (by omega)) c)
    exact kk

set_option maxRecDepth 100000 in
set_option maxHeartbeats 4000000 in
theorem sc_loop (O : am_ok K X) {n p q y : Nat} {d kc ks uc us : Nat} {post : Option Value → am_H → Prop} {f : Nat → am_C} {tl : List Value} {g : Nat → Value} (h0 : f p = .inr (8, .ref q :: tl)) (hq : f q = .inl (.boolean, 100, g)) (b1 : 128 ≤ p) (b2 : p < n) (b3 : 128 ≤ q) (b4 : q < n) (hpq : p ≠ q) (kk : am_W K X m_Sweep_clean d kc ks uc us 21 [(0, .ref p), (1, .ref y), (2, .int 100)] [] (n, va_up f q (.inl (.boolean, 100, fun j => if j < 100 then .int 0 else g j))) post) : am_W K X m_Sweep_clean d kc ks uc us 2 [(0, .ref p), (1, .ref y), (2, .int 0)] [] (n, f) post := by
  refine am_self (q := q) (.inl (.boolean, 100, fun j => if j < 0 then .int 0 else g j)) (by rw [hq]; simp) ?_
  refine am_for 100 (fun k => [(0, .ref p), (1, .ref y), (2, .int (nI k))]) (fun k => (n, va_up f q (.inl (.boolean, 100, fun j => if j < k then .int 0 else g j)))) (fun k hk ih => ?_) ?_
  · refine am_iload_n d_Sweep_clean_2 rfl rfl ?_
    refine am_bipush (v := 100) d_Sweep_clean_3 (by decide) ?_
    refine am_icmp_ge (tgt := 21) d_Sweep_clean_5 (by decide) (fun c => absurd c (nI_ge (b := 100) hk (by omega))) (fun _ => ?_)
    refine am_aload_n d_Sweep_clean_8 rfl rfl ?_
    refine am_get O f_Sweep_9 d_Sweep_clean_9 (by rw [va_up_ne _ _ hpq]; exact h0) b1 b2 rfl ?_
    refine am_iload_n d_Sweep_clean_12 rfl rfl ?_
    refine am_iconst (v := 0) d_Sweep_clean_13 (by decide) ?_
    refine am_zast O (by decide) d_Sweep_clean_14 (va_up_self _ _ _) b3 b4 (vp_in_nI hk (by omega)) ?_
    refine am_iinc (v := 1) d_Sweep_clean_15 rfl (by decide) (by decide) ?_
    refine am_goto (tgt := 2) d_Sweep_clean_18 (by decide) ?_
    rw [bx_uu, nI_clamp (by omega)]
    refine am_locs (lv' := [(0, .ref p), (1, .ref y), (2, .int (nI (k + 1)))]) (by rw [← nI_1]; rfl) ?_
    have e : (updV (fun j => if j < k then .int 0 else g j) k (.int 0)) = fun j => if j < k + 1 then .int 0 else g j := by
      funext j
      unfold updV
      by_cases h1 : j = k
      · rw [if_pos h1, if_pos (by omega)]
      · rw [if_neg h1]
        dsimp only
        by_cases h2 : j < k
        · rw [if_pos h2, if_pos (by omega)]
        · rw [if_neg h2, if_neg (by omega)]
    rw [show narrow FieldType.boolean (.int 0) = .int 0 from rfl, e]
    exact ih
  · refine am_iload_n d_Sweep_clean_2 rfl rfl ?_
    refine am_bipush (v := 100) d_Sweep_clean_3 (by decide) ?_
    refine am_icmp_ge (tgt := 21) d_Sweep_clean_5 (by decide) (fun _ => ?_) (fun c => absurd (nI_le (a := 100) (b := 100) (by omega) (by omega)) c)
    exact kk
end
