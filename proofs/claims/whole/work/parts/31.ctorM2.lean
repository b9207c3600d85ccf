section
variable {K : am_K} {X : Nat → am_C}
def wl_f (N q : Nat) (f : Nat → am_C) : Nat → (Nat → am_C) × (Nat → Value)
  | 0 => (f, fun _ => .null)
  | k + 1 => (va_up (F_State_init (N + 17 * k + 1) (va_up (wl_f N q f k).1 (N + 17 * k) (.inr (13, [.null, .null, .null, .null, .null, .null, .null, .null, .int 0, .int 0, .int 0, .int 0]))) (N + 17 * k)) q (.inl (.object "StowTongueModel$State", 8, updV (wl_f N q f k).2 k (.ref (N + 17 * k)))), updV (wl_f N q f k).2 k (.ref (N + 17 * k)))
theorem wl_f_lt {N q : Nat} {f : Nat → am_C} {x : Nat} (hx : x < N) (hq : x ≠ q) : ∀ k, (wl_f N q f k).1 x = f x
  | 0 => rfl
  | k + 1 => by
    show va_up _ _ _ x = f x
    rw [va_up_ne _ _ hq, F_State_init_lt (by omega) (by omega), va_up_ne _ _ (by omega)]
    exact wl_f_lt hx hq k
theorem wl_f_q {N q : Nat} {f : Nat → am_C} (hf : f q = .inl (.object "StowTongueModel$State", 8, fun _ => .null)) : ∀ k, (wl_f N q f k).1 q = .inl (.object "StowTongueModel$State", 8, (wl_f N q f k).2)
  | 0 => hf
  | k + 1 => va_up_self _ _ _

def pl_f (N q : Nat) (f : Nat → am_C) : Nat → (Nat → am_C) × (Nat → Value)
  | 0 => (f, fun _ => .null)
  | k + 1 => (va_up (F_Code_init_400 (N + 7 * k + 1) (va_up (pl_f N q f k).1 (N + 7 * k) (.inr (12, [.null, .null, .int 0, .int 0, .int 0, .int 0, .int 0, .int 0, .int 0, .int 0]))) (N + 7 * k)) q (.inl (.object "StowTongueModel$Code", 130, updV (pl_f N q f k).2 k (.ref (N + 7 * k)))), updV (pl_f N q f k).2 k (.ref (N + 7 * k)))
theorem pl_f_lt {N q : Nat} {f : Nat → am_C} {x : Nat} (hx : x < N) (hq : x ≠ q) : ∀ k, (pl_f N q f k).1 x = f x
  | 0 => rfl
  | k + 1 => by
    show va_up _ _ _ x = f x
    rw [va_up_ne _ _ hq, F_Code_init_400_lt (by omega) (by omega), va_up_ne _ _ (by omega)]
    exact pl_f_lt hx hq k
theorem pl_f_q {N q : Nat} {f : Nat → am_C} (hf : f q = .inl (.object "StowTongueModel$Code", 130, fun _ => .null)) : ∀ k, (pl_f N q f k).1 q = .inl (.object "StowTongueModel$Code", 130, (pl_f N q f k).2)
  | 0 => hf
  | k + 1 => va_up_self _ _ _

set_option maxRecDepth 100000 in
set_option maxHeartbeats 4000000 in
theorem wl_loop (O : am_ok K X) {N r q kc ks uc us : Nat} {f : Nat → am_C} {fs : List Value} {post : Option Value → am_H → Prop} (h0 : f r = .inr (14, fs)) (hfs : fs[33]? = some (.ref q)) (hq0 : f q = .inl (.object "StowTongueModel$State", 8, fun _ => .null)) (hr : 128 ≤ r) (hr2 : r < N) (hq : 128 ≤ q) (hq2 : q < N) (hrq : r ≠ q) (hkc : uc + 136 ≤ kc) (hks : us + 72800 ≤ ks) (kk : am_W K X m_Mod_init 4 kc ks (uc + 136) (us + 72800) 312 [(0, .ref r), (1, .int (nI 8))] [] (N + 17 * 8, (wl_f N q f 8).1) post) : ∀ m k : Nat, k ≤ 8 → 8 - k < m → am_W K X m_Mod_init 4 kc ks (uc + 17 * k) (us + 9100 * k) 287 [(0, .ref r), (1, .int (nI k))] [] (N + 17 * k, (wl_f N q f k).1) post := by
  intro m
  induction m with
  | zero => intro k h1 h2; omega
  | succ m ih =>
    intro k hk hm
    refine am_iload_n d_Mod_init_287 rfl rfl ?_
    refine am_bipush (v := 8) d_Mod_init_288 (by decide) ?_
    refine am_icmp_ge (tgt := 312) d_Mod_init_290 (by decide) (fun c_290 => ?_) (fun c_290 => ?_)
    · have e : k = 8 := by
        rcases Nat.lt_or_ge k 8 with q | q
        · exact absurd c_290 (nI_ge (b := 8) q (by omega))
        · omega
      subst e
      exact kk
    · have hk8 : k < 8 := by
        rcases Nat.lt_or_ge k 8 with q | q
        · exact q
        · exact absurd (nI_le q (by omega)) c_290
      refine am_aload_n d_Mod_init_293 rfl rfl ?_
      refine am_get O f_Mod_359 d_Mod_init_294 (by (repeat (first | rw [va_up_self] | rw [va_up_ne _ _ (by omega)] | rw [F_State_init_lt (by omega) (by omega)] | rw [F_State_init_self (by omega)] | rw [wl_f_lt (by omega) (by omega)] | rw [wl_f_q hq0])); first | done | rfl | assumption) (by omega) (by omega) hfs ?_
      refine am_iload_n d_Mod_init_297 rfl rfl ?_
      refine am_new O n_Mod_346 d_Mod_init_298 (by omega) (by omega) ?_
      refine am_dup d_Mod_init_301 rfl ?_
      refine am_callI O (c_State_init O (by (repeat (first | rw [va_up_self] | rw [va_up_ne _ _ (by omega)] | rw [F_State_init_lt (by omega) (by omega)] | rw [F_State_init_self (by omega)] | rw [wl_f_lt (by omega) (by omega)] | rw [wl_f_q hq0])); first | done | rfl | assumption) (by omega) (by omega)) rfl l_Mod_348 w_1564 rfl rfl rfl (Nat.le_of_ble_eq_true rfl) d_Mod_init_302 (by omega) (by omega) (by omega) (fun v h' hp => ?_)
      obtain ⟨rfl, rfl⟩ := hp
      refine am_aast O d_Mod_init_305 (by (repeat (first | rw [va_up_self] | rw [va_up_ne _ _ (by omega)] | rw [F_State_init_lt (by omega) (by omega)] | rw [F_State_init_self (by omega)] | rw [wl_f_lt (by omega) (by omega)] | rw [wl_f_q hq0])); first | done | rfl | assumption) (by omega) (by omega) (by (repeat (first | rw [va_up_self] | rw [va_up_ne _ _ (by omega)] | rw [F_State_init_lt (by omega) (by omega)] | rw [F_State_init_self (by omega)] | rw [wl_f_lt (by omega) (by omega)] | rw [wl_f_q hq0])); first | done | rfl | assumption) (by omega) (by omega) (by rfl) (by rfl) (by decide) (vp_in_nI hk8 (by omega)) ?_
      refine am_iinc (v := 1) d_Mod_init_306 rfl (by decide) (by decide) ?_
      refine am_goto (tgt := 287) d_Mod_init_309 (by decide) ?_
      rw [nI_clamp (by omega), show N + 17 * k + 1 + 16 = N + 17 * (k + 1) by omega]
      refine am_locs (lv' := [(0, .ref r), (1, .int (nI (k + 1)))]) (by rw [← nI_1]; rfl) ?_
      refine am_less (Nat.le_refl _) ?_ ?_ (ih (k + 1) (by omega) (by omega))
      · omega
      · omega

set_option maxRecDepth 100000 in
set_option maxHeartbeats 4000000 in
theorem pl_loop (O : am_ok K X) {N r q kc ks uc us : Nat} {f : Nat → am_C} {fs : List Value} {post : Option Value → am_H → Prop} (h0 : f r = .inr (14, fs)) (hfs : fs[36]? = some (.ref q)) (hq0 : f q = .inl (.object "StowTongueModel$Code", 130, fun _ => .null)) (hr : 128 ≤ r) (hr2 : r < N) (hq : 128 ≤ q) (hq2 : q < N) (hrq : r ≠ q) (hkc : uc + 910 ≤ kc) (hks : us + 417820 ≤ ks) (kk : am_W K X m_Mod_init 4 kc ks (uc + 910) (us + 417820) 345 [(0, .ref r), (1, .int (nI 130))] [] (N + 7 * 130, (pl_f N q f 130).1) post) : ∀ m k : Nat, k ≤ 130 → 130 - k < m → am_W K X m_Mod_init 4 kc ks (uc + 7 * k) (us + 3214 * k) 314 [(0, .ref r), (1, .int (nI k))] [] (N + 7 * k, (pl_f N q f k).1) post := by
  intro m
  induction m with
  | zero => intro k h1 h2; omega
  | succ m ih =>
    intro k hk hm
    refine am_iload_n d_Mod_init_314 rfl rfl ?_
    refine am_aload_n d_Mod_init_315 rfl rfl ?_
    refine am_get O f_Mod_363 d_Mod_init_316 (by (repeat (first | rw [va_up_self] | rw [va_up_ne _ _ (by omega)] | rw [F_Code_init_400_lt (by omega) (by omega)] | rw [F_Code_init_400_self (by omega)] | rw [pl_f_lt (by omega) (by omega)] | rw [pl_f_q hq0])); first | done | rfl | assumption) (by omega) (by omega) hfs ?_
    refine am_alen O d_Mod_init_319 (by (repeat (first | rw [va_up_self] | rw [va_up_ne _ _ (by omega)] | rw [F_Code_init_400_lt (by omega) (by omega)] | rw [F_Code_init_400_self (by omega)] | rw [pl_f_lt (by omega) (by omega)] | rw [pl_f_q hq0])); first | done | rfl | assumption) (by omega) (by omega) (by decide) rfl ?_
    refine am_icmp_ge (tgt := 345) d_Mod_init_320 (by decide) (fun c_320 => ?_) (fun c_320 => ?_)
    · have e : k = 130 := by
        rcases Nat.lt_or_ge k 130 with q | q
        · exact absurd c_320 (nI_ge (b := 130) q (by omega))
        · omega
      subst e
      exact kk
    · have hk8 : k < 130 := by
        rcases Nat.lt_or_ge k 130 with q | q
        · exact q
        · exact absurd (nI_le q (by omega)) c_320
      refine am_aload_n d_Mod_init_323 rfl rfl ?_
      refine am_get O f_Mod_363 d_Mod_init_324 (by (repeat (first | rw [va_up_self] | rw [va_up_ne _ _ (by omega)] | rw [F_Code_init_400_lt (by omega) (by omega)] | rw [F_Code_init_400_self (by omega)] | rw [pl_f_lt (by omega) (by omega)] | rw [pl_f_q hq0])); first | done | rfl | assumption) (by omega) (by omega) hfs ?_
      refine am_iload_n d_Mod_init_327 rfl rfl ?_
      refine am_new O n_Mod_96 d_Mod_init_328 (by omega) (by omega) ?_
      refine am_dup d_Mod_init_331 rfl ?_
      refine am_sipush (v := 400) d_Mod_init_332 (by decide) ?_
      refine am_callI O (c_Code_init_400 O (by (repeat (first | rw [va_up_self] | rw [va_up_ne _ _ (by omega)] | rw [F_Code_init_400_lt (by omega) (by omega)] | rw [F_Code_init_400_self (by omega)] | rw [pl_f_lt (by omega) (by omega)] | rw [pl_f_q hq0])); first | done | rfl | assumption) (by omega) (by omega)) rfl l_Mod_343 w_1492 rfl rfl rfl (Nat.le_of_ble_eq_true rfl) d_Mod_init_335 (by omega) (by omega) (by omega) (fun v h' hp => ?_)
      obtain ⟨rfl, rfl⟩ := hp
      refine am_aast O d_Mod_init_338 (by (repeat (first | rw [va_up_self] | rw [va_up_ne _ _ (by omega)] | rw [F_Code_init_400_lt (by omega) (by omega)] | rw [F_Code_init_400_self (by omega)] | rw [pl_f_lt (by omega) (by omega)] | rw [pl_f_q hq0])); first | done | rfl | assumption) (by omega) (by omega) (by (repeat (first | rw [va_up_self] | rw [va_up_ne _ _ (by omega)] | rw [F_Code_init_400_lt (by omega) (by omega)] | rw [F_Code_init_400_self (by omega)] | rw [pl_f_lt (by omega) (by omega)] | rw [pl_f_q hq0])); first | done | rfl | assumption) (by omega) (by omega) (by rfl) (by rfl) (by decide) (vp_in_nI hk8 (by omega)) ?_
      refine am_iinc (v := 1) d_Mod_init_339 rfl (by decide) (by decide) ?_
      refine am_goto (tgt := 314) d_Mod_init_342 (by decide) ?_
      rw [nI_clamp (by omega), show N + 7 * k + 1 + 6 = N + 7 * (k + 1) by omega]
      refine am_locs (lv' := [(0, .ref r), (1, .int (nI (k + 1)))]) (by rw [← nI_1]; rfl) ?_
      refine am_less (Nat.le_refl _) ?_ ?_ (ih (k + 1) (by omega) (by omega))
      · omega
      · omega

set_option maxRecDepth 100000 in
set_option maxHeartbeats 4000000 in
theorem wl_start (O : am_ok K X) {N r q kc ks uc us : Nat} {f : Nat → am_C} {fs : List Value} {post : Option Value → am_H → Prop} (h0 : f r = .inr (14, fs)) (hfs : fs[33]? = some (.ref q)) (hq0 : f q = .inl (.object "StowTongueModel$State", 8, fun _ => .null)) (hr : 128 ≤ r) (hr2 : r < N) (hq : 128 ≤ q) (hq2 : q < N) (hrq : r ≠ q) (hkc : uc + 136 ≤ kc) (hks : us + 72800 ≤ ks) (kk : am_W K X m_Mod_init 4 kc ks (uc + 136) (us + 72800) 312 [(0, .ref r), (1, .int (nI 8))] [] (N + 136, (wl_f N q f 8).1) post) : am_W K X m_Mod_init 4 kc ks uc us 287 [(0, .ref r), (1, .int 0)] [] (N, f) post := by
  exact wl_loop O h0 hfs hq0 hr hr2 hq hq2 hrq hkc hks kk 9 0 (by omega) (by omega)

set_option maxRecDepth 100000 in
set_option maxHeartbeats 4000000 in
theorem pl_start (O : am_ok K X) {N r q kc ks uc us : Nat} {f : Nat → am_C} {fs : List Value} {post : Option Value → am_H → Prop} (h0 : f r = .inr (14, fs)) (hfs : fs[36]? = some (.ref q)) (hq0 : f q = .inl (.object "StowTongueModel$Code", 130, fun _ => .null)) (hr : 128 ≤ r) (hr2 : r < N) (hq : 128 ≤ q) (hq2 : q < N) (hrq : r ≠ q) (hkc : uc + 910 ≤ kc) (hks : us + 417820 ≤ ks) (kk : am_W K X m_Mod_init 4 kc ks (uc + 910) (us + 417820) 345 [(0, .ref r), (1, .int (nI 130))] [] (N + 910, (pl_f N q f 130).1) post) : am_W K X m_Mod_init 4 kc ks uc us 314 [(0, .ref r), (1, .int 0)] [] (N, f) post := by
  exact pl_loop O h0 hfs hq0 hr hr2 hq hq2 hrq hkc hks kk 131 0 (by omega) (by omega)
end
