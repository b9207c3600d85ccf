section
variable {K : am_K} {X : Nat → am_C}
def HC_M (K : am_K) (X : Nat → am_C) (c : CLT) (d : Nat) : Prop :=
  (∀ (r : Nat) (x y z : Int32) (s : HS), xM cvI K X m_Mod_block d [.ref r, .int x] s (c 0 r x y z s) ∧ ∀ w, c 0 r x y z s = some w → isO s r 14 = true) ∧
  (∀ (r : Nat) (x y z : Int32) (s : HS), xM cvI K X m_Mod_test d [.ref r, .int x] s (c 1 r x y z s) ∧ ∀ w, c 1 r x y z s = some w → isO s r 14 = true) ∧
  (∀ (r : Nat) (x y z : Int32) (s : HS), xM cvI K X m_Mod_statement d [.ref r, .int x] s (c 2 r x y z s) ∧ ∀ w, c 2 r x y z s = some w → isO s r 14 = true) ∧
  (∀ (r : Nat) (x y z : Int32) (s : HS), xM cvI K X m_Mod_branch d [.ref r, .int x] s (c 3 r x y z s) ∧ ∀ w, c 3 r x y z s = some w → isO s r 14 = true) ∧
  (∀ (r : Nat) (x y z : Int32) (s : HS), xM cvI K X m_Mod_loop d [.ref r, .int x] s (c 4 r x y z s) ∧ ∀ w, c 4 r x y z s = some w → isO s r 14 = true) ∧
  (∀ (r : Nat) (x y z : Int32) (s : HS), xM cvI K X m_Mod_assignment d [.ref r, .int x] s (c 5 r x y z s) ∧ ∀ w, c 5 r x y z s = some w → isO s r 14 = true) ∧
  (∀ (r : Nat) (x y z : Int32) (s : HS), xM cvI K X m_Mod_expression d [.ref r, .int x] s (c 6 r x y z s) ∧ ∀ w, c 6 r x y z s = some w → isO s r 14 = true) ∧
  (∀ (r : Nat) (x y z : Int32) (s : HS), xM cvI K X m_Mod_either d [.ref r, .int x, .int y] s (c 7 r x y z s) ∧ ∀ w, c 7 r x y z s = some w → isO s r 14 = true) ∧
  (∀ (r : Nat) (x y z : Int32) (s : HS), xM cvI K X m_Mod_compared d [.ref r, .int x] s (c 8 r x y z s) ∧ ∀ w, c 8 r x y z s = some w → isO s r 14 = true) ∧
  (∀ (r : Nat) (x y z : Int32) (s : HS), xM cvI K X m_Mod_sum_II d [.ref r, .int x, .int y] s (c 9 r x y z s) ∧ ∀ w, c 9 r x y z s = some w → isO s r 14 = true) ∧
  (∀ (r : Nat) (x y z : Int32) (s : HS), xM cvI K X m_Mod_unary d [.ref r, .int x] s (c 10 r x y z s) ∧ ∀ w, c 10 r x y z s = some w → isO s r 14 = true) ∧
  (∀ (r : Nat) (x y z : Int32) (s : HS), xM cvI K X m_Mod_atom d [.ref r, .int x] s (c 11 r x y z s) ∧ ∀ w, c 11 r x y z s = some w → isO s r 14 = true) ∧
  (∀ (r : Nat) (x y z : Int32) (s : HS), xM cvI K X m_Mod_simple d [.ref r, .int x] s (c 12 r x y z s) ∧ ∀ w, c 12 r x y z s = some w → isO s r 14 = true) ∧
  (∀ (r : Nat) (x y z : Int32) (s : HS), xM cvI K X m_Mod_named d [.ref r, .int x] s (c 13 r x y z s) ∧ ∀ w, c 13 r x y z s = some w → isO s r 14 = true) ∧
  (∀ (r : Nat) (x y z : Int32) (s : HS), xM cvI K X m_Mod_built d [.ref r, .int x] s (c 14 r x y z s) ∧ ∀ w, c 14 r x y z s = some w → isO s r 14 = true) ∧
  (∀ (r : Nat) (x y z : Int32) (s : HS), xM cvI K X m_Mod_record d [.ref r, .int x] s (c 15 r x y z s) ∧ ∀ w, c 15 r x y z s = some w → isO s r 14 = true) ∧
  (∀ (r : Nat) (x y z : Int32) (s : HS), xM cvI K X m_Mod_row d [.ref r, .int x] s (c 16 r x y z s) ∧ ∀ w, c 16 r x y z s = some w → isO s r 14 = true)

set_option maxRecDepth 100000 in
def x_Mod_block_b (c : CLT) (d : Nat) (x0 : Nat) (x1 : Int32) (s : HS) : Option (Int32 × HS) := gd s x0 14 (bnd (x_Mod_is d x0 20 s) fun v2 s1 => (if v2 = 0 then (bnd (x_Mod_bad d x0 s1) fun v4 s3 => (okB v4 (some (v4, s3)))) else (if x1 = 16 then (bnd (x_Mod_bad d x0 s1) fun v6 s5 => (okB v6 (some (v6, s5)))) else (bnd (x_Mod_step d x0 s1) fun v8 s7 => (loopK (fun (again24 : HS → Option (Int32 × HS)) (z24 : HS) => (bnd (x_Mod_is d x0 22 z24) fun v10 s9 => (if v10 = 0 then (bnd ((c 2 x0 (x1 + 1) 0 0 s9)) fun v12 s11 => (if v12 = 0 then (some (0, s11)) else (again24 s11))) else (bnd (x_Mod_step d x0 s9) fun v14 s13 => (some (1, s13)))))) FU s7)))))

set_option maxRecDepth 100000 in
set_option maxHeartbeats 4000000 in
theorem dx_Mod_block_b (O : am_ok K X) (T : am_T K) {c : CLT} {d : Nat} (H : HC_M K X c d) {x0 : Nat} {x1 : Int32} {s : HS} : xM cvI K X m_Mod_block (d + 1) [.ref x0, .int x1] s (x_Mod_block_b c d x0 x1 s) := by
  unfold x_Mod_block_b
  refine xM_enter (by decide +kernel) (Nat.le_of_ble_eq_true rfl) ?_
  refine xW_gd (fun _ => ?_)
  refine xW_pure (fun _ _ _ _ _ => am_aload_n d_Mod_block_0 rfl rfl) ?_
  refine xW_pure (fun _ _ _ _ _ => am_ldcS (T.2.2 7 ("StowTongueModel", 210, "{") rfl) d_Mod_block_1) ?_
  refine xW_callV O (dx_Mod_is O T) (fun _ e => ob_Mod_is e) rfl rfl rfl l_Mod_80 ⟨w_1833, w_86⟩ rfl (Nat.le_of_ble_eq_true rfl) d_Mod_block_3 (fun v2 s1 _ => ?_)
  refine xW_ite (fun _ _ _ _ _ => am_if_eq (tgt := 15) d_Mod_block_6 (by decide)) (fun _ => ?_) (fun _ => ?_)
  · refine xW_pure (fun _ _ _ _ _ => am_aload_n d_Mod_block_15 rfl rfl) ?_
    refine xW_callV O (dx_Mod_bad O T) (fun _ e => ob_Mod_bad e) rfl rfl rfl l_Mod_84 ⟨w_1841, w_88⟩ rfl (Nat.le_of_ble_eq_true rfl) d_Mod_block_16 (fun v4 s3 _ => ?_)
    refine xW_okB (fun hz => ?_)
    exact xW_ret (fun _ _ _ _ _ => am_zret (ty := .boolean) rfl (bz_nar hz) d_Mod_block_19)
  · refine xW_pure (fun _ _ _ _ _ => am_iload_n d_Mod_block_9 rfl rfl) ?_
    refine xW_pure (fun _ _ _ _ _ => am_bipush (v := 16) d_Mod_block_10 (by decide)) ?_
    refine xW_ite (fun _ _ _ _ _ k1 k2 => am_icmp_ne (tgt := 20) d_Mod_block_12 (by decide) k2 k1) (fun _ => ?_) (fun _ => ?_)
    · refine xW_pure (fun _ _ _ _ _ => am_aload_n d_Mod_block_15 rfl rfl) ?_
      refine xW_callV O (dx_Mod_bad O T) (fun _ e => ob_Mod_bad e) rfl rfl rfl l_Mod_84 ⟨w_1841, w_88⟩ rfl (Nat.le_of_ble_eq_true rfl) d_Mod_block_16 (fun v6 s5 _ => ?_)
      refine xW_okB (fun hz => ?_)
      exact xW_ret (fun _ _ _ _ _ => am_zret (ty := .boolean) rfl (bz_nar hz) d_Mod_block_19)
    · refine xW_pure (fun _ _ _ _ _ => am_aload_n d_Mod_block_20 rfl rfl) ?_
      refine xW_callV O (dx_Mod_step O T) (fun _ e => ob_Mod_step e) rfl rfl rfl l_Mod_87 ⟨w_1808, w_84⟩ rfl (Nat.le_of_ble_eq_true rfl) d_Mod_block_21 (fun v8 s7 _ => ?_)
      refine xW_locs (lv' := [(0, .ref x0), (1, .int x1)]) rfl ?_
      refine xW_loop (lvf := fun (z24 : HS) => [(0, .ref x0), (1, .int x1)]) (hsf := fun (z24 : HS) => z24) (fun again24 ih24 z24 => ?_) FU s7
      refine xW_pure (fun _ _ _ _ _ => am_aload_n d_Mod_block_24 rfl rfl) ?_
      refine xW_pure (fun _ _ _ _ _ => am_ldcS (T.2.2 8 ("StowTongueModel", 212, "}") rfl) d_Mod_block_25) ?_
      refine xW_callV O (dx_Mod_is O T) (fun _ e => ob_Mod_is e) rfl rfl rfl l_Mod_80 ⟨w_1833, w_86⟩ rfl (Nat.le_of_ble_eq_true rfl) d_Mod_block_27 (fun v10 s9 _ => ?_)
      refine xW_ite (fun _ _ _ _ _ k1 k2 => am_if_ne (tgt := 45) d_Mod_block_30 (by decide) k2 k1) (fun _ => ?_) (fun _ => ?_)
      · refine xW_pure (fun _ _ _ _ _ => am_aload_n d_Mod_block_33 rfl rfl) ?_
        refine xW_pure (fun _ _ _ _ _ => am_iload_n d_Mod_block_34 rfl rfl) ?_
        refine xW_pure (fun _ _ _ _ _ => am_iconst (v := 1) d_Mod_block_35 (by decide)) ?_
        refine xW_pure (fun _ _ _ _ _ => am_iadd d_Mod_block_36) ?_
        refine xW_callV O (H.2.2.1 _ _ _ _ _).1 (H.2.2.1 _ _ _ _ _).2 rfl rfl rfl l_Mod_157 ⟨w_1871, w_94⟩ rfl (Nat.le_of_ble_eq_true rfl) d_Mod_block_37 (fun v12 s11 _ => ?_)
        refine xW_ite (fun _ _ _ _ _ k1 k2 => am_if_ne (tgt := 24) d_Mod_block_40 (by decide) k2 k1) (fun _ => ?_) (fun _ => ?_)
        · refine xW_pure (fun _ _ _ _ _ => am_iconst (v := 0) d_Mod_block_43 (by decide)) ?_
          exact xW_ret (fun _ _ _ _ _ => am_zret (ty := .boolean) rfl rfl d_Mod_block_44)
        · refine xW_locs (lv' := [(0, .ref x0), (1, .int x1)]) rfl ?_
          exact ih24 s11
      · refine xW_pure (fun _ _ _ _ _ => am_aload_n d_Mod_block_45 rfl rfl) ?_
        refine xW_callV O (dx_Mod_step O T) (fun _ e => ob_Mod_step e) rfl rfl rfl l_Mod_87 ⟨w_1808, w_84⟩ rfl (Nat.le_of_ble_eq_true rfl) d_Mod_block_46 (fun v14 s13 _ => ?_)
        refine xW_pure (fun _ _ _ _ _ => am_iconst (v := 1) d_Mod_block_49 (by decide)) ?_
        exact xW_ret (fun _ _ _ _ _ => am_zret (ty := .boolean) rfl rfl d_Mod_block_50)

set_option maxRecDepth 100000 in
def x_Mod_test_b (c : CLT) (d : Nat) (x0 : Nat) (x1 : Int32) (s : HS) : Option (Int32 × HS) := gd s x0 14 (bnd (x_Mod_is d x0 14 s) fun v2 s1 => (if v2 = 0 then (bnd (x_Mod_bad d x0 s1) fun v4 s3 => (okB v4 (some (v4, s3)))) else (if x1 = 16 then (bnd (x_Mod_bad d x0 s1) fun v6 s5 => (okB v6 (some (v6, s5)))) else (bnd (x_Mod_step d x0 s1) fun v8 s7 => (bnd ((c 6 x0 (x1 + 1) 0 0 s7)) fun v10 s9 => (if v10 = 0 then (some (0, s9)) else (bnd (x_Mod_take d x0 16 s9) fun v12 s11 => (if v12 = 0 then (some (0, s11)) else (some (1, s11))))))))))

set_option maxRecDepth 100000 in
set_option maxHeartbeats 4000000 in
theorem dx_Mod_test_b (O : am_ok K X) (T : am_T K) {c : CLT} {d : Nat} (H : HC_M K X c d) {x0 : Nat} {x1 : Int32} {s : HS} : xM cvI K X m_Mod_test (d + 1) [.ref x0, .int x1] s (x_Mod_test_b c d x0 x1 s) := by
  unfold x_Mod_test_b
  refine xM_enter (by decide +kernel) (Nat.le_of_ble_eq_true rfl) ?_
  refine xW_gd (fun _ => ?_)
  refine xW_pure (fun _ _ _ _ _ => am_aload_n d_Mod_test_0 rfl rfl) ?_
  refine xW_pure (fun _ _ _ _ _ => am_ldcS (T.2.2 4 ("StowTongueModel", 177, "(") rfl) d_Mod_test_1) ?_
  refine xW_callV O (dx_Mod_is O T) (fun _ e => ob_Mod_is e) rfl rfl rfl l_Mod_80 ⟨w_1833, w_86⟩ rfl (Nat.le_of_ble_eq_true rfl) d_Mod_test_3 (fun v2 s1 _ => ?_)
  refine xW_ite (fun _ _ _ _ _ => am_if_eq (tgt := 15) d_Mod_test_6 (by decide)) (fun _ => ?_) (fun _ => ?_)
  · refine xW_pure (fun _ _ _ _ _ => am_aload_n d_Mod_test_15 rfl rfl) ?_
    refine xW_callV O (dx_Mod_bad O T) (fun _ e => ob_Mod_bad e) rfl rfl rfl l_Mod_84 ⟨w_1841, w_88⟩ rfl (Nat.le_of_ble_eq_true rfl) d_Mod_test_16 (fun v4 s3 _ => ?_)
    refine xW_okB (fun hz => ?_)
    exact xW_ret (fun _ _ _ _ _ => am_zret (ty := .boolean) rfl (bz_nar hz) d_Mod_test_19)
  · refine xW_pure (fun _ _ _ _ _ => am_iload_n d_Mod_test_9 rfl rfl) ?_
    refine xW_pure (fun _ _ _ _ _ => am_bipush (v := 16) d_Mod_test_10 (by decide)) ?_
    refine xW_ite (fun _ _ _ _ _ k1 k2 => am_icmp_ne (tgt := 20) d_Mod_test_12 (by decide) k2 k1) (fun _ => ?_) (fun _ => ?_)
    · refine xW_pure (fun _ _ _ _ _ => am_aload_n d_Mod_test_15 rfl rfl) ?_
      refine xW_callV O (dx_Mod_bad O T) (fun _ e => ob_Mod_bad e) rfl rfl rfl l_Mod_84 ⟨w_1841, w_88⟩ rfl (Nat.le_of_ble_eq_true rfl) d_Mod_test_16 (fun v6 s5 _ => ?_)
      refine xW_okB (fun hz => ?_)
      exact xW_ret (fun _ _ _ _ _ => am_zret (ty := .boolean) rfl (bz_nar hz) d_Mod_test_19)
    · refine xW_pure (fun _ _ _ _ _ => am_aload_n d_Mod_test_20 rfl rfl) ?_
      refine xW_callV O (dx_Mod_step O T) (fun _ e => ob_Mod_step e) rfl rfl rfl l_Mod_87 ⟨w_1808, w_84⟩ rfl (Nat.le_of_ble_eq_true rfl) d_Mod_test_21 (fun v8 s7 _ => ?_)
      refine xW_pure (fun _ _ _ _ _ => am_aload_n d_Mod_test_24 rfl rfl) ?_
      refine xW_pure (fun _ _ _ _ _ => am_iload_n d_Mod_test_25 rfl rfl) ?_
      refine xW_pure (fun _ _ _ _ _ => am_iconst (v := 1) d_Mod_test_26 (by decide)) ?_
      refine xW_pure (fun _ _ _ _ _ => am_iadd d_Mod_test_27) ?_
      refine xW_callV O (H.2.2.2.2.2.2.1 _ _ _ _ _).1 (H.2.2.2.2.2.2.1 _ _ _ _ _).2 rfl rfl rfl l_Mod_214 ⟨w_1881, w_96⟩ rfl (Nat.le_of_ble_eq_true rfl) d_Mod_test_28 (fun v10 s9 _ => ?_)
      refine xW_ite (fun _ _ _ _ _ => am_if_eq (tgt := 47) d_Mod_test_31 (by decide)) (fun _ => ?_) (fun _ => ?_)
      · refine xW_pure (fun _ _ _ _ _ => am_iconst (v := 0) d_Mod_test_47 (by decide)) ?_
        exact xW_ret (fun _ _ _ _ _ => am_zret (ty := .boolean) rfl rfl d_Mod_test_48)
      · refine xW_pure (fun _ _ _ _ _ => am_aload_n d_Mod_test_34 rfl rfl) ?_
        refine xW_pure (fun _ _ _ _ _ => am_ldcS (T.2.2 5 ("StowTongueModel", 182, ")") rfl) d_Mod_test_35) ?_
        refine xW_callV O (dx_Mod_take O T) (fun _ e => ob_Mod_take e) rfl rfl rfl l_Mod_179 ⟨w_1851, w_90⟩ rfl (Nat.le_of_ble_eq_true rfl) d_Mod_test_37 (fun v12 s11 _ => ?_)
        refine xW_ite (fun _ _ _ _ _ => am_if_eq (tgt := 47) d_Mod_test_40 (by decide)) (fun _ => ?_) (fun _ => ?_)
        · refine xW_pure (fun _ _ _ _ _ => am_iconst (v := 0) d_Mod_test_47 (by decide)) ?_
          exact xW_ret (fun _ _ _ _ _ => am_zret (ty := .boolean) rfl rfl d_Mod_test_48)
        · refine xW_pure (fun _ _ _ _ _ => am_iconst (v := 1) d_Mod_test_43 (by decide)) ?_
          refine xW_pure (fun _ _ _ _ _ => am_goto (tgt := 48) d_Mod_test_44 (by decide)) ?_
          exact xW_ret (fun _ _ _ _ _ => am_zret (ty := .boolean) rfl rfl d_Mod_test_48)

set_option maxRecDepth 100000 in
def x_Mod_statement_b (c : CLT) (d : Nat) (x0 : Nat) (x1 : Int32) (s : HS) : Option (Int32 × HS) := gd s x0 14 (bnd (x_Mod_is d x0 20 s) fun v2 s1 => (if v2 = 0 then (bnd (x_Mod_put_I d x0 23 s1) fun v4 s3 => (bnd (x_Mod_is d x0 24 s3) fun v6 s5 => (if v6 = 0 then (bnd (x_Mod_is d x0 70 s5) fun v8 s7 => (if v8 = 0 then (bnd (x_Mod_is d x0 74 s7) fun v10 s9 => (if v10 = 0 then (bnd (x_Mod_is d x0 76 s9) fun v12 s11 => (if v12 = 0 then (bnd (x_Mod_is d x0 78 s11) fun v14 s13 => (if v14 = 0 then (bnd (x_Mod_is d x0 80 s13) fun v16 s15 => (if v16 = 0 then (bnd ((c 5 x0 x1 0 0 s15)) fun v18 s17 => (okB v18 (some (v18, s17)))) else (bnd (x_Mod_step d x0 s15) fun v20 s19 => (bnd ((c 6 x0 x1 0 0 s19)) fun v22 s21 => (if v22 = 0 then (some (0, s21)) else (bnd (x_Mod_put_I d x0 24 s21) fun v24 s23 => (bnd (x_Mod_take d x0 68 s23) fun v26 s25 => (okB v26 (some (v26, s25)))))))))) else (bnd (x_Mod_step d x0 s13) fun v28 s27 => (bnd (x_Mod_put_I d x0 25 s27) fun v30 s29 => (bnd (x_Mod_take d x0 68 s29) fun v32 s31 => (okB v32 (some (v32, s31)))))))) else (bnd (x_Mod_step d x0 s11) fun v34 s33 => (bnd (x_Mod_is d x0 68 s33) fun v36 s35 => (if v36 = 0 then (bnd ((c 6 x0 x1 0 0 s35)) fun v38 s37 => (if v38 = 0 then (some (0, s37)) else (bnd (x_Mod_put_I d x0 26 s37) fun v40 s39 => (bnd (x_Mod_take d x0 68 s39) fun v42 s41 => (okB v42 (some (v42, s41))))))) else (bnd (x_Mod_value_IIJJ d x0 0 0 0 0 s35) fun v44 s43 => (bnd (x_Mod_put_I d x0 26 s43) fun v46 s45 => (bnd (x_Mod_take d x0 68 s45) fun v48 s47 => (okB v48 (some (v48, s47))))))))))) else (bnd ((c 4 x0 x1 0 0 s9)) fun v50 s49 => (okB v50 (some (v50, s49)))))) else (bnd ((c 3 x0 x1 0 0 s7)) fun v52 s51 => (okB v52 (some (v52, s51)))))) else (bnd (x_Mod_step d x0 s5) fun v54 s53 => ((gI s53 x0 14 6).bind fun v55 => (if v55 = 1 then (bnd (x_Mod_name d x0 s53) fun v57 s56 => (bnd (x_Mod_let d x0 v57 s56) fun v59 s58 => (bnd (x_Mod_step d x0 s58) fun v61 s60 => (bnd (x_Mod_take d x0 26 s60) fun v63 s62 => (if v63 = 0 then (some (0, s62)) else (bnd ((c 6 x0 x1 0 0 s62)) fun v65 s64 => (if v65 = 0 then (some (0, s64)) else (bnd (x_Mod_put_II d x0 2 v59 s64) fun v67 s66 => (bnd (x_Mod_take d x0 68 s66) fun v69 s68 => (okB v69 (some (v69, s68)))))))))))) else (bnd (x_Mod_bad d x0 s53) fun v71 s70 => (okB v71 (some (v71, s70)))))))))) else (bnd ((c 0 x0 x1 0 0 s1)) fun v73 s72 => (okB v73 (some (v73, s72))))))

set_option maxRecDepth 100000 in
set_option maxHeartbeats 4000000 in
theorem dx_Mod_statement_b (O : am_ok K X) (T : am_T K) {c : CLT} {d : Nat} (H : HC_M K X c d) {x0 : Nat} {x1 : Int32} {s : HS} : xM cvI K X m_Mod_statement (d + 1) [.ref x0, .int x1] s (x_Mod_statement_b c d x0 x1 s) := by
  unfold x_Mod_statement_b
  refine xM_enter (by decide +kernel) (Nat.le_of_ble_eq_true rfl) ?_
  refine xW_gd (fun _ => ?_)
  refine xW_pure (fun _ _ _ _ _ => am_aload_n d_Mod_statement_0 rfl rfl) ?_
  refine xW_pure (fun _ _ _ _ _ => am_ldcS (T.2.2 7 ("StowTongueModel", 210, "{") rfl) d_Mod_statement_1) ?_
  refine xW_callV O (dx_Mod_is O T) (fun _ e => ob_Mod_is e) rfl rfl rfl l_Mod_80 ⟨w_1833, w_86⟩ rfl (Nat.le_of_ble_eq_true rfl) d_Mod_statement_3 (fun v2 s1 _ => ?_)
  refine xW_ite (fun _ _ _ _ _ => am_if_eq (tgt := 15) d_Mod_statement_6 (by decide)) (fun _ => ?_) (fun _ => ?_)
  · refine xW_pure (fun _ _ _ _ _ => am_aload_n d_Mod_statement_15 rfl rfl) ?_
    refine xW_pure (fun _ _ _ _ _ => am_bipush (v := 23) d_Mod_statement_16 (by decide)) ?_
    refine xW_callV O (dx_Mod_put_I O T) (fun _ e => ob_Mod_put_I e) rfl rfl rfl l_Mod_103 ⟨w_1875, w_95⟩ rfl (Nat.le_of_ble_eq_true rfl) d_Mod_statement_18 (fun v4 s3 _ => ?_)
    refine xW_pure (fun _ _ _ _ _ => am_pop d_Mod_statement_21 rfl) ?_
    refine xW_pure (fun _ _ _ _ _ => am_aload_n d_Mod_statement_22 rfl rfl) ?_
    refine xW_pure (fun _ _ _ _ _ => am_ldcS (T.2.2 9 ("StowTongueModel", 217, "let") rfl) d_Mod_statement_23) ?_
    refine xW_callV O (dx_Mod_is O T) (fun _ e => ob_Mod_is e) rfl rfl rfl l_Mod_80 ⟨w_1833, w_86⟩ rfl (Nat.le_of_ble_eq_true rfl) d_Mod_statement_25 (fun v6 s5 _ => ?_)
    refine xW_ite (fun _ _ _ _ _ => am_if_eq (tgt := 93) d_Mod_statement_28 (by decide)) (fun _ => ?_) (fun _ => ?_)
    · refine xW_pure (fun _ _ _ _ _ => am_aload_n d_Mod_statement_93 rfl rfl) ?_
      refine xW_pure (fun _ _ _ _ _ => am_ldcS (T.2.2 32 ("StowTongueModel", 222, "if") rfl) d_Mod_statement_94) ?_
      refine xW_callV O (dx_Mod_is O T) (fun _ e => ob_Mod_is e) rfl rfl rfl l_Mod_80 ⟨w_1833, w_86⟩ rfl (Nat.le_of_ble_eq_true rfl) d_Mod_statement_96 (fun v8 s7 _ => ?_)
      refine xW_ite (fun _ _ _ _ _ => am_if_eq (tgt := 108) d_Mod_statement_99 (by decide)) (fun _ => ?_) (fun _ => ?_)
      · refine xW_pure (fun _ _ _ _ _ => am_aload_n d_Mod_statement_108 rfl rfl) ?_
        refine xW_pure (fun _ _ _ _ _ => am_ldcS (T.2.2 34 ("StowTongueModel", 227, "while") rfl) d_Mod_statement_109) ?_
        refine xW_callV O (dx_Mod_is O T) (fun _ e => ob_Mod_is e) rfl rfl rfl l_Mod_80 ⟨w_1833, w_86⟩ rfl (Nat.le_of_ble_eq_true rfl) d_Mod_statement_111 (fun v10 s9 _ => ?_)
        refine xW_ite (fun _ _ _ _ _ => am_if_eq (tgt := 123) d_Mod_statement_114 (by decide)) (fun _ => ?_) (fun _ => ?_)
        · refine xW_pure (fun _ _ _ _ _ => am_aload_n d_Mod_statement_123 rfl rfl) ?_
          refine xW_pure (fun _ _ _ _ _ => am_ldcS (T.2.2 35 ("StowTongueModel", 232, "return") rfl) d_Mod_statement_124) ?_
          refine xW_callV O (dx_Mod_is O T) (fun _ e => ob_Mod_is e) rfl rfl rfl l_Mod_80 ⟨w_1833, w_86⟩ rfl (Nat.le_of_ble_eq_true rfl) d_Mod_statement_126 (fun v12 s11 _ => ?_)
          refine xW_ite (fun _ _ _ _ _ => am_if_eq (tgt := 180) d_Mod_statement_129 (by decide)) (fun _ => ?_) (fun _ => ?_)
          · refine xW_pure (fun _ _ _ _ _ => am_aload_n d_Mod_statement_180 rfl rfl) ?_
            refine xW_pure (fun _ _ _ _ _ => am_ldcS (T.2.2 36 ("StowTongueModel", 237, "abort") rfl) d_Mod_statement_181) ?_
            refine xW_callV O (dx_Mod_is O T) (fun _ e => ob_Mod_is e) rfl rfl rfl l_Mod_80 ⟨w_1833, w_86⟩ rfl (Nat.le_of_ble_eq_true rfl) d_Mod_statement_183 (fun v14 s13 _ => ?_)
            refine xW_ite (fun _ _ _ _ _ => am_if_eq (tgt := 207) d_Mod_statement_186 (by decide)) (fun _ => ?_) (fun _ => ?_)
            · refine xW_pure (fun _ _ _ _ _ => am_aload_n d_Mod_statement_207 rfl rfl) ?_
              refine xW_pure (fun _ _ _ _ _ => am_ldcS (T.2.2 37 ("StowTongueModel", 239, "print") rfl) d_Mod_statement_208) ?_
              refine xW_callV O (dx_Mod_is O T) (fun _ e => ob_Mod_is e) rfl rfl rfl l_Mod_80 ⟨w_1833, w_86⟩ rfl (Nat.le_of_ble_eq_true rfl) d_Mod_statement_210 (fun v16 s15 _ => ?_)
              refine xW_ite (fun _ _ _ _ _ => am_if_eq (tgt := 244) d_Mod_statement_213 (by decide)) (fun _ => ?_) (fun _ => ?_)
              · refine xW_pure (fun _ _ _ _ _ => am_aload_n d_Mod_statement_244 rfl rfl) ?_
                refine xW_pure (fun _ _ _ _ _ => am_iload_n d_Mod_statement_245 rfl rfl) ?_
                refine xW_callV O (H.2.2.2.2.2.1 _ _ _ _ _).1 (H.2.2.2.2.2.1 _ _ _ _ _).2 rfl rfl rfl l_Mod_241 ⟨w_1984, w_113⟩ rfl (Nat.le_of_ble_eq_true rfl) d_Mod_statement_246 (fun v18 s17 _ => ?_)
                refine xW_okB (fun hz => ?_)
                exact xW_ret (fun _ _ _ _ _ => am_zret (ty := .boolean) rfl (bz_nar hz) d_Mod_statement_249)
              · refine xW_pure (fun _ _ _ _ _ => am_aload_n d_Mod_statement_216 rfl rfl) ?_
                refine xW_callV O (dx_Mod_step O T) (fun _ e => ob_Mod_step e) rfl rfl rfl l_Mod_87 ⟨w_1808, w_84⟩ rfl (Nat.le_of_ble_eq_true rfl) d_Mod_statement_217 (fun v20 s19 _ => ?_)
                refine xW_pure (fun _ _ _ _ _ => am_aload_n d_Mod_statement_220 rfl rfl) ?_
                refine xW_pure (fun _ _ _ _ _ => am_iload_n d_Mod_statement_221 rfl rfl) ?_
                refine xW_callV O (H.2.2.2.2.2.2.1 _ _ _ _ _).1 (H.2.2.2.2.2.2.1 _ _ _ _ _).2 rfl rfl rfl l_Mod_214 ⟨w_1881, w_96⟩ rfl (Nat.le_of_ble_eq_true rfl) d_Mod_statement_222 (fun v22 s21 _ => ?_)
                refine xW_ite (fun _ _ _ _ _ k1 k2 => am_if_ne (tgt := 230) d_Mod_statement_225 (by decide) k2 k1) (fun _ => ?_) (fun _ => ?_)
                · refine xW_pure (fun _ _ _ _ _ => am_iconst (v := 0) d_Mod_statement_228 (by decide)) ?_
                  exact xW_ret (fun _ _ _ _ _ => am_zret (ty := .boolean) rfl rfl d_Mod_statement_229)
                · refine xW_pure (fun _ _ _ _ _ => am_aload_n d_Mod_statement_230 rfl rfl) ?_
                  refine xW_pure (fun _ _ _ _ _ => am_bipush (v := 24) d_Mod_statement_231 (by decide)) ?_
                  refine xW_callV O (dx_Mod_put_I O T) (fun _ e => ob_Mod_put_I e) rfl rfl rfl l_Mod_103 ⟨w_1875, w_95⟩ rfl (Nat.le_of_ble_eq_true rfl) d_Mod_statement_233 (fun v24 s23 _ => ?_)
                  refine xW_pure (fun _ _ _ _ _ => am_pop d_Mod_statement_236 rfl) ?_
                  refine xW_pure (fun _ _ _ _ _ => am_aload_n d_Mod_statement_237 rfl rfl) ?_
                  refine xW_pure (fun _ _ _ _ _ => am_ldcS (T.2.2 31 ("StowTongueModel", 220, ";") rfl) d_Mod_statement_238) ?_
                  refine xW_callV O (dx_Mod_take O T) (fun _ e => ob_Mod_take e) rfl rfl rfl l_Mod_179 ⟨w_1851, w_90⟩ rfl (Nat.le_of_ble_eq_true rfl) d_Mod_statement_240 (fun v26 s25 _ => ?_)
                  refine xW_okB (fun hz => ?_)
                  exact xW_ret (fun _ _ _ _ _ => am_zret (ty := .boolean) rfl (bz_nar hz) d_Mod_statement_243)
            · refine xW_pure (fun _ _ _ _ _ => am_aload_n d_Mod_statement_189 rfl rfl) ?_
              refine xW_callV O (dx_Mod_step O T) (fun _ e => ob_Mod_step e) rfl rfl rfl l_Mod_87 ⟨w_1808, w_84⟩ rfl (Nat.le_of_ble_eq_true rfl) d_Mod_statement_190 (fun v28 s27 _ => ?_)
              refine xW_pure (fun _ _ _ _ _ => am_aload_n d_Mod_statement_193 rfl rfl) ?_
              refine xW_pure (fun _ _ _ _ _ => am_bipush (v := 25) d_Mod_statement_194 (by decide)) ?_
              refine xW_callV O (dx_Mod_put_I O T) (fun _ e => ob_Mod_put_I e) rfl rfl rfl l_Mod_103 ⟨w_1875, w_95⟩ rfl (Nat.le_of_ble_eq_true rfl) d_Mod_statement_196 (fun v30 s29 _ => ?_)
              refine xW_pure (fun _ _ _ _ _ => am_pop d_Mod_statement_199 rfl) ?_
              refine xW_pure (fun _ _ _ _ _ => am_aload_n d_Mod_statement_200 rfl rfl) ?_
              refine xW_pure (fun _ _ _ _ _ => am_ldcS (T.2.2 31 ("StowTongueModel", 220, ";") rfl) d_Mod_statement_201) ?_
              refine xW_callV O (dx_Mod_take O T) (fun _ e => ob_Mod_take e) rfl rfl rfl l_Mod_179 ⟨w_1851, w_90⟩ rfl (Nat.le_of_ble_eq_true rfl) d_Mod_statement_203 (fun v32 s31 _ => ?_)
              refine xW_okB (fun hz => ?_)
              exact xW_ret (fun _ _ _ _ _ => am_zret (ty := .boolean) rfl (bz_nar hz) d_Mod_statement_206)
          · refine xW_pure (fun _ _ _ _ _ => am_aload_n d_Mod_statement_132 rfl rfl) ?_
            refine xW_callV O (dx_Mod_step O T) (fun _ e => ob_Mod_step e) rfl rfl rfl l_Mod_87 ⟨w_1808, w_84⟩ rfl (Nat.le_of_ble_eq_true rfl) d_Mod_statement_133 (fun v34 s33 _ => ?_)
            refine xW_pure (fun _ _ _ _ _ => am_aload_n d_Mod_statement_136 rfl rfl) ?_
            refine xW_pure (fun _ _ _ _ _ => am_ldcS (T.2.2 31 ("StowTongueModel", 220, ";") rfl) d_Mod_statement_137) ?_
            refine xW_callV O (dx_Mod_is O T) (fun _ e => ob_Mod_is e) rfl rfl rfl l_Mod_80 ⟨w_1833, w_86⟩ rfl (Nat.le_of_ble_eq_true rfl) d_Mod_statement_139 (fun v36 s35 _ => ?_)
            refine xW_ite (fun _ _ _ _ _ => am_if_eq (tgt := 156) d_Mod_statement_142 (by decide)) (fun _ => ?_) (fun _ => ?_)
            · refine xW_pure (fun _ _ _ _ _ => am_aload_n d_Mod_statement_156 rfl rfl) ?_
              refine xW_pure (fun _ _ _ _ _ => am_iload_n d_Mod_statement_157 rfl rfl) ?_
              refine xW_callV O (H.2.2.2.2.2.2.1 _ _ _ _ _).1 (H.2.2.2.2.2.2.1 _ _ _ _ _).2 rfl rfl rfl l_Mod_214 ⟨w_1881, w_96⟩ rfl (Nat.le_of_ble_eq_true rfl) d_Mod_statement_158 (fun v38 s37 _ => ?_)
              refine xW_ite (fun _ _ _ _ _ k1 k2 => am_if_ne (tgt := 166) d_Mod_statement_161 (by decide) k2 k1) (fun _ => ?_) (fun _ => ?_)
              · refine xW_pure (fun _ _ _ _ _ => am_iconst (v := 0) d_Mod_statement_164 (by decide)) ?_
                exact xW_ret (fun _ _ _ _ _ => am_zret (ty := .boolean) rfl rfl d_Mod_statement_165)
              · refine xW_pure (fun _ _ _ _ _ => am_aload_n d_Mod_statement_166 rfl rfl) ?_
                refine xW_pure (fun _ _ _ _ _ => am_bipush (v := 26) d_Mod_statement_167 (by decide)) ?_
                refine xW_callV O (dx_Mod_put_I O T) (fun _ e => ob_Mod_put_I e) rfl rfl rfl l_Mod_103 ⟨w_1875, w_95⟩ rfl (Nat.le_of_ble_eq_true rfl) d_Mod_statement_169 (fun v40 s39 _ => ?_)
                refine xW_pure (fun _ _ _ _ _ => am_pop d_Mod_statement_172 rfl) ?_
                refine xW_pure (fun _ _ _ _ _ => am_aload_n d_Mod_statement_173 rfl rfl) ?_
                refine xW_pure (fun _ _ _ _ _ => am_ldcS (T.2.2 31 ("StowTongueModel", 220, ";") rfl) d_Mod_statement_174) ?_
                refine xW_callV O (dx_Mod_take O T) (fun _ e => ob_Mod_take e) rfl rfl rfl l_Mod_179 ⟨w_1851, w_90⟩ rfl (Nat.le_of_ble_eq_true rfl) d_Mod_statement_176 (fun v42 s41 _ => ?_)
                refine xW_okB (fun hz => ?_)
                exact xW_ret (fun _ _ _ _ _ => am_zret (ty := .boolean) rfl (bz_nar hz) d_Mod_statement_179)
            · refine xW_pure (fun _ _ _ _ _ => am_aload_n d_Mod_statement_145 rfl rfl) ?_
              refine xW_pure (fun _ _ _ _ _ => am_iconst (v := 0) d_Mod_statement_146 (by decide)) ?_
              refine xW_pure (fun _ _ _ _ _ => am_iconst (v := 0) d_Mod_statement_147 (by decide)) ?_
              refine xW_pure (fun _ _ _ _ _ => am_lconst (v := 0) d_Mod_statement_148 (by decide)) ?_
              refine xW_pure (fun _ _ _ _ _ => am_lconst (v := 0) d_Mod_statement_149 (by decide)) ?_
              refine xW_callV O (dx_Mod_value_IIJJ O T) (fun _ e => ob_Mod_value_IIJJ e) rfl rfl rfl l_Mod_234 ⟨w_1911, w_103⟩ rfl (Nat.le_of_ble_eq_true rfl) d_Mod_statement_150 (fun v44 s43 _ => ?_)
              refine xW_pure (fun _ _ _ _ _ => am_goto (tgt := 166) d_Mod_statement_153 (by decide)) ?_
              refine xW_pure (fun _ _ _ _ _ => am_aload_n d_Mod_statement_166 rfl rfl) ?_
              refine xW_pure (fun _ _ _ _ _ => am_bipush (v := 26) d_Mod_statement_167 (by decide)) ?_
              refine xW_callV O (dx_Mod_put_I O T) (fun _ e => ob_Mod_put_I e) rfl rfl rfl l_Mod_103 ⟨w_1875, w_95⟩ rfl (Nat.le_of_ble_eq_true rfl) d_Mod_statement_169 (fun v46 s45 _ => ?_)
              refine xW_pure (fun _ _ _ _ _ => am_pop d_Mod_statement_172 rfl) ?_
              refine xW_pure (fun _ _ _ _ _ => am_aload_n d_Mod_statement_173 rfl rfl) ?_
              refine xW_pure (fun _ _ _ _ _ => am_ldcS (T.2.2 31 ("StowTongueModel", 220, ";") rfl) d_Mod_statement_174) ?_
              refine xW_callV O (dx_Mod_take O T) (fun _ e => ob_Mod_take e) rfl rfl rfl l_Mod_179 ⟨w_1851, w_90⟩ rfl (Nat.le_of_ble_eq_true rfl) d_Mod_statement_176 (fun v48 s47 _ => ?_)
              refine xW_okB (fun hz => ?_)
              exact xW_ret (fun _ _ _ _ _ => am_zret (ty := .boolean) rfl (bz_nar hz) d_Mod_statement_179)
        · refine xW_pure (fun _ _ _ _ _ => am_aload_n d_Mod_statement_117 rfl rfl) ?_
          refine xW_pure (fun _ _ _ _ _ => am_iload_n d_Mod_statement_118 rfl rfl) ?_
          refine xW_callV O (H.2.2.2.2.1 _ _ _ _ _).1 (H.2.2.2.2.1 _ _ _ _ _).2 rfl rfl rfl l_Mod_229 ⟨w_1977, w_112⟩ rfl (Nat.le_of_ble_eq_true rfl) d_Mod_statement_119 (fun v50 s49 _ => ?_)
          refine xW_okB (fun hz => ?_)
          exact xW_ret (fun _ _ _ _ _ => am_zret (ty := .boolean) rfl (bz_nar hz) d_Mod_statement_122)
      · refine xW_pure (fun _ _ _ _ _ => am_aload_n d_Mod_statement_102 rfl rfl) ?_
        refine xW_pure (fun _ _ _ _ _ => am_iload_n d_Mod_statement_103 rfl rfl) ?_
        refine xW_callV O (H.2.2.2.1 _ _ _ _ _).1 (H.2.2.2.1 _ _ _ _ _).2 rfl rfl rfl l_Mod_224 ⟨w_1967, w_110⟩ rfl (Nat.le_of_ble_eq_true rfl) d_Mod_statement_104 (fun v52 s51 _ => ?_)
        refine xW_okB (fun hz => ?_)
        exact xW_ret (fun _ _ _ _ _ => am_zret (ty := .boolean) rfl (bz_nar hz) d_Mod_statement_107)
    · refine xW_pure (fun _ _ _ _ _ => am_aload_n d_Mod_statement_31 rfl rfl) ?_
      refine xW_callV O (dx_Mod_step O T) (fun _ e => ob_Mod_step e) rfl rfl rfl l_Mod_87 ⟨w_1808, w_84⟩ rfl (Nat.le_of_ble_eq_true rfl) d_Mod_statement_32 (fun v54 s53 _ => ?_)
      refine xW_pure (fun _ _ _ _ _ => am_aload_n d_Mod_statement_35 rfl rfl) ?_
      refine xW_gI O f_Mod_32 d_Mod_statement_36 (fun v55 _ => ?_)
      refine xW_pure (fun _ _ _ _ _ => am_iconst (v := 1) d_Mod_statement_39 (by decide)) ?_
      refine xW_ite (fun _ _ _ _ _ => am_icmp_eq (tgt := 48) d_Mod_statement_40 (by decide)) (fun _ => ?_) (fun _ => ?_)
      · refine xW_pure (fun _ _ _ _ _ => am_aload_n d_Mod_statement_48 rfl rfl) ?_
        refine xW_pure (fun _ _ _ _ _ => am_aload_n d_Mod_statement_49 rfl rfl) ?_
        refine xW_callV O (dx_Mod_name O T) (fun _ e => ob_Mod_name e) rfl rfl rfl l_Mod_164 ⟨w_1845, w_89⟩ rfl (Nat.le_of_ble_eq_true rfl) d_Mod_statement_50 (fun v57 s56 _ => ?_)
        refine xW_callV O (dx_Mod_let O T) (fun _ e => ob_Mod_let e) rfl rfl rfl l_Mod_186 ⟨w_1861, w_92⟩ rfl (Nat.le_of_ble_eq_true rfl) d_Mod_statement_53 (fun v59 s58 _ => ?_)
        refine xW_pure (fun _ _ _ _ _ => am_istore_n d_Mod_statement_56 rfl (Nat.le_of_ble_eq_true rfl)) ?_
        refine xW_pure (fun _ _ _ _ _ => am_aload_n d_Mod_statement_57 rfl rfl) ?_
        refine xW_callV O (dx_Mod_step O T) (fun _ e => ob_Mod_step e) rfl rfl rfl l_Mod_87 ⟨w_1808, w_84⟩ rfl (Nat.le_of_ble_eq_true rfl) d_Mod_statement_58 (fun v61 s60 _ => ?_)
        refine xW_pure (fun _ _ _ _ _ => am_aload_n d_Mod_statement_61 rfl rfl) ?_
        refine xW_pure (fun _ _ _ _ _ => am_ldcS (T.2.2 10 ("StowTongueModel", 218, "=") rfl) d_Mod_statement_62) ?_
        refine xW_callV O (dx_Mod_take O T) (fun _ e => ob_Mod_take e) rfl rfl rfl l_Mod_179 ⟨w_1851, w_90⟩ rfl (Nat.le_of_ble_eq_true rfl) d_Mod_statement_64 (fun v63 s62 _ => ?_)
        refine xW_ite (fun _ _ _ _ _ => am_if_eq (tgt := 78) d_Mod_statement_67 (by decide)) (fun _ => ?_) (fun _ => ?_)
        · refine xW_pure (fun _ _ _ _ _ => am_iconst (v := 0) d_Mod_statement_78 (by decide)) ?_
          exact xW_ret (fun _ _ _ _ _ => am_zret (ty := .boolean) rfl rfl d_Mod_statement_79)
        · refine xW_pure (fun _ _ _ _ _ => am_aload_n d_Mod_statement_70 rfl rfl) ?_
          refine xW_pure (fun _ _ _ _ _ => am_iload_n d_Mod_statement_71 rfl rfl) ?_
          refine xW_callV O (H.2.2.2.2.2.2.1 _ _ _ _ _).1 (H.2.2.2.2.2.2.1 _ _ _ _ _).2 rfl rfl rfl l_Mod_214 ⟨w_1881, w_96⟩ rfl (Nat.le_of_ble_eq_true rfl) d_Mod_statement_72 (fun v65 s64 _ => ?_)
          refine xW_ite (fun _ _ _ _ _ k1 k2 => am_if_ne (tgt := 80) d_Mod_statement_75 (by decide) k2 k1) (fun _ => ?_) (fun _ => ?_)
          · refine xW_pure (fun _ _ _ _ _ => am_iconst (v := 0) d_Mod_statement_78 (by decide)) ?_
            exact xW_ret (fun _ _ _ _ _ => am_zret (ty := .boolean) rfl rfl d_Mod_statement_79)
          · refine xW_pure (fun _ _ _ _ _ => am_aload_n d_Mod_statement_80 rfl rfl) ?_
            refine xW_pure (fun _ _ _ _ _ => am_iconst (v := 2) d_Mod_statement_81 (by decide)) ?_
            refine xW_pure (fun _ _ _ _ _ => am_iload_n d_Mod_statement_82 rfl rfl) ?_
            refine xW_callV O (dx_Mod_put_II O T) (fun _ e => ob_Mod_put_II e) rfl rfl rfl l_Mod_120 ⟨w_1919, w_104⟩ rfl (Nat.le_of_ble_eq_true rfl) d_Mod_statement_83 (fun v67 s66 _ => ?_)
            refine xW_pure (fun _ _ _ _ _ => am_aload_n d_Mod_statement_86 rfl rfl) ?_
            refine xW_pure (fun _ _ _ _ _ => am_ldcS (T.2.2 31 ("StowTongueModel", 220, ";") rfl) d_Mod_statement_87) ?_
            refine xW_callV O (dx_Mod_take O T) (fun _ e => ob_Mod_take e) rfl rfl rfl l_Mod_179 ⟨w_1851, w_90⟩ rfl (Nat.le_of_ble_eq_true rfl) d_Mod_statement_89 (fun v69 s68 _ => ?_)
            refine xW_okB (fun hz => ?_)
            exact xW_ret (fun _ _ _ _ _ => am_zret (ty := .boolean) rfl (bz_nar hz) d_Mod_statement_92)
      · refine xW_pure (fun _ _ _ _ _ => am_aload_n d_Mod_statement_43 rfl rfl) ?_
        refine xW_callV O (dx_Mod_bad O T) (fun _ e => ob_Mod_bad e) rfl rfl rfl l_Mod_84 ⟨w_1841, w_88⟩ rfl (Nat.le_of_ble_eq_true rfl) d_Mod_statement_44 (fun v71 s70 _ => ?_)
        refine xW_okB (fun hz => ?_)
        exact xW_ret (fun _ _ _ _ _ => am_zret (ty := .boolean) rfl (bz_nar hz) d_Mod_statement_47)
  · refine xW_pure (fun _ _ _ _ _ => am_aload_n d_Mod_statement_9 rfl rfl) ?_
    refine xW_pure (fun _ _ _ _ _ => am_iload_n d_Mod_statement_10 rfl rfl) ?_
    refine xW_callV O (H.1 _ _ _ _ _).1 (H.1 _ _ _ _ _).2 rfl rfl rfl l_Mod_198 ⟨w_1865, w_93⟩ rfl (Nat.le_of_ble_eq_true rfl) d_Mod_statement_11 (fun v73 s72 _ => ?_)
    refine xW_okB (fun hz => ?_)
    exact xW_ret (fun _ _ _ _ _ => am_zret (ty := .boolean) rfl (bz_nar hz) d_Mod_statement_14)

set_option maxRecDepth 100000 in
def x_Mod_branch_b (c : CLT) (d : Nat) (x0 : Nat) (x1 : Int32) (s : HS) : Option (Int32 × HS) := gd s x0 14 (bnd (x_Mod_step d x0 s) fun v2 s1 => (bnd ((c 1 x0 x1 0 0 s1)) fun v4 s3 => (if v4 = 0 then (some (0, s3)) else (bnd (x_Mod_put_I d x0 15 s3) fun v6 s5 => (bnd (x_Mod_put_I d x0 0 s5) fun v8 s7 => (bnd ((c 0 x0 x1 0 0 s7)) fun v10 s9 => (if v10 = 0 then (some (0, s9)) else (bnd (x_Mod_is d x0 72 s9) fun v12 s11 => (if v12 = 0 then ((gR s11 x0 14 22).bind fun v13 => ((gR s11 v13 12 0).bind fun v14 => ((gR s11 x0 14 22).bind fun v15 => ((gI s11 v15 12 2).bind fun v16 => ((sV s11 .int v14 v8 (.int v16)).bind fun s17 => (some (1, s17))))))) else (bnd (x_Mod_step d x0 s11) fun v19 s18 => (bnd (x_Mod_put_I d x0 14 s18) fun v21 s20 => (bnd (x_Mod_put_I d x0 0 s20) fun v23 s22 => ((gR s22 x0 14 22).bind fun v24 => ((gR s22 v24 12 0).bind fun v25 => ((gR s22 x0 14 22).bind fun v26 => ((gI s22 v26 12 2).bind fun v27 => ((sV s22 .int v25 v8 (.int v27)).bind fun s28 => (bnd ((c 0 x0 x1 0 0 s28)) fun v30 s29 => (if v30 = 0 then (some (0, s29)) else ((gR s29 x0 14 22).bind fun v31 => ((gR s29 v31 12 0).bind fun v32 => ((gR s29 x0 14 22).bind fun v33 => ((gI s29 v33 12 2).bind fun v34 => ((sV s29 .int v32 v23 (.int v34)).bind fun s35 => (some (1, s35))))))))))))))))))))))))))

set_option maxRecDepth 100000 in
set_option maxHeartbeats 4000000 in
theorem dx_Mod_branch_b (O : am_ok K X) (T : am_T K) {c : CLT} {d : Nat} (H : HC_M K X c d) {x0 : Nat} {x1 : Int32} {s : HS} : xM cvI K X m_Mod_branch (d + 1) [.ref x0, .int x1] s (x_Mod_branch_b c d x0 x1 s) := by
  unfold x_Mod_branch_b
  refine xM_enter (by decide +kernel) (Nat.le_of_ble_eq_true rfl) ?_
  refine xW_gd (fun _ => ?_)
  refine xW_pure (fun _ _ _ _ _ => am_aload_n d_Mod_branch_0 rfl rfl) ?_
  refine xW_callV O (dx_Mod_step O T) (fun _ e => ob_Mod_step e) rfl rfl rfl l_Mod_87 ⟨w_1808, w_84⟩ rfl (Nat.le_of_ble_eq_true rfl) d_Mod_branch_1 (fun v2 s1 _ => ?_)
  refine xW_pure (fun _ _ _ _ _ => am_aload_n d_Mod_branch_4 rfl rfl) ?_
  refine xW_pure (fun _ _ _ _ _ => am_iload_n d_Mod_branch_5 rfl rfl) ?_
  refine xW_callV O (H.2.1 _ _ _ _ _).1 (H.2.1 _ _ _ _ _).2 rfl rfl rfl l_Mod_244 ⟨w_1971, w_111⟩ rfl (Nat.le_of_ble_eq_true rfl) d_Mod_branch_6 (fun v4 s3 _ => ?_)
  refine xW_ite (fun _ _ _ _ _ k1 k2 => am_if_ne (tgt := 14) d_Mod_branch_9 (by decide) k2 k1) (fun _ => ?_) (fun _ => ?_)
  · refine xW_pure (fun _ _ _ _ _ => am_iconst (v := 0) d_Mod_branch_12 (by decide)) ?_
    exact xW_ret (fun _ _ _ _ _ => am_zret (ty := .boolean) rfl rfl d_Mod_branch_13)
  · refine xW_pure (fun _ _ _ _ _ => am_aload_n d_Mod_branch_14 rfl rfl) ?_
    refine xW_pure (fun _ _ _ _ _ => am_bipush (v := 15) d_Mod_branch_15 (by decide)) ?_
    refine xW_callV O (dx_Mod_put_I O T) (fun _ e => ob_Mod_put_I e) rfl rfl rfl l_Mod_103 ⟨w_1875, w_95⟩ rfl (Nat.le_of_ble_eq_true rfl) d_Mod_branch_17 (fun v6 s5 _ => ?_)
    refine xW_pure (fun _ _ _ _ _ => am_pop d_Mod_branch_20 rfl) ?_
    refine xW_pure (fun _ _ _ _ _ => am_aload_n d_Mod_branch_21 rfl rfl) ?_
    refine xW_pure (fun _ _ _ _ _ => am_iconst (v := 0) d_Mod_branch_22 (by decide)) ?_
    refine xW_callV O (dx_Mod_put_I O T) (fun _ e => ob_Mod_put_I e) rfl rfl rfl l_Mod_103 ⟨w_1875, w_95⟩ rfl (Nat.le_of_ble_eq_true rfl) d_Mod_branch_23 (fun v8 s7 _ => ?_)
    refine xW_pure (fun _ _ _ _ _ => am_istore_n d_Mod_branch_26 rfl (Nat.le_of_ble_eq_true rfl)) ?_
    refine xW_pure (fun _ _ _ _ _ => am_aload_n d_Mod_branch_27 rfl rfl) ?_
    refine xW_pure (fun _ _ _ _ _ => am_iload_n d_Mod_branch_28 rfl rfl) ?_
    refine xW_callV O (H.1 _ _ _ _ _).1 (H.1 _ _ _ _ _).2 rfl rfl rfl l_Mod_198 ⟨w_1865, w_93⟩ rfl (Nat.le_of_ble_eq_true rfl) d_Mod_branch_29 (fun v10 s9 _ => ?_)
    refine xW_ite (fun _ _ _ _ _ k1 k2 => am_if_ne (tgt := 37) d_Mod_branch_32 (by decide) k2 k1) (fun _ => ?_) (fun _ => ?_)
    · refine xW_pure (fun _ _ _ _ _ => am_iconst (v := 0) d_Mod_branch_35 (by decide)) ?_
      exact xW_ret (fun _ _ _ _ _ => am_zret (ty := .boolean) rfl rfl d_Mod_branch_36)
    · refine xW_pure (fun _ _ _ _ _ => am_aload_n d_Mod_branch_37 rfl rfl) ?_
      refine xW_pure (fun _ _ _ _ _ => am_ldcS (T.2.2 33 ("StowTongueModel", 247, "else") rfl) d_Mod_branch_38) ?_
      refine xW_callV O (dx_Mod_is O T) (fun _ e => ob_Mod_is e) rfl rfl rfl l_Mod_80 ⟨w_1833, w_86⟩ rfl (Nat.le_of_ble_eq_true rfl) d_Mod_branch_40 (fun v12 s11 _ => ?_)
      refine xW_ite (fun _ _ _ _ _ => am_if_eq (tgt := 108) d_Mod_branch_43 (by decide)) (fun _ => ?_) (fun _ => ?_)
      · refine xW_pure (fun _ _ _ _ _ => am_aload_n d_Mod_branch_108 rfl rfl) ?_
        refine xW_gR O f_Mod_91 d_Mod_branch_109 (fun v13 _ => ?_)
        refine xW_gR O f_Mod_95 d_Mod_branch_112 (fun v14 _ => ?_)
        refine xW_pure (fun _ _ _ _ _ => am_iload_n d_Mod_branch_115 rfl rfl) ?_
        refine xW_pure (fun _ _ _ _ _ => am_aload_n d_Mod_branch_116 rfl rfl) ?_
        refine xW_gR O f_Mod_91 d_Mod_branch_117 (fun v15 _ => ?_)
        refine xW_gI O f_Mod_100 d_Mod_branch_120 (fun v16 _ => ?_)
        refine xW_sI O d_Mod_branch_123 (fun s17 _ => ?_)
        refine xW_pure (fun _ _ _ _ _ => am_iconst (v := 1) d_Mod_branch_124 (by decide)) ?_
        exact xW_ret (fun _ _ _ _ _ => am_zret (ty := .boolean) rfl rfl d_Mod_branch_125)
      · refine xW_pure (fun _ _ _ _ _ => am_aload_n d_Mod_branch_46 rfl rfl) ?_
        refine xW_callV O (dx_Mod_step O T) (fun _ e => ob_Mod_step e) rfl rfl rfl l_Mod_87 ⟨w_1808, w_84⟩ rfl (Nat.le_of_ble_eq_true rfl) d_Mod_branch_47 (fun v19 s18 _ => ?_)
        refine xW_pure (fun _ _ _ _ _ => am_aload_n d_Mod_branch_50 rfl rfl) ?_
        refine xW_pure (fun _ _ _ _ _ => am_bipush (v := 14) d_Mod_branch_51 (by decide)) ?_
        refine xW_callV O (dx_Mod_put_I O T) (fun _ e => ob_Mod_put_I e) rfl rfl rfl l_Mod_103 ⟨w_1875, w_95⟩ rfl (Nat.le_of_ble_eq_true rfl) d_Mod_branch_53 (fun v21 s20 _ => ?_)
        refine xW_pure (fun _ _ _ _ _ => am_pop d_Mod_branch_56 rfl) ?_
        refine xW_pure (fun _ _ _ _ _ => am_aload_n d_Mod_branch_57 rfl rfl) ?_
        refine xW_pure (fun _ _ _ _ _ => am_iconst (v := 0) d_Mod_branch_58 (by decide)) ?_
        refine xW_callV O (dx_Mod_put_I O T) (fun _ e => ob_Mod_put_I e) rfl rfl rfl l_Mod_103 ⟨w_1875, w_95⟩ rfl (Nat.le_of_ble_eq_true rfl) d_Mod_branch_59 (fun v23 s22 _ => ?_)
        refine xW_pure (fun _ _ _ _ _ => am_istore_n d_Mod_branch_62 rfl (Nat.le_of_ble_eq_true rfl)) ?_
        refine xW_pure (fun _ _ _ _ _ => am_aload_n d_Mod_branch_63 rfl rfl) ?_
        refine xW_gR O f_Mod_91 d_Mod_branch_64 (fun v24 _ => ?_)
        refine xW_gR O f_Mod_95 d_Mod_branch_67 (fun v25 _ => ?_)
        refine xW_pure (fun _ _ _ _ _ => am_iload_n d_Mod_branch_70 rfl rfl) ?_
        refine xW_pure (fun _ _ _ _ _ => am_aload_n d_Mod_branch_71 rfl rfl) ?_
        refine xW_gR O f_Mod_91 d_Mod_branch_72 (fun v26 _ => ?_)
        refine xW_gI O f_Mod_100 d_Mod_branch_75 (fun v27 _ => ?_)
        refine xW_sI O d_Mod_branch_78 (fun s28 _ => ?_)
        refine xW_pure (fun _ _ _ _ _ => am_aload_n d_Mod_branch_79 rfl rfl) ?_
        refine xW_pure (fun _ _ _ _ _ => am_iload_n d_Mod_branch_80 rfl rfl) ?_
        refine xW_callV O (H.1 _ _ _ _ _).1 (H.1 _ _ _ _ _).2 rfl rfl rfl l_Mod_198 ⟨w_1865, w_93⟩ rfl (Nat.le_of_ble_eq_true rfl) d_Mod_branch_81 (fun v30 s29 _ => ?_)
        refine xW_ite (fun _ _ _ _ _ k1 k2 => am_if_ne (tgt := 89) d_Mod_branch_84 (by decide) k2 k1) (fun _ => ?_) (fun _ => ?_)
        · refine xW_pure (fun _ _ _ _ _ => am_iconst (v := 0) d_Mod_branch_87 (by decide)) ?_
          exact xW_ret (fun _ _ _ _ _ => am_zret (ty := .boolean) rfl rfl d_Mod_branch_88)
        · refine xW_pure (fun _ _ _ _ _ => am_aload_n d_Mod_branch_89 rfl rfl) ?_
          refine xW_gR O f_Mod_91 d_Mod_branch_90 (fun v31 _ => ?_)
          refine xW_gR O f_Mod_95 d_Mod_branch_93 (fun v32 _ => ?_)
          refine xW_pure (fun _ _ _ _ _ => am_iload_n d_Mod_branch_96 rfl rfl) ?_
          refine xW_pure (fun _ _ _ _ _ => am_aload_n d_Mod_branch_97 rfl rfl) ?_
          refine xW_gR O f_Mod_91 d_Mod_branch_98 (fun v33 _ => ?_)
          refine xW_gI O f_Mod_100 d_Mod_branch_101 (fun v34 _ => ?_)
          refine xW_sI O d_Mod_branch_104 (fun s35 _ => ?_)
          refine xW_pure (fun _ _ _ _ _ => am_goto (tgt := 124) d_Mod_branch_105 (by decide)) ?_
          refine xW_pure (fun _ _ _ _ _ => am_iconst (v := 1) d_Mod_branch_124 (by decide)) ?_
          exact xW_ret (fun _ _ _ _ _ => am_zret (ty := .boolean) rfl rfl d_Mod_branch_125)

set_option maxRecDepth 100000 in
def x_Mod_loop_b (c : CLT) (d : Nat) (x0 : Nat) (x1 : Int32) (s : HS) : Option (Int32 × HS) := gd s x0 14 (bnd (x_Mod_step d x0 s) fun v2 s1 => ((gR s1 x0 14 22).bind fun v3 => ((gI s1 v3 12 2).bind fun v4 => (bnd ((c 1 x0 x1 0 0 s1)) fun v6 s5 => (if v6 = 0 then (some (0, s5)) else (bnd (x_Mod_put_I d x0 15 s5) fun v8 s7 => (bnd (x_Mod_put_I d x0 0 s7) fun v10 s9 => (bnd (x_Mod_put_I d x0 23 s9) fun v12 s11 => (bnd ((c 0 x0 x1 0 0 s11)) fun v14 s13 => (if v14 = 0 then (some (0, s13)) else (bnd (x_Mod_put_II d x0 14 v4 s13) fun v16 s15 => ((gR s15 x0 14 22).bind fun v17 => ((gR s15 v17 12 0).bind fun v18 => ((gR s15 x0 14 22).bind fun v19 => ((gI s15 v19 12 2).bind fun v20 => ((sV s15 .int v18 v10 (.int v20)).bind fun s21 => (some (1, s21))))))))))))))))))

set_option maxRecDepth 100000 in
set_option maxHeartbeats 4000000 in
theorem dx_Mod_loop_b (O : am_ok K X) (T : am_T K) {c : CLT} {d : Nat} (H : HC_M K X c d) {x0 : Nat} {x1 : Int32} {s : HS} : xM cvI K X m_Mod_loop (d + 1) [.ref x0, .int x1] s (x_Mod_loop_b c d x0 x1 s) := by
  unfold x_Mod_loop_b
  refine xM_enter (by decide +kernel) (Nat.le_of_ble_eq_true rfl) ?_
  refine xW_gd (fun _ => ?_)
  refine xW_pure (fun _ _ _ _ _ => am_aload_n d_Mod_loop_0 rfl rfl) ?_
  refine xW_callV O (dx_Mod_step O T) (fun _ e => ob_Mod_step e) rfl rfl rfl l_Mod_87 ⟨w_1808, w_84⟩ rfl (Nat.le_of_ble_eq_true rfl) d_Mod_loop_1 (fun v2 s1 _ => ?_)
  refine xW_pure (fun _ _ _ _ _ => am_aload_n d_Mod_loop_4 rfl rfl) ?_
  refine xW_gR O f_Mod_91 d_Mod_loop_5 (fun v3 _ => ?_)
  refine xW_gI O f_Mod_100 d_Mod_loop_8 (fun v4 _ => ?_)
  refine xW_pure (fun _ _ _ _ _ => am_istore_n d_Mod_loop_11 rfl (Nat.le_of_ble_eq_true rfl)) ?_
  refine xW_pure (fun _ _ _ _ _ => am_aload_n d_Mod_loop_12 rfl rfl) ?_
  refine xW_pure (fun _ _ _ _ _ => am_iload_n d_Mod_loop_13 rfl rfl) ?_
  refine xW_callV O (H.2.1 _ _ _ _ _).1 (H.2.1 _ _ _ _ _).2 rfl rfl rfl l_Mod_244 ⟨w_1971, w_111⟩ rfl (Nat.le_of_ble_eq_true rfl) d_Mod_loop_14 (fun v6 s5 _ => ?_)
  refine xW_ite (fun _ _ _ _ _ k1 k2 => am_if_ne (tgt := 22) d_Mod_loop_17 (by decide) k2 k1) (fun _ => ?_) (fun _ => ?_)
  · refine xW_pure (fun _ _ _ _ _ => am_iconst (v := 0) d_Mod_loop_20 (by decide)) ?_
    exact xW_ret (fun _ _ _ _ _ => am_zret (ty := .boolean) rfl rfl d_Mod_loop_21)
  · refine xW_pure (fun _ _ _ _ _ => am_aload_n d_Mod_loop_22 rfl rfl) ?_
    refine xW_pure (fun _ _ _ _ _ => am_bipush (v := 15) d_Mod_loop_23 (by decide)) ?_
    refine xW_callV O (dx_Mod_put_I O T) (fun _ e => ob_Mod_put_I e) rfl rfl rfl l_Mod_103 ⟨w_1875, w_95⟩ rfl (Nat.le_of_ble_eq_true rfl) d_Mod_loop_25 (fun v8 s7 _ => ?_)
    refine xW_pure (fun _ _ _ _ _ => am_pop d_Mod_loop_28 rfl) ?_
    refine xW_pure (fun _ _ _ _ _ => am_aload_n d_Mod_loop_29 rfl rfl) ?_
    refine xW_pure (fun _ _ _ _ _ => am_iconst (v := 0) d_Mod_loop_30 (by decide)) ?_
    refine xW_callV O (dx_Mod_put_I O T) (fun _ e => ob_Mod_put_I e) rfl rfl rfl l_Mod_103 ⟨w_1875, w_95⟩ rfl (Nat.le_of_ble_eq_true rfl) d_Mod_loop_31 (fun v10 s9 _ => ?_)
    refine xW_pure (fun _ _ _ _ _ => am_istore_n d_Mod_loop_34 rfl (Nat.le_of_ble_eq_true rfl)) ?_
    refine xW_pure (fun _ _ _ _ _ => am_aload_n d_Mod_loop_35 rfl rfl) ?_
    refine xW_pure (fun _ _ _ _ _ => am_bipush (v := 23) d_Mod_loop_36 (by decide)) ?_
    refine xW_callV O (dx_Mod_put_I O T) (fun _ e => ob_Mod_put_I e) rfl rfl rfl l_Mod_103 ⟨w_1875, w_95⟩ rfl (Nat.le_of_ble_eq_true rfl) d_Mod_loop_38 (fun v12 s11 _ => ?_)
    refine xW_pure (fun _ _ _ _ _ => am_pop d_Mod_loop_41 rfl) ?_
    refine xW_pure (fun _ _ _ _ _ => am_aload_n d_Mod_loop_42 rfl rfl) ?_
    refine xW_pure (fun _ _ _ _ _ => am_iload_n d_Mod_loop_43 rfl rfl) ?_
    refine xW_callV O (H.1 _ _ _ _ _).1 (H.1 _ _ _ _ _).2 rfl rfl rfl l_Mod_198 ⟨w_1865, w_93⟩ rfl (Nat.le_of_ble_eq_true rfl) d_Mod_loop_44 (fun v14 s13 _ => ?_)
    refine xW_ite (fun _ _ _ _ _ k1 k2 => am_if_ne (tgt := 52) d_Mod_loop_47 (by decide) k2 k1) (fun _ => ?_) (fun _ => ?_)
    · refine xW_pure (fun _ _ _ _ _ => am_iconst (v := 0) d_Mod_loop_50 (by decide)) ?_
      exact xW_ret (fun _ _ _ _ _ => am_zret (ty := .boolean) rfl rfl d_Mod_loop_51)
    · refine xW_pure (fun _ _ _ _ _ => am_aload_n d_Mod_loop_52 rfl rfl) ?_
      refine xW_pure (fun _ _ _ _ _ => am_bipush (v := 14) d_Mod_loop_53 (by decide)) ?_
      refine xW_pure (fun _ _ _ _ _ => am_iload_n d_Mod_loop_55 rfl rfl) ?_
      refine xW_callV O (dx_Mod_put_II O T) (fun _ e => ob_Mod_put_II e) rfl rfl rfl l_Mod_120 ⟨w_1919, w_104⟩ rfl (Nat.le_of_ble_eq_true rfl) d_Mod_loop_56 (fun v16 s15 _ => ?_)
      refine xW_pure (fun _ _ _ _ _ => am_aload_n d_Mod_loop_59 rfl rfl) ?_
      refine xW_gR O f_Mod_91 d_Mod_loop_60 (fun v17 _ => ?_)
      refine xW_gR O f_Mod_95 d_Mod_loop_63 (fun v18 _ => ?_)
      refine xW_pure (fun _ _ _ _ _ => am_iload_n d_Mod_loop_66 rfl rfl) ?_
      refine xW_pure (fun _ _ _ _ _ => am_aload_n d_Mod_loop_67 rfl rfl) ?_
      refine xW_gR O f_Mod_91 d_Mod_loop_68 (fun v19 _ => ?_)
      refine xW_gI O f_Mod_100 d_Mod_loop_71 (fun v20 _ => ?_)
      refine xW_sI O d_Mod_loop_74 (fun s21 _ => ?_)
      refine xW_pure (fun _ _ _ _ _ => am_iconst (v := 1) d_Mod_loop_75 (by decide)) ?_
      exact xW_ret (fun _ _ _ _ _ => am_zret (ty := .boolean) rfl rfl d_Mod_loop_76)

set_option maxRecDepth 100000 in
def x_Mod_assignment_b136 (c : CLT) (d : Nat) (l0 : Nat) (l3 : Int32) (l4 : Int32) (t0 : Nat) (t1 : Int32) (s : HS) : Option (Int32 × HS) := bnd (x_Mod_put_I d t0 t1 s) fun v23 s22 => (if l3 = 7 then (bnd (x_Mod_take d l0 68 s22) fun v25 s24 => (okB v25 (some (v25, s24)))) else (bnd (x_Mod_put_I d l0 l4 s22) fun v27 s26 => (bnd (x_Mod_take d l0 68 s26) fun v29 s28 => (okB v29 (some (v29, s28))))))

set_option maxRecDepth 100000 in
set_option maxHeartbeats 4000000 in
theorem dx_Mod_assignment_b136 (O : am_ok K X) (T : am_T K) {c : CLT} {d : Nat} (H : HC_M K X c d) {l0 : Nat} {l3 : Int32} {l4 : Int32} {t0 : Nat} {t1 : Int32} {s : HS} : xW cvI K X m_Mod_assignment (d + 1) 136 [(0, .ref l0), (3, .int l3), (4, .int l4)] [.int t1, .ref t0] s (x_Mod_assignment_b136 c d l0 l3 l4 t0 t1 s) := by
  unfold x_Mod_assignment_b136
  refine xW_callV O (dx_Mod_put_I O T) (fun _ e => ob_Mod_put_I e) rfl rfl rfl l_Mod_103 ⟨w_1875, w_95⟩ rfl (Nat.le_of_ble_eq_true rfl) d_Mod_assignment_136 (fun v23 s22 _ => ?_)
  refine xW_pure (fun _ _ _ _ _ => am_pop d_Mod_assignment_139 rfl) ?_
  refine xW_pure (fun _ _ _ _ _ => am_iload_n d_Mod_assignment_140 rfl rfl) ?_
  refine xW_pure (fun _ _ _ _ _ => am_bipush (v := 7) d_Mod_assignment_141 (by decide)) ?_
  refine xW_ite (fun _ _ _ _ _ => am_icmp_eq (tgt := 153) d_Mod_assignment_143 (by decide)) (fun _ => ?_) (fun _ => ?_)
  · refine xW_pure (fun _ _ _ _ _ => am_aload_n d_Mod_assignment_153 rfl rfl) ?_
    refine xW_pure (fun _ _ _ _ _ => am_ldcS (T.2.2 31 ("StowTongueModel", 220, ";") rfl) d_Mod_assignment_154) ?_
    refine xW_callV O (dx_Mod_take O T) (fun _ e => ob_Mod_take e) rfl rfl rfl l_Mod_179 ⟨w_1851, w_90⟩ rfl (Nat.le_of_ble_eq_true rfl) d_Mod_assignment_156 (fun v25 s24 _ => ?_)
    refine xW_okB (fun hz => ?_)
    exact xW_ret (fun _ _ _ _ _ => am_zret (ty := .boolean) rfl (bz_nar hz) d_Mod_assignment_159)
  · refine xW_pure (fun _ _ _ _ _ => am_aload_n d_Mod_assignment_146 rfl rfl) ?_
    refine xW_pure (fun _ _ _ _ _ => am_iload d_Mod_assignment_147 rfl) ?_
    refine xW_callV O (dx_Mod_put_I O T) (fun _ e => ob_Mod_put_I e) rfl rfl rfl l_Mod_103 ⟨w_1875, w_95⟩ rfl (Nat.le_of_ble_eq_true rfl) d_Mod_assignment_149 (fun v27 s26 _ => ?_)
    refine xW_pure (fun _ _ _ _ _ => am_pop d_Mod_assignment_152 rfl) ?_
    refine xW_pure (fun _ _ _ _ _ => am_aload_n d_Mod_assignment_153 rfl rfl) ?_
    refine xW_pure (fun _ _ _ _ _ => am_ldcS (T.2.2 31 ("StowTongueModel", 220, ";") rfl) d_Mod_assignment_154) ?_
    refine xW_callV O (dx_Mod_take O T) (fun _ e => ob_Mod_take e) rfl rfl rfl l_Mod_179 ⟨w_1851, w_90⟩ rfl (Nat.le_of_ble_eq_true rfl) d_Mod_assignment_156 (fun v29 s28 _ => ?_)
    refine xW_okB (fun hz => ?_)
    exact xW_ret (fun _ _ _ _ _ => am_zret (ty := .boolean) rfl (bz_nar hz) d_Mod_assignment_159)

set_option maxRecDepth 100000 in
def x_Mod_assignment_b81 (c : CLT) (d : Nat) (l0 : Nat) (l1 : Int32) (l2 : Int32) (l3 : Int32) (t0 : Int32) (s : HS) : Option (Int32 × HS) := (gR s l0 14 22).bind fun v16 => ((pV s v16 12 2 (.int l2)).bind fun s17 => (bnd (x_Mod_step d l0 s17) fun v19 s18 => (bnd ((c 6 l0 l1 0 0 s18)) fun v21 s20 => (if v21 = 0 then (some (0, s20)) else (if l3 = 1 then (x_Mod_assignment_b136 c d l0 l3 t0 l0 2 s20) else (if l3 = 3 then (x_Mod_assignment_b136 c d l0 l3 t0 l0 4 s20) else (if l3 = 5 then (x_Mod_assignment_b136 c d l0 l3 t0 l0 6 s20) else (x_Mod_assignment_b136 c d l0 l3 t0 l0 8 s20))))))))

set_option maxRecDepth 100000 in
set_option maxHeartbeats 4000000 in
theorem dx_Mod_assignment_b81 (O : am_ok K X) (T : am_T K) {c : CLT} {d : Nat} (H : HC_M K X c d) {l0 : Nat} {l1 : Int32} {l2 : Int32} {l3 : Int32} {t0 : Int32} {s : HS} : xW cvI K X m_Mod_assignment (d + 1) 81 [(0, .ref l0), (1, .int l1), (2, .int l2), (3, .int l3)] [.int t0] s (x_Mod_assignment_b81 c d l0 l1 l2 l3 t0 s) := by
  unfold x_Mod_assignment_b81
  refine xW_pure (fun _ _ _ _ _ => am_istore d_Mod_assignment_81 (Nat.le_of_ble_eq_true rfl)) ?_
  refine xW_pure (fun _ _ _ _ _ => am_aload_n d_Mod_assignment_83 rfl rfl) ?_
  refine xW_gR O f_Mod_91 d_Mod_assignment_84 (fun v16 _ => ?_)
  refine xW_pure (fun _ _ _ _ _ => am_iload_n d_Mod_assignment_87 rfl rfl) ?_
  refine xW_put O f_Mod_100 d_Mod_assignment_88 (fun q hq => by cases hq; exact ⟨rfl, rfl, rfl⟩) (fun s17 _ => ?_)
  refine xW_pure (fun _ _ _ _ _ => am_aload_n d_Mod_assignment_91 rfl rfl) ?_
  refine xW_callV O (dx_Mod_step O T) (fun _ e => ob_Mod_step e) rfl rfl rfl l_Mod_87 ⟨w_1808, w_84⟩ rfl (Nat.le_of_ble_eq_true rfl) d_Mod_assignment_92 (fun v19 s18 _ => ?_)
  refine xW_pure (fun _ _ _ _ _ => am_aload_n d_Mod_assignment_95 rfl rfl) ?_
  refine xW_pure (fun _ _ _ _ _ => am_iload_n d_Mod_assignment_96 rfl rfl) ?_
  refine xW_callV O (H.2.2.2.2.2.2.1 _ _ _ _ _).1 (H.2.2.2.2.2.2.1 _ _ _ _ _).2 rfl rfl rfl l_Mod_214 ⟨w_1881, w_96⟩ rfl (Nat.le_of_ble_eq_true rfl) d_Mod_assignment_97 (fun v21 s20 _ => ?_)
  refine xW_ite (fun _ _ _ _ _ k1 k2 => am_if_ne (tgt := 105) d_Mod_assignment_100 (by decide) k2 k1) (fun _ => ?_) (fun _ => ?_)
  · refine xW_pure (fun _ _ _ _ _ => am_iconst (v := 0) d_Mod_assignment_103 (by decide)) ?_
    exact xW_ret (fun _ _ _ _ _ => am_zret (ty := .boolean) rfl rfl d_Mod_assignment_104)
  · refine xW_pure (fun _ _ _ _ _ => am_aload_n d_Mod_assignment_105 rfl rfl) ?_
    refine xW_pure (fun _ _ _ _ _ => am_iload_n d_Mod_assignment_106 rfl rfl) ?_
    refine xW_pure (fun _ _ _ _ _ => am_iconst (v := 1) d_Mod_assignment_107 (by decide)) ?_
    refine xW_ite (fun _ _ _ _ _ k1 k2 => am_icmp_ne (tgt := 115) d_Mod_assignment_108 (by decide) k2 k1) (fun _ => ?_) (fun _ => ?_)
    · refine xW_pure (fun _ _ _ _ _ => am_iconst (v := 2) d_Mod_assignment_111 (by decide)) ?_
      refine xW_pure (fun _ _ _ _ _ => am_goto (tgt := 136) d_Mod_assignment_112 (by decide)) ?_
      refine xW_locs (lv' := [(0, .ref l0), (3, .int l3), (4, .int t0)]) rfl ?_
      exact dx_Mod_assignment_b136 O T H
    · refine xW_pure (fun _ _ _ _ _ => am_iload_n d_Mod_assignment_115 rfl rfl) ?_
      refine xW_pure (fun _ _ _ _ _ => am_iconst (v := 3) d_Mod_assignment_116 (by decide)) ?_
      refine xW_ite (fun _ _ _ _ _ k1 k2 => am_icmp_ne (tgt := 124) d_Mod_assignment_117 (by decide) k2 k1) (fun _ => ?_) (fun _ => ?_)
      · refine xW_pure (fun _ _ _ _ _ => am_iconst (v := 4) d_Mod_assignment_120 (by decide)) ?_
        refine xW_pure (fun _ _ _ _ _ => am_goto (tgt := 136) d_Mod_assignment_121 (by decide)) ?_
        refine xW_locs (lv' := [(0, .ref l0), (3, .int l3), (4, .int t0)]) rfl ?_
        exact dx_Mod_assignment_b136 O T H
      · refine xW_pure (fun _ _ _ _ _ => am_iload_n d_Mod_assignment_124 rfl rfl) ?_
        refine xW_pure (fun _ _ _ _ _ => am_iconst (v := 5) d_Mod_assignment_125 (by decide)) ?_
        refine xW_ite (fun _ _ _ _ _ k1 k2 => am_icmp_ne (tgt := 134) d_Mod_assignment_126 (by decide) k2 k1) (fun _ => ?_) (fun _ => ?_)
        · refine xW_pure (fun _ _ _ _ _ => am_bipush (v := 6) d_Mod_assignment_129 (by decide)) ?_
          refine xW_pure (fun _ _ _ _ _ => am_goto (tgt := 136) d_Mod_assignment_131 (by decide)) ?_
          refine xW_locs (lv' := [(0, .ref l0), (3, .int l3), (4, .int t0)]) rfl ?_
          exact dx_Mod_assignment_b136 O T H
        · refine xW_pure (fun _ _ _ _ _ => am_bipush (v := 8) d_Mod_assignment_134 (by decide)) ?_
          refine xW_locs (lv' := [(0, .ref l0), (3, .int l3), (4, .int t0)]) rfl ?_
          exact dx_Mod_assignment_b136 O T H

set_option maxRecDepth 100000 in
def x_Mod_assignment_b (c : CLT) (d : Nat) (x0 : Nat) (x1 : Int32) (s : HS) : Option (Int32 × HS) := gd s x0 14 (bnd ((c 6 x0 x1 0 0 s)) fun v2 s1 => (if v2 = 0 then (some (0, s1)) else (bnd (x_Mod_is d x0 26 s1) fun v4 s3 => (if v4 = 0 then (bnd (x_Mod_put_I d x0 27 s3) fun v6 s5 => (bnd (x_Mod_take d x0 68 s5) fun v8 s7 => (okB v8 (some (v8, s7))))) else ((gI s3 x0 14 25).bind fun v9 => (if v9 = 0 then (bnd (x_Mod_bad d x0 s3) fun v11 s10 => (okB v11 (some (v11, s10)))) else ((gI s3 x0 14 27).bind fun v12 => ((gR s3 x0 14 22).bind fun v13 => ((gR s3 v13 12 0).bind fun v14 => ((aI s3 v14 v12).bind fun v15 => (if v15 = 7 then (x_Mod_assignment_b81 c d x0 x1 v12 v15 0 s3) else ((gR s3 x0 14 22).bind fun v30 => ((gR s3 v30 12 0).bind fun v31 => ((aI s3 v31 (v12 + 1)).bind fun v32 => (x_Mod_assignment_b81 c d x0 x1 v12 v15 v32 s3)))))))))))))))

set_option maxRecDepth 100000 in
set_option maxHeartbeats 4000000 in
theorem dx_Mod_assignment_b (O : am_ok K X) (T : am_T K) {c : CLT} {d : Nat} (H : HC_M K X c d) {x0 : Nat} {x1 : Int32} {s : HS} : xM cvI K X m_Mod_assignment (d + 1) [.ref x0, .int x1] s (x_Mod_assignment_b c d x0 x1 s) := by
  unfold x_Mod_assignment_b
  refine xM_enter (by decide +kernel) (Nat.le_of_ble_eq_true rfl) ?_
  refine xW_gd (fun _ => ?_)
  refine xW_pure (fun _ _ _ _ _ => am_aload_n d_Mod_assignment_0 rfl rfl) ?_
  refine xW_pure (fun _ _ _ _ _ => am_iload_n d_Mod_assignment_1 rfl rfl) ?_
  refine xW_callV O (H.2.2.2.2.2.2.1 _ _ _ _ _).1 (H.2.2.2.2.2.2.1 _ _ _ _ _).2 rfl rfl rfl l_Mod_214 ⟨w_1881, w_96⟩ rfl (Nat.le_of_ble_eq_true rfl) d_Mod_assignment_2 (fun v2 s1 _ => ?_)
  refine xW_ite (fun _ _ _ _ _ k1 k2 => am_if_ne (tgt := 10) d_Mod_assignment_5 (by decide) k2 k1) (fun _ => ?_) (fun _ => ?_)
  · refine xW_pure (fun _ _ _ _ _ => am_iconst (v := 0) d_Mod_assignment_8 (by decide)) ?_
    exact xW_ret (fun _ _ _ _ _ => am_zret (ty := .boolean) rfl rfl d_Mod_assignment_9)
  · refine xW_pure (fun _ _ _ _ _ => am_aload_n d_Mod_assignment_10 rfl rfl) ?_
    refine xW_pure (fun _ _ _ _ _ => am_ldcS (T.2.2 10 ("StowTongueModel", 218, "=") rfl) d_Mod_assignment_11) ?_
    refine xW_callV O (dx_Mod_is O T) (fun _ e => ob_Mod_is e) rfl rfl rfl l_Mod_80 ⟨w_1833, w_86⟩ rfl (Nat.le_of_ble_eq_true rfl) d_Mod_assignment_13 (fun v4 s3 _ => ?_)
    refine xW_ite (fun _ _ _ _ _ k1 k2 => am_if_ne (tgt := 33) d_Mod_assignment_16 (by decide) k2 k1) (fun _ => ?_) (fun _ => ?_)
    · refine xW_pure (fun _ _ _ _ _ => am_aload_n d_Mod_assignment_19 rfl rfl) ?_
      refine xW_pure (fun _ _ _ _ _ => am_bipush (v := 27) d_Mod_assignment_20 (by decide)) ?_
      refine xW_callV O (dx_Mod_put_I O T) (fun _ e => ob_Mod_put_I e) rfl rfl rfl l_Mod_103 ⟨w_1875, w_95⟩ rfl (Nat.le_of_ble_eq_true rfl) d_Mod_assignment_22 (fun v6 s5 _ => ?_)
      refine xW_pure (fun _ _ _ _ _ => am_pop d_Mod_assignment_25 rfl) ?_
      refine xW_pure (fun _ _ _ _ _ => am_aload_n d_Mod_assignment_26 rfl rfl) ?_
      refine xW_pure (fun _ _ _ _ _ => am_ldcS (T.2.2 31 ("StowTongueModel", 220, ";") rfl) d_Mod_assignment_27) ?_
      refine xW_callV O (dx_Mod_take O T) (fun _ e => ob_Mod_take e) rfl rfl rfl l_Mod_179 ⟨w_1851, w_90⟩ rfl (Nat.le_of_ble_eq_true rfl) d_Mod_assignment_29 (fun v8 s7 _ => ?_)
      refine xW_okB (fun hz => ?_)
      exact xW_ret (fun _ _ _ _ _ => am_zret (ty := .boolean) rfl (bz_nar hz) d_Mod_assignment_32)
    · refine xW_pure (fun _ _ _ _ _ => am_aload_n d_Mod_assignment_33 rfl rfl) ?_
      refine xW_gI O f_Mod_249 d_Mod_assignment_34 (fun v9 _ => ?_)
      refine xW_ite (fun _ _ _ _ _ k1 k2 => am_if_ne (tgt := 45) d_Mod_assignment_37 (by decide) k2 k1) (fun _ => ?_) (fun _ => ?_)
      · refine xW_pure (fun _ _ _ _ _ => am_aload_n d_Mod_assignment_40 rfl rfl) ?_
        refine xW_callV O (dx_Mod_bad O T) (fun _ e => ob_Mod_bad e) rfl rfl rfl l_Mod_84 ⟨w_1841, w_88⟩ rfl (Nat.le_of_ble_eq_true rfl) d_Mod_assignment_41 (fun v11 s10 _ => ?_)
        refine xW_okB (fun hz => ?_)
        exact xW_ret (fun _ _ _ _ _ => am_zret (ty := .boolean) rfl (bz_nar hz) d_Mod_assignment_44)
      · refine xW_pure (fun _ _ _ _ _ => am_aload_n d_Mod_assignment_45 rfl rfl) ?_
        refine xW_gI O f_Mod_253 d_Mod_assignment_46 (fun v12 _ => ?_)
        refine xW_pure (fun _ _ _ _ _ => am_istore_n d_Mod_assignment_49 rfl (Nat.le_of_ble_eq_true rfl)) ?_
        refine xW_pure (fun _ _ _ _ _ => am_aload_n d_Mod_assignment_50 rfl rfl) ?_
        refine xW_gR O f_Mod_91 d_Mod_assignment_51 (fun v13 _ => ?_)
        refine xW_gR O f_Mod_95 d_Mod_assignment_54 (fun v14 _ => ?_)
        refine xW_pure (fun _ _ _ _ _ => am_iload_n d_Mod_assignment_57 rfl rfl) ?_
        refine xW_aI O d_Mod_assignment_58 (fun v15 _ => ?_)
        refine xW_pure (fun _ _ _ _ _ => am_istore_n d_Mod_assignment_59 rfl (Nat.le_of_ble_eq_true rfl)) ?_
        refine xW_pure (fun _ _ _ _ _ => am_iload_n d_Mod_assignment_60 rfl rfl) ?_
        refine xW_pure (fun _ _ _ _ _ => am_bipush (v := 7) d_Mod_assignment_61 (by decide)) ?_
        refine xW_ite (fun _ _ _ _ _ k1 k2 => am_icmp_ne (tgt := 70) d_Mod_assignment_63 (by decide) k2 k1) (fun _ => ?_) (fun _ => ?_)
        · refine xW_pure (fun _ _ _ _ _ => am_iconst (v := 0) d_Mod_assignment_66 (by decide)) ?_
          refine xW_pure (fun _ _ _ _ _ => am_goto (tgt := 81) d_Mod_assignment_67 (by decide)) ?_
          refine xW_locs (lv' := [(0, .ref x0), (1, .int x1), (2, .int v12), (3, .int v15)]) rfl ?_
          exact dx_Mod_assignment_b81 O T H
        · refine xW_pure (fun _ _ _ _ _ => am_aload_n d_Mod_assignment_70 rfl rfl) ?_
          refine xW_gR O f_Mod_91 d_Mod_assignment_71 (fun v30 _ => ?_)
          refine xW_gR O f_Mod_95 d_Mod_assignment_74 (fun v31 _ => ?_)
          refine xW_pure (fun _ _ _ _ _ => am_iload_n d_Mod_assignment_77 rfl rfl) ?_
          refine xW_pure (fun _ _ _ _ _ => am_iconst (v := 1) d_Mod_assignment_78 (by decide)) ?_
          refine xW_pure (fun _ _ _ _ _ => am_iadd d_Mod_assignment_79) ?_
          refine xW_aI O d_Mod_assignment_80 (fun v32 _ => ?_)
          refine xW_locs (lv' := [(0, .ref x0), (1, .int x1), (2, .int v12), (3, .int v15)]) rfl ?_
          exact dx_Mod_assignment_b81 O T H

set_option maxRecDepth 100000 in
def x_Mod_expression_b (c : CLT) (d : Nat) (x0 : Nat) (x1 : Int32) (s : HS) : Option (Int32 × HS) := gd s x0 14 (bnd ((c 7 x0 x1 0 0 s)) fun v2 s1 => (okB v2 (some (v2, s1))))

set_option maxRecDepth 100000 in
set_option maxHeartbeats 4000000 in
theorem dx_Mod_expression_b (O : am_ok K X) (T : am_T K) {c : CLT} {d : Nat} (H : HC_M K X c d) {x0 : Nat} {x1 : Int32} {s : HS} : xM cvI K X m_Mod_expression (d + 1) [.ref x0, .int x1] s (x_Mod_expression_b c d x0 x1 s) := by
  unfold x_Mod_expression_b
  refine xM_enter (by decide +kernel) (Nat.le_of_ble_eq_true rfl) ?_
  refine xW_gd (fun _ => ?_)
  refine xW_pure (fun _ _ _ _ _ => am_aload_n d_Mod_expression_0 rfl rfl) ?_
  refine xW_pure (fun _ _ _ _ _ => am_iload_n d_Mod_expression_1 rfl rfl) ?_
  refine xW_pure (fun _ _ _ _ _ => am_iconst (v := 0) d_Mod_expression_2 (by decide)) ?_
  refine xW_callV O (H.2.2.2.2.2.2.2.1 _ _ _ _ _).1 (H.2.2.2.2.2.2.2.1 _ _ _ _ _).2 rfl rfl rfl l_Mod_256 ⟨w_1885, w_97⟩ rfl (Nat.le_of_ble_eq_true rfl) d_Mod_expression_3 (fun v2 s1 _ => ?_)
  refine xW_okB (fun hz => ?_)
  exact xW_ret (fun _ _ _ _ _ => am_zret (ty := .boolean) rfl (bz_nar hz) d_Mod_expression_6)

set_option maxRecDepth 100000 in
def x_Mod_either_b (c : CLT) (d : Nat) (x0 : Nat) (x1 : Int32) (x2 : Int32) (s : HS) : Option (Int32 × HS) := gd s x0 14 (if x2 = 2 then (bnd ((c 8 x0 x1 0 0 s)) fun v2 s1 => (okB v2 (some (v2, s1)))) else (bnd ((c 7 x0 x1 (x2 + 1) 0 s)) fun v4 s3 => (if v4 = 0 then (some (0, s3)) else (loopK (fun (again26 : Int32 × HS → Option (Int32 × HS)) (z26 : Int32 × HS) => (if x2 = 0 then (bnd (x_Mod_is d x0 64 z26.2) fun v6 s5 => (if v6 = 0 then (loopK (fun (again84 : Int32 × HS → Option (Int32 × HS)) (z84 : Int32 × HS) => (if z84.1 < 0 then (some (1, z84.2)) else ((gR z84.2 x0 14 22).bind fun v7 => ((gR z84.2 v7 12 0).bind fun v8 => ((aI z84.2 v8 z84.1).bind fun v9 => ((gR z84.2 x0 14 22).bind fun v10 => ((gR z84.2 v10 12 0).bind fun v11 => ((gR z84.2 x0 14 22).bind fun v12 => ((gI z84.2 v12 12 2).bind fun v13 => ((sV z84.2 .int v11 z84.1 (.int v13)).bind fun s14 => (again84 (v9, s14)))))))))))) FU (z26.1, s5)) else (bnd (x_Mod_step d x0 s5) fun v16 s15 => (bnd (x_Mod_put_II d x0 16 x2 s15) fun v18 s17 => (bnd (x_Mod_put_I d x0 z26.1 s17) fun v20 s19 => (bnd ((c 7 x0 x1 (x2 + 1) 0 s19)) fun v22 s21 => (if v22 = 0 then (some (0, s21)) else ((pV s21 x0 14 25 (.int 0)).bind fun s23 => (again26 (v20, s23)))))))))) else (bnd (x_Mod_is d x0 66 z26.2) fun v25 s24 => (if v25 = 0 then (loopK (fun (again84 : Int32 × HS → Option (Int32 × HS)) (z84 : Int32 × HS) => (if z84.1 < 0 then (some (1, z84.2)) else ((gR z84.2 x0 14 22).bind fun v26 => ((gR z84.2 v26 12 0).bind fun v27 => ((aI z84.2 v27 z84.1).bind fun v28 => ((gR z84.2 x0 14 22).bind fun v29 => ((gR z84.2 v29 12 0).bind fun v30 => ((gR z84.2 x0 14 22).bind fun v31 => ((gI z84.2 v31 12 2).bind fun v32 => ((sV z84.2 .int v30 z84.1 (.int v32)).bind fun s33 => (again84 (v28, s33)))))))))))) FU (z26.1, s24)) else (bnd (x_Mod_step d x0 s24) fun v35 s34 => (bnd (x_Mod_put_II d x0 16 x2 s34) fun v37 s36 => (bnd (x_Mod_put_I d x0 z26.1 s36) fun v39 s38 => (bnd ((c 7 x0 x1 (x2 + 1) 0 s38)) fun v41 s40 => (if v41 = 0 then (some (0, s40)) else ((pV s40 x0 14 25 (.int 0)).bind fun s42 => (again26 (v39, s42)))))))))))) FU ((-1), s3)))))

set_option maxRecDepth 100000 in
set_option maxHeartbeats 4000000 in
theorem dx_Mod_either_b (O : am_ok K X) (T : am_T K) {c : CLT} {d : Nat} (H : HC_M K X c d) {x0 : Nat} {x1 : Int32} {x2 : Int32} {s : HS} : xM cvI K X m_Mod_either (d + 1) [.ref x0, .int x1, .int x2] s (x_Mod_either_b c d x0 x1 x2 s) := by
  unfold x_Mod_either_b
  refine xM_enter (by decide +kernel) (Nat.le_of_ble_eq_true rfl) ?_
  refine xW_gd (fun _ => ?_)
  refine xW_pure (fun _ _ _ _ _ => am_iload_n d_Mod_either_0 rfl rfl) ?_
  refine xW_pure (fun _ _ _ _ _ => am_iconst (v := 2) d_Mod_either_1 (by decide)) ?_
  refine xW_ite (fun _ _ _ _ _ k1 k2 => am_icmp_ne (tgt := 11) d_Mod_either_2 (by decide) k2 k1) (fun _ => ?_) (fun _ => ?_)
  · refine xW_pure (fun _ _ _ _ _ => am_aload_n d_Mod_either_5 rfl rfl) ?_
    refine xW_pure (fun _ _ _ _ _ => am_iload_n d_Mod_either_6 rfl rfl) ?_
    refine xW_callV O (H.2.2.2.2.2.2.2.2.1 _ _ _ _ _).1 (H.2.2.2.2.2.2.2.2.1 _ _ _ _ _).2 rfl rfl rfl l_Mod_260 ⟨w_1889, w_98⟩ rfl (Nat.le_of_ble_eq_true rfl) d_Mod_either_7 (fun v2 s1 _ => ?_)
    refine xW_okB (fun hz => ?_)
    exact xW_ret (fun _ _ _ _ _ => am_zret (ty := .boolean) rfl (bz_nar hz) d_Mod_either_10)
  · refine xW_pure (fun _ _ _ _ _ => am_aload_n d_Mod_either_11 rfl rfl) ?_
    refine xW_pure (fun _ _ _ _ _ => am_iload_n d_Mod_either_12 rfl rfl) ?_
    refine xW_pure (fun _ _ _ _ _ => am_iload_n d_Mod_either_13 rfl rfl) ?_
    refine xW_pure (fun _ _ _ _ _ => am_iconst (v := 1) d_Mod_either_14 (by decide)) ?_
    refine xW_pure (fun _ _ _ _ _ => am_iadd d_Mod_either_15) ?_
    refine xW_callV O (H.2.2.2.2.2.2.2.1 _ _ _ _ _).1 (H.2.2.2.2.2.2.2.1 _ _ _ _ _).2 rfl rfl rfl l_Mod_256 ⟨w_1885, w_97⟩ rfl (Nat.le_of_ble_eq_true rfl) d_Mod_either_16 (fun v4 s3 _ => ?_)
    refine xW_ite (fun _ _ _ _ _ k1 k2 => am_if_ne (tgt := 24) d_Mod_either_19 (by decide) k2 k1) (fun _ => ?_) (fun _ => ?_)
    · refine xW_pure (fun _ _ _ _ _ => am_iconst (v := 0) d_Mod_either_22 (by decide)) ?_
      exact xW_ret (fun _ _ _ _ _ => am_zret (ty := .boolean) rfl rfl d_Mod_either_23)
    · refine xW_pure (fun _ _ _ _ _ => am_iconst (v := (-1)) d_Mod_either_24 (by decide)) ?_
      refine xW_pure (fun _ _ _ _ _ => am_istore_n d_Mod_either_25 rfl (Nat.le_of_ble_eq_true rfl)) ?_
      refine xW_locs (lv' := [(0, .ref x0), (1, .int x1), (2, .int x2), (3, .int (-1))]) rfl ?_
      refine xW_loop (lvf := fun (z26 : Int32 × HS) => [(0, .ref x0), (1, .int x1), (2, .int x2), (3, .int z26.1)]) (hsf := fun (z26 : Int32 × HS) => z26.2) (fun again26 ih26 z26 => ?_) FU ((-1), s3)
      refine xW_pure (fun _ _ _ _ _ => am_aload_n d_Mod_either_26 rfl rfl) ?_
      refine xW_pure (fun _ _ _ _ _ => am_iload_n d_Mod_either_27 rfl rfl) ?_
      refine xW_ite (fun _ _ _ _ _ k1 k2 => am_if_ne (tgt := 37) d_Mod_either_28 (by decide) k2 k1) (fun _ => ?_) (fun _ => ?_)
      · refine xW_pure (fun _ _ _ _ _ => am_ldcSw (T.2.2 29 ("StowTongueModel", 263, "||") rfl) d_Mod_either_31) ?_
        refine xW_pure (fun _ _ _ _ _ => am_goto (tgt := 40) d_Mod_either_34 (by decide)) ?_
        refine xW_callV O (dx_Mod_is O T) (fun _ e => ob_Mod_is e) rfl rfl rfl l_Mod_80 ⟨w_1833, w_86⟩ rfl (Nat.le_of_ble_eq_true rfl) d_Mod_either_40 (fun v6 s5 _ => ?_)
        refine xW_ite (fun _ _ _ _ _ => am_if_eq (tgt := 84) d_Mod_either_43 (by decide)) (fun _ => ?_) (fun _ => ?_)
        · refine xW_locs (lv' := [(0, .ref x0), (3, .int z26.1)]) rfl ?_
          refine xW_loop (lvf := fun (z84 : Int32 × HS) => [(0, .ref x0), (3, .int z84.1)]) (hsf := fun (z84 : Int32 × HS) => z84.2) (fun again84 ih84 z84 => ?_) FU (z26.1, s5)
          refine xW_pure (fun _ _ _ _ _ => am_iload_n d_Mod_either_84 rfl rfl) ?_
          refine xW_ite (fun _ _ _ _ _ => am_if_lt (tgt := 121) d_Mod_either_85 (by decide)) (fun _ => ?_) (fun _ => ?_)
          · refine xW_pure (fun _ _ _ _ _ => am_iconst (v := 1) d_Mod_either_121 (by decide)) ?_
            exact xW_ret (fun _ _ _ _ _ => am_zret (ty := .boolean) rfl rfl d_Mod_either_122)
          · refine xW_pure (fun _ _ _ _ _ => am_aload_n d_Mod_either_88 rfl rfl) ?_
            refine xW_gR O f_Mod_91 d_Mod_either_89 (fun v7 _ => ?_)
            refine xW_gR O f_Mod_95 d_Mod_either_92 (fun v8 _ => ?_)
            refine xW_pure (fun _ _ _ _ _ => am_iload_n d_Mod_either_95 rfl rfl) ?_
            refine xW_aI O d_Mod_either_96 (fun v9 _ => ?_)
            refine xW_pure (fun _ _ _ _ _ => am_istore d_Mod_either_97 (Nat.le_of_ble_eq_true rfl)) ?_
            refine xW_pure (fun _ _ _ _ _ => am_aload_n d_Mod_either_99 rfl rfl) ?_
            refine xW_gR O f_Mod_91 d_Mod_either_100 (fun v10 _ => ?_)
            refine xW_gR O f_Mod_95 d_Mod_either_103 (fun v11 _ => ?_)
            refine xW_pure (fun _ _ _ _ _ => am_iload_n d_Mod_either_106 rfl rfl) ?_
            refine xW_pure (fun _ _ _ _ _ => am_aload_n d_Mod_either_107 rfl rfl) ?_
            refine xW_gR O f_Mod_91 d_Mod_either_108 (fun v12 _ => ?_)
            refine xW_gI O f_Mod_100 d_Mod_either_111 (fun v13 _ => ?_)
            refine xW_sI O d_Mod_either_114 (fun s14 _ => ?_)
            refine xW_pure (fun _ _ _ _ _ => am_iload d_Mod_either_115 rfl) ?_
            refine xW_pure (fun _ _ _ _ _ => am_istore_n d_Mod_either_117 rfl (Nat.le_of_ble_eq_true rfl)) ?_
            refine xW_pure (fun _ _ _ _ _ => am_goto (tgt := 84) d_Mod_either_118 (by decide)) ?_
            refine xW_locs (lv' := [(0, .ref x0), (3, .int v9)]) rfl ?_
            exact ih84 (v9, s14)
        · refine xW_pure (fun _ _ _ _ _ => am_aload_n d_Mod_either_46 rfl rfl) ?_
          refine xW_callV O (dx_Mod_step O T) (fun _ e => ob_Mod_step e) rfl rfl rfl l_Mod_87 ⟨w_1808, w_84⟩ rfl (Nat.le_of_ble_eq_true rfl) d_Mod_either_47 (fun v16 s15 _ => ?_)
          refine xW_pure (fun _ _ _ _ _ => am_aload_n d_Mod_either_50 rfl rfl) ?_
          refine xW_pure (fun _ _ _ _ _ => am_bipush (v := 16) d_Mod_either_51 (by decide)) ?_
          refine xW_pure (fun _ _ _ _ _ => am_iload_n d_Mod_either_53 rfl rfl) ?_
          refine xW_callV O (dx_Mod_put_II O T) (fun _ e => ob_Mod_put_II e) rfl rfl rfl l_Mod_120 ⟨w_1919, w_104⟩ rfl (Nat.le_of_ble_eq_true rfl) d_Mod_either_54 (fun v18 s17 _ => ?_)
          refine xW_pure (fun _ _ _ _ _ => am_aload_n d_Mod_either_57 rfl rfl) ?_
          refine xW_pure (fun _ _ _ _ _ => am_iload_n d_Mod_either_58 rfl rfl) ?_
          refine xW_callV O (dx_Mod_put_I O T) (fun _ e => ob_Mod_put_I e) rfl rfl rfl l_Mod_103 ⟨w_1875, w_95⟩ rfl (Nat.le_of_ble_eq_true rfl) d_Mod_either_59 (fun v20 s19 _ => ?_)
          refine xW_pure (fun _ _ _ _ _ => am_istore_n d_Mod_either_62 rfl (Nat.le_of_ble_eq_true rfl)) ?_
          refine xW_pure (fun _ _ _ _ _ => am_aload_n d_Mod_either_63 rfl rfl) ?_
          refine xW_pure (fun _ _ _ _ _ => am_iload_n d_Mod_either_64 rfl rfl) ?_
          refine xW_pure (fun _ _ _ _ _ => am_iload_n d_Mod_either_65 rfl rfl) ?_
          refine xW_pure (fun _ _ _ _ _ => am_iconst (v := 1) d_Mod_either_66 (by decide)) ?_
          refine xW_pure (fun _ _ _ _ _ => am_iadd d_Mod_either_67) ?_
          refine xW_callV O (H.2.2.2.2.2.2.2.1 _ _ _ _ _).1 (H.2.2.2.2.2.2.2.1 _ _ _ _ _).2 rfl rfl rfl l_Mod_256 ⟨w_1885, w_97⟩ rfl (Nat.le_of_ble_eq_true rfl) d_Mod_either_68 (fun v22 s21 _ => ?_)
          refine xW_ite (fun _ _ _ _ _ k1 k2 => am_if_ne (tgt := 76) d_Mod_either_71 (by decide) k2 k1) (fun _ => ?_) (fun _ => ?_)
          · refine xW_pure (fun _ _ _ _ _ => am_iconst (v := 0) d_Mod_either_74 (by decide)) ?_
            exact xW_ret (fun _ _ _ _ _ => am_zret (ty := .boolean) rfl rfl d_Mod_either_75)
          · refine xW_pure (fun _ _ _ _ _ => am_aload_n d_Mod_either_76 rfl rfl) ?_
            refine xW_pure (fun _ _ _ _ _ => am_iconst (v := 0) d_Mod_either_77 (by decide)) ?_
            refine xW_put O f_Mod_249 d_Mod_either_78 (fun q hq => by cases hq; exact ⟨rfl, rfl, rfl⟩) (fun s23 _ => ?_)
            refine xW_pure (fun _ _ _ _ _ => am_goto (tgt := 26) d_Mod_either_81 (by decide)) ?_
            refine xW_locs (lv' := [(0, .ref x0), (1, .int x1), (2, .int x2), (3, .int v20)]) rfl ?_
            exact ih26 (v20, s23)
      · refine xW_pure (fun _ _ _ _ _ => am_ldcSw (T.2.2 30 ("StowTongueModel", 265, "&&") rfl) d_Mod_either_37) ?_
        refine xW_callV O (dx_Mod_is O T) (fun _ e => ob_Mod_is e) rfl rfl rfl l_Mod_80 ⟨w_1833, w_86⟩ rfl (Nat.le_of_ble_eq_true rfl) d_Mod_either_40 (fun v25 s24 _ => ?_)
        refine xW_ite (fun _ _ _ _ _ => am_if_eq (tgt := 84) d_Mod_either_43 (by decide)) (fun _ => ?_) (fun _ => ?_)
        · refine xW_locs (lv' := [(0, .ref x0), (3, .int z26.1)]) rfl ?_
          refine xW_loop (lvf := fun (z84 : Int32 × HS) => [(0, .ref x0), (3, .int z84.1)]) (hsf := fun (z84 : Int32 × HS) => z84.2) (fun again84 ih84 z84 => ?_) FU (z26.1, s24)
          refine xW_pure (fun _ _ _ _ _ => am_iload_n d_Mod_either_84 rfl rfl) ?_
          refine xW_ite (fun _ _ _ _ _ => am_if_lt (tgt := 121) d_Mod_either_85 (by decide)) (fun _ => ?_) (fun _ => ?_)
          · refine xW_pure (fun _ _ _ _ _ => am_iconst (v := 1) d_Mod_either_121 (by decide)) ?_
            exact xW_ret (fun _ _ _ _ _ => am_zret (ty := .boolean) rfl rfl d_Mod_either_122)
          · refine xW_pure (fun _ _ _ _ _ => am_aload_n d_Mod_either_88 rfl rfl) ?_
            refine xW_gR O f_Mod_91 d_Mod_either_89 (fun v26 _ => ?_)
            refine xW_gR O f_Mod_95 d_Mod_either_92 (fun v27 _ => ?_)
            refine xW_pure (fun _ _ _ _ _ => am_iload_n d_Mod_either_95 rfl rfl) ?_
            refine xW_aI O d_Mod_either_96 (fun v28 _ => ?_)
            refine xW_pure (fun _ _ _ _ _ => am_istore d_Mod_either_97 (Nat.le_of_ble_eq_true rfl)) ?_
            refine xW_pure (fun _ _ _ _ _ => am_aload_n d_Mod_either_99 rfl rfl) ?_
            refine xW_gR O f_Mod_91 d_Mod_either_100 (fun v29 _ => ?_)
            refine xW_gR O f_Mod_95 d_Mod_either_103 (fun v30 _ => ?_)
            refine xW_pure (fun _ _ _ _ _ => am_iload_n d_Mod_either_106 rfl rfl) ?_
            refine xW_pure (fun _ _ _ _ _ => am_aload_n d_Mod_either_107 rfl rfl) ?_
            refine xW_gR O f_Mod_91 d_Mod_either_108 (fun v31 _ => ?_)
            refine xW_gI O f_Mod_100 d_Mod_either_111 (fun v32 _ => ?_)
            refine xW_sI O d_Mod_either_114 (fun s33 _ => ?_)
            refine xW_pure (fun _ _ _ _ _ => am_iload d_Mod_either_115 rfl) ?_
            refine xW_pure (fun _ _ _ _ _ => am_istore_n d_Mod_either_117 rfl (Nat.le_of_ble_eq_true rfl)) ?_
            refine xW_pure (fun _ _ _ _ _ => am_goto (tgt := 84) d_Mod_either_118 (by decide)) ?_
            refine xW_locs (lv' := [(0, .ref x0), (3, .int v28)]) rfl ?_
            exact ih84 (v28, s33)
        · refine xW_pure (fun _ _ _ _ _ => am_aload_n d_Mod_either_46 rfl rfl) ?_
          refine xW_callV O (dx_Mod_step O T) (fun _ e => ob_Mod_step e) rfl rfl rfl l_Mod_87 ⟨w_1808, w_84⟩ rfl (Nat.le_of_ble_eq_true rfl) d_Mod_either_47 (fun v35 s34 _ => ?_)
          refine xW_pure (fun _ _ _ _ _ => am_aload_n d_Mod_either_50 rfl rfl) ?_
          refine xW_pure (fun _ _ _ _ _ => am_bipush (v := 16) d_Mod_either_51 (by decide)) ?_
          refine xW_pure (fun _ _ _ _ _ => am_iload_n d_Mod_either_53 rfl rfl) ?_
          refine xW_callV O (dx_Mod_put_II O T) (fun _ e => ob_Mod_put_II e) rfl rfl rfl l_Mod_120 ⟨w_1919, w_104⟩ rfl (Nat.le_of_ble_eq_true rfl) d_Mod_either_54 (fun v37 s36 _ => ?_)
          refine xW_pure (fun _ _ _ _ _ => am_aload_n d_Mod_either_57 rfl rfl) ?_
          refine xW_pure (fun _ _ _ _ _ => am_iload_n d_Mod_either_58 rfl rfl) ?_
          refine xW_callV O (dx_Mod_put_I O T) (fun _ e => ob_Mod_put_I e) rfl rfl rfl l_Mod_103 ⟨w_1875, w_95⟩ rfl (Nat.le_of_ble_eq_true rfl) d_Mod_either_59 (fun v39 s38 _ => ?_)
          refine xW_pure (fun _ _ _ _ _ => am_istore_n d_Mod_either_62 rfl (Nat.le_of_ble_eq_true rfl)) ?_
          refine xW_pure (fun _ _ _ _ _ => am_aload_n d_Mod_either_63 rfl rfl) ?_
          refine xW_pure (fun _ _ _ _ _ => am_iload_n d_Mod_either_64 rfl rfl) ?_
          refine xW_pure (fun _ _ _ _ _ => am_iload_n d_Mod_either_65 rfl rfl) ?_
          refine xW_pure (fun _ _ _ _ _ => am_iconst (v := 1) d_Mod_either_66 (by decide)) ?_
          refine xW_pure (fun _ _ _ _ _ => am_iadd d_Mod_either_67) ?_
          refine xW_callV O (H.2.2.2.2.2.2.2.1 _ _ _ _ _).1 (H.2.2.2.2.2.2.2.1 _ _ _ _ _).2 rfl rfl rfl l_Mod_256 ⟨w_1885, w_97⟩ rfl (Nat.le_of_ble_eq_true rfl) d_Mod_either_68 (fun v41 s40 _ => ?_)
          refine xW_ite (fun _ _ _ _ _ k1 k2 => am_if_ne (tgt := 76) d_Mod_either_71 (by decide) k2 k1) (fun _ => ?_) (fun _ => ?_)
          · refine xW_pure (fun _ _ _ _ _ => am_iconst (v := 0) d_Mod_either_74 (by decide)) ?_
            exact xW_ret (fun _ _ _ _ _ => am_zret (ty := .boolean) rfl rfl d_Mod_either_75)
          · refine xW_pure (fun _ _ _ _ _ => am_aload_n d_Mod_either_76 rfl rfl) ?_
            refine xW_pure (fun _ _ _ _ _ => am_iconst (v := 0) d_Mod_either_77 (by decide)) ?_
            refine xW_put O f_Mod_249 d_Mod_either_78 (fun q hq => by cases hq; exact ⟨rfl, rfl, rfl⟩) (fun s42 _ => ?_)
            refine xW_pure (fun _ _ _ _ _ => am_goto (tgt := 26) d_Mod_either_81 (by decide)) ?_
            refine xW_locs (lv' := [(0, .ref x0), (1, .int x1), (2, .int x2), (3, .int v39)]) rfl ?_
            exact ih26 (v39, s42)

set_option maxRecDepth 100000 in
def x_Mod_compared_b103 (c : CLT) (d : Nat) (l0 : Nat) (l2 : Int32) (t0 : Nat) (t1 : Int32) (s : HS) : Option (Int32 × HS) := bnd (x_Mod_put_II d t0 t1 (l2 &&& 1) s) fun v16 s15 => ((pV s15 l0 14 25 (.int 0)).bind fun s17 => (some (1, s17)))

set_option maxRecDepth 100000 in
set_option maxHeartbeats 4000000 in
theorem dx_Mod_compared_b103 (O : am_ok K X) (T : am_T K) {c : CLT} {d : Nat} (H : HC_M K X c d) {l0 : Nat} {l2 : Int32} {t0 : Nat} {t1 : Int32} {s : HS} : xW cvI K X m_Mod_compared (d + 1) 103 [(0, .ref l0), (2, .int l2)] [.int t1, .ref t0] s (x_Mod_compared_b103 c d l0 l2 t0 t1 s) := by
  unfold x_Mod_compared_b103
  refine xW_pure (fun _ _ _ _ _ => am_iload_n d_Mod_compared_103 rfl rfl) ?_
  refine xW_pure (fun _ _ _ _ _ => am_iconst (v := 1) d_Mod_compared_104 (by decide)) ?_
  refine xW_pure (fun _ _ _ _ _ => am_iand d_Mod_compared_105) ?_
  refine xW_callV O (dx_Mod_put_II O T) (fun _ e => ob_Mod_put_II e) rfl rfl rfl l_Mod_120 ⟨w_1919, w_104⟩ rfl (Nat.le_of_ble_eq_true rfl) d_Mod_compared_106 (fun v16 s15 _ => ?_)
  refine xW_pure (fun _ _ _ _ _ => am_aload_n d_Mod_compared_109 rfl rfl) ?_
  refine xW_pure (fun _ _ _ _ _ => am_iconst (v := 0) d_Mod_compared_110 (by decide)) ?_
  refine xW_put O f_Mod_249 d_Mod_compared_111 (fun q hq => by cases hq; exact ⟨rfl, rfl, rfl⟩) (fun s17 _ => ?_)
  refine xW_pure (fun _ _ _ _ _ => am_iconst (v := 1) d_Mod_compared_114 (by decide)) ?_
  exact xW_ret (fun _ _ _ _ _ => am_zret (ty := .boolean) rfl rfl d_Mod_compared_115)

set_option maxRecDepth 100000 in
def x_Mod_compared_b68 (c : CLT) (d : Nat) (l0 : Nat) (l1 : Int32) (t0 : Int32) (s : HS) : Option (Int32 × HS) := if 0 ≤ t0 then (bnd (x_Mod_step d l0 s) fun v12 s11 => (bnd ((c 9 l0 l1 0 0 s11)) fun v14 s13 => (if v14 = 0 then (some (0, s13)) else (if 2 ≤ t0 then (x_Mod_compared_b103 c d l0 t0 l0 13 s13) else (x_Mod_compared_b103 c d l0 t0 l0 12 s13))))) else (some (1, s))

set_option maxRecDepth 100000 in
set_option maxHeartbeats 4000000 in
theorem dx_Mod_compared_b68 (O : am_ok K X) (T : am_T K) {c : CLT} {d : Nat} (H : HC_M K X c d) {l0 : Nat} {l1 : Int32} {t0 : Int32} {s : HS} : xW cvI K X m_Mod_compared (d + 1) 68 [(0, .ref l0), (1, .int l1)] [.int t0] s (x_Mod_compared_b68 c d l0 l1 t0 s) := by
  unfold x_Mod_compared_b68
  refine xW_pure (fun _ _ _ _ _ => am_istore_n d_Mod_compared_68 rfl (Nat.le_of_ble_eq_true rfl)) ?_
  refine xW_pure (fun _ _ _ _ _ => am_iload_n d_Mod_compared_69 rfl rfl) ?_
  refine xW_ite (fun _ _ _ _ _ => am_if_ge (tgt := 75) d_Mod_compared_70 (by decide)) (fun _ => ?_) (fun _ => ?_)
  · refine xW_pure (fun _ _ _ _ _ => am_aload_n d_Mod_compared_75 rfl rfl) ?_
    refine xW_callV O (dx_Mod_step O T) (fun _ e => ob_Mod_step e) rfl rfl rfl l_Mod_87 ⟨w_1808, w_84⟩ rfl (Nat.le_of_ble_eq_true rfl) d_Mod_compared_76 (fun v12 s11 _ => ?_)
    refine xW_pure (fun _ _ _ _ _ => am_aload_n d_Mod_compared_79 rfl rfl) ?_
    refine xW_pure (fun _ _ _ _ _ => am_iload_n d_Mod_compared_80 rfl rfl) ?_
    refine xW_pure (fun _ _ _ _ _ => am_iconst (v := 0) d_Mod_compared_81 (by decide)) ?_
    refine xW_callV O (H.2.2.2.2.2.2.2.2.2.1 _ _ _ _ _).1 (H.2.2.2.2.2.2.2.2.2.1 _ _ _ _ _).2 rfl rfl rfl l_Mod_267 ⟨w_1893, w_99⟩ rfl (Nat.le_of_ble_eq_true rfl) d_Mod_compared_82 (fun v14 s13 _ => ?_)
    refine xW_ite (fun _ _ _ _ _ k1 k2 => am_if_ne (tgt := 90) d_Mod_compared_85 (by decide) k2 k1) (fun _ => ?_) (fun _ => ?_)
    · refine xW_pure (fun _ _ _ _ _ => am_iconst (v := 0) d_Mod_compared_88 (by decide)) ?_
      exact xW_ret (fun _ _ _ _ _ => am_zret (ty := .boolean) rfl rfl d_Mod_compared_89)
    · refine xW_pure (fun _ _ _ _ _ => am_aload_n d_Mod_compared_90 rfl rfl) ?_
      refine xW_pure (fun _ _ _ _ _ => am_iload_n d_Mod_compared_91 rfl rfl) ?_
      refine xW_pure (fun _ _ _ _ _ => am_iconst (v := 2) d_Mod_compared_92 (by decide)) ?_
      refine xW_ite (fun _ _ _ _ _ => am_icmp_ge (tgt := 101) d_Mod_compared_93 (by decide)) (fun _ => ?_) (fun _ => ?_)
      · refine xW_pure (fun _ _ _ _ _ => am_bipush (v := 13) d_Mod_compared_101 (by decide)) ?_
        refine xW_locs (lv' := [(0, .ref l0), (2, .int t0)]) rfl ?_
        exact dx_Mod_compared_b103 O T H
      · refine xW_pure (fun _ _ _ _ _ => am_bipush (v := 12) d_Mod_compared_96 (by decide)) ?_
        refine xW_pure (fun _ _ _ _ _ => am_goto (tgt := 103) d_Mod_compared_98 (by decide)) ?_
        refine xW_locs (lv' := [(0, .ref l0), (2, .int t0)]) rfl ?_
        exact dx_Mod_compared_b103 O T H
  · refine xW_pure (fun _ _ _ _ _ => am_iconst (v := 1) d_Mod_compared_73 (by decide)) ?_
    exact xW_ret (fun _ _ _ _ _ => am_zret (ty := .boolean) rfl rfl d_Mod_compared_74)

set_option maxRecDepth 100000 in
def x_Mod_compared_b (c : CLT) (d : Nat) (x0 : Nat) (x1 : Int32) (s : HS) : Option (Int32 × HS) := gd s x0 14 (bnd ((c 9 x0 x1 0 0 s)) fun v2 s1 => (if v2 = 0 then (some (0, s1)) else (bnd (x_Mod_is d x0 56 s1) fun v4 s3 => (if v4 = 0 then (bnd (x_Mod_is d x0 58 s3) fun v6 s5 => (if v6 = 0 then (bnd (x_Mod_is d x0 60 s5) fun v8 s7 => (if v8 = 0 then (bnd (x_Mod_is d x0 62 s7) fun v10 s9 => (if v10 = 0 then (x_Mod_compared_b68 c d x0 x1 (-1) s9) else (x_Mod_compared_b68 c d x0 x1 3 s9))) else (x_Mod_compared_b68 c d x0 x1 2 s7))) else (x_Mod_compared_b68 c d x0 x1 1 s5))) else (x_Mod_compared_b68 c d x0 x1 0 s3)))))

set_option maxRecDepth 100000 in
set_option maxHeartbeats 4000000 in
theorem dx_Mod_compared_b (O : am_ok K X) (T : am_T K) {c : CLT} {d : Nat} (H : HC_M K X c d) {x0 : Nat} {x1 : Int32} {s : HS} : xM cvI K X m_Mod_compared (d + 1) [.ref x0, .int x1] s (x_Mod_compared_b c d x0 x1 s) := by
  unfold x_Mod_compared_b
  refine xM_enter (by decide +kernel) (Nat.le_of_ble_eq_true rfl) ?_
  refine xW_gd (fun _ => ?_)
  refine xW_pure (fun _ _ _ _ _ => am_aload_n d_Mod_compared_0 rfl rfl) ?_
  refine xW_pure (fun _ _ _ _ _ => am_iload_n d_Mod_compared_1 rfl rfl) ?_
  refine xW_pure (fun _ _ _ _ _ => am_iconst (v := 0) d_Mod_compared_2 (by decide)) ?_
  refine xW_callV O (H.2.2.2.2.2.2.2.2.2.1 _ _ _ _ _).1 (H.2.2.2.2.2.2.2.2.2.1 _ _ _ _ _).2 rfl rfl rfl l_Mod_267 ⟨w_1893, w_99⟩ rfl (Nat.le_of_ble_eq_true rfl) d_Mod_compared_3 (fun v2 s1 _ => ?_)
  refine xW_ite (fun _ _ _ _ _ k1 k2 => am_if_ne (tgt := 11) d_Mod_compared_6 (by decide) k2 k1) (fun _ => ?_) (fun _ => ?_)
  · refine xW_pure (fun _ _ _ _ _ => am_iconst (v := 0) d_Mod_compared_9 (by decide)) ?_
    exact xW_ret (fun _ _ _ _ _ => am_zret (ty := .boolean) rfl rfl d_Mod_compared_10)
  · refine xW_pure (fun _ _ _ _ _ => am_aload_n d_Mod_compared_11 rfl rfl) ?_
    refine xW_pure (fun _ _ _ _ _ => am_ldcSw (T.2.2 25 ("StowTongueModel", 270, "==") rfl) d_Mod_compared_12) ?_
    refine xW_callV O (dx_Mod_is O T) (fun _ e => ob_Mod_is e) rfl rfl rfl l_Mod_80 ⟨w_1833, w_86⟩ rfl (Nat.le_of_ble_eq_true rfl) d_Mod_compared_15 (fun v4 s3 _ => ?_)
    refine xW_ite (fun _ _ _ _ _ => am_if_eq (tgt := 25) d_Mod_compared_18 (by decide)) (fun _ => ?_) (fun _ => ?_)
    · refine xW_pure (fun _ _ _ _ _ => am_aload_n d_Mod_compared_25 rfl rfl) ?_
      refine xW_pure (fun _ _ _ _ _ => am_ldcSw (T.2.2 26 ("StowTongueModel", 272, "!=") rfl) d_Mod_compared_26) ?_
      refine xW_callV O (dx_Mod_is O T) (fun _ e => ob_Mod_is e) rfl rfl rfl l_Mod_80 ⟨w_1833, w_86⟩ rfl (Nat.le_of_ble_eq_true rfl) d_Mod_compared_29 (fun v6 s5 _ => ?_)
      refine xW_ite (fun _ _ _ _ _ => am_if_eq (tgt := 39) d_Mod_compared_32 (by decide)) (fun _ => ?_) (fun _ => ?_)
      · refine xW_pure (fun _ _ _ _ _ => am_aload_n d_Mod_compared_39 rfl rfl) ?_
        refine xW_pure (fun _ _ _ _ _ => am_ldcSw (T.2.2 27 ("StowTongueModel", 274, "<") rfl) d_Mod_compared_40) ?_
        refine xW_callV O (dx_Mod_is O T) (fun _ e => ob_Mod_is e) rfl rfl rfl l_Mod_80 ⟨w_1833, w_86⟩ rfl (Nat.le_of_ble_eq_true rfl) d_Mod_compared_43 (fun v8 s7 _ => ?_)
        refine xW_ite (fun _ _ _ _ _ => am_if_eq (tgt := 53) d_Mod_compared_46 (by decide)) (fun _ => ?_) (fun _ => ?_)
        · refine xW_pure (fun _ _ _ _ _ => am_aload_n d_Mod_compared_53 rfl rfl) ?_
          refine xW_pure (fun _ _ _ _ _ => am_ldcSw (T.2.2 28 ("StowTongueModel", 276, "<=") rfl) d_Mod_compared_54) ?_
          refine xW_callV O (dx_Mod_is O T) (fun _ e => ob_Mod_is e) rfl rfl rfl l_Mod_80 ⟨w_1833, w_86⟩ rfl (Nat.le_of_ble_eq_true rfl) d_Mod_compared_57 (fun v10 s9 _ => ?_)
          refine xW_ite (fun _ _ _ _ _ => am_if_eq (tgt := 67) d_Mod_compared_60 (by decide)) (fun _ => ?_) (fun _ => ?_)
          · refine xW_pure (fun _ _ _ _ _ => am_iconst (v := (-1)) d_Mod_compared_67 (by decide)) ?_
            refine xW_locs (lv' := [(0, .ref x0), (1, .int x1)]) rfl ?_
            exact dx_Mod_compared_b68 O T H
          · refine xW_pure (fun _ _ _ _ _ => am_iconst (v := 3) d_Mod_compared_63 (by decide)) ?_
            refine xW_pure (fun _ _ _ _ _ => am_goto (tgt := 68) d_Mod_compared_64 (by decide)) ?_
            refine xW_locs (lv' := [(0, .ref x0), (1, .int x1)]) rfl ?_
            exact dx_Mod_compared_b68 O T H
        · refine xW_pure (fun _ _ _ _ _ => am_iconst (v := 2) d_Mod_compared_49 (by decide)) ?_
          refine xW_pure (fun _ _ _ _ _ => am_goto (tgt := 68) d_Mod_compared_50 (by decide)) ?_
          refine xW_locs (lv' := [(0, .ref x0), (1, .int x1)]) rfl ?_
          exact dx_Mod_compared_b68 O T H
      · refine xW_pure (fun _ _ _ _ _ => am_iconst (v := 1) d_Mod_compared_35 (by decide)) ?_
        refine xW_pure (fun _ _ _ _ _ => am_goto (tgt := 68) d_Mod_compared_36 (by decide)) ?_
        refine xW_locs (lv' := [(0, .ref x0), (1, .int x1)]) rfl ?_
        exact dx_Mod_compared_b68 O T H
    · refine xW_pure (fun _ _ _ _ _ => am_iconst (v := 0) d_Mod_compared_21 (by decide)) ?_
      refine xW_pure (fun _ _ _ _ _ => am_goto (tgt := 68) d_Mod_compared_22 (by decide)) ?_
      refine xW_locs (lv' := [(0, .ref x0), (1, .int x1)]) rfl ?_
      exact dx_Mod_compared_b68 O T H

set_option maxRecDepth 100000 in
def x_Mod_sum_II_b (c : CLT) (d : Nat) (x0 : Nat) (x1 : Int32) (x2 : Int32) (s : HS) : Option (Int32 × HS) := gd s x0 14 (if x2 = 2 then (bnd ((c 10 x0 x1 0 0 s)) fun v2 s1 => (okB v2 (some (v2, s1)))) else (bnd ((c 9 x0 x1 (x2 + 1) 0 s)) fun v4 s3 => (if v4 = 0 then (some (0, s3)) else (loopK (fun (again24 : HS → Option (Int32 × HS)) (z24 : HS) => (if x2 = 0 then (bnd (x_Mod_is d x0 48 z24) fun v6 s5 => (if v6 = 0 then (bnd (x_Mod_is d x0 28 s5) fun v8 s7 => (if v8 = 0 then (some (1, s7)) else ((gR s7 x0 14 0).bind fun v9 => ((gI s7 x0 14 7).bind fun v10 => ((aB s7 v9 v10).bind fun v11 => (bnd (x_Mod_step d x0 s7) fun v13 s12 => (bnd ((c 9 x0 x1 (x2 + 1) 0 s12)) fun v15 s14 => (if v15 = 0 then (some (0, s14)) else (bnd (x_Mod_put_II d x0 9 v11 s14) fun v17 s16 => ((pV s16 x0 14 25 (.int 0)).bind fun s18 => (again24 s18))))))))))) else ((gR s5 x0 14 0).bind fun v19 => ((gI s5 x0 14 7).bind fun v20 => ((aB s5 v19 v20).bind fun v21 => (bnd (x_Mod_step d x0 s5) fun v23 s22 => (bnd ((c 9 x0 x1 (x2 + 1) 0 s22)) fun v25 s24 => (if v25 = 0 then (some (0, s24)) else (bnd (x_Mod_put_II d x0 9 v21 s24) fun v27 s26 => ((pV s26 x0 14 25 (.int 0)).bind fun s28 => (again24 s28))))))))))) else (bnd (x_Mod_is d x0 50 z24) fun v30 s29 => (if v30 = 0 then (bnd (x_Mod_is d x0 52 s29) fun v32 s31 => (if v32 = 0 then (bnd (x_Mod_is d x0 54 s31) fun v34 s33 => (if v34 = 0 then (some (1, s33)) else ((gR s33 x0 14 0).bind fun v35 => ((gI s33 x0 14 7).bind fun v36 => ((aB s33 v35 v36).bind fun v37 => (bnd (x_Mod_step d x0 s33) fun v39 s38 => (bnd ((c 9 x0 x1 (x2 + 1) 0 s38)) fun v41 s40 => (if v41 = 0 then (some (0, s40)) else (bnd (x_Mod_put_II d x0 9 v37 s40) fun v43 s42 => ((pV s42 x0 14 25 (.int 0)).bind fun s44 => (again24 s44))))))))))) else ((gR s31 x0 14 0).bind fun v45 => ((gI s31 x0 14 7).bind fun v46 => ((aB s31 v45 v46).bind fun v47 => (bnd (x_Mod_step d x0 s31) fun v49 s48 => (bnd ((c 9 x0 x1 (x2 + 1) 0 s48)) fun v51 s50 => (if v51 = 0 then (some (0, s50)) else (bnd (x_Mod_put_II d x0 9 v47 s50) fun v53 s52 => ((pV s52 x0 14 25 (.int 0)).bind fun s54 => (again24 s54))))))))))) else ((gR s29 x0 14 0).bind fun v55 => ((gI s29 x0 14 7).bind fun v56 => ((aB s29 v55 v56).bind fun v57 => (bnd (x_Mod_step d x0 s29) fun v59 s58 => (bnd ((c 9 x0 x1 (x2 + 1) 0 s58)) fun v61 s60 => (if v61 = 0 then (some (0, s60)) else (bnd (x_Mod_put_II d x0 9 v57 s60) fun v63 s62 => ((pV s62 x0 14 25 (.int 0)).bind fun s64 => (again24 s64))))))))))))) FU s3))))

set_option maxRecDepth 100000 in
set_option maxHeartbeats 4000000 in
theorem dx_Mod_sum_II_b (O : am_ok K X) (T : am_T K) {c : CLT} {d : Nat} (H : HC_M K X c d) {x0 : Nat} {x1 : Int32} {x2 : Int32} {s : HS} : xM cvI K X m_Mod_sum_II (d + 1) [.ref x0, .int x1, .int x2] s (x_Mod_sum_II_b c d x0 x1 x2 s) := by
  unfold x_Mod_sum_II_b
  refine xM_enter (by decide +kernel) (Nat.le_of_ble_eq_true rfl) ?_
  refine xW_gd (fun _ => ?_)
  refine xW_pure (fun _ _ _ _ _ => am_iload_n d_Mod_sum_II_0 rfl rfl) ?_
  refine xW_pure (fun _ _ _ _ _ => am_iconst (v := 2) d_Mod_sum_II_1 (by decide)) ?_
  refine xW_ite (fun _ _ _ _ _ k1 k2 => am_icmp_ne (tgt := 11) d_Mod_sum_II_2 (by decide) k2 k1) (fun _ => ?_) (fun _ => ?_)
  · refine xW_pure (fun _ _ _ _ _ => am_aload_n d_Mod_sum_II_5 rfl rfl) ?_
    refine xW_pure (fun _ _ _ _ _ => am_iload_n d_Mod_sum_II_6 rfl rfl) ?_
    refine xW_callV O (H.2.2.2.2.2.2.2.2.2.2.1 _ _ _ _ _).1 (H.2.2.2.2.2.2.2.2.2.2.1 _ _ _ _ _).2 rfl rfl rfl l_Mod_278 ⟨w_1897, w_100⟩ rfl (Nat.le_of_ble_eq_true rfl) d_Mod_sum_II_7 (fun v2 s1 _ => ?_)
    refine xW_okB (fun hz => ?_)
    exact xW_ret (fun _ _ _ _ _ => am_zret (ty := .boolean) rfl (bz_nar hz) d_Mod_sum_II_10)
  · refine xW_pure (fun _ _ _ _ _ => am_aload_n d_Mod_sum_II_11 rfl rfl) ?_
    refine xW_pure (fun _ _ _ _ _ => am_iload_n d_Mod_sum_II_12 rfl rfl) ?_
    refine xW_pure (fun _ _ _ _ _ => am_iload_n d_Mod_sum_II_13 rfl rfl) ?_
    refine xW_pure (fun _ _ _ _ _ => am_iconst (v := 1) d_Mod_sum_II_14 (by decide)) ?_
    refine xW_pure (fun _ _ _ _ _ => am_iadd d_Mod_sum_II_15) ?_
    refine xW_callV O (H.2.2.2.2.2.2.2.2.2.1 _ _ _ _ _).1 (H.2.2.2.2.2.2.2.2.2.1 _ _ _ _ _).2 rfl rfl rfl l_Mod_267 ⟨w_1893, w_99⟩ rfl (Nat.le_of_ble_eq_true rfl) d_Mod_sum_II_16 (fun v4 s3 _ => ?_)
    refine xW_ite (fun _ _ _ _ _ k1 k2 => am_if_ne (tgt := 24) d_Mod_sum_II_19 (by decide) k2 k1) (fun _ => ?_) (fun _ => ?_)
    · refine xW_pure (fun _ _ _ _ _ => am_iconst (v := 0) d_Mod_sum_II_22 (by decide)) ?_
      exact xW_ret (fun _ _ _ _ _ => am_zret (ty := .boolean) rfl rfl d_Mod_sum_II_23)
    · refine xW_locs (lv' := [(0, .ref x0), (1, .int x1), (2, .int x2)]) rfl ?_
      refine xW_loop (lvf := fun (z24 : HS) => [(0, .ref x0), (1, .int x1), (2, .int x2)]) (hsf := fun (z24 : HS) => z24) (fun again24 ih24 z24 => ?_) FU s3
      refine xW_pure (fun _ _ _ _ _ => am_iload_n d_Mod_sum_II_24 rfl rfl) ?_
      refine xW_ite (fun _ _ _ _ _ k1 k2 => am_if_ne (tgt := 51) d_Mod_sum_II_25 (by decide) k2 k1) (fun _ => ?_) (fun _ => ?_)
      · refine xW_pure (fun _ _ _ _ _ => am_aload_n d_Mod_sum_II_28 rfl rfl) ?_
        refine xW_pure (fun _ _ _ _ _ => am_ldcSw (T.2.2 21 ("StowTongueModel", 281, "+") rfl) d_Mod_sum_II_29) ?_
        refine xW_callV O (dx_Mod_is O T) (fun _ e => ob_Mod_is e) rfl rfl rfl l_Mod_80 ⟨w_1833, w_86⟩ rfl (Nat.le_of_ble_eq_true rfl) d_Mod_sum_II_32 (fun v6 s5 _ => ?_)
        refine xW_ite (fun _ _ _ _ _ k1 k2 => am_if_ne (tgt := 81) d_Mod_sum_II_35 (by decide) k2 k1) (fun _ => ?_) (fun _ => ?_)
        · refine xW_pure (fun _ _ _ _ _ => am_aload_n d_Mod_sum_II_38 rfl rfl) ?_
          refine xW_pure (fun _ _ _ _ _ => am_ldcSw (T.2.2 11 ("StowTongueModel", 283, "-") rfl) d_Mod_sum_II_39) ?_
          refine xW_callV O (dx_Mod_is O T) (fun _ e => ob_Mod_is e) rfl rfl rfl l_Mod_80 ⟨w_1833, w_86⟩ rfl (Nat.le_of_ble_eq_true rfl) d_Mod_sum_II_42 (fun v8 s7 _ => ?_)
          refine xW_ite (fun _ _ _ _ _ => am_if_eq (tgt := 123) d_Mod_sum_II_45 (by decide)) (fun _ => ?_) (fun _ => ?_)
          · refine xW_pure (fun _ _ _ _ _ => am_iconst (v := 1) d_Mod_sum_II_123 (by decide)) ?_
            exact xW_ret (fun _ _ _ _ _ => am_zret (ty := .boolean) rfl rfl d_Mod_sum_II_124)
          · refine xW_pure (fun _ _ _ _ _ => am_goto (tgt := 81) d_Mod_sum_II_48 (by decide)) ?_
            refine xW_pure (fun _ _ _ _ _ => am_aload_n d_Mod_sum_II_81 rfl rfl) ?_
            refine xW_gR O f_Mod_22 d_Mod_sum_II_82 (fun v9 _ => ?_)
            refine xW_pure (fun _ _ _ _ _ => am_aload_n d_Mod_sum_II_85 rfl rfl) ?_
            refine xW_gI O f_Mod_9 d_Mod_sum_II_86 (fun v10 _ => ?_)
            refine xW_aB O d_Mod_sum_II_89 (fun v11 _ => ?_)
            refine xW_pure (fun _ _ _ _ _ => am_istore_n d_Mod_sum_II_90 rfl (Nat.le_of_ble_eq_true rfl)) ?_
            refine xW_pure (fun _ _ _ _ _ => am_aload_n d_Mod_sum_II_91 rfl rfl) ?_
            refine xW_callV O (dx_Mod_step O T) (fun _ e => ob_Mod_step e) rfl rfl rfl l_Mod_87 ⟨w_1808, w_84⟩ rfl (Nat.le_of_ble_eq_true rfl) d_Mod_sum_II_92 (fun v13 s12 _ => ?_)
            refine xW_pure (fun _ _ _ _ _ => am_aload_n d_Mod_sum_II_95 rfl rfl) ?_
            refine xW_pure (fun _ _ _ _ _ => am_iload_n d_Mod_sum_II_96 rfl rfl) ?_
            refine xW_pure (fun _ _ _ _ _ => am_iload_n d_Mod_sum_II_97 rfl rfl) ?_
            refine xW_pure (fun _ _ _ _ _ => am_iconst (v := 1) d_Mod_sum_II_98 (by decide)) ?_
            refine xW_pure (fun _ _ _ _ _ => am_iadd d_Mod_sum_II_99) ?_
            refine xW_callV O (H.2.2.2.2.2.2.2.2.2.1 _ _ _ _ _).1 (H.2.2.2.2.2.2.2.2.2.1 _ _ _ _ _).2 rfl rfl rfl l_Mod_267 ⟨w_1893, w_99⟩ rfl (Nat.le_of_ble_eq_true rfl) d_Mod_sum_II_100 (fun v15 s14 _ => ?_)
            refine xW_ite (fun _ _ _ _ _ k1 k2 => am_if_ne (tgt := 108) d_Mod_sum_II_103 (by decide) k2 k1) (fun _ => ?_) (fun _ => ?_)
            · refine xW_pure (fun _ _ _ _ _ => am_iconst (v := 0) d_Mod_sum_II_106 (by decide)) ?_
              exact xW_ret (fun _ _ _ _ _ => am_zret (ty := .boolean) rfl rfl d_Mod_sum_II_107)
            · refine xW_pure (fun _ _ _ _ _ => am_aload_n d_Mod_sum_II_108 rfl rfl) ?_
              refine xW_pure (fun _ _ _ _ _ => am_bipush (v := 9) d_Mod_sum_II_109 (by decide)) ?_
              refine xW_pure (fun _ _ _ _ _ => am_iload_n d_Mod_sum_II_111 rfl rfl) ?_
              refine xW_callV O (dx_Mod_put_II O T) (fun _ e => ob_Mod_put_II e) rfl rfl rfl l_Mod_120 ⟨w_1919, w_104⟩ rfl (Nat.le_of_ble_eq_true rfl) d_Mod_sum_II_112 (fun v17 s16 _ => ?_)
              refine xW_pure (fun _ _ _ _ _ => am_aload_n d_Mod_sum_II_115 rfl rfl) ?_
              refine xW_pure (fun _ _ _ _ _ => am_iconst (v := 0) d_Mod_sum_II_116 (by decide)) ?_
              refine xW_put O f_Mod_249 d_Mod_sum_II_117 (fun q hq => by cases hq; exact ⟨rfl, rfl, rfl⟩) (fun s18 _ => ?_)
              refine xW_pure (fun _ _ _ _ _ => am_goto (tgt := 24) d_Mod_sum_II_120 (by decide)) ?_
              refine xW_locs (lv' := [(0, .ref x0), (1, .int x1), (2, .int x2)]) rfl ?_
              exact ih24 s18
        · refine xW_pure (fun _ _ _ _ _ => am_aload_n d_Mod_sum_II_81 rfl rfl) ?_
          refine xW_gR O f_Mod_22 d_Mod_sum_II_82 (fun v19 _ => ?_)
          refine xW_pure (fun _ _ _ _ _ => am_aload_n d_Mod_sum_II_85 rfl rfl) ?_
          refine xW_gI O f_Mod_9 d_Mod_sum_II_86 (fun v20 _ => ?_)
          refine xW_aB O d_Mod_sum_II_89 (fun v21 _ => ?_)
          refine xW_pure (fun _ _ _ _ _ => am_istore_n d_Mod_sum_II_90 rfl (Nat.le_of_ble_eq_true rfl)) ?_
          refine xW_pure (fun _ _ _ _ _ => am_aload_n d_Mod_sum_II_91 rfl rfl) ?_
          refine xW_callV O (dx_Mod_step O T) (fun _ e => ob_Mod_step e) rfl rfl rfl l_Mod_87 ⟨w_1808, w_84⟩ rfl (Nat.le_of_ble_eq_true rfl) d_Mod_sum_II_92 (fun v23 s22 _ => ?_)
          refine xW_pure (fun _ _ _ _ _ => am_aload_n d_Mod_sum_II_95 rfl rfl) ?_
          refine xW_pure (fun _ _ _ _ _ => am_iload_n d_Mod_sum_II_96 rfl rfl) ?_
          refine xW_pure (fun _ _ _ _ _ => am_iload_n d_Mod_sum_II_97 rfl rfl) ?_
          refine xW_pure (fun _ _ _ _ _ => am_iconst (v := 1) d_Mod_sum_II_98 (by decide)) ?_
          refine xW_pure (fun _ _ _ _ _ => am_iadd d_Mod_sum_II_99) ?_
          refine xW_callV O (H.2.2.2.2.2.2.2.2.2.1 _ _ _ _ _).1 (H.2.2.2.2.2.2.2.2.2.1 _ _ _ _ _).2 rfl rfl rfl l_Mod_267 ⟨w_1893, w_99⟩ rfl (Nat.le_of_ble_eq_true rfl) d_Mod_sum_II_100 (fun v25 s24 _ => ?_)
          refine xW_ite (fun _ _ _ _ _ k1 k2 => am_if_ne (tgt := 108) d_Mod_sum_II_103 (by decide) k2 k1) (fun _ => ?_) (fun _ => ?_)
          · refine xW_pure (fun _ _ _ _ _ => am_iconst (v := 0) d_Mod_sum_II_106 (by decide)) ?_
            exact xW_ret (fun _ _ _ _ _ => am_zret (ty := .boolean) rfl rfl d_Mod_sum_II_107)
          · refine xW_pure (fun _ _ _ _ _ => am_aload_n d_Mod_sum_II_108 rfl rfl) ?_
            refine xW_pure (fun _ _ _ _ _ => am_bipush (v := 9) d_Mod_sum_II_109 (by decide)) ?_
            refine xW_pure (fun _ _ _ _ _ => am_iload_n d_Mod_sum_II_111 rfl rfl) ?_
            refine xW_callV O (dx_Mod_put_II O T) (fun _ e => ob_Mod_put_II e) rfl rfl rfl l_Mod_120 ⟨w_1919, w_104⟩ rfl (Nat.le_of_ble_eq_true rfl) d_Mod_sum_II_112 (fun v27 s26 _ => ?_)
            refine xW_pure (fun _ _ _ _ _ => am_aload_n d_Mod_sum_II_115 rfl rfl) ?_
            refine xW_pure (fun _ _ _ _ _ => am_iconst (v := 0) d_Mod_sum_II_116 (by decide)) ?_
            refine xW_put O f_Mod_249 d_Mod_sum_II_117 (fun q hq => by cases hq; exact ⟨rfl, rfl, rfl⟩) (fun s28 _ => ?_)
            refine xW_pure (fun _ _ _ _ _ => am_goto (tgt := 24) d_Mod_sum_II_120 (by decide)) ?_
            refine xW_locs (lv' := [(0, .ref x0), (1, .int x1), (2, .int x2)]) rfl ?_
            exact ih24 s28
      · refine xW_pure (fun _ _ _ _ _ => am_aload_n d_Mod_sum_II_51 rfl rfl) ?_
        refine xW_pure (fun _ _ _ _ _ => am_ldcSw (T.2.2 22 ("StowTongueModel", 285, "*") rfl) d_Mod_sum_II_52) ?_
        refine xW_callV O (dx_Mod_is O T) (fun _ e => ob_Mod_is e) rfl rfl rfl l_Mod_80 ⟨w_1833, w_86⟩ rfl (Nat.le_of_ble_eq_true rfl) d_Mod_sum_II_55 (fun v30 s29 _ => ?_)
        refine xW_ite (fun _ _ _ _ _ k1 k2 => am_if_ne (tgt := 81) d_Mod_sum_II_58 (by decide) k2 k1) (fun _ => ?_) (fun _ => ?_)
        · refine xW_pure (fun _ _ _ _ _ => am_aload_n d_Mod_sum_II_61 rfl rfl) ?_
          refine xW_pure (fun _ _ _ _ _ => am_ldcSw (T.2.2 23 ("StowTongueModel", 287, "/") rfl) d_Mod_sum_II_62) ?_
          refine xW_callV O (dx_Mod_is O T) (fun _ e => ob_Mod_is e) rfl rfl rfl l_Mod_80 ⟨w_1833, w_86⟩ rfl (Nat.le_of_ble_eq_true rfl) d_Mod_sum_II_65 (fun v32 s31 _ => ?_)
          refine xW_ite (fun _ _ _ _ _ k1 k2 => am_if_ne (tgt := 81) d_Mod_sum_II_68 (by decide) k2 k1) (fun _ => ?_) (fun _ => ?_)
          · refine xW_pure (fun _ _ _ _ _ => am_aload_n d_Mod_sum_II_71 rfl rfl) ?_
            refine xW_pure (fun _ _ _ _ _ => am_ldcSw (T.2.2 24 ("StowTongueModel", 289, "%") rfl) d_Mod_sum_II_72) ?_
            refine xW_callV O (dx_Mod_is O T) (fun _ e => ob_Mod_is e) rfl rfl rfl l_Mod_80 ⟨w_1833, w_86⟩ rfl (Nat.le_of_ble_eq_true rfl) d_Mod_sum_II_75 (fun v34 s33 _ => ?_)
            refine xW_ite (fun _ _ _ _ _ => am_if_eq (tgt := 123) d_Mod_sum_II_78 (by decide)) (fun _ => ?_) (fun _ => ?_)
            · refine xW_pure (fun _ _ _ _ _ => am_iconst (v := 1) d_Mod_sum_II_123 (by decide)) ?_
              exact xW_ret (fun _ _ _ _ _ => am_zret (ty := .boolean) rfl rfl d_Mod_sum_II_124)
            · refine xW_pure (fun _ _ _ _ _ => am_aload_n d_Mod_sum_II_81 rfl rfl) ?_
              refine xW_gR O f_Mod_22 d_Mod_sum_II_82 (fun v35 _ => ?_)
              refine xW_pure (fun _ _ _ _ _ => am_aload_n d_Mod_sum_II_85 rfl rfl) ?_
              refine xW_gI O f_Mod_9 d_Mod_sum_II_86 (fun v36 _ => ?_)
              refine xW_aB O d_Mod_sum_II_89 (fun v37 _ => ?_)
              refine xW_pure (fun _ _ _ _ _ => am_istore_n d_Mod_sum_II_90 rfl (Nat.le_of_ble_eq_true rfl)) ?_
              refine xW_pure (fun _ _ _ _ _ => am_aload_n d_Mod_sum_II_91 rfl rfl) ?_
              refine xW_callV O (dx_Mod_step O T) (fun _ e => ob_Mod_step e) rfl rfl rfl l_Mod_87 ⟨w_1808, w_84⟩ rfl (Nat.le_of_ble_eq_true rfl) d_Mod_sum_II_92 (fun v39 s38 _ => ?_)
              refine xW_pure (fun _ _ _ _ _ => am_aload_n d_Mod_sum_II_95 rfl rfl) ?_
              refine xW_pure (fun _ _ _ _ _ => am_iload_n d_Mod_sum_II_96 rfl rfl) ?_
              refine xW_pure (fun _ _ _ _ _ => am_iload_n d_Mod_sum_II_97 rfl rfl) ?_
              refine xW_pure (fun _ _ _ _ _ => am_iconst (v := 1) d_Mod_sum_II_98 (by decide)) ?_
              refine xW_pure (fun _ _ _ _ _ => am_iadd d_Mod_sum_II_99) ?_
              refine xW_callV O (H.2.2.2.2.2.2.2.2.2.1 _ _ _ _ _).1 (H.2.2.2.2.2.2.2.2.2.1 _ _ _ _ _).2 rfl rfl rfl l_Mod_267 ⟨w_1893, w_99⟩ rfl (Nat.le_of_ble_eq_true rfl) d_Mod_sum_II_100 (fun v41 s40 _ => ?_)
              refine xW_ite (fun _ _ _ _ _ k1 k2 => am_if_ne (tgt := 108) d_Mod_sum_II_103 (by decide) k2 k1) (fun _ => ?_) (fun _ => ?_)
              · refine xW_pure (fun _ _ _ _ _ => am_iconst (v := 0) d_Mod_sum_II_106 (by decide)) ?_
                exact xW_ret (fun _ _ _ _ _ => am_zret (ty := .boolean) rfl rfl d_Mod_sum_II_107)
              · refine xW_pure (fun _ _ _ _ _ => am_aload_n d_Mod_sum_II_108 rfl rfl) ?_
                refine xW_pure (fun _ _ _ _ _ => am_bipush (v := 9) d_Mod_sum_II_109 (by decide)) ?_
                refine xW_pure (fun _ _ _ _ _ => am_iload_n d_Mod_sum_II_111 rfl rfl) ?_
                refine xW_callV O (dx_Mod_put_II O T) (fun _ e => ob_Mod_put_II e) rfl rfl rfl l_Mod_120 ⟨w_1919, w_104⟩ rfl (Nat.le_of_ble_eq_true rfl) d_Mod_sum_II_112 (fun v43 s42 _ => ?_)
                refine xW_pure (fun _ _ _ _ _ => am_aload_n d_Mod_sum_II_115 rfl rfl) ?_
                refine xW_pure (fun _ _ _ _ _ => am_iconst (v := 0) d_Mod_sum_II_116 (by decide)) ?_
                refine xW_put O f_Mod_249 d_Mod_sum_II_117 (fun q hq => by cases hq; exact ⟨rfl, rfl, rfl⟩) (fun s44 _ => ?_)
                refine xW_pure (fun _ _ _ _ _ => am_goto (tgt := 24) d_Mod_sum_II_120 (by decide)) ?_
                refine xW_locs (lv' := [(0, .ref x0), (1, .int x1), (2, .int x2)]) rfl ?_
                exact ih24 s44
          · refine xW_pure (fun _ _ _ _ _ => am_aload_n d_Mod_sum_II_81 rfl rfl) ?_
            refine xW_gR O f_Mod_22 d_Mod_sum_II_82 (fun v45 _ => ?_)
            refine xW_pure (fun _ _ _ _ _ => am_aload_n d_Mod_sum_II_85 rfl rfl) ?_
            refine xW_gI O f_Mod_9 d_Mod_sum_II_86 (fun v46 _ => ?_)
            refine xW_aB O d_Mod_sum_II_89 (fun v47 _ => ?_)
            refine xW_pure (fun _ _ _ _ _ => am_istore_n d_Mod_sum_II_90 rfl (Nat.le_of_ble_eq_true rfl)) ?_
            refine xW_pure (fun _ _ _ _ _ => am_aload_n d_Mod_sum_II_91 rfl rfl) ?_
            refine xW_callV O (dx_Mod_step O T) (fun _ e => ob_Mod_step e) rfl rfl rfl l_Mod_87 ⟨w_1808, w_84⟩ rfl (Nat.le_of_ble_eq_true rfl) d_Mod_sum_II_92 (fun v49 s48 _ => ?_)
            refine xW_pure (fun _ _ _ _ _ => am_aload_n d_Mod_sum_II_95 rfl rfl) ?_
            refine xW_pure (fun _ _ _ _ _ => am_iload_n d_Mod_sum_II_96 rfl rfl) ?_
            refine xW_pure (fun _ _ _ _ _ => am_iload_n d_Mod_sum_II_97 rfl rfl) ?_
            refine xW_pure (fun _ _ _ _ _ => am_iconst (v := 1) d_Mod_sum_II_98 (by decide)) ?_
            refine xW_pure (fun _ _ _ _ _ => am_iadd d_Mod_sum_II_99) ?_
            refine xW_callV O (H.2.2.2.2.2.2.2.2.2.1 _ _ _ _ _).1 (H.2.2.2.2.2.2.2.2.2.1 _ _ _ _ _).2 rfl rfl rfl l_Mod_267 ⟨w_1893, w_99⟩ rfl (Nat.le_of_ble_eq_true rfl) d_Mod_sum_II_100 (fun v51 s50 _ => ?_)
            refine xW_ite (fun _ _ _ _ _ k1 k2 => am_if_ne (tgt := 108) d_Mod_sum_II_103 (by decide) k2 k1) (fun _ => ?_) (fun _ => ?_)
            · refine xW_pure (fun _ _ _ _ _ => am_iconst (v := 0) d_Mod_sum_II_106 (by decide)) ?_
              exact xW_ret (fun _ _ _ _ _ => am_zret (ty := .boolean) rfl rfl d_Mod_sum_II_107)
            · refine xW_pure (fun _ _ _ _ _ => am_aload_n d_Mod_sum_II_108 rfl rfl) ?_
              refine xW_pure (fun _ _ _ _ _ => am_bipush (v := 9) d_Mod_sum_II_109 (by decide)) ?_
              refine xW_pure (fun _ _ _ _ _ => am_iload_n d_Mod_sum_II_111 rfl rfl) ?_
              refine xW_callV O (dx_Mod_put_II O T) (fun _ e => ob_Mod_put_II e) rfl rfl rfl l_Mod_120 ⟨w_1919, w_104⟩ rfl (Nat.le_of_ble_eq_true rfl) d_Mod_sum_II_112 (fun v53 s52 _ => ?_)
              refine xW_pure (fun _ _ _ _ _ => am_aload_n d_Mod_sum_II_115 rfl rfl) ?_
              refine xW_pure (fun _ _ _ _ _ => am_iconst (v := 0) d_Mod_sum_II_116 (by decide)) ?_
              refine xW_put O f_Mod_249 d_Mod_sum_II_117 (fun q hq => by cases hq; exact ⟨rfl, rfl, rfl⟩) (fun s54 _ => ?_)
              refine xW_pure (fun _ _ _ _ _ => am_goto (tgt := 24) d_Mod_sum_II_120 (by decide)) ?_
              refine xW_locs (lv' := [(0, .ref x0), (1, .int x1), (2, .int x2)]) rfl ?_
              exact ih24 s54
        · refine xW_pure (fun _ _ _ _ _ => am_aload_n d_Mod_sum_II_81 rfl rfl) ?_
          refine xW_gR O f_Mod_22 d_Mod_sum_II_82 (fun v55 _ => ?_)
          refine xW_pure (fun _ _ _ _ _ => am_aload_n d_Mod_sum_II_85 rfl rfl) ?_
          refine xW_gI O f_Mod_9 d_Mod_sum_II_86 (fun v56 _ => ?_)
          refine xW_aB O d_Mod_sum_II_89 (fun v57 _ => ?_)
          refine xW_pure (fun _ _ _ _ _ => am_istore_n d_Mod_sum_II_90 rfl (Nat.le_of_ble_eq_true rfl)) ?_
          refine xW_pure (fun _ _ _ _ _ => am_aload_n d_Mod_sum_II_91 rfl rfl) ?_
          refine xW_callV O (dx_Mod_step O T) (fun _ e => ob_Mod_step e) rfl rfl rfl l_Mod_87 ⟨w_1808, w_84⟩ rfl (Nat.le_of_ble_eq_true rfl) d_Mod_sum_II_92 (fun v59 s58 _ => ?_)
          refine xW_pure (fun _ _ _ _ _ => am_aload_n d_Mod_sum_II_95 rfl rfl) ?_
          refine xW_pure (fun _ _ _ _ _ => am_iload_n d_Mod_sum_II_96 rfl rfl) ?_
          refine xW_pure (fun _ _ _ _ _ => am_iload_n d_Mod_sum_II_97 rfl rfl) ?_
          refine xW_pure (fun _ _ _ _ _ => am_iconst (v := 1) d_Mod_sum_II_98 (by decide)) ?_
          refine xW_pure (fun _ _ _ _ _ => am_iadd d_Mod_sum_II_99) ?_
          refine xW_callV O (H.2.2.2.2.2.2.2.2.2.1 _ _ _ _ _).1 (H.2.2.2.2.2.2.2.2.2.1 _ _ _ _ _).2 rfl rfl rfl l_Mod_267 ⟨w_1893, w_99⟩ rfl (Nat.le_of_ble_eq_true rfl) d_Mod_sum_II_100 (fun v61 s60 _ => ?_)
          refine xW_ite (fun _ _ _ _ _ k1 k2 => am_if_ne (tgt := 108) d_Mod_sum_II_103 (by decide) k2 k1) (fun _ => ?_) (fun _ => ?_)
          · refine xW_pure (fun _ _ _ _ _ => am_iconst (v := 0) d_Mod_sum_II_106 (by decide)) ?_
            exact xW_ret (fun _ _ _ _ _ => am_zret (ty := .boolean) rfl rfl d_Mod_sum_II_107)
          · refine xW_pure (fun _ _ _ _ _ => am_aload_n d_Mod_sum_II_108 rfl rfl) ?_
            refine xW_pure (fun _ _ _ _ _ => am_bipush (v := 9) d_Mod_sum_II_109 (by decide)) ?_
            refine xW_pure (fun _ _ _ _ _ => am_iload_n d_Mod_sum_II_111 rfl rfl) ?_
            refine xW_callV O (dx_Mod_put_II O T) (fun _ e => ob_Mod_put_II e) rfl rfl rfl l_Mod_120 ⟨w_1919, w_104⟩ rfl (Nat.le_of_ble_eq_true rfl) d_Mod_sum_II_112 (fun v63 s62 _ => ?_)
            refine xW_pure (fun _ _ _ _ _ => am_aload_n d_Mod_sum_II_115 rfl rfl) ?_
            refine xW_pure (fun _ _ _ _ _ => am_iconst (v := 0) d_Mod_sum_II_116 (by decide)) ?_
            refine xW_put O f_Mod_249 d_Mod_sum_II_117 (fun q hq => by cases hq; exact ⟨rfl, rfl, rfl⟩) (fun s64 _ => ?_)
            refine xW_pure (fun _ _ _ _ _ => am_goto (tgt := 24) d_Mod_sum_II_120 (by decide)) ?_
            refine xW_locs (lv' := [(0, .ref x0), (1, .int x1), (2, .int x2)]) rfl ?_
            exact ih24 s64

set_option maxRecDepth 100000 in
def x_Mod_unary_b26 (c : CLT) (d : Nat) (l0 : Nat) (l1 : Int32) (s : HS) : Option (Int32 × HS) := if l1 = 16 then (bnd (x_Mod_bad d l0 s) fun v8 s7 => (okB v8 (some (v8, s7)))) else (bnd (x_Mod_is d l0 28 s) fun v10 s9 => (bnd (x_Mod_step d l0 s9) fun v12 s11 => (bnd ((c 10 l0 (l1 + 1) 0 0 s11)) fun v14 s13 => (if v14 = 0 then (some (0, s13)) else (if v10 = 0 then (bnd (x_Mod_put_I d l0 11 s13) fun v16 s15 => ((pV s15 l0 14 25 (.int 0)).bind fun s17 => (some (1, s17)))) else (bnd (x_Mod_put_I d l0 10 s13) fun v19 s18 => ((pV s18 l0 14 25 (.int 0)).bind fun s20 => (some (1, s20)))))))))

set_option maxRecDepth 100000 in
set_option maxHeartbeats 4000000 in
theorem dx_Mod_unary_b26 (O : am_ok K X) (T : am_T K) {c : CLT} {d : Nat} (H : HC_M K X c d) {l0 : Nat} {l1 : Int32} {s : HS} : xW cvI K X m_Mod_unary (d + 1) 26 [(0, .ref l0), (1, .int l1)] [] s (x_Mod_unary_b26 c d l0 l1 s) := by
  unfold x_Mod_unary_b26
  refine xW_pure (fun _ _ _ _ _ => am_iload_n d_Mod_unary_26 rfl rfl) ?_
  refine xW_pure (fun _ _ _ _ _ => am_bipush (v := 16) d_Mod_unary_27 (by decide)) ?_
  refine xW_ite (fun _ _ _ _ _ k1 k2 => am_icmp_ne (tgt := 37) d_Mod_unary_29 (by decide) k2 k1) (fun _ => ?_) (fun _ => ?_)
  · refine xW_pure (fun _ _ _ _ _ => am_aload_n d_Mod_unary_32 rfl rfl) ?_
    refine xW_callV O (dx_Mod_bad O T) (fun _ e => ob_Mod_bad e) rfl rfl rfl l_Mod_84 ⟨w_1841, w_88⟩ rfl (Nat.le_of_ble_eq_true rfl) d_Mod_unary_33 (fun v8 s7 _ => ?_)
    refine xW_okB (fun hz => ?_)
    exact xW_ret (fun _ _ _ _ _ => am_zret (ty := .boolean) rfl (bz_nar hz) d_Mod_unary_36)
  · refine xW_pure (fun _ _ _ _ _ => am_aload_n d_Mod_unary_37 rfl rfl) ?_
    refine xW_pure (fun _ _ _ _ _ => am_ldcSw (T.2.2 11 ("StowTongueModel", 283, "-") rfl) d_Mod_unary_38) ?_
    refine xW_callV O (dx_Mod_is O T) (fun _ e => ob_Mod_is e) rfl rfl rfl l_Mod_80 ⟨w_1833, w_86⟩ rfl (Nat.le_of_ble_eq_true rfl) d_Mod_unary_41 (fun v10 s9 _ => ?_)
    refine xW_pure (fun _ _ _ _ _ => am_istore_n d_Mod_unary_44 rfl (Nat.le_of_ble_eq_true rfl)) ?_
    refine xW_pure (fun _ _ _ _ _ => am_aload_n d_Mod_unary_45 rfl rfl) ?_
    refine xW_callV O (dx_Mod_step O T) (fun _ e => ob_Mod_step e) rfl rfl rfl l_Mod_87 ⟨w_1808, w_84⟩ rfl (Nat.le_of_ble_eq_true rfl) d_Mod_unary_46 (fun v12 s11 _ => ?_)
    refine xW_pure (fun _ _ _ _ _ => am_aload_n d_Mod_unary_49 rfl rfl) ?_
    refine xW_pure (fun _ _ _ _ _ => am_iload_n d_Mod_unary_50 rfl rfl) ?_
    refine xW_pure (fun _ _ _ _ _ => am_iconst (v := 1) d_Mod_unary_51 (by decide)) ?_
    refine xW_pure (fun _ _ _ _ _ => am_iadd d_Mod_unary_52) ?_
    refine xW_callV O (H.2.2.2.2.2.2.2.2.2.2.1 _ _ _ _ _).1 (H.2.2.2.2.2.2.2.2.2.2.1 _ _ _ _ _).2 rfl rfl rfl l_Mod_278 ⟨w_1897, w_100⟩ rfl (Nat.le_of_ble_eq_true rfl) d_Mod_unary_53 (fun v14 s13 _ => ?_)
    refine xW_ite (fun _ _ _ _ _ k1 k2 => am_if_ne (tgt := 61) d_Mod_unary_56 (by decide) k2 k1) (fun _ => ?_) (fun _ => ?_)
    · refine xW_pure (fun _ _ _ _ _ => am_iconst (v := 0) d_Mod_unary_59 (by decide)) ?_
      exact xW_ret (fun _ _ _ _ _ => am_zret (ty := .boolean) rfl rfl d_Mod_unary_60)
    · refine xW_pure (fun _ _ _ _ _ => am_aload_n d_Mod_unary_61 rfl rfl) ?_
      refine xW_pure (fun _ _ _ _ _ => am_iload_n d_Mod_unary_62 rfl rfl) ?_
      refine xW_ite (fun _ _ _ _ _ => am_if_eq (tgt := 71) d_Mod_unary_63 (by decide)) (fun _ => ?_) (fun _ => ?_)
      · refine xW_pure (fun _ _ _ _ _ => am_bipush (v := 11) d_Mod_unary_71 (by decide)) ?_
        refine xW_callV O (dx_Mod_put_I O T) (fun _ e => ob_Mod_put_I e) rfl rfl rfl l_Mod_103 ⟨w_1875, w_95⟩ rfl (Nat.le_of_ble_eq_true rfl) d_Mod_unary_73 (fun v16 s15 _ => ?_)
        refine xW_pure (fun _ _ _ _ _ => am_pop d_Mod_unary_76 rfl) ?_
        refine xW_pure (fun _ _ _ _ _ => am_aload_n d_Mod_unary_77 rfl rfl) ?_
        refine xW_pure (fun _ _ _ _ _ => am_iconst (v := 0) d_Mod_unary_78 (by decide)) ?_
        refine xW_put O f_Mod_249 d_Mod_unary_79 (fun q hq => by cases hq; exact ⟨rfl, rfl, rfl⟩) (fun s17 _ => ?_)
        refine xW_pure (fun _ _ _ _ _ => am_iconst (v := 1) d_Mod_unary_82 (by decide)) ?_
        exact xW_ret (fun _ _ _ _ _ => am_zret (ty := .boolean) rfl rfl d_Mod_unary_83)
      · refine xW_pure (fun _ _ _ _ _ => am_bipush (v := 10) d_Mod_unary_66 (by decide)) ?_
        refine xW_pure (fun _ _ _ _ _ => am_goto (tgt := 73) d_Mod_unary_68 (by decide)) ?_
        refine xW_callV O (dx_Mod_put_I O T) (fun _ e => ob_Mod_put_I e) rfl rfl rfl l_Mod_103 ⟨w_1875, w_95⟩ rfl (Nat.le_of_ble_eq_true rfl) d_Mod_unary_73 (fun v19 s18 _ => ?_)
        refine xW_pure (fun _ _ _ _ _ => am_pop d_Mod_unary_76 rfl) ?_
        refine xW_pure (fun _ _ _ _ _ => am_aload_n d_Mod_unary_77 rfl rfl) ?_
        refine xW_pure (fun _ _ _ _ _ => am_iconst (v := 0) d_Mod_unary_78 (by decide)) ?_
        refine xW_put O f_Mod_249 d_Mod_unary_79 (fun q hq => by cases hq; exact ⟨rfl, rfl, rfl⟩) (fun s20 _ => ?_)
        refine xW_pure (fun _ _ _ _ _ => am_iconst (v := 1) d_Mod_unary_82 (by decide)) ?_
        exact xW_ret (fun _ _ _ _ _ => am_zret (ty := .boolean) rfl rfl d_Mod_unary_83)

set_option maxRecDepth 100000 in
def x_Mod_unary_b (c : CLT) (d : Nat) (x0 : Nat) (x1 : Int32) (s : HS) : Option (Int32 × HS) := gd s x0 14 (bnd (x_Mod_is d x0 28 s) fun v2 s1 => (if v2 = 0 then (bnd (x_Mod_is d x0 30 s1) fun v4 s3 => (if v4 = 0 then (bnd ((c 11 x0 x1 0 0 s3)) fun v6 s5 => (okB v6 (some (v6, s5)))) else (x_Mod_unary_b26 c d x0 x1 s3))) else (x_Mod_unary_b26 c d x0 x1 s1)))

set_option maxRecDepth 100000 in
set_option maxHeartbeats 4000000 in
theorem dx_Mod_unary_b (O : am_ok K X) (T : am_T K) {c : CLT} {d : Nat} (H : HC_M K X c d) {x0 : Nat} {x1 : Int32} {s : HS} : xM cvI K X m_Mod_unary (d + 1) [.ref x0, .int x1] s (x_Mod_unary_b c d x0 x1 s) := by
  unfold x_Mod_unary_b
  refine xM_enter (by decide +kernel) (Nat.le_of_ble_eq_true rfl) ?_
  refine xW_gd (fun _ => ?_)
  refine xW_pure (fun _ _ _ _ _ => am_aload_n d_Mod_unary_0 rfl rfl) ?_
  refine xW_pure (fun _ _ _ _ _ => am_ldcSw (T.2.2 11 ("StowTongueModel", 283, "-") rfl) d_Mod_unary_1) ?_
  refine xW_callV O (dx_Mod_is O T) (fun _ e => ob_Mod_is e) rfl rfl rfl l_Mod_80 ⟨w_1833, w_86⟩ rfl (Nat.le_of_ble_eq_true rfl) d_Mod_unary_4 (fun v2 s1 _ => ?_)
  refine xW_ite (fun _ _ _ _ _ k1 k2 => am_if_ne (tgt := 26) d_Mod_unary_7 (by decide) k2 k1) (fun _ => ?_) (fun _ => ?_)
  · refine xW_pure (fun _ _ _ _ _ => am_aload_n d_Mod_unary_10 rfl rfl) ?_
    refine xW_pure (fun _ _ _ _ _ => am_ldcSw (T.2.2 12 ("StowTongueModel", 291, "!") rfl) d_Mod_unary_11) ?_
    refine xW_callV O (dx_Mod_is O T) (fun _ e => ob_Mod_is e) rfl rfl rfl l_Mod_80 ⟨w_1833, w_86⟩ rfl (Nat.le_of_ble_eq_true rfl) d_Mod_unary_14 (fun v4 s3 _ => ?_)
    refine xW_ite (fun _ _ _ _ _ k1 k2 => am_if_ne (tgt := 26) d_Mod_unary_17 (by decide) k2 k1) (fun _ => ?_) (fun _ => ?_)
    · refine xW_pure (fun _ _ _ _ _ => am_aload_n d_Mod_unary_20 rfl rfl) ?_
      refine xW_pure (fun _ _ _ _ _ => am_iload_n d_Mod_unary_21 rfl rfl) ?_
      refine xW_callV O (H.2.2.2.2.2.2.2.2.2.2.2.1 _ _ _ _ _).1 (H.2.2.2.2.2.2.2.2.2.2.2.1 _ _ _ _ _).2 rfl rfl rfl l_Mod_293 ⟨w_1903, w_101⟩ rfl (Nat.le_of_ble_eq_true rfl) d_Mod_unary_22 (fun v6 s5 _ => ?_)
      refine xW_okB (fun hz => ?_)
      exact xW_ret (fun _ _ _ _ _ => am_zret (ty := .boolean) rfl (bz_nar hz) d_Mod_unary_25)
    · refine xW_locs (lv' := [(0, .ref x0), (1, .int x1)]) rfl ?_
      exact dx_Mod_unary_b26 O T H
  · refine xW_locs (lv' := [(0, .ref x0), (1, .int x1)]) rfl ?_
    exact dx_Mod_unary_b26 O T H

set_option maxRecDepth 100000 in
def x_Mod_atom_b (c : CLT) (d : Nat) (x0 : Nat) (x1 : Int32) (s : HS) : Option (Int32 × HS) := gd s x0 14 (bnd ((c 12 x0 x1 0 0 s)) fun v2 s1 => (if v2 = 0 then (some (0, s1)) else (loopK (fun (again10 : HS → Option (Int32 × HS)) (z10 : HS) => (bnd (x_Mod_is d x0 46 z10) fun v4 s3 => (if v4 = 0 then (bnd (x_Mod_is d x0 40 s3) fun v6 s5 => (if v6 = 0 then (some (1, s5)) else (bnd (x_Mod_is d x0 46 s5) fun v8 s7 => (if v8 = 0 then (if x1 = 16 then (bnd (x_Mod_bad d x0 s7) fun v10 s9 => (okB v10 (some (v10, s9)))) else (bnd (x_Mod_step d x0 s7) fun v12 s11 => (if v8 = 0 then (bnd ((c 6 x0 (x1 + 1) 0 0 s11)) fun v14 s13 => (if v14 = 0 then (some (0, s13)) else (bnd (x_Mod_put_I d x0 7 s13) fun v16 s15 => ((pV s15 x0 14 27 (.int v16)).bind fun s17 => (bnd (x_Mod_take d x0 44 s17) fun v19 s18 => (if v19 = 0 then (some (0, s18)) else ((pV s18 x0 14 25 (.int 1)).bind fun s20 => (again10 s20)))))))) else ((gI s11 x0 14 6).bind fun v21 => (if v21 = 1 then (bnd (x_Mod_name d x0 s11) fun v23 s22 => (bnd (x_Mod_nameValue d x0 v23 s22) fun v25 s24 => ((gR s24 x0 14 22).bind fun v26 => ((gI s24 v26 12 2).bind fun v27 => ((pV s24 x0 14 27 (.int v27)).bind fun s28 => (bnd (x_Mod_put_II d x0 5 v25 s28) fun v30 s29 => (bnd (x_Mod_step d x0 s29) fun v32 s31 => ((pV s31 x0 14 25 (.int 1)).bind fun s33 => (again10 s33))))))))) else (bnd (x_Mod_bad d x0 s11) fun v35 s34 => (okB v35 (some (v35, s34))))))))) else (bnd (x_Mod_step d x0 s7) fun v37 s36 => (if v8 = 0 then (bnd ((c 6 x0 (x1 + 1) 0 0 s36)) fun v39 s38 => (if v39 = 0 then (some (0, s38)) else (bnd (x_Mod_put_I d x0 7 s38) fun v41 s40 => ((pV s40 x0 14 27 (.int v41)).bind fun s42 => (bnd (x_Mod_take d x0 44 s42) fun v44 s43 => (if v44 = 0 then (some (0, s43)) else ((pV s43 x0 14 25 (.int 1)).bind fun s45 => (again10 s45)))))))) else ((gI s36 x0 14 6).bind fun v46 => (if v46 = 1 then (bnd (x_Mod_name d x0 s36) fun v48 s47 => (bnd (x_Mod_nameValue d x0 v48 s47) fun v50 s49 => ((gR s49 x0 14 22).bind fun v51 => ((gI s49 v51 12 2).bind fun v52 => ((pV s49 x0 14 27 (.int v52)).bind fun s53 => (bnd (x_Mod_put_II d x0 5 v50 s53) fun v55 s54 => (bnd (x_Mod_step d x0 s54) fun v57 s56 => ((pV s56 x0 14 25 (.int 1)).bind fun s58 => (again10 s58))))))))) else (bnd (x_Mod_bad d x0 s36) fun v60 s59 => (okB v60 (some (v60, s59)))))))))))) else (bnd (x_Mod_is d x0 46 s3) fun v62 s61 => (if v62 = 0 then (if x1 = 16 then (bnd (x_Mod_bad d x0 s61) fun v64 s63 => (okB v64 (some (v64, s63)))) else (bnd (x_Mod_step d x0 s61) fun v66 s65 => (if v62 = 0 then (bnd ((c 6 x0 (x1 + 1) 0 0 s65)) fun v68 s67 => (if v68 = 0 then (some (0, s67)) else (bnd (x_Mod_put_I d x0 7 s67) fun v70 s69 => ((pV s69 x0 14 27 (.int v70)).bind fun s71 => (bnd (x_Mod_take d x0 44 s71) fun v73 s72 => (if v73 = 0 then (some (0, s72)) else ((pV s72 x0 14 25 (.int 1)).bind fun s74 => (again10 s74)))))))) else ((gI s65 x0 14 6).bind fun v75 => (if v75 = 1 then (bnd (x_Mod_name d x0 s65) fun v77 s76 => (bnd (x_Mod_nameValue d x0 v77 s76) fun v79 s78 => ((gR s78 x0 14 22).bind fun v80 => ((gI s78 v80 12 2).bind fun v81 => ((pV s78 x0 14 27 (.int v81)).bind fun s82 => (bnd (x_Mod_put_II d x0 5 v79 s82) fun v84 s83 => (bnd (x_Mod_step d x0 s83) fun v86 s85 => ((pV s85 x0 14 25 (.int 1)).bind fun s87 => (again10 s87))))))))) else (bnd (x_Mod_bad d x0 s65) fun v89 s88 => (okB v89 (some (v89, s88))))))))) else (bnd (x_Mod_step d x0 s61) fun v91 s90 => (if v62 = 0 then (bnd ((c 6 x0 (x1 + 1) 0 0 s90)) fun v93 s92 => (if v93 = 0 then (some (0, s92)) else (bnd (x_Mod_put_I d x0 7 s92) fun v95 s94 => ((pV s94 x0 14 27 (.int v95)).bind fun s96 => (bnd (x_Mod_take d x0 44 s96) fun v98 s97 => (if v98 = 0 then (some (0, s97)) else ((pV s97 x0 14 25 (.int 1)).bind fun s99 => (again10 s99)))))))) else ((gI s90 x0 14 6).bind fun v100 => (if v100 = 1 then (bnd (x_Mod_name d x0 s90) fun v102 s101 => (bnd (x_Mod_nameValue d x0 v102 s101) fun v104 s103 => ((gR s103 x0 14 22).bind fun v105 => ((gI s103 v105 12 2).bind fun v106 => ((pV s103 x0 14 27 (.int v106)).bind fun s107 => (bnd (x_Mod_put_II d x0 5 v104 s107) fun v109 s108 => (bnd (x_Mod_step d x0 s108) fun v111 s110 => ((pV s110 x0 14 25 (.int 1)).bind fun s112 => (again10 s112))))))))) else (bnd (x_Mod_bad d x0 s90) fun v114 s113 => (okB v114 (some (v114, s113))))))))))))) FU s1)))

set_option maxRecDepth 100000 in
set_option maxHeartbeats 4000000 in
theorem dx_Mod_atom_b (O : am_ok K X) (T : am_T K) {c : CLT} {d : Nat} (H : HC_M K X c d) {x0 : Nat} {x1 : Int32} {s : HS} : xM cvI K X m_Mod_atom (d + 1) [.ref x0, .int x1] s (x_Mod_atom_b c d x0 x1 s) := by
  unfold x_Mod_atom_b
  refine xM_enter (by decide +kernel) (Nat.le_of_ble_eq_true rfl) ?_
  refine xW_gd (fun _ => ?_)
  refine xW_pure (fun _ _ _ _ _ => am_aload_n d_Mod_atom_0 rfl rfl) ?_
  refine xW_pure (fun _ _ _ _ _ => am_iload_n d_Mod_atom_1 rfl rfl) ?_
  refine xW_callV O (H.2.2.2.2.2.2.2.2.2.2.2.2.1 _ _ _ _ _).1 (H.2.2.2.2.2.2.2.2.2.2.2.2.1 _ _ _ _ _).2 rfl rfl rfl l_Mod_296 ⟨w_1907, w_102⟩ rfl (Nat.le_of_ble_eq_true rfl) d_Mod_atom_2 (fun v2 s1 _ => ?_)
  refine xW_ite (fun _ _ _ _ _ k1 k2 => am_if_ne (tgt := 10) d_Mod_atom_5 (by decide) k2 k1) (fun _ => ?_) (fun _ => ?_)
  · refine xW_pure (fun _ _ _ _ _ => am_iconst (v := 0) d_Mod_atom_8 (by decide)) ?_
    exact xW_ret (fun _ _ _ _ _ => am_zret (ty := .boolean) rfl rfl d_Mod_atom_9)
  · refine xW_locs (lv' := [(0, .ref x0), (1, .int x1)]) rfl ?_
    refine xW_loop (lvf := fun (z10 : HS) => [(0, .ref x0), (1, .int x1)]) (hsf := fun (z10 : HS) => z10) (fun again10 ih10 z10 => ?_) FU s1
    refine xW_pure (fun _ _ _ _ _ => am_aload_n d_Mod_atom_10 rfl rfl) ?_
    refine xW_pure (fun _ _ _ _ _ => am_ldcSw (T.2.2 20 ("StowTongueModel", 299, ".") rfl) d_Mod_atom_11) ?_
    refine xW_callV O (dx_Mod_is O T) (fun _ e => ob_Mod_is e) rfl rfl rfl l_Mod_80 ⟨w_1833, w_86⟩ rfl (Nat.le_of_ble_eq_true rfl) d_Mod_atom_14 (fun v4 s3 _ => ?_)
    refine xW_ite (fun _ _ _ _ _ k1 k2 => am_if_ne (tgt := 30) d_Mod_atom_17 (by decide) k2 k1) (fun _ => ?_) (fun _ => ?_)
    · refine xW_pure (fun _ _ _ _ _ => am_aload_n d_Mod_atom_20 rfl rfl) ?_
      refine xW_pure (fun _ _ _ _ _ => am_ldcSw (T.2.2 17 ("StowTongueModel", 301, "[") rfl) d_Mod_atom_21) ?_
      refine xW_callV O (dx_Mod_is O T) (fun _ e => ob_Mod_is e) rfl rfl rfl l_Mod_80 ⟨w_1833, w_86⟩ rfl (Nat.le_of_ble_eq_true rfl) d_Mod_atom_24 (fun v6 s5 _ => ?_)
      refine xW_ite (fun _ _ _ _ _ => am_if_eq (tgt := 149) d_Mod_atom_27 (by decide)) (fun _ => ?_) (fun _ => ?_)
      · refine xW_pure (fun _ _ _ _ _ => am_iconst (v := 1) d_Mod_atom_149 (by decide)) ?_
        exact xW_ret (fun _ _ _ _ _ => am_zret (ty := .boolean) rfl rfl d_Mod_atom_150)
      · refine xW_pure (fun _ _ _ _ _ => am_aload_n d_Mod_atom_30 rfl rfl) ?_
        refine xW_pure (fun _ _ _ _ _ => am_ldcSw (T.2.2 20 ("StowTongueModel", 299, ".") rfl) d_Mod_atom_31) ?_
        refine xW_callV O (dx_Mod_is O T) (fun _ e => ob_Mod_is e) rfl rfl rfl l_Mod_80 ⟨w_1833, w_86⟩ rfl (Nat.le_of_ble_eq_true rfl) d_Mod_atom_34 (fun v8 s7 _ => ?_)
        refine xW_pure (fun _ _ _ _ _ => am_istore_n d_Mod_atom_37 rfl (Nat.le_of_ble_eq_true rfl)) ?_
        refine xW_pure (fun _ _ _ _ _ => am_iload_n d_Mod_atom_38 rfl rfl) ?_
        refine xW_ite (fun _ _ _ _ _ k1 k2 => am_if_ne (tgt := 53) d_Mod_atom_39 (by decide) k2 k1) (fun _ => ?_) (fun _ => ?_)
        · refine xW_pure (fun _ _ _ _ _ => am_iload_n d_Mod_atom_42 rfl rfl) ?_
          refine xW_pure (fun _ _ _ _ _ => am_bipush (v := 16) d_Mod_atom_43 (by decide)) ?_
          refine xW_ite (fun _ _ _ _ _ k1 k2 => am_icmp_ne (tgt := 53) d_Mod_atom_45 (by decide) k2 k1) (fun _ => ?_) (fun _ => ?_)
          · refine xW_pure (fun _ _ _ _ _ => am_aload_n d_Mod_atom_48 rfl rfl) ?_
            refine xW_callV O (dx_Mod_bad O T) (fun _ e => ob_Mod_bad e) rfl rfl rfl l_Mod_84 ⟨w_1841, w_88⟩ rfl (Nat.le_of_ble_eq_true rfl) d_Mod_atom_49 (fun v10 s9 _ => ?_)
            refine xW_okB (fun hz => ?_)
            exact xW_ret (fun _ _ _ _ _ => am_zret (ty := .boolean) rfl (bz_nar hz) d_Mod_atom_52)
          · refine xW_pure (fun _ _ _ _ _ => am_aload_n d_Mod_atom_53 rfl rfl) ?_
            refine xW_callV O (dx_Mod_step O T) (fun _ e => ob_Mod_step e) rfl rfl rfl l_Mod_87 ⟨w_1808, w_84⟩ rfl (Nat.le_of_ble_eq_true rfl) d_Mod_atom_54 (fun v12 s11 _ => ?_)
            refine xW_pure (fun _ _ _ _ _ => am_iload_n d_Mod_atom_57 rfl rfl) ?_
            refine xW_ite (fun _ _ _ _ _ => am_if_eq (tgt := 107) d_Mod_atom_58 (by decide)) (fun _ => ?_) (fun _ => ?_)
            · refine xW_pure (fun _ _ _ _ _ => am_aload_n d_Mod_atom_107 rfl rfl) ?_
              refine xW_pure (fun _ _ _ _ _ => am_iload_n d_Mod_atom_108 rfl rfl) ?_
              refine xW_pure (fun _ _ _ _ _ => am_iconst (v := 1) d_Mod_atom_109 (by decide)) ?_
              refine xW_pure (fun _ _ _ _ _ => am_iadd d_Mod_atom_110) ?_
              refine xW_callV O (H.2.2.2.2.2.2.1 _ _ _ _ _).1 (H.2.2.2.2.2.2.1 _ _ _ _ _).2 rfl rfl rfl l_Mod_214 ⟨w_1881, w_96⟩ rfl (Nat.le_of_ble_eq_true rfl) d_Mod_atom_111 (fun v14 s13 _ => ?_)
              refine xW_ite (fun _ _ _ _ _ k1 k2 => am_if_ne (tgt := 119) d_Mod_atom_114 (by decide) k2 k1) (fun _ => ?_) (fun _ => ?_)
              · refine xW_pure (fun _ _ _ _ _ => am_iconst (v := 0) d_Mod_atom_117 (by decide)) ?_
                exact xW_ret (fun _ _ _ _ _ => am_zret (ty := .boolean) rfl rfl d_Mod_atom_118)
              · refine xW_pure (fun _ _ _ _ _ => am_aload_n d_Mod_atom_119 rfl rfl) ?_
                refine xW_pure (fun _ _ _ _ _ => am_aload_n d_Mod_atom_120 rfl rfl) ?_
                refine xW_pure (fun _ _ _ _ _ => am_bipush (v := 7) d_Mod_atom_121 (by decide)) ?_
                refine xW_callV O (dx_Mod_put_I O T) (fun _ e => ob_Mod_put_I e) rfl rfl rfl l_Mod_103 ⟨w_1875, w_95⟩ rfl (Nat.le_of_ble_eq_true rfl) d_Mod_atom_123 (fun v16 s15 _ => ?_)
                refine xW_put O f_Mod_253 d_Mod_atom_126 (fun q hq => by cases hq; exact ⟨rfl, rfl, rfl⟩) (fun s17 _ => ?_)
                refine xW_pure (fun _ _ _ _ _ => am_aload_n d_Mod_atom_129 rfl rfl) ?_
                refine xW_pure (fun _ _ _ _ _ => am_ldcSw (T.2.2 19 ("StowTongueModel", 306, "]") rfl) d_Mod_atom_130) ?_
                refine xW_callV O (dx_Mod_take O T) (fun _ e => ob_Mod_take e) rfl rfl rfl l_Mod_179 ⟨w_1851, w_90⟩ rfl (Nat.le_of_ble_eq_true rfl) d_Mod_atom_133 (fun v19 s18 _ => ?_)
                refine xW_ite (fun _ _ _ _ _ k1 k2 => am_if_ne (tgt := 141) d_Mod_atom_136 (by decide) k2 k1) (fun _ => ?_) (fun _ => ?_)
                · refine xW_pure (fun _ _ _ _ _ => am_iconst (v := 0) d_Mod_atom_139 (by decide)) ?_
                  exact xW_ret (fun _ _ _ _ _ => am_zret (ty := .boolean) rfl rfl d_Mod_atom_140)
                · refine xW_pure (fun _ _ _ _ _ => am_aload_n d_Mod_atom_141 rfl rfl) ?_
                  refine xW_pure (fun _ _ _ _ _ => am_iconst (v := 1) d_Mod_atom_142 (by decide)) ?_
                  refine xW_put O f_Mod_249 d_Mod_atom_143 (fun q hq => by cases hq; exact ⟨rfl, rfl, rfl⟩) (fun s20 _ => ?_)
                  refine xW_pure (fun _ _ _ _ _ => am_goto (tgt := 10) d_Mod_atom_146 (by decide)) ?_
                  refine xW_locs (lv' := [(0, .ref x0), (1, .int x1)]) rfl ?_
                  exact ih10 s20
            · refine xW_pure (fun _ _ _ _ _ => am_aload_n d_Mod_atom_61 rfl rfl) ?_
              refine xW_gI O f_Mod_32 d_Mod_atom_62 (fun v21 _ => ?_)
              refine xW_pure (fun _ _ _ _ _ => am_iconst (v := 1) d_Mod_atom_65 (by decide)) ?_
              refine xW_ite (fun _ _ _ _ _ => am_icmp_eq (tgt := 74) d_Mod_atom_66 (by decide)) (fun _ => ?_) (fun _ => ?_)
              · refine xW_pure (fun _ _ _ _ _ => am_aload_n d_Mod_atom_74 rfl rfl) ?_
                refine xW_pure (fun _ _ _ _ _ => am_aload_n d_Mod_atom_75 rfl rfl) ?_
                refine xW_callV O (dx_Mod_name O T) (fun _ e => ob_Mod_name e) rfl rfl rfl l_Mod_164 ⟨w_1845, w_89⟩ rfl (Nat.le_of_ble_eq_true rfl) d_Mod_atom_76 (fun v23 s22 _ => ?_)
                refine xW_callV O (dx_Mod_nameValue O T) (fun _ e => ob_Mod_nameValue e) rfl rfl rfl l_Mod_303 ⟨w_1932, w_106⟩ rfl (Nat.le_of_ble_eq_true rfl) d_Mod_atom_79 (fun v25 s24 _ => ?_)
                refine xW_pure (fun _ _ _ _ _ => am_istore_n d_Mod_atom_82 rfl (Nat.le_of_ble_eq_true rfl)) ?_
                refine xW_pure (fun _ _ _ _ _ => am_aload_n d_Mod_atom_83 rfl rfl) ?_
                refine xW_pure (fun _ _ _ _ _ => am_aload_n d_Mod_atom_84 rfl rfl) ?_
                refine xW_gR O f_Mod_91 d_Mod_atom_85 (fun v26 _ => ?_)
                refine xW_gI O f_Mod_100 d_Mod_atom_88 (fun v27 _ => ?_)
                refine xW_put O f_Mod_253 d_Mod_atom_91 (fun q hq => by cases hq; exact ⟨rfl, rfl, rfl⟩) (fun s28 _ => ?_)
                refine xW_pure (fun _ _ _ _ _ => am_aload_n d_Mod_atom_94 rfl rfl) ?_
                refine xW_pure (fun _ _ _ _ _ => am_iconst (v := 5) d_Mod_atom_95 (by decide)) ?_
                refine xW_pure (fun _ _ _ _ _ => am_iload_n d_Mod_atom_96 rfl rfl) ?_
                refine xW_callV O (dx_Mod_put_II O T) (fun _ e => ob_Mod_put_II e) rfl rfl rfl l_Mod_120 ⟨w_1919, w_104⟩ rfl (Nat.le_of_ble_eq_true rfl) d_Mod_atom_97 (fun v30 s29 _ => ?_)
                refine xW_pure (fun _ _ _ _ _ => am_aload_n d_Mod_atom_100 rfl rfl) ?_
                refine xW_callV O (dx_Mod_step O T) (fun _ e => ob_Mod_step e) rfl rfl rfl l_Mod_87 ⟨w_1808, w_84⟩ rfl (Nat.le_of_ble_eq_true rfl) d_Mod_atom_101 (fun v32 s31 _ => ?_)
                refine xW_pure (fun _ _ _ _ _ => am_goto (tgt := 141) d_Mod_atom_104 (by decide)) ?_
                refine xW_pure (fun _ _ _ _ _ => am_aload_n d_Mod_atom_141 rfl rfl) ?_
                refine xW_pure (fun _ _ _ _ _ => am_iconst (v := 1) d_Mod_atom_142 (by decide)) ?_
                refine xW_put O f_Mod_249 d_Mod_atom_143 (fun q hq => by cases hq; exact ⟨rfl, rfl, rfl⟩) (fun s33 _ => ?_)
                refine xW_pure (fun _ _ _ _ _ => am_goto (tgt := 10) d_Mod_atom_146 (by decide)) ?_
                refine xW_locs (lv' := [(0, .ref x0), (1, .int x1)]) rfl ?_
                exact ih10 s33
              · refine xW_pure (fun _ _ _ _ _ => am_aload_n d_Mod_atom_69 rfl rfl) ?_
                refine xW_callV O (dx_Mod_bad O T) (fun _ e => ob_Mod_bad e) rfl rfl rfl l_Mod_84 ⟨w_1841, w_88⟩ rfl (Nat.le_of_ble_eq_true rfl) d_Mod_atom_70 (fun v35 s34 _ => ?_)
                refine xW_okB (fun hz => ?_)
                exact xW_ret (fun _ _ _ _ _ => am_zret (ty := .boolean) rfl (bz_nar hz) d_Mod_atom_73)
        · refine xW_pure (fun _ _ _ _ _ => am_aload_n d_Mod_atom_53 rfl rfl) ?_
          refine xW_callV O (dx_Mod_step O T) (fun _ e => ob_Mod_step e) rfl rfl rfl l_Mod_87 ⟨w_1808, w_84⟩ rfl (Nat.le_of_ble_eq_true rfl) d_Mod_atom_54 (fun v37 s36 _ => ?_)
          refine xW_pure (fun _ _ _ _ _ => am_iload_n d_Mod_atom_57 rfl rfl) ?_
          refine xW_ite (fun _ _ _ _ _ => am_if_eq (tgt := 107) d_Mod_atom_58 (by decide)) (fun _ => ?_) (fun _ => ?_)
          · refine xW_pure (fun _ _ _ _ _ => am_aload_n d_Mod_atom_107 rfl rfl) ?_
            refine xW_pure (fun _ _ _ _ _ => am_iload_n d_Mod_atom_108 rfl rfl) ?_
            refine xW_pure (fun _ _ _ _ _ => am_iconst (v := 1) d_Mod_atom_109 (by decide)) ?_
            refine xW_pure (fun _ _ _ _ _ => am_iadd d_Mod_atom_110) ?_
            refine xW_callV O (H.2.2.2.2.2.2.1 _ _ _ _ _).1 (H.2.2.2.2.2.2.1 _ _ _ _ _).2 rfl rfl rfl l_Mod_214 ⟨w_1881, w_96⟩ rfl (Nat.le_of_ble_eq_true rfl) d_Mod_atom_111 (fun v39 s38 _ => ?_)
            refine xW_ite (fun _ _ _ _ _ k1 k2 => am_if_ne (tgt := 119) d_Mod_atom_114 (by decide) k2 k1) (fun _ => ?_) (fun _ => ?_)
            · refine xW_pure (fun _ _ _ _ _ => am_iconst (v := 0) d_Mod_atom_117 (by decide)) ?_
              exact xW_ret (fun _ _ _ _ _ => am_zret (ty := .boolean) rfl rfl d_Mod_atom_118)
            · refine xW_pure (fun _ _ _ _ _ => am_aload_n d_Mod_atom_119 rfl rfl) ?_
              refine xW_pure (fun _ _ _ _ _ => am_aload_n d_Mod_atom_120 rfl rfl) ?_
              refine xW_pure (fun _ _ _ _ _ => am_bipush (v := 7) d_Mod_atom_121 (by decide)) ?_
              refine xW_callV O (dx_Mod_put_I O T) (fun _ e => ob_Mod_put_I e) rfl rfl rfl l_Mod_103 ⟨w_1875, w_95⟩ rfl (Nat.le_of_ble_eq_true rfl) d_Mod_atom_123 (fun v41 s40 _ => ?_)
              refine xW_put O f_Mod_253 d_Mod_atom_126 (fun q hq => by cases hq; exact ⟨rfl, rfl, rfl⟩) (fun s42 _ => ?_)
              refine xW_pure (fun _ _ _ _ _ => am_aload_n d_Mod_atom_129 rfl rfl) ?_
              refine xW_pure (fun _ _ _ _ _ => am_ldcSw (T.2.2 19 ("StowTongueModel", 306, "]") rfl) d_Mod_atom_130) ?_
              refine xW_callV O (dx_Mod_take O T) (fun _ e => ob_Mod_take e) rfl rfl rfl l_Mod_179 ⟨w_1851, w_90⟩ rfl (Nat.le_of_ble_eq_true rfl) d_Mod_atom_133 (fun v44 s43 _ => ?_)
              refine xW_ite (fun _ _ _ _ _ k1 k2 => am_if_ne (tgt := 141) d_Mod_atom_136 (by decide) k2 k1) (fun _ => ?_) (fun _ => ?_)
              · refine xW_pure (fun _ _ _ _ _ => am_iconst (v := 0) d_Mod_atom_139 (by decide)) ?_
                exact xW_ret (fun _ _ _ _ _ => am_zret (ty := .boolean) rfl rfl d_Mod_atom_140)
              · refine xW_pure (fun _ _ _ _ _ => am_aload_n d_Mod_atom_141 rfl rfl) ?_
                refine xW_pure (fun _ _ _ _ _ => am_iconst (v := 1) d_Mod_atom_142 (by decide)) ?_
                refine xW_put O f_Mod_249 d_Mod_atom_143 (fun q hq => by cases hq; exact ⟨rfl, rfl, rfl⟩) (fun s45 _ => ?_)
                refine xW_pure (fun _ _ _ _ _ => am_goto (tgt := 10) d_Mod_atom_146 (by decide)) ?_
                refine xW_locs (lv' := [(0, .ref x0), (1, .int x1)]) rfl ?_
                exact ih10 s45
          · refine xW_pure (fun _ _ _ _ _ => am_aload_n d_Mod_atom_61 rfl rfl) ?_
            refine xW_gI O f_Mod_32 d_Mod_atom_62 (fun v46 _ => ?_)
            refine xW_pure (fun _ _ _ _ _ => am_iconst (v := 1) d_Mod_atom_65 (by decide)) ?_
            refine xW_ite (fun _ _ _ _ _ => am_icmp_eq (tgt := 74) d_Mod_atom_66 (by decide)) (fun _ => ?_) (fun _ => ?_)
            · refine xW_pure (fun _ _ _ _ _ => am_aload_n d_Mod_atom_74 rfl rfl) ?_
              refine xW_pure (fun _ _ _ _ _ => am_aload_n d_Mod_atom_75 rfl rfl) ?_
              refine xW_callV O (dx_Mod_name O T) (fun _ e => ob_Mod_name e) rfl rfl rfl l_Mod_164 ⟨w_1845, w_89⟩ rfl (Nat.le_of_ble_eq_true rfl) d_Mod_atom_76 (fun v48 s47 _ => ?_)
              refine xW_callV O (dx_Mod_nameValue O T) (fun _ e => ob_Mod_nameValue e) rfl rfl rfl l_Mod_303 ⟨w_1932, w_106⟩ rfl (Nat.le_of_ble_eq_true rfl) d_Mod_atom_79 (fun v50 s49 _ => ?_)
              refine xW_pure (fun _ _ _ _ _ => am_istore_n d_Mod_atom_82 rfl (Nat.le_of_ble_eq_true rfl)) ?_
              refine xW_pure (fun _ _ _ _ _ => am_aload_n d_Mod_atom_83 rfl rfl) ?_
              refine xW_pure (fun _ _ _ _ _ => am_aload_n d_Mod_atom_84 rfl rfl) ?_
              refine xW_gR O f_Mod_91 d_Mod_atom_85 (fun v51 _ => ?_)
              refine xW_gI O f_Mod_100 d_Mod_atom_88 (fun v52 _ => ?_)
              refine xW_put O f_Mod_253 d_Mod_atom_91 (fun q hq => by cases hq; exact ⟨rfl, rfl, rfl⟩) (fun s53 _ => ?_)
              refine xW_pure (fun _ _ _ _ _ => am_aload_n d_Mod_atom_94 rfl rfl) ?_
              refine xW_pure (fun _ _ _ _ _ => am_iconst (v := 5) d_Mod_atom_95 (by decide)) ?_
              refine xW_pure (fun _ _ _ _ _ => am_iload_n d_Mod_atom_96 rfl rfl) ?_
              refine xW_callV O (dx_Mod_put_II O T) (fun _ e => ob_Mod_put_II e) rfl rfl rfl l_Mod_120 ⟨w_1919, w_104⟩ rfl (Nat.le_of_ble_eq_true rfl) d_Mod_atom_97 (fun v55 s54 _ => ?_)
              refine xW_pure (fun _ _ _ _ _ => am_aload_n d_Mod_atom_100 rfl rfl) ?_
              refine xW_callV O (dx_Mod_step O T) (fun _ e => ob_Mod_step e) rfl rfl rfl l_Mod_87 ⟨w_1808, w_84⟩ rfl (Nat.le_of_ble_eq_true rfl) d_Mod_atom_101 (fun v57 s56 _ => ?_)
              refine xW_pure (fun _ _ _ _ _ => am_goto (tgt := 141) d_Mod_atom_104 (by decide)) ?_
              refine xW_pure (fun _ _ _ _ _ => am_aload_n d_Mod_atom_141 rfl rfl) ?_
              refine xW_pure (fun _ _ _ _ _ => am_iconst (v := 1) d_Mod_atom_142 (by decide)) ?_
              refine xW_put O f_Mod_249 d_Mod_atom_143 (fun q hq => by cases hq; exact ⟨rfl, rfl, rfl⟩) (fun s58 _ => ?_)
              refine xW_pure (fun _ _ _ _ _ => am_goto (tgt := 10) d_Mod_atom_146 (by decide)) ?_
              refine xW_locs (lv' := [(0, .ref x0), (1, .int x1)]) rfl ?_
              exact ih10 s58
            · refine xW_pure (fun _ _ _ _ _ => am_aload_n d_Mod_atom_69 rfl rfl) ?_
              refine xW_callV O (dx_Mod_bad O T) (fun _ e => ob_Mod_bad e) rfl rfl rfl l_Mod_84 ⟨w_1841, w_88⟩ rfl (Nat.le_of_ble_eq_true rfl) d_Mod_atom_70 (fun v60 s59 _ => ?_)
              refine xW_okB (fun hz => ?_)
              exact xW_ret (fun _ _ _ _ _ => am_zret (ty := .boolean) rfl (bz_nar hz) d_Mod_atom_73)
    · refine xW_pure (fun _ _ _ _ _ => am_aload_n d_Mod_atom_30 rfl rfl) ?_
      refine xW_pure (fun _ _ _ _ _ => am_ldcSw (T.2.2 20 ("StowTongueModel", 299, ".") rfl) d_Mod_atom_31) ?_
      refine xW_callV O (dx_Mod_is O T) (fun _ e => ob_Mod_is e) rfl rfl rfl l_Mod_80 ⟨w_1833, w_86⟩ rfl (Nat.le_of_ble_eq_true rfl) d_Mod_atom_34 (fun v62 s61 _ => ?_)
      refine xW_pure (fun _ _ _ _ _ => am_istore_n d_Mod_atom_37 rfl (Nat.le_of_ble_eq_true rfl)) ?_
      refine xW_pure (fun _ _ _ _ _ => am_iload_n d_Mod_atom_38 rfl rfl) ?_
      refine xW_ite (fun _ _ _ _ _ k1 k2 => am_if_ne (tgt := 53) d_Mod_atom_39 (by decide) k2 k1) (fun _ => ?_) (fun _ => ?_)
      · refine xW_pure (fun _ _ _ _ _ => am_iload_n d_Mod_atom_42 rfl rfl) ?_
        refine xW_pure (fun _ _ _ _ _ => am_bipush (v := 16) d_Mod_atom_43 (by decide)) ?_
        refine xW_ite (fun _ _ _ _ _ k1 k2 => am_icmp_ne (tgt := 53) d_Mod_atom_45 (by decide) k2 k1) (fun _ => ?_) (fun _ => ?_)
        · refine xW_pure (fun _ _ _ _ _ => am_aload_n d_Mod_atom_48 rfl rfl) ?_
          refine xW_callV O (dx_Mod_bad O T) (fun _ e => ob_Mod_bad e) rfl rfl rfl l_Mod_84 ⟨w_1841, w_88⟩ rfl (Nat.le_of_ble_eq_true rfl) d_Mod_atom_49 (fun v64 s63 _ => ?_)
          refine xW_okB (fun hz => ?_)
          exact xW_ret (fun _ _ _ _ _ => am_zret (ty := .boolean) rfl (bz_nar hz) d_Mod_atom_52)
        · refine xW_pure (fun _ _ _ _ _ => am_aload_n d_Mod_atom_53 rfl rfl) ?_
          refine xW_callV O (dx_Mod_step O T) (fun _ e => ob_Mod_step e) rfl rfl rfl l_Mod_87 ⟨w_1808, w_84⟩ rfl (Nat.le_of_ble_eq_true rfl) d_Mod_atom_54 (fun v66 s65 _ => ?_)
          refine xW_pure (fun _ _ _ _ _ => am_iload_n d_Mod_atom_57 rfl rfl) ?_
          refine xW_ite (fun _ _ _ _ _ => am_if_eq (tgt := 107) d_Mod_atom_58 (by decide)) (fun _ => ?_) (fun _ => ?_)
          · refine xW_pure (fun _ _ _ _ _ => am_aload_n d_Mod_atom_107 rfl rfl) ?_
            refine xW_pure (fun _ _ _ _ _ => am_iload_n d_Mod_atom_108 rfl rfl) ?_
            refine xW_pure (fun _ _ _ _ _ => am_iconst (v := 1) d_Mod_atom_109 (by decide)) ?_
            refine xW_pure (fun _ _ _ _ _ => am_iadd d_Mod_atom_110) ?_
            refine xW_callV O (H.2.2.2.2.2.2.1 _ _ _ _ _).1 (H.2.2.2.2.2.2.1 _ _ _ _ _).2 rfl rfl rfl l_Mod_214 ⟨w_1881, w_96⟩ rfl (Nat.le_of_ble_eq_true rfl) d_Mod_atom_111 (fun v68 s67 _ => ?_)
            refine xW_ite (fun _ _ _ _ _ k1 k2 => am_if_ne (tgt := 119) d_Mod_atom_114 (by decide) k2 k1) (fun _ => ?_) (fun _ => ?_)
            · refine xW_pure (fun _ _ _ _ _ => am_iconst (v := 0) d_Mod_atom_117 (by decide)) ?_
              exact xW_ret (fun _ _ _ _ _ => am_zret (ty := .boolean) rfl rfl d_Mod_atom_118)
            · refine xW_pure (fun _ _ _ _ _ => am_aload_n d_Mod_atom_119 rfl rfl) ?_
              refine xW_pure (fun _ _ _ _ _ => am_aload_n d_Mod_atom_120 rfl rfl) ?_
              refine xW_pure (fun _ _ _ _ _ => am_bipush (v := 7) d_Mod_atom_121 (by decide)) ?_
              refine xW_callV O (dx_Mod_put_I O T) (fun _ e => ob_Mod_put_I e) rfl rfl rfl l_Mod_103 ⟨w_1875, w_95⟩ rfl (Nat.le_of_ble_eq_true rfl) d_Mod_atom_123 (fun v70 s69 _ => ?_)
              refine xW_put O f_Mod_253 d_Mod_atom_126 (fun q hq => by cases hq; exact ⟨rfl, rfl, rfl⟩) (fun s71 _ => ?_)
              refine xW_pure (fun _ _ _ _ _ => am_aload_n d_Mod_atom_129 rfl rfl) ?_
              refine xW_pure (fun _ _ _ _ _ => am_ldcSw (T.2.2 19 ("StowTongueModel", 306, "]") rfl) d_Mod_atom_130) ?_
              refine xW_callV O (dx_Mod_take O T) (fun _ e => ob_Mod_take e) rfl rfl rfl l_Mod_179 ⟨w_1851, w_90⟩ rfl (Nat.le_of_ble_eq_true rfl) d_Mod_atom_133 (fun v73 s72 _ => ?_)
              refine xW_ite (fun _ _ _ _ _ k1 k2 => am_if_ne (tgt := 141) d_Mod_atom_136 (by decide) k2 k1) (fun _ => ?_) (fun _ => ?_)
              · refine xW_pure (fun _ _ _ _ _ => am_iconst (v := 0) d_Mod_atom_139 (by decide)) ?_
                exact xW_ret (fun _ _ _ _ _ => am_zret (ty := .boolean) rfl rfl d_Mod_atom_140)
              · refine xW_pure (fun _ _ _ _ _ => am_aload_n d_Mod_atom_141 rfl rfl) ?_
                refine xW_pure (fun _ _ _ _ _ => am_iconst (v := 1) d_Mod_atom_142 (by decide)) ?_
                refine xW_put O f_Mod_249 d_Mod_atom_143 (fun q hq => by cases hq; exact ⟨rfl, rfl, rfl⟩) (fun s74 _ => ?_)
                refine xW_pure (fun _ _ _ _ _ => am_goto (tgt := 10) d_Mod_atom_146 (by decide)) ?_
                refine xW_locs (lv' := [(0, .ref x0), (1, .int x1)]) rfl ?_
                exact ih10 s74
          · refine xW_pure (fun _ _ _ _ _ => am_aload_n d_Mod_atom_61 rfl rfl) ?_
            refine xW_gI O f_Mod_32 d_Mod_atom_62 (fun v75 _ => ?_)
            refine xW_pure (fun _ _ _ _ _ => am_iconst (v := 1) d_Mod_atom_65 (by decide)) ?_
            refine xW_ite (fun _ _ _ _ _ => am_icmp_eq (tgt := 74) d_Mod_atom_66 (by decide)) (fun _ => ?_) (fun _ => ?_)
            · refine xW_pure (fun _ _ _ _ _ => am_aload_n d_Mod_atom_74 rfl rfl) ?_
              refine xW_pure (fun _ _ _ _ _ => am_aload_n d_Mod_atom_75 rfl rfl) ?_
              refine xW_callV O (dx_Mod_name O T) (fun _ e => ob_Mod_name e) rfl rfl rfl l_Mod_164 ⟨w_1845, w_89⟩ rfl (Nat.le_of_ble_eq_true rfl) d_Mod_atom_76 (fun v77 s76 _ => ?_)
              refine xW_callV O (dx_Mod_nameValue O T) (fun _ e => ob_Mod_nameValue e) rfl rfl rfl l_Mod_303 ⟨w_1932, w_106⟩ rfl (Nat.le_of_ble_eq_true rfl) d_Mod_atom_79 (fun v79 s78 _ => ?_)
              refine xW_pure (fun _ _ _ _ _ => am_istore_n d_Mod_atom_82 rfl (Nat.le_of_ble_eq_true rfl)) ?_
              refine xW_pure (fun _ _ _ _ _ => am_aload_n d_Mod_atom_83 rfl rfl) ?_
              refine xW_pure (fun _ _ _ _ _ => am_aload_n d_Mod_atom_84 rfl rfl) ?_
              refine xW_gR O f_Mod_91 d_Mod_atom_85 (fun v80 _ => ?_)
              refine xW_gI O f_Mod_100 d_Mod_atom_88 (fun v81 _ => ?_)
              refine xW_put O f_Mod_253 d_Mod_atom_91 (fun q hq => by cases hq; exact ⟨rfl, rfl, rfl⟩) (fun s82 _ => ?_)
              refine xW_pure (fun _ _ _ _ _ => am_aload_n d_Mod_atom_94 rfl rfl) ?_
              refine xW_pure (fun _ _ _ _ _ => am_iconst (v := 5) d_Mod_atom_95 (by decide)) ?_
              refine xW_pure (fun _ _ _ _ _ => am_iload_n d_Mod_atom_96 rfl rfl) ?_
              refine xW_callV O (dx_Mod_put_II O T) (fun _ e => ob_Mod_put_II e) rfl rfl rfl l_Mod_120 ⟨w_1919, w_104⟩ rfl (Nat.le_of_ble_eq_true rfl) d_Mod_atom_97 (fun v84 s83 _ => ?_)
              refine xW_pure (fun _ _ _ _ _ => am_aload_n d_Mod_atom_100 rfl rfl) ?_
              refine xW_callV O (dx_Mod_step O T) (fun _ e => ob_Mod_step e) rfl rfl rfl l_Mod_87 ⟨w_1808, w_84⟩ rfl (Nat.le_of_ble_eq_true rfl) d_Mod_atom_101 (fun v86 s85 _ => ?_)
              refine xW_pure (fun _ _ _ _ _ => am_goto (tgt := 141) d_Mod_atom_104 (by decide)) ?_
              refine xW_pure (fun _ _ _ _ _ => am_aload_n d_Mod_atom_141 rfl rfl) ?_
              refine xW_pure (fun _ _ _ _ _ => am_iconst (v := 1) d_Mod_atom_142 (by decide)) ?_
              refine xW_put O f_Mod_249 d_Mod_atom_143 (fun q hq => by cases hq; exact ⟨rfl, rfl, rfl⟩) (fun s87 _ => ?_)
              refine xW_pure (fun _ _ _ _ _ => am_goto (tgt := 10) d_Mod_atom_146 (by decide)) ?_
              refine xW_locs (lv' := [(0, .ref x0), (1, .int x1)]) rfl ?_
              exact ih10 s87
            · refine xW_pure (fun _ _ _ _ _ => am_aload_n d_Mod_atom_69 rfl rfl) ?_
              refine xW_callV O (dx_Mod_bad O T) (fun _ e => ob_Mod_bad e) rfl rfl rfl l_Mod_84 ⟨w_1841, w_88⟩ rfl (Nat.le_of_ble_eq_true rfl) d_Mod_atom_70 (fun v89 s88 _ => ?_)
              refine xW_okB (fun hz => ?_)
              exact xW_ret (fun _ _ _ _ _ => am_zret (ty := .boolean) rfl (bz_nar hz) d_Mod_atom_73)
      · refine xW_pure (fun _ _ _ _ _ => am_aload_n d_Mod_atom_53 rfl rfl) ?_
        refine xW_callV O (dx_Mod_step O T) (fun _ e => ob_Mod_step e) rfl rfl rfl l_Mod_87 ⟨w_1808, w_84⟩ rfl (Nat.le_of_ble_eq_true rfl) d_Mod_atom_54 (fun v91 s90 _ => ?_)
        refine xW_pure (fun _ _ _ _ _ => am_iload_n d_Mod_atom_57 rfl rfl) ?_
        refine xW_ite (fun _ _ _ _ _ => am_if_eq (tgt := 107) d_Mod_atom_58 (by decide)) (fun _ => ?_) (fun _ => ?_)
        · refine xW_pure (fun _ _ _ _ _ => am_aload_n d_Mod_atom_107 rfl rfl) ?_
          refine xW_pure (fun _ _ _ _ _ => am_iload_n d_Mod_atom_108 rfl rfl) ?_
          refine xW_pure (fun _ _ _ _ _ => am_iconst (v := 1) d_Mod_atom_109 (by decide)) ?_
          refine xW_pure (fun _ _ _ _ _ => am_iadd d_Mod_atom_110) ?_
          refine xW_callV O (H.2.2.2.2.2.2.1 _ _ _ _ _).1 (H.2.2.2.2.2.2.1 _ _ _ _ _).2 rfl rfl rfl l_Mod_214 ⟨w_1881, w_96⟩ rfl (Nat.le_of_ble_eq_true rfl) d_Mod_atom_111 (fun v93 s92 _ => ?_)
          refine xW_ite (fun _ _ _ _ _ k1 k2 => am_if_ne (tgt := 119) d_Mod_atom_114 (by decide) k2 k1) (fun _ => ?_) (fun _ => ?_)
          · refine xW_pure (fun _ _ _ _ _ => am_iconst (v := 0) d_Mod_atom_117 (by decide)) ?_
            exact xW_ret (fun _ _ _ _ _ => am_zret (ty := .boolean) rfl rfl d_Mod_atom_118)
          · refine xW_pure (fun _ _ _ _ _ => am_aload_n d_Mod_atom_119 rfl rfl) ?_
            refine xW_pure (fun _ _ _ _ _ => am_aload_n d_Mod_atom_120 rfl rfl) ?_
            refine xW_pure (fun _ _ _ _ _ => am_bipush (v := 7) d_Mod_atom_121 (by decide)) ?_
            refine xW_callV O (dx_Mod_put_I O T) (fun _ e => ob_Mod_put_I e) rfl rfl rfl l_Mod_103 ⟨w_1875, w_95⟩ rfl (Nat.le_of_ble_eq_true rfl) d_Mod_atom_123 (fun v95 s94 _ => ?_)
            refine xW_put O f_Mod_253 d_Mod_atom_126 (fun q hq => by cases hq; exact ⟨rfl, rfl, rfl⟩) (fun s96 _ => ?_)
            refine xW_pure (fun _ _ _ _ _ => am_aload_n d_Mod_atom_129 rfl rfl) ?_
            refine xW_pure (fun _ _ _ _ _ => am_ldcSw (T.2.2 19 ("StowTongueModel", 306, "]") rfl) d_Mod_atom_130) ?_
            refine xW_callV O (dx_Mod_take O T) (fun _ e => ob_Mod_take e) rfl rfl rfl l_Mod_179 ⟨w_1851, w_90⟩ rfl (Nat.le_of_ble_eq_true rfl) d_Mod_atom_133 (fun v98 s97 _ => ?_)
            refine xW_ite (fun _ _ _ _ _ k1 k2 => am_if_ne (tgt := 141) d_Mod_atom_136 (by decide) k2 k1) (fun _ => ?_) (fun _ => ?_)
            · refine xW_pure (fun _ _ _ _ _ => am_iconst (v := 0) d_Mod_atom_139 (by decide)) ?_
              exact xW_ret (fun _ _ _ _ _ => am_zret (ty := .boolean) rfl rfl d_Mod_atom_140)
            · refine xW_pure (fun _ _ _ _ _ => am_aload_n d_Mod_atom_141 rfl rfl) ?_
              refine xW_pure (fun _ _ _ _ _ => am_iconst (v := 1) d_Mod_atom_142 (by decide)) ?_
              refine xW_put O f_Mod_249 d_Mod_atom_143 (fun q hq => by cases hq; exact ⟨rfl, rfl, rfl⟩) (fun s99 _ => ?_)
              refine xW_pure (fun _ _ _ _ _ => am_goto (tgt := 10) d_Mod_atom_146 (by decide)) ?_
              refine xW_locs (lv' := [(0, .ref x0), (1, .int x1)]) rfl ?_
              exact ih10 s99
        · refine xW_pure (fun _ _ _ _ _ => am_aload_n d_Mod_atom_61 rfl rfl) ?_
          refine xW_gI O f_Mod_32 d_Mod_atom_62 (fun v100 _ => ?_)
          refine xW_pure (fun _ _ _ _ _ => am_iconst (v := 1) d_Mod_atom_65 (by decide)) ?_
          refine xW_ite (fun _ _ _ _ _ => am_icmp_eq (tgt := 74) d_Mod_atom_66 (by decide)) (fun _ => ?_) (fun _ => ?_)
          · refine xW_pure (fun _ _ _ _ _ => am_aload_n d_Mod_atom_74 rfl rfl) ?_
            refine xW_pure (fun _ _ _ _ _ => am_aload_n d_Mod_atom_75 rfl rfl) ?_
            refine xW_callV O (dx_Mod_name O T) (fun _ e => ob_Mod_name e) rfl rfl rfl l_Mod_164 ⟨w_1845, w_89⟩ rfl (Nat.le_of_ble_eq_true rfl) d_Mod_atom_76 (fun v102 s101 _ => ?_)
            refine xW_callV O (dx_Mod_nameValue O T) (fun _ e => ob_Mod_nameValue e) rfl rfl rfl l_Mod_303 ⟨w_1932, w_106⟩ rfl (Nat.le_of_ble_eq_true rfl) d_Mod_atom_79 (fun v104 s103 _ => ?_)
            refine xW_pure (fun _ _ _ _ _ => am_istore_n d_Mod_atom_82 rfl (Nat.le_of_ble_eq_true rfl)) ?_
            refine xW_pure (fun _ _ _ _ _ => am_aload_n d_Mod_atom_83 rfl rfl) ?_
            refine xW_pure (fun _ _ _ _ _ => am_aload_n d_Mod_atom_84 rfl rfl) ?_
            refine xW_gR O f_Mod_91 d_Mod_atom_85 (fun v105 _ => ?_)
            refine xW_gI O f_Mod_100 d_Mod_atom_88 (fun v106 _ => ?_)
            refine xW_put O f_Mod_253 d_Mod_atom_91 (fun q hq => by cases hq; exact ⟨rfl, rfl, rfl⟩) (fun s107 _ => ?_)
            refine xW_pure (fun _ _ _ _ _ => am_aload_n d_Mod_atom_94 rfl rfl) ?_
            refine xW_pure (fun _ _ _ _ _ => am_iconst (v := 5) d_Mod_atom_95 (by decide)) ?_
            refine xW_pure (fun _ _ _ _ _ => am_iload_n d_Mod_atom_96 rfl rfl) ?_
            refine xW_callV O (dx_Mod_put_II O T) (fun _ e => ob_Mod_put_II e) rfl rfl rfl l_Mod_120 ⟨w_1919, w_104⟩ rfl (Nat.le_of_ble_eq_true rfl) d_Mod_atom_97 (fun v109 s108 _ => ?_)
            refine xW_pure (fun _ _ _ _ _ => am_aload_n d_Mod_atom_100 rfl rfl) ?_
            refine xW_callV O (dx_Mod_step O T) (fun _ e => ob_Mod_step e) rfl rfl rfl l_Mod_87 ⟨w_1808, w_84⟩ rfl (Nat.le_of_ble_eq_true rfl) d_Mod_atom_101 (fun v111 s110 _ => ?_)
            refine xW_pure (fun _ _ _ _ _ => am_goto (tgt := 141) d_Mod_atom_104 (by decide)) ?_
            refine xW_pure (fun _ _ _ _ _ => am_aload_n d_Mod_atom_141 rfl rfl) ?_
            refine xW_pure (fun _ _ _ _ _ => am_iconst (v := 1) d_Mod_atom_142 (by decide)) ?_
            refine xW_put O f_Mod_249 d_Mod_atom_143 (fun q hq => by cases hq; exact ⟨rfl, rfl, rfl⟩) (fun s112 _ => ?_)
            refine xW_pure (fun _ _ _ _ _ => am_goto (tgt := 10) d_Mod_atom_146 (by decide)) ?_
            refine xW_locs (lv' := [(0, .ref x0), (1, .int x1)]) rfl ?_
            exact ih10 s112
          · refine xW_pure (fun _ _ _ _ _ => am_aload_n d_Mod_atom_69 rfl rfl) ?_
            refine xW_callV O (dx_Mod_bad O T) (fun _ e => ob_Mod_bad e) rfl rfl rfl l_Mod_84 ⟨w_1841, w_88⟩ rfl (Nat.le_of_ble_eq_true rfl) d_Mod_atom_70 (fun v114 s113 _ => ?_)
            refine xW_okB (fun hz => ?_)
            exact xW_ret (fun _ _ _ _ _ => am_zret (ty := .boolean) rfl (bz_nar hz) d_Mod_atom_73)

set_option maxRecDepth 100000 in
def x_Mod_simple_b243 (c : CLT) (d : Nat) (l0 : Nat) (l1 : Int32) (s : HS) : Option (Int32 × HS) := if l1 = 16 then (bnd (x_Mod_bad d l0 s) fun v54 s53 => (okB v54 (some (v54, s53)))) else (bnd (x_Mod_is d l0 20 s) fun v56 s55 => (if v56 = 0 then (bnd (x_Mod_is d l0 40 s55) fun v58 s57 => (if v58 = 0 then (bnd (x_Mod_step d l0 s57) fun v60 s59 => (bnd ((c 6 l0 (l1 + 1) 0 0 s59)) fun v62 s61 => (if v62 = 0 then (some (0, s61)) else (bnd (x_Mod_take d l0 16 s61) fun v64 s63 => (if v64 = 0 then (some (0, s63)) else ((pV s63 l0 14 25 (.int 0)).bind fun s65 => (some (1, s65)))))))) else (bnd ((c 16 l0 (l1 + 1) 0 0 s57)) fun v67 s66 => (okB v67 (some (v67, s66)))))) else (bnd ((c 15 l0 (l1 + 1) 0 0 s55)) fun v69 s68 => (okB v69 (some (v69, s68))))))

set_option maxRecDepth 100000 in
set_option maxHeartbeats 4000000 in
theorem dx_Mod_simple_b243 (O : am_ok K X) (T : am_T K) {c : CLT} {d : Nat} (H : HC_M K X c d) {l0 : Nat} {l1 : Int32} {s : HS} : xW cvI K X m_Mod_simple (d + 1) 243 [(0, .ref l0), (1, .int l1)] [] s (x_Mod_simple_b243 c d l0 l1 s) := by
  unfold x_Mod_simple_b243
  refine xW_pure (fun _ _ _ _ _ => am_iload_n d_Mod_simple_243 rfl rfl) ?_
  refine xW_pure (fun _ _ _ _ _ => am_bipush (v := 16) d_Mod_simple_244 (by decide)) ?_
  refine xW_ite (fun _ _ _ _ _ k1 k2 => am_icmp_ne (tgt := 254) d_Mod_simple_246 (by decide) k2 k1) (fun _ => ?_) (fun _ => ?_)
  · refine xW_pure (fun _ _ _ _ _ => am_aload_n d_Mod_simple_249 rfl rfl) ?_
    refine xW_callV O (dx_Mod_bad O T) (fun _ e => ob_Mod_bad e) rfl rfl rfl l_Mod_84 ⟨w_1841, w_88⟩ rfl (Nat.le_of_ble_eq_true rfl) d_Mod_simple_250 (fun v54 s53 _ => ?_)
    refine xW_okB (fun hz => ?_)
    exact xW_ret (fun _ _ _ _ _ => am_zret (ty := .boolean) rfl (bz_nar hz) d_Mod_simple_253)
  · refine xW_pure (fun _ _ _ _ _ => am_aload_n d_Mod_simple_254 rfl rfl) ?_
    refine xW_pure (fun _ _ _ _ _ => am_ldcS (T.2.2 7 ("StowTongueModel", 210, "{") rfl) d_Mod_simple_255) ?_
    refine xW_callV O (dx_Mod_is O T) (fun _ e => ob_Mod_is e) rfl rfl rfl l_Mod_80 ⟨w_1833, w_86⟩ rfl (Nat.le_of_ble_eq_true rfl) d_Mod_simple_257 (fun v56 s55 _ => ?_)
    refine xW_ite (fun _ _ _ _ _ => am_if_eq (tgt := 271) d_Mod_simple_260 (by decide)) (fun _ => ?_) (fun _ => ?_)
    · refine xW_pure (fun _ _ _ _ _ => am_aload_n d_Mod_simple_271 rfl rfl) ?_
      refine xW_pure (fun _ _ _ _ _ => am_ldcSw (T.2.2 17 ("StowTongueModel", 301, "[") rfl) d_Mod_simple_272) ?_
      refine xW_callV O (dx_Mod_is O T) (fun _ e => ob_Mod_is e) rfl rfl rfl l_Mod_80 ⟨w_1833, w_86⟩ rfl (Nat.le_of_ble_eq_true rfl) d_Mod_simple_275 (fun v58 s57 _ => ?_)
      refine xW_ite (fun _ _ _ _ _ => am_if_eq (tgt := 289) d_Mod_simple_278 (by decide)) (fun _ => ?_) (fun _ => ?_)
      · refine xW_pure (fun _ _ _ _ _ => am_aload_n d_Mod_simple_289 rfl rfl) ?_
        refine xW_callV O (dx_Mod_step O T) (fun _ e => ob_Mod_step e) rfl rfl rfl l_Mod_87 ⟨w_1808, w_84⟩ rfl (Nat.le_of_ble_eq_true rfl) d_Mod_simple_290 (fun v60 s59 _ => ?_)
        refine xW_pure (fun _ _ _ _ _ => am_aload_n d_Mod_simple_293 rfl rfl) ?_
        refine xW_pure (fun _ _ _ _ _ => am_iload_n d_Mod_simple_294 rfl rfl) ?_
        refine xW_pure (fun _ _ _ _ _ => am_iconst (v := 1) d_Mod_simple_295 (by decide)) ?_
        refine xW_pure (fun _ _ _ _ _ => am_iadd d_Mod_simple_296) ?_
        refine xW_callV O (H.2.2.2.2.2.2.1 _ _ _ _ _).1 (H.2.2.2.2.2.2.1 _ _ _ _ _).2 rfl rfl rfl l_Mod_214 ⟨w_1881, w_96⟩ rfl (Nat.le_of_ble_eq_true rfl) d_Mod_simple_297 (fun v62 s61 _ => ?_)
        refine xW_ite (fun _ _ _ _ _ => am_if_eq (tgt := 312) d_Mod_simple_300 (by decide)) (fun _ => ?_) (fun _ => ?_)
        · refine xW_pure (fun _ _ _ _ _ => am_iconst (v := 0) d_Mod_simple_312 (by decide)) ?_
          exact xW_ret (fun _ _ _ _ _ => am_zret (ty := .boolean) rfl rfl d_Mod_simple_313)
        · refine xW_pure (fun _ _ _ _ _ => am_aload_n d_Mod_simple_303 rfl rfl) ?_
          refine xW_pure (fun _ _ _ _ _ => am_ldcS (T.2.2 5 ("StowTongueModel", 182, ")") rfl) d_Mod_simple_304) ?_
          refine xW_callV O (dx_Mod_take O T) (fun _ e => ob_Mod_take e) rfl rfl rfl l_Mod_179 ⟨w_1851, w_90⟩ rfl (Nat.le_of_ble_eq_true rfl) d_Mod_simple_306 (fun v64 s63 _ => ?_)
          refine xW_ite (fun _ _ _ _ _ k1 k2 => am_if_ne (tgt := 314) d_Mod_simple_309 (by decide) k2 k1) (fun _ => ?_) (fun _ => ?_)
          · refine xW_pure (fun _ _ _ _ _ => am_iconst (v := 0) d_Mod_simple_312 (by decide)) ?_
            exact xW_ret (fun _ _ _ _ _ => am_zret (ty := .boolean) rfl rfl d_Mod_simple_313)
          · refine xW_pure (fun _ _ _ _ _ => am_aload_n d_Mod_simple_314 rfl rfl) ?_
            refine xW_pure (fun _ _ _ _ _ => am_iconst (v := 0) d_Mod_simple_315 (by decide)) ?_
            refine xW_put O f_Mod_249 d_Mod_simple_316 (fun q hq => by cases hq; exact ⟨rfl, rfl, rfl⟩) (fun s65 _ => ?_)
            refine xW_pure (fun _ _ _ _ _ => am_iconst (v := 1) d_Mod_simple_319 (by decide)) ?_
            exact xW_ret (fun _ _ _ _ _ => am_zret (ty := .boolean) rfl rfl d_Mod_simple_320)
      · refine xW_pure (fun _ _ _ _ _ => am_aload_n d_Mod_simple_281 rfl rfl) ?_
        refine xW_pure (fun _ _ _ _ _ => am_iload_n d_Mod_simple_282 rfl rfl) ?_
        refine xW_pure (fun _ _ _ _ _ => am_iconst (v := 1) d_Mod_simple_283 (by decide)) ?_
        refine xW_pure (fun _ _ _ _ _ => am_iadd d_Mod_simple_284) ?_
        refine xW_callV O (H.2.2.2.2.2.2.2.2.2.2.2.2.2.2.2.2 _ _ _ _ _).1 (H.2.2.2.2.2.2.2.2.2.2.2.2.2.2.2.2 _ _ _ _ _).2 rfl rfl rfl l_Mod_327 ⟨w_1949, w_109⟩ rfl (Nat.le_of_ble_eq_true rfl) d_Mod_simple_285 (fun v67 s66 _ => ?_)
        refine xW_okB (fun hz => ?_)
        exact xW_ret (fun _ _ _ _ _ => am_zret (ty := .boolean) rfl (bz_nar hz) d_Mod_simple_288)
    · refine xW_pure (fun _ _ _ _ _ => am_aload_n d_Mod_simple_263 rfl rfl) ?_
      refine xW_pure (fun _ _ _ _ _ => am_iload_n d_Mod_simple_264 rfl rfl) ?_
      refine xW_pure (fun _ _ _ _ _ => am_iconst (v := 1) d_Mod_simple_265 (by decide)) ?_
      refine xW_pure (fun _ _ _ _ _ => am_iadd d_Mod_simple_266) ?_
      refine xW_callV O (H.2.2.2.2.2.2.2.2.2.2.2.2.2.2.2.1 _ _ _ _ _).1 (H.2.2.2.2.2.2.2.2.2.2.2.2.2.2.2.1 _ _ _ _ _).2 rfl rfl rfl l_Mod_324 ⟨w_1944, w_108⟩ rfl (Nat.le_of_ble_eq_true rfl) d_Mod_simple_267 (fun v69 s68 _ => ?_)
      refine xW_okB (fun hz => ?_)
      exact xW_ret (fun _ _ _ _ _ => am_zret (ty := .boolean) rfl (bz_nar hz) d_Mod_simple_270)

set_option maxRecDepth 100000 in
def x_Mod_simple_b (c : CLT) (d : Nat) (x0 : Nat) (x1 : Int32) (s : HS) : Option (Int32 × HS) := gd s x0 14 ((pV s x0 14 25 (.int 0)).bind fun s1 => ((gI s1 x0 14 6).bind fun v2 => (if v2 = 3 then ((gL s1 x0 14 11).bind fun v3 => (bnd (x_Mod_value_IIJJ d x0 1 0 v3 0 s1) fun v5 s4 => (bnd (x_Mod_step d x0 s4) fun v7 s6 => (some (1, s6))))) else ((gI s1 x0 14 6).bind fun v8 => (if v8 = 4 then ((gR s1 x0 14 22).bind fun v9 => ((gR s1 v9 12 1).bind fun v10 => ((gR s1 x0 14 22).bind fun v11 => ((gI s1 v11 12 3).bind fun v12 => (bnd (x_Vals_set d v10 v12 2 0 0 0 s1) fun v14 s13 => ((gI s13 x0 14 7).bind fun v15 => (loopK (fun (again66 : Int32 × HS → Option (Int32 × HS)) (z66 : Int32 × HS) => ((gI z66.2 x0 14 8).bind fun v16 => (if (v16 - 1) ≤ z66.1 then ((gR z66.2 x0 14 22).bind fun v17 => ((gI z66.2 v17 12 3).bind fun v18 => (bnd (x_Mod_put_II d x0 0 v18 z66.2) fun v20 s19 => ((gR s19 x0 14 22).bind fun v21 => ((gI s19 v21 12 3).bind fun v22 => ((pV s19 v21 12 3 (.int (v22 + 1))).bind fun s23 => (bnd (x_Mod_step d x0 s23) fun v25 s24 => (some (1, s24))))))))) else ((gR z66.2 x0 14 22).bind fun v26 => ((gR z66.2 v26 12 1).bind fun v27 => ((gR z66.2 x0 14 22).bind fun v28 => ((gI z66.2 v28 12 3).bind fun v29 => ((gR z66.2 x0 14 0).bind fun v30 => ((aB z66.2 v30 z66.1).bind fun v31 => (bnd (x_Vals_add d v27 v29 v31 z66.2) fun v33 s32 => (again66 ((z66.1 + 1), s32)))))))))))) FU ((v15 + 1), s13)))))))) else (bnd (x_Mod_is d x0 32 s1) fun v35 s34 => (if v35 = 0 then ((gI s34 x0 14 6).bind fun v36 => (if v36 = 1 then (bnd ((c 13 x0 x1 0 0 s34)) fun v38 s37 => (okB v38 (some (v38, s37)))) else (bnd (x_Mod_is d x0 34 s34) fun v40 s39 => (if v40 = 0 then (bnd (x_Mod_is d x0 36 s39) fun v42 s41 => (if v42 = 0 then (bnd (x_Mod_is d x0 38 s41) fun v44 s43 => (if v44 = 0 then (bnd (x_Mod_is d x0 14 s43) fun v46 s45 => (if v46 = 0 then (bnd (x_Mod_is d x0 20 s45) fun v48 s47 => (if v48 = 0 then (bnd (x_Mod_is d x0 40 s47) fun v50 s49 => (if v50 = 0 then (bnd (x_Mod_bad d x0 s49) fun v52 s51 => (okB v52 (some (v52, s51)))) else (x_Mod_simple_b243 c d x0 x1 s49))) else (x_Mod_simple_b243 c d x0 x1 s47))) else (x_Mod_simple_b243 c d x0 x1 s45))) else (bnd ((c 14 x0 x1 0 0 s43)) fun v71 s70 => (okB v71 (some (v71, s70)))))) else (bnd ((c 14 x0 x1 0 0 s41)) fun v73 s72 => (okB v73 (some (v73, s72)))))) else (bnd ((c 14 x0 x1 0 0 s39)) fun v75 s74 => (okB v75 (some (v75, s74)))))))) else (bnd (x_Mod_value_IIJJ d x0 0 0 0 0 s34) fun v77 s76 => (bnd (x_Mod_step d x0 s76) fun v79 s78 => (some (1, s78)))))))))))

set_option maxRecDepth 100000 in
set_option maxHeartbeats 4000000 in
theorem dx_Mod_simple_b (O : am_ok K X) (T : am_T K) {c : CLT} {d : Nat} (H : HC_M K X c d) {x0 : Nat} {x1 : Int32} {s : HS} : xM cvI K X m_Mod_simple (d + 1) [.ref x0, .int x1] s (x_Mod_simple_b c d x0 x1 s) := by
  unfold x_Mod_simple_b
  refine xM_enter (by decide +kernel) (Nat.le_of_ble_eq_true rfl) ?_
  refine xW_gd (fun _ => ?_)
  refine xW_pure (fun _ _ _ _ _ => am_aload_n d_Mod_simple_0 rfl rfl) ?_
  refine xW_pure (fun _ _ _ _ _ => am_iconst (v := 0) d_Mod_simple_1 (by decide)) ?_
  refine xW_put O f_Mod_249 d_Mod_simple_2 (fun q hq => by cases hq; exact ⟨rfl, rfl, rfl⟩) (fun s1 _ => ?_)
  refine xW_pure (fun _ _ _ _ _ => am_aload_n d_Mod_simple_5 rfl rfl) ?_
  refine xW_gI O f_Mod_32 d_Mod_simple_6 (fun v2 _ => ?_)
  refine xW_pure (fun _ _ _ _ _ => am_iconst (v := 3) d_Mod_simple_9 (by decide)) ?_
  refine xW_ite (fun _ _ _ _ _ k1 k2 => am_icmp_ne (tgt := 30) d_Mod_simple_10 (by decide) k2 k1) (fun _ => ?_) (fun _ => ?_)
  · refine xW_pure (fun _ _ _ _ _ => am_aload_n d_Mod_simple_13 rfl rfl) ?_
    refine xW_pure (fun _ _ _ _ _ => am_iconst (v := 1) d_Mod_simple_14 (by decide)) ?_
    refine xW_pure (fun _ _ _ _ _ => am_iconst (v := 0) d_Mod_simple_15 (by decide)) ?_
    refine xW_pure (fun _ _ _ _ _ => am_aload_n d_Mod_simple_16 rfl rfl) ?_
    refine xW_gL O f_Mod_46 d_Mod_simple_17 (fun v3 _ => ?_)
    refine xW_pure (fun _ _ _ _ _ => am_lconst (v := 0) d_Mod_simple_20 (by decide)) ?_
    refine xW_callV O (dx_Mod_value_IIJJ O T) (fun _ e => ob_Mod_value_IIJJ e) rfl rfl rfl l_Mod_234 ⟨w_1911, w_103⟩ rfl (Nat.le_of_ble_eq_true rfl) d_Mod_simple_21 (fun v5 s4 _ => ?_)
    refine xW_pure (fun _ _ _ _ _ => am_aload_n d_Mod_simple_24 rfl rfl) ?_
    refine xW_callV O (dx_Mod_step O T) (fun _ e => ob_Mod_step e) rfl rfl rfl l_Mod_87 ⟨w_1808, w_84⟩ rfl (Nat.le_of_ble_eq_true rfl) d_Mod_simple_25 (fun v7 s6 _ => ?_)
    refine xW_pure (fun _ _ _ _ _ => am_iconst (v := 1) d_Mod_simple_28 (by decide)) ?_
    exact xW_ret (fun _ _ _ _ _ => am_zret (ty := .boolean) rfl rfl d_Mod_simple_29)
  · refine xW_pure (fun _ _ _ _ _ => am_aload_n d_Mod_simple_30 rfl rfl) ?_
    refine xW_gI O f_Mod_32 d_Mod_simple_31 (fun v8 _ => ?_)
    refine xW_pure (fun _ _ _ _ _ => am_iconst (v := 4) d_Mod_simple_34 (by decide)) ?_
    refine xW_ite (fun _ _ _ _ _ k1 k2 => am_icmp_ne (tgt := 136) d_Mod_simple_35 (by decide) k2 k1) (fun _ => ?_) (fun _ => ?_)
    · refine xW_pure (fun _ _ _ _ _ => am_aload_n d_Mod_simple_38 rfl rfl) ?_
      refine xW_gR O f_Mod_91 d_Mod_simple_39 (fun v9 _ => ?_)
      refine xW_gR O f_Mod_107 d_Mod_simple_42 (fun v10 _ => ?_)
      refine xW_pure (fun _ _ _ _ _ => am_aload_n d_Mod_simple_45 rfl rfl) ?_
      refine xW_gR O f_Mod_91 d_Mod_simple_46 (fun v11 _ => ?_)
      refine xW_gI O f_Mod_111 d_Mod_simple_49 (fun v12 _ => ?_)
      refine xW_pure (fun _ _ _ _ _ => am_iconst (v := 2) d_Mod_simple_52 (by decide)) ?_
      refine xW_pure (fun _ _ _ _ _ => am_iconst (v := 0) d_Mod_simple_53 (by decide)) ?_
      refine xW_pure (fun _ _ _ _ _ => am_lconst (v := 0) d_Mod_simple_54 (by decide)) ?_
      refine xW_pure (fun _ _ _ _ _ => am_lconst (v := 0) d_Mod_simple_55 (by decide)) ?_
      refine xW_callV O (dx_Vals_set O T) (fun _ e => ob_Vals_set e) rfl rfl rfl l_Mod_114 ⟨w_1914, w_1915⟩ rfl (Nat.le_of_ble_eq_true rfl) d_Mod_simple_56 (fun v14 s13 _ => ?_)
      refine xW_pure (fun _ _ _ _ _ => am_aload_n d_Mod_simple_59 rfl rfl) ?_
      refine xW_gI O f_Mod_9 d_Mod_simple_60 (fun v15 _ => ?_)
      refine xW_pure (fun _ _ _ _ _ => am_iconst (v := 1) d_Mod_simple_63 (by decide)) ?_
      refine xW_pure (fun _ _ _ _ _ => am_iadd d_Mod_simple_64) ?_
      refine xW_pure (fun _ _ _ _ _ => am_istore_n d_Mod_simple_65 rfl (Nat.le_of_ble_eq_true rfl)) ?_
      refine xW_locs (lv' := [(0, .ref x0), (2, .int (v15 + 1))]) rfl ?_
      refine xW_loop (lvf := fun (z66 : Int32 × HS) => [(0, .ref x0), (2, .int z66.1)]) (hsf := fun (z66 : Int32 × HS) => z66.2) (fun again66 ih66 z66 => ?_) FU ((v15 + 1), s13)
      refine xW_pure (fun _ _ _ _ _ => am_iload_n d_Mod_simple_66 rfl rfl) ?_
      refine xW_pure (fun _ _ _ _ _ => am_aload_n d_Mod_simple_67 rfl rfl) ?_
      refine xW_gI O f_Mod_74 d_Mod_simple_68 (fun v16 _ => ?_)
      refine xW_pure (fun _ _ _ _ _ => am_iconst (v := 1) d_Mod_simple_71 (by decide)) ?_
      refine xW_pure (fun _ _ _ _ _ => am_isub d_Mod_simple_72) ?_
      refine xW_ite (fun _ _ _ _ _ => am_icmp_ge (tgt := 105) d_Mod_simple_73 (by decide)) (fun _ => ?_) (fun _ => ?_)
      · refine xW_pure (fun _ _ _ _ _ => am_aload_n d_Mod_simple_105 rfl rfl) ?_
        refine xW_pure (fun _ _ _ _ _ => am_iconst (v := 0) d_Mod_simple_106 (by decide)) ?_
        refine xW_pure (fun _ _ _ _ _ => am_aload_n d_Mod_simple_107 rfl rfl) ?_
        refine xW_gR O f_Mod_91 d_Mod_simple_108 (fun v17 _ => ?_)
        refine xW_gI O f_Mod_111 d_Mod_simple_111 (fun v18 _ => ?_)
        refine xW_callV O (dx_Mod_put_II O T) (fun _ e => ob_Mod_put_II e) rfl rfl rfl l_Mod_120 ⟨w_1919, w_104⟩ rfl (Nat.le_of_ble_eq_true rfl) d_Mod_simple_114 (fun v20 s19 _ => ?_)
        refine xW_pure (fun _ _ _ _ _ => am_aload_n d_Mod_simple_117 rfl rfl) ?_
        refine xW_gR O f_Mod_91 d_Mod_simple_118 (fun v21 _ => ?_)
        refine xW_pure (fun _ _ _ _ _ => am_dup d_Mod_simple_121 rfl) ?_
        refine xW_gI O f_Mod_111 d_Mod_simple_122 (fun v22 _ => ?_)
        refine xW_pure (fun _ _ _ _ _ => am_iconst (v := 1) d_Mod_simple_125 (by decide)) ?_
        refine xW_pure (fun _ _ _ _ _ => am_iadd d_Mod_simple_126) ?_
        refine xW_put O f_Mod_111 d_Mod_simple_127 (fun q hq => by cases hq; exact ⟨rfl, rfl, rfl⟩) (fun s23 _ => ?_)
        refine xW_pure (fun _ _ _ _ _ => am_aload_n d_Mod_simple_130 rfl rfl) ?_
        refine xW_callV O (dx_Mod_step O T) (fun _ e => ob_Mod_step e) rfl rfl rfl l_Mod_87 ⟨w_1808, w_84⟩ rfl (Nat.le_of_ble_eq_true rfl) d_Mod_simple_131 (fun v25 s24 _ => ?_)
        refine xW_pure (fun _ _ _ _ _ => am_iconst (v := 1) d_Mod_simple_134 (by decide)) ?_
        exact xW_ret (fun _ _ _ _ _ => am_zret (ty := .boolean) rfl rfl d_Mod_simple_135)
      · refine xW_pure (fun _ _ _ _ _ => am_aload_n d_Mod_simple_76 rfl rfl) ?_
        refine xW_gR O f_Mod_91 d_Mod_simple_77 (fun v26 _ => ?_)
        refine xW_gR O f_Mod_107 d_Mod_simple_80 (fun v27 _ => ?_)
        refine xW_pure (fun _ _ _ _ _ => am_aload_n d_Mod_simple_83 rfl rfl) ?_
        refine xW_gR O f_Mod_91 d_Mod_simple_84 (fun v28 _ => ?_)
        refine xW_gI O f_Mod_111 d_Mod_simple_87 (fun v29 _ => ?_)
        refine xW_pure (fun _ _ _ _ _ => am_aload_n d_Mod_simple_90 rfl rfl) ?_
        refine xW_gR O f_Mod_22 d_Mod_simple_91 (fun v30 _ => ?_)
        refine xW_pure (fun _ _ _ _ _ => am_iload_n d_Mod_simple_94 rfl rfl) ?_
        refine xW_aB O d_Mod_simple_95 (fun v31 _ => ?_)
        refine xW_callV O (dx_Vals_add O T) (fun _ e => ob_Vals_add e) rfl rfl rfl l_Mod_308 ⟨w_1922, w_1923⟩ rfl (Nat.le_of_ble_eq_true rfl) d_Mod_simple_96 (fun v33 s32 _ => ?_)
        refine xW_pure (fun _ _ _ _ _ => am_iinc (v := 1) d_Mod_simple_99 rfl (by decide) (Nat.le_of_ble_eq_true rfl)) ?_
        refine xW_pure (fun _ _ _ _ _ => am_goto (tgt := 66) d_Mod_simple_102 (by decide)) ?_
        refine xW_locs (lv' := [(0, .ref x0), (2, .int (z66.1 + 1))]) rfl ?_
        exact ih66 ((z66.1 + 1), s32)
    · refine xW_pure (fun _ _ _ _ _ => am_aload_n d_Mod_simple_136 rfl rfl) ?_
      refine xW_pure (fun _ _ _ _ _ => am_ldcSw (T.2.2 13 ("StowTongueModel", 311, "nil") rfl) d_Mod_simple_137) ?_
      refine xW_callV O (dx_Mod_is O T) (fun _ e => ob_Mod_is e) rfl rfl rfl l_Mod_80 ⟨w_1833, w_86⟩ rfl (Nat.le_of_ble_eq_true rfl) d_Mod_simple_140 (fun v35 s34 _ => ?_)
      refine xW_ite (fun _ _ _ _ _ => am_if_eq (tgt := 160) d_Mod_simple_143 (by decide)) (fun _ => ?_) (fun _ => ?_)
      · refine xW_pure (fun _ _ _ _ _ => am_aload_n d_Mod_simple_160 rfl rfl) ?_
        refine xW_gI O f_Mod_32 d_Mod_simple_161 (fun v36 _ => ?_)
        refine xW_pure (fun _ _ _ _ _ => am_iconst (v := 1) d_Mod_simple_164 (by decide)) ?_
        refine xW_ite (fun _ _ _ _ _ k1 k2 => am_icmp_ne (tgt := 174) d_Mod_simple_165 (by decide) k2 k1) (fun _ => ?_) (fun _ => ?_)
        · refine xW_pure (fun _ _ _ _ _ => am_aload_n d_Mod_simple_168 rfl rfl) ?_
          refine xW_pure (fun _ _ _ _ _ => am_iload_n d_Mod_simple_169 rfl rfl) ?_
          refine xW_callV O (H.2.2.2.2.2.2.2.2.2.2.2.2.2.1 _ _ _ _ _).1 (H.2.2.2.2.2.2.2.2.2.2.2.2.2.1 _ _ _ _ _).2 rfl rfl rfl l_Mod_313 ⟨w_1928, w_105⟩ rfl (Nat.le_of_ble_eq_true rfl) d_Mod_simple_170 (fun v38 s37 _ => ?_)
          refine xW_okB (fun hz => ?_)
          exact xW_ret (fun _ _ _ _ _ => am_zret (ty := .boolean) rfl (bz_nar hz) d_Mod_simple_173)
        · refine xW_pure (fun _ _ _ _ _ => am_aload_n d_Mod_simple_174 rfl rfl) ?_
          refine xW_pure (fun _ _ _ _ _ => am_ldcSw (T.2.2 14 ("StowTongueModel", 316, "size") rfl) d_Mod_simple_175) ?_
          refine xW_callV O (dx_Mod_is O T) (fun _ e => ob_Mod_is e) rfl rfl rfl l_Mod_80 ⟨w_1833, w_86⟩ rfl (Nat.le_of_ble_eq_true rfl) d_Mod_simple_178 (fun v40 s39 _ => ?_)
          refine xW_ite (fun _ _ _ _ _ k1 k2 => am_if_ne (tgt := 204) d_Mod_simple_181 (by decide) k2 k1) (fun _ => ?_) (fun _ => ?_)
          · refine xW_pure (fun _ _ _ _ _ => am_aload_n d_Mod_simple_184 rfl rfl) ?_
            refine xW_pure (fun _ _ _ _ _ => am_ldcSw (T.2.2 15 ("StowTongueModel", 317, "push") rfl) d_Mod_simple_185) ?_
            refine xW_callV O (dx_Mod_is O T) (fun _ e => ob_Mod_is e) rfl rfl rfl l_Mod_80 ⟨w_1833, w_86⟩ rfl (Nat.le_of_ble_eq_true rfl) d_Mod_simple_188 (fun v42 s41 _ => ?_)
            refine xW_ite (fun _ _ _ _ _ k1 k2 => am_if_ne (tgt := 204) d_Mod_simple_191 (by decide) k2 k1) (fun _ => ?_) (fun _ => ?_)
            · refine xW_pure (fun _ _ _ _ _ => am_aload_n d_Mod_simple_194 rfl rfl) ?_
              refine xW_pure (fun _ _ _ _ _ => am_ldcSw (T.2.2 16 ("StowTongueModel", 319, "pop") rfl) d_Mod_simple_195) ?_
              refine xW_callV O (dx_Mod_is O T) (fun _ e => ob_Mod_is e) rfl rfl rfl l_Mod_80 ⟨w_1833, w_86⟩ rfl (Nat.le_of_ble_eq_true rfl) d_Mod_simple_198 (fun v44 s43 _ => ?_)
              refine xW_ite (fun _ _ _ _ _ => am_if_eq (tgt := 210) d_Mod_simple_201 (by decide)) (fun _ => ?_) (fun _ => ?_)
              · refine xW_pure (fun _ _ _ _ _ => am_aload_n d_Mod_simple_210 rfl rfl) ?_
                refine xW_pure (fun _ _ _ _ _ => am_ldcS (T.2.2 4 ("StowTongueModel", 177, "(") rfl) d_Mod_simple_211) ?_
                refine xW_callV O (dx_Mod_is O T) (fun _ e => ob_Mod_is e) rfl rfl rfl l_Mod_80 ⟨w_1833, w_86⟩ rfl (Nat.le_of_ble_eq_true rfl) d_Mod_simple_213 (fun v46 s45 _ => ?_)
                refine xW_ite (fun _ _ _ _ _ k1 k2 => am_if_ne (tgt := 243) d_Mod_simple_216 (by decide) k2 k1) (fun _ => ?_) (fun _ => ?_)
                · refine xW_pure (fun _ _ _ _ _ => am_aload_n d_Mod_simple_219 rfl rfl) ?_
                  refine xW_pure (fun _ _ _ _ _ => am_ldcS (T.2.2 7 ("StowTongueModel", 210, "{") rfl) d_Mod_simple_220) ?_
                  refine xW_callV O (dx_Mod_is O T) (fun _ e => ob_Mod_is e) rfl rfl rfl l_Mod_80 ⟨w_1833, w_86⟩ rfl (Nat.le_of_ble_eq_true rfl) d_Mod_simple_222 (fun v48 s47 _ => ?_)
                  refine xW_ite (fun _ _ _ _ _ k1 k2 => am_if_ne (tgt := 243) d_Mod_simple_225 (by decide) k2 k1) (fun _ => ?_) (fun _ => ?_)
                  · refine xW_pure (fun _ _ _ _ _ => am_aload_n d_Mod_simple_228 rfl rfl) ?_
                    refine xW_pure (fun _ _ _ _ _ => am_ldcSw (T.2.2 17 ("StowTongueModel", 301, "[") rfl) d_Mod_simple_229) ?_
                    refine xW_callV O (dx_Mod_is O T) (fun _ e => ob_Mod_is e) rfl rfl rfl l_Mod_80 ⟨w_1833, w_86⟩ rfl (Nat.le_of_ble_eq_true rfl) d_Mod_simple_232 (fun v50 s49 _ => ?_)
                    refine xW_ite (fun _ _ _ _ _ k1 k2 => am_if_ne (tgt := 243) d_Mod_simple_235 (by decide) k2 k1) (fun _ => ?_) (fun _ => ?_)
                    · refine xW_pure (fun _ _ _ _ _ => am_aload_n d_Mod_simple_238 rfl rfl) ?_
                      refine xW_callV O (dx_Mod_bad O T) (fun _ e => ob_Mod_bad e) rfl rfl rfl l_Mod_84 ⟨w_1841, w_88⟩ rfl (Nat.le_of_ble_eq_true rfl) d_Mod_simple_239 (fun v52 s51 _ => ?_)
                      refine xW_okB (fun hz => ?_)
                      exact xW_ret (fun _ _ _ _ _ => am_zret (ty := .boolean) rfl (bz_nar hz) d_Mod_simple_242)
                    · refine xW_locs (lv' := [(0, .ref x0), (1, .int x1)]) rfl ?_
                      exact dx_Mod_simple_b243 O T H
                  · refine xW_locs (lv' := [(0, .ref x0), (1, .int x1)]) rfl ?_
                    exact dx_Mod_simple_b243 O T H
                · refine xW_locs (lv' := [(0, .ref x0), (1, .int x1)]) rfl ?_
                  exact dx_Mod_simple_b243 O T H
              · refine xW_pure (fun _ _ _ _ _ => am_aload_n d_Mod_simple_204 rfl rfl) ?_
                refine xW_pure (fun _ _ _ _ _ => am_iload_n d_Mod_simple_205 rfl rfl) ?_
                refine xW_callV O (H.2.2.2.2.2.2.2.2.2.2.2.2.2.2.1 _ _ _ _ _).1 (H.2.2.2.2.2.2.2.2.2.2.2.2.2.2.1 _ _ _ _ _).2 rfl rfl rfl l_Mod_321 ⟨w_1939, w_107⟩ rfl (Nat.le_of_ble_eq_true rfl) d_Mod_simple_206 (fun v71 s70 _ => ?_)
                refine xW_okB (fun hz => ?_)
                exact xW_ret (fun _ _ _ _ _ => am_zret (ty := .boolean) rfl (bz_nar hz) d_Mod_simple_209)
            · refine xW_pure (fun _ _ _ _ _ => am_aload_n d_Mod_simple_204 rfl rfl) ?_
              refine xW_pure (fun _ _ _ _ _ => am_iload_n d_Mod_simple_205 rfl rfl) ?_
              refine xW_callV O (H.2.2.2.2.2.2.2.2.2.2.2.2.2.2.1 _ _ _ _ _).1 (H.2.2.2.2.2.2.2.2.2.2.2.2.2.2.1 _ _ _ _ _).2 rfl rfl rfl l_Mod_321 ⟨w_1939, w_107⟩ rfl (Nat.le_of_ble_eq_true rfl) d_Mod_simple_206 (fun v73 s72 _ => ?_)
              refine xW_okB (fun hz => ?_)
              exact xW_ret (fun _ _ _ _ _ => am_zret (ty := .boolean) rfl (bz_nar hz) d_Mod_simple_209)
          · refine xW_pure (fun _ _ _ _ _ => am_aload_n d_Mod_simple_204 rfl rfl) ?_
            refine xW_pure (fun _ _ _ _ _ => am_iload_n d_Mod_simple_205 rfl rfl) ?_
            refine xW_callV O (H.2.2.2.2.2.2.2.2.2.2.2.2.2.2.1 _ _ _ _ _).1 (H.2.2.2.2.2.2.2.2.2.2.2.2.2.2.1 _ _ _ _ _).2 rfl rfl rfl l_Mod_321 ⟨w_1939, w_107⟩ rfl (Nat.le_of_ble_eq_true rfl) d_Mod_simple_206 (fun v75 s74 _ => ?_)
            refine xW_okB (fun hz => ?_)
            exact xW_ret (fun _ _ _ _ _ => am_zret (ty := .boolean) rfl (bz_nar hz) d_Mod_simple_209)
      · refine xW_pure (fun _ _ _ _ _ => am_aload_n d_Mod_simple_146 rfl rfl) ?_
        refine xW_pure (fun _ _ _ _ _ => am_iconst (v := 0) d_Mod_simple_147 (by decide)) ?_
        refine xW_pure (fun _ _ _ _ _ => am_iconst (v := 0) d_Mod_simple_148 (by decide)) ?_
        refine xW_pure (fun _ _ _ _ _ => am_lconst (v := 0) d_Mod_simple_149 (by decide)) ?_
        refine xW_pure (fun _ _ _ _ _ => am_lconst (v := 0) d_Mod_simple_150 (by decide)) ?_
        refine xW_callV O (dx_Mod_value_IIJJ O T) (fun _ e => ob_Mod_value_IIJJ e) rfl rfl rfl l_Mod_234 ⟨w_1911, w_103⟩ rfl (Nat.le_of_ble_eq_true rfl) d_Mod_simple_151 (fun v77 s76 _ => ?_)
        refine xW_pure (fun _ _ _ _ _ => am_aload_n d_Mod_simple_154 rfl rfl) ?_
        refine xW_callV O (dx_Mod_step O T) (fun _ e => ob_Mod_step e) rfl rfl rfl l_Mod_87 ⟨w_1808, w_84⟩ rfl (Nat.le_of_ble_eq_true rfl) d_Mod_simple_155 (fun v79 s78 _ => ?_)
        refine xW_pure (fun _ _ _ _ _ => am_iconst (v := 1) d_Mod_simple_158 (by decide)) ?_
        exact xW_ret (fun _ _ _ _ _ => am_zret (ty := .boolean) rfl rfl d_Mod_simple_159)

set_option maxRecDepth 100000 in
def x_Mod_named_b40 (c : CLT) (d : Nat) (l0 : Nat) (l4 : Int32) (t0 : Int32) (s : HS) : Option (Int32 × HS) := (gR s l0 14 22).bind fun v9 => ((gI s v9 12 2).bind fun v10 => ((pV s l0 14 27 (.int v10)).bind fun s11 => (if 0 ≤ l4 then (bnd (x_Mod_put_II d l0 1 t0 s11) fun v13 s12 => ((pV s12 l0 14 25 (.int 1)).bind fun s14 => (some (1, s14)))) else (bnd (x_Mod_put_II d l0 3 t0 s11) fun v16 s15 => ((pV s15 l0 14 25 (.int 1)).bind fun s17 => (some (1, s17)))))))

set_option maxRecDepth 100000 in
set_option maxHeartbeats 4000000 in
theorem dx_Mod_named_b40 (O : am_ok K X) (T : am_T K) {c : CLT} {d : Nat} (H : HC_M K X c d) {l0 : Nat} {l4 : Int32} {t0 : Int32} {s : HS} : xW cvI K X m_Mod_named (d + 1) 40 [(0, .ref l0), (4, .int l4)] [.int t0] s (x_Mod_named_b40 c d l0 l4 t0 s) := by
  unfold x_Mod_named_b40
  refine xW_pure (fun _ _ _ _ _ => am_istore d_Mod_named_40 (Nat.le_of_ble_eq_true rfl)) ?_
  refine xW_pure (fun _ _ _ _ _ => am_aload_n d_Mod_named_42 rfl rfl) ?_
  refine xW_pure (fun _ _ _ _ _ => am_aload_n d_Mod_named_43 rfl rfl) ?_
  refine xW_gR O f_Mod_91 d_Mod_named_44 (fun v9 _ => ?_)
  refine xW_gI O f_Mod_100 d_Mod_named_47 (fun v10 _ => ?_)
  refine xW_put O f_Mod_253 d_Mod_named_50 (fun q hq => by cases hq; exact ⟨rfl, rfl, rfl⟩) (fun s11 _ => ?_)
  refine xW_pure (fun _ _ _ _ _ => am_aload_n d_Mod_named_53 rfl rfl) ?_
  refine xW_pure (fun _ _ _ _ _ => am_iload d_Mod_named_54 rfl) ?_
  refine xW_ite (fun _ _ _ _ _ => am_if_ge (tgt := 63) d_Mod_named_56 (by decide)) (fun _ => ?_) (fun _ => ?_)
  · refine xW_pure (fun _ _ _ _ _ => am_iconst (v := 1) d_Mod_named_63 (by decide)) ?_
    refine xW_pure (fun _ _ _ _ _ => am_iload d_Mod_named_64 rfl) ?_
    refine xW_callV O (dx_Mod_put_II O T) (fun _ e => ob_Mod_put_II e) rfl rfl rfl l_Mod_120 ⟨w_1919, w_104⟩ rfl (Nat.le_of_ble_eq_true rfl) d_Mod_named_66 (fun v13 s12 _ => ?_)
    refine xW_pure (fun _ _ _ _ _ => am_aload_n d_Mod_named_69 rfl rfl) ?_
    refine xW_pure (fun _ _ _ _ _ => am_iconst (v := 1) d_Mod_named_70 (by decide)) ?_
    refine xW_put O f_Mod_249 d_Mod_named_71 (fun q hq => by cases hq; exact ⟨rfl, rfl, rfl⟩) (fun s14 _ => ?_)
    refine xW_pure (fun _ _ _ _ _ => am_iconst (v := 1) d_Mod_named_74 (by decide)) ?_
    exact xW_ret (fun _ _ _ _ _ => am_zret (ty := .boolean) rfl rfl d_Mod_named_75)
  · refine xW_pure (fun _ _ _ _ _ => am_iconst (v := 3) d_Mod_named_59 (by decide)) ?_
    refine xW_pure (fun _ _ _ _ _ => am_goto (tgt := 64) d_Mod_named_60 (by decide)) ?_
    refine xW_pure (fun _ _ _ _ _ => am_iload d_Mod_named_64 rfl) ?_
    refine xW_callV O (dx_Mod_put_II O T) (fun _ e => ob_Mod_put_II e) rfl rfl rfl l_Mod_120 ⟨w_1919, w_104⟩ rfl (Nat.le_of_ble_eq_true rfl) d_Mod_named_66 (fun v16 s15 _ => ?_)
    refine xW_pure (fun _ _ _ _ _ => am_aload_n d_Mod_named_69 rfl rfl) ?_
    refine xW_pure (fun _ _ _ _ _ => am_iconst (v := 1) d_Mod_named_70 (by decide)) ?_
    refine xW_put O f_Mod_249 d_Mod_named_71 (fun q hq => by cases hq; exact ⟨rfl, rfl, rfl⟩) (fun s17 _ => ?_)
    refine xW_pure (fun _ _ _ _ _ => am_iconst (v := 1) d_Mod_named_74 (by decide)) ?_
    exact xW_ret (fun _ _ _ _ _ => am_zret (ty := .boolean) rfl rfl d_Mod_named_75)

set_option maxRecDepth 100000 in
def x_Mod_named_b147 (c : CLT) (d : Nat) (l0 : Nat) (l2 : Int64) (l4 : Int32) (s : HS) : Option (Int32 × HS) := bnd (x_Mod_take d l0 16 s) fun v33 s32 => (if v33 = 0 then (some (0, s32)) else (bnd (x_Mod_nameValue d l0 l2 s32) fun v35 s34 => (bnd (x_Mod_put_II d l0 22 v35 s34) fun v37 s36 => (bnd (x_Mod_put_I d l0 l4 s36) fun v39 s38 => ((pV s38 l0 14 25 (.int 0)).bind fun s40 => (some (1, s40)))))))

set_option maxRecDepth 100000 in
set_option maxHeartbeats 4000000 in
theorem dx_Mod_named_b147 (O : am_ok K X) (T : am_T K) {c : CLT} {d : Nat} (H : HC_M K X c d) {l0 : Nat} {l2 : Int64} {l4 : Int32} {s : HS} : xW cvI K X m_Mod_named (d + 1) 147 [(0, .ref l0), (2, .long l2), (4, .int l4)] [] s (x_Mod_named_b147 c d l0 l2 l4 s) := by
  unfold x_Mod_named_b147
  refine xW_pure (fun _ _ _ _ _ => am_aload_n d_Mod_named_147 rfl rfl) ?_
  refine xW_pure (fun _ _ _ _ _ => am_ldcS (T.2.2 5 ("StowTongueModel", 182, ")") rfl) d_Mod_named_148) ?_
  refine xW_callV O (dx_Mod_take O T) (fun _ e => ob_Mod_take e) rfl rfl rfl l_Mod_179 ⟨w_1851, w_90⟩ rfl (Nat.le_of_ble_eq_true rfl) d_Mod_named_150 (fun v33 s32 _ => ?_)
  refine xW_ite (fun _ _ _ _ _ k1 k2 => am_if_ne (tgt := 158) d_Mod_named_153 (by decide) k2 k1) (fun _ => ?_) (fun _ => ?_)
  · refine xW_pure (fun _ _ _ _ _ => am_iconst (v := 0) d_Mod_named_156 (by decide)) ?_
    exact xW_ret (fun _ _ _ _ _ => am_zret (ty := .boolean) rfl rfl d_Mod_named_157)
  · refine xW_pure (fun _ _ _ _ _ => am_aload_n d_Mod_named_158 rfl rfl) ?_
    refine xW_pure (fun _ _ _ _ _ => am_bipush (v := 22) d_Mod_named_159 (by decide)) ?_
    refine xW_pure (fun _ _ _ _ _ => am_aload_n d_Mod_named_161 rfl rfl) ?_
    refine xW_pure (fun _ _ _ _ _ => am_lload_n d_Mod_named_162 rfl rfl) ?_
    refine xW_callV O (dx_Mod_nameValue O T) (fun _ e => ob_Mod_nameValue e) rfl rfl rfl l_Mod_303 ⟨w_1932, w_106⟩ rfl (Nat.le_of_ble_eq_true rfl) d_Mod_named_163 (fun v35 s34 _ => ?_)
    refine xW_callV O (dx_Mod_put_II O T) (fun _ e => ob_Mod_put_II e) rfl rfl rfl l_Mod_120 ⟨w_1919, w_104⟩ rfl (Nat.le_of_ble_eq_true rfl) d_Mod_named_166 (fun v37 s36 _ => ?_)
    refine xW_pure (fun _ _ _ _ _ => am_aload_n d_Mod_named_169 rfl rfl) ?_
    refine xW_pure (fun _ _ _ _ _ => am_iload d_Mod_named_170 rfl) ?_
    refine xW_callV O (dx_Mod_put_I O T) (fun _ e => ob_Mod_put_I e) rfl rfl rfl l_Mod_103 ⟨w_1875, w_95⟩ rfl (Nat.le_of_ble_eq_true rfl) d_Mod_named_172 (fun v39 s38 _ => ?_)
    refine xW_pure (fun _ _ _ _ _ => am_pop d_Mod_named_175 rfl) ?_
    refine xW_pure (fun _ _ _ _ _ => am_aload_n d_Mod_named_176 rfl rfl) ?_
    refine xW_pure (fun _ _ _ _ _ => am_iconst (v := 0) d_Mod_named_177 (by decide)) ?_
    refine xW_put O f_Mod_249 d_Mod_named_178 (fun q hq => by cases hq; exact ⟨rfl, rfl, rfl⟩) (fun s40 _ => ?_)
    refine xW_pure (fun _ _ _ _ _ => am_iconst (v := 1) d_Mod_named_181 (by decide)) ?_
    exact xW_ret (fun _ _ _ _ _ => am_zret (ty := .boolean) rfl rfl d_Mod_named_182)

set_option maxRecDepth 100000 in
def x_Mod_named_b (c : CLT) (d : Nat) (x0 : Nat) (x1 : Int32) (s : HS) : Option (Int32 × HS) := gd s x0 14 (bnd (x_Mod_name d x0 s) fun v2 s1 => (bnd (x_Mod_step d x0 s1) fun v4 s3 => (bnd (x_Mod_is d x0 14 s3) fun v6 s5 => (if v6 = 0 then (bnd (x_Mod_localOf d x0 v2 s5) fun v8 s7 => (if 0 ≤ v8 then (x_Mod_named_b40 c d x0 v8 v8 s7) else (bnd (x_Mod_nameValue d x0 v2 s7) fun v19 s18 => (x_Mod_named_b40 c d x0 v8 v19 s18)))) else (if x1 = 16 then (bnd (x_Mod_bad d x0 s5) fun v21 s20 => (okB v21 (some (v21, s20)))) else (bnd (x_Mod_step d x0 s5) fun v23 s22 => (loopK (fun (again94 : Int32 × HS → Option (Int32 × HS)) (z94 : Int32 × HS) => (if z94.1 = 0 then (bnd (x_Mod_is d x0 16 z94.2) fun v25 s24 => (if v25 = 0 then (if z94.1 ≤ 0 then (bnd ((c 6 x0 (x1 + 1) 0 0 s24)) fun v27 s26 => (if v27 = 0 then (some (0, s26)) else (again94 ((z94.1 + 1), s26)))) else (bnd (x_Mod_step d x0 s24) fun v29 s28 => (bnd ((c 6 x0 (x1 + 1) 0 0 s28)) fun v31 s30 => (if v31 = 0 then (some (0, s30)) else (again94 ((z94.1 + 1), s30)))))) else (x_Mod_named_b147 c d x0 v2 z94.1 s24))) else (bnd (x_Mod_is d x0 18 z94.2) fun v42 s41 => (if v42 = 0 then (x_Mod_named_b147 c d x0 v2 z94.1 s41) else (if z94.1 ≤ 0 then (bnd ((c 6 x0 (x1 + 1) 0 0 s41)) fun v44 s43 => (if v44 = 0 then (some (0, s43)) else (again94 ((z94.1 + 1), s43)))) else (bnd (x_Mod_step d x0 s41) fun v46 s45 => (bnd ((c 6 x0 (x1 + 1) 0 0 s45)) fun v48 s47 => (if v48 = 0 then (some (0, s47)) else (again94 ((z94.1 + 1), s47)))))))))) FU (0, s22))))))))

set_option maxRecDepth 100000 in
set_option maxHeartbeats 4000000 in
theorem dx_Mod_named_b (O : am_ok K X) (T : am_T K) {c : CLT} {d : Nat} (H : HC_M K X c d) {x0 : Nat} {x1 : Int32} {s : HS} : xM cvI K X m_Mod_named (d + 1) [.ref x0, .int x1] s (x_Mod_named_b c d x0 x1 s) := by
  unfold x_Mod_named_b
  refine xM_enter (by decide +kernel) (Nat.le_of_ble_eq_true rfl) ?_
  refine xW_gd (fun _ => ?_)
  refine xW_pure (fun _ _ _ _ _ => am_aload_n d_Mod_named_0 rfl rfl) ?_
  refine xW_callV O (dx_Mod_name O T) (fun _ e => ob_Mod_name e) rfl rfl rfl l_Mod_164 ⟨w_1845, w_89⟩ rfl (Nat.le_of_ble_eq_true rfl) d_Mod_named_1 (fun v2 s1 _ => ?_)
  refine xW_pure (fun _ _ _ _ _ => am_lstore_n d_Mod_named_4 rfl (Nat.le_of_ble_eq_true rfl)) ?_
  refine xW_pure (fun _ _ _ _ _ => am_aload_n d_Mod_named_5 rfl rfl) ?_
  refine xW_callV O (dx_Mod_step O T) (fun _ e => ob_Mod_step e) rfl rfl rfl l_Mod_87 ⟨w_1808, w_84⟩ rfl (Nat.le_of_ble_eq_true rfl) d_Mod_named_6 (fun v4 s3 _ => ?_)
  refine xW_pure (fun _ _ _ _ _ => am_aload_n d_Mod_named_9 rfl rfl) ?_
  refine xW_pure (fun _ _ _ _ _ => am_ldcS (T.2.2 4 ("StowTongueModel", 177, "(") rfl) d_Mod_named_10) ?_
  refine xW_callV O (dx_Mod_is O T) (fun _ e => ob_Mod_is e) rfl rfl rfl l_Mod_80 ⟨w_1833, w_86⟩ rfl (Nat.le_of_ble_eq_true rfl) d_Mod_named_12 (fun v6 s5 _ => ?_)
  refine xW_ite (fun _ _ _ _ _ k1 k2 => am_if_ne (tgt := 76) d_Mod_named_15 (by decide) k2 k1) (fun _ => ?_) (fun _ => ?_)
  · refine xW_pure (fun _ _ _ _ _ => am_aload_n d_Mod_named_18 rfl rfl) ?_
    refine xW_pure (fun _ _ _ _ _ => am_lload_n d_Mod_named_19 rfl rfl) ?_
    refine xW_callV O (dx_Mod_localOf O T) (fun _ e => ob_Mod_localOf e) rfl rfl rfl l_Mod_130 ⟨w_1857, w_91⟩ rfl (Nat.le_of_ble_eq_true rfl) d_Mod_named_20 (fun v8 s7 _ => ?_)
    refine xW_pure (fun _ _ _ _ _ => am_istore d_Mod_named_23 (Nat.le_of_ble_eq_true rfl)) ?_
    refine xW_pure (fun _ _ _ _ _ => am_iload d_Mod_named_25 rfl) ?_
    refine xW_ite (fun _ _ _ _ _ => am_if_ge (tgt := 38) d_Mod_named_27 (by decide)) (fun _ => ?_) (fun _ => ?_)
    · refine xW_pure (fun _ _ _ _ _ => am_iload d_Mod_named_38 rfl) ?_
      refine xW_locs (lv' := [(0, .ref x0), (4, .int v8)]) rfl ?_
      exact dx_Mod_named_b40 O T H
    · refine xW_pure (fun _ _ _ _ _ => am_aload_n d_Mod_named_30 rfl rfl) ?_
      refine xW_pure (fun _ _ _ _ _ => am_lload_n d_Mod_named_31 rfl rfl) ?_
      refine xW_callV O (dx_Mod_nameValue O T) (fun _ e => ob_Mod_nameValue e) rfl rfl rfl l_Mod_303 ⟨w_1932, w_106⟩ rfl (Nat.le_of_ble_eq_true rfl) d_Mod_named_32 (fun v19 s18 _ => ?_)
      refine xW_pure (fun _ _ _ _ _ => am_goto (tgt := 40) d_Mod_named_35 (by decide)) ?_
      refine xW_locs (lv' := [(0, .ref x0), (4, .int v8)]) rfl ?_
      exact dx_Mod_named_b40 O T H
  · refine xW_pure (fun _ _ _ _ _ => am_iload_n d_Mod_named_76 rfl rfl) ?_
    refine xW_pure (fun _ _ _ _ _ => am_bipush (v := 16) d_Mod_named_77 (by decide)) ?_
    refine xW_ite (fun _ _ _ _ _ k1 k2 => am_icmp_ne (tgt := 87) d_Mod_named_79 (by decide) k2 k1) (fun _ => ?_) (fun _ => ?_)
    · refine xW_pure (fun _ _ _ _ _ => am_aload_n d_Mod_named_82 rfl rfl) ?_
      refine xW_callV O (dx_Mod_bad O T) (fun _ e => ob_Mod_bad e) rfl rfl rfl l_Mod_84 ⟨w_1841, w_88⟩ rfl (Nat.le_of_ble_eq_true rfl) d_Mod_named_83 (fun v21 s20 _ => ?_)
      refine xW_okB (fun hz => ?_)
      exact xW_ret (fun _ _ _ _ _ => am_zret (ty := .boolean) rfl (bz_nar hz) d_Mod_named_86)
    · refine xW_pure (fun _ _ _ _ _ => am_iconst (v := 0) d_Mod_named_87 (by decide)) ?_
      refine xW_pure (fun _ _ _ _ _ => am_istore d_Mod_named_88 (Nat.le_of_ble_eq_true rfl)) ?_
      refine xW_pure (fun _ _ _ _ _ => am_aload_n d_Mod_named_90 rfl rfl) ?_
      refine xW_callV O (dx_Mod_step O T) (fun _ e => ob_Mod_step e) rfl rfl rfl l_Mod_87 ⟨w_1808, w_84⟩ rfl (Nat.le_of_ble_eq_true rfl) d_Mod_named_91 (fun v23 s22 _ => ?_)
      refine xW_locs (lv' := [(0, .ref x0), (1, .int x1), (2, .long v2), (4, .int 0)]) rfl ?_
      refine xW_loop (lvf := fun (z94 : Int32 × HS) => [(0, .ref x0), (1, .int x1), (2, .long v2), (4, .int z94.1)]) (hsf := fun (z94 : Int32 × HS) => z94.2) (fun again94 ih94 z94 => ?_) FU (0, s22)
      refine xW_pure (fun _ _ _ _ _ => am_iload d_Mod_named_94 rfl) ?_
      refine xW_ite (fun _ _ _ _ _ k1 k2 => am_if_ne (tgt := 111) d_Mod_named_96 (by decide) k2 k1) (fun _ => ?_) (fun _ => ?_)
      · refine xW_pure (fun _ _ _ _ _ => am_aload_n d_Mod_named_99 rfl rfl) ?_
        refine xW_pure (fun _ _ _ _ _ => am_ldcS (T.2.2 5 ("StowTongueModel", 182, ")") rfl) d_Mod_named_100) ?_
        refine xW_callV O (dx_Mod_is O T) (fun _ e => ob_Mod_is e) rfl rfl rfl l_Mod_80 ⟨w_1833, w_86⟩ rfl (Nat.le_of_ble_eq_true rfl) d_Mod_named_102 (fun v25 s24 _ => ?_)
        refine xW_ite (fun _ _ _ _ _ k1 k2 => am_if_ne (tgt := 147) d_Mod_named_105 (by decide) k2 k1) (fun _ => ?_) (fun _ => ?_)
        · refine xW_pure (fun _ _ _ _ _ => am_goto (tgt := 120) d_Mod_named_108 (by decide)) ?_
          refine xW_pure (fun _ _ _ _ _ => am_iload d_Mod_named_120 rfl) ?_
          refine xW_ite (fun _ _ _ _ _ => am_if_le (tgt := 129) d_Mod_named_122 (by decide)) (fun _ => ?_) (fun _ => ?_)
          · refine xW_pure (fun _ _ _ _ _ => am_aload_n d_Mod_named_129 rfl rfl) ?_
            refine xW_pure (fun _ _ _ _ _ => am_iload_n d_Mod_named_130 rfl rfl) ?_
            refine xW_pure (fun _ _ _ _ _ => am_iconst (v := 1) d_Mod_named_131 (by decide)) ?_
            refine xW_pure (fun _ _ _ _ _ => am_iadd d_Mod_named_132) ?_
            refine xW_callV O (H.2.2.2.2.2.2.1 _ _ _ _ _).1 (H.2.2.2.2.2.2.1 _ _ _ _ _).2 rfl rfl rfl l_Mod_214 ⟨w_1881, w_96⟩ rfl (Nat.le_of_ble_eq_true rfl) d_Mod_named_133 (fun v27 s26 _ => ?_)
            refine xW_ite (fun _ _ _ _ _ k1 k2 => am_if_ne (tgt := 141) d_Mod_named_136 (by decide) k2 k1) (fun _ => ?_) (fun _ => ?_)
            · refine xW_pure (fun _ _ _ _ _ => am_iconst (v := 0) d_Mod_named_139 (by decide)) ?_
              exact xW_ret (fun _ _ _ _ _ => am_zret (ty := .boolean) rfl rfl d_Mod_named_140)
            · refine xW_pure (fun _ _ _ _ _ => am_iinc (v := 1) d_Mod_named_141 rfl (by decide) (Nat.le_of_ble_eq_true rfl)) ?_
              refine xW_pure (fun _ _ _ _ _ => am_goto (tgt := 94) d_Mod_named_144 (by decide)) ?_
              refine xW_locs (lv' := [(0, .ref x0), (1, .int x1), (2, .long v2), (4, .int (z94.1 + 1))]) rfl ?_
              exact ih94 ((z94.1 + 1), s26)
          · refine xW_pure (fun _ _ _ _ _ => am_aload_n d_Mod_named_125 rfl rfl) ?_
            refine xW_callV O (dx_Mod_step O T) (fun _ e => ob_Mod_step e) rfl rfl rfl l_Mod_87 ⟨w_1808, w_84⟩ rfl (Nat.le_of_ble_eq_true rfl) d_Mod_named_126 (fun v29 s28 _ => ?_)
            refine xW_pure (fun _ _ _ _ _ => am_aload_n d_Mod_named_129 rfl rfl) ?_
            refine xW_pure (fun _ _ _ _ _ => am_iload_n d_Mod_named_130 rfl rfl) ?_
            refine xW_pure (fun _ _ _ _ _ => am_iconst (v := 1) d_Mod_named_131 (by decide)) ?_
            refine xW_pure (fun _ _ _ _ _ => am_iadd d_Mod_named_132) ?_
            refine xW_callV O (H.2.2.2.2.2.2.1 _ _ _ _ _).1 (H.2.2.2.2.2.2.1 _ _ _ _ _).2 rfl rfl rfl l_Mod_214 ⟨w_1881, w_96⟩ rfl (Nat.le_of_ble_eq_true rfl) d_Mod_named_133 (fun v31 s30 _ => ?_)
            refine xW_ite (fun _ _ _ _ _ k1 k2 => am_if_ne (tgt := 141) d_Mod_named_136 (by decide) k2 k1) (fun _ => ?_) (fun _ => ?_)
            · refine xW_pure (fun _ _ _ _ _ => am_iconst (v := 0) d_Mod_named_139 (by decide)) ?_
              exact xW_ret (fun _ _ _ _ _ => am_zret (ty := .boolean) rfl rfl d_Mod_named_140)
            · refine xW_pure (fun _ _ _ _ _ => am_iinc (v := 1) d_Mod_named_141 rfl (by decide) (Nat.le_of_ble_eq_true rfl)) ?_
              refine xW_pure (fun _ _ _ _ _ => am_goto (tgt := 94) d_Mod_named_144 (by decide)) ?_
              refine xW_locs (lv' := [(0, .ref x0), (1, .int x1), (2, .long v2), (4, .int (z94.1 + 1))]) rfl ?_
              exact ih94 ((z94.1 + 1), s30)
        · refine xW_locs (lv' := [(0, .ref x0), (2, .long v2), (4, .int z94.1)]) rfl ?_
          exact dx_Mod_named_b147 O T H
      · refine xW_pure (fun _ _ _ _ _ => am_aload_n d_Mod_named_111 rfl rfl) ?_
        refine xW_pure (fun _ _ _ _ _ => am_ldcS (T.2.2 6 ("StowTongueModel", 184, ",") rfl) d_Mod_named_112) ?_
        refine xW_callV O (dx_Mod_is O T) (fun _ e => ob_Mod_is e) rfl rfl rfl l_Mod_80 ⟨w_1833, w_86⟩ rfl (Nat.le_of_ble_eq_true rfl) d_Mod_named_114 (fun v42 s41 _ => ?_)
        refine xW_ite (fun _ _ _ _ _ => am_if_eq (tgt := 147) d_Mod_named_117 (by decide)) (fun _ => ?_) (fun _ => ?_)
        · refine xW_locs (lv' := [(0, .ref x0), (2, .long v2), (4, .int z94.1)]) rfl ?_
          exact dx_Mod_named_b147 O T H
        · refine xW_pure (fun _ _ _ _ _ => am_iload d_Mod_named_120 rfl) ?_
          refine xW_ite (fun _ _ _ _ _ => am_if_le (tgt := 129) d_Mod_named_122 (by decide)) (fun _ => ?_) (fun _ => ?_)
          · refine xW_pure (fun _ _ _ _ _ => am_aload_n d_Mod_named_129 rfl rfl) ?_
            refine xW_pure (fun _ _ _ _ _ => am_iload_n d_Mod_named_130 rfl rfl) ?_
            refine xW_pure (fun _ _ _ _ _ => am_iconst (v := 1) d_Mod_named_131 (by decide)) ?_
            refine xW_pure (fun _ _ _ _ _ => am_iadd d_Mod_named_132) ?_
            refine xW_callV O (H.2.2.2.2.2.2.1 _ _ _ _ _).1 (H.2.2.2.2.2.2.1 _ _ _ _ _).2 rfl rfl rfl l_Mod_214 ⟨w_1881, w_96⟩ rfl (Nat.le_of_ble_eq_true rfl) d_Mod_named_133 (fun v44 s43 _ => ?_)
            refine xW_ite (fun _ _ _ _ _ k1 k2 => am_if_ne (tgt := 141) d_Mod_named_136 (by decide) k2 k1) (fun _ => ?_) (fun _ => ?_)
            · refine xW_pure (fun _ _ _ _ _ => am_iconst (v := 0) d_Mod_named_139 (by decide)) ?_
              exact xW_ret (fun _ _ _ _ _ => am_zret (ty := .boolean) rfl rfl d_Mod_named_140)
            · refine xW_pure (fun _ _ _ _ _ => am_iinc (v := 1) d_Mod_named_141 rfl (by decide) (Nat.le_of_ble_eq_true rfl)) ?_
              refine xW_pure (fun _ _ _ _ _ => am_goto (tgt := 94) d_Mod_named_144 (by decide)) ?_
              refine xW_locs (lv' := [(0, .ref x0), (1, .int x1), (2, .long v2), (4, .int (z94.1 + 1))]) rfl ?_
              exact ih94 ((z94.1 + 1), s43)
          · refine xW_pure (fun _ _ _ _ _ => am_aload_n d_Mod_named_125 rfl rfl) ?_
            refine xW_callV O (dx_Mod_step O T) (fun _ e => ob_Mod_step e) rfl rfl rfl l_Mod_87 ⟨w_1808, w_84⟩ rfl (Nat.le_of_ble_eq_true rfl) d_Mod_named_126 (fun v46 s45 _ => ?_)
            refine xW_pure (fun _ _ _ _ _ => am_aload_n d_Mod_named_129 rfl rfl) ?_
            refine xW_pure (fun _ _ _ _ _ => am_iload_n d_Mod_named_130 rfl rfl) ?_
            refine xW_pure (fun _ _ _ _ _ => am_iconst (v := 1) d_Mod_named_131 (by decide)) ?_
            refine xW_pure (fun _ _ _ _ _ => am_iadd d_Mod_named_132) ?_
            refine xW_callV O (H.2.2.2.2.2.2.1 _ _ _ _ _).1 (H.2.2.2.2.2.2.1 _ _ _ _ _).2 rfl rfl rfl l_Mod_214 ⟨w_1881, w_96⟩ rfl (Nat.le_of_ble_eq_true rfl) d_Mod_named_133 (fun v48 s47 _ => ?_)
            refine xW_ite (fun _ _ _ _ _ k1 k2 => am_if_ne (tgt := 141) d_Mod_named_136 (by decide) k2 k1) (fun _ => ?_) (fun _ => ?_)
            · refine xW_pure (fun _ _ _ _ _ => am_iconst (v := 0) d_Mod_named_139 (by decide)) ?_
              exact xW_ret (fun _ _ _ _ _ => am_zret (ty := .boolean) rfl rfl d_Mod_named_140)
            · refine xW_pure (fun _ _ _ _ _ => am_iinc (v := 1) d_Mod_named_141 rfl (by decide) (Nat.le_of_ble_eq_true rfl)) ?_
              refine xW_pure (fun _ _ _ _ _ => am_goto (tgt := 94) d_Mod_named_144 (by decide)) ?_
              refine xW_locs (lv' := [(0, .ref x0), (1, .int x1), (2, .long v2), (4, .int (z94.1 + 1))]) rfl ?_
              exact ih94 ((z94.1 + 1), s47)

set_option maxRecDepth 100000 in
def x_Mod_built_b100 (c : CLT) (d : Nat) (l0 : Nat) (l2 : Int32) (s : HS) : Option (Int32 × HS) := bnd (x_Mod_put_I d l0 l2 s) fun v22 s21 => ((pV s21 l0 14 25 (.int 0)).bind fun s23 => (bnd (x_Mod_take d l0 16 s23) fun v25 s24 => (okB v25 (some (v25, s24)))))

set_option maxRecDepth 100000 in
set_option maxHeartbeats 4000000 in
theorem dx_Mod_built_b100 (O : am_ok K X) (T : am_T K) {c : CLT} {d : Nat} (H : HC_M K X c d) {l0 : Nat} {l2 : Int32} {s : HS} : xW cvI K X m_Mod_built (d + 1) 100 [(0, .ref l0), (2, .int l2)] [] s (x_Mod_built_b100 c d l0 l2 s) := by
  unfold x_Mod_built_b100
  refine xW_pure (fun _ _ _ _ _ => am_aload_n d_Mod_built_100 rfl rfl) ?_
  refine xW_pure (fun _ _ _ _ _ => am_iload_n d_Mod_built_101 rfl rfl) ?_
  refine xW_callV O (dx_Mod_put_I O T) (fun _ e => ob_Mod_put_I e) rfl rfl rfl l_Mod_103 ⟨w_1875, w_95⟩ rfl (Nat.le_of_ble_eq_true rfl) d_Mod_built_102 (fun v22 s21 _ => ?_)
  refine xW_pure (fun _ _ _ _ _ => am_pop d_Mod_built_105 rfl) ?_
  refine xW_pure (fun _ _ _ _ _ => am_aload_n d_Mod_built_106 rfl rfl) ?_
  refine xW_pure (fun _ _ _ _ _ => am_iconst (v := 0) d_Mod_built_107 (by decide)) ?_
  refine xW_put O f_Mod_249 d_Mod_built_108 (fun q hq => by cases hq; exact ⟨rfl, rfl, rfl⟩) (fun s23 _ => ?_)
  refine xW_pure (fun _ _ _ _ _ => am_aload_n d_Mod_built_111 rfl rfl) ?_
  refine xW_pure (fun _ _ _ _ _ => am_ldcS (T.2.2 5 ("StowTongueModel", 182, ")") rfl) d_Mod_built_112) ?_
  refine xW_callV O (dx_Mod_take O T) (fun _ e => ob_Mod_take e) rfl rfl rfl l_Mod_179 ⟨w_1851, w_90⟩ rfl (Nat.le_of_ble_eq_true rfl) d_Mod_built_114 (fun v25 s24 _ => ?_)
  refine xW_okB (fun hz => ?_)
  exact xW_ret (fun _ _ _ _ _ => am_zret (ty := .boolean) rfl (bz_nar hz) d_Mod_built_117)

set_option maxRecDepth 100000 in
def x_Mod_built_b32 (c : CLT) (d : Nat) (l0 : Nat) (l1 : Int32) (t0 : Int32) (s : HS) : Option (Int32 × HS) := bnd (x_Mod_step d l0 s) fun v6 s5 => (bnd (x_Mod_is d l0 14 s5) fun v8 s7 => (if v8 = 0 then (bnd (x_Mod_bad d l0 s7) fun v10 s9 => (okB v10 (some (v10, s9)))) else (if l1 = 16 then (bnd (x_Mod_bad d l0 s7) fun v12 s11 => (okB v12 (some (v12, s11)))) else (bnd (x_Mod_step d l0 s7) fun v14 s13 => (bnd ((c 6 l0 (l1 + 1) 0 0 s13)) fun v16 s15 => (if v16 = 0 then (some (0, s15)) else (if t0 = 18 then (bnd (x_Mod_take d l0 18 s15) fun v18 s17 => (if v18 = 0 then (some (0, s17)) else (bnd ((c 6 l0 (l1 + 1) 0 0 s17)) fun v20 s19 => (if v20 = 0 then (some (0, s19)) else (x_Mod_built_b100 c d l0 t0 s19))))) else (x_Mod_built_b100 c d l0 t0 s15))))))))

set_option maxRecDepth 100000 in
set_option maxHeartbeats 4000000 in
theorem dx_Mod_built_b32 (O : am_ok K X) (T : am_T K) {c : CLT} {d : Nat} (H : HC_M K X c d) {l0 : Nat} {l1 : Int32} {t0 : Int32} {s : HS} : xW cvI K X m_Mod_built (d + 1) 32 [(0, .ref l0), (1, .int l1)] [.int t0] s (x_Mod_built_b32 c d l0 l1 t0 s) := by
  unfold x_Mod_built_b32
  refine xW_pure (fun _ _ _ _ _ => am_istore_n d_Mod_built_32 rfl (Nat.le_of_ble_eq_true rfl)) ?_
  refine xW_pure (fun _ _ _ _ _ => am_aload_n d_Mod_built_33 rfl rfl) ?_
  refine xW_callV O (dx_Mod_step O T) (fun _ e => ob_Mod_step e) rfl rfl rfl l_Mod_87 ⟨w_1808, w_84⟩ rfl (Nat.le_of_ble_eq_true rfl) d_Mod_built_34 (fun v6 s5 _ => ?_)
  refine xW_pure (fun _ _ _ _ _ => am_aload_n d_Mod_built_37 rfl rfl) ?_
  refine xW_pure (fun _ _ _ _ _ => am_ldcS (T.2.2 4 ("StowTongueModel", 177, "(") rfl) d_Mod_built_38) ?_
  refine xW_callV O (dx_Mod_is O T) (fun _ e => ob_Mod_is e) rfl rfl rfl l_Mod_80 ⟨w_1833, w_86⟩ rfl (Nat.le_of_ble_eq_true rfl) d_Mod_built_40 (fun v8 s7 _ => ?_)
  refine xW_ite (fun _ _ _ _ _ => am_if_eq (tgt := 52) d_Mod_built_43 (by decide)) (fun _ => ?_) (fun _ => ?_)
  · refine xW_pure (fun _ _ _ _ _ => am_aload_n d_Mod_built_52 rfl rfl) ?_
    refine xW_callV O (dx_Mod_bad O T) (fun _ e => ob_Mod_bad e) rfl rfl rfl l_Mod_84 ⟨w_1841, w_88⟩ rfl (Nat.le_of_ble_eq_true rfl) d_Mod_built_53 (fun v10 s9 _ => ?_)
    refine xW_okB (fun hz => ?_)
    exact xW_ret (fun _ _ _ _ _ => am_zret (ty := .boolean) rfl (bz_nar hz) d_Mod_built_56)
  · refine xW_pure (fun _ _ _ _ _ => am_iload_n d_Mod_built_46 rfl rfl) ?_
    refine xW_pure (fun _ _ _ _ _ => am_bipush (v := 16) d_Mod_built_47 (by decide)) ?_
    refine xW_ite (fun _ _ _ _ _ k1 k2 => am_icmp_ne (tgt := 57) d_Mod_built_49 (by decide) k2 k1) (fun _ => ?_) (fun _ => ?_)
    · refine xW_pure (fun _ _ _ _ _ => am_aload_n d_Mod_built_52 rfl rfl) ?_
      refine xW_callV O (dx_Mod_bad O T) (fun _ e => ob_Mod_bad e) rfl rfl rfl l_Mod_84 ⟨w_1841, w_88⟩ rfl (Nat.le_of_ble_eq_true rfl) d_Mod_built_53 (fun v12 s11 _ => ?_)
      refine xW_okB (fun hz => ?_)
      exact xW_ret (fun _ _ _ _ _ => am_zret (ty := .boolean) rfl (bz_nar hz) d_Mod_built_56)
    · refine xW_pure (fun _ _ _ _ _ => am_aload_n d_Mod_built_57 rfl rfl) ?_
      refine xW_callV O (dx_Mod_step O T) (fun _ e => ob_Mod_step e) rfl rfl rfl l_Mod_87 ⟨w_1808, w_84⟩ rfl (Nat.le_of_ble_eq_true rfl) d_Mod_built_58 (fun v14 s13 _ => ?_)
      refine xW_pure (fun _ _ _ _ _ => am_aload_n d_Mod_built_61 rfl rfl) ?_
      refine xW_pure (fun _ _ _ _ _ => am_iload_n d_Mod_built_62 rfl rfl) ?_
      refine xW_pure (fun _ _ _ _ _ => am_iconst (v := 1) d_Mod_built_63 (by decide)) ?_
      refine xW_pure (fun _ _ _ _ _ => am_iadd d_Mod_built_64) ?_
      refine xW_callV O (H.2.2.2.2.2.2.1 _ _ _ _ _).1 (H.2.2.2.2.2.2.1 _ _ _ _ _).2 rfl rfl rfl l_Mod_214 ⟨w_1881, w_96⟩ rfl (Nat.le_of_ble_eq_true rfl) d_Mod_built_65 (fun v16 s15 _ => ?_)
      refine xW_ite (fun _ _ _ _ _ k1 k2 => am_if_ne (tgt := 73) d_Mod_built_68 (by decide) k2 k1) (fun _ => ?_) (fun _ => ?_)
      · refine xW_pure (fun _ _ _ _ _ => am_iconst (v := 0) d_Mod_built_71 (by decide)) ?_
        exact xW_ret (fun _ _ _ _ _ => am_zret (ty := .boolean) rfl rfl d_Mod_built_72)
      · refine xW_pure (fun _ _ _ _ _ => am_iload_n d_Mod_built_73 rfl rfl) ?_
        refine xW_pure (fun _ _ _ _ _ => am_bipush (v := 18) d_Mod_built_74 (by decide)) ?_
        refine xW_ite (fun _ _ _ _ _ k1 k2 => am_icmp_ne (tgt := 100) d_Mod_built_76 (by decide) k2 k1) (fun _ => ?_) (fun _ => ?_)
        · refine xW_pure (fun _ _ _ _ _ => am_aload_n d_Mod_built_79 rfl rfl) ?_
          refine xW_pure (fun _ _ _ _ _ => am_ldcS (T.2.2 6 ("StowTongueModel", 184, ",") rfl) d_Mod_built_80) ?_
          refine xW_callV O (dx_Mod_take O T) (fun _ e => ob_Mod_take e) rfl rfl rfl l_Mod_179 ⟨w_1851, w_90⟩ rfl (Nat.le_of_ble_eq_true rfl) d_Mod_built_82 (fun v18 s17 _ => ?_)
          refine xW_ite (fun _ _ _ _ _ => am_if_eq (tgt := 98) d_Mod_built_85 (by decide)) (fun _ => ?_) (fun _ => ?_)
          · refine xW_pure (fun _ _ _ _ _ => am_iconst (v := 0) d_Mod_built_98 (by decide)) ?_
            exact xW_ret (fun _ _ _ _ _ => am_zret (ty := .boolean) rfl rfl d_Mod_built_99)
          · refine xW_pure (fun _ _ _ _ _ => am_aload_n d_Mod_built_88 rfl rfl) ?_
            refine xW_pure (fun _ _ _ _ _ => am_iload_n d_Mod_built_89 rfl rfl) ?_
            refine xW_pure (fun _ _ _ _ _ => am_iconst (v := 1) d_Mod_built_90 (by decide)) ?_
            refine xW_pure (fun _ _ _ _ _ => am_iadd d_Mod_built_91) ?_
            refine xW_callV O (H.2.2.2.2.2.2.1 _ _ _ _ _).1 (H.2.2.2.2.2.2.1 _ _ _ _ _).2 rfl rfl rfl l_Mod_214 ⟨w_1881, w_96⟩ rfl (Nat.le_of_ble_eq_true rfl) d_Mod_built_92 (fun v20 s19 _ => ?_)
            refine xW_ite (fun _ _ _ _ _ k1 k2 => am_if_ne (tgt := 100) d_Mod_built_95 (by decide) k2 k1) (fun _ => ?_) (fun _ => ?_)
            · refine xW_pure (fun _ _ _ _ _ => am_iconst (v := 0) d_Mod_built_98 (by decide)) ?_
              exact xW_ret (fun _ _ _ _ _ => am_zret (ty := .boolean) rfl rfl d_Mod_built_99)
            · refine xW_locs (lv' := [(0, .ref l0), (2, .int t0)]) rfl ?_
              exact dx_Mod_built_b100 O T H
        · refine xW_locs (lv' := [(0, .ref l0), (2, .int t0)]) rfl ?_
          exact dx_Mod_built_b100 O T H

set_option maxRecDepth 100000 in
def x_Mod_built_b (c : CLT) (d : Nat) (x0 : Nat) (x1 : Int32) (s : HS) : Option (Int32 × HS) := gd s x0 14 (bnd (x_Mod_is d x0 34 s) fun v2 s1 => (if v2 = 0 then (bnd (x_Mod_is d x0 36 s1) fun v4 s3 => (if v4 = 0 then (x_Mod_built_b32 c d x0 x1 19 s3) else (x_Mod_built_b32 c d x0 x1 18 s3))) else (x_Mod_built_b32 c d x0 x1 17 s1)))

set_option maxRecDepth 100000 in
set_option maxHeartbeats 4000000 in
theorem dx_Mod_built_b (O : am_ok K X) (T : am_T K) {c : CLT} {d : Nat} (H : HC_M K X c d) {x0 : Nat} {x1 : Int32} {s : HS} : xM cvI K X m_Mod_built (d + 1) [.ref x0, .int x1] s (x_Mod_built_b c d x0 x1 s) := by
  unfold x_Mod_built_b
  refine xM_enter (by decide +kernel) (Nat.le_of_ble_eq_true rfl) ?_
  refine xW_gd (fun _ => ?_)
  refine xW_pure (fun _ _ _ _ _ => am_aload_n d_Mod_built_0 rfl rfl) ?_
  refine xW_pure (fun _ _ _ _ _ => am_ldcSw (T.2.2 14 ("StowTongueModel", 316, "size") rfl) d_Mod_built_1) ?_
  refine xW_callV O (dx_Mod_is O T) (fun _ e => ob_Mod_is e) rfl rfl rfl l_Mod_80 ⟨w_1833, w_86⟩ rfl (Nat.le_of_ble_eq_true rfl) d_Mod_built_4 (fun v2 s1 _ => ?_)
  refine xW_ite (fun _ _ _ _ _ => am_if_eq (tgt := 15) d_Mod_built_7 (by decide)) (fun _ => ?_) (fun _ => ?_)
  · refine xW_pure (fun _ _ _ _ _ => am_aload_n d_Mod_built_15 rfl rfl) ?_
    refine xW_pure (fun _ _ _ _ _ => am_ldcSw (T.2.2 15 ("StowTongueModel", 317, "push") rfl) d_Mod_built_16) ?_
    refine xW_callV O (dx_Mod_is O T) (fun _ e => ob_Mod_is e) rfl rfl rfl l_Mod_80 ⟨w_1833, w_86⟩ rfl (Nat.le_of_ble_eq_true rfl) d_Mod_built_19 (fun v4 s3 _ => ?_)
    refine xW_ite (fun _ _ _ _ _ => am_if_eq (tgt := 30) d_Mod_built_22 (by decide)) (fun _ => ?_) (fun _ => ?_)
    · refine xW_pure (fun _ _ _ _ _ => am_bipush (v := 19) d_Mod_built_30 (by decide)) ?_
      refine xW_locs (lv' := [(0, .ref x0), (1, .int x1)]) rfl ?_
      exact dx_Mod_built_b32 O T H
    · refine xW_pure (fun _ _ _ _ _ => am_bipush (v := 18) d_Mod_built_25 (by decide)) ?_
      refine xW_pure (fun _ _ _ _ _ => am_goto (tgt := 32) d_Mod_built_27 (by decide)) ?_
      refine xW_locs (lv' := [(0, .ref x0), (1, .int x1)]) rfl ?_
      exact dx_Mod_built_b32 O T H
  · refine xW_pure (fun _ _ _ _ _ => am_bipush (v := 17) d_Mod_built_10 (by decide)) ?_
    refine xW_pure (fun _ _ _ _ _ => am_goto (tgt := 32) d_Mod_built_12 (by decide)) ?_
    refine xW_locs (lv' := [(0, .ref x0), (1, .int x1)]) rfl ?_
    exact dx_Mod_built_b32 O T H

set_option maxRecDepth 100000 in
def x_Mod_record_b114 (c : CLT) (d : Nat) (l0 : Nat) (l2 : Int32) (l3 : Int32) (s : HS) : Option (Int32 × HS) := bnd (x_Mod_put_II d l0 20 l3 s) fun v45 s44 => (loopK (fun (again124 : Int32 × HS → Option (Int32 × HS)) (z124 : Int32 × HS) => (if l3 ≤ z124.1 then ((pV z124.2 l0 14 29 (.int l2)).bind fun s46 => ((pV s46 l0 14 25 (.int 0)).bind fun s47 => (bnd (x_Mod_take d l0 22 s47) fun v49 s48 => (okB v49 (some (v49, s48)))))) else ((gR z124.2 l0 14 28).bind fun v50 => ((aI z124.2 v50 (l2 + z124.1)).bind fun v51 => (bnd (x_Mod_put_I d l0 v51 z124.2) fun v53 s52 => (again124 ((z124.1 + 1), s52))))))) FU (0, s44))

set_option maxRecDepth 100000 in
set_option maxHeartbeats 4000000 in
theorem dx_Mod_record_b114 (O : am_ok K X) (T : am_T K) {c : CLT} {d : Nat} (H : HC_M K X c d) {l0 : Nat} {l2 : Int32} {l3 : Int32} {s : HS} : xW cvI K X m_Mod_record (d + 1) 114 [(0, .ref l0), (2, .int l2), (3, .int l3)] [] s (x_Mod_record_b114 c d l0 l2 l3 s) := by
  unfold x_Mod_record_b114
  refine xW_pure (fun _ _ _ _ _ => am_aload_n d_Mod_record_114 rfl rfl) ?_
  refine xW_pure (fun _ _ _ _ _ => am_bipush (v := 20) d_Mod_record_115 (by decide)) ?_
  refine xW_pure (fun _ _ _ _ _ => am_iload_n d_Mod_record_117 rfl rfl) ?_
  refine xW_callV O (dx_Mod_put_II O T) (fun _ e => ob_Mod_put_II e) rfl rfl rfl l_Mod_120 ⟨w_1919, w_104⟩ rfl (Nat.le_of_ble_eq_true rfl) d_Mod_record_118 (fun v45 s44 _ => ?_)
  refine xW_pure (fun _ _ _ _ _ => am_iconst (v := 0) d_Mod_record_121 (by decide)) ?_
  refine xW_pure (fun _ _ _ _ _ => am_istore d_Mod_record_122 (Nat.le_of_ble_eq_true rfl)) ?_
  refine xW_locs (lv' := [(0, .ref l0), (2, .int l2), (3, .int l3), (4, .int 0)]) rfl ?_
  refine xW_loop (lvf := fun (z124 : Int32 × HS) => [(0, .ref l0), (2, .int l2), (3, .int l3), (4, .int z124.1)]) (hsf := fun (z124 : Int32 × HS) => z124.2) (fun again124 ih124 z124 => ?_) FU (0, s44)
  refine xW_pure (fun _ _ _ _ _ => am_iload d_Mod_record_124 rfl) ?_
  refine xW_pure (fun _ _ _ _ _ => am_iload_n d_Mod_record_126 rfl rfl) ?_
  refine xW_ite (fun _ _ _ _ _ => am_icmp_ge (tgt := 150) d_Mod_record_127 (by decide)) (fun _ => ?_) (fun _ => ?_)
  · refine xW_pure (fun _ _ _ _ _ => am_aload_n d_Mod_record_150 rfl rfl) ?_
    refine xW_pure (fun _ _ _ _ _ => am_iload_n d_Mod_record_151 rfl rfl) ?_
    refine xW_put O f_Mod_140 d_Mod_record_152 (fun q hq => by cases hq; exact ⟨rfl, rfl, rfl⟩) (fun s46 _ => ?_)
    refine xW_pure (fun _ _ _ _ _ => am_aload_n d_Mod_record_155 rfl rfl) ?_
    refine xW_pure (fun _ _ _ _ _ => am_iconst (v := 0) d_Mod_record_156 (by decide)) ?_
    refine xW_put O f_Mod_249 d_Mod_record_157 (fun q hq => by cases hq; exact ⟨rfl, rfl, rfl⟩) (fun s47 _ => ?_)
    refine xW_pure (fun _ _ _ _ _ => am_aload_n d_Mod_record_160 rfl rfl) ?_
    refine xW_pure (fun _ _ _ _ _ => am_ldcS (T.2.2 8 ("StowTongueModel", 212, "}") rfl) d_Mod_record_161) ?_
    refine xW_callV O (dx_Mod_take O T) (fun _ e => ob_Mod_take e) rfl rfl rfl l_Mod_179 ⟨w_1851, w_90⟩ rfl (Nat.le_of_ble_eq_true rfl) d_Mod_record_163 (fun v49 s48 _ => ?_)
    refine xW_okB (fun hz => ?_)
    exact xW_ret (fun _ _ _ _ _ => am_zret (ty := .boolean) rfl (bz_nar hz) d_Mod_record_166)
  · refine xW_pure (fun _ _ _ _ _ => am_aload_n d_Mod_record_130 rfl rfl) ?_
    refine xW_pure (fun _ _ _ _ _ => am_aload_n d_Mod_record_131 rfl rfl) ?_
    refine xW_gR O f_Mod_330 d_Mod_record_132 (fun v50 _ => ?_)
    refine xW_pure (fun _ _ _ _ _ => am_iload_n d_Mod_record_135 rfl rfl) ?_
    refine xW_pure (fun _ _ _ _ _ => am_iload d_Mod_record_136 rfl) ?_
    refine xW_pure (fun _ _ _ _ _ => am_iadd d_Mod_record_138) ?_
    refine xW_aI O d_Mod_record_139 (fun v51 _ => ?_)
    refine xW_callV O (dx_Mod_put_I O T) (fun _ e => ob_Mod_put_I e) rfl rfl rfl l_Mod_103 ⟨w_1875, w_95⟩ rfl (Nat.le_of_ble_eq_true rfl) d_Mod_record_140 (fun v53 s52 _ => ?_)
    refine xW_pure (fun _ _ _ _ _ => am_pop d_Mod_record_143 rfl) ?_
    refine xW_pure (fun _ _ _ _ _ => am_iinc (v := 1) d_Mod_record_144 rfl (by decide) (Nat.le_of_ble_eq_true rfl)) ?_
    refine xW_pure (fun _ _ _ _ _ => am_goto (tgt := 124) d_Mod_record_147 (by decide)) ?_
    refine xW_locs (lv' := [(0, .ref l0), (2, .int l2), (3, .int l3), (4, .int (z124.1 + 1))]) rfl ?_
    exact ih124 ((z124.1 + 1), s52)

set_option maxRecDepth 100000 in
def x_Mod_record_b (c : CLT) (d : Nat) (x0 : Nat) (x1 : Int32) (s : HS) : Option (Int32 × HS) := gd s x0 14 ((gI s x0 14 29).bind fun v1 => (bnd (x_Mod_step d x0 s) fun v3 s2 => (loopK (fun (again11 : Int32 × HS → Option (Int32 × HS)) (z11 : Int32 × HS) => (if z11.1 = 0 then (bnd (x_Mod_is d x0 22 z11.2) fun v5 s4 => (if v5 = 0 then (if z11.1 ≤ 0 then ((gI s4 x0 14 6).bind fun v6 => (if v6 = 1 then ((gR s4 x0 14 28).bind fun v7 => ((gI s4 x0 14 29).bind fun v8 => (bnd (x_Mod_name d x0 s4) fun v10 s9 => (bnd (x_Mod_nameValue d x0 v10 s9) fun v12 s11 => ((sV s11 .int v7 v8 (.int v12)).bind fun s13 => ((gI s13 x0 14 29).bind fun v14 => ((pV s13 x0 14 29 (.int (v14 + 1))).bind fun s15 => (bnd (x_Mod_step d x0 s15) fun v17 s16 => (bnd (x_Mod_take d x0 42 s16) fun v19 s18 => (if v19 = 0 then (some (0, s18)) else (bnd ((c 6 x0 x1 0 0 s18)) fun v21 s20 => (if v21 = 0 then (some (0, s20)) else (again11 ((z11.1 + 1), s20)))))))))))))) else (bnd (x_Mod_bad d x0 s4) fun v23 s22 => (okB v23 (some (v23, s22)))))) else (bnd (x_Mod_step d x0 s4) fun v25 s24 => ((gI s24 x0 14 6).bind fun v26 => (if v26 = 1 then ((gR s24 x0 14 28).bind fun v27 => ((gI s24 x0 14 29).bind fun v28 => (bnd (x_Mod_name d x0 s24) fun v30 s29 => (bnd (x_Mod_nameValue d x0 v30 s29) fun v32 s31 => ((sV s31 .int v27 v28 (.int v32)).bind fun s33 => ((gI s33 x0 14 29).bind fun v34 => ((pV s33 x0 14 29 (.int (v34 + 1))).bind fun s35 => (bnd (x_Mod_step d x0 s35) fun v37 s36 => (bnd (x_Mod_take d x0 42 s36) fun v39 s38 => (if v39 = 0 then (some (0, s38)) else (bnd ((c 6 x0 x1 0 0 s38)) fun v41 s40 => (if v41 = 0 then (some (0, s40)) else (again11 ((z11.1 + 1), s40)))))))))))))) else (bnd (x_Mod_bad d x0 s24) fun v43 s42 => (okB v43 (some (v43, s42)))))))) else (x_Mod_record_b114 c d x0 v1 z11.1 s4))) else (bnd (x_Mod_is d x0 18 z11.2) fun v55 s54 => (if v55 = 0 then (x_Mod_record_b114 c d x0 v1 z11.1 s54) else (if z11.1 ≤ 0 then ((gI s54 x0 14 6).bind fun v56 => (if v56 = 1 then ((gR s54 x0 14 28).bind fun v57 => ((gI s54 x0 14 29).bind fun v58 => (bnd (x_Mod_name d x0 s54) fun v60 s59 => (bnd (x_Mod_nameValue d x0 v60 s59) fun v62 s61 => ((sV s61 .int v57 v58 (.int v62)).bind fun s63 => ((gI s63 x0 14 29).bind fun v64 => ((pV s63 x0 14 29 (.int (v64 + 1))).bind fun s65 => (bnd (x_Mod_step d x0 s65) fun v67 s66 => (bnd (x_Mod_take d x0 42 s66) fun v69 s68 => (if v69 = 0 then (some (0, s68)) else (bnd ((c 6 x0 x1 0 0 s68)) fun v71 s70 => (if v71 = 0 then (some (0, s70)) else (again11 ((z11.1 + 1), s70)))))))))))))) else (bnd (x_Mod_bad d x0 s54) fun v73 s72 => (okB v73 (some (v73, s72)))))) else (bnd (x_Mod_step d x0 s54) fun v75 s74 => ((gI s74 x0 14 6).bind fun v76 => (if v76 = 1 then ((gR s74 x0 14 28).bind fun v77 => ((gI s74 x0 14 29).bind fun v78 => (bnd (x_Mod_name d x0 s74) fun v80 s79 => (bnd (x_Mod_nameValue d x0 v80 s79) fun v82 s81 => ((sV s81 .int v77 v78 (.int v82)).bind fun s83 => ((gI s83 x0 14 29).bind fun v84 => ((pV s83 x0 14 29 (.int (v84 + 1))).bind fun s85 => (bnd (x_Mod_step d x0 s85) fun v87 s86 => (bnd (x_Mod_take d x0 42 s86) fun v89 s88 => (if v89 = 0 then (some (0, s88)) else (bnd ((c 6 x0 x1 0 0 s88)) fun v91 s90 => (if v91 = 0 then (some (0, s90)) else (again11 ((z11.1 + 1), s90)))))))))))))) else (bnd (x_Mod_bad d x0 s74) fun v93 s92 => (okB v93 (some (v93, s92)))))))))))) FU (0, s2))))

set_option maxRecDepth 100000 in
set_option maxHeartbeats 4000000 in
theorem dx_Mod_record_b (O : am_ok K X) (T : am_T K) {c : CLT} {d : Nat} (H : HC_M K X c d) {x0 : Nat} {x1 : Int32} {s : HS} : xM cvI K X m_Mod_record (d + 1) [.ref x0, .int x1] s (x_Mod_record_b c d x0 x1 s) := by
  unfold x_Mod_record_b
  refine xM_enter (by decide +kernel) (Nat.le_of_ble_eq_true rfl) ?_
  refine xW_gd (fun _ => ?_)
  refine xW_pure (fun _ _ _ _ _ => am_aload_n d_Mod_record_0 rfl rfl) ?_
  refine xW_gI O f_Mod_140 d_Mod_record_1 (fun v1 _ => ?_)
  refine xW_pure (fun _ _ _ _ _ => am_istore_n d_Mod_record_4 rfl (Nat.le_of_ble_eq_true rfl)) ?_
  refine xW_pure (fun _ _ _ _ _ => am_iconst (v := 0) d_Mod_record_5 (by decide)) ?_
  refine xW_pure (fun _ _ _ _ _ => am_istore_n d_Mod_record_6 rfl (Nat.le_of_ble_eq_true rfl)) ?_
  refine xW_pure (fun _ _ _ _ _ => am_aload_n d_Mod_record_7 rfl rfl) ?_
  refine xW_callV O (dx_Mod_step O T) (fun _ e => ob_Mod_step e) rfl rfl rfl l_Mod_87 ⟨w_1808, w_84⟩ rfl (Nat.le_of_ble_eq_true rfl) d_Mod_record_8 (fun v3 s2 _ => ?_)
  refine xW_locs (lv' := [(0, .ref x0), (1, .int x1), (2, .int v1), (3, .int 0)]) rfl ?_
  refine xW_loop (lvf := fun (z11 : Int32 × HS) => [(0, .ref x0), (1, .int x1), (2, .int v1), (3, .int z11.1)]) (hsf := fun (z11 : Int32 × HS) => z11.2) (fun again11 ih11 z11 => ?_) FU (0, s2)
  refine xW_pure (fun _ _ _ _ _ => am_iload_n d_Mod_record_11 rfl rfl) ?_
  refine xW_ite (fun _ _ _ _ _ k1 k2 => am_if_ne (tgt := 27) d_Mod_record_12 (by decide) k2 k1) (fun _ => ?_) (fun _ => ?_)
  · refine xW_pure (fun _ _ _ _ _ => am_aload_n d_Mod_record_15 rfl rfl) ?_
    refine xW_pure (fun _ _ _ _ _ => am_ldcS (T.2.2 8 ("StowTongueModel", 212, "}") rfl) d_Mod_record_16) ?_
    refine xW_callV O (dx_Mod_is O T) (fun _ e => ob_Mod_is e) rfl rfl rfl l_Mod_80 ⟨w_1833, w_86⟩ rfl (Nat.le_of_ble_eq_true rfl) d_Mod_record_18 (fun v5 s4 _ => ?_)
    refine xW_ite (fun _ _ _ _ _ k1 k2 => am_if_ne (tgt := 114) d_Mod_record_21 (by decide) k2 k1) (fun _ => ?_) (fun _ => ?_)
    · refine xW_pure (fun _ _ _ _ _ => am_goto (tgt := 36) d_Mod_record_24 (by decide)) ?_
      refine xW_pure (fun _ _ _ _ _ => am_iload_n d_Mod_record_36 rfl rfl) ?_
      refine xW_ite (fun _ _ _ _ _ => am_if_le (tgt := 44) d_Mod_record_37 (by decide)) (fun _ => ?_) (fun _ => ?_)
      · refine xW_pure (fun _ _ _ _ _ => am_aload_n d_Mod_record_44 rfl rfl) ?_
        refine xW_gI O f_Mod_32 d_Mod_record_45 (fun v6 _ => ?_)
        refine xW_pure (fun _ _ _ _ _ => am_iconst (v := 1) d_Mod_record_48 (by decide)) ?_
        refine xW_ite (fun _ _ _ _ _ => am_icmp_eq (tgt := 57) d_Mod_record_49 (by decide)) (fun _ => ?_) (fun _ => ?_)
        · refine xW_pure (fun _ _ _ _ _ => am_aload_n d_Mod_record_57 rfl rfl) ?_
          refine xW_gR O f_Mod_330 d_Mod_record_58 (fun v7 _ => ?_)
          refine xW_pure (fun _ _ _ _ _ => am_aload_n d_Mod_record_61 rfl rfl) ?_
          refine xW_gI O f_Mod_140 d_Mod_record_62 (fun v8 _ => ?_)
          refine xW_pure (fun _ _ _ _ _ => am_aload_n d_Mod_record_65 rfl rfl) ?_
          refine xW_pure (fun _ _ _ _ _ => am_aload_n d_Mod_record_66 rfl rfl) ?_
          refine xW_callV O (dx_Mod_name O T) (fun _ e => ob_Mod_name e) rfl rfl rfl l_Mod_164 ⟨w_1845, w_89⟩ rfl (Nat.le_of_ble_eq_true rfl) d_Mod_record_67 (fun v10 s9 _ => ?_)
          refine xW_callV O (dx_Mod_nameValue O T) (fun _ e => ob_Mod_nameValue e) rfl rfl rfl l_Mod_303 ⟨w_1932, w_106⟩ rfl (Nat.le_of_ble_eq_true rfl) d_Mod_record_70 (fun v12 s11 _ => ?_)
          refine xW_sI O d_Mod_record_73 (fun s13 _ => ?_)
          refine xW_pure (fun _ _ _ _ _ => am_aload_n d_Mod_record_74 rfl rfl) ?_
          refine xW_pure (fun _ _ _ _ _ => am_dup d_Mod_record_75 rfl) ?_
          refine xW_gI O f_Mod_140 d_Mod_record_76 (fun v14 _ => ?_)
          refine xW_pure (fun _ _ _ _ _ => am_iconst (v := 1) d_Mod_record_79 (by decide)) ?_
          refine xW_pure (fun _ _ _ _ _ => am_iadd d_Mod_record_80) ?_
          refine xW_put O f_Mod_140 d_Mod_record_81 (fun q hq => by cases hq; exact ⟨rfl, rfl, rfl⟩) (fun s15 _ => ?_)
          refine xW_pure (fun _ _ _ _ _ => am_aload_n d_Mod_record_84 rfl rfl) ?_
          refine xW_callV O (dx_Mod_step O T) (fun _ e => ob_Mod_step e) rfl rfl rfl l_Mod_87 ⟨w_1808, w_84⟩ rfl (Nat.le_of_ble_eq_true rfl) d_Mod_record_85 (fun v17 s16 _ => ?_)
          refine xW_pure (fun _ _ _ _ _ => am_aload_n d_Mod_record_88 rfl rfl) ?_
          refine xW_pure (fun _ _ _ _ _ => am_ldcSw (T.2.2 18 ("StowTongueModel", 333, ":") rfl) d_Mod_record_89) ?_
          refine xW_callV O (dx_Mod_take O T) (fun _ e => ob_Mod_take e) rfl rfl rfl l_Mod_179 ⟨w_1851, w_90⟩ rfl (Nat.le_of_ble_eq_true rfl) d_Mod_record_92 (fun v19 s18 _ => ?_)
          refine xW_ite (fun _ _ _ _ _ => am_if_eq (tgt := 106) d_Mod_record_95 (by decide)) (fun _ => ?_) (fun _ => ?_)
          · refine xW_pure (fun _ _ _ _ _ => am_iconst (v := 0) d_Mod_record_106 (by decide)) ?_
            exact xW_ret (fun _ _ _ _ _ => am_zret (ty := .boolean) rfl rfl d_Mod_record_107)
          · refine xW_pure (fun _ _ _ _ _ => am_aload_n d_Mod_record_98 rfl rfl) ?_
            refine xW_pure (fun _ _ _ _ _ => am_iload_n d_Mod_record_99 rfl rfl) ?_
            refine xW_callV O (H.2.2.2.2.2.2.1 _ _ _ _ _).1 (H.2.2.2.2.2.2.1 _ _ _ _ _).2 rfl rfl rfl l_Mod_214 ⟨w_1881, w_96⟩ rfl (Nat.le_of_ble_eq_true rfl) d_Mod_record_100 (fun v21 s20 _ => ?_)
            refine xW_ite (fun _ _ _ _ _ k1 k2 => am_if_ne (tgt := 108) d_Mod_record_103 (by decide) k2 k1) (fun _ => ?_) (fun _ => ?_)
            · refine xW_pure (fun _ _ _ _ _ => am_iconst (v := 0) d_Mod_record_106 (by decide)) ?_
              exact xW_ret (fun _ _ _ _ _ => am_zret (ty := .boolean) rfl rfl d_Mod_record_107)
            · refine xW_pure (fun _ _ _ _ _ => am_iinc (v := 1) d_Mod_record_108 rfl (by decide) (Nat.le_of_ble_eq_true rfl)) ?_
              refine xW_pure (fun _ _ _ _ _ => am_goto (tgt := 11) d_Mod_record_111 (by decide)) ?_
              refine xW_locs (lv' := [(0, .ref x0), (1, .int x1), (2, .int v1), (3, .int (z11.1 + 1))]) rfl ?_
              exact ih11 ((z11.1 + 1), s20)
        · refine xW_pure (fun _ _ _ _ _ => am_aload_n d_Mod_record_52 rfl rfl) ?_
          refine xW_callV O (dx_Mod_bad O T) (fun _ e => ob_Mod_bad e) rfl rfl rfl l_Mod_84 ⟨w_1841, w_88⟩ rfl (Nat.le_of_ble_eq_true rfl) d_Mod_record_53 (fun v23 s22 _ => ?_)
          refine xW_okB (fun hz => ?_)
          exact xW_ret (fun _ _ _ _ _ => am_zret (ty := .boolean) rfl (bz_nar hz) d_Mod_record_56)
      · refine xW_pure (fun _ _ _ _ _ => am_aload_n d_Mod_record_40 rfl rfl) ?_
        refine xW_callV O (dx_Mod_step O T) (fun _ e => ob_Mod_step e) rfl rfl rfl l_Mod_87 ⟨w_1808, w_84⟩ rfl (Nat.le_of_ble_eq_true rfl) d_Mod_record_41 (fun v25 s24 _ => ?_)
        refine xW_pure (fun _ _ _ _ _ => am_aload_n d_Mod_record_44 rfl rfl) ?_
        refine xW_gI O f_Mod_32 d_Mod_record_45 (fun v26 _ => ?_)
        refine xW_pure (fun _ _ _ _ _ => am_iconst (v := 1) d_Mod_record_48 (by decide)) ?_
        refine xW_ite (fun _ _ _ _ _ => am_icmp_eq (tgt := 57) d_Mod_record_49 (by decide)) (fun _ => ?_) (fun _ => ?_)
        · refine xW_pure (fun _ _ _ _ _ => am_aload_n d_Mod_record_57 rfl rfl) ?_
          refine xW_gR O f_Mod_330 d_Mod_record_58 (fun v27 _ => ?_)
          refine xW_pure (fun _ _ _ _ _ => am_aload_n d_Mod_record_61 rfl rfl) ?_
          refine xW_gI O f_Mod_140 d_Mod_record_62 (fun v28 _ => ?_)
          refine xW_pure (fun _ _ _ _ _ => am_aload_n d_Mod_record_65 rfl rfl) ?_
          refine xW_pure (fun _ _ _ _ _ => am_aload_n d_Mod_record_66 rfl rfl) ?_
          refine xW_callV O (dx_Mod_name O T) (fun _ e => ob_Mod_name e) rfl rfl rfl l_Mod_164 ⟨w_1845, w_89⟩ rfl (Nat.le_of_ble_eq_true rfl) d_Mod_record_67 (fun v30 s29 _ => ?_)
          refine xW_callV O (dx_Mod_nameValue O T) (fun _ e => ob_Mod_nameValue e) rfl rfl rfl l_Mod_303 ⟨w_1932, w_106⟩ rfl (Nat.le_of_ble_eq_true rfl) d_Mod_record_70 (fun v32 s31 _ => ?_)
          refine xW_sI O d_Mod_record_73 (fun s33 _ => ?_)
          refine xW_pure (fun _ _ _ _ _ => am_aload_n d_Mod_record_74 rfl rfl) ?_
          refine xW_pure (fun _ _ _ _ _ => am_dup d_Mod_record_75 rfl) ?_
          refine xW_gI O f_Mod_140 d_Mod_record_76 (fun v34 _ => ?_)
          refine xW_pure (fun _ _ _ _ _ => am_iconst (v := 1) d_Mod_record_79 (by decide)) ?_
          refine xW_pure (fun _ _ _ _ _ => am_iadd d_Mod_record_80) ?_
          refine xW_put O f_Mod_140 d_Mod_record_81 (fun q hq => by cases hq; exact ⟨rfl, rfl, rfl⟩) (fun s35 _ => ?_)
          refine xW_pure (fun _ _ _ _ _ => am_aload_n d_Mod_record_84 rfl rfl) ?_
          refine xW_callV O (dx_Mod_step O T) (fun _ e => ob_Mod_step e) rfl rfl rfl l_Mod_87 ⟨w_1808, w_84⟩ rfl (Nat.le_of_ble_eq_true rfl) d_Mod_record_85 (fun v37 s36 _ => ?_)
          refine xW_pure (fun _ _ _ _ _ => am_aload_n d_Mod_record_88 rfl rfl) ?_
          refine xW_pure (fun _ _ _ _ _ => am_ldcSw (T.2.2 18 ("StowTongueModel", 333, ":") rfl) d_Mod_record_89) ?_
          refine xW_callV O (dx_Mod_take O T) (fun _ e => ob_Mod_take e) rfl rfl rfl l_Mod_179 ⟨w_1851, w_90⟩ rfl (Nat.le_of_ble_eq_true rfl) d_Mod_record_92 (fun v39 s38 _ => ?_)
          refine xW_ite (fun _ _ _ _ _ => am_if_eq (tgt := 106) d_Mod_record_95 (by decide)) (fun _ => ?_) (fun _ => ?_)
          · refine xW_pure (fun _ _ _ _ _ => am_iconst (v := 0) d_Mod_record_106 (by decide)) ?_
            exact xW_ret (fun _ _ _ _ _ => am_zret (ty := .boolean) rfl rfl d_Mod_record_107)
          · refine xW_pure (fun _ _ _ _ _ => am_aload_n d_Mod_record_98 rfl rfl) ?_
            refine xW_pure (fun _ _ _ _ _ => am_iload_n d_Mod_record_99 rfl rfl) ?_
            refine xW_callV O (H.2.2.2.2.2.2.1 _ _ _ _ _).1 (H.2.2.2.2.2.2.1 _ _ _ _ _).2 rfl rfl rfl l_Mod_214 ⟨w_1881, w_96⟩ rfl (Nat.le_of_ble_eq_true rfl) d_Mod_record_100 (fun v41 s40 _ => ?_)
            refine xW_ite (fun _ _ _ _ _ k1 k2 => am_if_ne (tgt := 108) d_Mod_record_103 (by decide) k2 k1) (fun _ => ?_) (fun _ => ?_)
            · refine xW_pure (fun _ _ _ _ _ => am_iconst (v := 0) d_Mod_record_106 (by decide)) ?_
              exact xW_ret (fun _ _ _ _ _ => am_zret (ty := .boolean) rfl rfl d_Mod_record_107)
            · refine xW_pure (fun _ _ _ _ _ => am_iinc (v := 1) d_Mod_record_108 rfl (by decide) (Nat.le_of_ble_eq_true rfl)) ?_
              refine xW_pure (fun _ _ _ _ _ => am_goto (tgt := 11) d_Mod_record_111 (by decide)) ?_
              refine xW_locs (lv' := [(0, .ref x0), (1, .int x1), (2, .int v1), (3, .int (z11.1 + 1))]) rfl ?_
              exact ih11 ((z11.1 + 1), s40)
        · refine xW_pure (fun _ _ _ _ _ => am_aload_n d_Mod_record_52 rfl rfl) ?_
          refine xW_callV O (dx_Mod_bad O T) (fun _ e => ob_Mod_bad e) rfl rfl rfl l_Mod_84 ⟨w_1841, w_88⟩ rfl (Nat.le_of_ble_eq_true rfl) d_Mod_record_53 (fun v43 s42 _ => ?_)
          refine xW_okB (fun hz => ?_)
          exact xW_ret (fun _ _ _ _ _ => am_zret (ty := .boolean) rfl (bz_nar hz) d_Mod_record_56)
    · refine xW_locs (lv' := [(0, .ref x0), (2, .int v1), (3, .int z11.1)]) rfl ?_
      exact dx_Mod_record_b114 O T H
  · refine xW_pure (fun _ _ _ _ _ => am_aload_n d_Mod_record_27 rfl rfl) ?_
    refine xW_pure (fun _ _ _ _ _ => am_ldcS (T.2.2 6 ("StowTongueModel", 184, ",") rfl) d_Mod_record_28) ?_
    refine xW_callV O (dx_Mod_is O T) (fun _ e => ob_Mod_is e) rfl rfl rfl l_Mod_80 ⟨w_1833, w_86⟩ rfl (Nat.le_of_ble_eq_true rfl) d_Mod_record_30 (fun v55 s54 _ => ?_)
    refine xW_ite (fun _ _ _ _ _ => am_if_eq (tgt := 114) d_Mod_record_33 (by decide)) (fun _ => ?_) (fun _ => ?_)
    · refine xW_locs (lv' := [(0, .ref x0), (2, .int v1), (3, .int z11.1)]) rfl ?_
      exact dx_Mod_record_b114 O T H
    · refine xW_pure (fun _ _ _ _ _ => am_iload_n d_Mod_record_36 rfl rfl) ?_
      refine xW_ite (fun _ _ _ _ _ => am_if_le (tgt := 44) d_Mod_record_37 (by decide)) (fun _ => ?_) (fun _ => ?_)
      · refine xW_pure (fun _ _ _ _ _ => am_aload_n d_Mod_record_44 rfl rfl) ?_
        refine xW_gI O f_Mod_32 d_Mod_record_45 (fun v56 _ => ?_)
        refine xW_pure (fun _ _ _ _ _ => am_iconst (v := 1) d_Mod_record_48 (by decide)) ?_
        refine xW_ite (fun _ _ _ _ _ => am_icmp_eq (tgt := 57) d_Mod_record_49 (by decide)) (fun _ => ?_) (fun _ => ?_)
        · refine xW_pure (fun _ _ _ _ _ => am_aload_n d_Mod_record_57 rfl rfl) ?_
          refine xW_gR O f_Mod_330 d_Mod_record_58 (fun v57 _ => ?_)
          refine xW_pure (fun _ _ _ _ _ => am_aload_n d_Mod_record_61 rfl rfl) ?_
          refine xW_gI O f_Mod_140 d_Mod_record_62 (fun v58 _ => ?_)
          refine xW_pure (fun _ _ _ _ _ => am_aload_n d_Mod_record_65 rfl rfl) ?_
          refine xW_pure (fun _ _ _ _ _ => am_aload_n d_Mod_record_66 rfl rfl) ?_
          refine xW_callV O (dx_Mod_name O T) (fun _ e => ob_Mod_name e) rfl rfl rfl l_Mod_164 ⟨w_1845, w_89⟩ rfl (Nat.le_of_ble_eq_true rfl) d_Mod_record_67 (fun v60 s59 _ => ?_)
          refine xW_callV O (dx_Mod_nameValue O T) (fun _ e => ob_Mod_nameValue e) rfl rfl rfl l_Mod_303 ⟨w_1932, w_106⟩ rfl (Nat.le_of_ble_eq_true rfl) d_Mod_record_70 (fun v62 s61 _ => ?_)
          refine xW_sI O d_Mod_record_73 (fun s63 _ => ?_)
          refine xW_pure (fun _ _ _ _ _ => am_aload_n d_Mod_record_74 rfl rfl) ?_
          refine xW_pure (fun _ _ _ _ _ => am_dup d_Mod_record_75 rfl) ?_
          refine xW_gI O f_Mod_140 d_Mod_record_76 (fun v64 _ => ?_)
          refine xW_pure (fun _ _ _ _ _ => am_iconst (v := 1) d_Mod_record_79 (by decide)) ?_
          refine xW_pure (fun _ _ _ _ _ => am_iadd d_Mod_record_80) ?_
          refine xW_put O f_Mod_140 d_Mod_record_81 (fun q hq => by cases hq; exact ⟨rfl, rfl, rfl⟩) (fun s65 _ => ?_)
          refine xW_pure (fun _ _ _ _ _ => am_aload_n d_Mod_record_84 rfl rfl) ?_
          refine xW_callV O (dx_Mod_step O T) (fun _ e => ob_Mod_step e) rfl rfl rfl l_Mod_87 ⟨w_1808, w_84⟩ rfl (Nat.le_of_ble_eq_true rfl) d_Mod_record_85 (fun v67 s66 _ => ?_)
          refine xW_pure (fun _ _ _ _ _ => am_aload_n d_Mod_record_88 rfl rfl) ?_
          refine xW_pure (fun _ _ _ _ _ => am_ldcSw (T.2.2 18 ("StowTongueModel", 333, ":") rfl) d_Mod_record_89) ?_
          refine xW_callV O (dx_Mod_take O T) (fun _ e => ob_Mod_take e) rfl rfl rfl l_Mod_179 ⟨w_1851, w_90⟩ rfl (Nat.le_of_ble_eq_true rfl) d_Mod_record_92 (fun v69 s68 _ => ?_)
          refine xW_ite (fun _ _ _ _ _ => am_if_eq (tgt := 106) d_Mod_record_95 (by decide)) (fun _ => ?_) (fun _ => ?_)
          · refine xW_pure (fun _ _ _ _ _ => am_iconst (v := 0) d_Mod_record_106 (by decide)) ?_
            exact xW_ret (fun _ _ _ _ _ => am_zret (ty := .boolean) rfl rfl d_Mod_record_107)
          · refine xW_pure (fun _ _ _ _ _ => am_aload_n d_Mod_record_98 rfl rfl) ?_
            refine xW_pure (fun _ _ _ _ _ => am_iload_n d_Mod_record_99 rfl rfl) ?_
            refine xW_callV O (H.2.2.2.2.2.2.1 _ _ _ _ _).1 (H.2.2.2.2.2.2.1 _ _ _ _ _).2 rfl rfl rfl l_Mod_214 ⟨w_1881, w_96⟩ rfl (Nat.le_of_ble_eq_true rfl) d_Mod_record_100 (fun v71 s70 _ => ?_)
            refine xW_ite (fun _ _ _ _ _ k1 k2 => am_if_ne (tgt := 108) d_Mod_record_103 (by decide) k2 k1) (fun _ => ?_) (fun _ => ?_)
            · refine xW_pure (fun _ _ _ _ _ => am_iconst (v := 0) d_Mod_record_106 (by decide)) ?_
              exact xW_ret (fun _ _ _ _ _ => am_zret (ty := .boolean) rfl rfl d_Mod_record_107)
            · refine xW_pure (fun _ _ _ _ _ => am_iinc (v := 1) d_Mod_record_108 rfl (by decide) (Nat.le_of_ble_eq_true rfl)) ?_
              refine xW_pure (fun _ _ _ _ _ => am_goto (tgt := 11) d_Mod_record_111 (by decide)) ?_
              refine xW_locs (lv' := [(0, .ref x0), (1, .int x1), (2, .int v1), (3, .int (z11.1 + 1))]) rfl ?_
              exact ih11 ((z11.1 + 1), s70)
        · refine xW_pure (fun _ _ _ _ _ => am_aload_n d_Mod_record_52 rfl rfl) ?_
          refine xW_callV O (dx_Mod_bad O T) (fun _ e => ob_Mod_bad e) rfl rfl rfl l_Mod_84 ⟨w_1841, w_88⟩ rfl (Nat.le_of_ble_eq_true rfl) d_Mod_record_53 (fun v73 s72 _ => ?_)
          refine xW_okB (fun hz => ?_)
          exact xW_ret (fun _ _ _ _ _ => am_zret (ty := .boolean) rfl (bz_nar hz) d_Mod_record_56)
      · refine xW_pure (fun _ _ _ _ _ => am_aload_n d_Mod_record_40 rfl rfl) ?_
        refine xW_callV O (dx_Mod_step O T) (fun _ e => ob_Mod_step e) rfl rfl rfl l_Mod_87 ⟨w_1808, w_84⟩ rfl (Nat.le_of_ble_eq_true rfl) d_Mod_record_41 (fun v75 s74 _ => ?_)
        refine xW_pure (fun _ _ _ _ _ => am_aload_n d_Mod_record_44 rfl rfl) ?_
        refine xW_gI O f_Mod_32 d_Mod_record_45 (fun v76 _ => ?_)
        refine xW_pure (fun _ _ _ _ _ => am_iconst (v := 1) d_Mod_record_48 (by decide)) ?_
        refine xW_ite (fun _ _ _ _ _ => am_icmp_eq (tgt := 57) d_Mod_record_49 (by decide)) (fun _ => ?_) (fun _ => ?_)
        · refine xW_pure (fun _ _ _ _ _ => am_aload_n d_Mod_record_57 rfl rfl) ?_
          refine xW_gR O f_Mod_330 d_Mod_record_58 (fun v77 _ => ?_)
          refine xW_pure (fun _ _ _ _ _ => am_aload_n d_Mod_record_61 rfl rfl) ?_
          refine xW_gI O f_Mod_140 d_Mod_record_62 (fun v78 _ => ?_)
          refine xW_pure (fun _ _ _ _ _ => am_aload_n d_Mod_record_65 rfl rfl) ?_
          refine xW_pure (fun _ _ _ _ _ => am_aload_n d_Mod_record_66 rfl rfl) ?_
          refine xW_callV O (dx_Mod_name O T) (fun _ e => ob_Mod_name e) rfl rfl rfl l_Mod_164 ⟨w_1845, w_89⟩ rfl (Nat.le_of_ble_eq_true rfl) d_Mod_record_67 (fun v80 s79 _ => ?_)
          refine xW_callV O (dx_Mod_nameValue O T) (fun _ e => ob_Mod_nameValue e) rfl rfl rfl l_Mod_303 ⟨w_1932, w_106⟩ rfl (Nat.le_of_ble_eq_true rfl) d_Mod_record_70 (fun v82 s81 _ => ?_)
          refine xW_sI O d_Mod_record_73 (fun s83 _ => ?_)
          refine xW_pure (fun _ _ _ _ _ => am_aload_n d_Mod_record_74 rfl rfl) ?_
          refine xW_pure (fun _ _ _ _ _ => am_dup d_Mod_record_75 rfl) ?_
          refine xW_gI O f_Mod_140 d_Mod_record_76 (fun v84 _ => ?_)
          refine xW_pure (fun _ _ _ _ _ => am_iconst (v := 1) d_Mod_record_79 (by decide)) ?_
          refine xW_pure (fun _ _ _ _ _ => am_iadd d_Mod_record_80) ?_
          refine xW_put O f_Mod_140 d_Mod_record_81 (fun q hq => by cases hq; exact ⟨rfl, rfl, rfl⟩) (fun s85 _ => ?_)
          refine xW_pure (fun _ _ _ _ _ => am_aload_n d_Mod_record_84 rfl rfl) ?_
          refine xW_callV O (dx_Mod_step O T) (fun _ e => ob_Mod_step e) rfl rfl rfl l_Mod_87 ⟨w_1808, w_84⟩ rfl (Nat.le_of_ble_eq_true rfl) d_Mod_record_85 (fun v87 s86 _ => ?_)
          refine xW_pure (fun _ _ _ _ _ => am_aload_n d_Mod_record_88 rfl rfl) ?_
          refine xW_pure (fun _ _ _ _ _ => am_ldcSw (T.2.2 18 ("StowTongueModel", 333, ":") rfl) d_Mod_record_89) ?_
          refine xW_callV O (dx_Mod_take O T) (fun _ e => ob_Mod_take e) rfl rfl rfl l_Mod_179 ⟨w_1851, w_90⟩ rfl (Nat.le_of_ble_eq_true rfl) d_Mod_record_92 (fun v89 s88 _ => ?_)
          refine xW_ite (fun _ _ _ _ _ => am_if_eq (tgt := 106) d_Mod_record_95 (by decide)) (fun _ => ?_) (fun _ => ?_)
          · refine xW_pure (fun _ _ _ _ _ => am_iconst (v := 0) d_Mod_record_106 (by decide)) ?_
            exact xW_ret (fun _ _ _ _ _ => am_zret (ty := .boolean) rfl rfl d_Mod_record_107)
          · refine xW_pure (fun _ _ _ _ _ => am_aload_n d_Mod_record_98 rfl rfl) ?_
            refine xW_pure (fun _ _ _ _ _ => am_iload_n d_Mod_record_99 rfl rfl) ?_
            refine xW_callV O (H.2.2.2.2.2.2.1 _ _ _ _ _).1 (H.2.2.2.2.2.2.1 _ _ _ _ _).2 rfl rfl rfl l_Mod_214 ⟨w_1881, w_96⟩ rfl (Nat.le_of_ble_eq_true rfl) d_Mod_record_100 (fun v91 s90 _ => ?_)
            refine xW_ite (fun _ _ _ _ _ k1 k2 => am_if_ne (tgt := 108) d_Mod_record_103 (by decide) k2 k1) (fun _ => ?_) (fun _ => ?_)
            · refine xW_pure (fun _ _ _ _ _ => am_iconst (v := 0) d_Mod_record_106 (by decide)) ?_
              exact xW_ret (fun _ _ _ _ _ => am_zret (ty := .boolean) rfl rfl d_Mod_record_107)
            · refine xW_pure (fun _ _ _ _ _ => am_iinc (v := 1) d_Mod_record_108 rfl (by decide) (Nat.le_of_ble_eq_true rfl)) ?_
              refine xW_pure (fun _ _ _ _ _ => am_goto (tgt := 11) d_Mod_record_111 (by decide)) ?_
              refine xW_locs (lv' := [(0, .ref x0), (1, .int x1), (2, .int v1), (3, .int (z11.1 + 1))]) rfl ?_
              exact ih11 ((z11.1 + 1), s90)
        · refine xW_pure (fun _ _ _ _ _ => am_aload_n d_Mod_record_52 rfl rfl) ?_
          refine xW_callV O (dx_Mod_bad O T) (fun _ e => ob_Mod_bad e) rfl rfl rfl l_Mod_84 ⟨w_1841, w_88⟩ rfl (Nat.le_of_ble_eq_true rfl) d_Mod_record_53 (fun v93 s92 _ => ?_)
          refine xW_okB (fun hz => ?_)
          exact xW_ret (fun _ _ _ _ _ => am_zret (ty := .boolean) rfl (bz_nar hz) d_Mod_record_56)

set_option maxRecDepth 100000 in
def x_Mod_row_b56 (c : CLT) (d : Nat) (l0 : Nat) (l2 : Int32) (s : HS) : Option (Int32 × HS) := bnd (x_Mod_put_II d l0 21 l2 s) fun v12 s11 => ((pV s11 l0 14 25 (.int 0)).bind fun s13 => (bnd (x_Mod_take d l0 44 s13) fun v15 s14 => (okB v15 (some (v15, s14)))))

set_option maxRecDepth 100000 in
set_option maxHeartbeats 4000000 in
theorem dx_Mod_row_b56 (O : am_ok K X) (T : am_T K) {c : CLT} {d : Nat} (H : HC_M K X c d) {l0 : Nat} {l2 : Int32} {s : HS} : xW cvI K X m_Mod_row (d + 1) 56 [(0, .ref l0), (2, .int l2)] [] s (x_Mod_row_b56 c d l0 l2 s) := by
  unfold x_Mod_row_b56
  refine xW_pure (fun _ _ _ _ _ => am_aload_n d_Mod_row_56 rfl rfl) ?_
  refine xW_pure (fun _ _ _ _ _ => am_bipush (v := 21) d_Mod_row_57 (by decide)) ?_
  refine xW_pure (fun _ _ _ _ _ => am_iload_n d_Mod_row_59 rfl rfl) ?_
  refine xW_callV O (dx_Mod_put_II O T) (fun _ e => ob_Mod_put_II e) rfl rfl rfl l_Mod_120 ⟨w_1919, w_104⟩ rfl (Nat.le_of_ble_eq_true rfl) d_Mod_row_60 (fun v12 s11 _ => ?_)
  refine xW_pure (fun _ _ _ _ _ => am_aload_n d_Mod_row_63 rfl rfl) ?_
  refine xW_pure (fun _ _ _ _ _ => am_iconst (v := 0) d_Mod_row_64 (by decide)) ?_
  refine xW_put O f_Mod_249 d_Mod_row_65 (fun q hq => by cases hq; exact ⟨rfl, rfl, rfl⟩) (fun s13 _ => ?_)
  refine xW_pure (fun _ _ _ _ _ => am_aload_n d_Mod_row_68 rfl rfl) ?_
  refine xW_pure (fun _ _ _ _ _ => am_ldcSw (T.2.2 19 ("StowTongueModel", 306, "]") rfl) d_Mod_row_69) ?_
  refine xW_callV O (dx_Mod_take O T) (fun _ e => ob_Mod_take e) rfl rfl rfl l_Mod_179 ⟨w_1851, w_90⟩ rfl (Nat.le_of_ble_eq_true rfl) d_Mod_row_72 (fun v15 s14 _ => ?_)
  refine xW_okB (fun hz => ?_)
  exact xW_ret (fun _ _ _ _ _ => am_zret (ty := .boolean) rfl (bz_nar hz) d_Mod_row_75)

set_option maxRecDepth 100000 in
def x_Mod_row_b (c : CLT) (d : Nat) (x0 : Nat) (x1 : Int32) (s : HS) : Option (Int32 × HS) := gd s x0 14 (bnd (x_Mod_step d x0 s) fun v2 s1 => (loopK (fun (again6 : Int32 × HS → Option (Int32 × HS)) (z6 : Int32 × HS) => (if z6.1 = 0 then (bnd (x_Mod_is d x0 44 z6.2) fun v4 s3 => (if v4 = 0 then (if z6.1 ≤ 0 then (bnd ((c 6 x0 x1 0 0 s3)) fun v6 s5 => (if v6 = 0 then (some (0, s5)) else (again6 ((z6.1 + 1), s5)))) else (bnd (x_Mod_step d x0 s3) fun v8 s7 => (bnd ((c 6 x0 x1 0 0 s7)) fun v10 s9 => (if v10 = 0 then (some (0, s9)) else (again6 ((z6.1 + 1), s9)))))) else (x_Mod_row_b56 c d x0 z6.1 s3))) else (bnd (x_Mod_is d x0 18 z6.2) fun v17 s16 => (if v17 = 0 then (x_Mod_row_b56 c d x0 z6.1 s16) else (if z6.1 ≤ 0 then (bnd ((c 6 x0 x1 0 0 s16)) fun v19 s18 => (if v19 = 0 then (some (0, s18)) else (again6 ((z6.1 + 1), s18)))) else (bnd (x_Mod_step d x0 s16) fun v21 s20 => (bnd ((c 6 x0 x1 0 0 s20)) fun v23 s22 => (if v23 = 0 then (some (0, s22)) else (again6 ((z6.1 + 1), s22)))))))))) FU (0, s1)))

set_option maxRecDepth 100000 in
set_option maxHeartbeats 4000000 in
theorem dx_Mod_row_b (O : am_ok K X) (T : am_T K) {c : CLT} {d : Nat} (H : HC_M K X c d) {x0 : Nat} {x1 : Int32} {s : HS} : xM cvI K X m_Mod_row (d + 1) [.ref x0, .int x1] s (x_Mod_row_b c d x0 x1 s) := by
  unfold x_Mod_row_b
  refine xM_enter (by decide +kernel) (Nat.le_of_ble_eq_true rfl) ?_
  refine xW_gd (fun _ => ?_)
  refine xW_pure (fun _ _ _ _ _ => am_iconst (v := 0) d_Mod_row_0 (by decide)) ?_
  refine xW_pure (fun _ _ _ _ _ => am_istore_n d_Mod_row_1 rfl (Nat.le_of_ble_eq_true rfl)) ?_
  refine xW_pure (fun _ _ _ _ _ => am_aload_n d_Mod_row_2 rfl rfl) ?_
  refine xW_callV O (dx_Mod_step O T) (fun _ e => ob_Mod_step e) rfl rfl rfl l_Mod_87 ⟨w_1808, w_84⟩ rfl (Nat.le_of_ble_eq_true rfl) d_Mod_row_3 (fun v2 s1 _ => ?_)
  refine xW_locs (lv' := [(0, .ref x0), (1, .int x1), (2, .int 0)]) rfl ?_
  refine xW_loop (lvf := fun (z6 : Int32 × HS) => [(0, .ref x0), (1, .int x1), (2, .int z6.1)]) (hsf := fun (z6 : Int32 × HS) => z6.2) (fun again6 ih6 z6 => ?_) FU (0, s1)
  refine xW_pure (fun _ _ _ _ _ => am_iload_n d_Mod_row_6 rfl rfl) ?_
  refine xW_ite (fun _ _ _ _ _ k1 k2 => am_if_ne (tgt := 23) d_Mod_row_7 (by decide) k2 k1) (fun _ => ?_) (fun _ => ?_)
  · refine xW_pure (fun _ _ _ _ _ => am_aload_n d_Mod_row_10 rfl rfl) ?_
    refine xW_pure (fun _ _ _ _ _ => am_ldcSw (T.2.2 19 ("StowTongueModel", 306, "]") rfl) d_Mod_row_11) ?_
    refine xW_callV O (dx_Mod_is O T) (fun _ e => ob_Mod_is e) rfl rfl rfl l_Mod_80 ⟨w_1833, w_86⟩ rfl (Nat.le_of_ble_eq_true rfl) d_Mod_row_14 (fun v4 s3 _ => ?_)
    refine xW_ite (fun _ _ _ _ _ k1 k2 => am_if_ne (tgt := 56) d_Mod_row_17 (by decide) k2 k1) (fun _ => ?_) (fun _ => ?_)
    · refine xW_pure (fun _ _ _ _ _ => am_goto (tgt := 32) d_Mod_row_20 (by decide)) ?_
      refine xW_pure (fun _ _ _ _ _ => am_iload_n d_Mod_row_32 rfl rfl) ?_
      refine xW_ite (fun _ _ _ _ _ => am_if_le (tgt := 40) d_Mod_row_33 (by decide)) (fun _ => ?_) (fun _ => ?_)
      · refine xW_pure (fun _ _ _ _ _ => am_aload_n d_Mod_row_40 rfl rfl) ?_
        refine xW_pure (fun _ _ _ _ _ => am_iload_n d_Mod_row_41 rfl rfl) ?_
        refine xW_callV O (H.2.2.2.2.2.2.1 _ _ _ _ _).1 (H.2.2.2.2.2.2.1 _ _ _ _ _).2 rfl rfl rfl l_Mod_214 ⟨w_1881, w_96⟩ rfl (Nat.le_of_ble_eq_true rfl) d_Mod_row_42 (fun v6 s5 _ => ?_)
        refine xW_ite (fun _ _ _ _ _ k1 k2 => am_if_ne (tgt := 50) d_Mod_row_45 (by decide) k2 k1) (fun _ => ?_) (fun _ => ?_)
        · refine xW_pure (fun _ _ _ _ _ => am_iconst (v := 0) d_Mod_row_48 (by decide)) ?_
          exact xW_ret (fun _ _ _ _ _ => am_zret (ty := .boolean) rfl rfl d_Mod_row_49)
        · refine xW_pure (fun _ _ _ _ _ => am_iinc (v := 1) d_Mod_row_50 rfl (by decide) (Nat.le_of_ble_eq_true rfl)) ?_
          refine xW_pure (fun _ _ _ _ _ => am_goto (tgt := 6) d_Mod_row_53 (by decide)) ?_
          refine xW_locs (lv' := [(0, .ref x0), (1, .int x1), (2, .int (z6.1 + 1))]) rfl ?_
          exact ih6 ((z6.1 + 1), s5)
      · refine xW_pure (fun _ _ _ _ _ => am_aload_n d_Mod_row_36 rfl rfl) ?_
        refine xW_callV O (dx_Mod_step O T) (fun _ e => ob_Mod_step e) rfl rfl rfl l_Mod_87 ⟨w_1808, w_84⟩ rfl (Nat.le_of_ble_eq_true rfl) d_Mod_row_37 (fun v8 s7 _ => ?_)
        refine xW_pure (fun _ _ _ _ _ => am_aload_n d_Mod_row_40 rfl rfl) ?_
        refine xW_pure (fun _ _ _ _ _ => am_iload_n d_Mod_row_41 rfl rfl) ?_
        refine xW_callV O (H.2.2.2.2.2.2.1 _ _ _ _ _).1 (H.2.2.2.2.2.2.1 _ _ _ _ _).2 rfl rfl rfl l_Mod_214 ⟨w_1881, w_96⟩ rfl (Nat.le_of_ble_eq_true rfl) d_Mod_row_42 (fun v10 s9 _ => ?_)
        refine xW_ite (fun _ _ _ _ _ k1 k2 => am_if_ne (tgt := 50) d_Mod_row_45 (by decide) k2 k1) (fun _ => ?_) (fun _ => ?_)
        · refine xW_pure (fun _ _ _ _ _ => am_iconst (v := 0) d_Mod_row_48 (by decide)) ?_
          exact xW_ret (fun _ _ _ _ _ => am_zret (ty := .boolean) rfl rfl d_Mod_row_49)
        · refine xW_pure (fun _ _ _ _ _ => am_iinc (v := 1) d_Mod_row_50 rfl (by decide) (Nat.le_of_ble_eq_true rfl)) ?_
          refine xW_pure (fun _ _ _ _ _ => am_goto (tgt := 6) d_Mod_row_53 (by decide)) ?_
          refine xW_locs (lv' := [(0, .ref x0), (1, .int x1), (2, .int (z6.1 + 1))]) rfl ?_
          exact ih6 ((z6.1 + 1), s9)
    · refine xW_locs (lv' := [(0, .ref x0), (2, .int z6.1)]) rfl ?_
      exact dx_Mod_row_b56 O T H
  · refine xW_pure (fun _ _ _ _ _ => am_aload_n d_Mod_row_23 rfl rfl) ?_
    refine xW_pure (fun _ _ _ _ _ => am_ldcS (T.2.2 6 ("StowTongueModel", 184, ",") rfl) d_Mod_row_24) ?_
    refine xW_callV O (dx_Mod_is O T) (fun _ e => ob_Mod_is e) rfl rfl rfl l_Mod_80 ⟨w_1833, w_86⟩ rfl (Nat.le_of_ble_eq_true rfl) d_Mod_row_26 (fun v17 s16 _ => ?_)
    refine xW_ite (fun _ _ _ _ _ => am_if_eq (tgt := 56) d_Mod_row_29 (by decide)) (fun _ => ?_) (fun _ => ?_)
    · refine xW_locs (lv' := [(0, .ref x0), (2, .int z6.1)]) rfl ?_
      exact dx_Mod_row_b56 O T H
    · refine xW_pure (fun _ _ _ _ _ => am_iload_n d_Mod_row_32 rfl rfl) ?_
      refine xW_ite (fun _ _ _ _ _ => am_if_le (tgt := 40) d_Mod_row_33 (by decide)) (fun _ => ?_) (fun _ => ?_)
      · refine xW_pure (fun _ _ _ _ _ => am_aload_n d_Mod_row_40 rfl rfl) ?_
        refine xW_pure (fun _ _ _ _ _ => am_iload_n d_Mod_row_41 rfl rfl) ?_
        refine xW_callV O (H.2.2.2.2.2.2.1 _ _ _ _ _).1 (H.2.2.2.2.2.2.1 _ _ _ _ _).2 rfl rfl rfl l_Mod_214 ⟨w_1881, w_96⟩ rfl (Nat.le_of_ble_eq_true rfl) d_Mod_row_42 (fun v19 s18 _ => ?_)
        refine xW_ite (fun _ _ _ _ _ k1 k2 => am_if_ne (tgt := 50) d_Mod_row_45 (by decide) k2 k1) (fun _ => ?_) (fun _ => ?_)
        · refine xW_pure (fun _ _ _ _ _ => am_iconst (v := 0) d_Mod_row_48 (by decide)) ?_
          exact xW_ret (fun _ _ _ _ _ => am_zret (ty := .boolean) rfl rfl d_Mod_row_49)
        · refine xW_pure (fun _ _ _ _ _ => am_iinc (v := 1) d_Mod_row_50 rfl (by decide) (Nat.le_of_ble_eq_true rfl)) ?_
          refine xW_pure (fun _ _ _ _ _ => am_goto (tgt := 6) d_Mod_row_53 (by decide)) ?_
          refine xW_locs (lv' := [(0, .ref x0), (1, .int x1), (2, .int (z6.1 + 1))]) rfl ?_
          exact ih6 ((z6.1 + 1), s18)
      · refine xW_pure (fun _ _ _ _ _ => am_aload_n d_Mod_row_36 rfl rfl) ?_
        refine xW_callV O (dx_Mod_step O T) (fun _ e => ob_Mod_step e) rfl rfl rfl l_Mod_87 ⟨w_1808, w_84⟩ rfl (Nat.le_of_ble_eq_true rfl) d_Mod_row_37 (fun v21 s20 _ => ?_)
        refine xW_pure (fun _ _ _ _ _ => am_aload_n d_Mod_row_40 rfl rfl) ?_
        refine xW_pure (fun _ _ _ _ _ => am_iload_n d_Mod_row_41 rfl rfl) ?_
        refine xW_callV O (H.2.2.2.2.2.2.1 _ _ _ _ _).1 (H.2.2.2.2.2.2.1 _ _ _ _ _).2 rfl rfl rfl l_Mod_214 ⟨w_1881, w_96⟩ rfl (Nat.le_of_ble_eq_true rfl) d_Mod_row_42 (fun v23 s22 _ => ?_)
        refine xW_ite (fun _ _ _ _ _ k1 k2 => am_if_ne (tgt := 50) d_Mod_row_45 (by decide) k2 k1) (fun _ => ?_) (fun _ => ?_)
        · refine xW_pure (fun _ _ _ _ _ => am_iconst (v := 0) d_Mod_row_48 (by decide)) ?_
          exact xW_ret (fun _ _ _ _ _ => am_zret (ty := .boolean) rfl rfl d_Mod_row_49)
        · refine xW_pure (fun _ _ _ _ _ => am_iinc (v := 1) d_Mod_row_50 rfl (by decide) (Nat.le_of_ble_eq_true rfl)) ?_
          refine xW_pure (fun _ _ _ _ _ => am_goto (tgt := 6) d_Mod_row_53 (by decide)) ?_
          refine xW_locs (lv' := [(0, .ref x0), (1, .int x1), (2, .int (z6.1 + 1))]) rfl ?_
          exact ih6 ((z6.1 + 1), s22)

def clM : Nat → CLT
  | 0 => fun _ _ _ _ _ _ => none
  | d + 1 => fun i r x y z s => if i = 0 then x_Mod_block_b (clM d) d r x s else if i = 1 then x_Mod_test_b (clM d) d r x s else if i = 2 then x_Mod_statement_b (clM d) d r x s else if i = 3 then x_Mod_branch_b (clM d) d r x s else if i = 4 then x_Mod_loop_b (clM d) d r x s else if i = 5 then x_Mod_assignment_b (clM d) d r x s else if i = 6 then x_Mod_expression_b (clM d) d r x s else if i = 7 then x_Mod_either_b (clM d) d r x y s else if i = 8 then x_Mod_compared_b (clM d) d r x s else if i = 9 then x_Mod_sum_II_b (clM d) d r x y s else if i = 10 then x_Mod_unary_b (clM d) d r x s else if i = 11 then x_Mod_atom_b (clM d) d r x s else if i = 12 then x_Mod_simple_b (clM d) d r x s else if i = 13 then x_Mod_named_b (clM d) d r x s else if i = 14 then x_Mod_built_b (clM d) d r x s else if i = 15 then x_Mod_record_b (clM d) d r x s else if i = 16 then x_Mod_row_b (clM d) d r x s else none

set_option maxRecDepth 100000 in
theorem dclM (O : am_ok K X) (T : am_T K) : ∀ d, HC_M K X (clM d) d
  | 0 => ⟨fun _ _ _ _ _ => ⟨xM_none, fun w h => by cases h⟩, fun _ _ _ _ _ => ⟨xM_none, fun w h => by cases h⟩, fun _ _ _ _ _ => ⟨xM_none, fun w h => by cases h⟩, fun _ _ _ _ _ => ⟨xM_none, fun w h => by cases h⟩, fun _ _ _ _ _ => ⟨xM_none, fun w h => by cases h⟩, fun _ _ _ _ _ => ⟨xM_none, fun w h => by cases h⟩, fun _ _ _ _ _ => ⟨xM_none, fun w h => by cases h⟩, fun _ _ _ _ _ => ⟨xM_none, fun w h => by cases h⟩, fun _ _ _ _ _ => ⟨xM_none, fun w h => by cases h⟩, fun _ _ _ _ _ => ⟨xM_none, fun w h => by cases h⟩, fun _ _ _ _ _ => ⟨xM_none, fun w h => by cases h⟩, fun _ _ _ _ _ => ⟨xM_none, fun w h => by cases h⟩, fun _ _ _ _ _ => ⟨xM_none, fun w h => by cases h⟩, fun _ _ _ _ _ => ⟨xM_none, fun w h => by cases h⟩, fun _ _ _ _ _ => ⟨xM_none, fun w h => by cases h⟩, fun _ _ _ _ _ => ⟨xM_none, fun w h => by cases h⟩, fun _ _ _ _ _ => ⟨xM_none, fun w h => by cases h⟩⟩
  | d + 1 => ⟨fun r x y z s => ⟨by rw [show clM (d + 1) 0 r x y z s = x_Mod_block_b (clM d) d r x s from rfl]; exact dx_Mod_block_b O T (dclM O T d), fun w h => by rw [show clM (d + 1) 0 r x y z s = x_Mod_block_b (clM d) d r x s from rfl] at h; exact (gd_spec h).1⟩,
    fun r x y z s => ⟨by rw [show clM (d + 1) 1 r x y z s = x_Mod_test_b (clM d) d r x s from rfl]; exact dx_Mod_test_b O T (dclM O T d), fun w h => by rw [show clM (d + 1) 1 r x y z s = x_Mod_test_b (clM d) d r x s from rfl] at h; exact (gd_spec h).1⟩,
    fun r x y z s => ⟨by rw [show clM (d + 1) 2 r x y z s = x_Mod_statement_b (clM d) d r x s from rfl]; exact dx_Mod_statement_b O T (dclM O T d), fun w h => by rw [show clM (d + 1) 2 r x y z s = x_Mod_statement_b (clM d) d r x s from rfl] at h; exact (gd_spec h).1⟩,
    fun r x y z s => ⟨by rw [show clM (d + 1) 3 r x y z s = x_Mod_branch_b (clM d) d r x s from rfl]; exact dx_Mod_branch_b O T (dclM O T d), fun w h => by rw [show clM (d + 1) 3 r x y z s = x_Mod_branch_b (clM d) d r x s from rfl] at h; exact (gd_spec h).1⟩,
    fun r x y z s => ⟨by rw [show clM (d + 1) 4 r x y z s = x_Mod_loop_b (clM d) d r x s from rfl]; exact dx_Mod_loop_b O T (dclM O T d), fun w h => by rw [show clM (d + 1) 4 r x y z s = x_Mod_loop_b (clM d) d r x s from rfl] at h; exact (gd_spec h).1⟩,
    fun r x y z s => ⟨by rw [show clM (d + 1) 5 r x y z s = x_Mod_assignment_b (clM d) d r x s from rfl]; exact dx_Mod_assignment_b O T (dclM O T d), fun w h => by rw [show clM (d + 1) 5 r x y z s = x_Mod_assignment_b (clM d) d r x s from rfl] at h; exact (gd_spec h).1⟩,
    fun r x y z s => ⟨by rw [show clM (d + 1) 6 r x y z s = x_Mod_expression_b (clM d) d r x s from rfl]; exact dx_Mod_expression_b O T (dclM O T d), fun w h => by rw [show clM (d + 1) 6 r x y z s = x_Mod_expression_b (clM d) d r x s from rfl] at h; exact (gd_spec h).1⟩,
    fun r x y z s => ⟨by rw [show clM (d + 1) 7 r x y z s = x_Mod_either_b (clM d) d r x y s from rfl]; exact dx_Mod_either_b O T (dclM O T d), fun w h => by rw [show clM (d + 1) 7 r x y z s = x_Mod_either_b (clM d) d r x y s from rfl] at h; exact (gd_spec h).1⟩,
    fun r x y z s => ⟨by rw [show clM (d + 1) 8 r x y z s = x_Mod_compared_b (clM d) d r x s from rfl]; exact dx_Mod_compared_b O T (dclM O T d), fun w h => by rw [show clM (d + 1) 8 r x y z s = x_Mod_compared_b (clM d) d r x s from rfl] at h; exact (gd_spec h).1⟩,
    fun r x y z s => ⟨by rw [show clM (d + 1) 9 r x y z s = x_Mod_sum_II_b (clM d) d r x y s from rfl]; exact dx_Mod_sum_II_b O T (dclM O T d), fun w h => by rw [show clM (d + 1) 9 r x y z s = x_Mod_sum_II_b (clM d) d r x y s from rfl] at h; exact (gd_spec h).1⟩,
    fun r x y z s => ⟨by rw [show clM (d + 1) 10 r x y z s = x_Mod_unary_b (clM d) d r x s from rfl]; exact dx_Mod_unary_b O T (dclM O T d), fun w h => by rw [show clM (d + 1) 10 r x y z s = x_Mod_unary_b (clM d) d r x s from rfl] at h; exact (gd_spec h).1⟩,
    fun r x y z s => ⟨by rw [show clM (d + 1) 11 r x y z s = x_Mod_atom_b (clM d) d r x s from rfl]; exact dx_Mod_atom_b O T (dclM O T d), fun w h => by rw [show clM (d + 1) 11 r x y z s = x_Mod_atom_b (clM d) d r x s from rfl] at h; exact (gd_spec h).1⟩,
    fun r x y z s => ⟨by rw [show clM (d + 1) 12 r x y z s = x_Mod_simple_b (clM d) d r x s from rfl]; exact dx_Mod_simple_b O T (dclM O T d), fun w h => by rw [show clM (d + 1) 12 r x y z s = x_Mod_simple_b (clM d) d r x s from rfl] at h; exact (gd_spec h).1⟩,
    fun r x y z s => ⟨by rw [show clM (d + 1) 13 r x y z s = x_Mod_named_b (clM d) d r x s from rfl]; exact dx_Mod_named_b O T (dclM O T d), fun w h => by rw [show clM (d + 1) 13 r x y z s = x_Mod_named_b (clM d) d r x s from rfl] at h; exact (gd_spec h).1⟩,
    fun r x y z s => ⟨by rw [show clM (d + 1) 14 r x y z s = x_Mod_built_b (clM d) d r x s from rfl]; exact dx_Mod_built_b O T (dclM O T d), fun w h => by rw [show clM (d + 1) 14 r x y z s = x_Mod_built_b (clM d) d r x s from rfl] at h; exact (gd_spec h).1⟩,
    fun r x y z s => ⟨by rw [show clM (d + 1) 15 r x y z s = x_Mod_record_b (clM d) d r x s from rfl]; exact dx_Mod_record_b O T (dclM O T d), fun w h => by rw [show clM (d + 1) 15 r x y z s = x_Mod_record_b (clM d) d r x s from rfl] at h; exact (gd_spec h).1⟩,
    fun r x y z s => ⟨by rw [show clM (d + 1) 16 r x y z s = x_Mod_row_b (clM d) d r x s from rfl]; exact dx_Mod_row_b O T (dclM O T d), fun w h => by rw [show clM (d + 1) 16 r x y z s = x_Mod_row_b (clM d) d r x s from rfl] at h; exact (gd_spec h).1⟩⟩

def x_Mod_block (d : Nat) (x0 : Nat) (x1 : Int32) (s : HS) : Option (Int32 × HS) := clM d 0 x0 x1 0 0 s

theorem dx_Mod_block (O : am_ok K X) (T : am_T K) {d : Nat} {x0 : Nat} {x1 : Int32} {s : HS} : xM cvI K X m_Mod_block d [.ref x0, .int x1] s (x_Mod_block d x0 x1 s) := ((dclM O T d).1 _ _ _ _ _).1

theorem ob_Mod_block {d : Nat} {x0 : Nat} {x1 : Int32} {s : HS} {y : Int32 × HS} (h : x_Mod_block d x0 x1 s = some y) : isO s x0 14 = true := by
  unfold x_Mod_block at h
  cases d with
  | zero => cases h
  | succ d =>
    rw [show clM (d + 1) 0 x0 x1 0 0 s = x_Mod_block_b (clM d) d x0 x1 s from rfl] at h
    exact (gd_spec h).1

def x_Mod_test (d : Nat) (x0 : Nat) (x1 : Int32) (s : HS) : Option (Int32 × HS) := clM d 1 x0 x1 0 0 s

theorem dx_Mod_test (O : am_ok K X) (T : am_T K) {d : Nat} {x0 : Nat} {x1 : Int32} {s : HS} : xM cvI K X m_Mod_test d [.ref x0, .int x1] s (x_Mod_test d x0 x1 s) := ((dclM O T d).2.1 _ _ _ _ _).1

theorem ob_Mod_test {d : Nat} {x0 : Nat} {x1 : Int32} {s : HS} {y : Int32 × HS} (h : x_Mod_test d x0 x1 s = some y) : isO s x0 14 = true := by
  unfold x_Mod_test at h
  cases d with
  | zero => cases h
  | succ d =>
    rw [show clM (d + 1) 1 x0 x1 0 0 s = x_Mod_test_b (clM d) d x0 x1 s from rfl] at h
    exact (gd_spec h).1

def x_Mod_statement (d : Nat) (x0 : Nat) (x1 : Int32) (s : HS) : Option (Int32 × HS) := clM d 2 x0 x1 0 0 s

theorem dx_Mod_statement (O : am_ok K X) (T : am_T K) {d : Nat} {x0 : Nat} {x1 : Int32} {s : HS} : xM cvI K X m_Mod_statement d [.ref x0, .int x1] s (x_Mod_statement d x0 x1 s) := ((dclM O T d).2.2.1 _ _ _ _ _).1

theorem ob_Mod_statement {d : Nat} {x0 : Nat} {x1 : Int32} {s : HS} {y : Int32 × HS} (h : x_Mod_statement d x0 x1 s = some y) : isO s x0 14 = true := by
  unfold x_Mod_statement at h
  cases d with
  | zero => cases h
  | succ d =>
    rw [show clM (d + 1) 2 x0 x1 0 0 s = x_Mod_statement_b (clM d) d x0 x1 s from rfl] at h
    exact (gd_spec h).1

def x_Mod_branch (d : Nat) (x0 : Nat) (x1 : Int32) (s : HS) : Option (Int32 × HS) := clM d 3 x0 x1 0 0 s

theorem dx_Mod_branch (O : am_ok K X) (T : am_T K) {d : Nat} {x0 : Nat} {x1 : Int32} {s : HS} : xM cvI K X m_Mod_branch d [.ref x0, .int x1] s (x_Mod_branch d x0 x1 s) := ((dclM O T d).2.2.2.1 _ _ _ _ _).1

theorem ob_Mod_branch {d : Nat} {x0 : Nat} {x1 : Int32} {s : HS} {y : Int32 × HS} (h : x_Mod_branch d x0 x1 s = some y) : isO s x0 14 = true := by
  unfold x_Mod_branch at h
  cases d with
  | zero => cases h
  | succ d =>
    rw [show clM (d + 1) 3 x0 x1 0 0 s = x_Mod_branch_b (clM d) d x0 x1 s from rfl] at h
    exact (gd_spec h).1

def x_Mod_loop (d : Nat) (x0 : Nat) (x1 : Int32) (s : HS) : Option (Int32 × HS) := clM d 4 x0 x1 0 0 s

theorem dx_Mod_loop (O : am_ok K X) (T : am_T K) {d : Nat} {x0 : Nat} {x1 : Int32} {s : HS} : xM cvI K X m_Mod_loop d [.ref x0, .int x1] s (x_Mod_loop d x0 x1 s) := ((dclM O T d).2.2.2.2.1 _ _ _ _ _).1

theorem ob_Mod_loop {d : Nat} {x0 : Nat} {x1 : Int32} {s : HS} {y : Int32 × HS} (h : x_Mod_loop d x0 x1 s = some y) : isO s x0 14 = true := by
  unfold x_Mod_loop at h
  cases d with
  | zero => cases h
  | succ d =>
    rw [show clM (d + 1) 4 x0 x1 0 0 s = x_Mod_loop_b (clM d) d x0 x1 s from rfl] at h
    exact (gd_spec h).1

def x_Mod_assignment (d : Nat) (x0 : Nat) (x1 : Int32) (s : HS) : Option (Int32 × HS) := clM d 5 x0 x1 0 0 s

theorem dx_Mod_assignment (O : am_ok K X) (T : am_T K) {d : Nat} {x0 : Nat} {x1 : Int32} {s : HS} : xM cvI K X m_Mod_assignment d [.ref x0, .int x1] s (x_Mod_assignment d x0 x1 s) := ((dclM O T d).2.2.2.2.2.1 _ _ _ _ _).1

theorem ob_Mod_assignment {d : Nat} {x0 : Nat} {x1 : Int32} {s : HS} {y : Int32 × HS} (h : x_Mod_assignment d x0 x1 s = some y) : isO s x0 14 = true := by
  unfold x_Mod_assignment at h
  cases d with
  | zero => cases h
  | succ d =>
    rw [show clM (d + 1) 5 x0 x1 0 0 s = x_Mod_assignment_b (clM d) d x0 x1 s from rfl] at h
    exact (gd_spec h).1

def x_Mod_expression (d : Nat) (x0 : Nat) (x1 : Int32) (s : HS) : Option (Int32 × HS) := clM d 6 x0 x1 0 0 s

theorem dx_Mod_expression (O : am_ok K X) (T : am_T K) {d : Nat} {x0 : Nat} {x1 : Int32} {s : HS} : xM cvI K X m_Mod_expression d [.ref x0, .int x1] s (x_Mod_expression d x0 x1 s) := ((dclM O T d).2.2.2.2.2.2.1 _ _ _ _ _).1

theorem ob_Mod_expression {d : Nat} {x0 : Nat} {x1 : Int32} {s : HS} {y : Int32 × HS} (h : x_Mod_expression d x0 x1 s = some y) : isO s x0 14 = true := by
  unfold x_Mod_expression at h
  cases d with
  | zero => cases h
  | succ d =>
    rw [show clM (d + 1) 6 x0 x1 0 0 s = x_Mod_expression_b (clM d) d x0 x1 s from rfl] at h
    exact (gd_spec h).1

def x_Mod_either (d : Nat) (x0 : Nat) (x1 : Int32) (x2 : Int32) (s : HS) : Option (Int32 × HS) := clM d 7 x0 x1 x2 0 s

theorem dx_Mod_either (O : am_ok K X) (T : am_T K) {d : Nat} {x0 : Nat} {x1 : Int32} {x2 : Int32} {s : HS} : xM cvI K X m_Mod_either d [.ref x0, .int x1, .int x2] s (x_Mod_either d x0 x1 x2 s) := ((dclM O T d).2.2.2.2.2.2.2.1 _ _ _ _ _).1

theorem ob_Mod_either {d : Nat} {x0 : Nat} {x1 : Int32} {x2 : Int32} {s : HS} {y : Int32 × HS} (h : x_Mod_either d x0 x1 x2 s = some y) : isO s x0 14 = true := by
  unfold x_Mod_either at h
  cases d with
  | zero => cases h
  | succ d =>
    rw [show clM (d + 1) 7 x0 x1 x2 0 s = x_Mod_either_b (clM d) d x0 x1 x2 s from rfl] at h
    exact (gd_spec h).1

def x_Mod_compared (d : Nat) (x0 : Nat) (x1 : Int32) (s : HS) : Option (Int32 × HS) := clM d 8 x0 x1 0 0 s

theorem dx_Mod_compared (O : am_ok K X) (T : am_T K) {d : Nat} {x0 : Nat} {x1 : Int32} {s : HS} : xM cvI K X m_Mod_compared d [.ref x0, .int x1] s (x_Mod_compared d x0 x1 s) := ((dclM O T d).2.2.2.2.2.2.2.2.1 _ _ _ _ _).1

theorem ob_Mod_compared {d : Nat} {x0 : Nat} {x1 : Int32} {s : HS} {y : Int32 × HS} (h : x_Mod_compared d x0 x1 s = some y) : isO s x0 14 = true := by
  unfold x_Mod_compared at h
  cases d with
  | zero => cases h
  | succ d =>
    rw [show clM (d + 1) 8 x0 x1 0 0 s = x_Mod_compared_b (clM d) d x0 x1 s from rfl] at h
    exact (gd_spec h).1

def x_Mod_sum_II (d : Nat) (x0 : Nat) (x1 : Int32) (x2 : Int32) (s : HS) : Option (Int32 × HS) := clM d 9 x0 x1 x2 0 s

theorem dx_Mod_sum_II (O : am_ok K X) (T : am_T K) {d : Nat} {x0 : Nat} {x1 : Int32} {x2 : Int32} {s : HS} : xM cvI K X m_Mod_sum_II d [.ref x0, .int x1, .int x2] s (x_Mod_sum_II d x0 x1 x2 s) := ((dclM O T d).2.2.2.2.2.2.2.2.2.1 _ _ _ _ _).1

theorem ob_Mod_sum_II {d : Nat} {x0 : Nat} {x1 : Int32} {x2 : Int32} {s : HS} {y : Int32 × HS} (h : x_Mod_sum_II d x0 x1 x2 s = some y) : isO s x0 14 = true := by
  unfold x_Mod_sum_II at h
  cases d with
  | zero => cases h
  | succ d =>
    rw [show clM (d + 1) 9 x0 x1 x2 0 s = x_Mod_sum_II_b (clM d) d x0 x1 x2 s from rfl] at h
    exact (gd_spec h).1

def x_Mod_unary (d : Nat) (x0 : Nat) (x1 : Int32) (s : HS) : Option (Int32 × HS) := clM d 10 x0 x1 0 0 s

theorem dx_Mod_unary (O : am_ok K X) (T : am_T K) {d : Nat} {x0 : Nat} {x1 : Int32} {s : HS} : xM cvI K X m_Mod_unary d [.ref x0, .int x1] s (x_Mod_unary d x0 x1 s) := ((dclM O T d).2.2.2.2.2.2.2.2.2.2.1 _ _ _ _ _).1

theorem ob_Mod_unary {d : Nat} {x0 : Nat} {x1 : Int32} {s : HS} {y : Int32 × HS} (h : x_Mod_unary d x0 x1 s = some y) : isO s x0 14 = true := by
  unfold x_Mod_unary at h
  cases d with
  | zero => cases h
  | succ d =>
    rw [show clM (d + 1) 10 x0 x1 0 0 s = x_Mod_unary_b (clM d) d x0 x1 s from rfl] at h
    exact (gd_spec h).1

def x_Mod_atom (d : Nat) (x0 : Nat) (x1 : Int32) (s : HS) : Option (Int32 × HS) := clM d 11 x0 x1 0 0 s

theorem dx_Mod_atom (O : am_ok K X) (T : am_T K) {d : Nat} {x0 : Nat} {x1 : Int32} {s : HS} : xM cvI K X m_Mod_atom d [.ref x0, .int x1] s (x_Mod_atom d x0 x1 s) := ((dclM O T d).2.2.2.2.2.2.2.2.2.2.2.1 _ _ _ _ _).1

theorem ob_Mod_atom {d : Nat} {x0 : Nat} {x1 : Int32} {s : HS} {y : Int32 × HS} (h : x_Mod_atom d x0 x1 s = some y) : isO s x0 14 = true := by
  unfold x_Mod_atom at h
  cases d with
  | zero => cases h
  | succ d =>
    rw [show clM (d + 1) 11 x0 x1 0 0 s = x_Mod_atom_b (clM d) d x0 x1 s from rfl] at h
    exact (gd_spec h).1

def x_Mod_simple (d : Nat) (x0 : Nat) (x1 : Int32) (s : HS) : Option (Int32 × HS) := clM d 12 x0 x1 0 0 s

theorem dx_Mod_simple (O : am_ok K X) (T : am_T K) {d : Nat} {x0 : Nat} {x1 : Int32} {s : HS} : xM cvI K X m_Mod_simple d [.ref x0, .int x1] s (x_Mod_simple d x0 x1 s) := ((dclM O T d).2.2.2.2.2.2.2.2.2.2.2.2.1 _ _ _ _ _).1

theorem ob_Mod_simple {d : Nat} {x0 : Nat} {x1 : Int32} {s : HS} {y : Int32 × HS} (h : x_Mod_simple d x0 x1 s = some y) : isO s x0 14 = true := by
  unfold x_Mod_simple at h
  cases d with
  | zero => cases h
  | succ d =>
    rw [show clM (d + 1) 12 x0 x1 0 0 s = x_Mod_simple_b (clM d) d x0 x1 s from rfl] at h
    exact (gd_spec h).1

def x_Mod_named (d : Nat) (x0 : Nat) (x1 : Int32) (s : HS) : Option (Int32 × HS) := clM d 13 x0 x1 0 0 s

theorem dx_Mod_named (O : am_ok K X) (T : am_T K) {d : Nat} {x0 : Nat} {x1 : Int32} {s : HS} : xM cvI K X m_Mod_named d [.ref x0, .int x1] s (x_Mod_named d x0 x1 s) := ((dclM O T d).2.2.2.2.2.2.2.2.2.2.2.2.2.1 _ _ _ _ _).1

theorem ob_Mod_named {d : Nat} {x0 : Nat} {x1 : Int32} {s : HS} {y : Int32 × HS} (h : x_Mod_named d x0 x1 s = some y) : isO s x0 14 = true := by
  unfold x_Mod_named at h
  cases d with
  | zero => cases h
  | succ d =>
    rw [show clM (d + 1) 13 x0 x1 0 0 s = x_Mod_named_b (clM d) d x0 x1 s from rfl] at h
    exact (gd_spec h).1

def x_Mod_built (d : Nat) (x0 : Nat) (x1 : Int32) (s : HS) : Option (Int32 × HS) := clM d 14 x0 x1 0 0 s

theorem dx_Mod_built (O : am_ok K X) (T : am_T K) {d : Nat} {x0 : Nat} {x1 : Int32} {s : HS} : xM cvI K X m_Mod_built d [.ref x0, .int x1] s (x_Mod_built d x0 x1 s) := ((dclM O T d).2.2.2.2.2.2.2.2.2.2.2.2.2.2.1 _ _ _ _ _).1

theorem ob_Mod_built {d : Nat} {x0 : Nat} {x1 : Int32} {s : HS} {y : Int32 × HS} (h : x_Mod_built d x0 x1 s = some y) : isO s x0 14 = true := by
  unfold x_Mod_built at h
  cases d with
  | zero => cases h
  | succ d =>
    rw [show clM (d + 1) 14 x0 x1 0 0 s = x_Mod_built_b (clM d) d x0 x1 s from rfl] at h
    exact (gd_spec h).1

def x_Mod_record (d : Nat) (x0 : Nat) (x1 : Int32) (s : HS) : Option (Int32 × HS) := clM d 15 x0 x1 0 0 s

theorem dx_Mod_record (O : am_ok K X) (T : am_T K) {d : Nat} {x0 : Nat} {x1 : Int32} {s : HS} : xM cvI K X m_Mod_record d [.ref x0, .int x1] s (x_Mod_record d x0 x1 s) := ((dclM O T d).2.2.2.2.2.2.2.2.2.2.2.2.2.2.2.1 _ _ _ _ _).1

theorem ob_Mod_record {d : Nat} {x0 : Nat} {x1 : Int32} {s : HS} {y : Int32 × HS} (h : x_Mod_record d x0 x1 s = some y) : isO s x0 14 = true := by
  unfold x_Mod_record at h
  cases d with
  | zero => cases h
  | succ d =>
    rw [show clM (d + 1) 15 x0 x1 0 0 s = x_Mod_record_b (clM d) d x0 x1 s from rfl] at h
    exact (gd_spec h).1

def x_Mod_row (d : Nat) (x0 : Nat) (x1 : Int32) (s : HS) : Option (Int32 × HS) := clM d 16 x0 x1 0 0 s

theorem dx_Mod_row (O : am_ok K X) (T : am_T K) {d : Nat} {x0 : Nat} {x1 : Int32} {s : HS} : xM cvI K X m_Mod_row d [.ref x0, .int x1] s (x_Mod_row d x0 x1 s) := ((dclM O T d).2.2.2.2.2.2.2.2.2.2.2.2.2.2.2.2 _ _ _ _ _).1

theorem ob_Mod_row {d : Nat} {x0 : Nat} {x1 : Int32} {s : HS} {y : Int32 × HS} (h : x_Mod_row d x0 x1 s = some y) : isO s x0 14 = true := by
  unfold x_Mod_row at h
  cases d with
  | zero => cases h
  | succ d =>
    rw [show clM (d + 1) 16 x0 x1 0 0 s = x_Mod_row_b (clM d) d x0 x1 s from rfl] at h
    exact (gd_spec h).1
end
