section
variable {K : am_K} {X : Nat → am_C}
set_option maxRecDepth 100000 in
def x_Pars_function (d : Nat) (x0 : Nat) (s : HS) : Option (Unit × HS) := match d with
  | 0 => none
  | d + 1 => gd s x0 5 (bnd (x_Pars_take d x0 5 s) fun v2 s1 => ((gR s1 x0 5 2).bind fun v3 => (bnd (x_Draft_clear d v3 s1) fun v5 s4 => ((gR s4 x0 5 2).bind fun v6 => ((pV s4 x0 5 3 (.ref v6)).bind fun s7 => (bnd (x_Pars_takeName d x0 s7) fun v9 s8 => (bnd (x_Pars_names d x0 s8) fun v11 s10 => ((gR s10 x0 5 0).bind fun v12 => (bnd (x_Lexer_taken d v12 s10) fun v14 s13 => (bnd (x_Pars_block d x0 0 s13) fun v16 s15 => ((gI s15 x0 5 6).bind fun v17 => (if 0 ≤ v17 then ((gR s15 x0 5 1).bind fun v18 => ((pV s15 x0 5 3 (.ref v18)).bind fun s19 => (some ((), s19)))) else ((gR s15 x0 5 4).bind fun v20 => ((gR s15 x0 5 2).bind fun v21 => ((gR s15 x0 5 0).bind fun v22 => (bnd (x_Lexer_taken d v22 s15) fun v24 s23 => (bnd (x_Draft_finish d v21 v9 v11 (v24 - v14) s23) fun v26 s25 => (bnd (x_AL_add_LObject d v20 v26 s25) fun v28 s27 => ((gR s27 x0 5 1).bind fun v29 => ((pV s27 x0 5 3 (.ref v29)).bind fun s30 => (some ((), s30))))))))))))))))))))))

set_option maxRecDepth 100000 in
set_option maxHeartbeats 4000000 in
theorem dx_Pars_function (O : am_ok K X) (T2 : am_T2 K) {d : Nat} {x0 : Nat} {s : HS} : xM cvU K X m_Pars_function d [.ref x0] s (x_Pars_function d x0 s) := by
  cases d with
  | zero => exact xM_none
  | succ d =>
    have T := T2.1
    unfold x_Pars_function
    refine xM_enter (by decide +kernel) (Nat.le_of_ble_eq_true rfl) ?_
    refine xW_gd (fun _ => ?_)
    refine xW_pure (fun _ _ _ _ _ => am_aload_n d_Pars_function_0 rfl rfl) ?_
    refine xW_pure (fun _ _ _ _ _ => am_iconst (v := 5) d_Pars_function_1 (by decide)) ?_
    refine xW_callV O (dx_Pars_take O T) (fun _ e => ob_Pars_take e) rfl rfl rfl l_Pars_106 ⟨w_682, w_9⟩ rfl (Nat.le_of_ble_eq_true rfl) d_Pars_function_2 (fun v2 s1 _ => ?_)
    refine xW_pure (fun _ _ _ _ _ => am_aload_n d_Pars_function_5 rfl rfl) ?_
    refine xW_gR O f_Pars_25 d_Pars_function_6 (fun v3 _ => ?_)
    refine xW_callV O (dx_Draft_clear O T) (fun _ e => ob_Draft_clear e) rfl rfl rfl l_Pars_58 ⟨w_669, w_670⟩ rfl (Nat.le_of_ble_eq_true rfl) d_Pars_function_9 (fun v5 s4 _ => ?_)
    refine xW_pure (fun _ _ _ _ _ => am_aload_n d_Pars_function_12 rfl rfl) ?_
    refine xW_pure (fun _ _ _ _ _ => am_aload_n d_Pars_function_13 rfl rfl) ?_
    refine xW_gR O f_Pars_25 d_Pars_function_14 (fun v6 _ => ?_)
    refine xW_put O f_Pars_28 d_Pars_function_17 (fun q hq => by cases hq; exact ⟨rfl, rfl, rfl⟩) (fun s7 _ => ?_)
    refine xW_pure (fun _ _ _ _ _ => am_aload_n d_Pars_function_20 rfl rfl) ?_
    refine xW_callV O (dx_Pars_takeName O T) (fun _ e => ob_Pars_takeName e) rfl rfl rfl l_Pars_109 ⟨w_699, w_11⟩ rfl (Nat.le_of_ble_eq_true rfl) d_Pars_function_21 (fun v9 s8 _ => ?_)
    refine xW_pure (fun _ _ _ _ _ => am_lstore_n d_Pars_function_24 rfl (Nat.le_of_ble_eq_true rfl)) ?_
    refine xW_pure (fun _ _ _ _ _ => am_aload_n d_Pars_function_25 rfl rfl) ?_
    refine xW_callV O (dx_Pars_names O T) (fun _ e => ob_Pars_names e) rfl rfl rfl l_Pars_112 ⟨w_707, w_12⟩ rfl (Nat.le_of_ble_eq_true rfl) d_Pars_function_26 (fun v11 s10 _ => ?_)
    refine xW_pure (fun _ _ _ _ _ => am_istore_n d_Pars_function_29 rfl (Nat.le_of_ble_eq_true rfl)) ?_
    refine xW_pure (fun _ _ _ _ _ => am_aload_n d_Pars_function_30 rfl rfl) ?_
    refine xW_gR O f_Pars_12 d_Pars_function_31 (fun v12 _ => ?_)
    refine xW_callV O (dx_Lexer_taken O T) (fun _ e => ob_Lexer_taken e) rfl rfl rfl l_Pars_115 ⟨w_737, w_738⟩ rfl (Nat.le_of_ble_eq_true rfl) d_Pars_function_34 (fun v14 s13 _ => ?_)
    refine xW_pure (fun _ _ _ _ _ => am_istore d_Pars_function_37 (Nat.le_of_ble_eq_true rfl)) ?_
    refine xW_pure (fun _ _ _ _ _ => am_aload_n d_Pars_function_39 rfl rfl) ?_
    refine xW_pure (fun _ _ _ _ _ => am_iconst (v := 0) d_Pars_function_40 (by decide)) ?_
    refine xW_callV O (dx_Pars_block O T) (fun _ e => ob_Pars_block e) rfl rfl rfl l_Pars_118 ⟨w_742, w_14⟩ rfl (Nat.le_of_ble_eq_true rfl) d_Pars_function_41 (fun v16 s15 _ => ?_)
    refine xW_pure (fun _ _ _ _ _ => am_aload_n d_Pars_function_44 rfl rfl) ?_
    refine xW_gI O f_Pars_51 d_Pars_function_45 (fun v17 _ => ?_)
    refine xW_ite (fun _ _ _ _ _ => am_if_ge (tgt := 78) d_Pars_function_48 (by decide)) (fun _ => ?_) (fun _ => ?_)
    · refine xW_pure (fun _ _ _ _ _ => am_aload_n d_Pars_function_78 rfl rfl) ?_
      refine xW_pure (fun _ _ _ _ _ => am_aload_n d_Pars_function_79 rfl rfl) ?_
      refine xW_gR O f_Pars_21 d_Pars_function_80 (fun v18 _ => ?_)
      refine xW_put O f_Pars_28 d_Pars_function_83 (fun q hq => by cases hq; exact ⟨rfl, rfl, rfl⟩) (fun s19 _ => ?_)
      exact xW_ret (fun _ _ _ _ _ => am_vret rfl d_Pars_function_86)
    · refine xW_pure (fun _ _ _ _ _ => am_aload_n d_Pars_function_51 rfl rfl) ?_
      refine xW_gR O f_Pars_34 d_Pars_function_52 (fun v20 _ => ?_)
      refine xW_pure (fun _ _ _ _ _ => am_aload_n d_Pars_function_55 rfl rfl) ?_
      refine xW_gR O f_Pars_25 d_Pars_function_56 (fun v21 _ => ?_)
      refine xW_pure (fun _ _ _ _ _ => am_lload_n d_Pars_function_59 rfl rfl) ?_
      refine xW_pure (fun _ _ _ _ _ => am_iload_n d_Pars_function_60 rfl rfl) ?_
      refine xW_pure (fun _ _ _ _ _ => am_aload_n d_Pars_function_61 rfl rfl) ?_
      refine xW_gR O f_Pars_12 d_Pars_function_62 (fun v22 _ => ?_)
      refine xW_callV O (dx_Lexer_taken O T) (fun _ e => ob_Lexer_taken e) rfl rfl rfl l_Pars_115 ⟨w_737, w_738⟩ rfl (Nat.le_of_ble_eq_true rfl) d_Pars_function_65 (fun v24 s23 _ => ?_)
      refine xW_pure (fun _ _ _ _ _ => am_iload d_Pars_function_68 rfl) ?_
      refine xW_pure (fun _ _ _ _ _ => am_isub d_Pars_function_70) ?_
      refine xW_callV O (dx_Draft_finish O T) (fun _ e => ob_Draft_finish e) rfl rfl rfl l_Pars_70 ⟨w_885, w_886⟩ rfl (Nat.le_of_ble_eq_true rfl) d_Pars_function_71 (fun v26 s25 _ => ?_)
      refine xW_callV O (dx_AL_add_LObject O T2) (fun _ e => ob_AL_add_LObject e) rfl rfl rfl l_Pars_121 ⟨w_892, w_893⟩ rfl (Nat.le_of_ble_eq_true rfl) d_Pars_function_74 (fun v28 s27 _ => ?_)
      refine xW_pure (fun _ _ _ _ _ => am_pop d_Pars_function_77 rfl) ?_
      refine xW_pure (fun _ _ _ _ _ => am_aload_n d_Pars_function_78 rfl rfl) ?_
      refine xW_pure (fun _ _ _ _ _ => am_aload_n d_Pars_function_79 rfl rfl) ?_
      refine xW_gR O f_Pars_21 d_Pars_function_80 (fun v29 _ => ?_)
      refine xW_put O f_Pars_28 d_Pars_function_83 (fun q hq => by cases hq; exact ⟨rfl, rfl, rfl⟩) (fun s30 _ => ?_)
      exact xW_ret (fun _ _ _ _ _ => am_vret rfl d_Pars_function_86)

theorem ob_Pars_function {d : Nat} {x0 : Nat} {s : HS} {y : Unit × HS} (h : x_Pars_function d x0 s = some y) : isO s x0 5 = true := by
  cases d with
  | zero => cases h
  | succ d => exact (gd_spec h).1

set_option maxRecDepth 100000 in
def x_Pars_read_b91 (d : Nat) (l0 : Nat) (s : HS) : Option (Int32 × HS) := (gI s l0 5 6).bind fun v13 => (if 0 ≤ v13 then ((gI s l0 5 6).bind fun v14 => (some (v14, s))) else ((gR s l0 5 1).bind fun v15 => (bnd (x_Draft_finish d v15 0 0 0 s) fun v17 s16 => ((pV s16 l0 5 5 (.ref v17)).bind fun s18 => ((gI s18 l0 5 6).bind fun v19 => (some (v19, s18)))))))

set_option maxRecDepth 100000 in
set_option maxHeartbeats 4000000 in
theorem dx_Pars_read_b91 (O : am_ok K X) (T2 : am_T2 K) {d : Nat} {l0 : Nat} {s : HS} : xW cvI K X m_Pars_read (d + 1) 91 [(0, .ref l0)] [] s (x_Pars_read_b91 d l0 s) := by
  have T := T2.1
  unfold x_Pars_read_b91
  refine xW_pure (fun _ _ _ _ _ => am_aload_n d_Pars_read_91 rfl rfl) ?_
  refine xW_gI O f_Pars_51 d_Pars_read_92 (fun v13 _ => ?_)
  refine xW_ite (fun _ _ _ _ _ => am_if_ge (tgt := 112) d_Pars_read_95 (by decide)) (fun _ => ?_) (fun _ => ?_)
  · refine xW_pure (fun _ _ _ _ _ => am_aload_n d_Pars_read_112 rfl rfl) ?_
    refine xW_gI O f_Pars_51 d_Pars_read_113 (fun v14 _ => ?_)
    exact xW_ret (fun _ _ _ _ _ => am_iret rfl d_Pars_read_116)
  · refine xW_pure (fun _ _ _ _ _ => am_aload_n d_Pars_read_98 rfl rfl) ?_
    refine xW_pure (fun _ _ _ _ _ => am_aload_n d_Pars_read_99 rfl rfl) ?_
    refine xW_gR O f_Pars_21 d_Pars_read_100 (fun v15 _ => ?_)
    refine xW_pure (fun _ _ _ _ _ => am_lconst (v := 0) d_Pars_read_103 (by decide)) ?_
    refine xW_pure (fun _ _ _ _ _ => am_iconst (v := 0) d_Pars_read_104 (by decide)) ?_
    refine xW_pure (fun _ _ _ _ _ => am_iconst (v := 0) d_Pars_read_105 (by decide)) ?_
    refine xW_callV O (dx_Draft_finish O T) (fun _ e => ob_Draft_finish e) rfl rfl rfl l_Pars_70 ⟨w_885, w_886⟩ rfl (Nat.le_of_ble_eq_true rfl) d_Pars_read_106 (fun v17 s16 _ => ?_)
    refine xW_put O f_Pars_43 d_Pars_read_109 (fun q hq => by cases hq; exact ⟨rfl, rfl, rfl⟩) (fun s18 _ => ?_)
    refine xW_pure (fun _ _ _ _ _ => am_aload_n d_Pars_read_112 rfl rfl) ?_
    refine xW_gI O f_Pars_51 d_Pars_read_113 (fun v19 _ => ?_)
    exact xW_ret (fun _ _ _ _ _ => am_iret rfl d_Pars_read_116)

set_option maxRecDepth 100000 in
def x_Pars_read (d : Nat) (x0 : Nat) (x1 : Nat) (x2 : Int32) (s : HS) : Option (Int32 × HS) := match d with
  | 0 => none
  | d + 1 => gd s x0 5 ((gR s x0 5 0).bind fun v1 => (bnd (x_Lexer_begin d v1 x1 x2 s) fun v3 s2 => ((pV s2 x0 5 6 (.int (-1))).bind fun s4 => ((gR s4 x0 5 4).bind fun v5 => (bnd (x_AL_clear d v5 s4) fun v7 s6 => ((gR s6 x0 5 1).bind fun v8 => (bnd (x_Draft_clear d v8 s6) fun v10 s9 => ((gR s9 x0 5 1).bind fun v11 => ((pV s9 x0 5 3 (.ref v11)).bind fun s12 => (loopK (fun (again38 : Int32 × HS → Option (Int32 × HS)) (z38 : Int32 × HS) => (if 1500 < z38.1 then (x_Pars_read_b91 d x0 z38.2) else ((gI z38.2 x0 5 6).bind fun v20 => (if 0 ≤ v20 then (x_Pars_read_b91 d x0 z38.2) else ((gR z38.2 x0 5 0).bind fun v21 => (bnd (x_Lexer_kind d v21 z38.2) fun v23 s22 => (if v23 = 0 then (x_Pars_read_b91 d x0 s22) else ((gR s22 x0 5 0).bind fun v24 => (bnd (x_Lexer_kind d v24 s22) fun v26 s25 => (if v26 = 5 then (bnd (x_Pars_function d x0 s25) fun v28 s27 => (again38 ((z38.1 + 1), s27))) else (bnd (x_Pars_statement d x0 0 s25) fun v30 s29 => (again38 ((z38.1 + 1), s29))))))))))))) FU (0, s12)))))))))))

set_option maxRecDepth 100000 in
set_option maxHeartbeats 4000000 in
theorem dx_Pars_read (O : am_ok K X) (T2 : am_T2 K) {d : Nat} {x0 : Nat} {x1 : Nat} {x2 : Int32} {s : HS} : xM cvI K X m_Pars_read d [.ref x0, .ref x1, .int x2] s (x_Pars_read d x0 x1 x2 s) := by
  cases d with
  | zero => exact xM_none
  | succ d =>
    have T := T2.1
    unfold x_Pars_read
    refine xM_enter (by decide +kernel) (Nat.le_of_ble_eq_true rfl) ?_
    refine xW_gd (fun _ => ?_)
    refine xW_pure (fun _ _ _ _ _ => am_aload_n d_Pars_read_0 rfl rfl) ?_
    refine xW_gR O f_Pars_12 d_Pars_read_1 (fun v1 _ => ?_)
    refine xW_pure (fun _ _ _ _ _ => am_aload_n d_Pars_read_4 rfl rfl) ?_
    refine xW_pure (fun _ _ _ _ _ => am_iload_n d_Pars_read_5 rfl rfl) ?_
    refine xW_callV O (dx_Lexer_begin O T) (fun _ e => ob_Lexer_begin e) rfl rfl rfl l_Pars_47 ⟨w_547, w_548⟩ rfl (Nat.le_of_ble_eq_true rfl) d_Pars_read_6 (fun v3 s2 _ => ?_)
    refine xW_pure (fun _ _ _ _ _ => am_aload_n d_Pars_read_9 rfl rfl) ?_
    refine xW_pure (fun _ _ _ _ _ => am_iconst (v := (-1)) d_Pars_read_10 (by decide)) ?_
    refine xW_put O f_Pars_51 d_Pars_read_11 (fun q hq => by cases hq; exact ⟨rfl, rfl, rfl⟩) (fun s4 _ => ?_)
    refine xW_pure (fun _ _ _ _ _ => am_aload_n d_Pars_read_14 rfl rfl) ?_
    refine xW_gR O f_Pars_34 d_Pars_read_15 (fun v5 _ => ?_)
    refine xW_callV O (dx_AL_clear O T2) (fun _ e => ob_AL_clear e) rfl rfl rfl l_Pars_55 ⟨w_665, w_666⟩ rfl (Nat.le_of_ble_eq_true rfl) d_Pars_read_18 (fun v7 s6 _ => ?_)
    refine xW_pure (fun _ _ _ _ _ => am_aload_n d_Pars_read_21 rfl rfl) ?_
    refine xW_gR O f_Pars_21 d_Pars_read_22 (fun v8 _ => ?_)
    refine xW_callV O (dx_Draft_clear O T) (fun _ e => ob_Draft_clear e) rfl rfl rfl l_Pars_58 ⟨w_669, w_670⟩ rfl (Nat.le_of_ble_eq_true rfl) d_Pars_read_25 (fun v10 s9 _ => ?_)
    refine xW_pure (fun _ _ _ _ _ => am_aload_n d_Pars_read_28 rfl rfl) ?_
    refine xW_pure (fun _ _ _ _ _ => am_aload_n d_Pars_read_29 rfl rfl) ?_
    refine xW_gR O f_Pars_21 d_Pars_read_30 (fun v11 _ => ?_)
    refine xW_put O f_Pars_28 d_Pars_read_33 (fun q hq => by cases hq; exact ⟨rfl, rfl, rfl⟩) (fun s12 _ => ?_)
    refine xW_pure (fun _ _ _ _ _ => am_iconst (v := 0) d_Pars_read_36 (by decide)) ?_
    refine xW_pure (fun _ _ _ _ _ => am_istore_n d_Pars_read_37 rfl (Nat.le_of_ble_eq_true rfl)) ?_
    refine xW_locs (lv' := [(0, .ref x0), (3, .int 0)]) rfl ?_
    refine xW_loop (lvf := fun (z38 : Int32 × HS) => [(0, .ref x0), (3, .int z38.1)]) (hsf := fun (z38 : Int32 × HS) => z38.2) (fun again38 ih38 z38 => ?_) FU (0, s12)
    refine xW_pure (fun _ _ _ _ _ => am_iload_n d_Pars_read_38 rfl rfl) ?_
    refine xW_pure (fun _ _ _ _ _ => am_sipush (v := 1500) d_Pars_read_39 (by decide)) ?_
    refine xW_ite (fun _ _ _ _ _ => am_icmp_gt (tgt := 91) d_Pars_read_42 (by decide)) (fun _ => ?_) (fun _ => ?_)
    · refine xW_locs (lv' := [(0, .ref x0)]) rfl ?_
      exact dx_Pars_read_b91 O T2
    · refine xW_pure (fun _ _ _ _ _ => am_aload_n d_Pars_read_45 rfl rfl) ?_
      refine xW_gI O f_Pars_51 d_Pars_read_46 (fun v20 _ => ?_)
      refine xW_ite (fun _ _ _ _ _ => am_if_ge (tgt := 91) d_Pars_read_49 (by decide)) (fun _ => ?_) (fun _ => ?_)
      · refine xW_locs (lv' := [(0, .ref x0)]) rfl ?_
        exact dx_Pars_read_b91 O T2
      · refine xW_pure (fun _ _ _ _ _ => am_aload_n d_Pars_read_52 rfl rfl) ?_
        refine xW_gR O f_Pars_12 d_Pars_read_53 (fun v21 _ => ?_)
        refine xW_callV O (dx_Lexer_kind O T) (fun _ e => ob_Lexer_kind e) rfl rfl rfl l_Pars_59 ⟨w_673, w_674⟩ rfl (Nat.le_of_ble_eq_true rfl) d_Pars_read_56 (fun v23 s22 _ => ?_)
        refine xW_ite (fun _ _ _ _ _ => am_if_eq (tgt := 91) d_Pars_read_59 (by decide)) (fun _ => ?_) (fun _ => ?_)
        · refine xW_locs (lv' := [(0, .ref x0)]) rfl ?_
          exact dx_Pars_read_b91 O T2
        · refine xW_pure (fun _ _ _ _ _ => am_aload_n d_Pars_read_62 rfl rfl) ?_
          refine xW_gR O f_Pars_12 d_Pars_read_63 (fun v24 _ => ?_)
          refine xW_callV O (dx_Lexer_kind O T) (fun _ e => ob_Lexer_kind e) rfl rfl rfl l_Pars_59 ⟨w_673, w_674⟩ rfl (Nat.le_of_ble_eq_true rfl) d_Pars_read_66 (fun v26 s25 _ => ?_)
          refine xW_pure (fun _ _ _ _ _ => am_iconst (v := 5) d_Pars_read_69 (by decide)) ?_
          refine xW_ite (fun _ _ _ _ _ k1 k2 => am_icmp_ne (tgt := 80) d_Pars_read_70 (by decide) k2 k1) (fun _ => ?_) (fun _ => ?_)
          · refine xW_pure (fun _ _ _ _ _ => am_aload_n d_Pars_read_73 rfl rfl) ?_
            refine xW_callV O (dx_Pars_function O T2) (fun _ e => ob_Pars_function e) rfl rfl rfl l_Pars_63 ⟨w_678, w_8⟩ rfl (Nat.le_of_ble_eq_true rfl) d_Pars_read_74 (fun v28 s27 _ => ?_)
            refine xW_pure (fun _ _ _ _ _ => am_goto (tgt := 85) d_Pars_read_77 (by decide)) ?_
            refine xW_pure (fun _ _ _ _ _ => am_iinc (v := 1) d_Pars_read_85 rfl (by decide) (Nat.le_of_ble_eq_true rfl)) ?_
            refine xW_pure (fun _ _ _ _ _ => am_goto (tgt := 38) d_Pars_read_88 (by decide)) ?_
            refine xW_locs (lv' := [(0, .ref x0), (3, .int (z38.1 + 1))]) rfl ?_
            exact ih38 ((z38.1 + 1), s27)
          · refine xW_pure (fun _ _ _ _ _ => am_aload_n d_Pars_read_80 rfl rfl) ?_
            refine xW_pure (fun _ _ _ _ _ => am_iconst (v := 0) d_Pars_read_81 (by decide)) ?_
            refine xW_callV O (dx_Pars_statement O T) (fun _ e => ob_Pars_statement e) rfl rfl rfl l_Pars_66 ⟨w_750, w_16⟩ rfl (Nat.le_of_ble_eq_true rfl) d_Pars_read_82 (fun v30 s29 _ => ?_)
            refine xW_pure (fun _ _ _ _ _ => am_iinc (v := 1) d_Pars_read_85 rfl (by decide) (Nat.le_of_ble_eq_true rfl)) ?_
            refine xW_pure (fun _ _ _ _ _ => am_goto (tgt := 38) d_Pars_read_88 (by decide)) ?_
            refine xW_locs (lv' := [(0, .ref x0), (3, .int (z38.1 + 1))]) rfl ?_
            exact ih38 ((z38.1 + 1), s29)

theorem ob_Pars_read {d : Nat} {x0 : Nat} {x1 : Nat} {x2 : Int32} {s : HS} {y : Int32 × HS} (h : x_Pars_read d x0 x1 x2 s = some y) : isO s x0 5 = true := by
  cases d with
  | zero => cases h
  | succ d => exact (gd_spec h).1

set_option maxRecDepth 100000 in
def x_Pars_tellInto (d : Nat) (x0 : Nat) (x1 : Nat) (s : HS) : Option (Int32 × HS) := match d with
  | 0 => none
  | d + 1 => gd s x0 5 (loopK (fun (again2 : Int32 × HS → Option (Int32 × HS)) (z2 : Int32 × HS) => ((gR z2.2 x0 5 4).bind fun v1 => (bnd (x_AL_size d v1 z2.2) fun v3 s2 => (if v3 ≤ z2.1 then (some (1, s2)) else ((gR s2 x0 5 4).bind fun v4 => (bnd (x_AL_get d v4 z2.1 s2) fun v6 s5 => (gd s5 v6 4 <| (bnd (x_Store_tell d x1 v6 s5) fun v8 s7 => (if v8 = 0 then (some (0, s7)) else (again2 ((z2.1 + 1), s7))))))))))) FU (0, s))

set_option maxRecDepth 100000 in
set_option maxHeartbeats 4000000 in
theorem dx_Pars_tellInto (O : am_ok K X) (T2 : am_T2 K) {d : Nat} {x0 : Nat} {x1 : Nat} {s : HS} : xM cvI K X m_Pars_tellInto d [.ref x0, .ref x1] s (x_Pars_tellInto d x0 x1 s) := by
  cases d with
  | zero => exact xM_none
  | succ d =>
    have T := T2.1
    unfold x_Pars_tellInto
    refine xM_enter (by decide +kernel) (Nat.le_of_ble_eq_true rfl) ?_
    refine xW_gd (fun _ => ?_)
    refine xW_pure (fun _ _ _ _ _ => am_iconst (v := 0) d_Pars_tellInto_0 (by decide)) ?_
    refine xW_pure (fun _ _ _ _ _ => am_istore_n d_Pars_tellInto_1 rfl (Nat.le_of_ble_eq_true rfl)) ?_
    refine xW_locs (lv' := [(0, .ref x0), (1, .ref x1), (2, .int 0)]) rfl ?_
    refine xW_loop (lvf := fun (z2 : Int32 × HS) => [(0, .ref x0), (1, .ref x1), (2, .int z2.1)]) (hsf := fun (z2 : Int32 × HS) => z2.2) (fun again2 ih2 z2 => ?_) FU (0, s)
    refine xW_pure (fun _ _ _ _ _ => am_iload_n d_Pars_tellInto_2 rfl rfl) ?_
    refine xW_pure (fun _ _ _ _ _ => am_aload_n d_Pars_tellInto_3 rfl rfl) ?_
    refine xW_gR O f_Pars_34 d_Pars_tellInto_4 (fun v1 _ => ?_)
    refine xW_callV O (dx_AL_size O T2) (fun _ e => ob_AL_size e) rfl rfl rfl l_Pars_74 ⟨w_1022, w_1023⟩ rfl (Nat.le_of_ble_eq_true rfl) d_Pars_tellInto_7 (fun v3 s2 _ => ?_)
    refine xW_ite (fun _ _ _ _ _ => am_icmp_ge (tgt := 39) d_Pars_tellInto_10 (by decide)) (fun _ => ?_) (fun _ => ?_)
    · refine xW_pure (fun _ _ _ _ _ => am_iconst (v := 1) d_Pars_tellInto_39 (by decide)) ?_
      exact xW_ret (fun _ _ _ _ _ => am_zret (ty := .boolean) rfl rfl d_Pars_tellInto_40)
    · refine xW_pure (fun _ _ _ _ _ => am_aload_n d_Pars_tellInto_13 rfl rfl) ?_
      refine xW_pure (fun _ _ _ _ _ => am_aload_n d_Pars_tellInto_14 rfl rfl) ?_
      refine xW_gR O f_Pars_34 d_Pars_tellInto_15 (fun v4 _ => ?_)
      refine xW_pure (fun _ _ _ _ _ => am_iload_n d_Pars_tellInto_18 rfl rfl) ?_
      refine xW_callV O (dx_AL_get O T2) (fun _ e => ob_AL_get e) rfl rfl rfl l_Pars_77 ⟨w_1026, w_1027⟩ rfl (Nat.le_of_ble_eq_true rfl) d_Pars_tellInto_19 (fun v6 s5 _ => ?_)
      refine xW_cast (ci := 4) O (by rfl) (by rfl) x_2181 w_344 d_Pars_tellInto_22 ?_
      refine xW_callV O (dx_Store_tell O T) (fun _ e => ob_Store_tell e) rfl rfl rfl l_Pars_81 ⟨w_1038, w_1039⟩ rfl (Nat.le_of_ble_eq_true rfl) d_Pars_tellInto_25 (fun v8 s7 _ => ?_)
      refine xW_ite (fun _ _ _ _ _ k1 k2 => am_if_ne (tgt := 33) d_Pars_tellInto_28 (by decide) k2 k1) (fun _ => ?_) (fun _ => ?_)
      · refine xW_pure (fun _ _ _ _ _ => am_iconst (v := 0) d_Pars_tellInto_31 (by decide)) ?_
        exact xW_ret (fun _ _ _ _ _ => am_zret (ty := .boolean) rfl rfl d_Pars_tellInto_32)
      · refine xW_pure (fun _ _ _ _ _ => am_iinc (v := 1) d_Pars_tellInto_33 rfl (by decide) (Nat.le_of_ble_eq_true rfl)) ?_
        refine xW_pure (fun _ _ _ _ _ => am_goto (tgt := 2) d_Pars_tellInto_36 (by decide)) ?_
        refine xW_locs (lv' := [(0, .ref x0), (1, .ref x1), (2, .int (z2.1 + 1))]) rfl ?_
        exact ih2 ((z2.1 + 1), s7)

theorem ob_Pars_tellInto {d : Nat} {x0 : Nat} {x1 : Nat} {s : HS} {y : Int32 × HS} (h : x_Pars_tellInto d x0 x1 s = some y) : isO s x0 5 = true := by
  cases d with
  | zero => cases h
  | succ d => exact (gd_spec h).1

set_option maxRecDepth 100000 in
def x_Pars_toldTokens (d : Nat) (x0 : Nat) (s : HS) : Option (Int32 × HS) := match d with
  | 0 => none
  | d + 1 => gd s x0 5 (loopK (fun (again4 : Int32 × Int32 × HS → Option (Int32 × HS)) (z4 : Int32 × Int32 × HS) => ((gR z4.2.2 x0 5 4).bind fun v1 => (bnd (x_AL_size d v1 z4.2.2) fun v3 s2 => (if v3 ≤ z4.2.1 then (some (z4.1, s2)) else ((gR s2 x0 5 4).bind fun v4 => (bnd (x_AL_get d v4 z4.2.1 s2) fun v6 s5 => (gd s5 v6 4 <| (bnd (x_Unit_tokens d v6 s5) fun v8 s7 => (again4 ((z4.1 + v8), (z4.2.1 + 1), s7)))))))))) FU (0, 0, s))

set_option maxRecDepth 100000 in
set_option maxHeartbeats 4000000 in
theorem dx_Pars_toldTokens (O : am_ok K X) (T2 : am_T2 K) {d : Nat} {x0 : Nat} {s : HS} : xM cvI K X m_Pars_toldTokens d [.ref x0] s (x_Pars_toldTokens d x0 s) := by
  cases d with
  | zero => exact xM_none
  | succ d =>
    have T := T2.1
    unfold x_Pars_toldTokens
    refine xM_enter (by decide +kernel) (Nat.le_of_ble_eq_true rfl) ?_
    refine xW_gd (fun _ => ?_)
    refine xW_pure (fun _ _ _ _ _ => am_iconst (v := 0) d_Pars_toldTokens_0 (by decide)) ?_
    refine xW_pure (fun _ _ _ _ _ => am_istore_n d_Pars_toldTokens_1 rfl (Nat.le_of_ble_eq_true rfl)) ?_
    refine xW_pure (fun _ _ _ _ _ => am_iconst (v := 0) d_Pars_toldTokens_2 (by decide)) ?_
    refine xW_pure (fun _ _ _ _ _ => am_istore_n d_Pars_toldTokens_3 rfl (Nat.le_of_ble_eq_true rfl)) ?_
    refine xW_locs (lv' := [(0, .ref x0), (1, .int 0), (2, .int 0)]) rfl ?_
    refine xW_loop (lvf := fun (z4 : Int32 × Int32 × HS) => [(0, .ref x0), (1, .int z4.1), (2, .int z4.2.1)]) (hsf := fun (z4 : Int32 × Int32 × HS) => z4.2.2) (fun again4 ih4 z4 => ?_) FU (0, 0, s)
    refine xW_pure (fun _ _ _ _ _ => am_iload_n d_Pars_toldTokens_4 rfl rfl) ?_
    refine xW_pure (fun _ _ _ _ _ => am_aload_n d_Pars_toldTokens_5 rfl rfl) ?_
    refine xW_gR O f_Pars_34 d_Pars_toldTokens_6 (fun v1 _ => ?_)
    refine xW_callV O (dx_AL_size O T2) (fun _ e => ob_AL_size e) rfl rfl rfl l_Pars_74 ⟨w_1022, w_1023⟩ rfl (Nat.le_of_ble_eq_true rfl) d_Pars_toldTokens_9 (fun v3 s2 _ => ?_)
    refine xW_ite (fun _ _ _ _ _ => am_icmp_ge (tgt := 38) d_Pars_toldTokens_12 (by decide)) (fun _ => ?_) (fun _ => ?_)
    · refine xW_pure (fun _ _ _ _ _ => am_iload_n d_Pars_toldTokens_38 rfl rfl) ?_
      exact xW_ret (fun _ _ _ _ _ => am_iret rfl d_Pars_toldTokens_39)
    · refine xW_pure (fun _ _ _ _ _ => am_iload_n d_Pars_toldTokens_15 rfl rfl) ?_
      refine xW_pure (fun _ _ _ _ _ => am_aload_n d_Pars_toldTokens_16 rfl rfl) ?_
      refine xW_gR O f_Pars_34 d_Pars_toldTokens_17 (fun v4 _ => ?_)
      refine xW_pure (fun _ _ _ _ _ => am_iload_n d_Pars_toldTokens_20 rfl rfl) ?_
      refine xW_callV O (dx_AL_get O T2) (fun _ e => ob_AL_get e) rfl rfl rfl l_Pars_77 ⟨w_1026, w_1027⟩ rfl (Nat.le_of_ble_eq_true rfl) d_Pars_toldTokens_21 (fun v6 s5 _ => ?_)
      refine xW_cast (ci := 4) O (by rfl) (by rfl) x_2181 w_344 d_Pars_toldTokens_24 ?_
      refine xW_callV O (dx_Unit_tokens O T) (fun _ e => ob_Unit_tokens e) rfl rfl rfl l_Pars_87 ⟨w_1054, w_1055⟩ rfl (Nat.le_of_ble_eq_true rfl) d_Pars_toldTokens_27 (fun v8 s7 _ => ?_)
      refine xW_pure (fun _ _ _ _ _ => am_iadd d_Pars_toldTokens_30) ?_
      refine xW_pure (fun _ _ _ _ _ => am_istore_n d_Pars_toldTokens_31 rfl (Nat.le_of_ble_eq_true rfl)) ?_
      refine xW_pure (fun _ _ _ _ _ => am_iinc (v := 1) d_Pars_toldTokens_32 rfl (by decide) (Nat.le_of_ble_eq_true rfl)) ?_
      refine xW_pure (fun _ _ _ _ _ => am_goto (tgt := 4) d_Pars_toldTokens_35 (by decide)) ?_
      refine xW_locs (lv' := [(0, .ref x0), (1, .int (z4.1 + v8)), (2, .int (z4.2.1 + 1))]) rfl ?_
      exact ih4 ((z4.1 + v8), (z4.2.1 + 1), s7)

theorem ob_Pars_toldTokens {d : Nat} {x0 : Nat} {s : HS} {y : Int32 × HS} (h : x_Pars_toldTokens d x0 s = some y) : isO s x0 5 = true := by
  cases d with
  | zero => cases h
  | succ d => exact (gd_spec h).1

set_option maxRecDepth 100000 in
def x_Stow_run (d : Nat) (x0 : Nat) (x1 : Int32) (s : HS) : Option (Int32 × HS) := match d with
  | 0 => none
  | d + 1 => gd s x0 9 (if x1 < 0 then (some ((-1), s)) else (if x1 ≤ 2000 then ((gR s x0 9 3).bind fun v1 => ((gR s x0 9 0).bind fun v2 => ((gI s x0 9 1).bind fun v3 => (bnd (x_Pars_read d v1 v2 v3 s) fun v5 s4 => ((pV s4 x0 9 1 (.int 0)).bind fun s6 => (if v5 < 0 then ((gR s6 x0 9 2).bind fun v7 => (bnd (x_Out_clear d v7 s6) fun v9 s8 => (bnd (x_Stow_forgetLatestRun d x0 s8) fun v11 s10 => ((gR s10 x0 9 5).bind fun v12 => (bnd (x_Log_workCopy d v12 s10) fun v14 s13 => ((gR s13 x0 9 3).bind fun v15 => (bnd (x_Pars_tellInto d v15 v14 s13) fun v17 s16 => (if v17 = 0 then (some (8, s16)) else ((gR s16 x0 9 4).bind fun v18 => ((gR s16 x0 9 3).bind fun v19 => (bnd (x_Pars_program d v19 s16) fun v21 s20 => ((gR s20 x0 9 2).bind fun v22 => (bnd (x_Mach_perform d v18 v21 v14 v22 x1 s20) fun v24 s23 => ((gR s23 x0 9 4).bind fun v25 => (bnd (x_Mach_taken d v25 s23) fun v27 s26 => ((pV s26 x0 9 9 (.int v27)).bind fun s28 => (if v24 = 0 then ((gR s28 x0 9 4).bind fun v29 => (bnd (x_Mach_resultHead d v29 s28) fun v31 s30 => ((pV s30 x0 9 7 (.long v31)).bind fun s32 => ((gR s32 x0 9 4).bind fun v33 => (bnd (x_Mach_resultTail d v33 s32) fun v35 s34 => ((pV s34 x0 9 8 (.long v35)).bind fun s36 => ((gR s36 x0 9 5).bind fun v37 => ((gR s36 x0 9 5).bind fun v38 => (bnd (x_Log_latest d v38 s36) fun v40 s39 => ((gR s39 x0 9 3).bind fun v41 => (bnd (x_Pars_toldTokens d v41 s39) fun v43 s42 => (bnd (x_Log_commitBytes d v40 v14 v43 s42) fun v45 s44 => (bnd (x_Log_append d v37 v45 s44) fun v47 s46 => (some (v24, s46))))))))))))))) else (some (v24, s28))))))))))))))))))) else (some ((100 + v5), s6)))))))) else (some ((-1), s))))

set_option maxRecDepth 100000 in
set_option maxHeartbeats 4000000 in
theorem dx_Stow_run (O : am_ok K X) (T2 : am_T2 K) {d : Nat} {x0 : Nat} {x1 : Int32} {s : HS} : xM cvI K X m_Stow_run d [.ref x0, .int x1] s (x_Stow_run d x0 x1 s) := by
  cases d with
  | zero => exact xM_none
  | succ d =>
    have T := T2.1
    unfold x_Stow_run
    refine xM_enter (by decide +kernel) (Nat.le_of_ble_eq_true rfl) ?_
    refine xW_gd (fun _ => ?_)
    refine xW_pure (fun _ _ _ _ _ => am_iload_n d_Stow_run_0 rfl rfl) ?_
    refine xW_ite (fun _ _ _ _ _ => am_if_lt (tgt := 11) d_Stow_run_1 (by decide)) (fun _ => ?_) (fun _ => ?_)
    · refine xW_pure (fun _ _ _ _ _ => am_iconst (v := (-1)) d_Stow_run_11 (by decide)) ?_
      exact xW_ret (fun _ _ _ _ _ => am_iret rfl d_Stow_run_12)
    · refine xW_pure (fun _ _ _ _ _ => am_iload_n d_Stow_run_4 rfl rfl) ?_
      refine xW_pure (fun _ _ _ _ _ => am_sipush (v := 2000) d_Stow_run_5 (by decide)) ?_
      refine xW_ite (fun _ _ _ _ _ => am_icmp_le (tgt := 13) d_Stow_run_8 (by decide)) (fun _ => ?_) (fun _ => ?_)
      · refine xW_pure (fun _ _ _ _ _ => am_aload_n d_Stow_run_13 rfl rfl) ?_
        refine xW_gR O f_Stow_23 d_Stow_run_14 (fun v1 _ => ?_)
        refine xW_pure (fun _ _ _ _ _ => am_aload_n d_Stow_run_17 rfl rfl) ?_
        refine xW_gR O f_Stow_9 d_Stow_run_18 (fun v2 _ => ?_)
        refine xW_pure (fun _ _ _ _ _ => am_aload_n d_Stow_run_21 rfl rfl) ?_
        refine xW_gI O f_Stow_48 d_Stow_run_22 (fun v3 _ => ?_)
        refine xW_callV O (dx_Pars_read O T2) (fun _ e => ob_Pars_read e) rfl rfl rfl l_Stow_56 ⟨w_543, w_544⟩ rfl (Nat.le_of_ble_eq_true rfl) d_Stow_run_25 (fun v5 s4 _ => ?_)
        refine xW_pure (fun _ _ _ _ _ => am_istore_n d_Stow_run_28 rfl (Nat.le_of_ble_eq_true rfl)) ?_
        refine xW_pure (fun _ _ _ _ _ => am_aload_n d_Stow_run_29 rfl rfl) ?_
        refine xW_pure (fun _ _ _ _ _ => am_iconst (v := 0) d_Stow_run_30 (by decide)) ?_
        refine xW_put O f_Stow_48 d_Stow_run_31 (fun q hq => by cases hq; exact ⟨rfl, rfl, rfl⟩) (fun s6 _ => ?_)
        refine xW_pure (fun _ _ _ _ _ => am_iload_n d_Stow_run_34 rfl rfl) ?_
        refine xW_ite (fun _ _ _ _ _ => am_if_lt (tgt := 43) d_Stow_run_35 (by decide)) (fun _ => ?_) (fun _ => ?_)
        · refine xW_pure (fun _ _ _ _ _ => am_aload_n d_Stow_run_43 rfl rfl) ?_
          refine xW_gR O f_Stow_16 d_Stow_run_44 (fun v7 _ => ?_)
          refine xW_callV O (dx_Out_clear O T) (fun _ e => ob_Out_clear e) rfl rfl rfl l_Stow_60 ⟨w_946, w_947⟩ rfl (Nat.le_of_ble_eq_true rfl) d_Stow_run_47 (fun v9 s8 _ => ?_)
          refine xW_pure (fun _ _ _ _ _ => am_aload_n d_Stow_run_50 rfl rfl) ?_
          refine xW_callV O (dx_Stow_forgetLatestRun O T) (fun _ e => ob_Stow_forgetLatestRun e) rfl rfl rfl l_Stow_63 ⟨w_951, w_39⟩ rfl (Nat.le_of_ble_eq_true rfl) d_Stow_run_51 (fun v11 s10 _ => ?_)
          refine xW_pure (fun _ _ _ _ _ => am_aload_n d_Stow_run_54 rfl rfl) ?_
          refine xW_gR O f_Stow_37 d_Stow_run_55 (fun v12 _ => ?_)
          refine xW_callV O (dx_Log_workCopy O T) (fun _ e => ob_Log_workCopy e) rfl rfl rfl l_Stow_66 ⟨w_954, w_955⟩ rfl (Nat.le_of_ble_eq_true rfl) d_Stow_run_58 (fun v14 s13 _ => ?_)
          refine xW_pure (fun _ _ _ _ _ => am_astore_n d_Stow_run_61 rfl (Nat.le_of_ble_eq_true rfl)) ?_
          refine xW_pure (fun _ _ _ _ _ => am_aload_n d_Stow_run_62 rfl rfl) ?_
          refine xW_gR O f_Stow_23 d_Stow_run_63 (fun v15 _ => ?_)
          refine xW_pure (fun _ _ _ _ _ => am_aload_n d_Stow_run_66 rfl rfl) ?_
          refine xW_callV O (dx_Pars_tellInto O T2) (fun _ e => ob_Pars_tellInto e) rfl rfl rfl l_Stow_70 ⟨w_1018, w_1019⟩ rfl (Nat.le_of_ble_eq_true rfl) d_Stow_run_67 (fun v17 s16 _ => ?_)
          refine xW_ite (fun _ _ _ _ _ k1 k2 => am_if_ne (tgt := 76) d_Stow_run_70 (by decide) k2 k1) (fun _ => ?_) (fun _ => ?_)
          · refine xW_pure (fun _ _ _ _ _ => am_bipush (v := 8) d_Stow_run_73 (by decide)) ?_
            exact xW_ret (fun _ _ _ _ _ => am_iret rfl d_Stow_run_75)
          · refine xW_pure (fun _ _ _ _ _ => am_aload_n d_Stow_run_76 rfl rfl) ?_
            refine xW_gR O f_Stow_30 d_Stow_run_77 (fun v18 _ => ?_)
            refine xW_pure (fun _ _ _ _ _ => am_aload_n d_Stow_run_80 rfl rfl) ?_
            refine xW_gR O f_Stow_23 d_Stow_run_81 (fun v19 _ => ?_)
            refine xW_callV O (dx_Pars_program O T) (fun _ e => ob_Pars_program e) rfl rfl rfl l_Stow_74 ⟨w_1058, w_1059⟩ rfl (Nat.le_of_ble_eq_true rfl) d_Stow_run_84 (fun v21 s20 _ => ?_)
            refine xW_pure (fun _ _ _ _ _ => am_aload_n d_Stow_run_87 rfl rfl) ?_
            refine xW_pure (fun _ _ _ _ _ => am_aload_n d_Stow_run_88 rfl rfl) ?_
            refine xW_gR O f_Stow_16 d_Stow_run_89 (fun v22 _ => ?_)
            refine xW_pure (fun _ _ _ _ _ => am_iload_n d_Stow_run_92 rfl rfl) ?_
            refine xW_callV O (dx_Mach_perform O T) (fun _ e => ob_Mach_perform e) rfl rfl rfl l_Stow_78 ⟨w_1062, w_1063⟩ rfl (Nat.le_of_ble_eq_true rfl) d_Stow_run_93 (fun v24 s23 _ => ?_)
            refine xW_pure (fun _ _ _ _ _ => am_istore d_Stow_run_96 (Nat.le_of_ble_eq_true rfl)) ?_
            refine xW_pure (fun _ _ _ _ _ => am_aload_n d_Stow_run_98 rfl rfl) ?_
            refine xW_pure (fun _ _ _ _ _ => am_aload_n d_Stow_run_99 rfl rfl) ?_
            refine xW_gR O f_Stow_30 d_Stow_run_100 (fun v25 _ => ?_)
            refine xW_callV O (dx_Mach_taken O T) (fun _ e => ob_Mach_taken e) rfl rfl rfl l_Stow_82 ⟨w_1326, w_1327⟩ rfl (Nat.le_of_ble_eq_true rfl) d_Stow_run_103 (fun v27 s26 _ => ?_)
            refine xW_put O f_Stow_86 d_Stow_run_106 (fun q hq => by cases hq; exact ⟨rfl, rfl, rfl⟩) (fun s28 _ => ?_)
            refine xW_pure (fun _ _ _ _ _ => am_iload d_Stow_run_109 rfl) ?_
            refine xW_ite (fun _ _ _ _ _ k1 k2 => am_if_ne (tgt := 161) d_Stow_run_111 (by decide) k2 k1) (fun _ => ?_) (fun _ => ?_)
            · refine xW_pure (fun _ _ _ _ _ => am_aload_n d_Stow_run_114 rfl rfl) ?_
              refine xW_pure (fun _ _ _ _ _ => am_aload_n d_Stow_run_115 rfl rfl) ?_
              refine xW_gR O f_Stow_30 d_Stow_run_116 (fun v29 _ => ?_)
              refine xW_callV O (dx_Mach_resultHead O T) (fun _ e => ob_Mach_resultHead e) rfl rfl rfl l_Stow_89 ⟨w_1330, w_1331⟩ rfl (Nat.le_of_ble_eq_true rfl) d_Stow_run_119 (fun v31 s30 _ => ?_)
              refine xW_put O f_Stow_93 d_Stow_run_122 (fun q hq => by cases hq; exact ⟨rfl, rfl, rfl⟩) (fun s32 _ => ?_)
              refine xW_pure (fun _ _ _ _ _ => am_aload_n d_Stow_run_125 rfl rfl) ?_
              refine xW_pure (fun _ _ _ _ _ => am_aload_n d_Stow_run_126 rfl rfl) ?_
              refine xW_gR O f_Stow_30 d_Stow_run_127 (fun v33 _ => ?_)
              refine xW_callV O (dx_Mach_resultTail O T) (fun _ e => ob_Mach_resultTail e) rfl rfl rfl l_Stow_97 ⟨w_1334, w_1335⟩ rfl (Nat.le_of_ble_eq_true rfl) d_Stow_run_130 (fun v35 s34 _ => ?_)
              refine xW_put O f_Stow_100 d_Stow_run_133 (fun q hq => by cases hq; exact ⟨rfl, rfl, rfl⟩) (fun s36 _ => ?_)
              refine xW_pure (fun _ _ _ _ _ => am_aload_n d_Stow_run_136 rfl rfl) ?_
              refine xW_gR O f_Stow_37 d_Stow_run_137 (fun v37 _ => ?_)
              refine xW_pure (fun _ _ _ _ _ => am_aload_n d_Stow_run_140 rfl rfl) ?_
              refine xW_gR O f_Stow_37 d_Stow_run_141 (fun v38 _ => ?_)
              refine xW_callV O (dx_Log_latest O T) (fun _ e => ob_Log_latest e) rfl rfl rfl l_Stow_103 ⟨w_1009, w_1010⟩ rfl (Nat.le_of_ble_eq_true rfl) d_Stow_run_144 (fun v40 s39 _ => ?_)
              refine xW_pure (fun _ _ _ _ _ => am_aload_n d_Stow_run_147 rfl rfl) ?_
              refine xW_pure (fun _ _ _ _ _ => am_aload_n d_Stow_run_148 rfl rfl) ?_
              refine xW_gR O f_Stow_23 d_Stow_run_149 (fun v41 _ => ?_)
              refine xW_callV O (dx_Pars_toldTokens O T2) (fun _ e => ob_Pars_toldTokens e) rfl rfl rfl l_Stow_106 ⟨w_1339, w_1340⟩ rfl (Nat.le_of_ble_eq_true rfl) d_Stow_run_152 (fun v43 s42 _ => ?_)
              refine xW_callS O (dx_Log_commitBytes O T) rfl l_Stow_109 w_1344 rfl (Nat.le_of_ble_eq_true rfl) d_Stow_run_155 (fun v45 s44 _ => ?_)
              refine xW_callV O (dx_Log_append O T) (fun _ e => ob_Log_append e) rfl rfl rfl l_Stow_113 ⟨w_1359, w_1360⟩ rfl (Nat.le_of_ble_eq_true rfl) d_Stow_run_158 (fun v47 s46 _ => ?_)
              refine xW_pure (fun _ _ _ _ _ => am_iload d_Stow_run_161 rfl) ?_
              exact xW_ret (fun _ _ _ _ _ => am_iret rfl d_Stow_run_163)
            · refine xW_pure (fun _ _ _ _ _ => am_iload d_Stow_run_161 rfl) ?_
              exact xW_ret (fun _ _ _ _ _ => am_iret rfl d_Stow_run_163)
        · refine xW_pure (fun _ _ _ _ _ => am_bipush (v := 100) d_Stow_run_38 (by decide)) ?_
          refine xW_pure (fun _ _ _ _ _ => am_iload_n d_Stow_run_40 rfl rfl) ?_
          refine xW_pure (fun _ _ _ _ _ => am_iadd d_Stow_run_41) ?_
          exact xW_ret (fun _ _ _ _ _ => am_iret rfl d_Stow_run_42)
      · refine xW_pure (fun _ _ _ _ _ => am_iconst (v := (-1)) d_Stow_run_11 (by decide)) ?_
        exact xW_ret (fun _ _ _ _ _ => am_iret rfl d_Stow_run_12)

theorem ob_Stow_run {d : Nat} {x0 : Nat} {x1 : Int32} {s : HS} {y : Int32 × HS} (h : x_Stow_run d x0 x1 s = some y) : isO s x0 9 = true := by
  cases d with
  | zero => cases h
  | succ d => exact (gd_spec h).1
end
