section
variable {K : am_K} {X : Nat → am_C}
def HC_P (K : am_K) (X : Nat → am_C) (c : CLT) (d : Nat) : Prop :=
  (∀ (r : Nat) (x y z : Int32) (s : HS), xM cvU K X m_Pars_block d [.ref r, .int x] s (cU (c 0 r x y z s)) ∧ ∀ w, cU (c 0 r x y z s) = some w → isO s r 5 = true) ∧
  (∀ (r : Nat) (x y z : Int32) (s : HS), xM cvU K X m_Pars_statement d [.ref r, .int x] s (cU (c 1 r x y z s)) ∧ ∀ w, cU (c 1 r x y z s) = some w → isO s r 5 = true) ∧
  (∀ (r : Nat) (x y z : Int32) (s : HS), xM cvU K X m_Pars_letStatement d [.ref r, .int x] s (cU (c 2 r x y z s)) ∧ ∀ w, cU (c 2 r x y z s) = some w → isO s r 5 = true) ∧
  (∀ (r : Nat) (x y z : Int32) (s : HS), xM cvU K X m_Pars_ifStatement d [.ref r, .int x] s (cU (c 3 r x y z s)) ∧ ∀ w, cU (c 3 r x y z s) = some w → isO s r 5 = true) ∧
  (∀ (r : Nat) (x y z : Int32) (s : HS), xM cvU K X m_Pars_whileStatement d [.ref r, .int x] s (cU (c 4 r x y z s)) ∧ ∀ w, cU (c 4 r x y z s) = some w → isO s r 5 = true) ∧
  (∀ (r : Nat) (x y z : Int32) (s : HS), xM cvI K X m_Pars_condition d [.ref r, .int x] s (c 5 r x y z s) ∧ ∀ w, c 5 r x y z s = some w → isO s r 5 = true) ∧
  (∀ (r : Nat) (x y z : Int32) (s : HS), xM cvU K X m_Pars_returnStatement d [.ref r, .int x] s (cU (c 6 r x y z s)) ∧ ∀ w, cU (c 6 r x y z s) = some w → isO s r 5 = true) ∧
  (∀ (r : Nat) (x y z : Int32) (s : HS), xM cvU K X m_Pars_plainStatement d [.ref r, .int x] s (cU (c 7 r x y z s)) ∧ ∀ w, cU (c 7 r x y z s) = some w → isO s r 5 = true) ∧
  (∀ (r : Nat) (x y z : Int32) (s : HS), xM cvU K X m_Pars_expression d [.ref r, .int x] s (cU (c 8 r x y z s)) ∧ ∀ w, cU (c 8 r x y z s) = some w → isO s r 5 = true) ∧
  (∀ (r : Nat) (x y z : Int32) (s : HS), xM cvU K X m_Pars_level d [.ref r, .int x, .int y] s (cU (c 9 r x y z s)) ∧ ∀ w, cU (c 9 r x y z s) = some w → isO s r 5 = true) ∧
  (∀ (r : Nat) (x y z : Int32) (s : HS), xM cvU K X m_Pars_signed d [.ref r, .int x] s (cU (c 10 r x y z s)) ∧ ∀ w, cU (c 10 r x y z s) = some w → isO s r 5 = true) ∧
  (∀ (r : Nat) (x y z : Int32) (s : HS), xM cvU K X m_Pars_parts d [.ref r, .int x] s (cU (c 11 r x y z s)) ∧ ∀ w, cU (c 11 r x y z s) = some w → isO s r 5 = true) ∧
  (∀ (r : Nat) (x y z : Int32) (s : HS), xM cvU K X m_Pars_atom d [.ref r, .int x] s (cU (c 12 r x y z s)) ∧ ∀ w, cU (c 12 r x y z s) = some w → isO s r 5 = true) ∧
  (∀ (r : Nat) (x y z : Int32) (s : HS), xM cvI K X m_Pars_variableOrCall d [.ref r, .int x] s (c 13 r x y z s) ∧ ∀ w, c 13 r x y z s = some w → isO s r 5 = true) ∧
  (∀ (r : Nat) (x y z : Int32) (s : HS), xM cvU K X m_Pars_withOne d [.ref r, .int x, .int y] s (cU (c 14 r x y z s)) ∧ ∀ w, cU (c 14 r x y z s) = some w → isO s r 5 = true) ∧
  (∀ (r : Nat) (x y z : Int32) (s : HS), xM cvU K X m_Pars_inBrackets d [.ref r, .int x] s (cU (c 15 r x y z s)) ∧ ∀ w, cU (c 15 r x y z s) = some w → isO s r 5 = true) ∧
  (∀ (r : Nat) (x y z : Int32) (s : HS), xM cvU K X m_Pars_pushAtom d [.ref r, .int x] s (cU (c 16 r x y z s)) ∧ ∀ w, cU (c 16 r x y z s) = some w → isO s r 5 = true) ∧
  (∀ (r : Nat) (x y z : Int32) (s : HS), xM cvI K X m_Pars_list d [.ref r, .int x, .int y, .int z] s (c 17 r x y z s) ∧ ∀ w, c 17 r x y z s = some w → isO s r 5 = true) ∧
  (∀ (r : Nat) (x y z : Int32) (s : HS), xM cvI K X m_Pars_fields d [.ref r, .int x] s (c 18 r x y z s) ∧ ∀ w, c 18 r x y z s = some w → isO s r 5 = true) ∧
  (∀ (r : Nat) (x y z : Int32) (s : HS), xM cvU K X m_Pars_field d [.ref r, .int x] s (cU (c 19 r x y z s)) ∧ ∀ w, cU (c 19 r x y z s) = some w → isO s r 5 = true)

set_option maxRecDepth 100000 in
def x_Pars_block_b (c : CLT) (d : Nat) (x0 : Nat) (x1 : Int32) (s : HS) : Option (Unit × HS) := gd s x0 5 (bnd (x_Pars_open d x0 123 x1 s) fun v2 s1 => (if v2 = 0 then (some ((), s1)) else (loopK (fun (again13 : Int32 × HS → Option (Unit × HS)) (z13 : Int32 × HS) => (if 1500 < z13.1 then (bnd (x_Pars_take d x0 125 z13.2) fun v4 s3 => (some ((), s3))) else ((gI z13.2 x0 5 6).bind fun v5 => (if 0 ≤ v5 then (bnd (x_Pars_take d x0 125 z13.2) fun v7 s6 => (some ((), s6))) else ((gR z13.2 x0 5 0).bind fun v8 => (bnd (x_Lexer_kind d v8 z13.2) fun v10 s9 => (if v10 = 125 then (bnd (x_Pars_take d x0 125 s9) fun v12 s11 => (some ((), s11))) else (bnd (cU (c 1 x0 (x1 + 1) 0 0 s9)) fun v14 s13 => (again13 ((z13.1 + 1), s13)))))))))) FU (0, s1))))

set_option maxRecDepth 100000 in
set_option maxHeartbeats 4000000 in
theorem dx_Pars_block_b (O : am_ok K X) (T : am_T K) {c : CLT} {d : Nat} (H : HC_P K X c d) {x0 : Nat} {x1 : Int32} {s : HS} : xM cvU K X m_Pars_block (d + 1) [.ref x0, .int x1] s (x_Pars_block_b c d x0 x1 s) := by
  unfold x_Pars_block_b
  refine xM_enter (by decide +kernel) (Nat.le_of_ble_eq_true rfl) ?_
  refine xW_gd (fun _ => ?_)
  refine xW_pure (fun _ _ _ _ _ => am_aload_n d_Pars_block_0 rfl rfl) ?_
  refine xW_pure (fun _ _ _ _ _ => am_bipush (v := 123) d_Pars_block_1 (by decide)) ?_
  refine xW_pure (fun _ _ _ _ _ => am_iload_n d_Pars_block_3 rfl rfl) ?_
  refine xW_callV O (dx_Pars_open O T) (fun _ e => ob_Pars_open e) rfl rfl rfl l_Pars_135 ⟨w_746, w_15⟩ rfl (Nat.le_of_ble_eq_true rfl) d_Pars_block_4 (fun v2 s1 _ => ?_)
  refine xW_ite (fun _ _ _ _ _ k1 k2 => am_if_ne (tgt := 11) d_Pars_block_7 (by decide) k2 k1) (fun _ => ?_) (fun _ => ?_)
  · exact xW_ret (fun _ _ _ _ _ => am_vret rfl d_Pars_block_10)
  · refine xW_pure (fun _ _ _ _ _ => am_iconst (v := 0) d_Pars_block_11 (by decide)) ?_
    refine xW_pure (fun _ _ _ _ _ => am_istore_n d_Pars_block_12 rfl (Nat.le_of_ble_eq_true rfl)) ?_
    refine xW_locs (lv' := [(0, .ref x0), (1, .int x1), (2, .int 0)]) rfl ?_
    refine xW_loop (lvf := fun (z13 : Int32 × HS) => [(0, .ref x0), (1, .int x1), (2, .int z13.1)]) (hsf := fun (z13 : Int32 × HS) => z13.2) (fun again13 ih13 z13 => ?_) FU (0, s1)
    refine xW_pure (fun _ _ _ _ _ => am_iload_n d_Pars_block_13 rfl rfl) ?_
    refine xW_pure (fun _ _ _ _ _ => am_sipush (v := 1500) d_Pars_block_14 (by decide)) ?_
    refine xW_ite (fun _ _ _ _ _ => am_icmp_gt (tgt := 52) d_Pars_block_17 (by decide)) (fun _ => ?_) (fun _ => ?_)
    · refine xW_pure (fun _ _ _ _ _ => am_aload_n d_Pars_block_52 rfl rfl) ?_
      refine xW_pure (fun _ _ _ _ _ => am_bipush (v := 125) d_Pars_block_53 (by decide)) ?_
      refine xW_callV O (dx_Pars_take O T) (fun _ e => ob_Pars_take e) rfl rfl rfl l_Pars_106 ⟨w_682, w_9⟩ rfl (Nat.le_of_ble_eq_true rfl) d_Pars_block_55 (fun v4 s3 _ => ?_)
      exact xW_ret (fun _ _ _ _ _ => am_vret rfl d_Pars_block_58)
    · refine xW_pure (fun _ _ _ _ _ => am_aload_n d_Pars_block_20 rfl rfl) ?_
      refine xW_gI O f_Pars_51 d_Pars_block_21 (fun v5 _ => ?_)
      refine xW_ite (fun _ _ _ _ _ => am_if_ge (tgt := 52) d_Pars_block_24 (by decide)) (fun _ => ?_) (fun _ => ?_)
      · refine xW_pure (fun _ _ _ _ _ => am_aload_n d_Pars_block_52 rfl rfl) ?_
        refine xW_pure (fun _ _ _ _ _ => am_bipush (v := 125) d_Pars_block_53 (by decide)) ?_
        refine xW_callV O (dx_Pars_take O T) (fun _ e => ob_Pars_take e) rfl rfl rfl l_Pars_106 ⟨w_682, w_9⟩ rfl (Nat.le_of_ble_eq_true rfl) d_Pars_block_55 (fun v7 s6 _ => ?_)
        exact xW_ret (fun _ _ _ _ _ => am_vret rfl d_Pars_block_58)
      · refine xW_pure (fun _ _ _ _ _ => am_aload_n d_Pars_block_27 rfl rfl) ?_
        refine xW_gR O f_Pars_12 d_Pars_block_28 (fun v8 _ => ?_)
        refine xW_callV O (dx_Lexer_kind O T) (fun _ e => ob_Lexer_kind e) rfl rfl rfl l_Pars_59 ⟨w_673, w_674⟩ rfl (Nat.le_of_ble_eq_true rfl) d_Pars_block_31 (fun v10 s9 _ => ?_)
        refine xW_pure (fun _ _ _ _ _ => am_bipush (v := 125) d_Pars_block_34 (by decide)) ?_
        refine xW_ite (fun _ _ _ _ _ => am_icmp_eq (tgt := 52) d_Pars_block_36 (by decide)) (fun _ => ?_) (fun _ => ?_)
        · refine xW_pure (fun _ _ _ _ _ => am_aload_n d_Pars_block_52 rfl rfl) ?_
          refine xW_pure (fun _ _ _ _ _ => am_bipush (v := 125) d_Pars_block_53 (by decide)) ?_
          refine xW_callV O (dx_Pars_take O T) (fun _ e => ob_Pars_take e) rfl rfl rfl l_Pars_106 ⟨w_682, w_9⟩ rfl (Nat.le_of_ble_eq_true rfl) d_Pars_block_55 (fun v12 s11 _ => ?_)
          exact xW_ret (fun _ _ _ _ _ => am_vret rfl d_Pars_block_58)
        · refine xW_pure (fun _ _ _ _ _ => am_aload_n d_Pars_block_39 rfl rfl) ?_
          refine xW_pure (fun _ _ _ _ _ => am_iload_n d_Pars_block_40 rfl rfl) ?_
          refine xW_pure (fun _ _ _ _ _ => am_iconst (v := 1) d_Pars_block_41 (by decide)) ?_
          refine xW_pure (fun _ _ _ _ _ => am_iadd d_Pars_block_42) ?_
          refine xW_callV O (H.2.1 _ _ _ _ _).1 (H.2.1 _ _ _ _ _).2 rfl rfl rfl l_Pars_66 ⟨w_750, w_16⟩ rfl (Nat.le_of_ble_eq_true rfl) d_Pars_block_43 (fun v14 s13 _ => ?_)
          refine xW_pure (fun _ _ _ _ _ => am_iinc (v := 1) d_Pars_block_46 rfl (by decide) (Nat.le_of_ble_eq_true rfl)) ?_
          refine xW_pure (fun _ _ _ _ _ => am_goto (tgt := 13) d_Pars_block_49 (by decide)) ?_
          refine xW_locs (lv' := [(0, .ref x0), (1, .int x1), (2, .int (z13.1 + 1))]) rfl ?_
          exact ih13 ((z13.1 + 1), s13)

set_option maxRecDepth 100000 in
def x_Pars_statement_b (c : CLT) (d : Nat) (x0 : Nat) (x1 : Int32) (s : HS) : Option (Unit × HS) := gd s x0 5 ((gR s x0 5 0).bind fun v1 => (bnd (x_Lexer_kind d v1 s) fun v3 s2 => (if v3 = 123 then (bnd (cU (c 0 x0 x1 0 0 s2)) fun v5 s4 => (some ((), s4))) else ((gR s2 x0 5 3).bind fun v6 => (bnd (x_Draft_add d v6 0 0 s2) fun v8 s7 => ((gR s7 x0 5 0).bind fun v9 => (bnd (x_Lexer_kind d v9 s7) fun v11 s10 => (if v11 = 6 then (bnd (cU (c 2 x0 x1 0 0 s10)) fun v13 s12 => (some ((), s12))) else (if v11 = 7 then (bnd (cU (c 3 x0 x1 0 0 s10)) fun v15 s14 => (some ((), s14))) else (if v11 = 8 then (bnd (cU (c 7 x0 x1 0 0 s10)) fun v17 s16 => (some ((), s16))) else (if v11 = 9 then (bnd (cU (c 4 x0 x1 0 0 s10)) fun v19 s18 => (some ((), s18))) else (if v11 = 10 then (bnd (cU (c 6 x0 x1 0 0 s10)) fun v21 s20 => (some ((), s20))) else (if v11 = 11 then (bnd (x_Pars_take d x0 11 s10) fun v23 s22 => ((gR s22 x0 5 3).bind fun v24 => (bnd (x_Draft_add d v24 7 0 s22) fun v26 s25 => (bnd (x_Pars_take d x0 59 s25) fun v28 s27 => (some ((), s27)))))) else (if v11 = 12 then (bnd (x_Pars_take d x0 12 s10) fun v30 s29 => (bnd (cU (c 8 x0 x1 0 0 s29)) fun v32 s31 => ((gR s31 x0 5 3).bind fun v33 => (bnd (x_Draft_add d v33 9 0 s31) fun v35 s34 => (bnd (x_Pars_take d x0 59 s34) fun v37 s36 => (some ((), s36))))))) else (bnd (cU (c 7 x0 x1 0 0 s10)) fun v39 s38 => (some ((), s38)))))))))))))))))

set_option maxRecDepth 100000 in
set_option maxHeartbeats 4000000 in
theorem dx_Pars_statement_b (O : am_ok K X) (T : am_T K) {c : CLT} {d : Nat} (H : HC_P K X c d) {x0 : Nat} {x1 : Int32} {s : HS} : xM cvU K X m_Pars_statement (d + 1) [.ref x0, .int x1] s (x_Pars_statement_b c d x0 x1 s) := by
  unfold x_Pars_statement_b
  refine xM_enter (by decide +kernel) (Nat.le_of_ble_eq_true rfl) ?_
  refine xW_gd (fun _ => ?_)
  refine xW_pure (fun _ _ _ _ _ => am_aload_n d_Pars_statement_0 rfl rfl) ?_
  refine xW_gR O f_Pars_12 d_Pars_statement_1 (fun v1 _ => ?_)
  refine xW_callV O (dx_Lexer_kind O T) (fun _ e => ob_Lexer_kind e) rfl rfl rfl l_Pars_59 ⟨w_673, w_674⟩ rfl (Nat.le_of_ble_eq_true rfl) d_Pars_statement_4 (fun v3 s2 _ => ?_)
  refine xW_pure (fun _ _ _ _ _ => am_bipush (v := 123) d_Pars_statement_7 (by decide)) ?_
  refine xW_ite (fun _ _ _ _ _ k1 k2 => am_icmp_ne (tgt := 18) d_Pars_statement_9 (by decide) k2 k1) (fun _ => ?_) (fun _ => ?_)
  · refine xW_pure (fun _ _ _ _ _ => am_aload_n d_Pars_statement_12 rfl rfl) ?_
    refine xW_pure (fun _ _ _ _ _ => am_iload_n d_Pars_statement_13 rfl rfl) ?_
    refine xW_callV O (H.1 _ _ _ _ _).1 (H.1 _ _ _ _ _).2 rfl rfl rfl l_Pars_118 ⟨w_742, w_14⟩ rfl (Nat.le_of_ble_eq_true rfl) d_Pars_statement_14 (fun v5 s4 _ => ?_)
    exact xW_ret (fun _ _ _ _ _ => am_vret rfl d_Pars_statement_17)
  · refine xW_pure (fun _ _ _ _ _ => am_aload_n d_Pars_statement_18 rfl rfl) ?_
    refine xW_gR O f_Pars_28 d_Pars_statement_19 (fun v6 _ => ?_)
    refine xW_pure (fun _ _ _ _ _ => am_iconst (v := 0) d_Pars_statement_22 (by decide)) ?_
    refine xW_pure (fun _ _ _ _ _ => am_iconst (v := 0) d_Pars_statement_23 (by decide)) ?_
    refine xW_callV O (dx_Draft_add O T) (fun _ e => ob_Draft_add e) rfl rfl rfl l_Pars_141 ⟨w_753, w_754⟩ rfl (Nat.le_of_ble_eq_true rfl) d_Pars_statement_24 (fun v8 s7 _ => ?_)
    refine xW_pure (fun _ _ _ _ _ => am_aload_n d_Pars_statement_27 rfl rfl) ?_
    refine xW_gR O f_Pars_12 d_Pars_statement_28 (fun v9 _ => ?_)
    refine xW_callV O (dx_Lexer_kind O T) (fun _ e => ob_Lexer_kind e) rfl rfl rfl l_Pars_59 ⟨w_673, w_674⟩ rfl (Nat.le_of_ble_eq_true rfl) d_Pars_statement_31 (fun v11 s10 _ => ?_)
    refine xW_by (fun c34_0 => ?_) (fun c34_0 => ?_)
    · refine xW_pure (fun _ _ _ _ _ => am_tableIn (off := 42) (tgt := 76) d_Pars_statement_34 (by rw [c34_0]; decide) (by rw [c34_0]; decide) (by rw [c34_0]; rfl) (by decide)) ?_
      refine xW_pure (fun _ _ _ _ _ => am_aload_n d_Pars_statement_76 rfl rfl) ?_
      refine xW_pure (fun _ _ _ _ _ => am_iload_n d_Pars_statement_77 rfl rfl) ?_
      refine xW_callV O (H.2.2.1 _ _ _ _ _).1 (H.2.2.1 _ _ _ _ _).2 rfl rfl rfl l_Pars_144 ⟨w_766, w_17⟩ rfl (Nat.le_of_ble_eq_true rfl) d_Pars_statement_78 (fun v13 s12 _ => ?_)
      refine xW_pure (fun _ _ _ _ _ => am_goto (tgt := 168) d_Pars_statement_81 (by decide)) ?_
      exact xW_ret (fun _ _ _ _ _ => am_vret rfl d_Pars_statement_168)
    · refine xW_by (fun c34_1 => ?_) (fun c34_1 => ?_)
      · refine xW_pure (fun _ _ _ _ _ => am_tableIn (off := 50) (tgt := 84) d_Pars_statement_34 (by rw [c34_1]; decide) (by rw [c34_1]; decide) (by rw [c34_1]; rfl) (by decide)) ?_
        refine xW_pure (fun _ _ _ _ _ => am_aload_n d_Pars_statement_84 rfl rfl) ?_
        refine xW_pure (fun _ _ _ _ _ => am_iload_n d_Pars_statement_85 rfl rfl) ?_
        refine xW_callV O (H.2.2.2.1 _ _ _ _ _).1 (H.2.2.2.1 _ _ _ _ _).2 rfl rfl rfl l_Pars_147 ⟨w_850, w_31⟩ rfl (Nat.le_of_ble_eq_true rfl) d_Pars_statement_86 (fun v15 s14 _ => ?_)
        refine xW_pure (fun _ _ _ _ _ => am_goto (tgt := 168) d_Pars_statement_89 (by decide)) ?_
        exact xW_ret (fun _ _ _ _ _ => am_vret rfl d_Pars_statement_168)
      · refine xW_by (fun c34_2 => ?_) (fun c34_2 => ?_)
        · refine xW_pure (fun _ _ _ _ _ => am_tableIn (off := 129) (tgt := 163) d_Pars_statement_34 (by rw [c34_2]; decide) (by rw [c34_2]; decide) (by rw [c34_2]; rfl) (by decide)) ?_
          refine xW_pure (fun _ _ _ _ _ => am_aload_n d_Pars_statement_163 rfl rfl) ?_
          refine xW_pure (fun _ _ _ _ _ => am_iload_n d_Pars_statement_164 rfl rfl) ?_
          refine xW_callV O (H.2.2.2.2.2.2.2.1 _ _ _ _ _).1 (H.2.2.2.2.2.2.2.1 _ _ _ _ _).2 rfl rfl rfl l_Pars_159 ⟨w_866, w_35⟩ rfl (Nat.le_of_ble_eq_true rfl) d_Pars_statement_165 (fun v17 s16 _ => ?_)
          exact xW_ret (fun _ _ _ _ _ => am_vret rfl d_Pars_statement_168)
        · refine xW_by (fun c34_3 => ?_) (fun c34_3 => ?_)
          · refine xW_pure (fun _ _ _ _ _ => am_tableIn (off := 58) (tgt := 92) d_Pars_statement_34 (by rw [c34_3]; decide) (by rw [c34_3]; decide) (by rw [c34_3]; rfl) (by decide)) ?_
            refine xW_pure (fun _ _ _ _ _ => am_aload_n d_Pars_statement_92 rfl rfl) ?_
            refine xW_pure (fun _ _ _ _ _ => am_iload_n d_Pars_statement_93 rfl rfl) ?_
            refine xW_callV O (H.2.2.2.2.1 _ _ _ _ _).1 (H.2.2.2.2.1 _ _ _ _ _).2 rfl rfl rfl l_Pars_150 ⟨w_858, w_33⟩ rfl (Nat.le_of_ble_eq_true rfl) d_Pars_statement_94 (fun v19 s18 _ => ?_)
            refine xW_pure (fun _ _ _ _ _ => am_goto (tgt := 168) d_Pars_statement_97 (by decide)) ?_
            exact xW_ret (fun _ _ _ _ _ => am_vret rfl d_Pars_statement_168)
          · refine xW_by (fun c34_4 => ?_) (fun c34_4 => ?_)
            · refine xW_pure (fun _ _ _ _ _ => am_tableIn (off := 66) (tgt := 100) d_Pars_statement_34 (by rw [c34_4]; decide) (by rw [c34_4]; decide) (by rw [c34_4]; rfl) (by decide)) ?_
              refine xW_pure (fun _ _ _ _ _ => am_aload_n d_Pars_statement_100 rfl rfl) ?_
              refine xW_pure (fun _ _ _ _ _ => am_iload_n d_Pars_statement_101 rfl rfl) ?_
              refine xW_callV O (H.2.2.2.2.2.2.1 _ _ _ _ _).1 (H.2.2.2.2.2.2.1 _ _ _ _ _).2 rfl rfl rfl l_Pars_153 ⟨w_862, w_34⟩ rfl (Nat.le_of_ble_eq_true rfl) d_Pars_statement_102 (fun v21 s20 _ => ?_)
              refine xW_pure (fun _ _ _ _ _ => am_goto (tgt := 168) d_Pars_statement_105 (by decide)) ?_
              exact xW_ret (fun _ _ _ _ _ => am_vret rfl d_Pars_statement_168)
            · refine xW_by (fun c34_5 => ?_) (fun c34_5 => ?_)
              · refine xW_pure (fun _ _ _ _ _ => am_tableIn (off := 74) (tgt := 108) d_Pars_statement_34 (by rw [c34_5]; decide) (by rw [c34_5]; decide) (by rw [c34_5]; rfl) (by decide)) ?_
                refine xW_pure (fun _ _ _ _ _ => am_aload_n d_Pars_statement_108 rfl rfl) ?_
                refine xW_pure (fun _ _ _ _ _ => am_bipush (v := 11) d_Pars_statement_109 (by decide)) ?_
                refine xW_callV O (dx_Pars_take O T) (fun _ e => ob_Pars_take e) rfl rfl rfl l_Pars_106 ⟨w_682, w_9⟩ rfl (Nat.le_of_ble_eq_true rfl) d_Pars_statement_111 (fun v23 s22 _ => ?_)
                refine xW_pure (fun _ _ _ _ _ => am_aload_n d_Pars_statement_114 rfl rfl) ?_
                refine xW_gR O f_Pars_28 d_Pars_statement_115 (fun v24 _ => ?_)
                refine xW_pure (fun _ _ _ _ _ => am_bipush (v := 7) d_Pars_statement_118 (by decide)) ?_
                refine xW_pure (fun _ _ _ _ _ => am_iconst (v := 0) d_Pars_statement_120 (by decide)) ?_
                refine xW_callV O (dx_Draft_add O T) (fun _ e => ob_Draft_add e) rfl rfl rfl l_Pars_141 ⟨w_753, w_754⟩ rfl (Nat.le_of_ble_eq_true rfl) d_Pars_statement_121 (fun v26 s25 _ => ?_)
                refine xW_pure (fun _ _ _ _ _ => am_aload_n d_Pars_statement_124 rfl rfl) ?_
                refine xW_pure (fun _ _ _ _ _ => am_bipush (v := 59) d_Pars_statement_125 (by decide)) ?_
                refine xW_callV O (dx_Pars_take O T) (fun _ e => ob_Pars_take e) rfl rfl rfl l_Pars_106 ⟨w_682, w_9⟩ rfl (Nat.le_of_ble_eq_true rfl) d_Pars_statement_127 (fun v28 s27 _ => ?_)
                refine xW_pure (fun _ _ _ _ _ => am_goto (tgt := 168) d_Pars_statement_130 (by decide)) ?_
                exact xW_ret (fun _ _ _ _ _ => am_vret rfl d_Pars_statement_168)
              · refine xW_by (fun c34_6 => ?_) (fun c34_6 => ?_)
                · refine xW_pure (fun _ _ _ _ _ => am_tableIn (off := 99) (tgt := 133) d_Pars_statement_34 (by rw [c34_6]; decide) (by rw [c34_6]; decide) (by rw [c34_6]; rfl) (by decide)) ?_
                  refine xW_pure (fun _ _ _ _ _ => am_aload_n d_Pars_statement_133 rfl rfl) ?_
                  refine xW_pure (fun _ _ _ _ _ => am_bipush (v := 12) d_Pars_statement_134 (by decide)) ?_
                  refine xW_callV O (dx_Pars_take O T) (fun _ e => ob_Pars_take e) rfl rfl rfl l_Pars_106 ⟨w_682, w_9⟩ rfl (Nat.le_of_ble_eq_true rfl) d_Pars_statement_136 (fun v30 s29 _ => ?_)
                  refine xW_pure (fun _ _ _ _ _ => am_aload_n d_Pars_statement_139 rfl rfl) ?_
                  refine xW_pure (fun _ _ _ _ _ => am_iload_n d_Pars_statement_140 rfl rfl) ?_
                  refine xW_callV O (H.2.2.2.2.2.2.2.2.1 _ _ _ _ _).1 (H.2.2.2.2.2.2.2.2.1 _ _ _ _ _).2 rfl rfl rfl l_Pars_156 ⟨w_770, w_18⟩ rfl (Nat.le_of_ble_eq_true rfl) d_Pars_statement_141 (fun v32 s31 _ => ?_)
                  refine xW_pure (fun _ _ _ _ _ => am_aload_n d_Pars_statement_144 rfl rfl) ?_
                  refine xW_gR O f_Pars_28 d_Pars_statement_145 (fun v33 _ => ?_)
                  refine xW_pure (fun _ _ _ _ _ => am_bipush (v := 9) d_Pars_statement_148 (by decide)) ?_
                  refine xW_pure (fun _ _ _ _ _ => am_iconst (v := 0) d_Pars_statement_150 (by decide)) ?_
                  refine xW_callV O (dx_Draft_add O T) (fun _ e => ob_Draft_add e) rfl rfl rfl l_Pars_141 ⟨w_753, w_754⟩ rfl (Nat.le_of_ble_eq_true rfl) d_Pars_statement_151 (fun v35 s34 _ => ?_)
                  refine xW_pure (fun _ _ _ _ _ => am_aload_n d_Pars_statement_154 rfl rfl) ?_
                  refine xW_pure (fun _ _ _ _ _ => am_bipush (v := 59) d_Pars_statement_155 (by decide)) ?_
                  refine xW_callV O (dx_Pars_take O T) (fun _ e => ob_Pars_take e) rfl rfl rfl l_Pars_106 ⟨w_682, w_9⟩ rfl (Nat.le_of_ble_eq_true rfl) d_Pars_statement_157 (fun v37 s36 _ => ?_)
                  refine xW_pure (fun _ _ _ _ _ => am_goto (tgt := 168) d_Pars_statement_160 (by decide)) ?_
                  exact xW_ret (fun _ _ _ _ _ => am_vret rfl d_Pars_statement_168)
                · have e34_0 := lk_ne c34_0 (show (6 : Int32).toInt = 6 by decide)
                  have e34_1 := lk_ne c34_1 (show (7 : Int32).toInt = 7 by decide)
                  have e34_2 := lk_ne c34_2 (show (8 : Int32).toInt = 8 by decide)
                  have e34_3 := lk_ne c34_3 (show (9 : Int32).toInt = 9 by decide)
                  have e34_4 := lk_ne c34_4 (show (10 : Int32).toInt = 10 by decide)
                  have e34_5 := lk_ne c34_5 (show (11 : Int32).toInt = 11 by decide)
                  have e34_6 := lk_ne c34_6 (show (12 : Int32).toInt = 12 by decide)
                  refine xW_pure (fun _ _ _ _ _ => am_tableOut (tgt := 163) d_Pars_statement_34 (by omega) (by decide)) ?_
                  refine xW_pure (fun _ _ _ _ _ => am_aload_n d_Pars_statement_163 rfl rfl) ?_
                  refine xW_pure (fun _ _ _ _ _ => am_iload_n d_Pars_statement_164 rfl rfl) ?_
                  refine xW_callV O (H.2.2.2.2.2.2.2.1 _ _ _ _ _).1 (H.2.2.2.2.2.2.2.1 _ _ _ _ _).2 rfl rfl rfl l_Pars_159 ⟨w_866, w_35⟩ rfl (Nat.le_of_ble_eq_true rfl) d_Pars_statement_165 (fun v39 s38 _ => ?_)
                  exact xW_ret (fun _ _ _ _ _ => am_vret rfl d_Pars_statement_168)

set_option maxRecDepth 100000 in
def x_Pars_letStatement_b (c : CLT) (d : Nat) (x0 : Nat) (x1 : Int32) (s : HS) : Option (Unit × HS) := gd s x0 5 (bnd (x_Pars_take d x0 6 s) fun v2 s1 => ((gR s1 x0 5 3).bind fun v3 => (bnd (x_Pars_takeName d x0 s1) fun v5 s4 => (bnd (x_Draft_makeLocal d v3 v5 s4) fun v7 s6 => (bnd (x_Pars_take d x0 61 s6) fun v9 s8 => (bnd (cU (c 8 x0 x1 0 0 s8)) fun v11 s10 => ((gR s10 x0 5 3).bind fun v12 => (bnd (x_Draft_add d v12 14 v7 s10) fun v14 s13 => (bnd (x_Pars_take d x0 59 s13) fun v16 s15 => (some ((), s15)))))))))))

set_option maxRecDepth 100000 in
set_option maxHeartbeats 4000000 in
theorem dx_Pars_letStatement_b (O : am_ok K X) (T : am_T K) {c : CLT} {d : Nat} (H : HC_P K X c d) {x0 : Nat} {x1 : Int32} {s : HS} : xM cvU K X m_Pars_letStatement (d + 1) [.ref x0, .int x1] s (x_Pars_letStatement_b c d x0 x1 s) := by
  unfold x_Pars_letStatement_b
  refine xM_enter (by decide +kernel) (Nat.le_of_ble_eq_true rfl) ?_
  refine xW_gd (fun _ => ?_)
  refine xW_pure (fun _ _ _ _ _ => am_aload_n d_Pars_letStatement_0 rfl rfl) ?_
  refine xW_pure (fun _ _ _ _ _ => am_bipush (v := 6) d_Pars_letStatement_1 (by decide)) ?_
  refine xW_callV O (dx_Pars_take O T) (fun _ e => ob_Pars_take e) rfl rfl rfl l_Pars_106 ⟨w_682, w_9⟩ rfl (Nat.le_of_ble_eq_true rfl) d_Pars_letStatement_3 (fun v2 s1 _ => ?_)
  refine xW_pure (fun _ _ _ _ _ => am_aload_n d_Pars_letStatement_6 rfl rfl) ?_
  refine xW_gR O f_Pars_28 d_Pars_letStatement_7 (fun v3 _ => ?_)
  refine xW_pure (fun _ _ _ _ _ => am_aload_n d_Pars_letStatement_10 rfl rfl) ?_
  refine xW_callV O (dx_Pars_takeName O T) (fun _ e => ob_Pars_takeName e) rfl rfl rfl l_Pars_109 ⟨w_699, w_11⟩ rfl (Nat.le_of_ble_eq_true rfl) d_Pars_letStatement_11 (fun v5 s4 _ => ?_)
  refine xW_callV O (dx_Draft_makeLocal O T) (fun _ e => ob_Draft_makeLocal e) rfl rfl rfl l_Pars_132 ⟨w_718, w_719⟩ rfl (Nat.le_of_ble_eq_true rfl) d_Pars_letStatement_14 (fun v7 s6 _ => ?_)
  refine xW_pure (fun _ _ _ _ _ => am_istore_n d_Pars_letStatement_17 rfl (Nat.le_of_ble_eq_true rfl)) ?_
  refine xW_pure (fun _ _ _ _ _ => am_aload_n d_Pars_letStatement_18 rfl rfl) ?_
  refine xW_pure (fun _ _ _ _ _ => am_bipush (v := 61) d_Pars_letStatement_19 (by decide)) ?_
  refine xW_callV O (dx_Pars_take O T) (fun _ e => ob_Pars_take e) rfl rfl rfl l_Pars_106 ⟨w_682, w_9⟩ rfl (Nat.le_of_ble_eq_true rfl) d_Pars_letStatement_21 (fun v9 s8 _ => ?_)
  refine xW_pure (fun _ _ _ _ _ => am_aload_n d_Pars_letStatement_24 rfl rfl) ?_
  refine xW_pure (fun _ _ _ _ _ => am_iload_n d_Pars_letStatement_25 rfl rfl) ?_
  refine xW_callV O (H.2.2.2.2.2.2.2.2.1 _ _ _ _ _).1 (H.2.2.2.2.2.2.2.2.1 _ _ _ _ _).2 rfl rfl rfl l_Pars_156 ⟨w_770, w_18⟩ rfl (Nat.le_of_ble_eq_true rfl) d_Pars_letStatement_26 (fun v11 s10 _ => ?_)
  refine xW_pure (fun _ _ _ _ _ => am_aload_n d_Pars_letStatement_29 rfl rfl) ?_
  refine xW_gR O f_Pars_28 d_Pars_letStatement_30 (fun v12 _ => ?_)
  refine xW_pure (fun _ _ _ _ _ => am_bipush (v := 14) d_Pars_letStatement_33 (by decide)) ?_
  refine xW_pure (fun _ _ _ _ _ => am_iload_n d_Pars_letStatement_35 rfl rfl) ?_
  refine xW_callV O (dx_Draft_add O T) (fun _ e => ob_Draft_add e) rfl rfl rfl l_Pars_141 ⟨w_753, w_754⟩ rfl (Nat.le_of_ble_eq_true rfl) d_Pars_letStatement_36 (fun v14 s13 _ => ?_)
  refine xW_pure (fun _ _ _ _ _ => am_aload_n d_Pars_letStatement_39 rfl rfl) ?_
  refine xW_pure (fun _ _ _ _ _ => am_bipush (v := 59) d_Pars_letStatement_40 (by decide)) ?_
  refine xW_callV O (dx_Pars_take O T) (fun _ e => ob_Pars_take e) rfl rfl rfl l_Pars_106 ⟨w_682, w_9⟩ rfl (Nat.le_of_ble_eq_true rfl) d_Pars_letStatement_42 (fun v16 s15 _ => ?_)
  exact xW_ret (fun _ _ _ _ _ => am_vret rfl d_Pars_letStatement_45)

set_option maxRecDepth 100000 in
def x_Pars_ifStatement_b (c : CLT) (d : Nat) (x0 : Nat) (x1 : Int32) (s : HS) : Option (Unit × HS) := gd s x0 5 (bnd (x_Pars_take d x0 7 s) fun v2 s1 => (bnd ((c 5 x0 x1 0 0 s1)) fun v4 s3 => (bnd (cU (c 0 x0 x1 0 0 s3)) fun v6 s5 => ((gR s5 x0 5 0).bind fun v7 => (bnd (x_Lexer_kind d v7 s5) fun v9 s8 => (if v9 = 8 then ((gR s8 x0 5 3).bind fun v10 => (bnd (x_Draft_here d v10 s8) fun v12 s11 => ((gR s11 x0 5 3).bind fun v13 => (bnd (x_Draft_add d v13 1 0 s11) fun v15 s14 => ((gR s14 x0 5 3).bind fun v16 => (bnd (x_Draft_aimHere d v16 v4 s14) fun v18 s17 => (bnd (x_Pars_take d x0 8 s17) fun v20 s19 => (bnd (cU (c 0 x0 x1 0 0 s19)) fun v22 s21 => ((gR s21 x0 5 3).bind fun v23 => (bnd (x_Draft_aimHere d v23 v12 s21) fun v25 s24 => (some ((), s24)))))))))))) else ((gR s8 x0 5 3).bind fun v26 => (bnd (x_Draft_aimHere d v26 v4 s8) fun v28 s27 => (some ((), s27))))))))))

set_option maxRecDepth 100000 in
set_option maxHeartbeats 4000000 in
theorem dx_Pars_ifStatement_b (O : am_ok K X) (T : am_T K) {c : CLT} {d : Nat} (H : HC_P K X c d) {x0 : Nat} {x1 : Int32} {s : HS} : xM cvU K X m_Pars_ifStatement (d + 1) [.ref x0, .int x1] s (x_Pars_ifStatement_b c d x0 x1 s) := by
  unfold x_Pars_ifStatement_b
  refine xM_enter (by decide +kernel) (Nat.le_of_ble_eq_true rfl) ?_
  refine xW_gd (fun _ => ?_)
  refine xW_pure (fun _ _ _ _ _ => am_aload_n d_Pars_ifStatement_0 rfl rfl) ?_
  refine xW_pure (fun _ _ _ _ _ => am_bipush (v := 7) d_Pars_ifStatement_1 (by decide)) ?_
  refine xW_callV O (dx_Pars_take O T) (fun _ e => ob_Pars_take e) rfl rfl rfl l_Pars_106 ⟨w_682, w_9⟩ rfl (Nat.le_of_ble_eq_true rfl) d_Pars_ifStatement_3 (fun v2 s1 _ => ?_)
  refine xW_pure (fun _ _ _ _ _ => am_aload_n d_Pars_ifStatement_6 rfl rfl) ?_
  refine xW_pure (fun _ _ _ _ _ => am_iload_n d_Pars_ifStatement_7 rfl rfl) ?_
  refine xW_callV O (H.2.2.2.2.2.1 _ _ _ _ _).1 (H.2.2.2.2.2.1 _ _ _ _ _).2 rfl rfl rfl l_Pars_162 ⟨w_854, w_32⟩ rfl (Nat.le_of_ble_eq_true rfl) d_Pars_ifStatement_8 (fun v4 s3 _ => ?_)
  refine xW_pure (fun _ _ _ _ _ => am_istore_n d_Pars_ifStatement_11 rfl (Nat.le_of_ble_eq_true rfl)) ?_
  refine xW_pure (fun _ _ _ _ _ => am_aload_n d_Pars_ifStatement_12 rfl rfl) ?_
  refine xW_pure (fun _ _ _ _ _ => am_iload_n d_Pars_ifStatement_13 rfl rfl) ?_
  refine xW_callV O (H.1 _ _ _ _ _).1 (H.1 _ _ _ _ _).2 rfl rfl rfl l_Pars_118 ⟨w_742, w_14⟩ rfl (Nat.le_of_ble_eq_true rfl) d_Pars_ifStatement_14 (fun v6 s5 _ => ?_)
  refine xW_pure (fun _ _ _ _ _ => am_aload_n d_Pars_ifStatement_17 rfl rfl) ?_
  refine xW_gR O f_Pars_12 d_Pars_ifStatement_18 (fun v7 _ => ?_)
  refine xW_callV O (dx_Lexer_kind O T) (fun _ e => ob_Lexer_kind e) rfl rfl rfl l_Pars_59 ⟨w_673, w_674⟩ rfl (Nat.le_of_ble_eq_true rfl) d_Pars_ifStatement_21 (fun v9 s8 _ => ?_)
  refine xW_pure (fun _ _ _ _ _ => am_bipush (v := 8) d_Pars_ifStatement_24 (by decide)) ?_
  refine xW_ite (fun _ _ _ _ _ k1 k2 => am_icmp_ne (tgt := 76) d_Pars_ifStatement_26 (by decide) k2 k1) (fun _ => ?_) (fun _ => ?_)
  · refine xW_pure (fun _ _ _ _ _ => am_aload_n d_Pars_ifStatement_29 rfl rfl) ?_
    refine xW_gR O f_Pars_28 d_Pars_ifStatement_30 (fun v10 _ => ?_)
    refine xW_callV O (dx_Draft_here O T) (fun _ e => ob_Draft_here e) rfl rfl rfl l_Pars_166 ⟨w_837, w_838⟩ rfl (Nat.le_of_ble_eq_true rfl) d_Pars_ifStatement_33 (fun v12 s11 _ => ?_)
    refine xW_pure (fun _ _ _ _ _ => am_istore_n d_Pars_ifStatement_36 rfl (Nat.le_of_ble_eq_true rfl)) ?_
    refine xW_pure (fun _ _ _ _ _ => am_aload_n d_Pars_ifStatement_37 rfl rfl) ?_
    refine xW_gR O f_Pars_28 d_Pars_ifStatement_38 (fun v13 _ => ?_)
    refine xW_pure (fun _ _ _ _ _ => am_iconst (v := 1) d_Pars_ifStatement_41 (by decide)) ?_
    refine xW_pure (fun _ _ _ _ _ => am_iconst (v := 0) d_Pars_ifStatement_42 (by decide)) ?_
    refine xW_callV O (dx_Draft_add O T) (fun _ e => ob_Draft_add e) rfl rfl rfl l_Pars_141 ⟨w_753, w_754⟩ rfl (Nat.le_of_ble_eq_true rfl) d_Pars_ifStatement_43 (fun v15 s14 _ => ?_)
    refine xW_pure (fun _ _ _ _ _ => am_aload_n d_Pars_ifStatement_46 rfl rfl) ?_
    refine xW_gR O f_Pars_28 d_Pars_ifStatement_47 (fun v16 _ => ?_)
    refine xW_pure (fun _ _ _ _ _ => am_iload_n d_Pars_ifStatement_50 rfl rfl) ?_
    refine xW_callV O (dx_Draft_aimHere O T) (fun _ e => ob_Draft_aimHere e) rfl rfl rfl l_Pars_169 ⟨w_841, w_842⟩ rfl (Nat.le_of_ble_eq_true rfl) d_Pars_ifStatement_51 (fun v18 s17 _ => ?_)
    refine xW_pure (fun _ _ _ _ _ => am_aload_n d_Pars_ifStatement_54 rfl rfl) ?_
    refine xW_pure (fun _ _ _ _ _ => am_bipush (v := 8) d_Pars_ifStatement_55 (by decide)) ?_
    refine xW_callV O (dx_Pars_take O T) (fun _ e => ob_Pars_take e) rfl rfl rfl l_Pars_106 ⟨w_682, w_9⟩ rfl (Nat.le_of_ble_eq_true rfl) d_Pars_ifStatement_57 (fun v20 s19 _ => ?_)
    refine xW_pure (fun _ _ _ _ _ => am_aload_n d_Pars_ifStatement_60 rfl rfl) ?_
    refine xW_pure (fun _ _ _ _ _ => am_iload_n d_Pars_ifStatement_61 rfl rfl) ?_
    refine xW_callV O (H.1 _ _ _ _ _).1 (H.1 _ _ _ _ _).2 rfl rfl rfl l_Pars_118 ⟨w_742, w_14⟩ rfl (Nat.le_of_ble_eq_true rfl) d_Pars_ifStatement_62 (fun v22 s21 _ => ?_)
    refine xW_pure (fun _ _ _ _ _ => am_aload_n d_Pars_ifStatement_65 rfl rfl) ?_
    refine xW_gR O f_Pars_28 d_Pars_ifStatement_66 (fun v23 _ => ?_)
    refine xW_pure (fun _ _ _ _ _ => am_iload_n d_Pars_ifStatement_69 rfl rfl) ?_
    refine xW_callV O (dx_Draft_aimHere O T) (fun _ e => ob_Draft_aimHere e) rfl rfl rfl l_Pars_169 ⟨w_841, w_842⟩ rfl (Nat.le_of_ble_eq_true rfl) d_Pars_ifStatement_70 (fun v25 s24 _ => ?_)
    refine xW_pure (fun _ _ _ _ _ => am_goto (tgt := 84) d_Pars_ifStatement_73 (by decide)) ?_
    exact xW_ret (fun _ _ _ _ _ => am_vret rfl d_Pars_ifStatement_84)
  · refine xW_pure (fun _ _ _ _ _ => am_aload_n d_Pars_ifStatement_76 rfl rfl) ?_
    refine xW_gR O f_Pars_28 d_Pars_ifStatement_77 (fun v26 _ => ?_)
    refine xW_pure (fun _ _ _ _ _ => am_iload_n d_Pars_ifStatement_80 rfl rfl) ?_
    refine xW_callV O (dx_Draft_aimHere O T) (fun _ e => ob_Draft_aimHere e) rfl rfl rfl l_Pars_169 ⟨w_841, w_842⟩ rfl (Nat.le_of_ble_eq_true rfl) d_Pars_ifStatement_81 (fun v28 s27 _ => ?_)
    exact xW_ret (fun _ _ _ _ _ => am_vret rfl d_Pars_ifStatement_84)

set_option maxRecDepth 100000 in
def x_Pars_whileStatement_b (c : CLT) (d : Nat) (x0 : Nat) (x1 : Int32) (s : HS) : Option (Unit × HS) := gd s x0 5 (bnd (x_Pars_take d x0 9 s) fun v2 s1 => ((gR s1 x0 5 3).bind fun v3 => (bnd (x_Draft_here d v3 s1) fun v5 s4 => (bnd ((c 5 x0 x1 0 0 s4)) fun v7 s6 => ((gR s6 x0 5 3).bind fun v8 => (bnd (x_Draft_add d v8 0 0 s6) fun v10 s9 => (bnd (cU (c 0 x0 x1 0 0 s9)) fun v12 s11 => ((gR s11 x0 5 3).bind fun v13 => (bnd (x_Draft_add d v13 1 v5 s11) fun v15 s14 => ((gR s14 x0 5 3).bind fun v16 => (bnd (x_Draft_aimHere d v16 v7 s14) fun v18 s17 => (some ((), s17)))))))))))))

set_option maxRecDepth 100000 in
set_option maxHeartbeats 4000000 in
theorem dx_Pars_whileStatement_b (O : am_ok K X) (T : am_T K) {c : CLT} {d : Nat} (H : HC_P K X c d) {x0 : Nat} {x1 : Int32} {s : HS} : xM cvU K X m_Pars_whileStatement (d + 1) [.ref x0, .int x1] s (x_Pars_whileStatement_b c d x0 x1 s) := by
  unfold x_Pars_whileStatement_b
  refine xM_enter (by decide +kernel) (Nat.le_of_ble_eq_true rfl) ?_
  refine xW_gd (fun _ => ?_)
  refine xW_pure (fun _ _ _ _ _ => am_aload_n d_Pars_whileStatement_0 rfl rfl) ?_
  refine xW_pure (fun _ _ _ _ _ => am_bipush (v := 9) d_Pars_whileStatement_1 (by decide)) ?_
  refine xW_callV O (dx_Pars_take O T) (fun _ e => ob_Pars_take e) rfl rfl rfl l_Pars_106 ⟨w_682, w_9⟩ rfl (Nat.le_of_ble_eq_true rfl) d_Pars_whileStatement_3 (fun v2 s1 _ => ?_)
  refine xW_pure (fun _ _ _ _ _ => am_aload_n d_Pars_whileStatement_6 rfl rfl) ?_
  refine xW_gR O f_Pars_28 d_Pars_whileStatement_7 (fun v3 _ => ?_)
  refine xW_callV O (dx_Draft_here O T) (fun _ e => ob_Draft_here e) rfl rfl rfl l_Pars_166 ⟨w_837, w_838⟩ rfl (Nat.le_of_ble_eq_true rfl) d_Pars_whileStatement_10 (fun v5 s4 _ => ?_)
  refine xW_pure (fun _ _ _ _ _ => am_istore_n d_Pars_whileStatement_13 rfl (Nat.le_of_ble_eq_true rfl)) ?_
  refine xW_pure (fun _ _ _ _ _ => am_aload_n d_Pars_whileStatement_14 rfl rfl) ?_
  refine xW_pure (fun _ _ _ _ _ => am_iload_n d_Pars_whileStatement_15 rfl rfl) ?_
  refine xW_callV O (H.2.2.2.2.2.1 _ _ _ _ _).1 (H.2.2.2.2.2.1 _ _ _ _ _).2 rfl rfl rfl l_Pars_162 ⟨w_854, w_32⟩ rfl (Nat.le_of_ble_eq_true rfl) d_Pars_whileStatement_16 (fun v7 s6 _ => ?_)
  refine xW_pure (fun _ _ _ _ _ => am_istore_n d_Pars_whileStatement_19 rfl (Nat.le_of_ble_eq_true rfl)) ?_
  refine xW_pure (fun _ _ _ _ _ => am_aload_n d_Pars_whileStatement_20 rfl rfl) ?_
  refine xW_gR O f_Pars_28 d_Pars_whileStatement_21 (fun v8 _ => ?_)
  refine xW_pure (fun _ _ _ _ _ => am_iconst (v := 0) d_Pars_whileStatement_24 (by decide)) ?_
  refine xW_pure (fun _ _ _ _ _ => am_iconst (v := 0) d_Pars_whileStatement_25 (by decide)) ?_
  refine xW_callV O (dx_Draft_add O T) (fun _ e => ob_Draft_add e) rfl rfl rfl l_Pars_141 ⟨w_753, w_754⟩ rfl (Nat.le_of_ble_eq_true rfl) d_Pars_whileStatement_26 (fun v10 s9 _ => ?_)
  refine xW_pure (fun _ _ _ _ _ => am_aload_n d_Pars_whileStatement_29 rfl rfl) ?_
  refine xW_pure (fun _ _ _ _ _ => am_iload_n d_Pars_whileStatement_30 rfl rfl) ?_
  refine xW_callV O (H.1 _ _ _ _ _).1 (H.1 _ _ _ _ _).2 rfl rfl rfl l_Pars_118 ⟨w_742, w_14⟩ rfl (Nat.le_of_ble_eq_true rfl) d_Pars_whileStatement_31 (fun v12 s11 _ => ?_)
  refine xW_pure (fun _ _ _ _ _ => am_aload_n d_Pars_whileStatement_34 rfl rfl) ?_
  refine xW_gR O f_Pars_28 d_Pars_whileStatement_35 (fun v13 _ => ?_)
  refine xW_pure (fun _ _ _ _ _ => am_iconst (v := 1) d_Pars_whileStatement_38 (by decide)) ?_
  refine xW_pure (fun _ _ _ _ _ => am_iload_n d_Pars_whileStatement_39 rfl rfl) ?_
  refine xW_callV O (dx_Draft_add O T) (fun _ e => ob_Draft_add e) rfl rfl rfl l_Pars_141 ⟨w_753, w_754⟩ rfl (Nat.le_of_ble_eq_true rfl) d_Pars_whileStatement_40 (fun v15 s14 _ => ?_)
  refine xW_pure (fun _ _ _ _ _ => am_aload_n d_Pars_whileStatement_43 rfl rfl) ?_
  refine xW_gR O f_Pars_28 d_Pars_whileStatement_44 (fun v16 _ => ?_)
  refine xW_pure (fun _ _ _ _ _ => am_iload_n d_Pars_whileStatement_47 rfl rfl) ?_
  refine xW_callV O (dx_Draft_aimHere O T) (fun _ e => ob_Draft_aimHere e) rfl rfl rfl l_Pars_169 ⟨w_841, w_842⟩ rfl (Nat.le_of_ble_eq_true rfl) d_Pars_whileStatement_48 (fun v18 s17 _ => ?_)
  exact xW_ret (fun _ _ _ _ _ => am_vret rfl d_Pars_whileStatement_51)

set_option maxRecDepth 100000 in
def x_Pars_condition_b23 (c : CLT) (d : Nat) (l0 : Nat) (s : HS) : Option (Int32 × HS) := (gR s l0 5 3).bind fun v3 => (bnd (x_Draft_add d v3 2 0 s) fun v5 s4 => ((gR s4 l0 5 3).bind fun v6 => (bnd (x_Draft_here d v6 s4) fun v8 s7 => (some ((v8 - 1), s7)))))

set_option maxRecDepth 100000 in
set_option maxHeartbeats 4000000 in
theorem dx_Pars_condition_b23 (O : am_ok K X) (T : am_T K) {c : CLT} {d : Nat} (H : HC_P K X c d) {l0 : Nat} {s : HS} : xW cvI K X m_Pars_condition (d + 1) 23 [(0, .ref l0)] [] s (x_Pars_condition_b23 c d l0 s) := by
  unfold x_Pars_condition_b23
  refine xW_pure (fun _ _ _ _ _ => am_aload_n d_Pars_condition_23 rfl rfl) ?_
  refine xW_gR O f_Pars_28 d_Pars_condition_24 (fun v3 _ => ?_)
  refine xW_pure (fun _ _ _ _ _ => am_iconst (v := 2) d_Pars_condition_27 (by decide)) ?_
  refine xW_pure (fun _ _ _ _ _ => am_iconst (v := 0) d_Pars_condition_28 (by decide)) ?_
  refine xW_callV O (dx_Draft_add O T) (fun _ e => ob_Draft_add e) rfl rfl rfl l_Pars_141 ⟨w_753, w_754⟩ rfl (Nat.le_of_ble_eq_true rfl) d_Pars_condition_29 (fun v5 s4 _ => ?_)
  refine xW_pure (fun _ _ _ _ _ => am_aload_n d_Pars_condition_32 rfl rfl) ?_
  refine xW_gR O f_Pars_28 d_Pars_condition_33 (fun v6 _ => ?_)
  refine xW_callV O (dx_Draft_here O T) (fun _ e => ob_Draft_here e) rfl rfl rfl l_Pars_166 ⟨w_837, w_838⟩ rfl (Nat.le_of_ble_eq_true rfl) d_Pars_condition_36 (fun v8 s7 _ => ?_)
  refine xW_pure (fun _ _ _ _ _ => am_iconst (v := 1) d_Pars_condition_39 (by decide)) ?_
  refine xW_pure (fun _ _ _ _ _ => am_isub d_Pars_condition_40) ?_
  exact xW_ret (fun _ _ _ _ _ => am_iret rfl d_Pars_condition_41)

set_option maxRecDepth 100000 in
def x_Pars_condition_b (c : CLT) (d : Nat) (x0 : Nat) (x1 : Int32) (s : HS) : Option (Int32 × HS) := gd s x0 5 (bnd (x_Pars_open d x0 40 x1 s) fun v2 s1 => (if v2 = 0 then (x_Pars_condition_b23 c d x0 s1) else (bnd (cU (c 8 x0 (x1 + 1) 0 0 s1)) fun v10 s9 => (bnd (x_Pars_take d x0 41 s9) fun v12 s11 => (x_Pars_condition_b23 c d x0 s11)))))

set_option maxRecDepth 100000 in
set_option maxHeartbeats 4000000 in
theorem dx_Pars_condition_b (O : am_ok K X) (T : am_T K) {c : CLT} {d : Nat} (H : HC_P K X c d) {x0 : Nat} {x1 : Int32} {s : HS} : xM cvI K X m_Pars_condition (d + 1) [.ref x0, .int x1] s (x_Pars_condition_b c d x0 x1 s) := by
  unfold x_Pars_condition_b
  refine xM_enter (by decide +kernel) (Nat.le_of_ble_eq_true rfl) ?_
  refine xW_gd (fun _ => ?_)
  refine xW_pure (fun _ _ _ _ _ => am_aload_n d_Pars_condition_0 rfl rfl) ?_
  refine xW_pure (fun _ _ _ _ _ => am_bipush (v := 40) d_Pars_condition_1 (by decide)) ?_
  refine xW_pure (fun _ _ _ _ _ => am_iload_n d_Pars_condition_3 rfl rfl) ?_
  refine xW_callV O (dx_Pars_open O T) (fun _ e => ob_Pars_open e) rfl rfl rfl l_Pars_135 ⟨w_746, w_15⟩ rfl (Nat.le_of_ble_eq_true rfl) d_Pars_condition_4 (fun v2 s1 _ => ?_)
  refine xW_ite (fun _ _ _ _ _ => am_if_eq (tgt := 23) d_Pars_condition_7 (by decide)) (fun _ => ?_) (fun _ => ?_)
  · refine xW_locs (lv' := [(0, .ref x0)]) rfl ?_
    exact dx_Pars_condition_b23 O T H
  · refine xW_pure (fun _ _ _ _ _ => am_aload_n d_Pars_condition_10 rfl rfl) ?_
    refine xW_pure (fun _ _ _ _ _ => am_iload_n d_Pars_condition_11 rfl rfl) ?_
    refine xW_pure (fun _ _ _ _ _ => am_iconst (v := 1) d_Pars_condition_12 (by decide)) ?_
    refine xW_pure (fun _ _ _ _ _ => am_iadd d_Pars_condition_13) ?_
    refine xW_callV O (H.2.2.2.2.2.2.2.2.1 _ _ _ _ _).1 (H.2.2.2.2.2.2.2.2.1 _ _ _ _ _).2 rfl rfl rfl l_Pars_156 ⟨w_770, w_18⟩ rfl (Nat.le_of_ble_eq_true rfl) d_Pars_condition_14 (fun v10 s9 _ => ?_)
    refine xW_pure (fun _ _ _ _ _ => am_aload_n d_Pars_condition_17 rfl rfl) ?_
    refine xW_pure (fun _ _ _ _ _ => am_bipush (v := 41) d_Pars_condition_18 (by decide)) ?_
    refine xW_callV O (dx_Pars_take O T) (fun _ e => ob_Pars_take e) rfl rfl rfl l_Pars_106 ⟨w_682, w_9⟩ rfl (Nat.le_of_ble_eq_true rfl) d_Pars_condition_20 (fun v12 s11 _ => ?_)
    refine xW_locs (lv' := [(0, .ref x0)]) rfl ?_
    exact dx_Pars_condition_b23 O T H

set_option maxRecDepth 100000 in
def x_Pars_returnStatement_b36 (c : CLT) (d : Nat) (l0 : Nat) (s : HS) : Option (Unit × HS) := (gR s l0 5 3).bind fun v9 => (bnd (x_Draft_add d v9 6 0 s) fun v11 s10 => (bnd (x_Pars_take d l0 59 s10) fun v13 s12 => (some ((), s12))))

set_option maxRecDepth 100000 in
set_option maxHeartbeats 4000000 in
theorem dx_Pars_returnStatement_b36 (O : am_ok K X) (T : am_T K) {c : CLT} {d : Nat} (H : HC_P K X c d) {l0 : Nat} {s : HS} : xW cvU K X m_Pars_returnStatement (d + 1) 36 [(0, .ref l0)] [] s (x_Pars_returnStatement_b36 c d l0 s) := by
  unfold x_Pars_returnStatement_b36
  refine xW_pure (fun _ _ _ _ _ => am_aload_n d_Pars_returnStatement_36 rfl rfl) ?_
  refine xW_gR O f_Pars_28 d_Pars_returnStatement_37 (fun v9 _ => ?_)
  refine xW_pure (fun _ _ _ _ _ => am_bipush (v := 6) d_Pars_returnStatement_40 (by decide)) ?_
  refine xW_pure (fun _ _ _ _ _ => am_iconst (v := 0) d_Pars_returnStatement_42 (by decide)) ?_
  refine xW_callV O (dx_Draft_add O T) (fun _ e => ob_Draft_add e) rfl rfl rfl l_Pars_141 ⟨w_753, w_754⟩ rfl (Nat.le_of_ble_eq_true rfl) d_Pars_returnStatement_43 (fun v11 s10 _ => ?_)
  refine xW_pure (fun _ _ _ _ _ => am_aload_n d_Pars_returnStatement_46 rfl rfl) ?_
  refine xW_pure (fun _ _ _ _ _ => am_bipush (v := 59) d_Pars_returnStatement_47 (by decide)) ?_
  refine xW_callV O (dx_Pars_take O T) (fun _ e => ob_Pars_take e) rfl rfl rfl l_Pars_106 ⟨w_682, w_9⟩ rfl (Nat.le_of_ble_eq_true rfl) d_Pars_returnStatement_49 (fun v13 s12 _ => ?_)
  exact xW_ret (fun _ _ _ _ _ => am_vret rfl d_Pars_returnStatement_52)

set_option maxRecDepth 100000 in
def x_Pars_returnStatement_b (c : CLT) (d : Nat) (x0 : Nat) (x1 : Int32) (s : HS) : Option (Unit × HS) := gd s x0 5 (bnd (x_Pars_take d x0 10 s) fun v2 s1 => ((gR s1 x0 5 0).bind fun v3 => (bnd (x_Lexer_kind d v3 s1) fun v5 s4 => (if v5 = 59 then ((gR s4 x0 5 3).bind fun v6 => (bnd (x_Draft_add d v6 10 0 s4) fun v8 s7 => (x_Pars_returnStatement_b36 c d x0 s7))) else (bnd (cU (c 8 x0 x1 0 0 s4)) fun v15 s14 => (x_Pars_returnStatement_b36 c d x0 s14))))))

set_option maxRecDepth 100000 in
set_option maxHeartbeats 4000000 in
theorem dx_Pars_returnStatement_b (O : am_ok K X) (T : am_T K) {c : CLT} {d : Nat} (H : HC_P K X c d) {x0 : Nat} {x1 : Int32} {s : HS} : xM cvU K X m_Pars_returnStatement (d + 1) [.ref x0, .int x1] s (x_Pars_returnStatement_b c d x0 x1 s) := by
  unfold x_Pars_returnStatement_b
  refine xM_enter (by decide +kernel) (Nat.le_of_ble_eq_true rfl) ?_
  refine xW_gd (fun _ => ?_)
  refine xW_pure (fun _ _ _ _ _ => am_aload_n d_Pars_returnStatement_0 rfl rfl) ?_
  refine xW_pure (fun _ _ _ _ _ => am_bipush (v := 10) d_Pars_returnStatement_1 (by decide)) ?_
  refine xW_callV O (dx_Pars_take O T) (fun _ e => ob_Pars_take e) rfl rfl rfl l_Pars_106 ⟨w_682, w_9⟩ rfl (Nat.le_of_ble_eq_true rfl) d_Pars_returnStatement_3 (fun v2 s1 _ => ?_)
  refine xW_pure (fun _ _ _ _ _ => am_aload_n d_Pars_returnStatement_6 rfl rfl) ?_
  refine xW_gR O f_Pars_12 d_Pars_returnStatement_7 (fun v3 _ => ?_)
  refine xW_callV O (dx_Lexer_kind O T) (fun _ e => ob_Lexer_kind e) rfl rfl rfl l_Pars_59 ⟨w_673, w_674⟩ rfl (Nat.le_of_ble_eq_true rfl) d_Pars_returnStatement_10 (fun v5 s4 _ => ?_)
  refine xW_pure (fun _ _ _ _ _ => am_bipush (v := 59) d_Pars_returnStatement_13 (by decide)) ?_
  refine xW_ite (fun _ _ _ _ _ k1 k2 => am_icmp_ne (tgt := 31) d_Pars_returnStatement_15 (by decide) k2 k1) (fun _ => ?_) (fun _ => ?_)
  · refine xW_pure (fun _ _ _ _ _ => am_aload_n d_Pars_returnStatement_18 rfl rfl) ?_
    refine xW_gR O f_Pars_28 d_Pars_returnStatement_19 (fun v6 _ => ?_)
    refine xW_pure (fun _ _ _ _ _ => am_bipush (v := 10) d_Pars_returnStatement_22 (by decide)) ?_
    refine xW_pure (fun _ _ _ _ _ => am_iconst (v := 0) d_Pars_returnStatement_24 (by decide)) ?_
    refine xW_callV O (dx_Draft_add O T) (fun _ e => ob_Draft_add e) rfl rfl rfl l_Pars_141 ⟨w_753, w_754⟩ rfl (Nat.le_of_ble_eq_true rfl) d_Pars_returnStatement_25 (fun v8 s7 _ => ?_)
    refine xW_pure (fun _ _ _ _ _ => am_goto (tgt := 36) d_Pars_returnStatement_28 (by decide)) ?_
    refine xW_locs (lv' := [(0, .ref x0)]) rfl ?_
    exact dx_Pars_returnStatement_b36 O T H
  · refine xW_pure (fun _ _ _ _ _ => am_aload_n d_Pars_returnStatement_31 rfl rfl) ?_
    refine xW_pure (fun _ _ _ _ _ => am_iload_n d_Pars_returnStatement_32 rfl rfl) ?_
    refine xW_callV O (H.2.2.2.2.2.2.2.2.1 _ _ _ _ _).1 (H.2.2.2.2.2.2.2.2.1 _ _ _ _ _).2 rfl rfl rfl l_Pars_156 ⟨w_770, w_18⟩ rfl (Nat.le_of_ble_eq_true rfl) d_Pars_returnStatement_33 (fun v15 s14 _ => ?_)
    refine xW_locs (lv' := [(0, .ref x0)]) rfl ?_
    exact dx_Pars_returnStatement_b36 O T H

set_option maxRecDepth 100000 in
def x_Pars_plainStatement_b73 (c : CLT) (d : Nat) (l0 : Nat) (s : HS) : Option (Unit × HS) := (gR s l0 5 3).bind fun v7 => (bnd (x_Draft_add d v7 8 0 s) fun v9 s8 => (bnd (x_Pars_take d l0 59 s8) fun v11 s10 => (some ((), s10))))

set_option maxRecDepth 100000 in
set_option maxHeartbeats 4000000 in
theorem dx_Pars_plainStatement_b73 (O : am_ok K X) (T : am_T K) {c : CLT} {d : Nat} (H : HC_P K X c d) {l0 : Nat} {s : HS} : xW cvU K X m_Pars_plainStatement (d + 1) 73 [(0, .ref l0)] [] s (x_Pars_plainStatement_b73 c d l0 s) := by
  unfold x_Pars_plainStatement_b73
  refine xW_pure (fun _ _ _ _ _ => am_aload_n d_Pars_plainStatement_73 rfl rfl) ?_
  refine xW_gR O f_Pars_28 d_Pars_plainStatement_74 (fun v7 _ => ?_)
  refine xW_pure (fun _ _ _ _ _ => am_bipush (v := 8) d_Pars_plainStatement_77 (by decide)) ?_
  refine xW_pure (fun _ _ _ _ _ => am_iconst (v := 0) d_Pars_plainStatement_79 (by decide)) ?_
  refine xW_callV O (dx_Draft_add O T) (fun _ e => ob_Draft_add e) rfl rfl rfl l_Pars_141 ⟨w_753, w_754⟩ rfl (Nat.le_of_ble_eq_true rfl) d_Pars_plainStatement_80 (fun v9 s8 _ => ?_)
  refine xW_pure (fun _ _ _ _ _ => am_aload_n d_Pars_plainStatement_83 rfl rfl) ?_
  refine xW_pure (fun _ _ _ _ _ => am_bipush (v := 59) d_Pars_plainStatement_84 (by decide)) ?_
  refine xW_callV O (dx_Pars_take O T) (fun _ e => ob_Pars_take e) rfl rfl rfl l_Pars_106 ⟨w_682, w_9⟩ rfl (Nat.le_of_ble_eq_true rfl) d_Pars_plainStatement_86 (fun v11 s10 _ => ?_)
  exact xW_ret (fun _ _ _ _ _ => am_vret rfl d_Pars_plainStatement_89)

set_option maxRecDepth 100000 in
def x_Pars_plainStatement_b (c : CLT) (d : Nat) (x0 : Nat) (x1 : Int32) (s : HS) : Option (Unit × HS) := gd s x0 5 (bnd (cU (c 8 x0 x1 0 0 s)) fun v2 s1 => ((gR s1 x0 5 0).bind fun v3 => (bnd (x_Lexer_kind d v3 s1) fun v5 s4 => (if v5 = 61 then ((gI s4 x0 5 7).bind fun v6 => (if v6 = 0 then (x_Pars_plainStatement_b73 c d x0 s4) else ((gR s4 x0 5 3).bind fun v12 => (bnd (x_Draft_lastOp d v12 s4) fun v14 s13 => ((gR s13 x0 5 3).bind fun v15 => (bnd (x_Draft_lastArgument d v15 s13) fun v17 s16 => ((gR s16 x0 5 3).bind fun v18 => (bnd (x_Draft_dropLast d v18 s16) fun v20 s19 => (bnd (x_Pars_take d x0 61 s19) fun v22 s21 => (bnd (cU (c 8 x0 x1 0 0 s21)) fun v24 s23 => ((gR s23 x0 5 3).bind fun v25 => (bnd (x_Mach_storeFor d v14 s23) fun v27 s26 => (bnd (x_Draft_add d v25 v27 v17 s26) fun v29 s28 => (bnd (x_Pars_take d x0 59 s28) fun v31 s30 => (some ((), s30)))))))))))))))) else (x_Pars_plainStatement_b73 c d x0 s4)))))

set_option maxRecDepth 100000 in
set_option maxHeartbeats 4000000 in
theorem dx_Pars_plainStatement_b (O : am_ok K X) (T : am_T K) {c : CLT} {d : Nat} (H : HC_P K X c d) {x0 : Nat} {x1 : Int32} {s : HS} : xM cvU K X m_Pars_plainStatement (d + 1) [.ref x0, .int x1] s (x_Pars_plainStatement_b c d x0 x1 s) := by
  unfold x_Pars_plainStatement_b
  refine xM_enter (by decide +kernel) (Nat.le_of_ble_eq_true rfl) ?_
  refine xW_gd (fun _ => ?_)
  refine xW_pure (fun _ _ _ _ _ => am_aload_n d_Pars_plainStatement_0 rfl rfl) ?_
  refine xW_pure (fun _ _ _ _ _ => am_iload_n d_Pars_plainStatement_1 rfl rfl) ?_
  refine xW_callV O (H.2.2.2.2.2.2.2.2.1 _ _ _ _ _).1 (H.2.2.2.2.2.2.2.2.1 _ _ _ _ _).2 rfl rfl rfl l_Pars_156 ⟨w_770, w_18⟩ rfl (Nat.le_of_ble_eq_true rfl) d_Pars_plainStatement_2 (fun v2 s1 _ => ?_)
  refine xW_pure (fun _ _ _ _ _ => am_aload_n d_Pars_plainStatement_5 rfl rfl) ?_
  refine xW_gR O f_Pars_12 d_Pars_plainStatement_6 (fun v3 _ => ?_)
  refine xW_callV O (dx_Lexer_kind O T) (fun _ e => ob_Lexer_kind e) rfl rfl rfl l_Pars_59 ⟨w_673, w_674⟩ rfl (Nat.le_of_ble_eq_true rfl) d_Pars_plainStatement_9 (fun v5 s4 _ => ?_)
  refine xW_pure (fun _ _ _ _ _ => am_bipush (v := 61) d_Pars_plainStatement_12 (by decide)) ?_
  refine xW_ite (fun _ _ _ _ _ k1 k2 => am_icmp_ne (tgt := 73) d_Pars_plainStatement_14 (by decide) k2 k1) (fun _ => ?_) (fun _ => ?_)
  · refine xW_pure (fun _ _ _ _ _ => am_aload_n d_Pars_plainStatement_17 rfl rfl) ?_
    refine xW_gI O f_Pars_172 d_Pars_plainStatement_18 (fun v6 _ => ?_)
    refine xW_ite (fun _ _ _ _ _ => am_if_eq (tgt := 73) d_Pars_plainStatement_21 (by decide)) (fun _ => ?_) (fun _ => ?_)
    · refine xW_locs (lv' := [(0, .ref x0)]) rfl ?_
      exact dx_Pars_plainStatement_b73 O T H
    · refine xW_pure (fun _ _ _ _ _ => am_aload_n d_Pars_plainStatement_24 rfl rfl) ?_
      refine xW_gR O f_Pars_28 d_Pars_plainStatement_25 (fun v12 _ => ?_)
      refine xW_callV O (dx_Draft_lastOp O T) (fun _ e => ob_Draft_lastOp e) rfl rfl rfl l_Pars_176 ⟨w_869, w_870⟩ rfl (Nat.le_of_ble_eq_true rfl) d_Pars_plainStatement_28 (fun v14 s13 _ => ?_)
      refine xW_pure (fun _ _ _ _ _ => am_istore_n d_Pars_plainStatement_31 rfl (Nat.le_of_ble_eq_true rfl)) ?_
      refine xW_pure (fun _ _ _ _ _ => am_aload_n d_Pars_plainStatement_32 rfl rfl) ?_
      refine xW_gR O f_Pars_28 d_Pars_plainStatement_33 (fun v15 _ => ?_)
      refine xW_callV O (dx_Draft_lastArgument O T) (fun _ e => ob_Draft_lastArgument e) rfl rfl rfl l_Pars_179 ⟨w_873, w_874⟩ rfl (Nat.le_of_ble_eq_true rfl) d_Pars_plainStatement_36 (fun v17 s16 _ => ?_)
      refine xW_pure (fun _ _ _ _ _ => am_istore_n d_Pars_plainStatement_39 rfl (Nat.le_of_ble_eq_true rfl)) ?_
      refine xW_pure (fun _ _ _ _ _ => am_aload_n d_Pars_plainStatement_40 rfl rfl) ?_
      refine xW_gR O f_Pars_28 d_Pars_plainStatement_41 (fun v18 _ => ?_)
      refine xW_callV O (dx_Draft_dropLast O T) (fun _ e => ob_Draft_dropLast e) rfl rfl rfl l_Pars_182 ⟨w_877, w_878⟩ rfl (Nat.le_of_ble_eq_true rfl) d_Pars_plainStatement_44 (fun v20 s19 _ => ?_)
      refine xW_pure (fun _ _ _ _ _ => am_aload_n d_Pars_plainStatement_47 rfl rfl) ?_
      refine xW_pure (fun _ _ _ _ _ => am_bipush (v := 61) d_Pars_plainStatement_48 (by decide)) ?_
      refine xW_callV O (dx_Pars_take O T) (fun _ e => ob_Pars_take e) rfl rfl rfl l_Pars_106 ⟨w_682, w_9⟩ rfl (Nat.le_of_ble_eq_true rfl) d_Pars_plainStatement_50 (fun v22 s21 _ => ?_)
      refine xW_pure (fun _ _ _ _ _ => am_aload_n d_Pars_plainStatement_53 rfl rfl) ?_
      refine xW_pure (fun _ _ _ _ _ => am_iload_n d_Pars_plainStatement_54 rfl rfl) ?_
      refine xW_callV O (H.2.2.2.2.2.2.2.2.1 _ _ _ _ _).1 (H.2.2.2.2.2.2.2.2.1 _ _ _ _ _).2 rfl rfl rfl l_Pars_156 ⟨w_770, w_18⟩ rfl (Nat.le_of_ble_eq_true rfl) d_Pars_plainStatement_55 (fun v24 s23 _ => ?_)
      refine xW_pure (fun _ _ _ _ _ => am_aload_n d_Pars_plainStatement_58 rfl rfl) ?_
      refine xW_gR O f_Pars_28 d_Pars_plainStatement_59 (fun v25 _ => ?_)
      refine xW_pure (fun _ _ _ _ _ => am_iload_n d_Pars_plainStatement_62 rfl rfl) ?_
      refine xW_callS O (dx_Mach_storeFor O T) rfl l_Pars_185 w_882 rfl (Nat.le_of_ble_eq_true rfl) d_Pars_plainStatement_63 (fun v27 s26 _ => ?_)
      refine xW_pure (fun _ _ _ _ _ => am_iload_n d_Pars_plainStatement_66 rfl rfl) ?_
      refine xW_callV O (dx_Draft_add O T) (fun _ e => ob_Draft_add e) rfl rfl rfl l_Pars_141 ⟨w_753, w_754⟩ rfl (Nat.le_of_ble_eq_true rfl) d_Pars_plainStatement_67 (fun v29 s28 _ => ?_)
      refine xW_pure (fun _ _ _ _ _ => am_goto (tgt := 83) d_Pars_plainStatement_70 (by decide)) ?_
      refine xW_pure (fun _ _ _ _ _ => am_aload_n d_Pars_plainStatement_83 rfl rfl) ?_
      refine xW_pure (fun _ _ _ _ _ => am_bipush (v := 59) d_Pars_plainStatement_84 (by decide)) ?_
      refine xW_callV O (dx_Pars_take O T) (fun _ e => ob_Pars_take e) rfl rfl rfl l_Pars_106 ⟨w_682, w_9⟩ rfl (Nat.le_of_ble_eq_true rfl) d_Pars_plainStatement_86 (fun v31 s30 _ => ?_)
      exact xW_ret (fun _ _ _ _ _ => am_vret rfl d_Pars_plainStatement_89)
  · refine xW_locs (lv' := [(0, .ref x0)]) rfl ?_
    exact dx_Pars_plainStatement_b73 O T H

set_option maxRecDepth 100000 in
def x_Pars_expression_b (c : CLT) (d : Nat) (x0 : Nat) (x1 : Int32) (s : HS) : Option (Unit × HS) := gd s x0 5 (bnd (cU (c 9 x0 0 x1 0 s)) fun v2 s1 => (some ((), s1)))

set_option maxRecDepth 100000 in
set_option maxHeartbeats 4000000 in
theorem dx_Pars_expression_b (O : am_ok K X) (T : am_T K) {c : CLT} {d : Nat} (H : HC_P K X c d) {x0 : Nat} {x1 : Int32} {s : HS} : xM cvU K X m_Pars_expression (d + 1) [.ref x0, .int x1] s (x_Pars_expression_b c d x0 x1 s) := by
  unfold x_Pars_expression_b
  refine xM_enter (by decide +kernel) (Nat.le_of_ble_eq_true rfl) ?_
  refine xW_gd (fun _ => ?_)
  refine xW_pure (fun _ _ _ _ _ => am_aload_n d_Pars_expression_0 rfl rfl) ?_
  refine xW_pure (fun _ _ _ _ _ => am_iconst (v := 0) d_Pars_expression_1 (by decide)) ?_
  refine xW_pure (fun _ _ _ _ _ => am_iload_n d_Pars_expression_2 rfl rfl) ?_
  refine xW_callV O (H.2.2.2.2.2.2.2.2.2.1 _ _ _ _ _).1 (H.2.2.2.2.2.2.2.2.2.1 _ _ _ _ _).2 rfl rfl rfl l_Pars_188 ⟨w_774, w_19⟩ rfl (Nat.le_of_ble_eq_true rfl) d_Pars_expression_3 (fun v2 s1 _ => ?_)
  exact xW_ret (fun _ _ _ _ _ => am_vret rfl d_Pars_expression_6)

set_option maxRecDepth 100000 in
def x_Pars_level_b31 (c : CLT) (d : Nat) (l0 : Nat) (l1 : Int32) (l2 : Int32) (t0 : Int32) (s : HS) : Option (Unit × HS) := loopK (fun (again35 : Int32 × HS → Option (Unit × HS)) (z35 : Int32 × HS) => (if t0 ≤ z35.1 then (some ((), z35.2)) else ((gR z35.2 l0 5 0).bind fun v3 => (bnd (x_Lexer_kind d v3 z35.2) fun v5 s4 => (bnd (x_Pars_levelOf d v5 s4) fun v7 s6 => (if v7 = l1 then ((gR s6 l0 5 0).bind fun v8 => (bnd (x_Lexer_kind d v8 s6) fun v10 s9 => (bnd (x_Pars_take d l0 v10 s9) fun v12 s11 => (if 1 < l1 then (bnd (cU (c 9 l0 (l1 + 1) l2 0 s11)) fun v14 s13 => ((gR s13 l0 5 3).bind fun v15 => (bnd (x_Pars_commandOf d v10 s13) fun v17 s16 => (bnd (x_Draft_add d v15 v17 0 s16) fun v19 s18 => ((pV s18 l0 5 7 (.int 0)).bind fun s20 => (again35 ((z35.1 + 1), s20))))))) else ((gR s11 l0 5 3).bind fun v21 => (bnd (x_Draft_here d v21 s11) fun v23 s22 => ((gR s22 l0 5 3).bind fun v24 => (if l1 = 0 then (bnd (x_Draft_add d v24 3 0 s22) fun v26 s25 => (bnd (cU (c 9 l0 (l1 + 1) l2 0 s25)) fun v28 s27 => ((gR s27 l0 5 3).bind fun v29 => (bnd (x_Draft_aimHere d v29 v23 s27) fun v31 s30 => ((pV s30 l0 5 7 (.int 0)).bind fun s32 => (again35 ((z35.1 + 1), s32))))))) else (bnd (x_Draft_add d v24 4 0 s22) fun v34 s33 => (bnd (cU (c 9 l0 (l1 + 1) l2 0 s33)) fun v36 s35 => ((gR s35 l0 5 3).bind fun v37 => (bnd (x_Draft_aimHere d v37 v23 s35) fun v39 s38 => ((pV s38 l0 5 7 (.int 0)).bind fun s40 => (again35 ((z35.1 + 1), s40))))))))))))))) else (some ((), s6)))))))) FU (0, s)

set_option maxRecDepth 100000 in
set_option maxHeartbeats 4000000 in
theorem dx_Pars_level_b31 (O : am_ok K X) (T : am_T K) {c : CLT} {d : Nat} (H : HC_P K X c d) {l0 : Nat} {l1 : Int32} {l2 : Int32} {t0 : Int32} {s : HS} : xW cvU K X m_Pars_level (d + 1) 31 [(0, .ref l0), (1, .int l1), (2, .int l2)] [.int t0] s (x_Pars_level_b31 c d l0 l1 l2 t0 s) := by
  unfold x_Pars_level_b31
  refine xW_pure (fun _ _ _ _ _ => am_istore_n d_Pars_level_31 rfl (Nat.le_of_ble_eq_true rfl)) ?_
  refine xW_pure (fun _ _ _ _ _ => am_iconst (v := 0) d_Pars_level_32 (by decide)) ?_
  refine xW_pure (fun _ _ _ _ _ => am_istore d_Pars_level_33 (Nat.le_of_ble_eq_true rfl)) ?_
  refine xW_locs (lv' := [(0, .ref l0), (1, .int l1), (2, .int l2), (3, .int t0), (4, .int 0)]) rfl ?_
  refine xW_loop (lvf := fun (z35 : Int32 × HS) => [(0, .ref l0), (1, .int l1), (2, .int l2), (3, .int t0), (4, .int z35.1)]) (hsf := fun (z35 : Int32 × HS) => z35.2) (fun again35 ih35 z35 => ?_) FU (0, s)
  refine xW_pure (fun _ _ _ _ _ => am_iload d_Pars_level_35 rfl) ?_
  refine xW_pure (fun _ _ _ _ _ => am_iload_n d_Pars_level_37 rfl rfl) ?_
  refine xW_ite (fun _ _ _ _ _ => am_icmp_ge (tgt := 153) d_Pars_level_38 (by decide)) (fun _ => ?_) (fun _ => ?_)
  · exact xW_ret (fun _ _ _ _ _ => am_vret rfl d_Pars_level_153)
  · refine xW_pure (fun _ _ _ _ _ => am_aload_n d_Pars_level_41 rfl rfl) ?_
    refine xW_gR O f_Pars_12 d_Pars_level_42 (fun v3 _ => ?_)
    refine xW_callV O (dx_Lexer_kind O T) (fun _ e => ob_Lexer_kind e) rfl rfl rfl l_Pars_59 ⟨w_673, w_674⟩ rfl (Nat.le_of_ble_eq_true rfl) d_Pars_level_45 (fun v5 s4 _ => ?_)
    refine xW_callS O (dx_Pars_levelOf O T) rfl l_Pars_194 w_834 rfl (Nat.le_of_ble_eq_true rfl) d_Pars_level_48 (fun v7 s6 _ => ?_)
    refine xW_pure (fun _ _ _ _ _ => am_iload_n d_Pars_level_51 rfl rfl) ?_
    refine xW_ite (fun _ _ _ _ _ k1 k2 => am_icmp_ne (tgt := 153) d_Pars_level_52 (by decide) k2 k1) (fun _ => ?_) (fun _ => ?_)
    · refine xW_pure (fun _ _ _ _ _ => am_aload_n d_Pars_level_55 rfl rfl) ?_
      refine xW_gR O f_Pars_12 d_Pars_level_56 (fun v8 _ => ?_)
      refine xW_callV O (dx_Lexer_kind O T) (fun _ e => ob_Lexer_kind e) rfl rfl rfl l_Pars_59 ⟨w_673, w_674⟩ rfl (Nat.le_of_ble_eq_true rfl) d_Pars_level_59 (fun v10 s9 _ => ?_)
      refine xW_pure (fun _ _ _ _ _ => am_istore d_Pars_level_62 (Nat.le_of_ble_eq_true rfl)) ?_
      refine xW_pure (fun _ _ _ _ _ => am_aload_n d_Pars_level_64 rfl rfl) ?_
      refine xW_pure (fun _ _ _ _ _ => am_iload d_Pars_level_65 rfl) ?_
      refine xW_callV O (dx_Pars_take O T) (fun _ e => ob_Pars_take e) rfl rfl rfl l_Pars_106 ⟨w_682, w_9⟩ rfl (Nat.le_of_ble_eq_true rfl) d_Pars_level_67 (fun v12 s11 _ => ?_)
      refine xW_pure (fun _ _ _ _ _ => am_iload_n d_Pars_level_70 rfl rfl) ?_
      refine xW_pure (fun _ _ _ _ _ => am_iconst (v := 1) d_Pars_level_71 (by decide)) ?_
      refine xW_ite (fun _ _ _ _ _ => am_icmp_gt (tgt := 121) d_Pars_level_72 (by decide)) (fun _ => ?_) (fun _ => ?_)
      · refine xW_pure (fun _ _ _ _ _ => am_aload_n d_Pars_level_121 rfl rfl) ?_
        refine xW_pure (fun _ _ _ _ _ => am_iload_n d_Pars_level_122 rfl rfl) ?_
        refine xW_pure (fun _ _ _ _ _ => am_iconst (v := 1) d_Pars_level_123 (by decide)) ?_
        refine xW_pure (fun _ _ _ _ _ => am_iadd d_Pars_level_124) ?_
        refine xW_pure (fun _ _ _ _ _ => am_iload_n d_Pars_level_125 rfl rfl) ?_
        refine xW_callV O (H.2.2.2.2.2.2.2.2.2.1 _ _ _ _ _).1 (H.2.2.2.2.2.2.2.2.2.1 _ _ _ _ _).2 rfl rfl rfl l_Pars_188 ⟨w_774, w_19⟩ rfl (Nat.le_of_ble_eq_true rfl) d_Pars_level_126 (fun v14 s13 _ => ?_)
        refine xW_pure (fun _ _ _ _ _ => am_aload_n d_Pars_level_129 rfl rfl) ?_
        refine xW_gR O f_Pars_28 d_Pars_level_130 (fun v15 _ => ?_)
        refine xW_pure (fun _ _ _ _ _ => am_iload d_Pars_level_133 rfl) ?_
        refine xW_callS O (dx_Pars_commandOf O T) rfl l_Pars_197 w_846 rfl (Nat.le_of_ble_eq_true rfl) d_Pars_level_135 (fun v17 s16 _ => ?_)
        refine xW_pure (fun _ _ _ _ _ => am_iconst (v := 0) d_Pars_level_138 (by decide)) ?_
        refine xW_callV O (dx_Draft_add O T) (fun _ e => ob_Draft_add e) rfl rfl rfl l_Pars_141 ⟨w_753, w_754⟩ rfl (Nat.le_of_ble_eq_true rfl) d_Pars_level_139 (fun v19 s18 _ => ?_)
        refine xW_pure (fun _ _ _ _ _ => am_aload_n d_Pars_level_142 rfl rfl) ?_
        refine xW_pure (fun _ _ _ _ _ => am_iconst (v := 0) d_Pars_level_143 (by decide)) ?_
        refine xW_put O f_Pars_172 d_Pars_level_144 (fun q hq => by cases hq; exact ⟨rfl, rfl, rfl⟩) (fun s20 _ => ?_)
        refine xW_pure (fun _ _ _ _ _ => am_iinc (v := 1) d_Pars_level_147 rfl (by decide) (Nat.le_of_ble_eq_true rfl)) ?_
        refine xW_pure (fun _ _ _ _ _ => am_goto (tgt := 35) d_Pars_level_150 (by decide)) ?_
        refine xW_locs (lv' := [(0, .ref l0), (1, .int l1), (2, .int l2), (3, .int t0), (4, .int (z35.1 + 1))]) rfl ?_
        exact ih35 ((z35.1 + 1), s20)
      · refine xW_pure (fun _ _ _ _ _ => am_aload_n d_Pars_level_75 rfl rfl) ?_
        refine xW_gR O f_Pars_28 d_Pars_level_76 (fun v21 _ => ?_)
        refine xW_callV O (dx_Draft_here O T) (fun _ e => ob_Draft_here e) rfl rfl rfl l_Pars_166 ⟨w_837, w_838⟩ rfl (Nat.le_of_ble_eq_true rfl) d_Pars_level_79 (fun v23 s22 _ => ?_)
        refine xW_pure (fun _ _ _ _ _ => am_istore d_Pars_level_82 (Nat.le_of_ble_eq_true rfl)) ?_
        refine xW_pure (fun _ _ _ _ _ => am_aload_n d_Pars_level_84 rfl rfl) ?_
        refine xW_gR O f_Pars_28 d_Pars_level_85 (fun v24 _ => ?_)
        refine xW_pure (fun _ _ _ _ _ => am_iload_n d_Pars_level_88 rfl rfl) ?_
        refine xW_ite (fun _ _ _ _ _ k1 k2 => am_if_ne (tgt := 96) d_Pars_level_89 (by decide) k2 k1) (fun _ => ?_) (fun _ => ?_)
        · refine xW_pure (fun _ _ _ _ _ => am_iconst (v := 3) d_Pars_level_92 (by decide)) ?_
          refine xW_pure (fun _ _ _ _ _ => am_goto (tgt := 97) d_Pars_level_93 (by decide)) ?_
          refine xW_pure (fun _ _ _ _ _ => am_iconst (v := 0) d_Pars_level_97 (by decide)) ?_
          refine xW_callV O (dx_Draft_add O T) (fun _ e => ob_Draft_add e) rfl rfl rfl l_Pars_141 ⟨w_753, w_754⟩ rfl (Nat.le_of_ble_eq_true rfl) d_Pars_level_98 (fun v26 s25 _ => ?_)
          refine xW_pure (fun _ _ _ _ _ => am_aload_n d_Pars_level_101 rfl rfl) ?_
          refine xW_pure (fun _ _ _ _ _ => am_iload_n d_Pars_level_102 rfl rfl) ?_
          refine xW_pure (fun _ _ _ _ _ => am_iconst (v := 1) d_Pars_level_103 (by decide)) ?_
          refine xW_pure (fun _ _ _ _ _ => am_iadd d_Pars_level_104) ?_
          refine xW_pure (fun _ _ _ _ _ => am_iload_n d_Pars_level_105 rfl rfl) ?_
          refine xW_callV O (H.2.2.2.2.2.2.2.2.2.1 _ _ _ _ _).1 (H.2.2.2.2.2.2.2.2.2.1 _ _ _ _ _).2 rfl rfl rfl l_Pars_188 ⟨w_774, w_19⟩ rfl (Nat.le_of_ble_eq_true rfl) d_Pars_level_106 (fun v28 s27 _ => ?_)
          refine xW_pure (fun _ _ _ _ _ => am_aload_n d_Pars_level_109 rfl rfl) ?_
          refine xW_gR O f_Pars_28 d_Pars_level_110 (fun v29 _ => ?_)
          refine xW_pure (fun _ _ _ _ _ => am_iload d_Pars_level_113 rfl) ?_
          refine xW_callV O (dx_Draft_aimHere O T) (fun _ e => ob_Draft_aimHere e) rfl rfl rfl l_Pars_169 ⟨w_841, w_842⟩ rfl (Nat.le_of_ble_eq_true rfl) d_Pars_level_115 (fun v31 s30 _ => ?_)
          refine xW_pure (fun _ _ _ _ _ => am_goto (tgt := 142) d_Pars_level_118 (by decide)) ?_
          refine xW_pure (fun _ _ _ _ _ => am_aload_n d_Pars_level_142 rfl rfl) ?_
          refine xW_pure (fun _ _ _ _ _ => am_iconst (v := 0) d_Pars_level_143 (by decide)) ?_
          refine xW_put O f_Pars_172 d_Pars_level_144 (fun q hq => by cases hq; exact ⟨rfl, rfl, rfl⟩) (fun s32 _ => ?_)
          refine xW_pure (fun _ _ _ _ _ => am_iinc (v := 1) d_Pars_level_147 rfl (by decide) (Nat.le_of_ble_eq_true rfl)) ?_
          refine xW_pure (fun _ _ _ _ _ => am_goto (tgt := 35) d_Pars_level_150 (by decide)) ?_
          refine xW_locs (lv' := [(0, .ref l0), (1, .int l1), (2, .int l2), (3, .int t0), (4, .int (z35.1 + 1))]) rfl ?_
          exact ih35 ((z35.1 + 1), s32)
        · refine xW_pure (fun _ _ _ _ _ => am_iconst (v := 4) d_Pars_level_96 (by decide)) ?_
          refine xW_pure (fun _ _ _ _ _ => am_iconst (v := 0) d_Pars_level_97 (by decide)) ?_
          refine xW_callV O (dx_Draft_add O T) (fun _ e => ob_Draft_add e) rfl rfl rfl l_Pars_141 ⟨w_753, w_754⟩ rfl (Nat.le_of_ble_eq_true rfl) d_Pars_level_98 (fun v34 s33 _ => ?_)
          refine xW_pure (fun _ _ _ _ _ => am_aload_n d_Pars_level_101 rfl rfl) ?_
          refine xW_pure (fun _ _ _ _ _ => am_iload_n d_Pars_level_102 rfl rfl) ?_
          refine xW_pure (fun _ _ _ _ _ => am_iconst (v := 1) d_Pars_level_103 (by decide)) ?_
          refine xW_pure (fun _ _ _ _ _ => am_iadd d_Pars_level_104) ?_
          refine xW_pure (fun _ _ _ _ _ => am_iload_n d_Pars_level_105 rfl rfl) ?_
          refine xW_callV O (H.2.2.2.2.2.2.2.2.2.1 _ _ _ _ _).1 (H.2.2.2.2.2.2.2.2.2.1 _ _ _ _ _).2 rfl rfl rfl l_Pars_188 ⟨w_774, w_19⟩ rfl (Nat.le_of_ble_eq_true rfl) d_Pars_level_106 (fun v36 s35 _ => ?_)
          refine xW_pure (fun _ _ _ _ _ => am_aload_n d_Pars_level_109 rfl rfl) ?_
          refine xW_gR O f_Pars_28 d_Pars_level_110 (fun v37 _ => ?_)
          refine xW_pure (fun _ _ _ _ _ => am_iload d_Pars_level_113 rfl) ?_
          refine xW_callV O (dx_Draft_aimHere O T) (fun _ e => ob_Draft_aimHere e) rfl rfl rfl l_Pars_169 ⟨w_841, w_842⟩ rfl (Nat.le_of_ble_eq_true rfl) d_Pars_level_115 (fun v39 s38 _ => ?_)
          refine xW_pure (fun _ _ _ _ _ => am_goto (tgt := 142) d_Pars_level_118 (by decide)) ?_
          refine xW_pure (fun _ _ _ _ _ => am_aload_n d_Pars_level_142 rfl rfl) ?_
          refine xW_pure (fun _ _ _ _ _ => am_iconst (v := 0) d_Pars_level_143 (by decide)) ?_
          refine xW_put O f_Pars_172 d_Pars_level_144 (fun q hq => by cases hq; exact ⟨rfl, rfl, rfl⟩) (fun s40 _ => ?_)
          refine xW_pure (fun _ _ _ _ _ => am_iinc (v := 1) d_Pars_level_147 rfl (by decide) (Nat.le_of_ble_eq_true rfl)) ?_
          refine xW_pure (fun _ _ _ _ _ => am_goto (tgt := 35) d_Pars_level_150 (by decide)) ?_
          refine xW_locs (lv' := [(0, .ref l0), (1, .int l1), (2, .int l2), (3, .int t0), (4, .int (z35.1 + 1))]) rfl ?_
          exact ih35 ((z35.1 + 1), s40)
    · exact xW_ret (fun _ _ _ _ _ => am_vret rfl d_Pars_level_153)

set_option maxRecDepth 100000 in
def x_Pars_level_b (c : CLT) (d : Nat) (x0 : Nat) (x1 : Int32) (x2 : Int32) (s : HS) : Option (Unit × HS) := gd s x0 5 (if x1 ≤ 4 then (bnd (cU (c 9 x0 (x1 + 1) x2 0 s)) fun v2 s1 => (if x1 = 2 then (x_Pars_level_b31 c d x0 x1 x2 1 s1) else (x_Pars_level_b31 c d x0 x1 x2 1500 s1))) else (bnd (cU (c 10 x0 x2 0 0 s)) fun v42 s41 => (some ((), s41))))

set_option maxRecDepth 100000 in
set_option maxHeartbeats 4000000 in
theorem dx_Pars_level_b (O : am_ok K X) (T : am_T K) {c : CLT} {d : Nat} (H : HC_P K X c d) {x0 : Nat} {x1 : Int32} {x2 : Int32} {s : HS} : xM cvU K X m_Pars_level (d + 1) [.ref x0, .int x1, .int x2] s (x_Pars_level_b c d x0 x1 x2 s) := by
  unfold x_Pars_level_b
  refine xM_enter (by decide +kernel) (Nat.le_of_ble_eq_true rfl) ?_
  refine xW_gd (fun _ => ?_)
  refine xW_pure (fun _ _ _ _ _ => am_iload_n d_Pars_level_0 rfl rfl) ?_
  refine xW_pure (fun _ _ _ _ _ => am_iconst (v := 4) d_Pars_level_1 (by decide)) ?_
  refine xW_ite (fun _ _ _ _ _ => am_icmp_le (tgt := 11) d_Pars_level_2 (by decide)) (fun _ => ?_) (fun _ => ?_)
  · refine xW_pure (fun _ _ _ _ _ => am_aload_n d_Pars_level_11 rfl rfl) ?_
    refine xW_pure (fun _ _ _ _ _ => am_iload_n d_Pars_level_12 rfl rfl) ?_
    refine xW_pure (fun _ _ _ _ _ => am_iconst (v := 1) d_Pars_level_13 (by decide)) ?_
    refine xW_pure (fun _ _ _ _ _ => am_iadd d_Pars_level_14) ?_
    refine xW_pure (fun _ _ _ _ _ => am_iload_n d_Pars_level_15 rfl rfl) ?_
    refine xW_callV O (H.2.2.2.2.2.2.2.2.2.1 _ _ _ _ _).1 (H.2.2.2.2.2.2.2.2.2.1 _ _ _ _ _).2 rfl rfl rfl l_Pars_188 ⟨w_774, w_19⟩ rfl (Nat.le_of_ble_eq_true rfl) d_Pars_level_16 (fun v2 s1 _ => ?_)
    refine xW_pure (fun _ _ _ _ _ => am_iload_n d_Pars_level_19 rfl rfl) ?_
    refine xW_pure (fun _ _ _ _ _ => am_iconst (v := 2) d_Pars_level_20 (by decide)) ?_
    refine xW_ite (fun _ _ _ _ _ k1 k2 => am_icmp_ne (tgt := 28) d_Pars_level_21 (by decide) k2 k1) (fun _ => ?_) (fun _ => ?_)
    · refine xW_pure (fun _ _ _ _ _ => am_iconst (v := 1) d_Pars_level_24 (by decide)) ?_
      refine xW_pure (fun _ _ _ _ _ => am_goto (tgt := 31) d_Pars_level_25 (by decide)) ?_
      refine xW_locs (lv' := [(0, .ref x0), (1, .int x1), (2, .int x2)]) rfl ?_
      exact dx_Pars_level_b31 O T H
    · refine xW_pure (fun _ _ _ _ _ => am_sipush (v := 1500) d_Pars_level_28 (by decide)) ?_
      refine xW_locs (lv' := [(0, .ref x0), (1, .int x1), (2, .int x2)]) rfl ?_
      exact dx_Pars_level_b31 O T H
  · refine xW_pure (fun _ _ _ _ _ => am_aload_n d_Pars_level_5 rfl rfl) ?_
    refine xW_pure (fun _ _ _ _ _ => am_iload_n d_Pars_level_6 rfl rfl) ?_
    refine xW_callV O (H.2.2.2.2.2.2.2.2.2.2.1 _ _ _ _ _).1 (H.2.2.2.2.2.2.2.2.2.2.1 _ _ _ _ _).2 rfl rfl rfl l_Pars_191 ⟨w_778, w_20⟩ rfl (Nat.le_of_ble_eq_true rfl) d_Pars_level_7 (fun v42 s41 _ => ?_)
    exact xW_ret (fun _ _ _ _ _ => am_vret rfl d_Pars_level_10)

set_option maxRecDepth 100000 in
def x_Pars_signed_b28 (c : CLT) (d : Nat) (l0 : Nat) (l1 : Int32) (l2 : Int32) (s : HS) : Option (Unit × HS) := bnd (x_Pars_open d l0 l2 l1 s) fun v5 s4 => (if v5 = 0 then (some ((), s4)) else (bnd (cU (c 10 l0 (l1 + 1) 0 0 s4)) fun v7 s6 => ((gR s6 l0 5 3).bind fun v8 => (if l2 = 45 then (bnd (x_Draft_add d v8 26 0 s6) fun v10 s9 => ((pV s9 l0 5 7 (.int 0)).bind fun s11 => (some ((), s11)))) else (bnd (x_Draft_add d v8 27 0 s6) fun v13 s12 => ((pV s12 l0 5 7 (.int 0)).bind fun s14 => (some ((), s14))))))))

set_option maxRecDepth 100000 in
set_option maxHeartbeats 4000000 in
theorem dx_Pars_signed_b28 (O : am_ok K X) (T : am_T K) {c : CLT} {d : Nat} (H : HC_P K X c d) {l0 : Nat} {l1 : Int32} {l2 : Int32} {s : HS} : xW cvU K X m_Pars_signed (d + 1) 28 [(0, .ref l0), (1, .int l1), (2, .int l2)] [] s (x_Pars_signed_b28 c d l0 l1 l2 s) := by
  unfold x_Pars_signed_b28
  refine xW_pure (fun _ _ _ _ _ => am_aload_n d_Pars_signed_28 rfl rfl) ?_
  refine xW_pure (fun _ _ _ _ _ => am_iload_n d_Pars_signed_29 rfl rfl) ?_
  refine xW_pure (fun _ _ _ _ _ => am_iload_n d_Pars_signed_30 rfl rfl) ?_
  refine xW_callV O (dx_Pars_open O T) (fun _ e => ob_Pars_open e) rfl rfl rfl l_Pars_135 ⟨w_746, w_15⟩ rfl (Nat.le_of_ble_eq_true rfl) d_Pars_signed_31 (fun v5 s4 _ => ?_)
  refine xW_ite (fun _ _ _ _ _ => am_if_eq (tgt := 70) d_Pars_signed_34 (by decide)) (fun _ => ?_) (fun _ => ?_)
  · exact xW_ret (fun _ _ _ _ _ => am_vret rfl d_Pars_signed_70)
  · refine xW_pure (fun _ _ _ _ _ => am_aload_n d_Pars_signed_37 rfl rfl) ?_
    refine xW_pure (fun _ _ _ _ _ => am_iload_n d_Pars_signed_38 rfl rfl) ?_
    refine xW_pure (fun _ _ _ _ _ => am_iconst (v := 1) d_Pars_signed_39 (by decide)) ?_
    refine xW_pure (fun _ _ _ _ _ => am_iadd d_Pars_signed_40) ?_
    refine xW_callV O (H.2.2.2.2.2.2.2.2.2.2.1 _ _ _ _ _).1 (H.2.2.2.2.2.2.2.2.2.2.1 _ _ _ _ _).2 rfl rfl rfl l_Pars_191 ⟨w_778, w_20⟩ rfl (Nat.le_of_ble_eq_true rfl) d_Pars_signed_41 (fun v7 s6 _ => ?_)
    refine xW_pure (fun _ _ _ _ _ => am_aload_n d_Pars_signed_44 rfl rfl) ?_
    refine xW_gR O f_Pars_28 d_Pars_signed_45 (fun v8 _ => ?_)
    refine xW_pure (fun _ _ _ _ _ => am_iload_n d_Pars_signed_48 rfl rfl) ?_
    refine xW_pure (fun _ _ _ _ _ => am_bipush (v := 45) d_Pars_signed_49 (by decide)) ?_
    refine xW_ite (fun _ _ _ _ _ k1 k2 => am_icmp_ne (tgt := 59) d_Pars_signed_51 (by decide) k2 k1) (fun _ => ?_) (fun _ => ?_)
    · refine xW_pure (fun _ _ _ _ _ => am_bipush (v := 26) d_Pars_signed_54 (by decide)) ?_
      refine xW_pure (fun _ _ _ _ _ => am_goto (tgt := 61) d_Pars_signed_56 (by decide)) ?_
      refine xW_pure (fun _ _ _ _ _ => am_iconst (v := 0) d_Pars_signed_61 (by decide)) ?_
      refine xW_callV O (dx_Draft_add O T) (fun _ e => ob_Draft_add e) rfl rfl rfl l_Pars_141 ⟨w_753, w_754⟩ rfl (Nat.le_of_ble_eq_true rfl) d_Pars_signed_62 (fun v10 s9 _ => ?_)
      refine xW_pure (fun _ _ _ _ _ => am_aload_n d_Pars_signed_65 rfl rfl) ?_
      refine xW_pure (fun _ _ _ _ _ => am_iconst (v := 0) d_Pars_signed_66 (by decide)) ?_
      refine xW_put O f_Pars_172 d_Pars_signed_67 (fun q hq => by cases hq; exact ⟨rfl, rfl, rfl⟩) (fun s11 _ => ?_)
      exact xW_ret (fun _ _ _ _ _ => am_vret rfl d_Pars_signed_70)
    · refine xW_pure (fun _ _ _ _ _ => am_bipush (v := 27) d_Pars_signed_59 (by decide)) ?_
      refine xW_pure (fun _ _ _ _ _ => am_iconst (v := 0) d_Pars_signed_61 (by decide)) ?_
      refine xW_callV O (dx_Draft_add O T) (fun _ e => ob_Draft_add e) rfl rfl rfl l_Pars_141 ⟨w_753, w_754⟩ rfl (Nat.le_of_ble_eq_true rfl) d_Pars_signed_62 (fun v13 s12 _ => ?_)
      refine xW_pure (fun _ _ _ _ _ => am_aload_n d_Pars_signed_65 rfl rfl) ?_
      refine xW_pure (fun _ _ _ _ _ => am_iconst (v := 0) d_Pars_signed_66 (by decide)) ?_
      refine xW_put O f_Pars_172 d_Pars_signed_67 (fun q hq => by cases hq; exact ⟨rfl, rfl, rfl⟩) (fun s14 _ => ?_)
      exact xW_ret (fun _ _ _ _ _ => am_vret rfl d_Pars_signed_70)

set_option maxRecDepth 100000 in
def x_Pars_signed_b (c : CLT) (d : Nat) (x0 : Nat) (x1 : Int32) (s : HS) : Option (Unit × HS) := gd s x0 5 ((gR s x0 5 0).bind fun v1 => (bnd (x_Lexer_kind d v1 s) fun v3 s2 => (if v3 = 45 then (x_Pars_signed_b28 c d x0 x1 v3 s2) else (if v3 = 33 then (x_Pars_signed_b28 c d x0 x1 v3 s2) else (bnd (cU (c 11 x0 x1 0 0 s2)) fun v16 s15 => (some ((), s15)))))))

set_option maxRecDepth 100000 in
set_option maxHeartbeats 4000000 in
theorem dx_Pars_signed_b (O : am_ok K X) (T : am_T K) {c : CLT} {d : Nat} (H : HC_P K X c d) {x0 : Nat} {x1 : Int32} {s : HS} : xM cvU K X m_Pars_signed (d + 1) [.ref x0, .int x1] s (x_Pars_signed_b c d x0 x1 s) := by
  unfold x_Pars_signed_b
  refine xM_enter (by decide +kernel) (Nat.le_of_ble_eq_true rfl) ?_
  refine xW_gd (fun _ => ?_)
  refine xW_pure (fun _ _ _ _ _ => am_aload_n d_Pars_signed_0 rfl rfl) ?_
  refine xW_gR O f_Pars_12 d_Pars_signed_1 (fun v1 _ => ?_)
  refine xW_callV O (dx_Lexer_kind O T) (fun _ e => ob_Lexer_kind e) rfl rfl rfl l_Pars_59 ⟨w_673, w_674⟩ rfl (Nat.le_of_ble_eq_true rfl) d_Pars_signed_4 (fun v3 s2 _ => ?_)
  refine xW_pure (fun _ _ _ _ _ => am_istore_n d_Pars_signed_7 rfl (Nat.le_of_ble_eq_true rfl)) ?_
  refine xW_pure (fun _ _ _ _ _ => am_iload_n d_Pars_signed_8 rfl rfl) ?_
  refine xW_pure (fun _ _ _ _ _ => am_bipush (v := 45) d_Pars_signed_9 (by decide)) ?_
  refine xW_ite (fun _ _ _ _ _ => am_icmp_eq (tgt := 28) d_Pars_signed_11 (by decide)) (fun _ => ?_) (fun _ => ?_)
  · refine xW_locs (lv' := [(0, .ref x0), (1, .int x1), (2, .int v3)]) rfl ?_
    exact dx_Pars_signed_b28 O T H
  · refine xW_pure (fun _ _ _ _ _ => am_iload_n d_Pars_signed_14 rfl rfl) ?_
    refine xW_pure (fun _ _ _ _ _ => am_bipush (v := 33) d_Pars_signed_15 (by decide)) ?_
    refine xW_ite (fun _ _ _ _ _ => am_icmp_eq (tgt := 28) d_Pars_signed_17 (by decide)) (fun _ => ?_) (fun _ => ?_)
    · refine xW_locs (lv' := [(0, .ref x0), (1, .int x1), (2, .int v3)]) rfl ?_
      exact dx_Pars_signed_b28 O T H
    · refine xW_pure (fun _ _ _ _ _ => am_aload_n d_Pars_signed_20 rfl rfl) ?_
      refine xW_pure (fun _ _ _ _ _ => am_iload_n d_Pars_signed_21 rfl rfl) ?_
      refine xW_callV O (H.2.2.2.2.2.2.2.2.2.2.2.1 _ _ _ _ _).1 (H.2.2.2.2.2.2.2.2.2.2.2.1 _ _ _ _ _).2 rfl rfl rfl l_Pars_200 ⟨w_782, w_21⟩ rfl (Nat.le_of_ble_eq_true rfl) d_Pars_signed_22 (fun v16 s15 _ => ?_)
      refine xW_pure (fun _ _ _ _ _ => am_goto (tgt := 70) d_Pars_signed_25 (by decide)) ?_
      exact xW_ret (fun _ _ _ _ _ => am_vret rfl d_Pars_signed_70)

set_option maxRecDepth 100000 in
def x_Pars_parts_b (c : CLT) (d : Nat) (x0 : Nat) (x1 : Int32) (s : HS) : Option (Unit × HS) := gd s x0 5 (bnd (cU (c 12 x0 x1 0 0 s)) fun v2 s1 => (loopK (fun (again7 : Int32 × HS → Option (Unit × HS)) (z7 : Int32 × HS) => (if 1500 ≤ z7.1 then (some ((), z7.2)) else ((gR z7.2 x0 5 0).bind fun v3 => (bnd (x_Lexer_kind d v3 z7.2) fun v5 s4 => (if v5 = 46 then (bnd (x_Pars_take d x0 46 s4) fun v7 s6 => ((gR s6 x0 5 3).bind fun v8 => (bnd (x_Pars_takeName d x0 s6) fun v10 s9 => (bnd (x_Pars_keepName d x0 v10 s9) fun v12 s11 => (bnd (x_Draft_add d v8 17 v12 s11) fun v14 s13 => ((pV s13 x0 5 7 (.int 1)).bind fun s15 => (again7 ((z7.1 + 1), s15)))))))) else ((gR s4 x0 5 0).bind fun v16 => (bnd (x_Lexer_kind d v16 s4) fun v18 s17 => (if v18 = 91 then (bnd (x_Pars_open d x0 91 x1 s17) fun v20 s19 => (if v20 = 0 then (some ((), s19)) else (bnd (cU (c 8 x0 (x1 + 1) 0 0 s19)) fun v22 s21 => (bnd (x_Pars_take d x0 93 s21) fun v24 s23 => ((gR s23 x0 5 3).bind fun v25 => (bnd (x_Draft_add d v25 19 0 s23) fun v27 s26 => ((pV s26 x0 5 7 (.int 1)).bind fun s28 => (again7 ((z7.1 + 1), s28))))))))) else (some ((), s17)))))))))) FU (0, s1)))

set_option maxRecDepth 100000 in
set_option maxHeartbeats 4000000 in
theorem dx_Pars_parts_b (O : am_ok K X) (T : am_T K) {c : CLT} {d : Nat} (H : HC_P K X c d) {x0 : Nat} {x1 : Int32} {s : HS} : xM cvU K X m_Pars_parts (d + 1) [.ref x0, .int x1] s (x_Pars_parts_b c d x0 x1 s) := by
  unfold x_Pars_parts_b
  refine xM_enter (by decide +kernel) (Nat.le_of_ble_eq_true rfl) ?_
  refine xW_gd (fun _ => ?_)
  refine xW_pure (fun _ _ _ _ _ => am_aload_n d_Pars_parts_0 rfl rfl) ?_
  refine xW_pure (fun _ _ _ _ _ => am_iload_n d_Pars_parts_1 rfl rfl) ?_
  refine xW_callV O (H.2.2.2.2.2.2.2.2.2.2.2.2.1 _ _ _ _ _).1 (H.2.2.2.2.2.2.2.2.2.2.2.2.1 _ _ _ _ _).2 rfl rfl rfl l_Pars_203 ⟨w_786, w_22⟩ rfl (Nat.le_of_ble_eq_true rfl) d_Pars_parts_2 (fun v2 s1 _ => ?_)
  refine xW_pure (fun _ _ _ _ _ => am_iconst (v := 0) d_Pars_parts_5 (by decide)) ?_
  refine xW_pure (fun _ _ _ _ _ => am_istore_n d_Pars_parts_6 rfl (Nat.le_of_ble_eq_true rfl)) ?_
  refine xW_locs (lv' := [(0, .ref x0), (1, .int x1), (2, .int 0)]) rfl ?_
  refine xW_loop (lvf := fun (z7 : Int32 × HS) => [(0, .ref x0), (1, .int x1), (2, .int z7.1)]) (hsf := fun (z7 : Int32 × HS) => z7.2) (fun again7 ih7 z7 => ?_) FU (0, s1)
  refine xW_pure (fun _ _ _ _ _ => am_iload_n d_Pars_parts_7 rfl rfl) ?_
  refine xW_pure (fun _ _ _ _ _ => am_sipush (v := 1500) d_Pars_parts_8 (by decide)) ?_
  refine xW_ite (fun _ _ _ _ _ => am_icmp_ge (tgt := 112) d_Pars_parts_11 (by decide)) (fun _ => ?_) (fun _ => ?_)
  · exact xW_ret (fun _ _ _ _ _ => am_vret rfl d_Pars_parts_112)
  · refine xW_pure (fun _ _ _ _ _ => am_aload_n d_Pars_parts_14 rfl rfl) ?_
    refine xW_gR O f_Pars_12 d_Pars_parts_15 (fun v3 _ => ?_)
    refine xW_callV O (dx_Lexer_kind O T) (fun _ e => ob_Lexer_kind e) rfl rfl rfl l_Pars_59 ⟨w_673, w_674⟩ rfl (Nat.le_of_ble_eq_true rfl) d_Pars_parts_18 (fun v5 s4 _ => ?_)
    refine xW_pure (fun _ _ _ _ _ => am_bipush (v := 46) d_Pars_parts_21 (by decide)) ?_
    refine xW_ite (fun _ _ _ _ _ k1 k2 => am_icmp_ne (tgt := 52) d_Pars_parts_23 (by decide) k2 k1) (fun _ => ?_) (fun _ => ?_)
    · refine xW_pure (fun _ _ _ _ _ => am_aload_n d_Pars_parts_26 rfl rfl) ?_
      refine xW_pure (fun _ _ _ _ _ => am_bipush (v := 46) d_Pars_parts_27 (by decide)) ?_
      refine xW_callV O (dx_Pars_take O T) (fun _ e => ob_Pars_take e) rfl rfl rfl l_Pars_106 ⟨w_682, w_9⟩ rfl (Nat.le_of_ble_eq_true rfl) d_Pars_parts_29 (fun v7 s6 _ => ?_)
      refine xW_pure (fun _ _ _ _ _ => am_aload_n d_Pars_parts_32 rfl rfl) ?_
      refine xW_gR O f_Pars_28 d_Pars_parts_33 (fun v8 _ => ?_)
      refine xW_pure (fun _ _ _ _ _ => am_bipush (v := 17) d_Pars_parts_36 (by decide)) ?_
      refine xW_pure (fun _ _ _ _ _ => am_aload_n d_Pars_parts_38 rfl rfl) ?_
      refine xW_pure (fun _ _ _ _ _ => am_aload_n d_Pars_parts_39 rfl rfl) ?_
      refine xW_callV O (dx_Pars_takeName O T) (fun _ e => ob_Pars_takeName e) rfl rfl rfl l_Pars_109 ⟨w_699, w_11⟩ rfl (Nat.le_of_ble_eq_true rfl) d_Pars_parts_40 (fun v10 s9 _ => ?_)
      refine xW_callV O (dx_Pars_keepName O T) (fun _ e => ob_Pars_keepName e) rfl rfl rfl l_Pars_206 ⟨w_830, w_30⟩ rfl (Nat.le_of_ble_eq_true rfl) d_Pars_parts_43 (fun v12 s11 _ => ?_)
      refine xW_callV O (dx_Draft_add O T) (fun _ e => ob_Draft_add e) rfl rfl rfl l_Pars_141 ⟨w_753, w_754⟩ rfl (Nat.le_of_ble_eq_true rfl) d_Pars_parts_46 (fun v14 s13 _ => ?_)
      refine xW_pure (fun _ _ _ _ _ => am_goto (tgt := 101) d_Pars_parts_49 (by decide)) ?_
      refine xW_pure (fun _ _ _ _ _ => am_aload_n d_Pars_parts_101 rfl rfl) ?_
      refine xW_pure (fun _ _ _ _ _ => am_iconst (v := 1) d_Pars_parts_102 (by decide)) ?_
      refine xW_put O f_Pars_172 d_Pars_parts_103 (fun q hq => by cases hq; exact ⟨rfl, rfl, rfl⟩) (fun s15 _ => ?_)
      refine xW_pure (fun _ _ _ _ _ => am_iinc (v := 1) d_Pars_parts_106 rfl (by decide) (Nat.le_of_ble_eq_true rfl)) ?_
      refine xW_pure (fun _ _ _ _ _ => am_goto (tgt := 7) d_Pars_parts_109 (by decide)) ?_
      refine xW_locs (lv' := [(0, .ref x0), (1, .int x1), (2, .int (z7.1 + 1))]) rfl ?_
      exact ih7 ((z7.1 + 1), s15)
    · refine xW_pure (fun _ _ _ _ _ => am_aload_n d_Pars_parts_52 rfl rfl) ?_
      refine xW_gR O f_Pars_12 d_Pars_parts_53 (fun v16 _ => ?_)
      refine xW_callV O (dx_Lexer_kind O T) (fun _ e => ob_Lexer_kind e) rfl rfl rfl l_Pars_59 ⟨w_673, w_674⟩ rfl (Nat.le_of_ble_eq_true rfl) d_Pars_parts_56 (fun v18 s17 _ => ?_)
      refine xW_pure (fun _ _ _ _ _ => am_bipush (v := 91) d_Pars_parts_59 (by decide)) ?_
      refine xW_ite (fun _ _ _ _ _ k1 k2 => am_icmp_ne (tgt := 100) d_Pars_parts_61 (by decide) k2 k1) (fun _ => ?_) (fun _ => ?_)
      · refine xW_pure (fun _ _ _ _ _ => am_aload_n d_Pars_parts_64 rfl rfl) ?_
        refine xW_pure (fun _ _ _ _ _ => am_bipush (v := 91) d_Pars_parts_65 (by decide)) ?_
        refine xW_pure (fun _ _ _ _ _ => am_iload_n d_Pars_parts_67 rfl rfl) ?_
        refine xW_callV O (dx_Pars_open O T) (fun _ e => ob_Pars_open e) rfl rfl rfl l_Pars_135 ⟨w_746, w_15⟩ rfl (Nat.le_of_ble_eq_true rfl) d_Pars_parts_68 (fun v20 s19 _ => ?_)
        refine xW_ite (fun _ _ _ _ _ => am_if_eq (tgt := 100) d_Pars_parts_71 (by decide)) (fun _ => ?_) (fun _ => ?_)
        · exact xW_ret (fun _ _ _ _ _ => am_vret rfl d_Pars_parts_100)
        · refine xW_pure (fun _ _ _ _ _ => am_aload_n d_Pars_parts_74 rfl rfl) ?_
          refine xW_pure (fun _ _ _ _ _ => am_iload_n d_Pars_parts_75 rfl rfl) ?_
          refine xW_pure (fun _ _ _ _ _ => am_iconst (v := 1) d_Pars_parts_76 (by decide)) ?_
          refine xW_pure (fun _ _ _ _ _ => am_iadd d_Pars_parts_77) ?_
          refine xW_callV O (H.2.2.2.2.2.2.2.2.1 _ _ _ _ _).1 (H.2.2.2.2.2.2.2.2.1 _ _ _ _ _).2 rfl rfl rfl l_Pars_156 ⟨w_770, w_18⟩ rfl (Nat.le_of_ble_eq_true rfl) d_Pars_parts_78 (fun v22 s21 _ => ?_)
          refine xW_pure (fun _ _ _ _ _ => am_aload_n d_Pars_parts_81 rfl rfl) ?_
          refine xW_pure (fun _ _ _ _ _ => am_bipush (v := 93) d_Pars_parts_82 (by decide)) ?_
          refine xW_callV O (dx_Pars_take O T) (fun _ e => ob_Pars_take e) rfl rfl rfl l_Pars_106 ⟨w_682, w_9⟩ rfl (Nat.le_of_ble_eq_true rfl) d_Pars_parts_84 (fun v24 s23 _ => ?_)
          refine xW_pure (fun _ _ _ _ _ => am_aload_n d_Pars_parts_87 rfl rfl) ?_
          refine xW_gR O f_Pars_28 d_Pars_parts_88 (fun v25 _ => ?_)
          refine xW_pure (fun _ _ _ _ _ => am_bipush (v := 19) d_Pars_parts_91 (by decide)) ?_
          refine xW_pure (fun _ _ _ _ _ => am_iconst (v := 0) d_Pars_parts_93 (by decide)) ?_
          refine xW_callV O (dx_Draft_add O T) (fun _ e => ob_Draft_add e) rfl rfl rfl l_Pars_141 ⟨w_753, w_754⟩ rfl (Nat.le_of_ble_eq_true rfl) d_Pars_parts_94 (fun v27 s26 _ => ?_)
          refine xW_pure (fun _ _ _ _ _ => am_goto (tgt := 101) d_Pars_parts_97 (by decide)) ?_
          refine xW_pure (fun _ _ _ _ _ => am_aload_n d_Pars_parts_101 rfl rfl) ?_
          refine xW_pure (fun _ _ _ _ _ => am_iconst (v := 1) d_Pars_parts_102 (by decide)) ?_
          refine xW_put O f_Pars_172 d_Pars_parts_103 (fun q hq => by cases hq; exact ⟨rfl, rfl, rfl⟩) (fun s28 _ => ?_)
          refine xW_pure (fun _ _ _ _ _ => am_iinc (v := 1) d_Pars_parts_106 rfl (by decide) (Nat.le_of_ble_eq_true rfl)) ?_
          refine xW_pure (fun _ _ _ _ _ => am_goto (tgt := 7) d_Pars_parts_109 (by decide)) ?_
          refine xW_locs (lv' := [(0, .ref x0), (1, .int x1), (2, .int (z7.1 + 1))]) rfl ?_
          exact ih7 ((z7.1 + 1), s28)
      · exact xW_ret (fun _ _ _ _ _ => am_vret rfl d_Pars_parts_100)

set_option maxRecDepth 100000 in
def x_Pars_atom_b (c : CLT) (d : Nat) (x0 : Nat) (x1 : Int32) (s : HS) : Option (Unit × HS) := gd s x0 5 ((gR s x0 5 0).bind fun v1 => (bnd (x_Lexer_kind d v1 s) fun v3 s2 => (if v3 = 2 then (bnd ((c 13 x0 x1 0 0 s2)) fun v5 s4 => ((pZ s4 x0 5 7 v5).bind fun s6 => (some ((), s6)))) else (if v3 = 3 then ((gR s2 x0 5 3).bind fun v7 => ((gR s2 x0 5 0).bind fun v8 => (bnd (x_Lexer_number d v8 s2) fun v10 s9 => (bnd (x_Draft_add d v7 11 v10 s9) fun v12 s11 => (bnd (x_Pars_take d x0 3 s11) fun v14 s13 => ((pV s13 x0 5 7 (.int 0)).bind fun s15 => (some ((), s15)))))))) else (if v3 = 4 then ((gR s2 x0 5 3).bind fun v16 => ((gR s2 x0 5 3).bind fun v17 => ((gR s2 x0 5 0).bind fun v18 => (bnd (x_Lexer_head d v18 s2) fun v20 s19 => ((gR s19 x0 5 0).bind fun v21 => (bnd (x_Lexer_tail d v21 s19) fun v23 s22 => (bnd (x_Draft_keep d v17 v20 v23 s22) fun v25 s24 => (bnd (x_Draft_add d v16 12 v25 s24) fun v27 s26 => (bnd (x_Pars_take d x0 4 s26) fun v29 s28 => ((pV s28 x0 5 7 (.int 0)).bind fun s30 => (some ((), s30)))))))))))) else (if v3 = 13 then ((gR s2 x0 5 3).bind fun v31 => (bnd (x_Draft_add d v31 10 0 s2) fun v33 s32 => (bnd (x_Pars_take d x0 13 s32) fun v35 s34 => ((pV s34 x0 5 7 (.int 0)).bind fun s36 => (some ((), s36)))))) else (if v3 = 14 then (bnd (cU (c 14 x0 23 x1 0 s2)) fun v38 s37 => ((pV s37 x0 5 7 (.int 0)).bind fun s39 => (some ((), s39)))) else (if v3 = 15 then (bnd (cU (c 16 x0 x1 0 0 s2)) fun v41 s40 => ((pV s40 x0 5 7 (.int 0)).bind fun s42 => (some ((), s42)))) else (if v3 = 16 then (bnd (cU (c 14 x0 25 x1 0 s2)) fun v44 s43 => ((pV s43 x0 5 7 (.int 0)).bind fun s45 => (some ((), s45)))) else (if v3 = 40 then (bnd (cU (c 15 x0 x1 0 0 s2)) fun v47 s46 => ((pV s46 x0 5 7 (.int 0)).bind fun s48 => (some ((), s48)))) else (if v3 = 91 then ((gR s2 x0 5 3).bind fun v49 => (bnd ((c 17 x0 91 93 x1 s2)) fun v51 s50 => (bnd (x_Draft_add d v49 22 v51 s50) fun v53 s52 => ((pV s52 x0 5 7 (.int 0)).bind fun s54 => (some ((), s54)))))) else (if v3 = 123 then ((gR s2 x0 5 3).bind fun v55 => (bnd ((c 18 x0 x1 0 0 s2)) fun v57 s56 => (bnd (x_Draft_add d v55 21 v57 s56) fun v59 s58 => ((pV s58 x0 5 7 (.int 0)).bind fun s60 => (some ((), s60)))))) else (bnd (x_Pars_fail d x0 s2) fun v62 s61 => ((pV s61 x0 5 7 (.int 0)).bind fun s63 => (some ((), s63))))))))))))))))

set_option maxRecDepth 100000 in
set_option maxHeartbeats 4000000 in
theorem dx_Pars_atom_b (O : am_ok K X) (T : am_T K) {c : CLT} {d : Nat} (H : HC_P K X c d) {x0 : Nat} {x1 : Int32} {s : HS} : xM cvU K X m_Pars_atom (d + 1) [.ref x0, .int x1] s (x_Pars_atom_b c d x0 x1 s) := by
  unfold x_Pars_atom_b
  refine xM_enter (by decide +kernel) (Nat.le_of_ble_eq_true rfl) ?_
  refine xW_gd (fun _ => ?_)
  refine xW_pure (fun _ _ _ _ _ => am_iconst (v := 0) d_Pars_atom_0 (by decide)) ?_
  refine xW_pure (fun _ _ _ _ _ => am_istore_n d_Pars_atom_1 rfl (Nat.le_of_ble_eq_true rfl)) ?_
  refine xW_pure (fun _ _ _ _ _ => am_aload_n d_Pars_atom_2 rfl rfl) ?_
  refine xW_gR O f_Pars_12 d_Pars_atom_3 (fun v1 _ => ?_)
  refine xW_callV O (dx_Lexer_kind O T) (fun _ e => ob_Lexer_kind e) rfl rfl rfl l_Pars_59 ⟨w_673, w_674⟩ rfl (Nat.le_of_ble_eq_true rfl) d_Pars_atom_6 (fun v3 s2 _ => ?_)
  refine xW_by (fun c9_0 => ?_) (fun c9_0 => ?_)
  · refine xW_pure (fun _ _ _ _ _ => am_lookup (off := 172) (tgt := 181) d_Pars_atom_9 (by decide) (by rw [c9_0]; decide) (by decide)) ?_
    refine xW_pure (fun _ _ _ _ _ => am_aload_n d_Pars_atom_181 rfl rfl) ?_
    refine xW_pure (fun _ _ _ _ _ => am_iload_n d_Pars_atom_182 rfl rfl) ?_
    refine xW_callV O (H.2.2.2.2.2.2.2.2.2.2.2.2.2.1 _ _ _ _ _).1 (H.2.2.2.2.2.2.2.2.2.2.2.2.2.1 _ _ _ _ _).2 rfl rfl rfl l_Pars_225 ⟨w_802, w_23⟩ rfl (Nat.le_of_ble_eq_true rfl) d_Pars_atom_183 (fun v5 s4 _ => ?_)
    refine xW_pure (fun _ _ _ _ _ => am_istore_n d_Pars_atom_186 rfl (Nat.le_of_ble_eq_true rfl)) ?_
    refine xW_pure (fun _ _ _ _ _ => am_goto (tgt := 268) d_Pars_atom_187 (by decide)) ?_
    refine xW_pure (fun _ _ _ _ _ => am_aload_n d_Pars_atom_268 rfl rfl) ?_
    refine xW_pure (fun _ _ _ _ _ => am_iload_n d_Pars_atom_269 rfl rfl) ?_
    refine xW_putZ O f_Pars_172 d_Pars_atom_270 (fun q hq => by cases hq; exact ⟨rfl, rfl⟩) (fun s6 _ => ?_)
    exact xW_ret (fun _ _ _ _ _ => am_vret rfl d_Pars_atom_273)
  · refine xW_by (fun c9_1 => ?_) (fun c9_1 => ?_)
    · refine xW_pure (fun _ _ _ _ _ => am_lookup (off := 91) (tgt := 100) d_Pars_atom_9 (by decide) (by rw [c9_1]; decide) (by decide)) ?_
      refine xW_pure (fun _ _ _ _ _ => am_aload_n d_Pars_atom_100 rfl rfl) ?_
      refine xW_gR O f_Pars_28 d_Pars_atom_101 (fun v7 _ => ?_)
      refine xW_pure (fun _ _ _ _ _ => am_bipush (v := 11) d_Pars_atom_104 (by decide)) ?_
      refine xW_pure (fun _ _ _ _ _ => am_aload_n d_Pars_atom_106 rfl rfl) ?_
      refine xW_gR O f_Pars_12 d_Pars_atom_107 (fun v8 _ => ?_)
      refine xW_callV O (dx_Lexer_number O T) (fun _ e => ob_Lexer_number e) rfl rfl rfl l_Pars_219 ⟨w_789, w_790⟩ rfl (Nat.le_of_ble_eq_true rfl) d_Pars_atom_110 (fun v10 s9 _ => ?_)
      refine xW_callV O (dx_Draft_add O T) (fun _ e => ob_Draft_add e) rfl rfl rfl l_Pars_141 ⟨w_753, w_754⟩ rfl (Nat.le_of_ble_eq_true rfl) d_Pars_atom_113 (fun v12 s11 _ => ?_)
      refine xW_pure (fun _ _ _ _ _ => am_aload_n d_Pars_atom_116 rfl rfl) ?_
      refine xW_pure (fun _ _ _ _ _ => am_iconst (v := 3) d_Pars_atom_117 (by decide)) ?_
      refine xW_callV O (dx_Pars_take O T) (fun _ e => ob_Pars_take e) rfl rfl rfl l_Pars_106 ⟨w_682, w_9⟩ rfl (Nat.le_of_ble_eq_true rfl) d_Pars_atom_118 (fun v14 s13 _ => ?_)
      refine xW_pure (fun _ _ _ _ _ => am_goto (tgt := 268) d_Pars_atom_121 (by decide)) ?_
      refine xW_pure (fun _ _ _ _ _ => am_aload_n d_Pars_atom_268 rfl rfl) ?_
      refine xW_pure (fun _ _ _ _ _ => am_iload_n d_Pars_atom_269 rfl rfl) ?_
      refine xW_put O f_Pars_172 d_Pars_atom_270 (fun q hq => by cases hq; exact ⟨rfl, rfl, rfl⟩) (fun s15 _ => ?_)
      exact xW_ret (fun _ _ _ _ _ => am_vret rfl d_Pars_atom_273)
    · refine xW_by (fun c9_2 => ?_) (fun c9_2 => ?_)
      · refine xW_pure (fun _ _ _ _ _ => am_lookup (off := 115) (tgt := 124) d_Pars_atom_9 (by decide) (by rw [c9_2]; decide) (by decide)) ?_
        refine xW_pure (fun _ _ _ _ _ => am_aload_n d_Pars_atom_124 rfl rfl) ?_
        refine xW_gR O f_Pars_28 d_Pars_atom_125 (fun v16 _ => ?_)
        refine xW_pure (fun _ _ _ _ _ => am_bipush (v := 12) d_Pars_atom_128 (by decide)) ?_
        refine xW_pure (fun _ _ _ _ _ => am_aload_n d_Pars_atom_130 rfl rfl) ?_
        refine xW_gR O f_Pars_28 d_Pars_atom_131 (fun v17 _ => ?_)
        refine xW_pure (fun _ _ _ _ _ => am_aload_n d_Pars_atom_134 rfl rfl) ?_
        refine xW_gR O f_Pars_12 d_Pars_atom_135 (fun v18 _ => ?_)
        refine xW_callV O (dx_Lexer_head O T) (fun _ e => ob_Lexer_head e) rfl rfl rfl l_Pars_102 ⟨w_702, w_703⟩ rfl (Nat.le_of_ble_eq_true rfl) d_Pars_atom_138 (fun v20 s19 _ => ?_)
        refine xW_pure (fun _ _ _ _ _ => am_aload_n d_Pars_atom_141 rfl rfl) ?_
        refine xW_gR O f_Pars_12 d_Pars_atom_142 (fun v21 _ => ?_)
        refine xW_callV O (dx_Lexer_tail O T) (fun _ e => ob_Lexer_tail e) rfl rfl rfl l_Pars_222 ⟨w_793, w_794⟩ rfl (Nat.le_of_ble_eq_true rfl) d_Pars_atom_145 (fun v23 s22 _ => ?_)
        refine xW_callV O (dx_Draft_keep O T) (fun _ e => ob_Draft_keep e) rfl rfl rfl l_Pars_215 ⟨w_797, w_798⟩ rfl (Nat.le_of_ble_eq_true rfl) d_Pars_atom_148 (fun v25 s24 _ => ?_)
        refine xW_callV O (dx_Draft_add O T) (fun _ e => ob_Draft_add e) rfl rfl rfl l_Pars_141 ⟨w_753, w_754⟩ rfl (Nat.le_of_ble_eq_true rfl) d_Pars_atom_151 (fun v27 s26 _ => ?_)
        refine xW_pure (fun _ _ _ _ _ => am_aload_n d_Pars_atom_154 rfl rfl) ?_
        refine xW_pure (fun _ _ _ _ _ => am_iconst (v := 4) d_Pars_atom_155 (by decide)) ?_
        refine xW_callV O (dx_Pars_take O T) (fun _ e => ob_Pars_take e) rfl rfl rfl l_Pars_106 ⟨w_682, w_9⟩ rfl (Nat.le_of_ble_eq_true rfl) d_Pars_atom_156 (fun v29 s28 _ => ?_)
        refine xW_pure (fun _ _ _ _ _ => am_goto (tgt := 268) d_Pars_atom_159 (by decide)) ?_
        refine xW_pure (fun _ _ _ _ _ => am_aload_n d_Pars_atom_268 rfl rfl) ?_
        refine xW_pure (fun _ _ _ _ _ => am_iload_n d_Pars_atom_269 rfl rfl) ?_
        refine xW_put O f_Pars_172 d_Pars_atom_270 (fun q hq => by cases hq; exact ⟨rfl, rfl, rfl⟩) (fun s30 _ => ?_)
        exact xW_ret (fun _ _ _ _ _ => am_vret rfl d_Pars_atom_273)
      · refine xW_by (fun c9_3 => ?_) (fun c9_3 => ?_)
        · refine xW_pure (fun _ _ _ _ _ => am_lookup (off := 153) (tgt := 162) d_Pars_atom_9 (by decide) (by rw [c9_3]; decide) (by decide)) ?_
          refine xW_pure (fun _ _ _ _ _ => am_aload_n d_Pars_atom_162 rfl rfl) ?_
          refine xW_gR O f_Pars_28 d_Pars_atom_163 (fun v31 _ => ?_)
          refine xW_pure (fun _ _ _ _ _ => am_bipush (v := 10) d_Pars_atom_166 (by decide)) ?_
          refine xW_pure (fun _ _ _ _ _ => am_iconst (v := 0) d_Pars_atom_168 (by decide)) ?_
          refine xW_callV O (dx_Draft_add O T) (fun _ e => ob_Draft_add e) rfl rfl rfl l_Pars_141 ⟨w_753, w_754⟩ rfl (Nat.le_of_ble_eq_true rfl) d_Pars_atom_169 (fun v33 s32 _ => ?_)
          refine xW_pure (fun _ _ _ _ _ => am_aload_n d_Pars_atom_172 rfl rfl) ?_
          refine xW_pure (fun _ _ _ _ _ => am_bipush (v := 13) d_Pars_atom_173 (by decide)) ?_
          refine xW_callV O (dx_Pars_take O T) (fun _ e => ob_Pars_take e) rfl rfl rfl l_Pars_106 ⟨w_682, w_9⟩ rfl (Nat.le_of_ble_eq_true rfl) d_Pars_atom_175 (fun v35 s34 _ => ?_)
          refine xW_pure (fun _ _ _ _ _ => am_goto (tgt := 268) d_Pars_atom_178 (by decide)) ?_
          refine xW_pure (fun _ _ _ _ _ => am_aload_n d_Pars_atom_268 rfl rfl) ?_
          refine xW_pure (fun _ _ _ _ _ => am_iload_n d_Pars_atom_269 rfl rfl) ?_
          refine xW_put O f_Pars_172 d_Pars_atom_270 (fun q hq => by cases hq; exact ⟨rfl, rfl, rfl⟩) (fun s36 _ => ?_)
          exact xW_ret (fun _ _ _ _ _ => am_vret rfl d_Pars_atom_273)
        · refine xW_by (fun c9_4 => ?_) (fun c9_4 => ?_)
          · refine xW_pure (fun _ _ _ _ _ => am_lookup (off := 181) (tgt := 190) d_Pars_atom_9 (by decide) (by rw [c9_4]; decide) (by decide)) ?_
            refine xW_pure (fun _ _ _ _ _ => am_aload_n d_Pars_atom_190 rfl rfl) ?_
            refine xW_pure (fun _ _ _ _ _ => am_bipush (v := 23) d_Pars_atom_191 (by decide)) ?_
            refine xW_pure (fun _ _ _ _ _ => am_iload_n d_Pars_atom_193 rfl rfl) ?_
            refine xW_callV O (H.2.2.2.2.2.2.2.2.2.2.2.2.2.2.1 _ _ _ _ _).1 (H.2.2.2.2.2.2.2.2.2.2.2.2.2.2.1 _ _ _ _ _).2 rfl rfl rfl l_Pars_229 ⟨w_810, w_25⟩ rfl (Nat.le_of_ble_eq_true rfl) d_Pars_atom_194 (fun v38 s37 _ => ?_)
            refine xW_pure (fun _ _ _ _ _ => am_goto (tgt := 268) d_Pars_atom_197 (by decide)) ?_
            refine xW_pure (fun _ _ _ _ _ => am_aload_n d_Pars_atom_268 rfl rfl) ?_
            refine xW_pure (fun _ _ _ _ _ => am_iload_n d_Pars_atom_269 rfl rfl) ?_
            refine xW_put O f_Pars_172 d_Pars_atom_270 (fun q hq => by cases hq; exact ⟨rfl, rfl, rfl⟩) (fun s39 _ => ?_)
            exact xW_ret (fun _ _ _ _ _ => am_vret rfl d_Pars_atom_273)
          · refine xW_by (fun c9_5 => ?_) (fun c9_5 => ?_)
            · refine xW_pure (fun _ _ _ _ _ => am_lookup (off := 201) (tgt := 210) d_Pars_atom_9 (by decide) (by rw [c9_5]; decide) (by decide)) ?_
              refine xW_pure (fun _ _ _ _ _ => am_aload_n d_Pars_atom_210 rfl rfl) ?_
              refine xW_pure (fun _ _ _ _ _ => am_iload_n d_Pars_atom_211 rfl rfl) ?_
              refine xW_callV O (H.2.2.2.2.2.2.2.2.2.2.2.2.2.2.2.2.1 _ _ _ _ _).1 (H.2.2.2.2.2.2.2.2.2.2.2.2.2.2.2.2.1 _ _ _ _ _).2 rfl rfl rfl l_Pars_232 ⟨w_818, w_27⟩ rfl (Nat.le_of_ble_eq_true rfl) d_Pars_atom_212 (fun v41 s40 _ => ?_)
              refine xW_pure (fun _ _ _ _ _ => am_goto (tgt := 268) d_Pars_atom_215 (by decide)) ?_
              refine xW_pure (fun _ _ _ _ _ => am_aload_n d_Pars_atom_268 rfl rfl) ?_
              refine xW_pure (fun _ _ _ _ _ => am_iload_n d_Pars_atom_269 rfl rfl) ?_
              refine xW_put O f_Pars_172 d_Pars_atom_270 (fun q hq => by cases hq; exact ⟨rfl, rfl, rfl⟩) (fun s42 _ => ?_)
              exact xW_ret (fun _ _ _ _ _ => am_vret rfl d_Pars_atom_273)
            · refine xW_by (fun c9_6 => ?_) (fun c9_6 => ?_)
              · refine xW_pure (fun _ _ _ _ _ => am_lookup (off := 191) (tgt := 200) d_Pars_atom_9 (by decide) (by rw [c9_6]; decide) (by decide)) ?_
                refine xW_pure (fun _ _ _ _ _ => am_aload_n d_Pars_atom_200 rfl rfl) ?_
                refine xW_pure (fun _ _ _ _ _ => am_bipush (v := 25) d_Pars_atom_201 (by decide)) ?_
                refine xW_pure (fun _ _ _ _ _ => am_iload_n d_Pars_atom_203 rfl rfl) ?_
                refine xW_callV O (H.2.2.2.2.2.2.2.2.2.2.2.2.2.2.1 _ _ _ _ _).1 (H.2.2.2.2.2.2.2.2.2.2.2.2.2.2.1 _ _ _ _ _).2 rfl rfl rfl l_Pars_229 ⟨w_810, w_25⟩ rfl (Nat.le_of_ble_eq_true rfl) d_Pars_atom_204 (fun v44 s43 _ => ?_)
                refine xW_pure (fun _ _ _ _ _ => am_goto (tgt := 268) d_Pars_atom_207 (by decide)) ?_
                refine xW_pure (fun _ _ _ _ _ => am_aload_n d_Pars_atom_268 rfl rfl) ?_
                refine xW_pure (fun _ _ _ _ _ => am_iload_n d_Pars_atom_269 rfl rfl) ?_
                refine xW_put O f_Pars_172 d_Pars_atom_270 (fun q hq => by cases hq; exact ⟨rfl, rfl, rfl⟩) (fun s45 _ => ?_)
                exact xW_ret (fun _ _ _ _ _ => am_vret rfl d_Pars_atom_273)
              · refine xW_by (fun c9_7 => ?_) (fun c9_7 => ?_)
                · refine xW_pure (fun _ _ _ _ _ => am_lookup (off := 209) (tgt := 218) d_Pars_atom_9 (by decide) (by rw [c9_7]; decide) (by decide)) ?_
                  refine xW_pure (fun _ _ _ _ _ => am_aload_n d_Pars_atom_218 rfl rfl) ?_
                  refine xW_pure (fun _ _ _ _ _ => am_iload_n d_Pars_atom_219 rfl rfl) ?_
                  refine xW_callV O (H.2.2.2.2.2.2.2.2.2.2.2.2.2.2.2.1 _ _ _ _ _).1 (H.2.2.2.2.2.2.2.2.2.2.2.2.2.2.2.1 _ _ _ _ _).2 rfl rfl rfl l_Pars_235 ⟨w_814, w_26⟩ rfl (Nat.le_of_ble_eq_true rfl) d_Pars_atom_220 (fun v47 s46 _ => ?_)
                  refine xW_pure (fun _ _ _ _ _ => am_goto (tgt := 268) d_Pars_atom_223 (by decide)) ?_
                  refine xW_pure (fun _ _ _ _ _ => am_aload_n d_Pars_atom_268 rfl rfl) ?_
                  refine xW_pure (fun _ _ _ _ _ => am_iload_n d_Pars_atom_269 rfl rfl) ?_
                  refine xW_put O f_Pars_172 d_Pars_atom_270 (fun q hq => by cases hq; exact ⟨rfl, rfl, rfl⟩) (fun s48 _ => ?_)
                  exact xW_ret (fun _ _ _ _ _ => am_vret rfl d_Pars_atom_273)
                · refine xW_by (fun c9_8 => ?_) (fun c9_8 => ?_)
                  · refine xW_pure (fun _ _ _ _ _ => am_lookup (off := 234) (tgt := 243) d_Pars_atom_9 (by decide) (by rw [c9_8]; decide) (by decide)) ?_
                    refine xW_pure (fun _ _ _ _ _ => am_aload_n d_Pars_atom_243 rfl rfl) ?_
                    refine xW_gR O f_Pars_28 d_Pars_atom_244 (fun v49 _ => ?_)
                    refine xW_pure (fun _ _ _ _ _ => am_bipush (v := 22) d_Pars_atom_247 (by decide)) ?_
                    refine xW_pure (fun _ _ _ _ _ => am_aload_n d_Pars_atom_249 rfl rfl) ?_
                    refine xW_pure (fun _ _ _ _ _ => am_bipush (v := 91) d_Pars_atom_250 (by decide)) ?_
                    refine xW_pure (fun _ _ _ _ _ => am_bipush (v := 93) d_Pars_atom_252 (by decide)) ?_
                    refine xW_pure (fun _ _ _ _ _ => am_iload_n d_Pars_atom_254 rfl rfl) ?_
                    refine xW_callV O (H.2.2.2.2.2.2.2.2.2.2.2.2.2.2.2.2.2.1 _ _ _ _ _).1 (H.2.2.2.2.2.2.2.2.2.2.2.2.2.2.2.2.2.1 _ _ _ _ _).2 rfl rfl rfl l_Pars_241 ⟨w_806, w_24⟩ rfl (Nat.le_of_ble_eq_true rfl) d_Pars_atom_255 (fun v51 s50 _ => ?_)
                    refine xW_callV O (dx_Draft_add O T) (fun _ e => ob_Draft_add e) rfl rfl rfl l_Pars_141 ⟨w_753, w_754⟩ rfl (Nat.le_of_ble_eq_true rfl) d_Pars_atom_258 (fun v53 s52 _ => ?_)
                    refine xW_pure (fun _ _ _ _ _ => am_goto (tgt := 268) d_Pars_atom_261 (by decide)) ?_
                    refine xW_pure (fun _ _ _ _ _ => am_aload_n d_Pars_atom_268 rfl rfl) ?_
                    refine xW_pure (fun _ _ _ _ _ => am_iload_n d_Pars_atom_269 rfl rfl) ?_
                    refine xW_put O f_Pars_172 d_Pars_atom_270 (fun q hq => by cases hq; exact ⟨rfl, rfl, rfl⟩) (fun s54 _ => ?_)
                    exact xW_ret (fun _ _ _ _ _ => am_vret rfl d_Pars_atom_273)
                  · refine xW_by (fun c9_9 => ?_) (fun c9_9 => ?_)
                    · refine xW_pure (fun _ _ _ _ _ => am_lookup (off := 217) (tgt := 226) d_Pars_atom_9 (by decide) (by rw [c9_9]; decide) (by decide)) ?_
                      refine xW_pure (fun _ _ _ _ _ => am_aload_n d_Pars_atom_226 rfl rfl) ?_
                      refine xW_gR O f_Pars_28 d_Pars_atom_227 (fun v55 _ => ?_)
                      refine xW_pure (fun _ _ _ _ _ => am_bipush (v := 21) d_Pars_atom_230 (by decide)) ?_
                      refine xW_pure (fun _ _ _ _ _ => am_aload_n d_Pars_atom_232 rfl rfl) ?_
                      refine xW_pure (fun _ _ _ _ _ => am_iload_n d_Pars_atom_233 rfl rfl) ?_
                      refine xW_callV O (H.2.2.2.2.2.2.2.2.2.2.2.2.2.2.2.2.2.2.1 _ _ _ _ _).1 (H.2.2.2.2.2.2.2.2.2.2.2.2.2.2.2.2.2.2.1 _ _ _ _ _).2 rfl rfl rfl l_Pars_238 ⟨w_822, w_28⟩ rfl (Nat.le_of_ble_eq_true rfl) d_Pars_atom_234 (fun v57 s56 _ => ?_)
                      refine xW_callV O (dx_Draft_add O T) (fun _ e => ob_Draft_add e) rfl rfl rfl l_Pars_141 ⟨w_753, w_754⟩ rfl (Nat.le_of_ble_eq_true rfl) d_Pars_atom_237 (fun v59 s58 _ => ?_)
                      refine xW_pure (fun _ _ _ _ _ => am_goto (tgt := 268) d_Pars_atom_240 (by decide)) ?_
                      refine xW_pure (fun _ _ _ _ _ => am_aload_n d_Pars_atom_268 rfl rfl) ?_
                      refine xW_pure (fun _ _ _ _ _ => am_iload_n d_Pars_atom_269 rfl rfl) ?_
                      refine xW_put O f_Pars_172 d_Pars_atom_270 (fun q hq => by cases hq; exact ⟨rfl, rfl, rfl⟩) (fun s60 _ => ?_)
                      exact xW_ret (fun _ _ _ _ _ => am_vret rfl d_Pars_atom_273)
                    · refine xW_pure (fun _ _ _ _ _ => am_lookup (off := 255) (tgt := 264) d_Pars_atom_9 (by decide) (show Op.lookupswitch.offset [(2, 172), (3, 91), (4, 115), (13, 153), (14, 181), (15, 201), (16, 191), (40, 209), (91, 234), (123, 217)] (255) (Int32.toInt v3) = 255 by rw [Op.lookupswitch.offset_cons, if_neg (lk_ne c9_0 (by decide)), Op.lookupswitch.offset_cons, if_neg (lk_ne c9_1 (by decide)), Op.lookupswitch.offset_cons, if_neg (lk_ne c9_2 (by decide)), Op.lookupswitch.offset_cons, if_neg (lk_ne c9_3 (by decide)), Op.lookupswitch.offset_cons, if_neg (lk_ne c9_4 (by decide)), Op.lookupswitch.offset_cons, if_neg (lk_ne c9_5 (by decide)), Op.lookupswitch.offset_cons, if_neg (lk_ne c9_6 (by decide)), Op.lookupswitch.offset_cons, if_neg (lk_ne c9_7 (by decide)), Op.lookupswitch.offset_cons, if_neg (lk_ne c9_8 (by decide)), Op.lookupswitch.offset_cons, if_neg (lk_ne c9_9 (by decide)), Op.lookupswitch.offset_nil]) (by decide)) ?_
                      refine xW_pure (fun _ _ _ _ _ => am_aload_n d_Pars_atom_264 rfl rfl) ?_
                      refine xW_callV O (dx_Pars_fail O T) (fun _ e => ob_Pars_fail e) rfl rfl rfl l_Pars_99 ⟨w_687, w_10⟩ rfl (Nat.le_of_ble_eq_true rfl) d_Pars_atom_265 (fun v62 s61 _ => ?_)
                      refine xW_pure (fun _ _ _ _ _ => am_aload_n d_Pars_atom_268 rfl rfl) ?_
                      refine xW_pure (fun _ _ _ _ _ => am_iload_n d_Pars_atom_269 rfl rfl) ?_
                      refine xW_put O f_Pars_172 d_Pars_atom_270 (fun q hq => by cases hq; exact ⟨rfl, rfl, rfl⟩) (fun s63 _ => ?_)
                      exact xW_ret (fun _ _ _ _ _ => am_vret rfl d_Pars_atom_273)

set_option maxRecDepth 100000 in
def x_Pars_variableOrCall_b (c : CLT) (d : Nat) (x0 : Nat) (x1 : Int32) (s : HS) : Option (Int32 × HS) := gd s x0 5 (bnd (x_Pars_takeName d x0 s) fun v2 s1 => ((gR s1 x0 5 0).bind fun v3 => (bnd (x_Lexer_kind d v3 s1) fun v5 s4 => (if v5 = 40 then (bnd ((c 17 x0 40 41 x1 s4)) fun v7 s6 => ((gR s6 x0 5 3).bind fun v8 => ((gR s6 x0 5 3).bind fun v9 => (bnd (x_Draft_keep d v9 v2 (v7 : Int32).toInt64 s6) fun v11 s10 => (bnd (x_Draft_add d v8 5 v11 s10) fun v13 s12 => (some (0, s12))))))) else ((gR s4 x0 5 3).bind fun v14 => (bnd (x_Draft_localOf d v14 v2 s4) fun v16 s15 => (if v16 < 0 then ((gR s15 x0 5 3).bind fun v17 => ((gR s15 x0 5 3).bind fun v18 => (bnd (x_Draft_keep d v18 v2 0 s15) fun v20 s19 => (bnd (x_Draft_add d v17 15 v20 s19) fun v22 s21 => (some (1, s21)))))) else ((gR s15 x0 5 3).bind fun v23 => (bnd (x_Draft_add d v23 13 v16 s15) fun v25 s24 => (some (1, s24)))))))))))

set_option maxRecDepth 100000 in
set_option maxHeartbeats 4000000 in
theorem dx_Pars_variableOrCall_b (O : am_ok K X) (T : am_T K) {c : CLT} {d : Nat} (H : HC_P K X c d) {x0 : Nat} {x1 : Int32} {s : HS} : xM cvI K X m_Pars_variableOrCall (d + 1) [.ref x0, .int x1] s (x_Pars_variableOrCall_b c d x0 x1 s) := by
  unfold x_Pars_variableOrCall_b
  refine xM_enter (by decide +kernel) (Nat.le_of_ble_eq_true rfl) ?_
  refine xW_gd (fun _ => ?_)
  refine xW_pure (fun _ _ _ _ _ => am_aload_n d_Pars_variableOrCall_0 rfl rfl) ?_
  refine xW_callV O (dx_Pars_takeName O T) (fun _ e => ob_Pars_takeName e) rfl rfl rfl l_Pars_109 ⟨w_699, w_11⟩ rfl (Nat.le_of_ble_eq_true rfl) d_Pars_variableOrCall_1 (fun v2 s1 _ => ?_)
  refine xW_pure (fun _ _ _ _ _ => am_lstore_n d_Pars_variableOrCall_4 rfl (Nat.le_of_ble_eq_true rfl)) ?_
  refine xW_pure (fun _ _ _ _ _ => am_aload_n d_Pars_variableOrCall_5 rfl rfl) ?_
  refine xW_gR O f_Pars_12 d_Pars_variableOrCall_6 (fun v3 _ => ?_)
  refine xW_callV O (dx_Lexer_kind O T) (fun _ e => ob_Lexer_kind e) rfl rfl rfl l_Pars_59 ⟨w_673, w_674⟩ rfl (Nat.le_of_ble_eq_true rfl) d_Pars_variableOrCall_9 (fun v5 s4 _ => ?_)
  refine xW_pure (fun _ _ _ _ _ => am_bipush (v := 40) d_Pars_variableOrCall_12 (by decide)) ?_
  refine xW_ite (fun _ _ _ _ _ k1 k2 => am_icmp_ne (tgt := 49) d_Pars_variableOrCall_14 (by decide) k2 k1) (fun _ => ?_) (fun _ => ?_)
  · refine xW_pure (fun _ _ _ _ _ => am_aload_n d_Pars_variableOrCall_17 rfl rfl) ?_
    refine xW_pure (fun _ _ _ _ _ => am_bipush (v := 40) d_Pars_variableOrCall_18 (by decide)) ?_
    refine xW_pure (fun _ _ _ _ _ => am_bipush (v := 41) d_Pars_variableOrCall_20 (by decide)) ?_
    refine xW_pure (fun _ _ _ _ _ => am_iload_n d_Pars_variableOrCall_22 rfl rfl) ?_
    refine xW_callV O (H.2.2.2.2.2.2.2.2.2.2.2.2.2.2.2.2.2.1 _ _ _ _ _).1 (H.2.2.2.2.2.2.2.2.2.2.2.2.2.2.2.2.2.1 _ _ _ _ _).2 rfl rfl rfl l_Pars_241 ⟨w_806, w_24⟩ rfl (Nat.le_of_ble_eq_true rfl) d_Pars_variableOrCall_23 (fun v7 s6 _ => ?_)
    refine xW_pure (fun _ _ _ _ _ => am_istore d_Pars_variableOrCall_26 (Nat.le_of_ble_eq_true rfl)) ?_
    refine xW_pure (fun _ _ _ _ _ => am_aload_n d_Pars_variableOrCall_28 rfl rfl) ?_
    refine xW_gR O f_Pars_28 d_Pars_variableOrCall_29 (fun v8 _ => ?_)
    refine xW_pure (fun _ _ _ _ _ => am_iconst (v := 5) d_Pars_variableOrCall_32 (by decide)) ?_
    refine xW_pure (fun _ _ _ _ _ => am_aload_n d_Pars_variableOrCall_33 rfl rfl) ?_
    refine xW_gR O f_Pars_28 d_Pars_variableOrCall_34 (fun v9 _ => ?_)
    refine xW_pure (fun _ _ _ _ _ => am_lload_n d_Pars_variableOrCall_37 rfl rfl) ?_
    refine xW_pure (fun _ _ _ _ _ => am_iload d_Pars_variableOrCall_38 rfl) ?_
    refine xW_pure (fun _ _ _ _ _ => am_i2l d_Pars_variableOrCall_40 rfl) ?_
    refine xW_callV O (dx_Draft_keep O T) (fun _ e => ob_Draft_keep e) rfl rfl rfl l_Pars_215 ⟨w_797, w_798⟩ rfl (Nat.le_of_ble_eq_true rfl) d_Pars_variableOrCall_41 (fun v11 s10 _ => ?_)
    refine xW_callV O (dx_Draft_add O T) (fun _ e => ob_Draft_add e) rfl rfl rfl l_Pars_141 ⟨w_753, w_754⟩ rfl (Nat.le_of_ble_eq_true rfl) d_Pars_variableOrCall_44 (fun v13 s12 _ => ?_)
    refine xW_pure (fun _ _ _ _ _ => am_iconst (v := 0) d_Pars_variableOrCall_47 (by decide)) ?_
    exact xW_ret (fun _ _ _ _ _ => am_zret (ty := .boolean) rfl rfl d_Pars_variableOrCall_48)
  · refine xW_pure (fun _ _ _ _ _ => am_aload_n d_Pars_variableOrCall_49 rfl rfl) ?_
    refine xW_gR O f_Pars_28 d_Pars_variableOrCall_50 (fun v14 _ => ?_)
    refine xW_pure (fun _ _ _ _ _ => am_lload_n d_Pars_variableOrCall_53 rfl rfl) ?_
    refine xW_callV O (dx_Draft_localOf O T) (fun _ e => ob_Draft_localOf e) rfl rfl rfl l_Pars_128 ⟨w_714, w_715⟩ rfl (Nat.le_of_ble_eq_true rfl) d_Pars_variableOrCall_54 (fun v16 s15 _ => ?_)
    refine xW_pure (fun _ _ _ _ _ => am_istore d_Pars_variableOrCall_57 (Nat.le_of_ble_eq_true rfl)) ?_
    refine xW_pure (fun _ _ _ _ _ => am_iload d_Pars_variableOrCall_59 rfl) ?_
    refine xW_ite (fun _ _ _ _ _ => am_if_lt (tgt := 78) d_Pars_variableOrCall_61 (by decide)) (fun _ => ?_) (fun _ => ?_)
    · refine xW_pure (fun _ _ _ _ _ => am_aload_n d_Pars_variableOrCall_78 rfl rfl) ?_
      refine xW_gR O f_Pars_28 d_Pars_variableOrCall_79 (fun v17 _ => ?_)
      refine xW_pure (fun _ _ _ _ _ => am_bipush (v := 15) d_Pars_variableOrCall_82 (by decide)) ?_
      refine xW_pure (fun _ _ _ _ _ => am_aload_n d_Pars_variableOrCall_84 rfl rfl) ?_
      refine xW_gR O f_Pars_28 d_Pars_variableOrCall_85 (fun v18 _ => ?_)
      refine xW_pure (fun _ _ _ _ _ => am_lload_n d_Pars_variableOrCall_88 rfl rfl) ?_
      refine xW_pure (fun _ _ _ _ _ => am_lconst (v := 0) d_Pars_variableOrCall_89 (by decide)) ?_
      refine xW_callV O (dx_Draft_keep O T) (fun _ e => ob_Draft_keep e) rfl rfl rfl l_Pars_215 ⟨w_797, w_798⟩ rfl (Nat.le_of_ble_eq_true rfl) d_Pars_variableOrCall_90 (fun v20 s19 _ => ?_)
      refine xW_callV O (dx_Draft_add O T) (fun _ e => ob_Draft_add e) rfl rfl rfl l_Pars_141 ⟨w_753, w_754⟩ rfl (Nat.le_of_ble_eq_true rfl) d_Pars_variableOrCall_93 (fun v22 s21 _ => ?_)
      refine xW_pure (fun _ _ _ _ _ => am_iconst (v := 1) d_Pars_variableOrCall_96 (by decide)) ?_
      exact xW_ret (fun _ _ _ _ _ => am_zret (ty := .boolean) rfl rfl d_Pars_variableOrCall_97)
    · refine xW_pure (fun _ _ _ _ _ => am_aload_n d_Pars_variableOrCall_64 rfl rfl) ?_
      refine xW_gR O f_Pars_28 d_Pars_variableOrCall_65 (fun v23 _ => ?_)
      refine xW_pure (fun _ _ _ _ _ => am_bipush (v := 13) d_Pars_variableOrCall_68 (by decide)) ?_
      refine xW_pure (fun _ _ _ _ _ => am_iload d_Pars_variableOrCall_70 rfl) ?_
      refine xW_callV O (dx_Draft_add O T) (fun _ e => ob_Draft_add e) rfl rfl rfl l_Pars_141 ⟨w_753, w_754⟩ rfl (Nat.le_of_ble_eq_true rfl) d_Pars_variableOrCall_72 (fun v25 s24 _ => ?_)
      refine xW_pure (fun _ _ _ _ _ => am_goto (tgt := 96) d_Pars_variableOrCall_75 (by decide)) ?_
      refine xW_pure (fun _ _ _ _ _ => am_iconst (v := 1) d_Pars_variableOrCall_96 (by decide)) ?_
      exact xW_ret (fun _ _ _ _ _ => am_zret (ty := .boolean) rfl rfl d_Pars_variableOrCall_97)

set_option maxRecDepth 100000 in
def x_Pars_withOne_b (c : CLT) (d : Nat) (x0 : Nat) (x1 : Int32) (x2 : Int32) (s : HS) : Option (Unit × HS) := gd s x0 5 ((gR s x0 5 0).bind fun v1 => (bnd (x_Lexer_kind d v1 s) fun v3 s2 => (bnd (x_Pars_take d x0 v3 s2) fun v5 s4 => (bnd (cU (c 15 x0 x2 0 0 s4)) fun v7 s6 => ((gR s6 x0 5 3).bind fun v8 => (bnd (x_Draft_add d v8 x1 0 s6) fun v10 s9 => (some ((), s9))))))))

set_option maxRecDepth 100000 in
set_option maxHeartbeats 4000000 in
theorem dx_Pars_withOne_b (O : am_ok K X) (T : am_T K) {c : CLT} {d : Nat} (H : HC_P K X c d) {x0 : Nat} {x1 : Int32} {x2 : Int32} {s : HS} : xM cvU K X m_Pars_withOne (d + 1) [.ref x0, .int x1, .int x2] s (x_Pars_withOne_b c d x0 x1 x2 s) := by
  unfold x_Pars_withOne_b
  refine xM_enter (by decide +kernel) (Nat.le_of_ble_eq_true rfl) ?_
  refine xW_gd (fun _ => ?_)
  refine xW_pure (fun _ _ _ _ _ => am_aload_n d_Pars_withOne_0 rfl rfl) ?_
  refine xW_pure (fun _ _ _ _ _ => am_aload_n d_Pars_withOne_1 rfl rfl) ?_
  refine xW_gR O f_Pars_12 d_Pars_withOne_2 (fun v1 _ => ?_)
  refine xW_callV O (dx_Lexer_kind O T) (fun _ e => ob_Lexer_kind e) rfl rfl rfl l_Pars_59 ⟨w_673, w_674⟩ rfl (Nat.le_of_ble_eq_true rfl) d_Pars_withOne_5 (fun v3 s2 _ => ?_)
  refine xW_callV O (dx_Pars_take O T) (fun _ e => ob_Pars_take e) rfl rfl rfl l_Pars_106 ⟨w_682, w_9⟩ rfl (Nat.le_of_ble_eq_true rfl) d_Pars_withOne_8 (fun v5 s4 _ => ?_)
  refine xW_pure (fun _ _ _ _ _ => am_aload_n d_Pars_withOne_11 rfl rfl) ?_
  refine xW_pure (fun _ _ _ _ _ => am_iload_n d_Pars_withOne_12 rfl rfl) ?_
  refine xW_callV O (H.2.2.2.2.2.2.2.2.2.2.2.2.2.2.2.1 _ _ _ _ _).1 (H.2.2.2.2.2.2.2.2.2.2.2.2.2.2.2.1 _ _ _ _ _).2 rfl rfl rfl l_Pars_235 ⟨w_814, w_26⟩ rfl (Nat.le_of_ble_eq_true rfl) d_Pars_withOne_13 (fun v7 s6 _ => ?_)
  refine xW_pure (fun _ _ _ _ _ => am_aload_n d_Pars_withOne_16 rfl rfl) ?_
  refine xW_gR O f_Pars_28 d_Pars_withOne_17 (fun v8 _ => ?_)
  refine xW_pure (fun _ _ _ _ _ => am_iload_n d_Pars_withOne_20 rfl rfl) ?_
  refine xW_pure (fun _ _ _ _ _ => am_iconst (v := 0) d_Pars_withOne_21 (by decide)) ?_
  refine xW_callV O (dx_Draft_add O T) (fun _ e => ob_Draft_add e) rfl rfl rfl l_Pars_141 ⟨w_753, w_754⟩ rfl (Nat.le_of_ble_eq_true rfl) d_Pars_withOne_22 (fun v10 s9 _ => ?_)
  exact xW_ret (fun _ _ _ _ _ => am_vret rfl d_Pars_withOne_25)

set_option maxRecDepth 100000 in
def x_Pars_inBrackets_b (c : CLT) (d : Nat) (x0 : Nat) (x1 : Int32) (s : HS) : Option (Unit × HS) := gd s x0 5 (bnd (x_Pars_open d x0 40 x1 s) fun v2 s1 => (if v2 = 0 then (some ((), s1)) else (bnd (cU (c 8 x0 (x1 + 1) 0 0 s1)) fun v4 s3 => (bnd (x_Pars_take d x0 41 s3) fun v6 s5 => (some ((), s5))))))

set_option maxRecDepth 100000 in
set_option maxHeartbeats 4000000 in
theorem dx_Pars_inBrackets_b (O : am_ok K X) (T : am_T K) {c : CLT} {d : Nat} (H : HC_P K X c d) {x0 : Nat} {x1 : Int32} {s : HS} : xM cvU K X m_Pars_inBrackets (d + 1) [.ref x0, .int x1] s (x_Pars_inBrackets_b c d x0 x1 s) := by
  unfold x_Pars_inBrackets_b
  refine xM_enter (by decide +kernel) (Nat.le_of_ble_eq_true rfl) ?_
  refine xW_gd (fun _ => ?_)
  refine xW_pure (fun _ _ _ _ _ => am_aload_n d_Pars_inBrackets_0 rfl rfl) ?_
  refine xW_pure (fun _ _ _ _ _ => am_bipush (v := 40) d_Pars_inBrackets_1 (by decide)) ?_
  refine xW_pure (fun _ _ _ _ _ => am_iload_n d_Pars_inBrackets_3 rfl rfl) ?_
  refine xW_callV O (dx_Pars_open O T) (fun _ e => ob_Pars_open e) rfl rfl rfl l_Pars_135 ⟨w_746, w_15⟩ rfl (Nat.le_of_ble_eq_true rfl) d_Pars_inBrackets_4 (fun v2 s1 _ => ?_)
  refine xW_ite (fun _ _ _ _ _ => am_if_eq (tgt := 23) d_Pars_inBrackets_7 (by decide)) (fun _ => ?_) (fun _ => ?_)
  · exact xW_ret (fun _ _ _ _ _ => am_vret rfl d_Pars_inBrackets_23)
  · refine xW_pure (fun _ _ _ _ _ => am_aload_n d_Pars_inBrackets_10 rfl rfl) ?_
    refine xW_pure (fun _ _ _ _ _ => am_iload_n d_Pars_inBrackets_11 rfl rfl) ?_
    refine xW_pure (fun _ _ _ _ _ => am_iconst (v := 1) d_Pars_inBrackets_12 (by decide)) ?_
    refine xW_pure (fun _ _ _ _ _ => am_iadd d_Pars_inBrackets_13) ?_
    refine xW_callV O (H.2.2.2.2.2.2.2.2.1 _ _ _ _ _).1 (H.2.2.2.2.2.2.2.2.1 _ _ _ _ _).2 rfl rfl rfl l_Pars_156 ⟨w_770, w_18⟩ rfl (Nat.le_of_ble_eq_true rfl) d_Pars_inBrackets_14 (fun v4 s3 _ => ?_)
    refine xW_pure (fun _ _ _ _ _ => am_aload_n d_Pars_inBrackets_17 rfl rfl) ?_
    refine xW_pure (fun _ _ _ _ _ => am_bipush (v := 41) d_Pars_inBrackets_18 (by decide)) ?_
    refine xW_callV O (dx_Pars_take O T) (fun _ e => ob_Pars_take e) rfl rfl rfl l_Pars_106 ⟨w_682, w_9⟩ rfl (Nat.le_of_ble_eq_true rfl) d_Pars_inBrackets_20 (fun v6 s5 _ => ?_)
    exact xW_ret (fun _ _ _ _ _ => am_vret rfl d_Pars_inBrackets_23)

set_option maxRecDepth 100000 in
def x_Pars_pushAtom_b (c : CLT) (d : Nat) (x0 : Nat) (x1 : Int32) (s : HS) : Option (Unit × HS) := gd s x0 5 (bnd (x_Pars_take d x0 15 s) fun v2 s1 => (bnd (x_Pars_open d x0 40 x1 s1) fun v4 s3 => (if v4 = 0 then ((gR s3 x0 5 3).bind fun v5 => (bnd (x_Draft_add d v5 24 0 s3) fun v7 s6 => (some ((), s6)))) else (bnd (cU (c 8 x0 (x1 + 1) 0 0 s3)) fun v9 s8 => (bnd (x_Pars_take d x0 44 s8) fun v11 s10 => (bnd (cU (c 8 x0 (x1 + 1) 0 0 s10)) fun v13 s12 => (bnd (x_Pars_take d x0 41 s12) fun v15 s14 => ((gR s14 x0 5 3).bind fun v16 => (bnd (x_Draft_add d v16 24 0 s14) fun v18 s17 => (some ((), s17)))))))))))

set_option maxRecDepth 100000 in
set_option maxHeartbeats 4000000 in
theorem dx_Pars_pushAtom_b (O : am_ok K X) (T : am_T K) {c : CLT} {d : Nat} (H : HC_P K X c d) {x0 : Nat} {x1 : Int32} {s : HS} : xM cvU K X m_Pars_pushAtom (d + 1) [.ref x0, .int x1] s (x_Pars_pushAtom_b c d x0 x1 s) := by
  unfold x_Pars_pushAtom_b
  refine xM_enter (by decide +kernel) (Nat.le_of_ble_eq_true rfl) ?_
  refine xW_gd (fun _ => ?_)
  refine xW_pure (fun _ _ _ _ _ => am_aload_n d_Pars_pushAtom_0 rfl rfl) ?_
  refine xW_pure (fun _ _ _ _ _ => am_bipush (v := 15) d_Pars_pushAtom_1 (by decide)) ?_
  refine xW_callV O (dx_Pars_take O T) (fun _ e => ob_Pars_take e) rfl rfl rfl l_Pars_106 ⟨w_682, w_9⟩ rfl (Nat.le_of_ble_eq_true rfl) d_Pars_pushAtom_3 (fun v2 s1 _ => ?_)
  refine xW_pure (fun _ _ _ _ _ => am_aload_n d_Pars_pushAtom_6 rfl rfl) ?_
  refine xW_pure (fun _ _ _ _ _ => am_bipush (v := 40) d_Pars_pushAtom_7 (by decide)) ?_
  refine xW_pure (fun _ _ _ _ _ => am_iload_n d_Pars_pushAtom_9 rfl rfl) ?_
  refine xW_callV O (dx_Pars_open O T) (fun _ e => ob_Pars_open e) rfl rfl rfl l_Pars_135 ⟨w_746, w_15⟩ rfl (Nat.le_of_ble_eq_true rfl) d_Pars_pushAtom_10 (fun v4 s3 _ => ?_)
  refine xW_ite (fun _ _ _ _ _ => am_if_eq (tgt := 42) d_Pars_pushAtom_13 (by decide)) (fun _ => ?_) (fun _ => ?_)
  · refine xW_pure (fun _ _ _ _ _ => am_aload_n d_Pars_pushAtom_42 rfl rfl) ?_
    refine xW_gR O f_Pars_28 d_Pars_pushAtom_43 (fun v5 _ => ?_)
    refine xW_pure (fun _ _ _ _ _ => am_bipush (v := 24) d_Pars_pushAtom_46 (by decide)) ?_
    refine xW_pure (fun _ _ _ _ _ => am_iconst (v := 0) d_Pars_pushAtom_48 (by decide)) ?_
    refine xW_callV O (dx_Draft_add O T) (fun _ e => ob_Draft_add e) rfl rfl rfl l_Pars_141 ⟨w_753, w_754⟩ rfl (Nat.le_of_ble_eq_true rfl) d_Pars_pushAtom_49 (fun v7 s6 _ => ?_)
    exact xW_ret (fun _ _ _ _ _ => am_vret rfl d_Pars_pushAtom_52)
  · refine xW_pure (fun _ _ _ _ _ => am_aload_n d_Pars_pushAtom_16 rfl rfl) ?_
    refine xW_pure (fun _ _ _ _ _ => am_iload_n d_Pars_pushAtom_17 rfl rfl) ?_
    refine xW_pure (fun _ _ _ _ _ => am_iconst (v := 1) d_Pars_pushAtom_18 (by decide)) ?_
    refine xW_pure (fun _ _ _ _ _ => am_iadd d_Pars_pushAtom_19) ?_
    refine xW_callV O (H.2.2.2.2.2.2.2.2.1 _ _ _ _ _).1 (H.2.2.2.2.2.2.2.2.1 _ _ _ _ _).2 rfl rfl rfl l_Pars_156 ⟨w_770, w_18⟩ rfl (Nat.le_of_ble_eq_true rfl) d_Pars_pushAtom_20 (fun v9 s8 _ => ?_)
    refine xW_pure (fun _ _ _ _ _ => am_aload_n d_Pars_pushAtom_23 rfl rfl) ?_
    refine xW_pure (fun _ _ _ _ _ => am_bipush (v := 44) d_Pars_pushAtom_24 (by decide)) ?_
    refine xW_callV O (dx_Pars_take O T) (fun _ e => ob_Pars_take e) rfl rfl rfl l_Pars_106 ⟨w_682, w_9⟩ rfl (Nat.le_of_ble_eq_true rfl) d_Pars_pushAtom_26 (fun v11 s10 _ => ?_)
    refine xW_pure (fun _ _ _ _ _ => am_aload_n d_Pars_pushAtom_29 rfl rfl) ?_
    refine xW_pure (fun _ _ _ _ _ => am_iload_n d_Pars_pushAtom_30 rfl rfl) ?_
    refine xW_pure (fun _ _ _ _ _ => am_iconst (v := 1) d_Pars_pushAtom_31 (by decide)) ?_
    refine xW_pure (fun _ _ _ _ _ => am_iadd d_Pars_pushAtom_32) ?_
    refine xW_callV O (H.2.2.2.2.2.2.2.2.1 _ _ _ _ _).1 (H.2.2.2.2.2.2.2.2.1 _ _ _ _ _).2 rfl rfl rfl l_Pars_156 ⟨w_770, w_18⟩ rfl (Nat.le_of_ble_eq_true rfl) d_Pars_pushAtom_33 (fun v13 s12 _ => ?_)
    refine xW_pure (fun _ _ _ _ _ => am_aload_n d_Pars_pushAtom_36 rfl rfl) ?_
    refine xW_pure (fun _ _ _ _ _ => am_bipush (v := 41) d_Pars_pushAtom_37 (by decide)) ?_
    refine xW_callV O (dx_Pars_take O T) (fun _ e => ob_Pars_take e) rfl rfl rfl l_Pars_106 ⟨w_682, w_9⟩ rfl (Nat.le_of_ble_eq_true rfl) d_Pars_pushAtom_39 (fun v15 s14 _ => ?_)
    refine xW_pure (fun _ _ _ _ _ => am_aload_n d_Pars_pushAtom_42 rfl rfl) ?_
    refine xW_gR O f_Pars_28 d_Pars_pushAtom_43 (fun v16 _ => ?_)
    refine xW_pure (fun _ _ _ _ _ => am_bipush (v := 24) d_Pars_pushAtom_46 (by decide)) ?_
    refine xW_pure (fun _ _ _ _ _ => am_iconst (v := 0) d_Pars_pushAtom_48 (by decide)) ?_
    refine xW_callV O (dx_Draft_add O T) (fun _ e => ob_Draft_add e) rfl rfl rfl l_Pars_141 ⟨w_753, w_754⟩ rfl (Nat.le_of_ble_eq_true rfl) d_Pars_pushAtom_49 (fun v18 s17 _ => ?_)
    exact xW_ret (fun _ _ _ _ _ => am_vret rfl d_Pars_pushAtom_52)

set_option maxRecDepth 100000 in
def x_Pars_list_b (c : CLT) (d : Nat) (x0 : Nat) (x1 : Int32) (x2 : Int32) (x3 : Int32) (s : HS) : Option (Int32 × HS) := gd s x0 5 (bnd (x_Pars_open d x0 x1 x3 s) fun v2 s1 => (if v2 = 0 then (bnd (x_Pars_take d x0 x2 s1) fun v4 s3 => (some (0, s3))) else ((gR s1 x0 5 0).bind fun v5 => (bnd (x_Lexer_kind d v5 s1) fun v7 s6 => (if v7 = x2 then (bnd (x_Pars_take d x0 x2 s6) fun v9 s8 => (some (0, s8))) else (bnd (cU (c 8 x0 (x3 + 1) 0 0 s6)) fun v11 s10 => (loopK (fun (again33 : Int32 × HS → Option (Int32 × HS)) (z33 : Int32 × HS) => (if 1500 ≤ z33.1 then (bnd (x_Pars_take d x0 x2 z33.2) fun v13 s12 => (some (z33.1, s12))) else ((gR z33.2 x0 5 0).bind fun v14 => (bnd (x_Lexer_kind d v14 z33.2) fun v16 s15 => (if v16 = 44 then (bnd (x_Pars_take d x0 44 s15) fun v18 s17 => (bnd (cU (c 8 x0 (x3 + 1) 0 0 s17)) fun v20 s19 => (again33 ((z33.1 + 1), s19)))) else (bnd (x_Pars_take d x0 x2 s15) fun v22 s21 => (some (z33.1, s21)))))))) FU (1, s10))))))))

set_option maxRecDepth 100000 in
set_option maxHeartbeats 4000000 in
theorem dx_Pars_list_b (O : am_ok K X) (T : am_T K) {c : CLT} {d : Nat} (H : HC_P K X c d) {x0 : Nat} {x1 : Int32} {x2 : Int32} {x3 : Int32} {s : HS} : xM cvI K X m_Pars_list (d + 1) [.ref x0, .int x1, .int x2, .int x3] s (x_Pars_list_b c d x0 x1 x2 x3 s) := by
  unfold x_Pars_list_b
  refine xM_enter (by decide +kernel) (Nat.le_of_ble_eq_true rfl) ?_
  refine xW_gd (fun _ => ?_)
  refine xW_pure (fun _ _ _ _ _ => am_iconst (v := 0) d_Pars_list_0 (by decide)) ?_
  refine xW_pure (fun _ _ _ _ _ => am_istore d_Pars_list_1 (Nat.le_of_ble_eq_true rfl)) ?_
  refine xW_pure (fun _ _ _ _ _ => am_aload_n d_Pars_list_3 rfl rfl) ?_
  refine xW_pure (fun _ _ _ _ _ => am_iload_n d_Pars_list_4 rfl rfl) ?_
  refine xW_pure (fun _ _ _ _ _ => am_iload_n d_Pars_list_5 rfl rfl) ?_
  refine xW_callV O (dx_Pars_open O T) (fun _ e => ob_Pars_open e) rfl rfl rfl l_Pars_135 ⟨w_746, w_15⟩ rfl (Nat.le_of_ble_eq_true rfl) d_Pars_list_6 (fun v2 s1 _ => ?_)
  refine xW_ite (fun _ _ _ _ _ => am_if_eq (tgt := 72) d_Pars_list_9 (by decide)) (fun _ => ?_) (fun _ => ?_)
  · refine xW_pure (fun _ _ _ _ _ => am_aload_n d_Pars_list_72 rfl rfl) ?_
    refine xW_pure (fun _ _ _ _ _ => am_iload_n d_Pars_list_73 rfl rfl) ?_
    refine xW_callV O (dx_Pars_take O T) (fun _ e => ob_Pars_take e) rfl rfl rfl l_Pars_106 ⟨w_682, w_9⟩ rfl (Nat.le_of_ble_eq_true rfl) d_Pars_list_74 (fun v4 s3 _ => ?_)
    refine xW_pure (fun _ _ _ _ _ => am_iload d_Pars_list_77 rfl) ?_
    exact xW_ret (fun _ _ _ _ _ => am_iret rfl d_Pars_list_79)
  · refine xW_pure (fun _ _ _ _ _ => am_aload_n d_Pars_list_12 rfl rfl) ?_
    refine xW_gR O f_Pars_12 d_Pars_list_13 (fun v5 _ => ?_)
    refine xW_callV O (dx_Lexer_kind O T) (fun _ e => ob_Lexer_kind e) rfl rfl rfl l_Pars_59 ⟨w_673, w_674⟩ rfl (Nat.le_of_ble_eq_true rfl) d_Pars_list_16 (fun v7 s6 _ => ?_)
    refine xW_pure (fun _ _ _ _ _ => am_iload_n d_Pars_list_19 rfl rfl) ?_
    refine xW_ite (fun _ _ _ _ _ => am_icmp_eq (tgt := 72) d_Pars_list_20 (by decide)) (fun _ => ?_) (fun _ => ?_)
    · refine xW_pure (fun _ _ _ _ _ => am_aload_n d_Pars_list_72 rfl rfl) ?_
      refine xW_pure (fun _ _ _ _ _ => am_iload_n d_Pars_list_73 rfl rfl) ?_
      refine xW_callV O (dx_Pars_take O T) (fun _ e => ob_Pars_take e) rfl rfl rfl l_Pars_106 ⟨w_682, w_9⟩ rfl (Nat.le_of_ble_eq_true rfl) d_Pars_list_74 (fun v9 s8 _ => ?_)
      refine xW_pure (fun _ _ _ _ _ => am_iload d_Pars_list_77 rfl) ?_
      exact xW_ret (fun _ _ _ _ _ => am_iret rfl d_Pars_list_79)
    · refine xW_pure (fun _ _ _ _ _ => am_aload_n d_Pars_list_23 rfl rfl) ?_
      refine xW_pure (fun _ _ _ _ _ => am_iload_n d_Pars_list_24 rfl rfl) ?_
      refine xW_pure (fun _ _ _ _ _ => am_iconst (v := 1) d_Pars_list_25 (by decide)) ?_
      refine xW_pure (fun _ _ _ _ _ => am_iadd d_Pars_list_26) ?_
      refine xW_callV O (H.2.2.2.2.2.2.2.2.1 _ _ _ _ _).1 (H.2.2.2.2.2.2.2.2.1 _ _ _ _ _).2 rfl rfl rfl l_Pars_156 ⟨w_770, w_18⟩ rfl (Nat.le_of_ble_eq_true rfl) d_Pars_list_27 (fun v11 s10 _ => ?_)
      refine xW_pure (fun _ _ _ _ _ => am_iconst (v := 1) d_Pars_list_30 (by decide)) ?_
      refine xW_pure (fun _ _ _ _ _ => am_istore d_Pars_list_31 (Nat.le_of_ble_eq_true rfl)) ?_
      refine xW_locs (lv' := [(0, .ref x0), (2, .int x2), (3, .int x3), (4, .int 1)]) rfl ?_
      refine xW_loop (lvf := fun (z33 : Int32 × HS) => [(0, .ref x0), (2, .int x2), (3, .int x3), (4, .int z33.1)]) (hsf := fun (z33 : Int32 × HS) => z33.2) (fun again33 ih33 z33 => ?_) FU (1, s10)
      refine xW_pure (fun _ _ _ _ _ => am_iload d_Pars_list_33 rfl) ?_
      refine xW_pure (fun _ _ _ _ _ => am_sipush (v := 1500) d_Pars_list_35 (by decide)) ?_
      refine xW_ite (fun _ _ _ _ _ => am_icmp_ge (tgt := 72) d_Pars_list_38 (by decide)) (fun _ => ?_) (fun _ => ?_)
      · refine xW_pure (fun _ _ _ _ _ => am_aload_n d_Pars_list_72 rfl rfl) ?_
        refine xW_pure (fun _ _ _ _ _ => am_iload_n d_Pars_list_73 rfl rfl) ?_
        refine xW_callV O (dx_Pars_take O T) (fun _ e => ob_Pars_take e) rfl rfl rfl l_Pars_106 ⟨w_682, w_9⟩ rfl (Nat.le_of_ble_eq_true rfl) d_Pars_list_74 (fun v13 s12 _ => ?_)
        refine xW_pure (fun _ _ _ _ _ => am_iload d_Pars_list_77 rfl) ?_
        exact xW_ret (fun _ _ _ _ _ => am_iret rfl d_Pars_list_79)
      · refine xW_pure (fun _ _ _ _ _ => am_aload_n d_Pars_list_41 rfl rfl) ?_
        refine xW_gR O f_Pars_12 d_Pars_list_42 (fun v14 _ => ?_)
        refine xW_callV O (dx_Lexer_kind O T) (fun _ e => ob_Lexer_kind e) rfl rfl rfl l_Pars_59 ⟨w_673, w_674⟩ rfl (Nat.le_of_ble_eq_true rfl) d_Pars_list_45 (fun v16 s15 _ => ?_)
        refine xW_pure (fun _ _ _ _ _ => am_bipush (v := 44) d_Pars_list_48 (by decide)) ?_
        refine xW_ite (fun _ _ _ _ _ k1 k2 => am_icmp_ne (tgt := 72) d_Pars_list_50 (by decide) k2 k1) (fun _ => ?_) (fun _ => ?_)
        · refine xW_pure (fun _ _ _ _ _ => am_aload_n d_Pars_list_53 rfl rfl) ?_
          refine xW_pure (fun _ _ _ _ _ => am_bipush (v := 44) d_Pars_list_54 (by decide)) ?_
          refine xW_callV O (dx_Pars_take O T) (fun _ e => ob_Pars_take e) rfl rfl rfl l_Pars_106 ⟨w_682, w_9⟩ rfl (Nat.le_of_ble_eq_true rfl) d_Pars_list_56 (fun v18 s17 _ => ?_)
          refine xW_pure (fun _ _ _ _ _ => am_aload_n d_Pars_list_59 rfl rfl) ?_
          refine xW_pure (fun _ _ _ _ _ => am_iload_n d_Pars_list_60 rfl rfl) ?_
          refine xW_pure (fun _ _ _ _ _ => am_iconst (v := 1) d_Pars_list_61 (by decide)) ?_
          refine xW_pure (fun _ _ _ _ _ => am_iadd d_Pars_list_62) ?_
          refine xW_callV O (H.2.2.2.2.2.2.2.2.1 _ _ _ _ _).1 (H.2.2.2.2.2.2.2.2.1 _ _ _ _ _).2 rfl rfl rfl l_Pars_156 ⟨w_770, w_18⟩ rfl (Nat.le_of_ble_eq_true rfl) d_Pars_list_63 (fun v20 s19 _ => ?_)
          refine xW_pure (fun _ _ _ _ _ => am_iinc (v := 1) d_Pars_list_66 rfl (by decide) (Nat.le_of_ble_eq_true rfl)) ?_
          refine xW_pure (fun _ _ _ _ _ => am_goto (tgt := 33) d_Pars_list_69 (by decide)) ?_
          refine xW_locs (lv' := [(0, .ref x0), (2, .int x2), (3, .int x3), (4, .int (z33.1 + 1))]) rfl ?_
          exact ih33 ((z33.1 + 1), s19)
        · refine xW_pure (fun _ _ _ _ _ => am_aload_n d_Pars_list_72 rfl rfl) ?_
          refine xW_pure (fun _ _ _ _ _ => am_iload_n d_Pars_list_73 rfl rfl) ?_
          refine xW_callV O (dx_Pars_take O T) (fun _ e => ob_Pars_take e) rfl rfl rfl l_Pars_106 ⟨w_682, w_9⟩ rfl (Nat.le_of_ble_eq_true rfl) d_Pars_list_74 (fun v22 s21 _ => ?_)
          refine xW_pure (fun _ _ _ _ _ => am_iload d_Pars_list_77 rfl) ?_
          exact xW_ret (fun _ _ _ _ _ => am_iret rfl d_Pars_list_79)

set_option maxRecDepth 100000 in
def x_Pars_fields_b (c : CLT) (d : Nat) (x0 : Nat) (x1 : Int32) (s : HS) : Option (Int32 × HS) := gd s x0 5 (bnd (x_Pars_open d x0 123 x1 s) fun v2 s1 => (if v2 = 0 then (bnd (x_Pars_take d x0 125 s1) fun v4 s3 => (some (0, s3))) else ((gR s1 x0 5 0).bind fun v5 => (bnd (x_Lexer_kind d v5 s1) fun v7 s6 => (if v7 = 125 then (bnd (x_Pars_take d x0 125 s6) fun v9 s8 => (some (0, s8))) else (bnd (cU (c 19 x0 (x1 + 1) 0 0 s6)) fun v11 s10 => (loopK (fun (again33 : Int32 × HS → Option (Int32 × HS)) (z33 : Int32 × HS) => (if 1500 ≤ z33.1 then (bnd (x_Pars_take d x0 125 z33.2) fun v13 s12 => (some (z33.1, s12))) else ((gR z33.2 x0 5 0).bind fun v14 => (bnd (x_Lexer_kind d v14 z33.2) fun v16 s15 => (if v16 = 44 then (bnd (x_Pars_take d x0 44 s15) fun v18 s17 => (bnd (cU (c 19 x0 (x1 + 1) 0 0 s17)) fun v20 s19 => (again33 ((z33.1 + 1), s19)))) else (bnd (x_Pars_take d x0 125 s15) fun v22 s21 => (some (z33.1, s21)))))))) FU (1, s10))))))))

set_option maxRecDepth 100000 in
set_option maxHeartbeats 4000000 in
theorem dx_Pars_fields_b (O : am_ok K X) (T : am_T K) {c : CLT} {d : Nat} (H : HC_P K X c d) {x0 : Nat} {x1 : Int32} {s : HS} : xM cvI K X m_Pars_fields (d + 1) [.ref x0, .int x1] s (x_Pars_fields_b c d x0 x1 s) := by
  unfold x_Pars_fields_b
  refine xM_enter (by decide +kernel) (Nat.le_of_ble_eq_true rfl) ?_
  refine xW_gd (fun _ => ?_)
  refine xW_pure (fun _ _ _ _ _ => am_iconst (v := 0) d_Pars_fields_0 (by decide)) ?_
  refine xW_pure (fun _ _ _ _ _ => am_istore_n d_Pars_fields_1 rfl (Nat.le_of_ble_eq_true rfl)) ?_
  refine xW_pure (fun _ _ _ _ _ => am_aload_n d_Pars_fields_2 rfl rfl) ?_
  refine xW_pure (fun _ _ _ _ _ => am_bipush (v := 123) d_Pars_fields_3 (by decide)) ?_
  refine xW_pure (fun _ _ _ _ _ => am_iload_n d_Pars_fields_5 rfl rfl) ?_
  refine xW_callV O (dx_Pars_open O T) (fun _ e => ob_Pars_open e) rfl rfl rfl l_Pars_135 ⟨w_746, w_15⟩ rfl (Nat.le_of_ble_eq_true rfl) d_Pars_fields_6 (fun v2 s1 _ => ?_)
  refine xW_ite (fun _ _ _ _ _ => am_if_eq (tgt := 71) d_Pars_fields_9 (by decide)) (fun _ => ?_) (fun _ => ?_)
  · refine xW_pure (fun _ _ _ _ _ => am_aload_n d_Pars_fields_71 rfl rfl) ?_
    refine xW_pure (fun _ _ _ _ _ => am_bipush (v := 125) d_Pars_fields_72 (by decide)) ?_
    refine xW_callV O (dx_Pars_take O T) (fun _ e => ob_Pars_take e) rfl rfl rfl l_Pars_106 ⟨w_682, w_9⟩ rfl (Nat.le_of_ble_eq_true rfl) d_Pars_fields_74 (fun v4 s3 _ => ?_)
    refine xW_pure (fun _ _ _ _ _ => am_iload_n d_Pars_fields_77 rfl rfl) ?_
    exact xW_ret (fun _ _ _ _ _ => am_iret rfl d_Pars_fields_78)
  · refine xW_pure (fun _ _ _ _ _ => am_aload_n d_Pars_fields_12 rfl rfl) ?_
    refine xW_gR O f_Pars_12 d_Pars_fields_13 (fun v5 _ => ?_)
    refine xW_callV O (dx_Lexer_kind O T) (fun _ e => ob_Lexer_kind e) rfl rfl rfl l_Pars_59 ⟨w_673, w_674⟩ rfl (Nat.le_of_ble_eq_true rfl) d_Pars_fields_16 (fun v7 s6 _ => ?_)
    refine xW_pure (fun _ _ _ _ _ => am_bipush (v := 125) d_Pars_fields_19 (by decide)) ?_
    refine xW_ite (fun _ _ _ _ _ => am_icmp_eq (tgt := 71) d_Pars_fields_21 (by decide)) (fun _ => ?_) (fun _ => ?_)
    · refine xW_pure (fun _ _ _ _ _ => am_aload_n d_Pars_fields_71 rfl rfl) ?_
      refine xW_pure (fun _ _ _ _ _ => am_bipush (v := 125) d_Pars_fields_72 (by decide)) ?_
      refine xW_callV O (dx_Pars_take O T) (fun _ e => ob_Pars_take e) rfl rfl rfl l_Pars_106 ⟨w_682, w_9⟩ rfl (Nat.le_of_ble_eq_true rfl) d_Pars_fields_74 (fun v9 s8 _ => ?_)
      refine xW_pure (fun _ _ _ _ _ => am_iload_n d_Pars_fields_77 rfl rfl) ?_
      exact xW_ret (fun _ _ _ _ _ => am_iret rfl d_Pars_fields_78)
    · refine xW_pure (fun _ _ _ _ _ => am_aload_n d_Pars_fields_24 rfl rfl) ?_
      refine xW_pure (fun _ _ _ _ _ => am_iload_n d_Pars_fields_25 rfl rfl) ?_
      refine xW_pure (fun _ _ _ _ _ => am_iconst (v := 1) d_Pars_fields_26 (by decide)) ?_
      refine xW_pure (fun _ _ _ _ _ => am_iadd d_Pars_fields_27) ?_
      refine xW_callV O (H.2.2.2.2.2.2.2.2.2.2.2.2.2.2.2.2.2.2.2 _ _ _ _ _).1 (H.2.2.2.2.2.2.2.2.2.2.2.2.2.2.2.2.2.2.2 _ _ _ _ _).2 rfl rfl rfl l_Pars_245 ⟨w_826, w_29⟩ rfl (Nat.le_of_ble_eq_true rfl) d_Pars_fields_28 (fun v11 s10 _ => ?_)
      refine xW_pure (fun _ _ _ _ _ => am_iconst (v := 1) d_Pars_fields_31 (by decide)) ?_
      refine xW_pure (fun _ _ _ _ _ => am_istore_n d_Pars_fields_32 rfl (Nat.le_of_ble_eq_true rfl)) ?_
      refine xW_locs (lv' := [(0, .ref x0), (1, .int x1), (2, .int 1)]) rfl ?_
      refine xW_loop (lvf := fun (z33 : Int32 × HS) => [(0, .ref x0), (1, .int x1), (2, .int z33.1)]) (hsf := fun (z33 : Int32 × HS) => z33.2) (fun again33 ih33 z33 => ?_) FU (1, s10)
      refine xW_pure (fun _ _ _ _ _ => am_iload_n d_Pars_fields_33 rfl rfl) ?_
      refine xW_pure (fun _ _ _ _ _ => am_sipush (v := 1500) d_Pars_fields_34 (by decide)) ?_
      refine xW_ite (fun _ _ _ _ _ => am_icmp_ge (tgt := 71) d_Pars_fields_37 (by decide)) (fun _ => ?_) (fun _ => ?_)
      · refine xW_pure (fun _ _ _ _ _ => am_aload_n d_Pars_fields_71 rfl rfl) ?_
        refine xW_pure (fun _ _ _ _ _ => am_bipush (v := 125) d_Pars_fields_72 (by decide)) ?_
        refine xW_callV O (dx_Pars_take O T) (fun _ e => ob_Pars_take e) rfl rfl rfl l_Pars_106 ⟨w_682, w_9⟩ rfl (Nat.le_of_ble_eq_true rfl) d_Pars_fields_74 (fun v13 s12 _ => ?_)
        refine xW_pure (fun _ _ _ _ _ => am_iload_n d_Pars_fields_77 rfl rfl) ?_
        exact xW_ret (fun _ _ _ _ _ => am_iret rfl d_Pars_fields_78)
      · refine xW_pure (fun _ _ _ _ _ => am_aload_n d_Pars_fields_40 rfl rfl) ?_
        refine xW_gR O f_Pars_12 d_Pars_fields_41 (fun v14 _ => ?_)
        refine xW_callV O (dx_Lexer_kind O T) (fun _ e => ob_Lexer_kind e) rfl rfl rfl l_Pars_59 ⟨w_673, w_674⟩ rfl (Nat.le_of_ble_eq_true rfl) d_Pars_fields_44 (fun v16 s15 _ => ?_)
        refine xW_pure (fun _ _ _ _ _ => am_bipush (v := 44) d_Pars_fields_47 (by decide)) ?_
        refine xW_ite (fun _ _ _ _ _ k1 k2 => am_icmp_ne (tgt := 71) d_Pars_fields_49 (by decide) k2 k1) (fun _ => ?_) (fun _ => ?_)
        · refine xW_pure (fun _ _ _ _ _ => am_aload_n d_Pars_fields_52 rfl rfl) ?_
          refine xW_pure (fun _ _ _ _ _ => am_bipush (v := 44) d_Pars_fields_53 (by decide)) ?_
          refine xW_callV O (dx_Pars_take O T) (fun _ e => ob_Pars_take e) rfl rfl rfl l_Pars_106 ⟨w_682, w_9⟩ rfl (Nat.le_of_ble_eq_true rfl) d_Pars_fields_55 (fun v18 s17 _ => ?_)
          refine xW_pure (fun _ _ _ _ _ => am_aload_n d_Pars_fields_58 rfl rfl) ?_
          refine xW_pure (fun _ _ _ _ _ => am_iload_n d_Pars_fields_59 rfl rfl) ?_
          refine xW_pure (fun _ _ _ _ _ => am_iconst (v := 1) d_Pars_fields_60 (by decide)) ?_
          refine xW_pure (fun _ _ _ _ _ => am_iadd d_Pars_fields_61) ?_
          refine xW_callV O (H.2.2.2.2.2.2.2.2.2.2.2.2.2.2.2.2.2.2.2 _ _ _ _ _).1 (H.2.2.2.2.2.2.2.2.2.2.2.2.2.2.2.2.2.2.2 _ _ _ _ _).2 rfl rfl rfl l_Pars_245 ⟨w_826, w_29⟩ rfl (Nat.le_of_ble_eq_true rfl) d_Pars_fields_62 (fun v20 s19 _ => ?_)
          refine xW_pure (fun _ _ _ _ _ => am_iinc (v := 1) d_Pars_fields_65 rfl (by decide) (Nat.le_of_ble_eq_true rfl)) ?_
          refine xW_pure (fun _ _ _ _ _ => am_goto (tgt := 33) d_Pars_fields_68 (by decide)) ?_
          refine xW_locs (lv' := [(0, .ref x0), (1, .int x1), (2, .int (z33.1 + 1))]) rfl ?_
          exact ih33 ((z33.1 + 1), s19)
        · refine xW_pure (fun _ _ _ _ _ => am_aload_n d_Pars_fields_71 rfl rfl) ?_
          refine xW_pure (fun _ _ _ _ _ => am_bipush (v := 125) d_Pars_fields_72 (by decide)) ?_
          refine xW_callV O (dx_Pars_take O T) (fun _ e => ob_Pars_take e) rfl rfl rfl l_Pars_106 ⟨w_682, w_9⟩ rfl (Nat.le_of_ble_eq_true rfl) d_Pars_fields_74 (fun v22 s21 _ => ?_)
          refine xW_pure (fun _ _ _ _ _ => am_iload_n d_Pars_fields_77 rfl rfl) ?_
          exact xW_ret (fun _ _ _ _ _ => am_iret rfl d_Pars_fields_78)

set_option maxRecDepth 100000 in
def x_Pars_field_b (c : CLT) (d : Nat) (x0 : Nat) (x1 : Int32) (s : HS) : Option (Unit × HS) := gd s x0 5 ((gR s x0 5 3).bind fun v1 => (bnd (x_Pars_takeName d x0 s) fun v3 s2 => (bnd (x_Pars_keepName d x0 v3 s2) fun v5 s4 => (bnd (x_Draft_add d v1 12 v5 s4) fun v7 s6 => (bnd (x_Pars_take d x0 58 s6) fun v9 s8 => (bnd (cU (c 8 x0 x1 0 0 s8)) fun v11 s10 => (some ((), s10))))))))

set_option maxRecDepth 100000 in
set_option maxHeartbeats 4000000 in
theorem dx_Pars_field_b (O : am_ok K X) (T : am_T K) {c : CLT} {d : Nat} (H : HC_P K X c d) {x0 : Nat} {x1 : Int32} {s : HS} : xM cvU K X m_Pars_field (d + 1) [.ref x0, .int x1] s (x_Pars_field_b c d x0 x1 s) := by
  unfold x_Pars_field_b
  refine xM_enter (by decide +kernel) (Nat.le_of_ble_eq_true rfl) ?_
  refine xW_gd (fun _ => ?_)
  refine xW_pure (fun _ _ _ _ _ => am_aload_n d_Pars_field_0 rfl rfl) ?_
  refine xW_gR O f_Pars_28 d_Pars_field_1 (fun v1 _ => ?_)
  refine xW_pure (fun _ _ _ _ _ => am_bipush (v := 12) d_Pars_field_4 (by decide)) ?_
  refine xW_pure (fun _ _ _ _ _ => am_aload_n d_Pars_field_6 rfl rfl) ?_
  refine xW_pure (fun _ _ _ _ _ => am_aload_n d_Pars_field_7 rfl rfl) ?_
  refine xW_callV O (dx_Pars_takeName O T) (fun _ e => ob_Pars_takeName e) rfl rfl rfl l_Pars_109 ⟨w_699, w_11⟩ rfl (Nat.le_of_ble_eq_true rfl) d_Pars_field_8 (fun v3 s2 _ => ?_)
  refine xW_callV O (dx_Pars_keepName O T) (fun _ e => ob_Pars_keepName e) rfl rfl rfl l_Pars_206 ⟨w_830, w_30⟩ rfl (Nat.le_of_ble_eq_true rfl) d_Pars_field_11 (fun v5 s4 _ => ?_)
  refine xW_callV O (dx_Draft_add O T) (fun _ e => ob_Draft_add e) rfl rfl rfl l_Pars_141 ⟨w_753, w_754⟩ rfl (Nat.le_of_ble_eq_true rfl) d_Pars_field_14 (fun v7 s6 _ => ?_)
  refine xW_pure (fun _ _ _ _ _ => am_aload_n d_Pars_field_17 rfl rfl) ?_
  refine xW_pure (fun _ _ _ _ _ => am_bipush (v := 58) d_Pars_field_18 (by decide)) ?_
  refine xW_callV O (dx_Pars_take O T) (fun _ e => ob_Pars_take e) rfl rfl rfl l_Pars_106 ⟨w_682, w_9⟩ rfl (Nat.le_of_ble_eq_true rfl) d_Pars_field_20 (fun v9 s8 _ => ?_)
  refine xW_pure (fun _ _ _ _ _ => am_aload_n d_Pars_field_23 rfl rfl) ?_
  refine xW_pure (fun _ _ _ _ _ => am_iload_n d_Pars_field_24 rfl rfl) ?_
  refine xW_callV O (H.2.2.2.2.2.2.2.2.1 _ _ _ _ _).1 (H.2.2.2.2.2.2.2.2.1 _ _ _ _ _).2 rfl rfl rfl l_Pars_156 ⟨w_770, w_18⟩ rfl (Nat.le_of_ble_eq_true rfl) d_Pars_field_25 (fun v11 s10 _ => ?_)
  exact xW_ret (fun _ _ _ _ _ => am_vret rfl d_Pars_field_28)

def clP : Nat → CLT
  | 0 => fun _ _ _ _ _ _ => none
  | d + 1 => fun i r x y z s => if i = 0 then uC (x_Pars_block_b (clP d) d r x s) else if i = 1 then uC (x_Pars_statement_b (clP d) d r x s) else if i = 2 then uC (x_Pars_letStatement_b (clP d) d r x s) else if i = 3 then uC (x_Pars_ifStatement_b (clP d) d r x s) else if i = 4 then uC (x_Pars_whileStatement_b (clP d) d r x s) else if i = 5 then x_Pars_condition_b (clP d) d r x s else if i = 6 then uC (x_Pars_returnStatement_b (clP d) d r x s) else if i = 7 then uC (x_Pars_plainStatement_b (clP d) d r x s) else if i = 8 then uC (x_Pars_expression_b (clP d) d r x s) else if i = 9 then uC (x_Pars_level_b (clP d) d r x y s) else if i = 10 then uC (x_Pars_signed_b (clP d) d r x s) else if i = 11 then uC (x_Pars_parts_b (clP d) d r x s) else if i = 12 then uC (x_Pars_atom_b (clP d) d r x s) else if i = 13 then x_Pars_variableOrCall_b (clP d) d r x s else if i = 14 then uC (x_Pars_withOne_b (clP d) d r x y s) else if i = 15 then uC (x_Pars_inBrackets_b (clP d) d r x s) else if i = 16 then uC (x_Pars_pushAtom_b (clP d) d r x s) else if i = 17 then x_Pars_list_b (clP d) d r x y z s else if i = 18 then x_Pars_fields_b (clP d) d r x s else if i = 19 then uC (x_Pars_field_b (clP d) d r x s) else none

set_option maxRecDepth 100000 in
theorem dclP (O : am_ok K X) (T : am_T K) : ∀ d, HC_P K X (clP d) d
  | 0 => ⟨fun _ _ _ _ _ => ⟨xM_none, fun w h => by cases h⟩, fun _ _ _ _ _ => ⟨xM_none, fun w h => by cases h⟩, fun _ _ _ _ _ => ⟨xM_none, fun w h => by cases h⟩, fun _ _ _ _ _ => ⟨xM_none, fun w h => by cases h⟩, fun _ _ _ _ _ => ⟨xM_none, fun w h => by cases h⟩, fun _ _ _ _ _ => ⟨xM_none, fun w h => by cases h⟩, fun _ _ _ _ _ => ⟨xM_none, fun w h => by cases h⟩, fun _ _ _ _ _ => ⟨xM_none, fun w h => by cases h⟩, fun _ _ _ _ _ => ⟨xM_none, fun w h => by cases h⟩, fun _ _ _ _ _ => ⟨xM_none, fun w h => by cases h⟩, fun _ _ _ _ _ => ⟨xM_none, fun w h => by cases h⟩, fun _ _ _ _ _ => ⟨xM_none, fun w h => by cases h⟩, fun _ _ _ _ _ => ⟨xM_none, fun w h => by cases h⟩, fun _ _ _ _ _ => ⟨xM_none, fun w h => by cases h⟩, fun _ _ _ _ _ => ⟨xM_none, fun w h => by cases h⟩, fun _ _ _ _ _ => ⟨xM_none, fun w h => by cases h⟩, fun _ _ _ _ _ => ⟨xM_none, fun w h => by cases h⟩, fun _ _ _ _ _ => ⟨xM_none, fun w h => by cases h⟩, fun _ _ _ _ _ => ⟨xM_none, fun w h => by cases h⟩, fun _ _ _ _ _ => ⟨xM_none, fun w h => by cases h⟩⟩
  | d + 1 => ⟨fun r x y z s => ⟨by rw [show cU (clP (d + 1) 0 r x y z s) = x_Pars_block_b (clP d) d r x s from cU_uC _]; exact dx_Pars_block_b O T (dclP O T d), fun w h => by rw [show cU (clP (d + 1) 0 r x y z s) = x_Pars_block_b (clP d) d r x s from cU_uC _] at h; exact (gd_spec h).1⟩,
    fun r x y z s => ⟨by rw [show cU (clP (d + 1) 1 r x y z s) = x_Pars_statement_b (clP d) d r x s from cU_uC _]; exact dx_Pars_statement_b O T (dclP O T d), fun w h => by rw [show cU (clP (d + 1) 1 r x y z s) = x_Pars_statement_b (clP d) d r x s from cU_uC _] at h; exact (gd_spec h).1⟩,
    fun r x y z s => ⟨by rw [show cU (clP (d + 1) 2 r x y z s) = x_Pars_letStatement_b (clP d) d r x s from cU_uC _]; exact dx_Pars_letStatement_b O T (dclP O T d), fun w h => by rw [show cU (clP (d + 1) 2 r x y z s) = x_Pars_letStatement_b (clP d) d r x s from cU_uC _] at h; exact (gd_spec h).1⟩,
    fun r x y z s => ⟨by rw [show cU (clP (d + 1) 3 r x y z s) = x_Pars_ifStatement_b (clP d) d r x s from cU_uC _]; exact dx_Pars_ifStatement_b O T (dclP O T d), fun w h => by rw [show cU (clP (d + 1) 3 r x y z s) = x_Pars_ifStatement_b (clP d) d r x s from cU_uC _] at h; exact (gd_spec h).1⟩,
    fun r x y z s => ⟨by rw [show cU (clP (d + 1) 4 r x y z s) = x_Pars_whileStatement_b (clP d) d r x s from cU_uC _]; exact dx_Pars_whileStatement_b O T (dclP O T d), fun w h => by rw [show cU (clP (d + 1) 4 r x y z s) = x_Pars_whileStatement_b (clP d) d r x s from cU_uC _] at h; exact (gd_spec h).1⟩,
    fun r x y z s => ⟨by rw [show clP (d + 1) 5 r x y z s = x_Pars_condition_b (clP d) d r x s from rfl]; exact dx_Pars_condition_b O T (dclP O T d), fun w h => by rw [show clP (d + 1) 5 r x y z s = x_Pars_condition_b (clP d) d r x s from rfl] at h; exact (gd_spec h).1⟩,
    fun r x y z s => ⟨by rw [show cU (clP (d + 1) 6 r x y z s) = x_Pars_returnStatement_b (clP d) d r x s from cU_uC _]; exact dx_Pars_returnStatement_b O T (dclP O T d), fun w h => by rw [show cU (clP (d + 1) 6 r x y z s) = x_Pars_returnStatement_b (clP d) d r x s from cU_uC _] at h; exact (gd_spec h).1⟩,
    fun r x y z s => ⟨by rw [show cU (clP (d + 1) 7 r x y z s) = x_Pars_plainStatement_b (clP d) d r x s from cU_uC _]; exact dx_Pars_plainStatement_b O T (dclP O T d), fun w h => by rw [show cU (clP (d + 1) 7 r x y z s) = x_Pars_plainStatement_b (clP d) d r x s from cU_uC _] at h; exact (gd_spec h).1⟩,
    fun r x y z s => ⟨by rw [show cU (clP (d + 1) 8 r x y z s) = x_Pars_expression_b (clP d) d r x s from cU_uC _]; exact dx_Pars_expression_b O T (dclP O T d), fun w h => by rw [show cU (clP (d + 1) 8 r x y z s) = x_Pars_expression_b (clP d) d r x s from cU_uC _] at h; exact (gd_spec h).1⟩,
    fun r x y z s => ⟨by rw [show cU (clP (d + 1) 9 r x y z s) = x_Pars_level_b (clP d) d r x y s from cU_uC _]; exact dx_Pars_level_b O T (dclP O T d), fun w h => by rw [show cU (clP (d + 1) 9 r x y z s) = x_Pars_level_b (clP d) d r x y s from cU_uC _] at h; exact (gd_spec h).1⟩,
    fun r x y z s => ⟨by rw [show cU (clP (d + 1) 10 r x y z s) = x_Pars_signed_b (clP d) d r x s from cU_uC _]; exact dx_Pars_signed_b O T (dclP O T d), fun w h => by rw [show cU (clP (d + 1) 10 r x y z s) = x_Pars_signed_b (clP d) d r x s from cU_uC _] at h; exact (gd_spec h).1⟩,
    fun r x y z s => ⟨by rw [show cU (clP (d + 1) 11 r x y z s) = x_Pars_parts_b (clP d) d r x s from cU_uC _]; exact dx_Pars_parts_b O T (dclP O T d), fun w h => by rw [show cU (clP (d + 1) 11 r x y z s) = x_Pars_parts_b (clP d) d r x s from cU_uC _] at h; exact (gd_spec h).1⟩,
    fun r x y z s => ⟨by rw [show cU (clP (d + 1) 12 r x y z s) = x_Pars_atom_b (clP d) d r x s from cU_uC _]; exact dx_Pars_atom_b O T (dclP O T d), fun w h => by rw [show cU (clP (d + 1) 12 r x y z s) = x_Pars_atom_b (clP d) d r x s from cU_uC _] at h; exact (gd_spec h).1⟩,
    fun r x y z s => ⟨by rw [show clP (d + 1) 13 r x y z s = x_Pars_variableOrCall_b (clP d) d r x s from rfl]; exact dx_Pars_variableOrCall_b O T (dclP O T d), fun w h => by rw [show clP (d + 1) 13 r x y z s = x_Pars_variableOrCall_b (clP d) d r x s from rfl] at h; exact (gd_spec h).1⟩,
    fun r x y z s => ⟨by rw [show cU (clP (d + 1) 14 r x y z s) = x_Pars_withOne_b (clP d) d r x y s from cU_uC _]; exact dx_Pars_withOne_b O T (dclP O T d), fun w h => by rw [show cU (clP (d + 1) 14 r x y z s) = x_Pars_withOne_b (clP d) d r x y s from cU_uC _] at h; exact (gd_spec h).1⟩,
    fun r x y z s => ⟨by rw [show cU (clP (d + 1) 15 r x y z s) = x_Pars_inBrackets_b (clP d) d r x s from cU_uC _]; exact dx_Pars_inBrackets_b O T (dclP O T d), fun w h => by rw [show cU (clP (d + 1) 15 r x y z s) = x_Pars_inBrackets_b (clP d) d r x s from cU_uC _] at h; exact (gd_spec h).1⟩,
    fun r x y z s => ⟨by rw [show cU (clP (d + 1) 16 r x y z s) = x_Pars_pushAtom_b (clP d) d r x s from cU_uC _]; exact dx_Pars_pushAtom_b O T (dclP O T d), fun w h => by rw [show cU (clP (d + 1) 16 r x y z s) = x_Pars_pushAtom_b (clP d) d r x s from cU_uC _] at h; exact (gd_spec h).1⟩,
    fun r x y z s => ⟨by rw [show clP (d + 1) 17 r x y z s = x_Pars_list_b (clP d) d r x y z s from rfl]; exact dx_Pars_list_b O T (dclP O T d), fun w h => by rw [show clP (d + 1) 17 r x y z s = x_Pars_list_b (clP d) d r x y z s from rfl] at h; exact (gd_spec h).1⟩,
    fun r x y z s => ⟨by rw [show clP (d + 1) 18 r x y z s = x_Pars_fields_b (clP d) d r x s from rfl]; exact dx_Pars_fields_b O T (dclP O T d), fun w h => by rw [show clP (d + 1) 18 r x y z s = x_Pars_fields_b (clP d) d r x s from rfl] at h; exact (gd_spec h).1⟩,
    fun r x y z s => ⟨by rw [show cU (clP (d + 1) 19 r x y z s) = x_Pars_field_b (clP d) d r x s from cU_uC _]; exact dx_Pars_field_b O T (dclP O T d), fun w h => by rw [show cU (clP (d + 1) 19 r x y z s) = x_Pars_field_b (clP d) d r x s from cU_uC _] at h; exact (gd_spec h).1⟩⟩

def x_Pars_block (d : Nat) (x0 : Nat) (x1 : Int32) (s : HS) : Option (Unit × HS) := cU (clP d 0 x0 x1 0 0 s)

theorem dx_Pars_block (O : am_ok K X) (T : am_T K) {d : Nat} {x0 : Nat} {x1 : Int32} {s : HS} : xM cvU K X m_Pars_block d [.ref x0, .int x1] s (x_Pars_block d x0 x1 s) := ((dclP O T d).1 _ _ _ _ _).1

theorem ob_Pars_block {d : Nat} {x0 : Nat} {x1 : Int32} {s : HS} {y : Unit × HS} (h : x_Pars_block d x0 x1 s = some y) : isO s x0 5 = true := by
  unfold x_Pars_block at h
  cases d with
  | zero => cases h
  | succ d =>
    rw [show cU (clP (d + 1) 0 x0 x1 0 0 s) = x_Pars_block_b (clP d) d x0 x1 s from cU_uC _] at h
    exact (gd_spec h).1

def x_Pars_statement (d : Nat) (x0 : Nat) (x1 : Int32) (s : HS) : Option (Unit × HS) := cU (clP d 1 x0 x1 0 0 s)

theorem dx_Pars_statement (O : am_ok K X) (T : am_T K) {d : Nat} {x0 : Nat} {x1 : Int32} {s : HS} : xM cvU K X m_Pars_statement d [.ref x0, .int x1] s (x_Pars_statement d x0 x1 s) := ((dclP O T d).2.1 _ _ _ _ _).1

theorem ob_Pars_statement {d : Nat} {x0 : Nat} {x1 : Int32} {s : HS} {y : Unit × HS} (h : x_Pars_statement d x0 x1 s = some y) : isO s x0 5 = true := by
  unfold x_Pars_statement at h
  cases d with
  | zero => cases h
  | succ d =>
    rw [show cU (clP (d + 1) 1 x0 x1 0 0 s) = x_Pars_statement_b (clP d) d x0 x1 s from cU_uC _] at h
    exact (gd_spec h).1

def x_Pars_letStatement (d : Nat) (x0 : Nat) (x1 : Int32) (s : HS) : Option (Unit × HS) := cU (clP d 2 x0 x1 0 0 s)

theorem dx_Pars_letStatement (O : am_ok K X) (T : am_T K) {d : Nat} {x0 : Nat} {x1 : Int32} {s : HS} : xM cvU K X m_Pars_letStatement d [.ref x0, .int x1] s (x_Pars_letStatement d x0 x1 s) := ((dclP O T d).2.2.1 _ _ _ _ _).1

theorem ob_Pars_letStatement {d : Nat} {x0 : Nat} {x1 : Int32} {s : HS} {y : Unit × HS} (h : x_Pars_letStatement d x0 x1 s = some y) : isO s x0 5 = true := by
  unfold x_Pars_letStatement at h
  cases d with
  | zero => cases h
  | succ d =>
    rw [show cU (clP (d + 1) 2 x0 x1 0 0 s) = x_Pars_letStatement_b (clP d) d x0 x1 s from cU_uC _] at h
    exact (gd_spec h).1

def x_Pars_ifStatement (d : Nat) (x0 : Nat) (x1 : Int32) (s : HS) : Option (Unit × HS) := cU (clP d 3 x0 x1 0 0 s)

theorem dx_Pars_ifStatement (O : am_ok K X) (T : am_T K) {d : Nat} {x0 : Nat} {x1 : Int32} {s : HS} : xM cvU K X m_Pars_ifStatement d [.ref x0, .int x1] s (x_Pars_ifStatement d x0 x1 s) := ((dclP O T d).2.2.2.1 _ _ _ _ _).1

theorem ob_Pars_ifStatement {d : Nat} {x0 : Nat} {x1 : Int32} {s : HS} {y : Unit × HS} (h : x_Pars_ifStatement d x0 x1 s = some y) : isO s x0 5 = true := by
  unfold x_Pars_ifStatement at h
  cases d with
  | zero => cases h
  | succ d =>
    rw [show cU (clP (d + 1) 3 x0 x1 0 0 s) = x_Pars_ifStatement_b (clP d) d x0 x1 s from cU_uC _] at h
    exact (gd_spec h).1

def x_Pars_whileStatement (d : Nat) (x0 : Nat) (x1 : Int32) (s : HS) : Option (Unit × HS) := cU (clP d 4 x0 x1 0 0 s)

theorem dx_Pars_whileStatement (O : am_ok K X) (T : am_T K) {d : Nat} {x0 : Nat} {x1 : Int32} {s : HS} : xM cvU K X m_Pars_whileStatement d [.ref x0, .int x1] s (x_Pars_whileStatement d x0 x1 s) := ((dclP O T d).2.2.2.2.1 _ _ _ _ _).1

theorem ob_Pars_whileStatement {d : Nat} {x0 : Nat} {x1 : Int32} {s : HS} {y : Unit × HS} (h : x_Pars_whileStatement d x0 x1 s = some y) : isO s x0 5 = true := by
  unfold x_Pars_whileStatement at h
  cases d with
  | zero => cases h
  | succ d =>
    rw [show cU (clP (d + 1) 4 x0 x1 0 0 s) = x_Pars_whileStatement_b (clP d) d x0 x1 s from cU_uC _] at h
    exact (gd_spec h).1

def x_Pars_condition (d : Nat) (x0 : Nat) (x1 : Int32) (s : HS) : Option (Int32 × HS) := clP d 5 x0 x1 0 0 s

theorem dx_Pars_condition (O : am_ok K X) (T : am_T K) {d : Nat} {x0 : Nat} {x1 : Int32} {s : HS} : xM cvI K X m_Pars_condition d [.ref x0, .int x1] s (x_Pars_condition d x0 x1 s) := ((dclP O T d).2.2.2.2.2.1 _ _ _ _ _).1

theorem ob_Pars_condition {d : Nat} {x0 : Nat} {x1 : Int32} {s : HS} {y : Int32 × HS} (h : x_Pars_condition d x0 x1 s = some y) : isO s x0 5 = true := by
  unfold x_Pars_condition at h
  cases d with
  | zero => cases h
  | succ d =>
    rw [show clP (d + 1) 5 x0 x1 0 0 s = x_Pars_condition_b (clP d) d x0 x1 s from rfl] at h
    exact (gd_spec h).1

def x_Pars_returnStatement (d : Nat) (x0 : Nat) (x1 : Int32) (s : HS) : Option (Unit × HS) := cU (clP d 6 x0 x1 0 0 s)

theorem dx_Pars_returnStatement (O : am_ok K X) (T : am_T K) {d : Nat} {x0 : Nat} {x1 : Int32} {s : HS} : xM cvU K X m_Pars_returnStatement d [.ref x0, .int x1] s (x_Pars_returnStatement d x0 x1 s) := ((dclP O T d).2.2.2.2.2.2.1 _ _ _ _ _).1

theorem ob_Pars_returnStatement {d : Nat} {x0 : Nat} {x1 : Int32} {s : HS} {y : Unit × HS} (h : x_Pars_returnStatement d x0 x1 s = some y) : isO s x0 5 = true := by
  unfold x_Pars_returnStatement at h
  cases d with
  | zero => cases h
  | succ d =>
    rw [show cU (clP (d + 1) 6 x0 x1 0 0 s) = x_Pars_returnStatement_b (clP d) d x0 x1 s from cU_uC _] at h
    exact (gd_spec h).1

def x_Pars_plainStatement (d : Nat) (x0 : Nat) (x1 : Int32) (s : HS) : Option (Unit × HS) := cU (clP d 7 x0 x1 0 0 s)

theorem dx_Pars_plainStatement (O : am_ok K X) (T : am_T K) {d : Nat} {x0 : Nat} {x1 : Int32} {s : HS} : xM cvU K X m_Pars_plainStatement d [.ref x0, .int x1] s (x_Pars_plainStatement d x0 x1 s) := ((dclP O T d).2.2.2.2.2.2.2.1 _ _ _ _ _).1

theorem ob_Pars_plainStatement {d : Nat} {x0 : Nat} {x1 : Int32} {s : HS} {y : Unit × HS} (h : x_Pars_plainStatement d x0 x1 s = some y) : isO s x0 5 = true := by
  unfold x_Pars_plainStatement at h
  cases d with
  | zero => cases h
  | succ d =>
    rw [show cU (clP (d + 1) 7 x0 x1 0 0 s) = x_Pars_plainStatement_b (clP d) d x0 x1 s from cU_uC _] at h
    exact (gd_spec h).1

def x_Pars_expression (d : Nat) (x0 : Nat) (x1 : Int32) (s : HS) : Option (Unit × HS) := cU (clP d 8 x0 x1 0 0 s)

theorem dx_Pars_expression (O : am_ok K X) (T : am_T K) {d : Nat} {x0 : Nat} {x1 : Int32} {s : HS} : xM cvU K X m_Pars_expression d [.ref x0, .int x1] s (x_Pars_expression d x0 x1 s) := ((dclP O T d).2.2.2.2.2.2.2.2.1 _ _ _ _ _).1

theorem ob_Pars_expression {d : Nat} {x0 : Nat} {x1 : Int32} {s : HS} {y : Unit × HS} (h : x_Pars_expression d x0 x1 s = some y) : isO s x0 5 = true := by
  unfold x_Pars_expression at h
  cases d with
  | zero => cases h
  | succ d =>
    rw [show cU (clP (d + 1) 8 x0 x1 0 0 s) = x_Pars_expression_b (clP d) d x0 x1 s from cU_uC _] at h
    exact (gd_spec h).1

def x_Pars_level (d : Nat) (x0 : Nat) (x1 : Int32) (x2 : Int32) (s : HS) : Option (Unit × HS) := cU (clP d 9 x0 x1 x2 0 s)

theorem dx_Pars_level (O : am_ok K X) (T : am_T K) {d : Nat} {x0 : Nat} {x1 : Int32} {x2 : Int32} {s : HS} : xM cvU K X m_Pars_level d [.ref x0, .int x1, .int x2] s (x_Pars_level d x0 x1 x2 s) := ((dclP O T d).2.2.2.2.2.2.2.2.2.1 _ _ _ _ _).1

theorem ob_Pars_level {d : Nat} {x0 : Nat} {x1 : Int32} {x2 : Int32} {s : HS} {y : Unit × HS} (h : x_Pars_level d x0 x1 x2 s = some y) : isO s x0 5 = true := by
  unfold x_Pars_level at h
  cases d with
  | zero => cases h
  | succ d =>
    rw [show cU (clP (d + 1) 9 x0 x1 x2 0 s) = x_Pars_level_b (clP d) d x0 x1 x2 s from cU_uC _] at h
    exact (gd_spec h).1

def x_Pars_signed (d : Nat) (x0 : Nat) (x1 : Int32) (s : HS) : Option (Unit × HS) := cU (clP d 10 x0 x1 0 0 s)

theorem dx_Pars_signed (O : am_ok K X) (T : am_T K) {d : Nat} {x0 : Nat} {x1 : Int32} {s : HS} : xM cvU K X m_Pars_signed d [.ref x0, .int x1] s (x_Pars_signed d x0 x1 s) := ((dclP O T d).2.2.2.2.2.2.2.2.2.2.1 _ _ _ _ _).1

theorem ob_Pars_signed {d : Nat} {x0 : Nat} {x1 : Int32} {s : HS} {y : Unit × HS} (h : x_Pars_signed d x0 x1 s = some y) : isO s x0 5 = true := by
  unfold x_Pars_signed at h
  cases d with
  | zero => cases h
  | succ d =>
    rw [show cU (clP (d + 1) 10 x0 x1 0 0 s) = x_Pars_signed_b (clP d) d x0 x1 s from cU_uC _] at h
    exact (gd_spec h).1

def x_Pars_parts (d : Nat) (x0 : Nat) (x1 : Int32) (s : HS) : Option (Unit × HS) := cU (clP d 11 x0 x1 0 0 s)

theorem dx_Pars_parts (O : am_ok K X) (T : am_T K) {d : Nat} {x0 : Nat} {x1 : Int32} {s : HS} : xM cvU K X m_Pars_parts d [.ref x0, .int x1] s (x_Pars_parts d x0 x1 s) := ((dclP O T d).2.2.2.2.2.2.2.2.2.2.2.1 _ _ _ _ _).1

theorem ob_Pars_parts {d : Nat} {x0 : Nat} {x1 : Int32} {s : HS} {y : Unit × HS} (h : x_Pars_parts d x0 x1 s = some y) : isO s x0 5 = true := by
  unfold x_Pars_parts at h
  cases d with
  | zero => cases h
  | succ d =>
    rw [show cU (clP (d + 1) 11 x0 x1 0 0 s) = x_Pars_parts_b (clP d) d x0 x1 s from cU_uC _] at h
    exact (gd_spec h).1

def x_Pars_atom (d : Nat) (x0 : Nat) (x1 : Int32) (s : HS) : Option (Unit × HS) := cU (clP d 12 x0 x1 0 0 s)

theorem dx_Pars_atom (O : am_ok K X) (T : am_T K) {d : Nat} {x0 : Nat} {x1 : Int32} {s : HS} : xM cvU K X m_Pars_atom d [.ref x0, .int x1] s (x_Pars_atom d x0 x1 s) := ((dclP O T d).2.2.2.2.2.2.2.2.2.2.2.2.1 _ _ _ _ _).1

theorem ob_Pars_atom {d : Nat} {x0 : Nat} {x1 : Int32} {s : HS} {y : Unit × HS} (h : x_Pars_atom d x0 x1 s = some y) : isO s x0 5 = true := by
  unfold x_Pars_atom at h
  cases d with
  | zero => cases h
  | succ d =>
    rw [show cU (clP (d + 1) 12 x0 x1 0 0 s) = x_Pars_atom_b (clP d) d x0 x1 s from cU_uC _] at h
    exact (gd_spec h).1

def x_Pars_variableOrCall (d : Nat) (x0 : Nat) (x1 : Int32) (s : HS) : Option (Int32 × HS) := clP d 13 x0 x1 0 0 s

theorem dx_Pars_variableOrCall (O : am_ok K X) (T : am_T K) {d : Nat} {x0 : Nat} {x1 : Int32} {s : HS} : xM cvI K X m_Pars_variableOrCall d [.ref x0, .int x1] s (x_Pars_variableOrCall d x0 x1 s) := ((dclP O T d).2.2.2.2.2.2.2.2.2.2.2.2.2.1 _ _ _ _ _).1

theorem ob_Pars_variableOrCall {d : Nat} {x0 : Nat} {x1 : Int32} {s : HS} {y : Int32 × HS} (h : x_Pars_variableOrCall d x0 x1 s = some y) : isO s x0 5 = true := by
  unfold x_Pars_variableOrCall at h
  cases d with
  | zero => cases h
  | succ d =>
    rw [show clP (d + 1) 13 x0 x1 0 0 s = x_Pars_variableOrCall_b (clP d) d x0 x1 s from rfl] at h
    exact (gd_spec h).1

def x_Pars_withOne (d : Nat) (x0 : Nat) (x1 : Int32) (x2 : Int32) (s : HS) : Option (Unit × HS) := cU (clP d 14 x0 x1 x2 0 s)

theorem dx_Pars_withOne (O : am_ok K X) (T : am_T K) {d : Nat} {x0 : Nat} {x1 : Int32} {x2 : Int32} {s : HS} : xM cvU K X m_Pars_withOne d [.ref x0, .int x1, .int x2] s (x_Pars_withOne d x0 x1 x2 s) := ((dclP O T d).2.2.2.2.2.2.2.2.2.2.2.2.2.2.1 _ _ _ _ _).1

theorem ob_Pars_withOne {d : Nat} {x0 : Nat} {x1 : Int32} {x2 : Int32} {s : HS} {y : Unit × HS} (h : x_Pars_withOne d x0 x1 x2 s = some y) : isO s x0 5 = true := by
  unfold x_Pars_withOne at h
  cases d with
  | zero => cases h
  | succ d =>
    rw [show cU (clP (d + 1) 14 x0 x1 x2 0 s) = x_Pars_withOne_b (clP d) d x0 x1 x2 s from cU_uC _] at h
    exact (gd_spec h).1

def x_Pars_inBrackets (d : Nat) (x0 : Nat) (x1 : Int32) (s : HS) : Option (Unit × HS) := cU (clP d 15 x0 x1 0 0 s)

theorem dx_Pars_inBrackets (O : am_ok K X) (T : am_T K) {d : Nat} {x0 : Nat} {x1 : Int32} {s : HS} : xM cvU K X m_Pars_inBrackets d [.ref x0, .int x1] s (x_Pars_inBrackets d x0 x1 s) := ((dclP O T d).2.2.2.2.2.2.2.2.2.2.2.2.2.2.2.1 _ _ _ _ _).1

theorem ob_Pars_inBrackets {d : Nat} {x0 : Nat} {x1 : Int32} {s : HS} {y : Unit × HS} (h : x_Pars_inBrackets d x0 x1 s = some y) : isO s x0 5 = true := by
  unfold x_Pars_inBrackets at h
  cases d with
  | zero => cases h
  | succ d =>
    rw [show cU (clP (d + 1) 15 x0 x1 0 0 s) = x_Pars_inBrackets_b (clP d) d x0 x1 s from cU_uC _] at h
    exact (gd_spec h).1

def x_Pars_pushAtom (d : Nat) (x0 : Nat) (x1 : Int32) (s : HS) : Option (Unit × HS) := cU (clP d 16 x0 x1 0 0 s)

theorem dx_Pars_pushAtom (O : am_ok K X) (T : am_T K) {d : Nat} {x0 : Nat} {x1 : Int32} {s : HS} : xM cvU K X m_Pars_pushAtom d [.ref x0, .int x1] s (x_Pars_pushAtom d x0 x1 s) := ((dclP O T d).2.2.2.2.2.2.2.2.2.2.2.2.2.2.2.2.1 _ _ _ _ _).1

theorem ob_Pars_pushAtom {d : Nat} {x0 : Nat} {x1 : Int32} {s : HS} {y : Unit × HS} (h : x_Pars_pushAtom d x0 x1 s = some y) : isO s x0 5 = true := by
  unfold x_Pars_pushAtom at h
  cases d with
  | zero => cases h
  | succ d =>
    rw [show cU (clP (d + 1) 16 x0 x1 0 0 s) = x_Pars_pushAtom_b (clP d) d x0 x1 s from cU_uC _] at h
    exact (gd_spec h).1

def x_Pars_list (d : Nat) (x0 : Nat) (x1 : Int32) (x2 : Int32) (x3 : Int32) (s : HS) : Option (Int32 × HS) := clP d 17 x0 x1 x2 x3 s

theorem dx_Pars_list (O : am_ok K X) (T : am_T K) {d : Nat} {x0 : Nat} {x1 : Int32} {x2 : Int32} {x3 : Int32} {s : HS} : xM cvI K X m_Pars_list d [.ref x0, .int x1, .int x2, .int x3] s (x_Pars_list d x0 x1 x2 x3 s) := ((dclP O T d).2.2.2.2.2.2.2.2.2.2.2.2.2.2.2.2.2.1 _ _ _ _ _).1

theorem ob_Pars_list {d : Nat} {x0 : Nat} {x1 : Int32} {x2 : Int32} {x3 : Int32} {s : HS} {y : Int32 × HS} (h : x_Pars_list d x0 x1 x2 x3 s = some y) : isO s x0 5 = true := by
  unfold x_Pars_list at h
  cases d with
  | zero => cases h
  | succ d =>
    rw [show clP (d + 1) 17 x0 x1 x2 x3 s = x_Pars_list_b (clP d) d x0 x1 x2 x3 s from rfl] at h
    exact (gd_spec h).1

def x_Pars_fields (d : Nat) (x0 : Nat) (x1 : Int32) (s : HS) : Option (Int32 × HS) := clP d 18 x0 x1 0 0 s

theorem dx_Pars_fields (O : am_ok K X) (T : am_T K) {d : Nat} {x0 : Nat} {x1 : Int32} {s : HS} : xM cvI K X m_Pars_fields d [.ref x0, .int x1] s (x_Pars_fields d x0 x1 s) := ((dclP O T d).2.2.2.2.2.2.2.2.2.2.2.2.2.2.2.2.2.2.1 _ _ _ _ _).1

theorem ob_Pars_fields {d : Nat} {x0 : Nat} {x1 : Int32} {s : HS} {y : Int32 × HS} (h : x_Pars_fields d x0 x1 s = some y) : isO s x0 5 = true := by
  unfold x_Pars_fields at h
  cases d with
  | zero => cases h
  | succ d =>
    rw [show clP (d + 1) 18 x0 x1 0 0 s = x_Pars_fields_b (clP d) d x0 x1 s from rfl] at h
    exact (gd_spec h).1

def x_Pars_field (d : Nat) (x0 : Nat) (x1 : Int32) (s : HS) : Option (Unit × HS) := cU (clP d 19 x0 x1 0 0 s)

theorem dx_Pars_field (O : am_ok K X) (T : am_T K) {d : Nat} {x0 : Nat} {x1 : Int32} {s : HS} : xM cvU K X m_Pars_field d [.ref x0, .int x1] s (x_Pars_field d x0 x1 s) := ((dclP O T d).2.2.2.2.2.2.2.2.2.2.2.2.2.2.2.2.2.2.2 _ _ _ _ _).1

theorem ob_Pars_field {d : Nat} {x0 : Nat} {x1 : Int32} {s : HS} {y : Unit × HS} (h : x_Pars_field d x0 x1 s = some y) : isO s x0 5 = true := by
  unfold x_Pars_field at h
  cases d with
  | zero => cases h
  | succ d =>
    rw [show cU (clP (d + 1) 19 x0 x1 0 0 s) = x_Pars_field_b (clP d) d x0 x1 s from cU_uC _] at h
    exact (gd_spec h).1
end
