section
variable {K : am_K} {X : Nat → am_C}
def scr (xs : Nat → Int32) (L : Nat) (i : Int32) : Option Int32 := if ¬ i < 0 ∧ i.toNatClampNeg < L then some (xs i.toNatClampNeg) else none
theorem xW_scr {α : Type} {cv : α → Option Value} {M : am_M} {d pc : Nat} {lv : List (Nat × Value)} {st : List Value} {s : HS} {L : Nat} {xs : Nat → Int32} (XS : va_T .int (am_ad K 0) L (fun j => .int (xs j)) (am_A K) K.1 K.1.heap) {i : Int32} {c : Int32 → Option (α × HS)} (hd : decode M.2.1 pc = .ok (.iaload, 1)) (kk : ∀ x, scr xs L i = some x → xW cv K X M d (pc + 1) lv (.int x :: st) s (c x)) : xW cv K X M d pc lv (.int i :: .ref 0 :: st) s ((scr xs L i).bind c) :=
  xW_bind fun x hx => by
    have hx' := hx
    unfold scr at hx'
    split at hx'
    · next cc =>
      cases hx'
      exact xW_pure (fun _ _ _ _ _ => am_ialdE (f := fun j => .int (xs j)) XS hd (fun q => q.elim cc.1 (fun q => absurd cc.2 (by omega))) rfl) (kk _ hx)
    · cases hx'

set_option maxRecDepth 100000 in
def x_Law (xs : Nat → Int32) (L : Nat) (d : Nat) (i : Int32) (s : HS) : Option (Int32 × HS) := loopK (fun (again18 : Int32 × HS → Option (Int32 × HS)) (z18 : Int32 × HS) => (if ((Int32.ofNat L) - 6) < z18.1 then (some (1, z18.2)) else ((scr xs L z18.1).bind fun v2 => (if (v2 &&& 15) = 0 then ((scr xs L (z18.1 + 1)).bind fun v3 => ((scr xs L (z18.1 + 2)).bind fun v4 => ((scr xs L (z18.1 + 3)).bind fun v5 => ((scr xs L (z18.1 + 4)).bind fun v6 => ((scr xs L (z18.1 + 5)).bind fun v7 => (bnd (x_Stow_feed d 128 v3 v4 v5 v6 v7 z18.2) fun v9 s8 => ((scr xs L (z18.1 + 1)).bind fun v10 => ((scr xs L (z18.1 + 2)).bind fun v11 => ((scr xs L (z18.1 + 3)).bind fun v12 => ((scr xs L (z18.1 + 4)).bind fun v13 => ((scr xs L (z18.1 + 5)).bind fun v14 => (bnd (x_Mod_feed d 160 v10 v11 v12 v13 v14 s8) fun v16 s15 => (if v9 = v16 then (again18 ((z18.1 + 6), s15)) else (some (0, s15))))))))))))))) else (if (v2 &&& 15) = 1 then ((scr xs L (z18.1 + 1)).bind fun v17 => (bnd (x_Stow_end d 128 v17 z18.2) fun v19 s18 => ((scr xs L (z18.1 + 1)).bind fun v20 => (bnd (x_Mod_end d 160 v20 s18) fun v22 s21 => (if v19 = v22 then (again18 ((z18.1 + 6), s21)) else (some (0, s21))))))) else (if (v2 &&& 15) = 2 then ((scr xs L (z18.1 + 1)).bind fun v23 => (bnd (x_Stow_run d 128 v23 z18.2) fun v25 s24 => ((scr xs L (z18.1 + 1)).bind fun v26 => (bnd (x_Mod_run d 160 v26 s24) fun v28 s27 => (if v25 = v28 then (again18 ((z18.1 + 6), s27)) else (some (0, s27))))))) else (if (v2 &&& 15) = 3 then (bnd (x_Stow_value d 128 z18.2) fun v30 s29 => (bnd (x_Mod_value_ d 160 s29) fun v32 s31 => (if (lg_cmp v30 v32) = 0 then (again18 ((z18.1 + 6), s31)) else (some (0, s31))))) else (if (v2 &&& 15) = 4 then ((scr xs L (z18.1 + 1)).bind fun v33 => (bnd (x_Stow_octet d 128 v33 z18.2) fun v35 s34 => ((scr xs L (z18.1 + 1)).bind fun v36 => (bnd (x_Mod_octet d 160 v36 s34) fun v38 s37 => (if v35 = v38 then (again18 ((z18.1 + 6), s37)) else (some (0, s37))))))) else (if (v2 &&& 15) = 5 then (bnd (x_Stow_root d 128 z18.2) fun v40 s39 => (bnd (x_Mod_root d 160 s39) fun v42 s41 => (if (lg_cmp v40 v42) = 0 then (again18 ((z18.1 + 6), s41)) else (some (0, s41))))) else (if (v2 &&& 15) = 6 then (bnd (x_Stow_sync d 128 z18.2) fun v44 s43 => (bnd (x_Mod_sync d 160 s43) fun v46 s45 => (if v44 = v46 then (again18 ((z18.1 + 6), s45)) else (some (0, s45))))) else (if (v2 &&& 15) = 7 then ((scr xs L (z18.1 + 1)).bind fun v47 => (bnd (x_Stow_crash d 128 v47 z18.2) fun v49 s48 => ((scr xs L (z18.1 + 1)).bind fun v50 => (bnd (x_Mod_crash d 160 v50 s48) fun v52 s51 => (if v49 = v52 then (again18 ((z18.1 + 6), s51)) else (some (0, s51))))))) else (if (v2 &&& 15) = 8 then (bnd (x_Stow_sweep d 128 z18.2) fun v54 s53 => (bnd (x_Mod_sweep d 160 s53) fun v56 s55 => (if v54 = v56 then (again18 ((z18.1 + 6), s55)) else (some (0, s55))))) else (if (v2 &&& 15) = 9 then ((scr xs L (z18.1 + 1)).bind fun v57 => (bnd (x_Stow_count d 128 v57 z18.2) fun v59 s58 => ((scr xs L (z18.1 + 1)).bind fun v60 => (bnd (x_Mod_count d 160 v60 s58) fun v62 s61 => (if v59 = v62 then (again18 ((z18.1 + 6), s61)) else (some (0, s61))))))) else (again18 ((z18.1 + 6), z18.2))))))))))))))) FU (i, s)

set_option maxRecDepth 100000 in
set_option maxHeartbeats 4000000 in
theorem dx_Law (O : am_ok K X) (T2 : am_T2 K) {d : Nat} {nm : String} {L : Nat} {xs : Nat → Int32} (XS : va_T .int (am_ad K 0) L (fun j => .int (xs j)) (am_A K) K.1 K.1.heap) {i : Int32} {s : HS} : xW cvI K X (m_Law_law nm) (d + 1) 18 [(0, .ref 0), (1, .ref 128), (2, .ref 160), (3, .int i)] [] s (x_Law xs L d i s) := by
  have T := T2.1
  unfold x_Law
  refine xW_locs (lv' := [(0, .ref 0), (1, .ref 128), (2, .ref 160), (3, .int i)]) rfl ?_
  refine xW_loop (lvf := fun (z18 : Int32 × HS) => [(0, .ref 0), (1, .ref 128), (2, .ref 160), (3, .int z18.1)]) (hsf := fun (z18 : Int32 × HS) => z18.2) (fun again18 ih18 z18 => ?_) FU (i, s)
  refine xW_pure (fun _ _ _ _ _ => am_iload_n d_Law_law_18 rfl rfl) ?_
  refine xW_pure (fun _ _ _ _ _ => am_aload_n d_Law_law_19 rfl rfl) ?_
  refine xW_pure (fun _ _ _ _ _ => am_alenE XS d_Law_law_20) ?_
  refine xW_pure (fun _ _ _ _ _ => am_bipush (v := 6) d_Law_law_21 (by decide)) ?_
  refine xW_pure (fun _ _ _ _ _ => am_isub d_Law_law_23) ?_
  refine xW_ite (fun _ _ _ _ _ => am_icmp_gt (tgt := 326) d_Law_law_24 (by decide)) (fun _ => ?_) (fun _ => ?_)
  · refine xW_pure (fun _ _ _ _ _ => am_iconst (v := 1) d_Law_law_326 (by decide)) ?_
    exact xW_ret (fun _ _ _ _ _ => am_zret (ty := .boolean) rfl rfl d_Law_law_327)
  · refine xW_pure (fun _ _ _ _ _ => am_aload_n d_Law_law_27 rfl rfl) ?_
    refine xW_pure (fun _ _ _ _ _ => am_iload_n d_Law_law_28 rfl rfl) ?_
    refine xW_scr XS d_Law_law_29 (fun v2 _ => ?_)
    refine xW_pure (fun _ _ _ _ _ => am_bipush (v := 15) d_Law_law_30 (by decide)) ?_
    refine xW_pure (fun _ _ _ _ _ => am_iand d_Law_law_32) ?_
    refine xW_by (fun c33_0 => ?_) (fun c33_0 => ?_)
    · refine xW_pure (fun _ _ _ _ _ => am_tableIn (off := 55) (tgt := 88) d_Law_law_33 (by rw [c33_0]; decide) (by rw [c33_0]; decide) (by rw [c33_0]; rfl) (by decide)) ?_
      refine xW_pure (fun _ _ _ _ _ => am_aload_n d_Law_law_88 rfl rfl) ?_
      refine xW_pure (fun _ _ _ _ _ => am_aload_n d_Law_law_89 rfl rfl) ?_
      refine xW_pure (fun _ _ _ _ _ => am_iload_n d_Law_law_90 rfl rfl) ?_
      refine xW_pure (fun _ _ _ _ _ => am_iconst (v := 1) d_Law_law_91 (by decide)) ?_
      refine xW_pure (fun _ _ _ _ _ => am_iadd d_Law_law_92) ?_
      refine xW_scr XS d_Law_law_93 (fun v3 _ => ?_)
      refine xW_pure (fun _ _ _ _ _ => am_aload_n d_Law_law_94 rfl rfl) ?_
      refine xW_pure (fun _ _ _ _ _ => am_iload_n d_Law_law_95 rfl rfl) ?_
      refine xW_pure (fun _ _ _ _ _ => am_iconst (v := 2) d_Law_law_96 (by decide)) ?_
      refine xW_pure (fun _ _ _ _ _ => am_iadd d_Law_law_97) ?_
      refine xW_scr XS d_Law_law_98 (fun v4 _ => ?_)
      refine xW_pure (fun _ _ _ _ _ => am_aload_n d_Law_law_99 rfl rfl) ?_
      refine xW_pure (fun _ _ _ _ _ => am_iload_n d_Law_law_100 rfl rfl) ?_
      refine xW_pure (fun _ _ _ _ _ => am_iconst (v := 3) d_Law_law_101 (by decide)) ?_
      refine xW_pure (fun _ _ _ _ _ => am_iadd d_Law_law_102) ?_
      refine xW_scr XS d_Law_law_103 (fun v5 _ => ?_)
      refine xW_pure (fun _ _ _ _ _ => am_aload_n d_Law_law_104 rfl rfl) ?_
      refine xW_pure (fun _ _ _ _ _ => am_iload_n d_Law_law_105 rfl rfl) ?_
      refine xW_pure (fun _ _ _ _ _ => am_iconst (v := 4) d_Law_law_106 (by decide)) ?_
      refine xW_pure (fun _ _ _ _ _ => am_iadd d_Law_law_107) ?_
      refine xW_scr XS d_Law_law_108 (fun v6 _ => ?_)
      refine xW_pure (fun _ _ _ _ _ => am_aload_n d_Law_law_109 rfl rfl) ?_
      refine xW_pure (fun _ _ _ _ _ => am_iload_n d_Law_law_110 rfl rfl) ?_
      refine xW_pure (fun _ _ _ _ _ => am_iconst (v := 5) d_Law_law_111 (by decide)) ?_
      refine xW_pure (fun _ _ _ _ _ => am_iadd d_Law_law_112) ?_
      refine xW_scr XS d_Law_law_113 (fun v7 _ => ?_)
      refine xW_callV O (dx_Stow_feed O T) (fun _ e => ob_Stow_feed e) rfl rfl rfl l_Law_13 ⟨w_527, w_528⟩ rfl (Nat.le_of_ble_eq_true rfl) d_Law_law_114 (fun v9 s8 _ => ?_)
      refine xW_pure (fun _ _ _ _ _ => am_aload_n d_Law_law_117 rfl rfl) ?_
      refine xW_pure (fun _ _ _ _ _ => am_aload_n d_Law_law_118 rfl rfl) ?_
      refine xW_pure (fun _ _ _ _ _ => am_iload_n d_Law_law_119 rfl rfl) ?_
      refine xW_pure (fun _ _ _ _ _ => am_iconst (v := 1) d_Law_law_120 (by decide)) ?_
      refine xW_pure (fun _ _ _ _ _ => am_iadd d_Law_law_121) ?_
      refine xW_scr XS d_Law_law_122 (fun v10 _ => ?_)
      refine xW_pure (fun _ _ _ _ _ => am_aload_n d_Law_law_123 rfl rfl) ?_
      refine xW_pure (fun _ _ _ _ _ => am_iload_n d_Law_law_124 rfl rfl) ?_
      refine xW_pure (fun _ _ _ _ _ => am_iconst (v := 2) d_Law_law_125 (by decide)) ?_
      refine xW_pure (fun _ _ _ _ _ => am_iadd d_Law_law_126) ?_
      refine xW_scr XS d_Law_law_127 (fun v11 _ => ?_)
      refine xW_pure (fun _ _ _ _ _ => am_aload_n d_Law_law_128 rfl rfl) ?_
      refine xW_pure (fun _ _ _ _ _ => am_iload_n d_Law_law_129 rfl rfl) ?_
      refine xW_pure (fun _ _ _ _ _ => am_iconst (v := 3) d_Law_law_130 (by decide)) ?_
      refine xW_pure (fun _ _ _ _ _ => am_iadd d_Law_law_131) ?_
      refine xW_scr XS d_Law_law_132 (fun v12 _ => ?_)
      refine xW_pure (fun _ _ _ _ _ => am_aload_n d_Law_law_133 rfl rfl) ?_
      refine xW_pure (fun _ _ _ _ _ => am_iload_n d_Law_law_134 rfl rfl) ?_
      refine xW_pure (fun _ _ _ _ _ => am_iconst (v := 4) d_Law_law_135 (by decide)) ?_
      refine xW_pure (fun _ _ _ _ _ => am_iadd d_Law_law_136) ?_
      refine xW_scr XS d_Law_law_137 (fun v13 _ => ?_)
      refine xW_pure (fun _ _ _ _ _ => am_aload_n d_Law_law_138 rfl rfl) ?_
      refine xW_pure (fun _ _ _ _ _ => am_iload_n d_Law_law_139 rfl rfl) ?_
      refine xW_pure (fun _ _ _ _ _ => am_iconst (v := 5) d_Law_law_140 (by decide)) ?_
      refine xW_pure (fun _ _ _ _ _ => am_iadd d_Law_law_141) ?_
      refine xW_scr XS d_Law_law_142 (fun v14 _ => ?_)
      refine xW_callV O (dx_Mod_feed O T) (fun _ e => ob_Mod_feed e) rfl rfl rfl l_Law_17 ⟨w_1783, w_1784⟩ rfl (Nat.le_of_ble_eq_true rfl) d_Law_law_143 (fun v16 s15 _ => ?_)
      refine xW_ite (fun _ _ _ _ _ => am_icmp_eq (tgt := 320) d_Law_law_146 (by decide)) (fun _ => ?_) (fun _ => ?_)
      · refine xW_pure (fun _ _ _ _ _ => am_iinc (v := 6) d_Law_law_320 rfl (by decide) (Nat.le_of_ble_eq_true rfl)) ?_
        refine xW_pure (fun _ _ _ _ _ => am_goto (tgt := 18) d_Law_law_323 (by decide)) ?_
        refine xW_locs (lv' := [(0, .ref 0), (1, .ref 128), (2, .ref 160), (3, .int (z18.1 + 6))]) rfl ?_
        exact ih18 ((z18.1 + 6), s15)
      · refine xW_pure (fun _ _ _ _ _ => am_iconst (v := 0) d_Law_law_149 (by decide)) ?_
        exact xW_ret (fun _ _ _ _ _ => am_zret (ty := .boolean) rfl rfl d_Law_law_150)
    · refine xW_by (fun c33_1 => ?_) (fun c33_1 => ?_)
      · refine xW_pure (fun _ _ _ _ _ => am_tableIn (off := 118) (tgt := 151) d_Law_law_33 (by rw [c33_1]; decide) (by rw [c33_1]; decide) (by rw [c33_1]; rfl) (by decide)) ?_
        refine xW_pure (fun _ _ _ _ _ => am_aload_n d_Law_law_151 rfl rfl) ?_
        refine xW_pure (fun _ _ _ _ _ => am_aload_n d_Law_law_152 rfl rfl) ?_
        refine xW_pure (fun _ _ _ _ _ => am_iload_n d_Law_law_153 rfl rfl) ?_
        refine xW_pure (fun _ _ _ _ _ => am_iconst (v := 1) d_Law_law_154 (by decide)) ?_
        refine xW_pure (fun _ _ _ _ _ => am_iadd d_Law_law_155) ?_
        refine xW_scr XS d_Law_law_156 (fun v17 _ => ?_)
        refine xW_callV O (dx_Stow_end O T) (fun _ e => ob_Stow_end e) rfl rfl rfl l_Law_18 ⟨w_535, w_536⟩ rfl (Nat.le_of_ble_eq_true rfl) d_Law_law_157 (fun v19 s18 _ => ?_)
        refine xW_pure (fun _ _ _ _ _ => am_aload_n d_Law_law_160 rfl rfl) ?_
        refine xW_pure (fun _ _ _ _ _ => am_aload_n d_Law_law_161 rfl rfl) ?_
        refine xW_pure (fun _ _ _ _ _ => am_iload_n d_Law_law_162 rfl rfl) ?_
        refine xW_pure (fun _ _ _ _ _ => am_iconst (v := 1) d_Law_law_163 (by decide)) ?_
        refine xW_pure (fun _ _ _ _ _ => am_iadd d_Law_law_164) ?_
        refine xW_scr XS d_Law_law_165 (fun v20 _ => ?_)
        refine xW_callV O (dx_Mod_end O T) (fun _ e => ob_Mod_end e) rfl rfl rfl l_Law_22 ⟨w_1787, w_1788⟩ rfl (Nat.le_of_ble_eq_true rfl) d_Law_law_166 (fun v22 s21 _ => ?_)
        refine xW_ite (fun _ _ _ _ _ => am_icmp_eq (tgt := 320) d_Law_law_169 (by decide)) (fun _ => ?_) (fun _ => ?_)
        · refine xW_pure (fun _ _ _ _ _ => am_iinc (v := 6) d_Law_law_320 rfl (by decide) (Nat.le_of_ble_eq_true rfl)) ?_
          refine xW_pure (fun _ _ _ _ _ => am_goto (tgt := 18) d_Law_law_323 (by decide)) ?_
          refine xW_locs (lv' := [(0, .ref 0), (1, .ref 128), (2, .ref 160), (3, .int (z18.1 + 6))]) rfl ?_
          exact ih18 ((z18.1 + 6), s21)
        · refine xW_pure (fun _ _ _ _ _ => am_iconst (v := 0) d_Law_law_172 (by decide)) ?_
          exact xW_ret (fun _ _ _ _ _ => am_zret (ty := .boolean) rfl rfl d_Law_law_173)
      · refine xW_by (fun c33_2 => ?_) (fun c33_2 => ?_)
        · refine xW_pure (fun _ _ _ _ _ => am_tableIn (off := 141) (tgt := 174) d_Law_law_33 (by rw [c33_2]; decide) (by rw [c33_2]; decide) (by rw [c33_2]; rfl) (by decide)) ?_
          refine xW_pure (fun _ _ _ _ _ => am_aload_n d_Law_law_174 rfl rfl) ?_
          refine xW_pure (fun _ _ _ _ _ => am_aload_n d_Law_law_175 rfl rfl) ?_
          refine xW_pure (fun _ _ _ _ _ => am_iload_n d_Law_law_176 rfl rfl) ?_
          refine xW_pure (fun _ _ _ _ _ => am_iconst (v := 1) d_Law_law_177 (by decide)) ?_
          refine xW_pure (fun _ _ _ _ _ => am_iadd d_Law_law_178) ?_
          refine xW_scr XS d_Law_law_179 (fun v23 _ => ?_)
          refine xW_callV O (dx_Stow_run O T2) (fun _ e => ob_Stow_run e) rfl rfl rfl l_Law_23 ⟨w_539, w_540⟩ rfl (Nat.le_of_ble_eq_true rfl) d_Law_law_180 (fun v25 s24 _ => ?_)
          refine xW_pure (fun _ _ _ _ _ => am_aload_n d_Law_law_183 rfl rfl) ?_
          refine xW_pure (fun _ _ _ _ _ => am_aload_n d_Law_law_184 rfl rfl) ?_
          refine xW_pure (fun _ _ _ _ _ => am_iload_n d_Law_law_185 rfl rfl) ?_
          refine xW_pure (fun _ _ _ _ _ => am_iconst (v := 1) d_Law_law_186 (by decide)) ?_
          refine xW_pure (fun _ _ _ _ _ => am_iadd d_Law_law_187) ?_
          refine xW_scr XS d_Law_law_188 (fun v26 _ => ?_)
          refine xW_callV O (dx_Mod_run O T) (fun _ e => ob_Mod_run e) rfl rfl rfl l_Law_26 ⟨w_1794, w_1795⟩ rfl (Nat.le_of_ble_eq_true rfl) d_Law_law_189 (fun v28 s27 _ => ?_)
          refine xW_ite (fun _ _ _ _ _ => am_icmp_eq (tgt := 320) d_Law_law_192 (by decide)) (fun _ => ?_) (fun _ => ?_)
          · refine xW_pure (fun _ _ _ _ _ => am_iinc (v := 6) d_Law_law_320 rfl (by decide) (Nat.le_of_ble_eq_true rfl)) ?_
            refine xW_pure (fun _ _ _ _ _ => am_goto (tgt := 18) d_Law_law_323 (by decide)) ?_
            refine xW_locs (lv' := [(0, .ref 0), (1, .ref 128), (2, .ref 160), (3, .int (z18.1 + 6))]) rfl ?_
            exact ih18 ((z18.1 + 6), s27)
          · refine xW_pure (fun _ _ _ _ _ => am_iconst (v := 0) d_Law_law_195 (by decide)) ?_
            exact xW_ret (fun _ _ _ _ _ => am_zret (ty := .boolean) rfl rfl d_Law_law_196)
        · refine xW_by (fun c33_3 => ?_) (fun c33_3 => ?_)
          · refine xW_pure (fun _ _ _ _ _ => am_tableIn (off := 164) (tgt := 197) d_Law_law_33 (by rw [c33_3]; decide) (by rw [c33_3]; decide) (by rw [c33_3]; rfl) (by decide)) ?_
            refine xW_pure (fun _ _ _ _ _ => am_aload_n d_Law_law_197 rfl rfl) ?_
            refine xW_callV O (dx_Stow_value O T) (fun _ e => ob_Stow_value e) rfl rfl rfl l_Law_27 ⟨w_1371, w_1372⟩ rfl (Nat.le_of_ble_eq_true rfl) d_Law_law_198 (fun v30 s29 _ => ?_)
            refine xW_pure (fun _ _ _ _ _ => am_aload_n d_Law_law_201 rfl rfl) ?_
            refine xW_callV O (dx_Mod_value_ O T) (fun _ e => ob_Mod_value_ e) rfl rfl rfl l_Law_31 ⟨w_2162, w_2163⟩ rfl (Nat.le_of_ble_eq_true rfl) d_Law_law_202 (fun v32 s31 _ => ?_)
            refine xW_pure (fun _ _ _ _ _ => am_lcmp d_Law_law_205) ?_
            refine xW_ite (fun _ _ _ _ _ => am_if_eq (tgt := 320) d_Law_law_206 (by decide)) (fun _ => ?_) (fun _ => ?_)
            · refine xW_pure (fun _ _ _ _ _ => am_iinc (v := 6) d_Law_law_320 rfl (by decide) (Nat.le_of_ble_eq_true rfl)) ?_
              refine xW_pure (fun _ _ _ _ _ => am_goto (tgt := 18) d_Law_law_323 (by decide)) ?_
              refine xW_locs (lv' := [(0, .ref 0), (1, .ref 128), (2, .ref 160), (3, .int (z18.1 + 6))]) rfl ?_
              exact ih18 ((z18.1 + 6), s31)
            · refine xW_pure (fun _ _ _ _ _ => am_iconst (v := 0) d_Law_law_209 (by decide)) ?_
              exact xW_ret (fun _ _ _ _ _ => am_zret (ty := .boolean) rfl rfl d_Law_law_210)
          · refine xW_by (fun c33_4 => ?_) (fun c33_4 => ?_)
            · refine xW_pure (fun _ _ _ _ _ => am_tableIn (off := 178) (tgt := 211) d_Law_law_33 (by rw [c33_4]; decide) (by rw [c33_4]; decide) (by rw [c33_4]; rfl) (by decide)) ?_
              refine xW_pure (fun _ _ _ _ _ => am_aload_n d_Law_law_211 rfl rfl) ?_
              refine xW_pure (fun _ _ _ _ _ => am_aload_n d_Law_law_212 rfl rfl) ?_
              refine xW_pure (fun _ _ _ _ _ => am_iload_n d_Law_law_213 rfl rfl) ?_
              refine xW_pure (fun _ _ _ _ _ => am_iconst (v := 1) d_Law_law_214 (by decide)) ?_
              refine xW_pure (fun _ _ _ _ _ => am_iadd d_Law_law_215) ?_
              refine xW_scr XS d_Law_law_216 (fun v33 _ => ?_)
              refine xW_callV O (dx_Stow_octet O T) (fun _ e => ob_Stow_octet e) rfl rfl rfl l_Law_32 ⟨w_1384, w_1385⟩ rfl (Nat.le_of_ble_eq_true rfl) d_Law_law_217 (fun v35 s34 _ => ?_)
              refine xW_pure (fun _ _ _ _ _ => am_aload_n d_Law_law_220 rfl rfl) ?_
              refine xW_pure (fun _ _ _ _ _ => am_aload_n d_Law_law_221 rfl rfl) ?_
              refine xW_pure (fun _ _ _ _ _ => am_iload_n d_Law_law_222 rfl rfl) ?_
              refine xW_pure (fun _ _ _ _ _ => am_iconst (v := 1) d_Law_law_223 (by decide)) ?_
              refine xW_pure (fun _ _ _ _ _ => am_iadd d_Law_law_224) ?_
              refine xW_scr XS d_Law_law_225 (fun v36 _ => ?_)
              refine xW_callV O (dx_Mod_octet O T) (fun _ e => ob_Mod_octet e) rfl rfl rfl l_Law_35 ⟨w_2169, w_2170⟩ rfl (Nat.le_of_ble_eq_true rfl) d_Law_law_226 (fun v38 s37 _ => ?_)
              refine xW_ite (fun _ _ _ _ _ => am_icmp_eq (tgt := 320) d_Law_law_229 (by decide)) (fun _ => ?_) (fun _ => ?_)
              · refine xW_pure (fun _ _ _ _ _ => am_iinc (v := 6) d_Law_law_320 rfl (by decide) (Nat.le_of_ble_eq_true rfl)) ?_
                refine xW_pure (fun _ _ _ _ _ => am_goto (tgt := 18) d_Law_law_323 (by decide)) ?_
                refine xW_locs (lv' := [(0, .ref 0), (1, .ref 128), (2, .ref 160), (3, .int (z18.1 + 6))]) rfl ?_
                exact ih18 ((z18.1 + 6), s37)
              · refine xW_pure (fun _ _ _ _ _ => am_iconst (v := 0) d_Law_law_232 (by decide)) ?_
                exact xW_ret (fun _ _ _ _ _ => am_zret (ty := .boolean) rfl rfl d_Law_law_233)
            · refine xW_by (fun c33_5 => ?_) (fun c33_5 => ?_)
              · refine xW_pure (fun _ _ _ _ _ => am_tableIn (off := 201) (tgt := 234) d_Law_law_33 (by rw [c33_5]; decide) (by rw [c33_5]; decide) (by rw [c33_5]; rfl) (by decide)) ?_
                refine xW_pure (fun _ _ _ _ _ => am_aload_n d_Law_law_234 rfl rfl) ?_
                refine xW_callV O (dx_Stow_root O T) (fun _ e => ob_Stow_root e) rfl rfl rfl l_Law_36 ⟨w_1396, w_1397⟩ rfl (Nat.le_of_ble_eq_true rfl) d_Law_law_235 (fun v40 s39 _ => ?_)
                refine xW_pure (fun _ _ _ _ _ => am_aload_n d_Law_law_238 rfl rfl) ?_
                refine xW_callV O (dx_Mod_root O T) (fun _ e => ob_Mod_root e) rfl rfl rfl l_Law_39 ⟨w_2174, w_2175⟩ rfl (Nat.le_of_ble_eq_true rfl) d_Law_law_239 (fun v42 s41 _ => ?_)
                refine xW_pure (fun _ _ _ _ _ => am_lcmp d_Law_law_242) ?_
                refine xW_ite (fun _ _ _ _ _ => am_if_eq (tgt := 320) d_Law_law_243 (by decide)) (fun _ => ?_) (fun _ => ?_)
                · refine xW_pure (fun _ _ _ _ _ => am_iinc (v := 6) d_Law_law_320 rfl (by decide) (Nat.le_of_ble_eq_true rfl)) ?_
                  refine xW_pure (fun _ _ _ _ _ => am_goto (tgt := 18) d_Law_law_323 (by decide)) ?_
                  refine xW_locs (lv' := [(0, .ref 0), (1, .ref 128), (2, .ref 160), (3, .int (z18.1 + 6))]) rfl ?_
                  exact ih18 ((z18.1 + 6), s41)
                · refine xW_pure (fun _ _ _ _ _ => am_iconst (v := 0) d_Law_law_246 (by decide)) ?_
                  exact xW_ret (fun _ _ _ _ _ => am_zret (ty := .boolean) rfl rfl d_Law_law_247)
              · refine xW_by (fun c33_6 => ?_) (fun c33_6 => ?_)
                · refine xW_pure (fun _ _ _ _ _ => am_tableIn (off := 215) (tgt := 248) d_Law_law_33 (by rw [c33_6]; decide) (by rw [c33_6]; decide) (by rw [c33_6]; rfl) (by decide)) ?_
                  refine xW_pure (fun _ _ _ _ _ => am_aload_n d_Law_law_248 rfl rfl) ?_
                  refine xW_callV O (dx_Stow_sync O T) (fun _ e => ob_Stow_sync e) rfl rfl rfl l_Law_40 ⟨w_1406, w_1407⟩ rfl (Nat.le_of_ble_eq_true rfl) d_Law_law_249 (fun v44 s43 _ => ?_)
                  refine xW_pure (fun _ _ _ _ _ => am_aload_n d_Law_law_252 rfl rfl) ?_
                  refine xW_callV O (dx_Mod_sync O T) (fun _ e => ob_Mod_sync e) rfl rfl rfl l_Law_44 ⟨w_2143, w_2144⟩ rfl (Nat.le_of_ble_eq_true rfl) d_Law_law_253 (fun v46 s45 _ => ?_)
                  refine xW_ite (fun _ _ _ _ _ => am_icmp_eq (tgt := 320) d_Law_law_256 (by decide)) (fun _ => ?_) (fun _ => ?_)
                  · refine xW_pure (fun _ _ _ _ _ => am_iinc (v := 6) d_Law_law_320 rfl (by decide) (Nat.le_of_ble_eq_true rfl)) ?_
                    refine xW_pure (fun _ _ _ _ _ => am_goto (tgt := 18) d_Law_law_323 (by decide)) ?_
                    refine xW_locs (lv' := [(0, .ref 0), (1, .ref 128), (2, .ref 160), (3, .int (z18.1 + 6))]) rfl ?_
                    exact ih18 ((z18.1 + 6), s45)
                  · refine xW_pure (fun _ _ _ _ _ => am_iconst (v := 0) d_Law_law_259 (by decide)) ?_
                    exact xW_ret (fun _ _ _ _ _ => am_zret (ty := .boolean) rfl rfl d_Law_law_260)
                · refine xW_by (fun c33_7 => ?_) (fun c33_7 => ?_)
                  · refine xW_pure (fun _ _ _ _ _ => am_tableIn (off := 228) (tgt := 261) d_Law_law_33 (by rw [c33_7]; decide) (by rw [c33_7]; decide) (by rw [c33_7]; rfl) (by decide)) ?_
                    refine xW_pure (fun _ _ _ _ _ => am_aload_n d_Law_law_261 rfl rfl) ?_
                    refine xW_pure (fun _ _ _ _ _ => am_aload_n d_Law_law_262 rfl rfl) ?_
                    refine xW_pure (fun _ _ _ _ _ => am_iload_n d_Law_law_263 rfl rfl) ?_
                    refine xW_pure (fun _ _ _ _ _ => am_iconst (v := 1) d_Law_law_264 (by decide)) ?_
                    refine xW_pure (fun _ _ _ _ _ => am_iadd d_Law_law_265) ?_
                    refine xW_scr XS d_Law_law_266 (fun v47 _ => ?_)
                    refine xW_callV O (dx_Stow_crash O T) (fun _ e => ob_Stow_crash e) rfl rfl rfl l_Law_45 ⟨w_1415, w_1416⟩ rfl (Nat.le_of_ble_eq_true rfl) d_Law_law_267 (fun v49 s48 _ => ?_)
                    refine xW_pure (fun _ _ _ _ _ => am_aload_n d_Law_law_270 rfl rfl) ?_
                    refine xW_pure (fun _ _ _ _ _ => am_aload_n d_Law_law_271 rfl rfl) ?_
                    refine xW_pure (fun _ _ _ _ _ => am_iload_n d_Law_law_272 rfl rfl) ?_
                    refine xW_pure (fun _ _ _ _ _ => am_iconst (v := 1) d_Law_law_273 (by decide)) ?_
                    refine xW_pure (fun _ _ _ _ _ => am_iadd d_Law_law_274) ?_
                    refine xW_scr XS d_Law_law_275 (fun v50 _ => ?_)
                    refine xW_callV O (dx_Mod_crash O T) (fun _ e => ob_Mod_crash e) rfl rfl rfl l_Law_48 ⟨w_2147, w_2148⟩ rfl (Nat.le_of_ble_eq_true rfl) d_Law_law_276 (fun v52 s51 _ => ?_)
                    refine xW_ite (fun _ _ _ _ _ => am_icmp_eq (tgt := 320) d_Law_law_279 (by decide)) (fun _ => ?_) (fun _ => ?_)
                    · refine xW_pure (fun _ _ _ _ _ => am_iinc (v := 6) d_Law_law_320 rfl (by decide) (Nat.le_of_ble_eq_true rfl)) ?_
                      refine xW_pure (fun _ _ _ _ _ => am_goto (tgt := 18) d_Law_law_323 (by decide)) ?_
                      refine xW_locs (lv' := [(0, .ref 0), (1, .ref 128), (2, .ref 160), (3, .int (z18.1 + 6))]) rfl ?_
                      exact ih18 ((z18.1 + 6), s51)
                    · refine xW_pure (fun _ _ _ _ _ => am_iconst (v := 0) d_Law_law_282 (by decide)) ?_
                      exact xW_ret (fun _ _ _ _ _ => am_zret (ty := .boolean) rfl rfl d_Law_law_283)
                  · refine xW_by (fun c33_8 => ?_) (fun c33_8 => ?_)
                    · refine xW_pure (fun _ _ _ _ _ => am_tableIn (off := 251) (tgt := 284) d_Law_law_33 (by rw [c33_8]; decide) (by rw [c33_8]; decide) (by rw [c33_8]; rfl) (by decide)) ?_
                      refine xW_pure (fun _ _ _ _ _ => am_aload_n d_Law_law_284 rfl rfl) ?_
                      refine xW_callV O (dx_Stow_sweep O T) (fun _ e => ob_Stow_sweep e) rfl rfl rfl l_Law_49 ⟨w_1427, w_1428⟩ rfl (Nat.le_of_ble_eq_true rfl) d_Law_law_285 (fun v54 s53 _ => ?_)
                      refine xW_pure (fun _ _ _ _ _ => am_aload_n d_Law_law_288 rfl rfl) ?_
                      refine xW_callV O (dx_Mod_sweep O T) (fun _ e => ob_Mod_sweep e) rfl rfl rfl l_Law_52 ⟨w_2151, w_2152⟩ rfl (Nat.le_of_ble_eq_true rfl) d_Law_law_289 (fun v56 s55 _ => ?_)
                      refine xW_ite (fun _ _ _ _ _ => am_icmp_eq (tgt := 320) d_Law_law_292 (by decide)) (fun _ => ?_) (fun _ => ?_)
                      · refine xW_pure (fun _ _ _ _ _ => am_iinc (v := 6) d_Law_law_320 rfl (by decide) (Nat.le_of_ble_eq_true rfl)) ?_
                        refine xW_pure (fun _ _ _ _ _ => am_goto (tgt := 18) d_Law_law_323 (by decide)) ?_
                        refine xW_locs (lv' := [(0, .ref 0), (1, .ref 128), (2, .ref 160), (3, .int (z18.1 + 6))]) rfl ?_
                        exact ih18 ((z18.1 + 6), s55)
                      · refine xW_pure (fun _ _ _ _ _ => am_iconst (v := 0) d_Law_law_295 (by decide)) ?_
                        exact xW_ret (fun _ _ _ _ _ => am_zret (ty := .boolean) rfl rfl d_Law_law_296)
                    · refine xW_by (fun c33_9 => ?_) (fun c33_9 => ?_)
                      · refine xW_pure (fun _ _ _ _ _ => am_tableIn (off := 264) (tgt := 297) d_Law_law_33 (by rw [c33_9]; decide) (by rw [c33_9]; decide) (by rw [c33_9]; rfl) (by decide)) ?_
                        refine xW_pure (fun _ _ _ _ _ => am_aload_n d_Law_law_297 rfl rfl) ?_
                        refine xW_pure (fun _ _ _ _ _ => am_aload_n d_Law_law_298 rfl rfl) ?_
                        refine xW_pure (fun _ _ _ _ _ => am_iload_n d_Law_law_299 rfl rfl) ?_
                        refine xW_pure (fun _ _ _ _ _ => am_iconst (v := 1) d_Law_law_300 (by decide)) ?_
                        refine xW_pure (fun _ _ _ _ _ => am_iadd d_Law_law_301) ?_
                        refine xW_scr XS d_Law_law_302 (fun v57 _ => ?_)
                        refine xW_callV O (dx_Stow_count O T) (fun _ e => ob_Stow_count e) rfl rfl rfl l_Law_53 ⟨w_1462, w_1463⟩ rfl (Nat.le_of_ble_eq_true rfl) d_Law_law_303 (fun v59 s58 _ => ?_)
                        refine xW_pure (fun _ _ _ _ _ => am_aload_n d_Law_law_306 rfl rfl) ?_
                        refine xW_pure (fun _ _ _ _ _ => am_aload_n d_Law_law_307 rfl rfl) ?_
                        refine xW_pure (fun _ _ _ _ _ => am_iload_n d_Law_law_308 rfl rfl) ?_
                        refine xW_pure (fun _ _ _ _ _ => am_iconst (v := 1) d_Law_law_309 (by decide)) ?_
                        refine xW_pure (fun _ _ _ _ _ => am_iadd d_Law_law_310) ?_
                        refine xW_scr XS d_Law_law_311 (fun v60 _ => ?_)
                        refine xW_callV O (dx_Mod_count O T) (fun _ e => ob_Mod_count e) rfl rfl rfl l_Law_56 ⟨w_2178, w_2179⟩ rfl (Nat.le_of_ble_eq_true rfl) d_Law_law_312 (fun v62 s61 _ => ?_)
                        refine xW_ite (fun _ _ _ _ _ => am_icmp_eq (tgt := 320) d_Law_law_315 (by decide)) (fun _ => ?_) (fun _ => ?_)
                        · refine xW_pure (fun _ _ _ _ _ => am_iinc (v := 6) d_Law_law_320 rfl (by decide) (Nat.le_of_ble_eq_true rfl)) ?_
                          refine xW_pure (fun _ _ _ _ _ => am_goto (tgt := 18) d_Law_law_323 (by decide)) ?_
                          refine xW_locs (lv' := [(0, .ref 0), (1, .ref 128), (2, .ref 160), (3, .int (z18.1 + 6))]) rfl ?_
                          exact ih18 ((z18.1 + 6), s61)
                        · refine xW_pure (fun _ _ _ _ _ => am_iconst (v := 0) d_Law_law_318 (by decide)) ?_
                          exact xW_ret (fun _ _ _ _ _ => am_zret (ty := .boolean) rfl rfl d_Law_law_319)
                      · have e33_0 := lk_ne c33_0 (show (0 : Int32).toInt = 0 by decide)
                        have e33_1 := lk_ne c33_1 (show (1 : Int32).toInt = 1 by decide)
                        have e33_2 := lk_ne c33_2 (show (2 : Int32).toInt = 2 by decide)
                        have e33_3 := lk_ne c33_3 (show (3 : Int32).toInt = 3 by decide)
                        have e33_4 := lk_ne c33_4 (show (4 : Int32).toInt = 4 by decide)
                        have e33_5 := lk_ne c33_5 (show (5 : Int32).toInt = 5 by decide)
                        have e33_6 := lk_ne c33_6 (show (6 : Int32).toInt = 6 by decide)
                        have e33_7 := lk_ne c33_7 (show (7 : Int32).toInt = 7 by decide)
                        have e33_8 := lk_ne c33_8 (show (8 : Int32).toInt = 8 by decide)
                        have e33_9 := lk_ne c33_9 (show (9 : Int32).toInt = 9 by decide)
                        refine xW_pure (fun _ _ _ _ _ => am_tableOut (tgt := 320) d_Law_law_33 (by omega) (by decide)) ?_
                        refine xW_pure (fun _ _ _ _ _ => am_iinc (v := 6) d_Law_law_320 rfl (by decide) (Nat.le_of_ble_eq_true rfl)) ?_
                        refine xW_pure (fun _ _ _ _ _ => am_goto (tgt := 18) d_Law_law_323 (by decide)) ?_
                        refine xW_locs (lv' := [(0, .ref 0), (1, .ref 128), (2, .ref 160), (3, .int (z18.1 + 6))]) rfl ?_
                        exact ih18 ((z18.1 + 6), z18.2)
end
