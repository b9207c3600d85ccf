section
variable {K : am_K} {X : Nat → am_C}
set_option maxRecDepth 100000 in
def x_Mod_things (d : Nat) (x0 : Nat) (x1 : Int32) (s : HS) : Option (Int32 × HS) := match d with
  | 0 => none
  | d + 1 => gd s x0 14 (if x1 = 17 then ((gR s x0 14 37).bind fun v1 => ((gR s v1 11 0).bind fun v2 => ((gI s x0 14 41).bind fun v3 => ((aI s v2 (v3 - 1)).bind fun v4 => (if 2 ≤ v4 then ((gR s x0 14 37).bind fun v5 => ((gI s x0 14 41).bind fun v6 => ((gR s x0 14 37).bind fun v7 => ((gR s v7 11 0).bind fun v8 => ((gI s x0 14 41).bind fun v9 => ((aI s v8 (v9 - 1)).bind fun v10 => (if v10 = 2 then ((gR s x0 14 37).bind fun v11 => ((gR s v11 11 1).bind fun v12 => ((gI s x0 14 41).bind fun v13 => ((aI s v12 (v13 - 1)).bind fun v14 => (bnd (x_Vals_set d v5 (v6 - 1) 1 0 (v14 : Int32).toInt64 0 s) fun v16 s15 => (some ((-1), s15))))))) else ((gR s x0 14 31).bind fun v17 => ((gR s v17 13 1).bind fun v18 => ((gR s x0 14 37).bind fun v19 => ((gR s v19 11 2).bind fun v20 => ((gI s x0 14 41).bind fun v21 => ((aL s v20 (v21 - 1)).bind fun v22 => ((aI s v18 (v22 : Int64).toInt32).bind fun v23 => (bnd (x_Vals_set d v5 (v6 - 1) 1 0 (v23 : Int32).toInt64 0 s) fun v25 s24 => (some ((-1), s24))))))))))))))))) else (some (2, s))))))) else (if x1 = 18 then ((gI s x0 14 41).bind fun v26 => ((pV s x0 14 41 (.int (v26 - 1))).bind fun s27 => ((gR s27 x0 14 37).bind fun v28 => ((gR s27 v28 11 0).bind fun v29 => ((gI s27 x0 14 41).bind fun v30 => ((aI s27 v29 (v30 - 1)).bind fun v31 => (if v31 = 4 then ((gR s27 x0 14 37).bind fun v32 => ((gR s27 v32 11 2).bind fun v33 => ((gI s27 x0 14 41).bind fun v34 => ((aL s27 v33 (v34 - 1)).bind fun v35 => ((gR s27 x0 14 31).bind fun v36 => ((gR s27 v36 13 1).bind fun v37 => ((aI s27 v37 (v35 : Int64).toInt32).bind fun v38 => (if v38 = 20 then (some (4, s27)) else ((gR s27 x0 14 31).bind fun v39 => ((gR s27 v39 13 5).bind fun v40 => ((gR s27 x0 14 31).bind fun v41 => ((gR s27 v41 13 1).bind fun v42 => ((aI s27 v42 (v35 : Int64).toInt32).bind fun v43 => ((gR s27 x0 14 37).bind fun v44 => ((gI s27 x0 14 41).bind fun v45 => (bnd (x_Vals_copy d v40 ((20 * (v35 : Int64).toInt32) + v43) v44 v45 s27) fun v47 s46 => ((gR s46 x0 14 31).bind fun v48 => ((gR s46 v48 13 1).bind fun v49 => ((aI s46 v49 (v35 : Int64).toInt32).bind fun v50 => ((sV s46 .int v49 (v35 : Int64).toInt32 (.int (v50 + 1))).bind fun s51 => (some ((-1), s51)))))))))))))))))))))) else (some (2, s27))))))))) else (if x1 = 19 then ((gR s x0 14 37).bind fun v52 => ((gR s v52 11 0).bind fun v53 => ((gI s x0 14 41).bind fun v54 => ((aI s v53 (v54 - 1)).bind fun v55 => (if v55 = 4 then ((gR s x0 14 37).bind fun v56 => ((gR s v56 11 2).bind fun v57 => ((gI s x0 14 41).bind fun v58 => ((aL s v57 (v58 - 1)).bind fun v59 => ((gR s x0 14 31).bind fun v60 => ((gR s v60 13 1).bind fun v61 => ((aI s v61 (v59 : Int64).toInt32).bind fun v62 => (if v62 = 0 then (some (3, s)) else ((gR s x0 14 31).bind fun v63 => ((gR s v63 13 1).bind fun v64 => ((aI s v64 (v59 : Int64).toInt32).bind fun v65 => ((sV s .int v64 (v59 : Int64).toInt32 (.int (v65 - 1))).bind fun s66 => ((gR s66 x0 14 37).bind fun v67 => ((gI s66 x0 14 41).bind fun v68 => ((gR s66 x0 14 31).bind fun v69 => ((gR s66 v69 13 5).bind fun v70 => ((gR s66 x0 14 31).bind fun v71 => ((gR s66 v71 13 1).bind fun v72 => ((aI s66 v72 (v59 : Int64).toInt32).bind fun v73 => (bnd (x_Vals_copy d v67 (v68 - 1) v70 ((20 * (v59 : Int64).toInt32) + v73) s66) fun v75 s74 => (some ((-1), s74)))))))))))))))))))))) else (some (2, s))))))) else (if x1 = 20 then (bnd (x_Mod_next d x0 s) fun v77 s76 => (bnd (x_Mod_make d x0 3 s76) fun v79 s78 => (if 0 ≤ v79 then ((gI s78 x0 14 41).bind fun v80 => ((pV s78 x0 14 41 (.int (v80 - v77))).bind fun s81 => (loopK (fun (again369 : Int32 × HS → Option (Int32 × HS)) (z369 : Int32 × HS) => (if v77 ≤ z369.1 then (bnd (x_Mod_push d x0 3 (v79 : Int32).toInt64 z369.2) fun v83 s82 => (some ((-1), s82))) else (bnd (x_Mod_next d x0 z369.2) fun v85 s84 => (bnd (x_Mod_text d x0 v85 s84) fun v87 s86 => ((gR s86 x0 14 37).bind fun v88 => ((gI s86 x0 14 41).bind fun v89 => (bnd (x_Mod_setField d x0 v79 v87 v88 (v89 + z369.1) s86) fun v91 s90 => (if v91 ≤ 0 then (again369 ((z369.1 + 1), s90)) else (some (v91, s90)))))))))) FU (0, s81)))) else (some (8, s78))))) else (bnd (x_Mod_next d x0 s) fun v93 s92 => (bnd (x_Mod_make d x0 4 s92) fun v95 s94 => (if 0 ≤ v95 then (if v93 ≤ 20 then ((gI s94 x0 14 41).bind fun v96 => ((pV s94 x0 14 41 (.int (v96 - v93))).bind fun s97 => (loopK (fun (again463 : Int32 × HS → Option (Int32 × HS)) (z463 : Int32 × HS) => (if v93 ≤ z463.1 then ((gR z463.2 x0 14 31).bind fun v98 => ((gR z463.2 v98 13 1).bind fun v99 => ((sV z463.2 .int v99 v95 (.int v93)).bind fun s100 => (bnd (x_Mod_push d x0 4 (v95 : Int32).toInt64 s100) fun v102 s101 => (some ((-1), s101)))))) else ((gR z463.2 x0 14 31).bind fun v103 => ((gR z463.2 v103 13 5).bind fun v104 => ((gR z463.2 x0 14 37).bind fun v105 => ((gI z463.2 x0 14 41).bind fun v106 => (bnd (x_Vals_copy d v104 ((20 * v95) + z463.1) v105 (v106 + z463.1) z463.2) fun v108 s107 => (again463 ((z463.1 + 1), s107))))))))) FU (0, s97)))) else (some (4, s94))) else (some (8, s94)))))))))

set_option maxRecDepth 100000 in
set_option maxHeartbeats 4000000 in
theorem dx_Mod_things (O : am_ok K X) (T : am_T K) {d : Nat} {x0 : Nat} {x1 : Int32} {s : HS} : xM cvI K X m_Mod_things d [.ref x0, .int x1] s (x_Mod_things d x0 x1 s) := by
  cases d with
  | zero => exact xM_none
  | succ d =>
    unfold x_Mod_things
    refine xM_enter (by decide +kernel) (Nat.le_of_ble_eq_true rfl) ?_
    refine xW_gd (fun _ => ?_)
    refine xW_pure (fun _ _ _ _ _ => am_iload_n d_Mod_things_0 rfl rfl) ?_
    refine xW_by (fun c1_0 => ?_) (fun c1_0 => ?_)
    · refine xW_pure (fun _ _ _ _ _ => am_tableIn (off := 31) (tgt := 32) d_Mod_things_1 (by rw [c1_0]; decide) (by rw [c1_0]; decide) (by rw [c1_0]; rfl) (by decide)) ?_
      refine xW_pure (fun _ _ _ _ _ => am_aload_n d_Mod_things_32 rfl rfl) ?_
      refine xW_gR O f_Mod_368 d_Mod_things_33 (fun v1 _ => ?_)
      refine xW_gR O f_Mod_515 d_Mod_things_36 (fun v2 _ => ?_)
      refine xW_pure (fun _ _ _ _ _ => am_aload_n d_Mod_things_39 rfl rfl) ?_
      refine xW_gI O f_Mod_486 d_Mod_things_40 (fun v3 _ => ?_)
      refine xW_pure (fun _ _ _ _ _ => am_iconst (v := 1) d_Mod_things_43 (by decide)) ?_
      refine xW_pure (fun _ _ _ _ _ => am_isub d_Mod_things_44) ?_
      refine xW_aI O d_Mod_things_45 (fun v4 _ => ?_)
      refine xW_pure (fun _ _ _ _ _ => am_iconst (v := 2) d_Mod_things_46 (by decide)) ?_
      refine xW_ite (fun _ _ _ _ _ => am_icmp_ge (tgt := 52) d_Mod_things_47 (by decide)) (fun _ => ?_) (fun _ => ?_)
      · refine xW_pure (fun _ _ _ _ _ => am_aload_n d_Mod_things_52 rfl rfl) ?_
        refine xW_gR O f_Mod_368 d_Mod_things_53 (fun v5 _ => ?_)
        refine xW_pure (fun _ _ _ _ _ => am_aload_n d_Mod_things_56 rfl rfl) ?_
        refine xW_gI O f_Mod_486 d_Mod_things_57 (fun v6 _ => ?_)
        refine xW_pure (fun _ _ _ _ _ => am_iconst (v := 1) d_Mod_things_60 (by decide)) ?_
        refine xW_pure (fun _ _ _ _ _ => am_isub d_Mod_things_61) ?_
        refine xW_pure (fun _ _ _ _ _ => am_iconst (v := 1) d_Mod_things_62 (by decide)) ?_
        refine xW_pure (fun _ _ _ _ _ => am_iconst (v := 0) d_Mod_things_63 (by decide)) ?_
        refine xW_pure (fun _ _ _ _ _ => am_aload_n d_Mod_things_64 rfl rfl) ?_
        refine xW_gR O f_Mod_368 d_Mod_things_65 (fun v7 _ => ?_)
        refine xW_gR O f_Mod_515 d_Mod_things_68 (fun v8 _ => ?_)
        refine xW_pure (fun _ _ _ _ _ => am_aload_n d_Mod_things_71 rfl rfl) ?_
        refine xW_gI O f_Mod_486 d_Mod_things_72 (fun v9 _ => ?_)
        refine xW_pure (fun _ _ _ _ _ => am_iconst (v := 1) d_Mod_things_75 (by decide)) ?_
        refine xW_pure (fun _ _ _ _ _ => am_isub d_Mod_things_76) ?_
        refine xW_aI O d_Mod_things_77 (fun v10 _ => ?_)
        refine xW_pure (fun _ _ _ _ _ => am_iconst (v := 2) d_Mod_things_78 (by decide)) ?_
        refine xW_ite (fun _ _ _ _ _ k1 k2 => am_icmp_ne (tgt := 100) d_Mod_things_79 (by decide) k2 k1) (fun _ => ?_) (fun _ => ?_)
        · refine xW_pure (fun _ _ _ _ _ => am_aload_n d_Mod_things_82 rfl rfl) ?_
          refine xW_gR O f_Mod_368 d_Mod_things_83 (fun v11 _ => ?_)
          refine xW_gR O f_Mod_565 d_Mod_things_86 (fun v12 _ => ?_)
          refine xW_pure (fun _ _ _ _ _ => am_aload_n d_Mod_things_89 rfl rfl) ?_
          refine xW_gI O f_Mod_486 d_Mod_things_90 (fun v13 _ => ?_)
          refine xW_pure (fun _ _ _ _ _ => am_iconst (v := 1) d_Mod_things_93 (by decide)) ?_
          refine xW_pure (fun _ _ _ _ _ => am_isub d_Mod_things_94) ?_
          refine xW_aI O d_Mod_things_95 (fun v14 _ => ?_)
          refine xW_pure (fun _ _ _ _ _ => am_i2l d_Mod_things_96 rfl) ?_
          refine xW_pure (fun _ _ _ _ _ => am_goto (tgt := 124) d_Mod_things_97 (by decide)) ?_
          refine xW_pure (fun _ _ _ _ _ => am_lconst (v := 0) d_Mod_things_124 (by decide)) ?_
          refine xW_callV O (dx_Vals_set O T) (fun _ e => ob_Vals_set e) rfl rfl rfl l_Mod_114 ⟨w_1914, w_1915⟩ rfl (Nat.le_of_ble_eq_true rfl) d_Mod_things_125 (fun v16 s15 _ => ?_)
          refine xW_pure (fun _ _ _ _ _ => am_iconst (v := (-1)) d_Mod_things_128 (by decide)) ?_
          exact xW_ret (fun _ _ _ _ _ => am_iret rfl d_Mod_things_129)
        · refine xW_pure (fun _ _ _ _ _ => am_aload_n d_Mod_things_100 rfl rfl) ?_
          refine xW_gR O f_Mod_353 d_Mod_things_101 (fun v17 _ => ?_)
          refine xW_gR O f_Mod_558 d_Mod_things_104 (fun v18 _ => ?_)
          refine xW_pure (fun _ _ _ _ _ => am_aload_n d_Mod_things_107 rfl rfl) ?_
          refine xW_gR O f_Mod_368 d_Mod_things_108 (fun v19 _ => ?_)
          refine xW_gR O f_Mod_508 d_Mod_things_111 (fun v20 _ => ?_)
          refine xW_pure (fun _ _ _ _ _ => am_aload_n d_Mod_things_114 rfl rfl) ?_
          refine xW_gI O f_Mod_486 d_Mod_things_115 (fun v21 _ => ?_)
          refine xW_pure (fun _ _ _ _ _ => am_iconst (v := 1) d_Mod_things_118 (by decide)) ?_
          refine xW_pure (fun _ _ _ _ _ => am_isub d_Mod_things_119) ?_
          refine xW_aL O d_Mod_things_120 (fun v22 _ => ?_)
          refine xW_pure (fun _ _ _ _ _ => am_l2i d_Mod_things_121 rfl) ?_
          refine xW_aI O d_Mod_things_122 (fun v23 _ => ?_)
          refine xW_pure (fun _ _ _ _ _ => am_i2l d_Mod_things_123 rfl) ?_
          refine xW_pure (fun _ _ _ _ _ => am_lconst (v := 0) d_Mod_things_124 (by decide)) ?_
          refine xW_callV O (dx_Vals_set O T) (fun _ e => ob_Vals_set e) rfl rfl rfl l_Mod_114 ⟨w_1914, w_1915⟩ rfl (Nat.le_of_ble_eq_true rfl) d_Mod_things_125 (fun v25 s24 _ => ?_)
          refine xW_pure (fun _ _ _ _ _ => am_iconst (v := (-1)) d_Mod_things_128 (by decide)) ?_
          exact xW_ret (fun _ _ _ _ _ => am_iret rfl d_Mod_things_129)
      · refine xW_pure (fun _ _ _ _ _ => am_iconst (v := 2) d_Mod_things_50 (by decide)) ?_
        exact xW_ret (fun _ _ _ _ _ => am_iret rfl d_Mod_things_51)
    · refine xW_by (fun c1_1 => ?_) (fun c1_1 => ?_)
      · refine xW_pure (fun _ _ _ _ _ => am_tableIn (off := 129) (tgt := 130) d_Mod_things_1 (by rw [c1_1]; decide) (by rw [c1_1]; decide) (by rw [c1_1]; rfl) (by decide)) ?_
        refine xW_pure (fun _ _ _ _ _ => am_aload_n d_Mod_things_130 rfl rfl) ?_
        refine xW_pure (fun _ _ _ _ _ => am_dup d_Mod_things_131 rfl) ?_
        refine xW_gI O f_Mod_486 d_Mod_things_132 (fun v26 _ => ?_)
        refine xW_pure (fun _ _ _ _ _ => am_iconst (v := 1) d_Mod_things_135 (by decide)) ?_
        refine xW_pure (fun _ _ _ _ _ => am_isub d_Mod_things_136) ?_
        refine xW_put O f_Mod_486 d_Mod_things_137 (fun q hq => by cases hq; exact ⟨rfl, rfl, rfl⟩) (fun s27 _ => ?_)
        refine xW_pure (fun _ _ _ _ _ => am_aload_n d_Mod_things_140 rfl rfl) ?_
        refine xW_gR O f_Mod_368 d_Mod_things_141 (fun v28 _ => ?_)
        refine xW_gR O f_Mod_515 d_Mod_things_144 (fun v29 _ => ?_)
        refine xW_pure (fun _ _ _ _ _ => am_aload_n d_Mod_things_147 rfl rfl) ?_
        refine xW_gI O f_Mod_486 d_Mod_things_148 (fun v30 _ => ?_)
        refine xW_pure (fun _ _ _ _ _ => am_iconst (v := 1) d_Mod_things_151 (by decide)) ?_
        refine xW_pure (fun _ _ _ _ _ => am_isub d_Mod_things_152) ?_
        refine xW_aI O d_Mod_things_153 (fun v31 _ => ?_)
        refine xW_pure (fun _ _ _ _ _ => am_iconst (v := 4) d_Mod_things_154 (by decide)) ?_
        refine xW_ite (fun _ _ _ _ _ => am_icmp_eq (tgt := 160) d_Mod_things_155 (by decide)) (fun _ => ?_) (fun _ => ?_)
        · refine xW_pure (fun _ _ _ _ _ => am_aload_n d_Mod_things_160 rfl rfl) ?_
          refine xW_gR O f_Mod_368 d_Mod_things_161 (fun v32 _ => ?_)
          refine xW_gR O f_Mod_508 d_Mod_things_164 (fun v33 _ => ?_)
          refine xW_pure (fun _ _ _ _ _ => am_aload_n d_Mod_things_167 rfl rfl) ?_
          refine xW_gI O f_Mod_486 d_Mod_things_168 (fun v34 _ => ?_)
          refine xW_pure (fun _ _ _ _ _ => am_iconst (v := 1) d_Mod_things_171 (by decide)) ?_
          refine xW_pure (fun _ _ _ _ _ => am_isub d_Mod_things_172) ?_
          refine xW_aL O d_Mod_things_173 (fun v35 _ => ?_)
          refine xW_pure (fun _ _ _ _ _ => am_l2i d_Mod_things_174 rfl) ?_
          refine xW_pure (fun _ _ _ _ _ => am_istore_n d_Mod_things_175 rfl (Nat.le_of_ble_eq_true rfl)) ?_
          refine xW_pure (fun _ _ _ _ _ => am_aload_n d_Mod_things_176 rfl rfl) ?_
          refine xW_gR O f_Mod_353 d_Mod_things_177 (fun v36 _ => ?_)
          refine xW_gR O f_Mod_558 d_Mod_things_180 (fun v37 _ => ?_)
          refine xW_pure (fun _ _ _ _ _ => am_iload_n d_Mod_things_183 rfl rfl) ?_
          refine xW_aI O d_Mod_things_184 (fun v38 _ => ?_)
          refine xW_pure (fun _ _ _ _ _ => am_bipush (v := 20) d_Mod_things_185 (by decide)) ?_
          refine xW_ite (fun _ _ _ _ _ k1 k2 => am_icmp_ne (tgt := 192) d_Mod_things_187 (by decide) k2 k1) (fun _ => ?_) (fun _ => ?_)
          · refine xW_pure (fun _ _ _ _ _ => am_iconst (v := 4) d_Mod_things_190 (by decide)) ?_
            exact xW_ret (fun _ _ _ _ _ => am_iret rfl d_Mod_things_191)
          · refine xW_pure (fun _ _ _ _ _ => am_aload_n d_Mod_things_192 rfl rfl) ?_
            refine xW_gR O f_Mod_353 d_Mod_things_193 (fun v39 _ => ?_)
            refine xW_gR O f_Mod_562 d_Mod_things_196 (fun v40 _ => ?_)
            refine xW_pure (fun _ _ _ _ _ => am_bipush (v := 20) d_Mod_things_199 (by decide)) ?_
            refine xW_pure (fun _ _ _ _ _ => am_iload_n d_Mod_things_201 rfl rfl) ?_
            refine xW_pure (fun _ _ _ _ _ => am_imul d_Mod_things_202) ?_
            refine xW_pure (fun _ _ _ _ _ => am_aload_n d_Mod_things_203 rfl rfl) ?_
            refine xW_gR O f_Mod_353 d_Mod_things_204 (fun v41 _ => ?_)
            refine xW_gR O f_Mod_558 d_Mod_things_207 (fun v42 _ => ?_)
            refine xW_pure (fun _ _ _ _ _ => am_iload_n d_Mod_things_210 rfl rfl) ?_
            refine xW_aI O d_Mod_things_211 (fun v43 _ => ?_)
            refine xW_pure (fun _ _ _ _ _ => am_iadd d_Mod_things_212) ?_
            refine xW_pure (fun _ _ _ _ _ => am_aload_n d_Mod_things_213 rfl rfl) ?_
            refine xW_gR O f_Mod_368 d_Mod_things_214 (fun v44 _ => ?_)
            refine xW_pure (fun _ _ _ _ _ => am_aload_n d_Mod_things_217 rfl rfl) ?_
            refine xW_gI O f_Mod_486 d_Mod_things_218 (fun v45 _ => ?_)
            refine xW_callV O (dx_Vals_copy O T) (fun _ e => ob_Vals_copy e) rfl rfl rfl l_Mod_505 ⟨w_1992, w_1993⟩ rfl (Nat.le_of_ble_eq_true rfl) d_Mod_things_221 (fun v47 s46 _ => ?_)
            refine xW_pure (fun _ _ _ _ _ => am_aload_n d_Mod_things_224 rfl rfl) ?_
            refine xW_gR O f_Mod_353 d_Mod_things_225 (fun v48 _ => ?_)
            refine xW_gR O f_Mod_558 d_Mod_things_228 (fun v49 _ => ?_)
            refine xW_pure (fun _ _ _ _ _ => am_iload_n d_Mod_things_231 rfl rfl) ?_
            refine xW_pure (fun _ _ _ _ _ => am_dup2 d_Mod_things_232 rfl rfl) ?_
            refine xW_aI O d_Mod_things_233 (fun v50 _ => ?_)
            refine xW_pure (fun _ _ _ _ _ => am_iconst (v := 1) d_Mod_things_234 (by decide)) ?_
            refine xW_pure (fun _ _ _ _ _ => am_iadd d_Mod_things_235) ?_
            refine xW_sI O d_Mod_things_236 (fun s51 _ => ?_)
            refine xW_pure (fun _ _ _ _ _ => am_iconst (v := (-1)) d_Mod_things_237 (by decide)) ?_
            exact xW_ret (fun _ _ _ _ _ => am_iret rfl d_Mod_things_238)
        · refine xW_pure (fun _ _ _ _ _ => am_iconst (v := 2) d_Mod_things_158 (by decide)) ?_
          exact xW_ret (fun _ _ _ _ _ => am_iret rfl d_Mod_things_159)
      · refine xW_by (fun c1_2 => ?_) (fun c1_2 => ?_)
        · refine xW_pure (fun _ _ _ _ _ => am_tableIn (off := 238) (tgt := 239) d_Mod_things_1 (by rw [c1_2]; decide) (by rw [c1_2]; decide) (by rw [c1_2]; rfl) (by decide)) ?_
          refine xW_pure (fun _ _ _ _ _ => am_aload_n d_Mod_things_239 rfl rfl) ?_
          refine xW_gR O f_Mod_368 d_Mod_things_240 (fun v52 _ => ?_)
          refine xW_gR O f_Mod_515 d_Mod_things_243 (fun v53 _ => ?_)
          refine xW_pure (fun _ _ _ _ _ => am_aload_n d_Mod_things_246 rfl rfl) ?_
          refine xW_gI O f_Mod_486 d_Mod_things_247 (fun v54 _ => ?_)
          refine xW_pure (fun _ _ _ _ _ => am_iconst (v := 1) d_Mod_things_250 (by decide)) ?_
          refine xW_pure (fun _ _ _ _ _ => am_isub d_Mod_things_251) ?_
          refine xW_aI O d_Mod_things_252 (fun v55 _ => ?_)
          refine xW_pure (fun _ _ _ _ _ => am_iconst (v := 4) d_Mod_things_253 (by decide)) ?_
          refine xW_ite (fun _ _ _ _ _ => am_icmp_eq (tgt := 259) d_Mod_things_254 (by decide)) (fun _ => ?_) (fun _ => ?_)
          · refine xW_pure (fun _ _ _ _ _ => am_aload_n d_Mod_things_259 rfl rfl) ?_
            refine xW_gR O f_Mod_368 d_Mod_things_260 (fun v56 _ => ?_)
            refine xW_gR O f_Mod_508 d_Mod_things_263 (fun v57 _ => ?_)
            refine xW_pure (fun _ _ _ _ _ => am_aload_n d_Mod_things_266 rfl rfl) ?_
            refine xW_gI O f_Mod_486 d_Mod_things_267 (fun v58 _ => ?_)
            refine xW_pure (fun _ _ _ _ _ => am_iconst (v := 1) d_Mod_things_270 (by decide)) ?_
            refine xW_pure (fun _ _ _ _ _ => am_isub d_Mod_things_271) ?_
            refine xW_aL O d_Mod_things_272 (fun v59 _ => ?_)
            refine xW_pure (fun _ _ _ _ _ => am_l2i d_Mod_things_273 rfl) ?_
            refine xW_pure (fun _ _ _ _ _ => am_istore_n d_Mod_things_274 rfl (Nat.le_of_ble_eq_true rfl)) ?_
            refine xW_pure (fun _ _ _ _ _ => am_aload_n d_Mod_things_275 rfl rfl) ?_
            refine xW_gR O f_Mod_353 d_Mod_things_276 (fun v60 _ => ?_)
            refine xW_gR O f_Mod_558 d_Mod_things_279 (fun v61 _ => ?_)
            refine xW_pure (fun _ _ _ _ _ => am_iload_n d_Mod_things_282 rfl rfl) ?_
            refine xW_aI O d_Mod_things_283 (fun v62 _ => ?_)
            refine xW_ite (fun _ _ _ _ _ k1 k2 => am_if_ne (tgt := 289) d_Mod_things_284 (by decide) k2 k1) (fun _ => ?_) (fun _ => ?_)
            · refine xW_pure (fun _ _ _ _ _ => am_iconst (v := 3) d_Mod_things_287 (by decide)) ?_
              exact xW_ret (fun _ _ _ _ _ => am_iret rfl d_Mod_things_288)
            · refine xW_pure (fun _ _ _ _ _ => am_aload_n d_Mod_things_289 rfl rfl) ?_
              refine xW_gR O f_Mod_353 d_Mod_things_290 (fun v63 _ => ?_)
              refine xW_gR O f_Mod_558 d_Mod_things_293 (fun v64 _ => ?_)
              refine xW_pure (fun _ _ _ _ _ => am_iload_n d_Mod_things_296 rfl rfl) ?_
              refine xW_pure (fun _ _ _ _ _ => am_dup2 d_Mod_things_297 rfl rfl) ?_
              refine xW_aI O d_Mod_things_298 (fun v65 _ => ?_)
              refine xW_pure (fun _ _ _ _ _ => am_iconst (v := 1) d_Mod_things_299 (by decide)) ?_
              refine xW_pure (fun _ _ _ _ _ => am_isub d_Mod_things_300) ?_
              refine xW_sI O d_Mod_things_301 (fun s66 _ => ?_)
              refine xW_pure (fun _ _ _ _ _ => am_aload_n d_Mod_things_302 rfl rfl) ?_
              refine xW_gR O f_Mod_368 d_Mod_things_303 (fun v67 _ => ?_)
              refine xW_pure (fun _ _ _ _ _ => am_aload_n d_Mod_things_306 rfl rfl) ?_
              refine xW_gI O f_Mod_486 d_Mod_things_307 (fun v68 _ => ?_)
              refine xW_pure (fun _ _ _ _ _ => am_iconst (v := 1) d_Mod_things_310 (by decide)) ?_
              refine xW_pure (fun _ _ _ _ _ => am_isub d_Mod_things_311) ?_
              refine xW_pure (fun _ _ _ _ _ => am_aload_n d_Mod_things_312 rfl rfl) ?_
              refine xW_gR O f_Mod_353 d_Mod_things_313 (fun v69 _ => ?_)
              refine xW_gR O f_Mod_562 d_Mod_things_316 (fun v70 _ => ?_)
              refine xW_pure (fun _ _ _ _ _ => am_bipush (v := 20) d_Mod_things_319 (by decide)) ?_
              refine xW_pure (fun _ _ _ _ _ => am_iload_n d_Mod_things_321 rfl rfl) ?_
              refine xW_pure (fun _ _ _ _ _ => am_imul d_Mod_things_322) ?_
              refine xW_pure (fun _ _ _ _ _ => am_aload_n d_Mod_things_323 rfl rfl) ?_
              refine xW_gR O f_Mod_353 d_Mod_things_324 (fun v71 _ => ?_)
              refine xW_gR O f_Mod_558 d_Mod_things_327 (fun v72 _ => ?_)
              refine xW_pure (fun _ _ _ _ _ => am_iload_n d_Mod_things_330 rfl rfl) ?_
              refine xW_aI O d_Mod_things_331 (fun v73 _ => ?_)
              refine xW_pure (fun _ _ _ _ _ => am_iadd d_Mod_things_332) ?_
              refine xW_callV O (dx_Vals_copy O T) (fun _ e => ob_Vals_copy e) rfl rfl rfl l_Mod_505 ⟨w_1992, w_1993⟩ rfl (Nat.le_of_ble_eq_true rfl) d_Mod_things_333 (fun v75 s74 _ => ?_)
              refine xW_pure (fun _ _ _ _ _ => am_iconst (v := (-1)) d_Mod_things_336 (by decide)) ?_
              exact xW_ret (fun _ _ _ _ _ => am_iret rfl d_Mod_things_337)
          · refine xW_pure (fun _ _ _ _ _ => am_iconst (v := 2) d_Mod_things_257 (by decide)) ?_
            exact xW_ret (fun _ _ _ _ _ => am_iret rfl d_Mod_things_258)
        · refine xW_by (fun c1_3 => ?_) (fun c1_3 => ?_)
          · refine xW_pure (fun _ _ _ _ _ => am_tableIn (off := 337) (tgt := 338) d_Mod_things_1 (by rw [c1_3]; decide) (by rw [c1_3]; decide) (by rw [c1_3]; rfl) (by decide)) ?_
            refine xW_pure (fun _ _ _ _ _ => am_aload_n d_Mod_things_338 rfl rfl) ?_
            refine xW_callV O (dx_Mod_next O T) (fun _ e => ob_Mod_next e) rfl rfl rfl l_Mod_516 ⟨w_2036, w_120⟩ rfl (Nat.le_of_ble_eq_true rfl) d_Mod_things_339 (fun v77 s76 _ => ?_)
            refine xW_pure (fun _ _ _ _ _ => am_istore_n d_Mod_things_342 rfl (Nat.le_of_ble_eq_true rfl)) ?_
            refine xW_pure (fun _ _ _ _ _ => am_aload_n d_Mod_things_343 rfl rfl) ?_
            refine xW_pure (fun _ _ _ _ _ => am_iconst (v := 3) d_Mod_things_344 (by decide)) ?_
            refine xW_callV O (dx_Mod_make O T) (fun _ e => ob_Mod_make e) rfl rfl rfl l_Mod_581 ⟨w_2131, w_139⟩ rfl (Nat.le_of_ble_eq_true rfl) d_Mod_things_345 (fun v79 s78 _ => ?_)
            refine xW_pure (fun _ _ _ _ _ => am_istore_n d_Mod_things_348 rfl (Nat.le_of_ble_eq_true rfl)) ?_
            refine xW_pure (fun _ _ _ _ _ => am_iload_n d_Mod_things_349 rfl rfl) ?_
            refine xW_ite (fun _ _ _ _ _ => am_if_ge (tgt := 356) d_Mod_things_350 (by decide)) (fun _ => ?_) (fun _ => ?_)
            · refine xW_pure (fun _ _ _ _ _ => am_aload_n d_Mod_things_356 rfl rfl) ?_
              refine xW_pure (fun _ _ _ _ _ => am_dup d_Mod_things_357 rfl) ?_
              refine xW_gI O f_Mod_486 d_Mod_things_358 (fun v80 _ => ?_)
              refine xW_pure (fun _ _ _ _ _ => am_iload_n d_Mod_things_361 rfl rfl) ?_
              refine xW_pure (fun _ _ _ _ _ => am_isub d_Mod_things_362) ?_
              refine xW_put O f_Mod_486 d_Mod_things_363 (fun q hq => by cases hq; exact ⟨rfl, rfl, rfl⟩) (fun s81 _ => ?_)
              refine xW_pure (fun _ _ _ _ _ => am_iconst (v := 0) d_Mod_things_366 (by decide)) ?_
              refine xW_pure (fun _ _ _ _ _ => am_istore d_Mod_things_367 (Nat.le_of_ble_eq_true rfl)) ?_
              refine xW_locs (lv' := [(0, .ref x0), (2, .int v79), (3, .int v77), (4, .int 0)]) rfl ?_
              refine xW_loop (lvf := fun (z369 : Int32 × HS) => [(0, .ref x0), (2, .int v79), (3, .int v77), (4, .int z369.1)]) (hsf := fun (z369 : Int32 × HS) => z369.2) (fun again369 ih369 z369 => ?_) FU (0, s81)
              refine xW_pure (fun _ _ _ _ _ => am_iload d_Mod_things_369 rfl) ?_
              refine xW_pure (fun _ _ _ _ _ => am_iload_n d_Mod_things_371 rfl rfl) ?_
              refine xW_ite (fun _ _ _ _ _ => am_icmp_ge (tgt := 415) d_Mod_things_372 (by decide)) (fun _ => ?_) (fun _ => ?_)
              · refine xW_pure (fun _ _ _ _ _ => am_aload_n d_Mod_things_415 rfl rfl) ?_
                refine xW_pure (fun _ _ _ _ _ => am_iconst (v := 3) d_Mod_things_416 (by decide)) ?_
                refine xW_pure (fun _ _ _ _ _ => am_iload_n d_Mod_things_417 rfl rfl) ?_
                refine xW_pure (fun _ _ _ _ _ => am_i2l d_Mod_things_418 rfl) ?_
                refine xW_callV O (dx_Mod_push O T) (fun _ e => ob_Mod_push e) rfl rfl rfl l_Mod_542 ⟨w_2086, w_130⟩ rfl (Nat.le_of_ble_eq_true rfl) d_Mod_things_419 (fun v83 s82 _ => ?_)
                refine xW_pure (fun _ _ _ _ _ => am_iconst (v := (-1)) d_Mod_things_422 (by decide)) ?_
                exact xW_ret (fun _ _ _ _ _ => am_iret rfl d_Mod_things_423)
              · refine xW_pure (fun _ _ _ _ _ => am_aload_n d_Mod_things_375 rfl rfl) ?_
                refine xW_pure (fun _ _ _ _ _ => am_iload_n d_Mod_things_376 rfl rfl) ?_
                refine xW_pure (fun _ _ _ _ _ => am_aload_n d_Mod_things_377 rfl rfl) ?_
                refine xW_pure (fun _ _ _ _ _ => am_aload_n d_Mod_things_378 rfl rfl) ?_
                refine xW_callV O (dx_Mod_next O T) (fun _ e => ob_Mod_next e) rfl rfl rfl l_Mod_516 ⟨w_2036, w_120⟩ rfl (Nat.le_of_ble_eq_true rfl) d_Mod_things_379 (fun v85 s84 _ => ?_)
                refine xW_callV O (dx_Mod_text O T) (fun _ e => ob_Mod_text e) rfl rfl rfl l_Mod_518 ⟨w_2040, w_121⟩ rfl (Nat.le_of_ble_eq_true rfl) d_Mod_things_382 (fun v87 s86 _ => ?_)
                refine xW_pure (fun _ _ _ _ _ => am_aload_n d_Mod_things_385 rfl rfl) ?_
                refine xW_gR O f_Mod_368 d_Mod_things_386 (fun v88 _ => ?_)
                refine xW_pure (fun _ _ _ _ _ => am_aload_n d_Mod_things_389 rfl rfl) ?_
                refine xW_gI O f_Mod_486 d_Mod_things_390 (fun v89 _ => ?_)
                refine xW_pure (fun _ _ _ _ _ => am_iload d_Mod_things_393 rfl) ?_
                refine xW_pure (fun _ _ _ _ _ => am_iadd d_Mod_things_395) ?_
                refine xW_callV O (dx_Mod_setField O T) (fun _ e => ob_Mod_setField e) rfl rfl rfl l_Mod_566 ⟨w_2098, w_132⟩ rfl (Nat.le_of_ble_eq_true rfl) d_Mod_things_396 (fun v91 s90 _ => ?_)
                refine xW_pure (fun _ _ _ _ _ => am_istore d_Mod_things_399 (Nat.le_of_ble_eq_true rfl)) ?_
                refine xW_pure (fun _ _ _ _ _ => am_iload d_Mod_things_401 rfl) ?_
                refine xW_ite (fun _ _ _ _ _ => am_if_le (tgt := 409) d_Mod_things_403 (by decide)) (fun _ => ?_) (fun _ => ?_)
                · refine xW_pure (fun _ _ _ _ _ => am_iinc (v := 1) d_Mod_things_409 rfl (by decide) (Nat.le_of_ble_eq_true rfl)) ?_
                  refine xW_pure (fun _ _ _ _ _ => am_goto (tgt := 369) d_Mod_things_412 (by decide)) ?_
                  refine xW_locs (lv' := [(0, .ref x0), (2, .int v79), (3, .int v77), (4, .int (z369.1 + 1))]) rfl ?_
                  exact ih369 ((z369.1 + 1), s90)
                · refine xW_pure (fun _ _ _ _ _ => am_iload d_Mod_things_406 rfl) ?_
                  exact xW_ret (fun _ _ _ _ _ => am_iret rfl d_Mod_things_408)
            · refine xW_pure (fun _ _ _ _ _ => am_bipush (v := 8) d_Mod_things_353 (by decide)) ?_
              exact xW_ret (fun _ _ _ _ _ => am_iret rfl d_Mod_things_355)
          · have e1_0 := lk_ne c1_0 (show (17 : Int32).toInt = 17 by decide)
            have e1_1 := lk_ne c1_1 (show (18 : Int32).toInt = 18 by decide)
            have e1_2 := lk_ne c1_2 (show (19 : Int32).toInt = 19 by decide)
            have e1_3 := lk_ne c1_3 (show (20 : Int32).toInt = 20 by decide)
            refine xW_pure (fun _ _ _ _ _ => am_tableOut (tgt := 424) d_Mod_things_1 (by omega) (by decide)) ?_
            refine xW_pure (fun _ _ _ _ _ => am_aload_n d_Mod_things_424 rfl rfl) ?_
            refine xW_callV O (dx_Mod_next O T) (fun _ e => ob_Mod_next e) rfl rfl rfl l_Mod_516 ⟨w_2036, w_120⟩ rfl (Nat.le_of_ble_eq_true rfl) d_Mod_things_425 (fun v93 s92 _ => ?_)
            refine xW_pure (fun _ _ _ _ _ => am_istore_n d_Mod_things_428 rfl (Nat.le_of_ble_eq_true rfl)) ?_
            refine xW_pure (fun _ _ _ _ _ => am_aload_n d_Mod_things_429 rfl rfl) ?_
            refine xW_pure (fun _ _ _ _ _ => am_iconst (v := 4) d_Mod_things_430 (by decide)) ?_
            refine xW_callV O (dx_Mod_make O T) (fun _ e => ob_Mod_make e) rfl rfl rfl l_Mod_581 ⟨w_2131, w_139⟩ rfl (Nat.le_of_ble_eq_true rfl) d_Mod_things_431 (fun v95 s94 _ => ?_)
            refine xW_pure (fun _ _ _ _ _ => am_istore_n d_Mod_things_434 rfl (Nat.le_of_ble_eq_true rfl)) ?_
            refine xW_pure (fun _ _ _ _ _ => am_iload_n d_Mod_things_435 rfl rfl) ?_
            refine xW_ite (fun _ _ _ _ _ => am_if_ge (tgt := 442) d_Mod_things_436 (by decide)) (fun _ => ?_) (fun _ => ?_)
            · refine xW_pure (fun _ _ _ _ _ => am_iload_n d_Mod_things_442 rfl rfl) ?_
              refine xW_pure (fun _ _ _ _ _ => am_bipush (v := 20) d_Mod_things_443 (by decide)) ?_
              refine xW_ite (fun _ _ _ _ _ => am_icmp_le (tgt := 450) d_Mod_things_445 (by decide)) (fun _ => ?_) (fun _ => ?_)
              · refine xW_pure (fun _ _ _ _ _ => am_aload_n d_Mod_things_450 rfl rfl) ?_
                refine xW_pure (fun _ _ _ _ _ => am_dup d_Mod_things_451 rfl) ?_
                refine xW_gI O f_Mod_486 d_Mod_things_452 (fun v96 _ => ?_)
                refine xW_pure (fun _ _ _ _ _ => am_iload_n d_Mod_things_455 rfl rfl) ?_
                refine xW_pure (fun _ _ _ _ _ => am_isub d_Mod_things_456) ?_
                refine xW_put O f_Mod_486 d_Mod_things_457 (fun q hq => by cases hq; exact ⟨rfl, rfl, rfl⟩) (fun s97 _ => ?_)
                refine xW_pure (fun _ _ _ _ _ => am_iconst (v := 0) d_Mod_things_460 (by decide)) ?_
                refine xW_pure (fun _ _ _ _ _ => am_istore d_Mod_things_461 (Nat.le_of_ble_eq_true rfl)) ?_
                refine xW_locs (lv' := [(0, .ref x0), (2, .int v95), (3, .int v93), (4, .int 0)]) rfl ?_
                refine xW_loop (lvf := fun (z463 : Int32 × HS) => [(0, .ref x0), (2, .int v95), (3, .int v93), (4, .int z463.1)]) (hsf := fun (z463 : Int32 × HS) => z463.2) (fun again463 ih463 z463 => ?_) FU (0, s97)
                refine xW_pure (fun _ _ _ _ _ => am_iload d_Mod_things_463 rfl) ?_
                refine xW_pure (fun _ _ _ _ _ => am_iload_n d_Mod_things_465 rfl rfl) ?_
                refine xW_ite (fun _ _ _ _ _ => am_icmp_ge (tgt := 503) d_Mod_things_466 (by decide)) (fun _ => ?_) (fun _ => ?_)
                · refine xW_pure (fun _ _ _ _ _ => am_aload_n d_Mod_things_503 rfl rfl) ?_
                  refine xW_gR O f_Mod_353 d_Mod_things_504 (fun v98 _ => ?_)
                  refine xW_gR O f_Mod_558 d_Mod_things_507 (fun v99 _ => ?_)
                  refine xW_pure (fun _ _ _ _ _ => am_iload_n d_Mod_things_510 rfl rfl) ?_
                  refine xW_pure (fun _ _ _ _ _ => am_iload_n d_Mod_things_511 rfl rfl) ?_
                  refine xW_sI O d_Mod_things_512 (fun s100 _ => ?_)
                  refine xW_pure (fun _ _ _ _ _ => am_aload_n d_Mod_things_513 rfl rfl) ?_
                  refine xW_pure (fun _ _ _ _ _ => am_iconst (v := 4) d_Mod_things_514 (by decide)) ?_
                  refine xW_pure (fun _ _ _ _ _ => am_iload_n d_Mod_things_515 rfl rfl) ?_
                  refine xW_pure (fun _ _ _ _ _ => am_i2l d_Mod_things_516 rfl) ?_
                  refine xW_callV O (dx_Mod_push O T) (fun _ e => ob_Mod_push e) rfl rfl rfl l_Mod_542 ⟨w_2086, w_130⟩ rfl (Nat.le_of_ble_eq_true rfl) d_Mod_things_517 (fun v102 s101 _ => ?_)
                  refine xW_pure (fun _ _ _ _ _ => am_iconst (v := (-1)) d_Mod_things_520 (by decide)) ?_
                  exact xW_ret (fun _ _ _ _ _ => am_iret rfl d_Mod_things_521)
                · refine xW_pure (fun _ _ _ _ _ => am_aload_n d_Mod_things_469 rfl rfl) ?_
                  refine xW_gR O f_Mod_353 d_Mod_things_470 (fun v103 _ => ?_)
                  refine xW_gR O f_Mod_562 d_Mod_things_473 (fun v104 _ => ?_)
                  refine xW_pure (fun _ _ _ _ _ => am_bipush (v := 20) d_Mod_things_476 (by decide)) ?_
                  refine xW_pure (fun _ _ _ _ _ => am_iload_n d_Mod_things_478 rfl rfl) ?_
                  refine xW_pure (fun _ _ _ _ _ => am_imul d_Mod_things_479) ?_
                  refine xW_pure (fun _ _ _ _ _ => am_iload d_Mod_things_480 rfl) ?_
                  refine xW_pure (fun _ _ _ _ _ => am_iadd d_Mod_things_482) ?_
                  refine xW_pure (fun _ _ _ _ _ => am_aload_n d_Mod_things_483 rfl rfl) ?_
                  refine xW_gR O f_Mod_368 d_Mod_things_484 (fun v105 _ => ?_)
                  refine xW_pure (fun _ _ _ _ _ => am_aload_n d_Mod_things_487 rfl rfl) ?_
                  refine xW_gI O f_Mod_486 d_Mod_things_488 (fun v106 _ => ?_)
                  refine xW_pure (fun _ _ _ _ _ => am_iload d_Mod_things_491 rfl) ?_
                  refine xW_pure (fun _ _ _ _ _ => am_iadd d_Mod_things_493) ?_
                  refine xW_callV O (dx_Vals_copy O T) (fun _ e => ob_Vals_copy e) rfl rfl rfl l_Mod_505 ⟨w_1992, w_1993⟩ rfl (Nat.le_of_ble_eq_true rfl) d_Mod_things_494 (fun v108 s107 _ => ?_)
                  refine xW_pure (fun _ _ _ _ _ => am_iinc (v := 1) d_Mod_things_497 rfl (by decide) (Nat.le_of_ble_eq_true rfl)) ?_
                  refine xW_pure (fun _ _ _ _ _ => am_goto (tgt := 463) d_Mod_things_500 (by decide)) ?_
                  refine xW_locs (lv' := [(0, .ref x0), (2, .int v95), (3, .int v93), (4, .int (z463.1 + 1))]) rfl ?_
                  exact ih463 ((z463.1 + 1), s107)
              · refine xW_pure (fun _ _ _ _ _ => am_iconst (v := 4) d_Mod_things_448 (by decide)) ?_
                exact xW_ret (fun _ _ _ _ _ => am_iret rfl d_Mod_things_449)
            · refine xW_pure (fun _ _ _ _ _ => am_bipush (v := 8) d_Mod_things_439 (by decide)) ?_
              exact xW_ret (fun _ _ _ _ _ => am_iret rfl d_Mod_things_441)

theorem ob_Mod_things {d : Nat} {x0 : Nat} {x1 : Int32} {s : HS} {y : Int32 × HS} (h : x_Mod_things d x0 x1 s = some y) : isO s x0 14 = true := by
  cases d with
  | zero => cases h
  | succ d => exact (gd_spec h).1

set_option maxRecDepth 100000 in
def x_Mod_wait_b85 (d : Nat) (l0 : Nat) (l1 : Int32) (s : HS) : Option (Unit × HS) := (gR s l0 14 33).bind fun v15 => ((gI s l0 14 34).bind fun v16 => ((aR "StowTongueModel$State" s v15 v16).bind fun v17 => ((gR s l0 14 30).bind fun v18 => (bnd (x_State_copy d v17 v18 s) fun v20 s19 => ((gR s19 l0 14 33).bind fun v21 => ((gI s19 l0 14 34).bind fun v22 => ((aR "StowTongueModel$State" s19 v21 v22).bind fun v23 => ((pV s19 v23 13 11 (.int l1)).bind fun s24 => ((gI s24 l0 14 34).bind fun v25 => ((pV s24 l0 14 34 (.int (v25 + 1))).bind fun s26 => (some ((), s26))))))))))))

set_option maxRecDepth 100000 in
set_option maxHeartbeats 4000000 in
theorem dx_Mod_wait_b85 (O : am_ok K X) (T : am_T K) {d : Nat} {l0 : Nat} {l1 : Int32} {s : HS} : xW cvU K X m_Mod_wait (d + 1) 85 [(0, .ref l0), (1, .int l1)] [] s (x_Mod_wait_b85 d l0 l1 s) := by
  unfold x_Mod_wait_b85
  refine xW_pure (fun _ _ _ _ _ => am_aload_n d_Mod_wait_85 rfl rfl) ?_
  refine xW_gR O f_Mod_359 d_Mod_wait_86 (fun v15 _ => ?_)
  refine xW_pure (fun _ _ _ _ _ => am_aload_n d_Mod_wait_89 rfl rfl) ?_
  refine xW_gI O f_Mod_409 d_Mod_wait_90 (fun v16 _ => ?_)
  refine xW_aR O (by decide) d_Mod_wait_93 (fun v17 _ => ?_)
  refine xW_pure (fun _ _ _ _ _ => am_aload_n d_Mod_wait_94 rfl rfl) ?_
  refine xW_gR O f_Mod_349 d_Mod_wait_95 (fun v18 _ => ?_)
  refine xW_callV O (dx_State_copy O T) (fun _ e => ob_State_copy e) rfl rfl rfl l_Mod_448 ⟨w_1987, w_1988⟩ rfl (Nat.le_of_ble_eq_true rfl) d_Mod_wait_98 (fun v20 s19 _ => ?_)
  refine xW_pure (fun _ _ _ _ _ => am_aload_n d_Mod_wait_101 rfl rfl) ?_
  refine xW_gR O f_Mod_359 d_Mod_wait_102 (fun v21 _ => ?_)
  refine xW_pure (fun _ _ _ _ _ => am_aload_n d_Mod_wait_105 rfl rfl) ?_
  refine xW_gI O f_Mod_409 d_Mod_wait_106 (fun v22 _ => ?_)
  refine xW_aR O (by decide) d_Mod_wait_109 (fun v23 _ => ?_)
  refine xW_pure (fun _ _ _ _ _ => am_iload_n d_Mod_wait_110 rfl rfl) ?_
  refine xW_put O f_Mod_483 d_Mod_wait_111 (fun q hq => by cases hq; exact ⟨rfl, rfl, rfl⟩) (fun s24 _ => ?_)
  refine xW_pure (fun _ _ _ _ _ => am_aload_n d_Mod_wait_114 rfl rfl) ?_
  refine xW_pure (fun _ _ _ _ _ => am_dup d_Mod_wait_115 rfl) ?_
  refine xW_gI O f_Mod_409 d_Mod_wait_116 (fun v25 _ => ?_)
  refine xW_pure (fun _ _ _ _ _ => am_iconst (v := 1) d_Mod_wait_119 (by decide)) ?_
  refine xW_pure (fun _ _ _ _ _ => am_iadd d_Mod_wait_120) ?_
  refine xW_put O f_Mod_409 d_Mod_wait_121 (fun q hq => by cases hq; exact ⟨rfl, rfl, rfl⟩) (fun s26 _ => ?_)
  exact xW_ret (fun _ _ _ _ _ => am_vret rfl d_Mod_wait_124)

set_option maxRecDepth 100000 in
def x_Mod_wait (d : Nat) (x0 : Nat) (x1 : Int32) (s : HS) : Option (Unit × HS) := match d with
  | 0 => none
  | d + 1 => gd s x0 14 ((gI s x0 14 35).bind fun v1 => ((pV s x0 14 35 (.int (v1 + x1))).bind fun s2 => ((gI s2 x0 14 34).bind fun v3 => (if v3 = 8 then ((gR s2 x0 14 32).bind fun v4 => ((gR s2 x0 14 33).bind fun v5 => ((aR "StowTongueModel$State" s2 v5 0).bind fun v6 => (bnd (x_State_copy d v4 v6 s2) fun v8 s7 => ((gR s7 x0 14 33).bind fun v9 => ((aR "StowTongueModel$State" s7 v9 0).bind fun v10 => (loopK (fun (again41 : Int32 × HS → Option (Unit × HS)) (z41 : Int32 × HS) => (if 8 ≤ z41.1 then ((gR z41.2 x0 14 33).bind fun v11 => ((sR "StowTongueModel$State" 13 z41.2 v11 7 v10).bind fun s12 => ((gI s12 x0 14 34).bind fun v13 => ((pV s12 x0 14 34 (.int (v13 - 1))).bind fun s14 => (x_Mod_wait_b85 d x0 x1 s14))))) else ((gR z41.2 x0 14 33).bind fun v27 => ((gR z41.2 x0 14 33).bind fun v28 => ((aR "StowTongueModel$State" z41.2 v28 z41.1).bind fun v29 => ((sR "StowTongueModel$State" 13 z41.2 v27 (z41.1 - 1) v29).bind fun s30 => (again41 ((z41.1 + 1), s30)))))))) FU (1, s7)))))))) else (x_Mod_wait_b85 d x0 x1 s2)))))

set_option maxRecDepth 100000 in
set_option maxHeartbeats 4000000 in
theorem dx_Mod_wait (O : am_ok K X) (T : am_T K) {d : Nat} {x0 : Nat} {x1 : Int32} {s : HS} : xM cvU K X m_Mod_wait d [.ref x0, .int x1] s (x_Mod_wait d x0 x1 s) := by
  cases d with
  | zero => exact xM_none
  | succ d =>
    unfold x_Mod_wait
    refine xM_enter (by decide +kernel) (Nat.le_of_ble_eq_true rfl) ?_
    refine xW_gd (fun _ => ?_)
    refine xW_pure (fun _ _ _ _ _ => am_aload_n d_Mod_wait_0 rfl rfl) ?_
    refine xW_pure (fun _ _ _ _ _ => am_dup d_Mod_wait_1 rfl) ?_
    refine xW_gI O f_Mod_480 d_Mod_wait_2 (fun v1 _ => ?_)
    refine xW_pure (fun _ _ _ _ _ => am_iload_n d_Mod_wait_5 rfl rfl) ?_
    refine xW_pure (fun _ _ _ _ _ => am_iadd d_Mod_wait_6) ?_
    refine xW_put O f_Mod_480 d_Mod_wait_7 (fun q hq => by cases hq; exact ⟨rfl, rfl, rfl⟩) (fun s2 _ => ?_)
    refine xW_pure (fun _ _ _ _ _ => am_aload_n d_Mod_wait_10 rfl rfl) ?_
    refine xW_gI O f_Mod_409 d_Mod_wait_11 (fun v3 _ => ?_)
    refine xW_pure (fun _ _ _ _ _ => am_bipush (v := 8) d_Mod_wait_14 (by decide)) ?_
    refine xW_ite (fun _ _ _ _ _ k1 k2 => am_icmp_ne (tgt := 85) d_Mod_wait_16 (by decide) k2 k1) (fun _ => ?_) (fun _ => ?_)
    · refine xW_pure (fun _ _ _ _ _ => am_aload_n d_Mod_wait_19 rfl rfl) ?_
      refine xW_gR O f_Mod_356 d_Mod_wait_20 (fun v4 _ => ?_)
      refine xW_pure (fun _ _ _ _ _ => am_aload_n d_Mod_wait_23 rfl rfl) ?_
      refine xW_gR O f_Mod_359 d_Mod_wait_24 (fun v5 _ => ?_)
      refine xW_pure (fun _ _ _ _ _ => am_iconst (v := 0) d_Mod_wait_27 (by decide)) ?_
      refine xW_aR O (by decide) d_Mod_wait_28 (fun v6 _ => ?_)
      refine xW_callV O (dx_State_copy O T) (fun _ e => ob_State_copy e) rfl rfl rfl l_Mod_448 ⟨w_1987, w_1988⟩ rfl (Nat.le_of_ble_eq_true rfl) d_Mod_wait_29 (fun v8 s7 _ => ?_)
      refine xW_pure (fun _ _ _ _ _ => am_aload_n d_Mod_wait_32 rfl rfl) ?_
      refine xW_gR O f_Mod_359 d_Mod_wait_33 (fun v9 _ => ?_)
      refine xW_pure (fun _ _ _ _ _ => am_iconst (v := 0) d_Mod_wait_36 (by decide)) ?_
      refine xW_aR O (by decide) d_Mod_wait_37 (fun v10 _ => ?_)
      refine xW_pure (fun _ _ _ _ _ => am_astore_n d_Mod_wait_38 rfl (Nat.le_of_ble_eq_true rfl)) ?_
      refine xW_pure (fun _ _ _ _ _ => am_iconst (v := 1) d_Mod_wait_39 (by decide)) ?_
      refine xW_pure (fun _ _ _ _ _ => am_istore_n d_Mod_wait_40 rfl (Nat.le_of_ble_eq_true rfl)) ?_
      refine xW_locs (lv' := [(0, .ref x0), (1, .int x1), (2, .ref v10), (3, .int 1)]) rfl ?_
      refine xW_loop (lvf := fun (z41 : Int32 × HS) => [(0, .ref x0), (1, .int x1), (2, .ref v10), (3, .int z41.1)]) (hsf := fun (z41 : Int32 × HS) => z41.2) (fun again41 ih41 z41 => ?_) FU (1, s7)
      refine xW_pure (fun _ _ _ _ _ => am_iload_n d_Mod_wait_41 rfl rfl) ?_
      refine xW_pure (fun _ _ _ _ _ => am_bipush (v := 8) d_Mod_wait_42 (by decide)) ?_
      refine xW_ite (fun _ _ _ _ _ => am_icmp_ge (tgt := 67) d_Mod_wait_44 (by decide)) (fun _ => ?_) (fun _ => ?_)
      · refine xW_pure (fun _ _ _ _ _ => am_aload_n d_Mod_wait_67 rfl rfl) ?_
        refine xW_gR O f_Mod_359 d_Mod_wait_68 (fun v11 _ => ?_)
        refine xW_pure (fun _ _ _ _ _ => am_bipush (v := 7) d_Mod_wait_71 (by decide)) ?_
        refine xW_pure (fun _ _ _ _ _ => am_aload_n d_Mod_wait_73 rfl rfl) ?_
        refine xW_sR O (ci := 13) (by rfl) (by rfl) (by decide) d_Mod_wait_74 (fun s12 _ => ?_)
        refine xW_pure (fun _ _ _ _ _ => am_aload_n d_Mod_wait_75 rfl rfl) ?_
        refine xW_pure (fun _ _ _ _ _ => am_dup d_Mod_wait_76 rfl) ?_
        refine xW_gI O f_Mod_409 d_Mod_wait_77 (fun v13 _ => ?_)
        refine xW_pure (fun _ _ _ _ _ => am_iconst (v := 1) d_Mod_wait_80 (by decide)) ?_
        refine xW_pure (fun _ _ _ _ _ => am_isub d_Mod_wait_81) ?_
        refine xW_put O f_Mod_409 d_Mod_wait_82 (fun q hq => by cases hq; exact ⟨rfl, rfl, rfl⟩) (fun s14 _ => ?_)
        refine xW_locs (lv' := [(0, .ref x0), (1, .int x1)]) rfl ?_
        exact dx_Mod_wait_b85 O T
      · refine xW_pure (fun _ _ _ _ _ => am_aload_n d_Mod_wait_47 rfl rfl) ?_
        refine xW_gR O f_Mod_359 d_Mod_wait_48 (fun v27 _ => ?_)
        refine xW_pure (fun _ _ _ _ _ => am_iload_n d_Mod_wait_51 rfl rfl) ?_
        refine xW_pure (fun _ _ _ _ _ => am_iconst (v := 1) d_Mod_wait_52 (by decide)) ?_
        refine xW_pure (fun _ _ _ _ _ => am_isub d_Mod_wait_53) ?_
        refine xW_pure (fun _ _ _ _ _ => am_aload_n d_Mod_wait_54 rfl rfl) ?_
        refine xW_gR O f_Mod_359 d_Mod_wait_55 (fun v28 _ => ?_)
        refine xW_pure (fun _ _ _ _ _ => am_iload_n d_Mod_wait_58 rfl rfl) ?_
        refine xW_aR O (by decide) d_Mod_wait_59 (fun v29 _ => ?_)
        refine xW_sR O (ci := 13) (by rfl) (by rfl) (by decide) d_Mod_wait_60 (fun s30 _ => ?_)
        refine xW_pure (fun _ _ _ _ _ => am_iinc (v := 1) d_Mod_wait_61 rfl (by decide) (Nat.le_of_ble_eq_true rfl)) ?_
        refine xW_pure (fun _ _ _ _ _ => am_goto (tgt := 41) d_Mod_wait_64 (by decide)) ?_
        refine xW_locs (lv' := [(0, .ref x0), (1, .int x1), (2, .ref v10), (3, .int (z41.1 + 1))]) rfl ?_
        exact ih41 ((z41.1 + 1), s30)
    · refine xW_locs (lv' := [(0, .ref x0), (1, .int x1)]) rfl ?_
      exact dx_Mod_wait_b85 O T

theorem ob_Mod_wait {d : Nat} {x0 : Nat} {x1 : Int32} {s : HS} {y : Unit × HS} (h : x_Mod_wait d x0 x1 s = some y) : isO s x0 14 = true := by
  cases d with
  | zero => cases h
  | succ d => exact (gd_spec h).1

set_option maxRecDepth 100000 in
def x_Mod_sync (d : Nat) (x0 : Nat) (s : HS) : Option (Int32 × HS) := match d with
  | 0 => none
  | d + 1 => gd s x0 14 ((gI s x0 14 34).bind fun v1 => ((gR s x0 14 32).bind fun v2 => ((gR s x0 14 30).bind fun v3 => (bnd (x_State_copy d v2 v3 s) fun v5 s4 => ((pV s4 x0 14 34 (.int 0)).bind fun s6 => (some (v1, s6)))))))

set_option maxRecDepth 100000 in
set_option maxHeartbeats 4000000 in
theorem dx_Mod_sync (O : am_ok K X) (T : am_T K) {d : Nat} {x0 : Nat} {s : HS} : xM cvI K X m_Mod_sync d [.ref x0] s (x_Mod_sync d x0 s) := by
  cases d with
  | zero => exact xM_none
  | succ d =>
    unfold x_Mod_sync
    refine xM_enter (by decide +kernel) (Nat.le_of_ble_eq_true rfl) ?_
    refine xW_gd (fun _ => ?_)
    refine xW_pure (fun _ _ _ _ _ => am_aload_n d_Mod_sync_0 rfl rfl) ?_
    refine xW_gI O f_Mod_409 d_Mod_sync_1 (fun v1 _ => ?_)
    refine xW_pure (fun _ _ _ _ _ => am_istore_n d_Mod_sync_4 rfl (Nat.le_of_ble_eq_true rfl)) ?_
    refine xW_pure (fun _ _ _ _ _ => am_aload_n d_Mod_sync_5 rfl rfl) ?_
    refine xW_gR O f_Mod_356 d_Mod_sync_6 (fun v2 _ => ?_)
    refine xW_pure (fun _ _ _ _ _ => am_aload_n d_Mod_sync_9 rfl rfl) ?_
    refine xW_gR O f_Mod_349 d_Mod_sync_10 (fun v3 _ => ?_)
    refine xW_callV O (dx_State_copy O T) (fun _ e => ob_State_copy e) rfl rfl rfl l_Mod_448 ⟨w_1987, w_1988⟩ rfl (Nat.le_of_ble_eq_true rfl) d_Mod_sync_13 (fun v5 s4 _ => ?_)
    refine xW_pure (fun _ _ _ _ _ => am_aload_n d_Mod_sync_16 rfl rfl) ?_
    refine xW_pure (fun _ _ _ _ _ => am_iconst (v := 0) d_Mod_sync_17 (by decide)) ?_
    refine xW_put O f_Mod_409 d_Mod_sync_18 (fun q hq => by cases hq; exact ⟨rfl, rfl, rfl⟩) (fun s6 _ => ?_)
    refine xW_pure (fun _ _ _ _ _ => am_iload_n d_Mod_sync_21 rfl rfl) ?_
    exact xW_ret (fun _ _ _ _ _ => am_iret rfl d_Mod_sync_22)

theorem ob_Mod_sync {d : Nat} {x0 : Nat} {s : HS} {y : Int32 × HS} (h : x_Mod_sync d x0 s = some y) : isO s x0 14 = true := by
  cases d with
  | zero => cases h
  | succ d => exact (gd_spec h).1

set_option maxRecDepth 100000 in
def x_Mod_crash_b111 (d : Nat) (l0 : Nat) (l2 : Int32) (t0 : Nat) (t1 : Nat) (s : HS) : Option (Int32 × HS) := bnd (x_State_copy d t0 t1 s) fun v6 s5 => ((gR s5 l0 14 32).bind fun v7 => ((gR s5 l0 14 30).bind fun v8 => (bnd (x_State_copy d v7 v8 s5) fun v10 s9 => ((pV s9 l0 14 34 (.int 0)).bind fun s11 => (some (l2, s11))))))

set_option maxRecDepth 100000 in
set_option maxHeartbeats 4000000 in
theorem dx_Mod_crash_b111 (O : am_ok K X) (T : am_T K) {d : Nat} {l0 : Nat} {l2 : Int32} {t0 : Nat} {t1 : Nat} {s : HS} : xW cvI K X m_Mod_crash (d + 1) 111 [(0, .ref l0), (2, .int l2)] [.ref t1, .ref t0] s (x_Mod_crash_b111 d l0 l2 t0 t1 s) := by
  unfold x_Mod_crash_b111
  refine xW_callV O (dx_State_copy O T) (fun _ e => ob_State_copy e) rfl rfl rfl l_Mod_448 ⟨w_1987, w_1988⟩ rfl (Nat.le_of_ble_eq_true rfl) d_Mod_crash_111 (fun v6 s5 _ => ?_)
  refine xW_pure (fun _ _ _ _ _ => am_aload_n d_Mod_crash_114 rfl rfl) ?_
  refine xW_gR O f_Mod_356 d_Mod_crash_115 (fun v7 _ => ?_)
  refine xW_pure (fun _ _ _ _ _ => am_aload_n d_Mod_crash_118 rfl rfl) ?_
  refine xW_gR O f_Mod_349 d_Mod_crash_119 (fun v8 _ => ?_)
  refine xW_callV O (dx_State_copy O T) (fun _ e => ob_State_copy e) rfl rfl rfl l_Mod_448 ⟨w_1987, w_1988⟩ rfl (Nat.le_of_ble_eq_true rfl) d_Mod_crash_122 (fun v10 s9 _ => ?_)
  refine xW_pure (fun _ _ _ _ _ => am_aload_n d_Mod_crash_125 rfl rfl) ?_
  refine xW_pure (fun _ _ _ _ _ => am_iconst (v := 0) d_Mod_crash_126 (by decide)) ?_
  refine xW_put O f_Mod_409 d_Mod_crash_127 (fun q hq => by cases hq; exact ⟨rfl, rfl, rfl⟩) (fun s11 _ => ?_)
  refine xW_pure (fun _ _ _ _ _ => am_iload_n d_Mod_crash_130 rfl rfl) ?_
  exact xW_ret (fun _ _ _ _ _ => am_iret rfl d_Mod_crash_131)

set_option maxRecDepth 100000 in
def x_Mod_crash_b51 (d : Nat) (l0 : Nat) (l2 : Int32) (s : HS) : Option (Int32 × HS) := loopK (fun (again54 : Int32 × HS → Option (Int32 × HS)) (z54 : Int32 × HS) => ((gI z54.2 l0 14 34).bind fun v2 => (if v2 ≤ z54.1 then ((gR z54.2 l0 14 30).bind fun v3 => (if l2 = 0 then ((gR z54.2 l0 14 32).bind fun v4 => (x_Mod_crash_b111 d l0 l2 v3 v4 z54.2)) else ((gR z54.2 l0 14 33).bind fun v12 => ((aR "StowTongueModel$State" z54.2 v12 (l2 - 1)).bind fun v13 => (x_Mod_crash_b111 d l0 l2 v3 v13 z54.2))))) else ((gI z54.2 l0 14 35).bind fun v14 => ((gR z54.2 l0 14 33).bind fun v15 => ((aR "StowTongueModel$State" z54.2 v15 z54.1).bind fun v16 => ((gI z54.2 v16 13 11).bind fun v17 => ((pV z54.2 l0 14 35 (.int (v14 - v17))).bind fun s18 => (again54 ((z54.1 + 1), s18)))))))))) FU (l2, s)

set_option maxRecDepth 100000 in
set_option maxHeartbeats 4000000 in
theorem dx_Mod_crash_b51 (O : am_ok K X) (T : am_T K) {d : Nat} {l0 : Nat} {l2 : Int32} {s : HS} : xW cvI K X m_Mod_crash (d + 1) 51 [(0, .ref l0), (2, .int l2)] [] s (x_Mod_crash_b51 d l0 l2 s) := by
  unfold x_Mod_crash_b51
  refine xW_pure (fun _ _ _ _ _ => am_iload_n d_Mod_crash_51 rfl rfl) ?_
  refine xW_pure (fun _ _ _ _ _ => am_istore d_Mod_crash_52 (Nat.le_of_ble_eq_true rfl)) ?_
  refine xW_locs (lv' := [(0, .ref l0), (2, .int l2), (4, .int l2)]) rfl ?_
  refine xW_loop (lvf := fun (z54 : Int32 × HS) => [(0, .ref l0), (2, .int l2), (4, .int z54.1)]) (hsf := fun (z54 : Int32 × HS) => z54.2) (fun again54 ih54 z54 => ?_) FU (l2, s)
  refine xW_pure (fun _ _ _ _ _ => am_iload d_Mod_crash_54 rfl) ?_
  refine xW_pure (fun _ _ _ _ _ => am_aload_n d_Mod_crash_56 rfl rfl) ?_
  refine xW_gI O f_Mod_409 d_Mod_crash_57 (fun v2 _ => ?_)
  refine xW_ite (fun _ _ _ _ _ => am_icmp_ge (tgt := 88) d_Mod_crash_60 (by decide)) (fun _ => ?_) (fun _ => ?_)
  · refine xW_pure (fun _ _ _ _ _ => am_aload_n d_Mod_crash_88 rfl rfl) ?_
    refine xW_gR O f_Mod_349 d_Mod_crash_89 (fun v3 _ => ?_)
    refine xW_pure (fun _ _ _ _ _ => am_iload_n d_Mod_crash_92 rfl rfl) ?_
    refine xW_ite (fun _ _ _ _ _ k1 k2 => am_if_ne (tgt := 103) d_Mod_crash_93 (by decide) k2 k1) (fun _ => ?_) (fun _ => ?_)
    · refine xW_pure (fun _ _ _ _ _ => am_aload_n d_Mod_crash_96 rfl rfl) ?_
      refine xW_gR O f_Mod_356 d_Mod_crash_97 (fun v4 _ => ?_)
      refine xW_pure (fun _ _ _ _ _ => am_goto (tgt := 111) d_Mod_crash_100 (by decide)) ?_
      refine xW_locs (lv' := [(0, .ref l0), (2, .int l2)]) rfl ?_
      exact dx_Mod_crash_b111 O T
    · refine xW_pure (fun _ _ _ _ _ => am_aload_n d_Mod_crash_103 rfl rfl) ?_
      refine xW_gR O f_Mod_359 d_Mod_crash_104 (fun v12 _ => ?_)
      refine xW_pure (fun _ _ _ _ _ => am_iload_n d_Mod_crash_107 rfl rfl) ?_
      refine xW_pure (fun _ _ _ _ _ => am_iconst (v := 1) d_Mod_crash_108 (by decide)) ?_
      refine xW_pure (fun _ _ _ _ _ => am_isub d_Mod_crash_109) ?_
      refine xW_aR O (by decide) d_Mod_crash_110 (fun v13 _ => ?_)
      refine xW_locs (lv' := [(0, .ref l0), (2, .int l2)]) rfl ?_
      exact dx_Mod_crash_b111 O T
  · refine xW_pure (fun _ _ _ _ _ => am_aload_n d_Mod_crash_63 rfl rfl) ?_
    refine xW_pure (fun _ _ _ _ _ => am_dup d_Mod_crash_64 rfl) ?_
    refine xW_gI O f_Mod_480 d_Mod_crash_65 (fun v14 _ => ?_)
    refine xW_pure (fun _ _ _ _ _ => am_aload_n d_Mod_crash_68 rfl rfl) ?_
    refine xW_gR O f_Mod_359 d_Mod_crash_69 (fun v15 _ => ?_)
    refine xW_pure (fun _ _ _ _ _ => am_iload d_Mod_crash_72 rfl) ?_
    refine xW_aR O (by decide) d_Mod_crash_74 (fun v16 _ => ?_)
    refine xW_gI O f_Mod_483 d_Mod_crash_75 (fun v17 _ => ?_)
    refine xW_pure (fun _ _ _ _ _ => am_isub d_Mod_crash_78) ?_
    refine xW_put O f_Mod_480 d_Mod_crash_79 (fun q hq => by cases hq; exact ⟨rfl, rfl, rfl⟩) (fun s18 _ => ?_)
    refine xW_pure (fun _ _ _ _ _ => am_iinc (v := 1) d_Mod_crash_82 rfl (by decide) (Nat.le_of_ble_eq_true rfl)) ?_
    refine xW_pure (fun _ _ _ _ _ => am_goto (tgt := 54) d_Mod_crash_85 (by decide)) ?_
    refine xW_locs (lv' := [(0, .ref l0), (2, .int l2), (4, .int (z54.1 + 1))]) rfl ?_
    exact ih54 ((z54.1 + 1), s18)

set_option maxRecDepth 100000 in
def x_Mod_crash (d : Nat) (x0 : Nat) (x1 : Int32) (s : HS) : Option (Int32 × HS) := match d with
  | 0 => none
  | d + 1 => gd s x0 14 (if 0 ≤ x1 then (loopK (fun (again10 : Int32 × Int32 × HS → Option (Int32 × HS)) (z10 : Int32 × Int32 × HS) => ((gI z10.2.2 x0 14 34).bind fun v1 => (if v1 ≤ z10.1 then (x_Mod_crash_b51 d x0 z10.1 z10.2.2) else ((gR z10.2.2 x0 14 33).bind fun v19 => ((aR "StowTongueModel$State" z10.2.2 v19 z10.1).bind fun v20 => ((gI z10.2.2 v20 13 11).bind fun v21 => (if x1 < (z10.2.1 + v21) then (x_Mod_crash_b51 d x0 z10.1 z10.2.2) else ((gR z10.2.2 x0 14 33).bind fun v22 => ((aR "StowTongueModel$State" z10.2.2 v22 z10.1).bind fun v23 => ((gI z10.2.2 v23 13 11).bind fun v24 => (again10 ((z10.1 + 1), (z10.2.1 + v24), z10.2.2)))))))))))) FU (0, 0, s)) else (some ((-1), s)))

set_option maxRecDepth 100000 in
set_option maxHeartbeats 4000000 in
theorem dx_Mod_crash (O : am_ok K X) (T : am_T K) {d : Nat} {x0 : Nat} {x1 : Int32} {s : HS} : xM cvI K X m_Mod_crash d [.ref x0, .int x1] s (x_Mod_crash d x0 x1 s) := by
  cases d with
  | zero => exact xM_none
  | succ d =>
    unfold x_Mod_crash
    refine xM_enter (by decide +kernel) (Nat.le_of_ble_eq_true rfl) ?_
    refine xW_gd (fun _ => ?_)
    refine xW_pure (fun _ _ _ _ _ => am_iload_n d_Mod_crash_0 rfl rfl) ?_
    refine xW_ite (fun _ _ _ _ _ => am_if_ge (tgt := 6) d_Mod_crash_1 (by decide)) (fun _ => ?_) (fun _ => ?_)
    · refine xW_pure (fun _ _ _ _ _ => am_iconst (v := 0) d_Mod_crash_6 (by decide)) ?_
      refine xW_pure (fun _ _ _ _ _ => am_istore_n d_Mod_crash_7 rfl (Nat.le_of_ble_eq_true rfl)) ?_
      refine xW_pure (fun _ _ _ _ _ => am_iconst (v := 0) d_Mod_crash_8 (by decide)) ?_
      refine xW_pure (fun _ _ _ _ _ => am_istore_n d_Mod_crash_9 rfl (Nat.le_of_ble_eq_true rfl)) ?_
      refine xW_locs (lv' := [(0, .ref x0), (1, .int x1), (2, .int 0), (3, .int 0)]) rfl ?_
      refine xW_loop (lvf := fun (z10 : Int32 × Int32 × HS) => [(0, .ref x0), (1, .int x1), (2, .int z10.1), (3, .int z10.2.1)]) (hsf := fun (z10 : Int32 × Int32 × HS) => z10.2.2) (fun again10 ih10 z10 => ?_) FU (0, 0, s)
      refine xW_pure (fun _ _ _ _ _ => am_iload_n d_Mod_crash_10 rfl rfl) ?_
      refine xW_pure (fun _ _ _ _ _ => am_aload_n d_Mod_crash_11 rfl rfl) ?_
      refine xW_gI O f_Mod_409 d_Mod_crash_12 (fun v1 _ => ?_)
      refine xW_ite (fun _ _ _ _ _ => am_icmp_ge (tgt := 51) d_Mod_crash_15 (by decide)) (fun _ => ?_) (fun _ => ?_)
      · refine xW_locs (lv' := [(0, .ref x0), (2, .int z10.1)]) rfl ?_
        exact dx_Mod_crash_b51 O T
      · refine xW_pure (fun _ _ _ _ _ => am_iload_n d_Mod_crash_18 rfl rfl) ?_
        refine xW_pure (fun _ _ _ _ _ => am_aload_n d_Mod_crash_19 rfl rfl) ?_
        refine xW_gR O f_Mod_359 d_Mod_crash_20 (fun v19 _ => ?_)
        refine xW_pure (fun _ _ _ _ _ => am_iload_n d_Mod_crash_23 rfl rfl) ?_
        refine xW_aR O (by decide) d_Mod_crash_24 (fun v20 _ => ?_)
        refine xW_gI O f_Mod_483 d_Mod_crash_25 (fun v21 _ => ?_)
        refine xW_pure (fun _ _ _ _ _ => am_iadd d_Mod_crash_28) ?_
        refine xW_pure (fun _ _ _ _ _ => am_iload_n d_Mod_crash_29 rfl rfl) ?_
        refine xW_ite (fun _ _ _ _ _ => am_icmp_gt (tgt := 51) d_Mod_crash_30 (by decide)) (fun _ => ?_) (fun _ => ?_)
        · refine xW_locs (lv' := [(0, .ref x0), (2, .int z10.1)]) rfl ?_
          exact dx_Mod_crash_b51 O T
        · refine xW_pure (fun _ _ _ _ _ => am_iload_n d_Mod_crash_33 rfl rfl) ?_
          refine xW_pure (fun _ _ _ _ _ => am_aload_n d_Mod_crash_34 rfl rfl) ?_
          refine xW_gR O f_Mod_359 d_Mod_crash_35 (fun v22 _ => ?_)
          refine xW_pure (fun _ _ _ _ _ => am_iload_n d_Mod_crash_38 rfl rfl) ?_
          refine xW_aR O (by decide) d_Mod_crash_39 (fun v23 _ => ?_)
          refine xW_gI O f_Mod_483 d_Mod_crash_40 (fun v24 _ => ?_)
          refine xW_pure (fun _ _ _ _ _ => am_iadd d_Mod_crash_43) ?_
          refine xW_pure (fun _ _ _ _ _ => am_istore_n d_Mod_crash_44 rfl (Nat.le_of_ble_eq_true rfl)) ?_
          refine xW_pure (fun _ _ _ _ _ => am_iinc (v := 1) d_Mod_crash_45 rfl (by decide) (Nat.le_of_ble_eq_true rfl)) ?_
          refine xW_pure (fun _ _ _ _ _ => am_goto (tgt := 10) d_Mod_crash_48 (by decide)) ?_
          refine xW_locs (lv' := [(0, .ref x0), (1, .int x1), (2, .int (z10.1 + 1)), (3, .int (z10.2.1 + v24))]) rfl ?_
          exact ih10 ((z10.1 + 1), (z10.2.1 + v24), z10.2.2)
    · refine xW_pure (fun _ _ _ _ _ => am_iconst (v := (-1)) d_Mod_crash_4 (by decide)) ?_
      exact xW_ret (fun _ _ _ _ _ => am_iret rfl d_Mod_crash_5)

theorem ob_Mod_crash {d : Nat} {x0 : Nat} {x1 : Int32} {s : HS} {y : Int32 × HS} (h : x_Mod_crash d x0 x1 s = some y) : isO s x0 14 = true := by
  cases d with
  | zero => cases h
  | succ d => exact (gd_spec h).1

set_option maxRecDepth 100000 in
def x_Mod_sweep (d : Nat) (x0 : Nat) (s : HS) : Option (Int32 × HS) := match d with
  | 0 => none
  | d + 1 => gd s x0 14 ((gR s x0 14 50).bind fun v1 => (bnd (x_Arr_fill_aZZ d v1 0 s) fun v3 s2 => ((pV s2 x0 14 52 (.int 0)).bind fun s4 => (loopK (fun (again15 : Int32 × HS → Option (Int32 × HS)) (z15 : Int32 × HS) => ((gR z15.2 x0 14 30).bind fun v5 => ((gI z15.2 v5 13 9).bind fun v6 => (if v6 ≤ z15.1 then (loopK (fun (again62 : Int32 × HS → Option (Int32 × HS)) (z62 : Int32 × HS) => ((gI z62.2 x0 14 52).bind fun v7 => (if v7 ≤ z62.1 then (loopK (fun (again146 : Int32 × Int32 × HS → Option (Int32 × HS)) (z146 : Int32 × Int32 × HS) => (if 100 ≤ z146.2.1 then (if z146.1 ≤ 0 then (some (z146.1, z146.2.2)) else (bnd (x_Mod_wait d x0 8 z146.2.2) fun v9 s8 => (some (z146.1, s8)))) else ((gR z146.2.2 x0 14 30).bind fun v10 => ((gR z146.2.2 v10 13 0).bind fun v11 => ((aI z146.2.2 v11 z146.2.1).bind fun v12 => (if v12 = 0 then (again146 (z146.1, (z146.2.1 + 1), z146.2.2)) else ((gR z146.2.2 x0 14 50).bind fun v13 => ((aZ z146.2.2 v13 z146.2.1).bind fun v14 => (if v14 = 0 then ((gR z146.2.2 x0 14 30).bind fun v15 => ((gR z146.2.2 v15 13 0).bind fun v16 => ((sV z146.2.2 .int v16 z146.2.1 (.int 0)).bind fun s17 => ((gR s17 x0 14 30).bind fun v18 => ((gR s17 v18 13 1).bind fun v19 => ((sV s17 .int v19 z146.2.1 (.int 0)).bind fun s20 => ((gR s20 x0 14 30).bind fun v21 => ((gI s20 v21 13 8).bind fun v22 => ((pV s20 v21 13 8 (.int (v22 - 1))).bind fun s23 => (again146 ((z146.1 + 1), (z146.2.1 + 1), s23))))))))))) else (again146 (z146.1, (z146.2.1 + 1), z146.2.2))))))))))) FU (0, 0, z62.2)) else ((gR z62.2 x0 14 51).bind fun v24 => ((aI z62.2 v24 z62.1).bind fun v25 => (loopK (fun (again82 : Int32 × HS → Option (Int32 × HS)) (z82 : Int32 × HS) => ((gR z82.2 x0 14 30).bind fun v26 => ((gR z82.2 v26 13 1).bind fun v27 => ((gR z82.2 x0 14 51).bind fun v28 => ((aI z82.2 v28 z62.1).bind fun v29 => ((aI z82.2 v27 v29).bind fun v30 => (if ((20 * v25) + v30) ≤ z82.1 then (again62 ((z62.1 + 1), z82.2)) else ((gR z82.2 x0 14 30).bind fun v31 => ((gR z82.2 v31 13 5).bind fun v32 => ((gR z82.2 v32 11 0).bind fun v33 => ((aI z82.2 v33 z82.1).bind fun v34 => ((gR z82.2 x0 14 30).bind fun v35 => ((gR z82.2 v35 13 5).bind fun v36 => ((gR z82.2 v36 11 2).bind fun v37 => ((aL z82.2 v37 z82.1).bind fun v38 => (bnd (x_Mod_reach d x0 v34 v38 z82.2) fun v40 s39 => (again82 ((z82.1 + 1), s39)))))))))))))))))) FU ((20 * v25), z62.2))))))) FU (0, z15.2)) else ((gR z15.2 x0 14 30).bind fun v41 => ((gR z15.2 v41 13 6).bind fun v42 => ((gR z15.2 v42 11 0).bind fun v43 => ((aI z15.2 v43 z15.1).bind fun v44 => ((gR z15.2 x0 14 30).bind fun v45 => ((gR z15.2 v45 13 6).bind fun v46 => ((gR z15.2 v46 11 2).bind fun v47 => ((aL z15.2 v47 z15.1).bind fun v48 => (bnd (x_Mod_reach d x0 v44 v48 z15.2) fun v50 s49 => (again15 ((z15.1 + 1), s49))))))))))))))) FU (0, s4)))))

set_option maxRecDepth 100000 in
set_option maxHeartbeats 4000000 in
theorem dx_Mod_sweep (O : am_ok K X) (T : am_T K) {d : Nat} {x0 : Nat} {s : HS} : xM cvI K X m_Mod_sweep d [.ref x0] s (x_Mod_sweep d x0 s) := by
  cases d with
  | zero => exact xM_none
  | succ d =>
    unfold x_Mod_sweep
    refine xM_enter (by decide +kernel) (Nat.le_of_ble_eq_true rfl) ?_
    refine xW_gd (fun _ => ?_)
    refine xW_pure (fun _ _ _ _ _ => am_aload_n d_Mod_sweep_0 rfl rfl) ?_
    refine xW_gR O f_Mod_389 d_Mod_sweep_1 (fun v1 _ => ?_)
    refine xW_pure (fun _ _ _ _ _ => am_iconst (v := 0) d_Mod_sweep_4 (by decide)) ?_
    refine xW_callS O (dx_Arr_fill_aZZ O T) rfl l_Mod_607 w_2155 rfl (Nat.le_of_ble_eq_true rfl) d_Mod_sweep_5 (fun v3 s2 _ => ?_)
    refine xW_pure (fun _ _ _ _ _ => am_aload_n d_Mod_sweep_8 rfl rfl) ?_
    refine xW_pure (fun _ _ _ _ _ => am_iconst (v := 0) d_Mod_sweep_9 (by decide)) ?_
    refine xW_put O f_Mod_604 d_Mod_sweep_10 (fun q hq => by cases hq; exact ⟨rfl, rfl, rfl⟩) (fun s4 _ => ?_)
    refine xW_pure (fun _ _ _ _ _ => am_iconst (v := 0) d_Mod_sweep_13 (by decide)) ?_
    refine xW_pure (fun _ _ _ _ _ => am_istore_n d_Mod_sweep_14 rfl (Nat.le_of_ble_eq_true rfl)) ?_
    refine xW_locs (lv' := [(0, .ref x0), (1, .int 0)]) rfl ?_
    refine xW_loop (lvf := fun (z15 : Int32 × HS) => [(0, .ref x0), (1, .int z15.1)]) (hsf := fun (z15 : Int32 × HS) => z15.2) (fun again15 ih15 z15 => ?_) FU (0, s4)
    refine xW_pure (fun _ _ _ _ _ => am_iload_n d_Mod_sweep_15 rfl rfl) ?_
    refine xW_pure (fun _ _ _ _ _ => am_aload_n d_Mod_sweep_16 rfl rfl) ?_
    refine xW_gR O f_Mod_349 d_Mod_sweep_17 (fun v5 _ => ?_)
    refine xW_gI O f_Mod_463 d_Mod_sweep_20 (fun v6 _ => ?_)
    refine xW_ite (fun _ _ _ _ _ => am_icmp_ge (tgt := 60) d_Mod_sweep_23 (by decide)) (fun _ => ?_) (fun _ => ?_)
    · refine xW_pure (fun _ _ _ _ _ => am_iconst (v := 0) d_Mod_sweep_60 (by decide)) ?_
      refine xW_pure (fun _ _ _ _ _ => am_istore_n d_Mod_sweep_61 rfl (Nat.le_of_ble_eq_true rfl)) ?_
      refine xW_locs (lv' := [(0, .ref x0), (1, .int 0)]) rfl ?_
      refine xW_loop (lvf := fun (z62 : Int32 × HS) => [(0, .ref x0), (1, .int z62.1)]) (hsf := fun (z62 : Int32 × HS) => z62.2) (fun again62 ih62 z62 => ?_) FU (0, z15.2)
      refine xW_pure (fun _ _ _ _ _ => am_iload_n d_Mod_sweep_62 rfl rfl) ?_
      refine xW_pure (fun _ _ _ _ _ => am_aload_n d_Mod_sweep_63 rfl rfl) ?_
      refine xW_gI O f_Mod_604 d_Mod_sweep_64 (fun v7 _ => ?_)
      refine xW_ite (fun _ _ _ _ _ => am_icmp_ge (tgt := 142) d_Mod_sweep_67 (by decide)) (fun _ => ?_) (fun _ => ?_)
      · refine xW_pure (fun _ _ _ _ _ => am_iconst (v := 0) d_Mod_sweep_142 (by decide)) ?_
        refine xW_pure (fun _ _ _ _ _ => am_istore_n d_Mod_sweep_143 rfl (Nat.le_of_ble_eq_true rfl)) ?_
        refine xW_pure (fun _ _ _ _ _ => am_iconst (v := 0) d_Mod_sweep_144 (by decide)) ?_
        refine xW_pure (fun _ _ _ _ _ => am_istore_n d_Mod_sweep_145 rfl (Nat.le_of_ble_eq_true rfl)) ?_
        refine xW_locs (lv' := [(0, .ref x0), (1, .int 0), (2, .int 0)]) rfl ?_
        refine xW_loop (lvf := fun (z146 : Int32 × Int32 × HS) => [(0, .ref x0), (1, .int z146.1), (2, .int z146.2.1)]) (hsf := fun (z146 : Int32 × Int32 × HS) => z146.2.2) (fun again146 ih146 z146 => ?_) FU (0, 0, z62.2)
        refine xW_pure (fun _ _ _ _ _ => am_iload_n d_Mod_sweep_146 rfl rfl) ?_
        refine xW_pure (fun _ _ _ _ _ => am_bipush (v := 100) d_Mod_sweep_147 (by decide)) ?_
        refine xW_ite (fun _ _ _ _ _ => am_icmp_ge (tgt := 218) d_Mod_sweep_149 (by decide)) (fun _ => ?_) (fun _ => ?_)
        · refine xW_pure (fun _ _ _ _ _ => am_iload_n d_Mod_sweep_218 rfl rfl) ?_
          refine xW_ite (fun _ _ _ _ _ => am_if_le (tgt := 228) d_Mod_sweep_219 (by decide)) (fun _ => ?_) (fun _ => ?_)
          · refine xW_pure (fun _ _ _ _ _ => am_iload_n d_Mod_sweep_228 rfl rfl) ?_
            exact xW_ret (fun _ _ _ _ _ => am_iret rfl d_Mod_sweep_229)
          · refine xW_pure (fun _ _ _ _ _ => am_aload_n d_Mod_sweep_222 rfl rfl) ?_
            refine xW_pure (fun _ _ _ _ _ => am_bipush (v := 8) d_Mod_sweep_223 (by decide)) ?_
            refine xW_callV O (dx_Mod_wait O T) (fun _ e => ob_Mod_wait e) rfl rfl rfl l_Mod_477 ⟨w_2140, w_140⟩ rfl (Nat.le_of_ble_eq_true rfl) d_Mod_sweep_225 (fun v9 s8 _ => ?_)
            refine xW_pure (fun _ _ _ _ _ => am_iload_n d_Mod_sweep_228 rfl rfl) ?_
            exact xW_ret (fun _ _ _ _ _ => am_iret rfl d_Mod_sweep_229)
        · refine xW_pure (fun _ _ _ _ _ => am_aload_n d_Mod_sweep_152 rfl rfl) ?_
          refine xW_gR O f_Mod_349 d_Mod_sweep_153 (fun v10 _ => ?_)
          refine xW_gR O f_Mod_457 d_Mod_sweep_156 (fun v11 _ => ?_)
          refine xW_pure (fun _ _ _ _ _ => am_iload_n d_Mod_sweep_159 rfl rfl) ?_
          refine xW_aI O d_Mod_sweep_160 (fun v12 _ => ?_)
          refine xW_ite (fun _ _ _ _ _ => am_if_eq (tgt := 212) d_Mod_sweep_161 (by decide)) (fun _ => ?_) (fun _ => ?_)
          · refine xW_pure (fun _ _ _ _ _ => am_iinc (v := 1) d_Mod_sweep_212 rfl (by decide) (Nat.le_of_ble_eq_true rfl)) ?_
            refine xW_pure (fun _ _ _ _ _ => am_goto (tgt := 146) d_Mod_sweep_215 (by decide)) ?_
            refine xW_locs (lv' := [(0, .ref x0), (1, .int z146.1), (2, .int (z146.2.1 + 1))]) rfl ?_
            exact ih146 (z146.1, (z146.2.1 + 1), z146.2.2)
          · refine xW_pure (fun _ _ _ _ _ => am_aload_n d_Mod_sweep_164 rfl rfl) ?_
            refine xW_gR O f_Mod_389 d_Mod_sweep_165 (fun v13 _ => ?_)
            refine xW_pure (fun _ _ _ _ _ => am_iload_n d_Mod_sweep_168 rfl rfl) ?_
            refine xW_aZ O d_Mod_sweep_169 (fun v14 _ => ?_)
            refine xW_ite (fun _ _ _ _ _ => am_if_eq (tgt := 176) d_Mod_sweep_170 (by decide)) (fun _ => ?_) (fun _ => ?_)
            · refine xW_pure (fun _ _ _ _ _ => am_aload_n d_Mod_sweep_176 rfl rfl) ?_
              refine xW_gR O f_Mod_349 d_Mod_sweep_177 (fun v15 _ => ?_)
              refine xW_gR O f_Mod_457 d_Mod_sweep_180 (fun v16 _ => ?_)
              refine xW_pure (fun _ _ _ _ _ => am_iload_n d_Mod_sweep_183 rfl rfl) ?_
              refine xW_pure (fun _ _ _ _ _ => am_iconst (v := 0) d_Mod_sweep_184 (by decide)) ?_
              refine xW_sI O d_Mod_sweep_185 (fun s17 _ => ?_)
              refine xW_pure (fun _ _ _ _ _ => am_aload_n d_Mod_sweep_186 rfl rfl) ?_
              refine xW_gR O f_Mod_349 d_Mod_sweep_187 (fun v18 _ => ?_)
              refine xW_gR O f_Mod_558 d_Mod_sweep_190 (fun v19 _ => ?_)
              refine xW_pure (fun _ _ _ _ _ => am_iload_n d_Mod_sweep_193 rfl rfl) ?_
              refine xW_pure (fun _ _ _ _ _ => am_iconst (v := 0) d_Mod_sweep_194 (by decide)) ?_
              refine xW_sI O d_Mod_sweep_195 (fun s20 _ => ?_)
              refine xW_pure (fun _ _ _ _ _ => am_aload_n d_Mod_sweep_196 rfl rfl) ?_
              refine xW_gR O f_Mod_349 d_Mod_sweep_197 (fun v21 _ => ?_)
              refine xW_pure (fun _ _ _ _ _ => am_dup d_Mod_sweep_200 rfl) ?_
              refine xW_gI O f_Mod_578 d_Mod_sweep_201 (fun v22 _ => ?_)
              refine xW_pure (fun _ _ _ _ _ => am_iconst (v := 1) d_Mod_sweep_204 (by decide)) ?_
              refine xW_pure (fun _ _ _ _ _ => am_isub d_Mod_sweep_205) ?_
              refine xW_put O f_Mod_578 d_Mod_sweep_206 (fun q hq => by cases hq; exact ⟨rfl, rfl, rfl⟩) (fun s23 _ => ?_)
              refine xW_pure (fun _ _ _ _ _ => am_iinc (v := 1) d_Mod_sweep_209 rfl (by decide) (Nat.le_of_ble_eq_true rfl)) ?_
              refine xW_pure (fun _ _ _ _ _ => am_iinc (v := 1) d_Mod_sweep_212 rfl (by decide) (Nat.le_of_ble_eq_true rfl)) ?_
              refine xW_pure (fun _ _ _ _ _ => am_goto (tgt := 146) d_Mod_sweep_215 (by decide)) ?_
              refine xW_locs (lv' := [(0, .ref x0), (1, .int (z146.1 + 1)), (2, .int (z146.2.1 + 1))]) rfl ?_
              exact ih146 ((z146.1 + 1), (z146.2.1 + 1), s23)
            · refine xW_pure (fun _ _ _ _ _ => am_goto (tgt := 212) d_Mod_sweep_173 (by decide)) ?_
              refine xW_pure (fun _ _ _ _ _ => am_iinc (v := 1) d_Mod_sweep_212 rfl (by decide) (Nat.le_of_ble_eq_true rfl)) ?_
              refine xW_pure (fun _ _ _ _ _ => am_goto (tgt := 146) d_Mod_sweep_215 (by decide)) ?_
              refine xW_locs (lv' := [(0, .ref x0), (1, .int z146.1), (2, .int (z146.2.1 + 1))]) rfl ?_
              exact ih146 (z146.1, (z146.2.1 + 1), z146.2.2)
      · refine xW_pure (fun _ _ _ _ _ => am_bipush (v := 20) d_Mod_sweep_70 (by decide)) ?_
        refine xW_pure (fun _ _ _ _ _ => am_aload_n d_Mod_sweep_72 rfl rfl) ?_
        refine xW_gR O f_Mod_393 d_Mod_sweep_73 (fun v24 _ => ?_)
        refine xW_pure (fun _ _ _ _ _ => am_iload_n d_Mod_sweep_76 rfl rfl) ?_
        refine xW_aI O d_Mod_sweep_77 (fun v25 _ => ?_)
        refine xW_pure (fun _ _ _ _ _ => am_imul d_Mod_sweep_78) ?_
        refine xW_pure (fun _ _ _ _ _ => am_istore_n d_Mod_sweep_79 rfl (Nat.le_of_ble_eq_true rfl)) ?_
        refine xW_pure (fun _ _ _ _ _ => am_iload_n d_Mod_sweep_80 rfl rfl) ?_
        refine xW_pure (fun _ _ _ _ _ => am_istore_n d_Mod_sweep_81 rfl (Nat.le_of_ble_eq_true rfl)) ?_
        refine xW_locs (lv' := [(0, .ref x0), (1, .int z62.1), (2, .int (20 * v25)), (3, .int (20 * v25))]) rfl ?_
        refine xW_loop (lvf := fun (z82 : Int32 × HS) => [(0, .ref x0), (1, .int z62.1), (2, .int (20 * v25)), (3, .int z82.1)]) (hsf := fun (z82 : Int32 × HS) => z82.2) (fun again82 ih82 z82 => ?_) FU ((20 * v25), z62.2)
        refine xW_pure (fun _ _ _ _ _ => am_iload_n d_Mod_sweep_82 rfl rfl) ?_
        refine xW_pure (fun _ _ _ _ _ => am_iload_n d_Mod_sweep_83 rfl rfl) ?_
        refine xW_pure (fun _ _ _ _ _ => am_aload_n d_Mod_sweep_84 rfl rfl) ?_
        refine xW_gR O f_Mod_349 d_Mod_sweep_85 (fun v26 _ => ?_)
        refine xW_gR O f_Mod_558 d_Mod_sweep_88 (fun v27 _ => ?_)
        refine xW_pure (fun _ _ _ _ _ => am_aload_n d_Mod_sweep_91 rfl rfl) ?_
        refine xW_gR O f_Mod_393 d_Mod_sweep_92 (fun v28 _ => ?_)
        refine xW_pure (fun _ _ _ _ _ => am_iload_n d_Mod_sweep_95 rfl rfl) ?_
        refine xW_aI O d_Mod_sweep_96 (fun v29 _ => ?_)
        refine xW_aI O d_Mod_sweep_97 (fun v30 _ => ?_)
        refine xW_pure (fun _ _ _ _ _ => am_iadd d_Mod_sweep_98) ?_
        refine xW_ite (fun _ _ _ _ _ => am_icmp_ge (tgt := 136) d_Mod_sweep_99 (by decide)) (fun _ => ?_) (fun _ => ?_)
        · refine xW_pure (fun _ _ _ _ _ => am_iinc (v := 1) d_Mod_sweep_136 rfl (by decide) (Nat.le_of_ble_eq_true rfl)) ?_
          refine xW_pure (fun _ _ _ _ _ => am_goto (tgt := 62) d_Mod_sweep_139 (by decide)) ?_
          refine xW_locs (lv' := [(0, .ref x0), (1, .int (z62.1 + 1))]) rfl ?_
          exact ih62 ((z62.1 + 1), z82.2)
        · refine xW_pure (fun _ _ _ _ _ => am_aload_n d_Mod_sweep_102 rfl rfl) ?_
          refine xW_pure (fun _ _ _ _ _ => am_aload_n d_Mod_sweep_103 rfl rfl) ?_
          refine xW_gR O f_Mod_349 d_Mod_sweep_104 (fun v31 _ => ?_)
          refine xW_gR O f_Mod_562 d_Mod_sweep_107 (fun v32 _ => ?_)
          refine xW_gR O f_Mod_515 d_Mod_sweep_110 (fun v33 _ => ?_)
          refine xW_pure (fun _ _ _ _ _ => am_iload_n d_Mod_sweep_113 rfl rfl) ?_
          refine xW_aI O d_Mod_sweep_114 (fun v34 _ => ?_)
          refine xW_pure (fun _ _ _ _ _ => am_aload_n d_Mod_sweep_115 rfl rfl) ?_
          refine xW_gR O f_Mod_349 d_Mod_sweep_116 (fun v35 _ => ?_)
          refine xW_gR O f_Mod_562 d_Mod_sweep_119 (fun v36 _ => ?_)
          refine xW_gR O f_Mod_508 d_Mod_sweep_122 (fun v37 _ => ?_)
          refine xW_pure (fun _ _ _ _ _ => am_iload_n d_Mod_sweep_125 rfl rfl) ?_
          refine xW_aL O d_Mod_sweep_126 (fun v38 _ => ?_)
          refine xW_callV O (dx_Mod_reach O T) (fun _ e => ob_Mod_reach e) rfl rfl rfl l_Mod_613 ⟨w_2159, w_141⟩ rfl (Nat.le_of_ble_eq_true rfl) d_Mod_sweep_127 (fun v40 s39 _ => ?_)
          refine xW_pure (fun _ _ _ _ _ => am_iinc (v := 1) d_Mod_sweep_130 rfl (by decide) (Nat.le_of_ble_eq_true rfl)) ?_
          refine xW_pure (fun _ _ _ _ _ => am_goto (tgt := 82) d_Mod_sweep_133 (by decide)) ?_
          refine xW_locs (lv' := [(0, .ref x0), (1, .int z62.1), (2, .int (20 * v25)), (3, .int (z82.1 + 1))]) rfl ?_
          exact ih82 ((z82.1 + 1), s39)
    · refine xW_pure (fun _ _ _ _ _ => am_aload_n d_Mod_sweep_26 rfl rfl) ?_
      refine xW_pure (fun _ _ _ _ _ => am_aload_n d_Mod_sweep_27 rfl rfl) ?_
      refine xW_gR O f_Mod_349 d_Mod_sweep_28 (fun v41 _ => ?_)
      refine xW_gR O f_Mod_472 d_Mod_sweep_31 (fun v42 _ => ?_)
      refine xW_gR O f_Mod_515 d_Mod_sweep_34 (fun v43 _ => ?_)
      refine xW_pure (fun _ _ _ _ _ => am_iload_n d_Mod_sweep_37 rfl rfl) ?_
      refine xW_aI O d_Mod_sweep_38 (fun v44 _ => ?_)
      refine xW_pure (fun _ _ _ _ _ => am_aload_n d_Mod_sweep_39 rfl rfl) ?_
      refine xW_gR O f_Mod_349 d_Mod_sweep_40 (fun v45 _ => ?_)
      refine xW_gR O f_Mod_472 d_Mod_sweep_43 (fun v46 _ => ?_)
      refine xW_gR O f_Mod_508 d_Mod_sweep_46 (fun v47 _ => ?_)
      refine xW_pure (fun _ _ _ _ _ => am_iload_n d_Mod_sweep_49 rfl rfl) ?_
      refine xW_aL O d_Mod_sweep_50 (fun v48 _ => ?_)
      refine xW_callV O (dx_Mod_reach O T) (fun _ e => ob_Mod_reach e) rfl rfl rfl l_Mod_613 ⟨w_2159, w_141⟩ rfl (Nat.le_of_ble_eq_true rfl) d_Mod_sweep_51 (fun v50 s49 _ => ?_)
      refine xW_pure (fun _ _ _ _ _ => am_iinc (v := 1) d_Mod_sweep_54 rfl (by decide) (Nat.le_of_ble_eq_true rfl)) ?_
      refine xW_pure (fun _ _ _ _ _ => am_goto (tgt := 15) d_Mod_sweep_57 (by decide)) ?_
      refine xW_locs (lv' := [(0, .ref x0), (1, .int (z15.1 + 1))]) rfl ?_
      exact ih15 ((z15.1 + 1), s49)

theorem ob_Mod_sweep {d : Nat} {x0 : Nat} {s : HS} {y : Int32 × HS} (h : x_Mod_sweep d x0 s = some y) : isO s x0 14 = true := by
  cases d with
  | zero => cases h
  | succ d => exact (gd_spec h).1

set_option maxRecDepth 100000 in
def x_Lexer_advance (d : Nat) (x0 : Nat) (s : HS) : Option (Unit × HS) := match d with
  | 0 => none
  | d + 1 => gd s x0 1 ((gI s x0 1 4).bind fun v1 => ((pV s x0 1 4 (.int (v1 + 1))).bind fun s2 => (bnd (x_Lexer_skipBlanks d x0 s2) fun v4 s3 => ((gI s3 x0 1 3).bind fun v5 => ((pV s3 x0 1 6 (.int v5)).bind fun s6 => ((gI s6 x0 1 3).bind fun v7 => (bnd (x_Lexer_byteAt d x0 v7 s6) fun v9 s8 => (if 0 ≤ v9 then (bnd (x_Lexer_isLetter d v9 s8) fun v11 s10 => (if v11 = 0 then (bnd (x_Lexer_isDigit d v9 s10) fun v13 s12 => (if v13 = 0 then (if v9 = 34 then (bnd (x_Lexer_scanText d x0 s12) fun v15 s14 => (some ((), s14))) else (bnd (x_Lexer_scanSign d x0 v9 s12) fun v17 s16 => (some ((), s16)))) else (bnd (x_Lexer_scanNumber d x0 s12) fun v19 s18 => (some ((), s18))))) else (bnd (x_Lexer_scanName d x0 s10) fun v21 s20 => (some ((), s20))))) else ((pV s8 x0 1 5 (.int 0)).bind fun s22 => (some ((), s22)))))))))))

set_option maxRecDepth 100000 in
set_option maxHeartbeats 4000000 in
theorem dx_Lexer_advance (O : am_ok K X) (T : am_T K) {d : Nat} {x0 : Nat} {s : HS} : xM cvU K X m_Lexer_advance d [.ref x0] s (x_Lexer_advance d x0 s) := by
  cases d with
  | zero => exact xM_none
  | succ d =>
    unfold x_Lexer_advance
    refine xM_enter (by decide +kernel) (Nat.le_of_ble_eq_true rfl) ?_
    refine xW_gd (fun _ => ?_)
    refine xW_pure (fun _ _ _ _ _ => am_aload_n d_Lexer_advance_0 rfl rfl) ?_
    refine xW_pure (fun _ _ _ _ _ => am_dup d_Lexer_advance_1 rfl) ?_
    refine xW_gI O f_Lexer_49 d_Lexer_advance_2 (fun v1 _ => ?_)
    refine xW_pure (fun _ _ _ _ _ => am_iconst (v := 1) d_Lexer_advance_5 (by decide)) ?_
    refine xW_pure (fun _ _ _ _ _ => am_iadd d_Lexer_advance_6) ?_
    refine xW_put O f_Lexer_49 d_Lexer_advance_7 (fun q hq => by cases hq; exact ⟨rfl, rfl, rfl⟩) (fun s2 _ => ?_)
    refine xW_pure (fun _ _ _ _ _ => am_aload_n d_Lexer_advance_10 rfl rfl) ?_
    refine xW_callV O (dx_Lexer_skipBlanks O T) (fun _ e => ob_Lexer_skipBlanks e) rfl rfl rfl l_Lexer_55 ⟨w_559, w_1⟩ rfl (Nat.le_of_ble_eq_true rfl) d_Lexer_advance_11 (fun v4 s3 _ => ?_)
    refine xW_pure (fun _ _ _ _ _ => am_aload_n d_Lexer_advance_14 rfl rfl) ?_
    refine xW_pure (fun _ _ _ _ _ => am_aload_n d_Lexer_advance_15 rfl rfl) ?_
    refine xW_gI O f_Lexer_46 d_Lexer_advance_16 (fun v5 _ => ?_)
    refine xW_put O f_Lexer_58 d_Lexer_advance_19 (fun q hq => by cases hq; exact ⟨rfl, rfl, rfl⟩) (fun s6 _ => ?_)
    refine xW_pure (fun _ _ _ _ _ => am_aload_n d_Lexer_advance_22 rfl rfl) ?_
    refine xW_pure (fun _ _ _ _ _ => am_aload_n d_Lexer_advance_23 rfl rfl) ?_
    refine xW_gI O f_Lexer_46 d_Lexer_advance_24 (fun v7 _ => ?_)
    refine xW_callV O (dx_Lexer_byteAt O T) (fun _ e => ob_Lexer_byteAt e) rfl rfl rfl l_Lexer_61 ⟨w_563, w_2⟩ rfl (Nat.le_of_ble_eq_true rfl) d_Lexer_advance_27 (fun v9 s8 _ => ?_)
    refine xW_pure (fun _ _ _ _ _ => am_istore_n d_Lexer_advance_30 rfl (Nat.le_of_ble_eq_true rfl)) ?_
    refine xW_pure (fun _ _ _ _ _ => am_iload_n d_Lexer_advance_31 rfl rfl) ?_
    refine xW_ite (fun _ _ _ _ _ => am_if_ge (tgt := 43) d_Lexer_advance_32 (by decide)) (fun _ => ?_) (fun _ => ?_)
    · refine xW_pure (fun _ _ _ _ _ => am_iload_n d_Lexer_advance_43 rfl rfl) ?_
      refine xW_callS O (dx_Lexer_isLetter O T) rfl l_Lexer_68 w_566 rfl (Nat.le_of_ble_eq_true rfl) d_Lexer_advance_44 (fun v11 s10 _ => ?_)
      refine xW_ite (fun _ _ _ _ _ => am_if_eq (tgt := 57) d_Lexer_advance_47 (by decide)) (fun _ => ?_) (fun _ => ?_)
      · refine xW_pure (fun _ _ _ _ _ => am_iload_n d_Lexer_advance_57 rfl rfl) ?_
        refine xW_callS O (dx_Lexer_isDigit O T) rfl l_Lexer_75 w_573 rfl (Nat.le_of_ble_eq_true rfl) d_Lexer_advance_58 (fun v13 s12 _ => ?_)
        refine xW_ite (fun _ _ _ _ _ => am_if_eq (tgt := 71) d_Lexer_advance_61 (by decide)) (fun _ => ?_) (fun _ => ?_)
        · refine xW_pure (fun _ _ _ _ _ => am_iload_n d_Lexer_advance_71 rfl rfl) ?_
          refine xW_pure (fun _ _ _ _ _ => am_bipush (v := 34) d_Lexer_advance_72 (by decide)) ?_
          refine xW_ite (fun _ _ _ _ _ k1 k2 => am_icmp_ne (tgt := 84) d_Lexer_advance_74 (by decide) k2 k1) (fun _ => ?_) (fun _ => ?_)
          · refine xW_pure (fun _ _ _ _ _ => am_aload_n d_Lexer_advance_77 rfl rfl) ?_
            refine xW_callV O (dx_Lexer_scanText O T) (fun _ e => ob_Lexer_scanText e) rfl rfl rfl l_Lexer_81 ⟨w_591, w_6⟩ rfl (Nat.le_of_ble_eq_true rfl) d_Lexer_advance_78 (fun v15 s14 _ => ?_)
            refine xW_pure (fun _ _ _ _ _ => am_goto (tgt := 89) d_Lexer_advance_81 (by decide)) ?_
            exact xW_ret (fun _ _ _ _ _ => am_vret rfl d_Lexer_advance_89)
          · refine xW_pure (fun _ _ _ _ _ => am_aload_n d_Lexer_advance_84 rfl rfl) ?_
            refine xW_pure (fun _ _ _ _ _ => am_iload_n d_Lexer_advance_85 rfl rfl) ?_
            refine xW_callV O (dx_Lexer_scanSign O T) (fun _ e => ob_Lexer_scanSign e) rfl rfl rfl l_Lexer_84 ⟨w_601, w_7⟩ rfl (Nat.le_of_ble_eq_true rfl) d_Lexer_advance_86 (fun v17 s16 _ => ?_)
            exact xW_ret (fun _ _ _ _ _ => am_vret rfl d_Lexer_advance_89)
        · refine xW_pure (fun _ _ _ _ _ => am_aload_n d_Lexer_advance_64 rfl rfl) ?_
          refine xW_callV O (dx_Lexer_scanNumber O T) (fun _ e => ob_Lexer_scanNumber e) rfl rfl rfl l_Lexer_78 ⟨w_581, w_5⟩ rfl (Nat.le_of_ble_eq_true rfl) d_Lexer_advance_65 (fun v19 s18 _ => ?_)
          refine xW_pure (fun _ _ _ _ _ => am_goto (tgt := 89) d_Lexer_advance_68 (by decide)) ?_
          exact xW_ret (fun _ _ _ _ _ => am_vret rfl d_Lexer_advance_89)
      · refine xW_pure (fun _ _ _ _ _ => am_aload_n d_Lexer_advance_50 rfl rfl) ?_
        refine xW_callV O (dx_Lexer_scanName O T) (fun _ e => ob_Lexer_scanName e) rfl rfl rfl l_Lexer_72 ⟨w_570, w_3⟩ rfl (Nat.le_of_ble_eq_true rfl) d_Lexer_advance_51 (fun v21 s20 _ => ?_)
        refine xW_pure (fun _ _ _ _ _ => am_goto (tgt := 89) d_Lexer_advance_54 (by decide)) ?_
        exact xW_ret (fun _ _ _ _ _ => am_vret rfl d_Lexer_advance_89)
    · refine xW_pure (fun _ _ _ _ _ => am_aload_n d_Lexer_advance_35 rfl rfl) ?_
      refine xW_pure (fun _ _ _ _ _ => am_iconst (v := 0) d_Lexer_advance_36 (by decide)) ?_
      refine xW_put O f_Lexer_65 d_Lexer_advance_37 (fun q hq => by cases hq; exact ⟨rfl, rfl, rfl⟩) (fun s22 _ => ?_)
      refine xW_pure (fun _ _ _ _ _ => am_goto (tgt := 89) d_Lexer_advance_40 (by decide)) ?_
      exact xW_ret (fun _ _ _ _ _ => am_vret rfl d_Lexer_advance_89)

theorem ob_Lexer_advance {d : Nat} {x0 : Nat} {s : HS} {y : Unit × HS} (h : x_Lexer_advance d x0 s = some y) : isO s x0 1 = true := by
  cases d with
  | zero => cases h
  | succ d => exact (gd_spec h).1

set_option maxRecDepth 100000 in
def x_Pars_take (d : Nat) (x0 : Nat) (x1 : Int32) (s : HS) : Option (Unit × HS) := match d with
  | 0 => none
  | d + 1 => gd s x0 5 ((gR s x0 5 0).bind fun v1 => (bnd (x_Lexer_kind d v1 s) fun v3 s2 => (if v3 = x1 then ((gR s2 x0 5 0).bind fun v4 => (bnd (x_Lexer_advance d v4 s2) fun v6 s5 => (some ((), s5)))) else (bnd (x_Pars_fail d x0 s2) fun v8 s7 => (some ((), s7))))))

set_option maxRecDepth 100000 in
set_option maxHeartbeats 4000000 in
theorem dx_Pars_take (O : am_ok K X) (T : am_T K) {d : Nat} {x0 : Nat} {x1 : Int32} {s : HS} : xM cvU K X m_Pars_take d [.ref x0, .int x1] s (x_Pars_take d x0 x1 s) := by
  cases d with
  | zero => exact xM_none
  | succ d =>
    unfold x_Pars_take
    refine xM_enter (by decide +kernel) (Nat.le_of_ble_eq_true rfl) ?_
    refine xW_gd (fun _ => ?_)
    refine xW_pure (fun _ _ _ _ _ => am_aload_n d_Pars_take_0 rfl rfl) ?_
    refine xW_gR O f_Pars_12 d_Pars_take_1 (fun v1 _ => ?_)
    refine xW_callV O (dx_Lexer_kind O T) (fun _ e => ob_Lexer_kind e) rfl rfl rfl l_Pars_59 ⟨w_673, w_674⟩ rfl (Nat.le_of_ble_eq_true rfl) d_Pars_take_4 (fun v3 s2 _ => ?_)
    refine xW_pure (fun _ _ _ _ _ => am_iload_n d_Pars_take_7 rfl rfl) ?_
    refine xW_ite (fun _ _ _ _ _ k1 k2 => am_icmp_ne (tgt := 21) d_Pars_take_8 (by decide) k2 k1) (fun _ => ?_) (fun _ => ?_)
    · refine xW_pure (fun _ _ _ _ _ => am_aload_n d_Pars_take_11 rfl rfl) ?_
      refine xW_gR O f_Pars_12 d_Pars_take_12 (fun v4 _ => ?_)
      refine xW_callV O (dx_Lexer_advance O T) (fun _ e => ob_Lexer_advance e) rfl rfl rfl l_Pars_96 ⟨w_554, w_555⟩ rfl (Nat.le_of_ble_eq_true rfl) d_Pars_take_15 (fun v6 s5 _ => ?_)
      refine xW_pure (fun _ _ _ _ _ => am_goto (tgt := 25) d_Pars_take_18 (by decide)) ?_
      exact xW_ret (fun _ _ _ _ _ => am_vret rfl d_Pars_take_25)
    · refine xW_pure (fun _ _ _ _ _ => am_aload_n d_Pars_take_21 rfl rfl) ?_
      refine xW_callV O (dx_Pars_fail O T) (fun _ e => ob_Pars_fail e) rfl rfl rfl l_Pars_99 ⟨w_687, w_10⟩ rfl (Nat.le_of_ble_eq_true rfl) d_Pars_take_22 (fun v8 s7 _ => ?_)
      exact xW_ret (fun _ _ _ _ _ => am_vret rfl d_Pars_take_25)

theorem ob_Pars_take {d : Nat} {x0 : Nat} {x1 : Int32} {s : HS} {y : Unit × HS} (h : x_Pars_take d x0 x1 s = some y) : isO s x0 5 = true := by
  cases d with
  | zero => cases h
  | succ d => exact (gd_spec h).1

set_option maxRecDepth 100000 in
def x_Pars_takeName (d : Nat) (x0 : Nat) (s : HS) : Option (Int64 × HS) := match d with
  | 0 => none
  | d + 1 => gd s x0 5 ((gR s x0 5 0).bind fun v1 => (bnd (x_Lexer_head d v1 s) fun v3 s2 => (bnd (x_Pars_take d x0 2 s2) fun v5 s4 => (some (v3, s4)))))

set_option maxRecDepth 100000 in
set_option maxHeartbeats 4000000 in
theorem dx_Pars_takeName (O : am_ok K X) (T : am_T K) {d : Nat} {x0 : Nat} {s : HS} : xM cvL K X m_Pars_takeName d [.ref x0] s (x_Pars_takeName d x0 s) := by
  cases d with
  | zero => exact xM_none
  | succ d =>
    unfold x_Pars_takeName
    refine xM_enter (by decide +kernel) (Nat.le_of_ble_eq_true rfl) ?_
    refine xW_gd (fun _ => ?_)
    refine xW_pure (fun _ _ _ _ _ => am_aload_n d_Pars_takeName_0 rfl rfl) ?_
    refine xW_gR O f_Pars_12 d_Pars_takeName_1 (fun v1 _ => ?_)
    refine xW_callV O (dx_Lexer_head O T) (fun _ e => ob_Lexer_head e) rfl rfl rfl l_Pars_102 ⟨w_702, w_703⟩ rfl (Nat.le_of_ble_eq_true rfl) d_Pars_takeName_4 (fun v3 s2 _ => ?_)
    refine xW_pure (fun _ _ _ _ _ => am_lstore_n d_Pars_takeName_7 rfl (Nat.le_of_ble_eq_true rfl)) ?_
    refine xW_pure (fun _ _ _ _ _ => am_aload_n d_Pars_takeName_8 rfl rfl) ?_
    refine xW_pure (fun _ _ _ _ _ => am_iconst (v := 2) d_Pars_takeName_9 (by decide)) ?_
    refine xW_callV O (dx_Pars_take O T) (fun _ e => ob_Pars_take e) rfl rfl rfl l_Pars_106 ⟨w_682, w_9⟩ rfl (Nat.le_of_ble_eq_true rfl) d_Pars_takeName_10 (fun v5 s4 _ => ?_)
    refine xW_pure (fun _ _ _ _ _ => am_lload_n d_Pars_takeName_13 rfl rfl) ?_
    exact xW_ret (fun _ _ _ _ _ => am_lret rfl d_Pars_takeName_14)

theorem ob_Pars_takeName {d : Nat} {x0 : Nat} {s : HS} {y : Int64 × HS} (h : x_Pars_takeName d x0 s = some y) : isO s x0 5 = true := by
  cases d with
  | zero => cases h
  | succ d => exact (gd_spec h).1

set_option maxRecDepth 100000 in
def x_Pars_newName_b22 (d : Nat) (l0 : Nat) (s : HS) : Option (Unit × HS) := bnd (x_Pars_fail d l0 s) fun v2 s1 => ((gR s1 l0 5 3).bind fun v3 => (bnd (x_Pars_takeName d l0 s1) fun v5 s4 => (bnd (x_Draft_makeLocal d v3 v5 s4) fun v7 s6 => (some ((), s6)))))

set_option maxRecDepth 100000 in
set_option maxHeartbeats 4000000 in
theorem dx_Pars_newName_b22 (O : am_ok K X) (T : am_T K) {d : Nat} {l0 : Nat} {s : HS} : xW cvU K X m_Pars_newName (d + 1) 22 [(0, .ref l0)] [] s (x_Pars_newName_b22 d l0 s) := by
  unfold x_Pars_newName_b22
  refine xW_pure (fun _ _ _ _ _ => am_aload_n d_Pars_newName_22 rfl rfl) ?_
  refine xW_callV O (dx_Pars_fail O T) (fun _ e => ob_Pars_fail e) rfl rfl rfl l_Pars_99 ⟨w_687, w_10⟩ rfl (Nat.le_of_ble_eq_true rfl) d_Pars_newName_23 (fun v2 s1 _ => ?_)
  refine xW_pure (fun _ _ _ _ _ => am_aload_n d_Pars_newName_26 rfl rfl) ?_
  refine xW_gR O f_Pars_28 d_Pars_newName_27 (fun v3 _ => ?_)
  refine xW_pure (fun _ _ _ _ _ => am_aload_n d_Pars_newName_30 rfl rfl) ?_
  refine xW_callV O (dx_Pars_takeName O T) (fun _ e => ob_Pars_takeName e) rfl rfl rfl l_Pars_109 ⟨w_699, w_11⟩ rfl (Nat.le_of_ble_eq_true rfl) d_Pars_newName_31 (fun v5 s4 _ => ?_)
  refine xW_callV O (dx_Draft_makeLocal O T) (fun _ e => ob_Draft_makeLocal e) rfl rfl rfl l_Pars_132 ⟨w_718, w_719⟩ rfl (Nat.le_of_ble_eq_true rfl) d_Pars_newName_34 (fun v7 s6 _ => ?_)
  refine xW_pure (fun _ _ _ _ _ => am_pop d_Pars_newName_37 rfl) ?_
  exact xW_ret (fun _ _ _ _ _ => am_vret rfl d_Pars_newName_38)

set_option maxRecDepth 100000 in
def x_Pars_newName (d : Nat) (x0 : Nat) (x1 : Int32) (s : HS) : Option (Unit × HS) := match d with
  | 0 => none
  | d + 1 => gd s x0 5 (if x1 = 4 then (x_Pars_newName_b22 d x0 s) else ((gR s x0 5 3).bind fun v8 => ((gR s x0 5 0).bind fun v9 => (bnd (x_Lexer_head d v9 s) fun v11 s10 => (bnd (x_Draft_localOf d v8 v11 s10) fun v13 s12 => (if v13 < 0 then ((gR s12 x0 5 3).bind fun v14 => (bnd (x_Pars_takeName d x0 s12) fun v16 s15 => (bnd (x_Draft_makeLocal d v14 v16 s15) fun v18 s17 => (some ((), s17))))) else (x_Pars_newName_b22 d x0 s12)))))))

set_option maxRecDepth 100000 in
set_option maxHeartbeats 4000000 in
theorem dx_Pars_newName (O : am_ok K X) (T : am_T K) {d : Nat} {x0 : Nat} {x1 : Int32} {s : HS} : xM cvU K X m_Pars_newName d [.ref x0, .int x1] s (x_Pars_newName d x0 x1 s) := by
  cases d with
  | zero => exact xM_none
  | succ d =>
    unfold x_Pars_newName
    refine xM_enter (by decide +kernel) (Nat.le_of_ble_eq_true rfl) ?_
    refine xW_gd (fun _ => ?_)
    refine xW_pure (fun _ _ _ _ _ => am_iload_n d_Pars_newName_0 rfl rfl) ?_
    refine xW_pure (fun _ _ _ _ _ => am_iconst (v := 4) d_Pars_newName_1 (by decide)) ?_
    refine xW_ite (fun _ _ _ _ _ => am_icmp_eq (tgt := 22) d_Pars_newName_2 (by decide)) (fun _ => ?_) (fun _ => ?_)
    · refine xW_locs (lv' := [(0, .ref x0)]) rfl ?_
      exact dx_Pars_newName_b22 O T
    · refine xW_pure (fun _ _ _ _ _ => am_aload_n d_Pars_newName_5 rfl rfl) ?_
      refine xW_gR O f_Pars_28 d_Pars_newName_6 (fun v8 _ => ?_)
      refine xW_pure (fun _ _ _ _ _ => am_aload_n d_Pars_newName_9 rfl rfl) ?_
      refine xW_gR O f_Pars_12 d_Pars_newName_10 (fun v9 _ => ?_)
      refine xW_callV O (dx_Lexer_head O T) (fun _ e => ob_Lexer_head e) rfl rfl rfl l_Pars_102 ⟨w_702, w_703⟩ rfl (Nat.le_of_ble_eq_true rfl) d_Pars_newName_13 (fun v11 s10 _ => ?_)
      refine xW_callV O (dx_Draft_localOf O T) (fun _ e => ob_Draft_localOf e) rfl rfl rfl l_Pars_128 ⟨w_714, w_715⟩ rfl (Nat.le_of_ble_eq_true rfl) d_Pars_newName_16 (fun v13 s12 _ => ?_)
      refine xW_ite (fun _ _ _ _ _ => am_if_lt (tgt := 26) d_Pars_newName_19 (by decide)) (fun _ => ?_) (fun _ => ?_)
      · refine xW_pure (fun _ _ _ _ _ => am_aload_n d_Pars_newName_26 rfl rfl) ?_
        refine xW_gR O f_Pars_28 d_Pars_newName_27 (fun v14 _ => ?_)
        refine xW_pure (fun _ _ _ _ _ => am_aload_n d_Pars_newName_30 rfl rfl) ?_
        refine xW_callV O (dx_Pars_takeName O T) (fun _ e => ob_Pars_takeName e) rfl rfl rfl l_Pars_109 ⟨w_699, w_11⟩ rfl (Nat.le_of_ble_eq_true rfl) d_Pars_newName_31 (fun v16 s15 _ => ?_)
        refine xW_callV O (dx_Draft_makeLocal O T) (fun _ e => ob_Draft_makeLocal e) rfl rfl rfl l_Pars_132 ⟨w_718, w_719⟩ rfl (Nat.le_of_ble_eq_true rfl) d_Pars_newName_34 (fun v18 s17 _ => ?_)
        refine xW_pure (fun _ _ _ _ _ => am_pop d_Pars_newName_37 rfl) ?_
        exact xW_ret (fun _ _ _ _ _ => am_vret rfl d_Pars_newName_38)
      · refine xW_locs (lv' := [(0, .ref x0)]) rfl ?_
        exact dx_Pars_newName_b22 O T

theorem ob_Pars_newName {d : Nat} {x0 : Nat} {x1 : Int32} {s : HS} {y : Unit × HS} (h : x_Pars_newName d x0 x1 s = some y) : isO s x0 5 = true := by
  cases d with
  | zero => cases h
  | succ d => exact (gd_spec h).1
end
