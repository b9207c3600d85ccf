section
variable {K : am_K} {X : Nat → am_C}
set_option maxRecDepth 100000 in
def x_Mod_function_b167 (d : Nat) (l0 : Nat) (l1 : Int32) (s : HS) : Option (Int32 × HS) := bnd (x_Mod_take d l0 16 s) fun v64 s63 => (if v64 = 0 then (some (0, s63)) else ((gR s63 l0 14 18).bind fun v65 => ((gI s63 l0 14 20).bind fun v66 => ((gI s63 l0 14 24).bind fun v67 => ((sV s63 .int v65 v66 (.int v67)).bind fun s68 => ((gR s68 l0 14 14).bind fun v69 => ((gI s68 l0 14 20).bind fun v70 => ((gR s68 l0 14 21).bind fun v71 => ((gI s68 v71 12 2).bind fun v72 => ((sV s68 .int v69 v70 (.int v72)).bind fun s73 => ((gR s73 l0 14 15).bind fun v74 => ((gI s73 l0 14 20).bind fun v75 => ((gR s73 l0 14 21).bind fun v76 => ((gI s73 v76 12 3).bind fun v77 => ((sV s73 .int v74 v75 (.int v77)).bind fun s78 => ((gI s78 l0 14 10).bind fun v79 => (bnd (x_Mod_block d l0 0 s78) fun v81 s80 => (if v81 = 0 then (some (0, s80)) else (bnd (x_Mod_put_I d l0 28 s80) fun v83 s82 => ((gR s82 l0 14 16).bind fun v84 => ((gI s82 l0 14 20).bind fun v85 => ((gR s82 l0 14 21).bind fun v86 => ((gI s82 v86 12 2).bind fun v87 => ((sV s82 .int v84 v85 (.int v87)).bind fun s88 => ((gR s88 l0 14 17).bind fun v89 => ((gI s88 l0 14 20).bind fun v90 => ((gI s88 l0 14 10).bind fun v91 => ((sV s88 .int v89 v90 (.int (v91 - v79))).bind fun s92 => ((gR s92 l0 14 19).bind fun v93 => ((gI s92 l0 14 20).bind fun v94 => ((gI s92 l0 14 24).bind fun v95 => ((sV s92 .int v93 v94 (.int v95)).bind fun s96 => ((gI s96 l0 14 20).bind fun v97 => ((pV s96 l0 14 20 (.int (v97 + 1))).bind fun s98 => ((pV s98 l0 14 24 (.int l1)).bind fun s99 => ((gR s99 l0 14 26).bind fun v100 => ((gR s99 l0 14 23).bind fun v101 => ((gI s99 l0 14 24).bind fun v102 => ((cpA s99 v100 0 v101 0 v102).bind fun s103 => ((gR s103 l0 14 12).bind fun v104 => ((pV s103 l0 14 22 (.ref v104)).bind fun s105 => (some (1, s105)))))))))))))))))))))))))))))))))))))))))))

set_option maxRecDepth 100000 in
set_option maxHeartbeats 4000000 in
theorem dx_Mod_function_b167 (O : am_ok K X) (T : am_T K) {d : Nat} {l0 : Nat} {l1 : Int32} {s : HS} : xW cvI K X m_Mod_function (d + 1) 167 [(0, .ref l0), (1, .int l1)] [] s (x_Mod_function_b167 d l0 l1 s) := by
  unfold x_Mod_function_b167
  refine xW_pure (fun _ _ _ _ _ => am_aload_n d_Mod_function_167 rfl rfl) ?_
  refine xW_pure (fun _ _ _ _ _ => am_ldcS (T.2.2 5 ("StowTongueModel", 182, ")") rfl) d_Mod_function_168) ?_
  refine xW_callV O (dx_Mod_take O T) (fun _ e => ob_Mod_take e) rfl rfl rfl l_Mod_179 ⟨w_1851, w_90⟩ rfl (Nat.le_of_ble_eq_true rfl) d_Mod_function_170 (fun v64 s63 _ => ?_)
  refine xW_ite (fun _ _ _ _ _ k1 k2 => am_if_ne (tgt := 178) d_Mod_function_173 (by decide) k2 k1) (fun _ => ?_) (fun _ => ?_)
  · refine xW_pure (fun _ _ _ _ _ => am_iconst (v := 0) d_Mod_function_176 (by decide)) ?_
    exact xW_ret (fun _ _ _ _ _ => am_zret (ty := .boolean) rfl rfl d_Mod_function_177)
  · refine xW_pure (fun _ _ _ _ _ => am_aload_n d_Mod_function_178 rfl rfl) ?_
    refine xW_gR O f_Mod_189 d_Mod_function_179 (fun v65 _ => ?_)
    refine xW_pure (fun _ _ _ _ _ => am_aload_n d_Mod_function_182 rfl rfl) ?_
    refine xW_gI O f_Mod_137 d_Mod_function_183 (fun v66 _ => ?_)
    refine xW_pure (fun _ _ _ _ _ => am_aload_n d_Mod_function_186 rfl rfl) ?_
    refine xW_gI O f_Mod_123 d_Mod_function_187 (fun v67 _ => ?_)
    refine xW_sI O d_Mod_function_190 (fun s68 _ => ?_)
    refine xW_pure (fun _ _ _ _ _ => am_aload_n d_Mod_function_191 rfl rfl) ?_
    refine xW_gR O f_Mod_192 d_Mod_function_192 (fun v69 _ => ?_)
    refine xW_pure (fun _ _ _ _ _ => am_aload_n d_Mod_function_195 rfl rfl) ?_
    refine xW_gI O f_Mod_137 d_Mod_function_196 (fun v70 _ => ?_)
    refine xW_pure (fun _ _ _ _ _ => am_aload_n d_Mod_function_199 rfl rfl) ?_
    refine xW_gR O f_Mod_149 d_Mod_function_200 (fun v71 _ => ?_)
    refine xW_gI O f_Mod_100 d_Mod_function_203 (fun v72 _ => ?_)
    refine xW_sI O d_Mod_function_206 (fun s73 _ => ?_)
    refine xW_pure (fun _ _ _ _ _ => am_aload_n d_Mod_function_207 rfl rfl) ?_
    refine xW_gR O f_Mod_195 d_Mod_function_208 (fun v74 _ => ?_)
    refine xW_pure (fun _ _ _ _ _ => am_aload_n d_Mod_function_211 rfl rfl) ?_
    refine xW_gI O f_Mod_137 d_Mod_function_212 (fun v75 _ => ?_)
    refine xW_pure (fun _ _ _ _ _ => am_aload_n d_Mod_function_215 rfl rfl) ?_
    refine xW_gR O f_Mod_149 d_Mod_function_216 (fun v76 _ => ?_)
    refine xW_gI O f_Mod_111 d_Mod_function_219 (fun v77 _ => ?_)
    refine xW_sI O d_Mod_function_222 (fun s78 _ => ?_)
    refine xW_pure (fun _ _ _ _ _ => am_aload_n d_Mod_function_223 rfl rfl) ?_
    refine xW_gI O f_Mod_26 d_Mod_function_224 (fun v79 _ => ?_)
    refine xW_pure (fun _ _ _ _ _ => am_istore_n d_Mod_function_227 rfl (Nat.le_of_ble_eq_true rfl)) ?_
    refine xW_pure (fun _ _ _ _ _ => am_aload_n d_Mod_function_228 rfl rfl) ?_
    refine xW_pure (fun _ _ _ _ _ => am_iconst (v := 0) d_Mod_function_229 (by decide)) ?_
    refine xW_callV O (dx_Mod_block O T) (fun _ e => ob_Mod_block e) rfl rfl rfl l_Mod_198 ⟨w_1865, w_93⟩ rfl (Nat.le_of_ble_eq_true rfl) d_Mod_function_230 (fun v81 s80 _ => ?_)
    refine xW_ite (fun _ _ _ _ _ k1 k2 => am_if_ne (tgt := 238) d_Mod_function_233 (by decide) k2 k1) (fun _ => ?_) (fun _ => ?_)
    · refine xW_pure (fun _ _ _ _ _ => am_iconst (v := 0) d_Mod_function_236 (by decide)) ?_
      exact xW_ret (fun _ _ _ _ _ => am_zret (ty := .boolean) rfl rfl d_Mod_function_237)
    · refine xW_pure (fun _ _ _ _ _ => am_aload_n d_Mod_function_238 rfl rfl) ?_
      refine xW_pure (fun _ _ _ _ _ => am_bipush (v := 28) d_Mod_function_239 (by decide)) ?_
      refine xW_callV O (dx_Mod_put_I O T) (fun _ e => ob_Mod_put_I e) rfl rfl rfl l_Mod_103 ⟨w_1875, w_95⟩ rfl (Nat.le_of_ble_eq_true rfl) d_Mod_function_241 (fun v83 s82 _ => ?_)
      refine xW_pure (fun _ _ _ _ _ => am_pop d_Mod_function_244 rfl) ?_
      refine xW_pure (fun _ _ _ _ _ => am_aload_n d_Mod_function_245 rfl rfl) ?_
      refine xW_gR O f_Mod_201 d_Mod_function_246 (fun v84 _ => ?_)
      refine xW_pure (fun _ _ _ _ _ => am_aload_n d_Mod_function_249 rfl rfl) ?_
      refine xW_gI O f_Mod_137 d_Mod_function_250 (fun v85 _ => ?_)
      refine xW_pure (fun _ _ _ _ _ => am_aload_n d_Mod_function_253 rfl rfl) ?_
      refine xW_gR O f_Mod_149 d_Mod_function_254 (fun v86 _ => ?_)
      refine xW_gI O f_Mod_100 d_Mod_function_257 (fun v87 _ => ?_)
      refine xW_sI O d_Mod_function_260 (fun s88 _ => ?_)
      refine xW_pure (fun _ _ _ _ _ => am_aload_n d_Mod_function_261 rfl rfl) ?_
      refine xW_gR O f_Mod_204 d_Mod_function_262 (fun v89 _ => ?_)
      refine xW_pure (fun _ _ _ _ _ => am_aload_n d_Mod_function_265 rfl rfl) ?_
      refine xW_gI O f_Mod_137 d_Mod_function_266 (fun v90 _ => ?_)
      refine xW_pure (fun _ _ _ _ _ => am_aload_n d_Mod_function_269 rfl rfl) ?_
      refine xW_gI O f_Mod_26 d_Mod_function_270 (fun v91 _ => ?_)
      refine xW_pure (fun _ _ _ _ _ => am_iload_n d_Mod_function_273 rfl rfl) ?_
      refine xW_pure (fun _ _ _ _ _ => am_isub d_Mod_function_274) ?_
      refine xW_sI O d_Mod_function_275 (fun s92 _ => ?_)
      refine xW_pure (fun _ _ _ _ _ => am_aload_n d_Mod_function_276 rfl rfl) ?_
      refine xW_gR O f_Mod_207 d_Mod_function_277 (fun v93 _ => ?_)
      refine xW_pure (fun _ _ _ _ _ => am_aload_n d_Mod_function_280 rfl rfl) ?_
      refine xW_gI O f_Mod_137 d_Mod_function_281 (fun v94 _ => ?_)
      refine xW_pure (fun _ _ _ _ _ => am_aload_n d_Mod_function_284 rfl rfl) ?_
      refine xW_gI O f_Mod_123 d_Mod_function_285 (fun v95 _ => ?_)
      refine xW_sI O d_Mod_function_288 (fun s96 _ => ?_)
      refine xW_pure (fun _ _ _ _ _ => am_aload_n d_Mod_function_289 rfl rfl) ?_
      refine xW_pure (fun _ _ _ _ _ => am_dup d_Mod_function_290 rfl) ?_
      refine xW_gI O f_Mod_137 d_Mod_function_291 (fun v97 _ => ?_)
      refine xW_pure (fun _ _ _ _ _ => am_iconst (v := 1) d_Mod_function_294 (by decide)) ?_
      refine xW_pure (fun _ _ _ _ _ => am_iadd d_Mod_function_295) ?_
      refine xW_put O f_Mod_137 d_Mod_function_296 (fun q hq => by cases hq; exact ⟨rfl, rfl, rfl⟩) (fun s98 _ => ?_)
      refine xW_pure (fun _ _ _ _ _ => am_aload_n d_Mod_function_299 rfl rfl) ?_
      refine xW_pure (fun _ _ _ _ _ => am_iload_n d_Mod_function_300 rfl rfl) ?_
      refine xW_put O f_Mod_123 d_Mod_function_301 (fun q hq => by cases hq; exact ⟨rfl, rfl, rfl⟩) (fun s99 _ => ?_)
      refine xW_pure (fun _ _ _ _ _ => am_aload_n d_Mod_function_304 rfl rfl) ?_
      refine xW_gR O f_Mod_168 d_Mod_function_305 (fun v100 _ => ?_)
      refine xW_pure (fun _ _ _ _ _ => am_iconst (v := 0) d_Mod_function_308 (by decide)) ?_
      refine xW_pure (fun _ _ _ _ _ => am_aload_n d_Mod_function_309 rfl rfl) ?_
      refine xW_gR O f_Mod_126 d_Mod_function_310 (fun v101 _ => ?_)
      refine xW_pure (fun _ _ _ _ _ => am_iconst (v := 0) d_Mod_function_313 (by decide)) ?_
      refine xW_pure (fun _ _ _ _ _ => am_aload_n d_Mod_function_314 rfl rfl) ?_
      refine xW_gI O f_Mod_123 d_Mod_function_315 (fun v102 _ => ?_)
      refine xW_copy O w_1847 w_735 w_734 w_167 d_Mod_function_318 (Nat.le_of_ble_eq_true rfl) (fun s103 _ => ?_)
      refine xW_pure (fun _ _ _ _ _ => am_aload_n d_Mod_function_321 rfl rfl) ?_
      refine xW_pure (fun _ _ _ _ _ => am_aload_n d_Mod_function_322 rfl rfl) ?_
      refine xW_gR O f_Mod_143 d_Mod_function_323 (fun v104 _ => ?_)
      refine xW_put O f_Mod_91 d_Mod_function_326 (fun q hq => by cases hq; exact ⟨rfl, rfl, rfl⟩) (fun s105 _ => ?_)
      refine xW_pure (fun _ _ _ _ _ => am_iconst (v := 1) d_Mod_function_329 (by decide)) ?_
      exact xW_ret (fun _ _ _ _ _ => am_zret (ty := .boolean) rfl rfl d_Mod_function_330)

set_option maxRecDepth 100000 in
def x_Mod_function (d : Nat) (x0 : Nat) (s : HS) : Option (Int32 × HS) := match d with
  | 0 => none
  | d + 1 => gd s x0 14 (bnd (x_Mod_step d x0 s) fun v2 s1 => ((gI s1 x0 14 6).bind fun v3 => (if v3 = 1 then ((gR s1 x0 14 13).bind fun v4 => ((gI s1 x0 14 20).bind fun v5 => (bnd (x_Mod_name d x0 s1) fun v7 s6 => ((sV s6 .long v4 v5 (.long v7)).bind fun s8 => (bnd (x_Mod_step d x0 s8) fun v10 s9 => ((gI s9 x0 14 24).bind fun v11 => ((gR s9 x0 14 23).bind fun v12 => ((gR s9 x0 14 26).bind fun v13 => ((gI s9 x0 14 24).bind fun v14 => ((cpA s9 v12 0 v13 0 v14).bind fun s15 => ((pV s15 x0 14 24 (.int 0)).bind fun s16 => ((gR s16 x0 14 21).bind fun v17 => ((pV s16 x0 14 22 (.ref v17)).bind fun s18 => (bnd (x_Mod_take d x0 14 s18) fun v20 s19 => (if v20 = 0 then (some (0, s19)) else (loopK (fun (again80 : HS → Option (Int32 × HS)) (z80 : HS) => ((gI z80 x0 14 24).bind fun v21 => (if v21 = 0 then (bnd (x_Mod_is d x0 16 z80) fun v23 s22 => (if v23 = 0 then ((gI s22 x0 14 24).bind fun v24 => (if v24 ≤ 0 then ((gI s22 x0 14 6).bind fun v25 => (if v25 = 1 then ((gI s22 x0 14 24).bind fun v26 => (if v26 = 4 then (bnd (x_Mod_bad d x0 s22) fun v28 s27 => (okB v28 (some (v28, s27)))) else (bnd (x_Mod_name d x0 s22) fun v30 s29 => (bnd (x_Mod_localOf d x0 v30 s29) fun v32 s31 => (if v32 < 0 then (bnd (x_Mod_name d x0 s31) fun v34 s33 => (bnd (x_Mod_let d x0 v34 s33) fun v36 s35 => (bnd (x_Mod_step d x0 s35) fun v38 s37 => (again80 s37)))) else (bnd (x_Mod_bad d x0 s31) fun v40 s39 => (okB v40 (some (v40, s39))))))))) else (bnd (x_Mod_bad d x0 s22) fun v42 s41 => (okB v42 (some (v42, s41)))))) else (bnd (x_Mod_step d x0 s22) fun v44 s43 => ((gI s43 x0 14 6).bind fun v45 => (if v45 = 1 then ((gI s43 x0 14 24).bind fun v46 => (if v46 = 4 then (bnd (x_Mod_bad d x0 s43) fun v48 s47 => (okB v48 (some (v48, s47)))) else (bnd (x_Mod_name d x0 s43) fun v50 s49 => (bnd (x_Mod_localOf d x0 v50 s49) fun v52 s51 => (if v52 < 0 then (bnd (x_Mod_name d x0 s51) fun v54 s53 => (bnd (x_Mod_let d x0 v54 s53) fun v56 s55 => (bnd (x_Mod_step d x0 s55) fun v58 s57 => (again80 s57)))) else (bnd (x_Mod_bad d x0 s51) fun v60 s59 => (okB v60 (some (v60, s59))))))))) else (bnd (x_Mod_bad d x0 s43) fun v62 s61 => (okB v62 (some (v62, s61))))))))) else (x_Mod_function_b167 d x0 v11 s22))) else (bnd (x_Mod_is d x0 18 z80) fun v107 s106 => (if v107 = 0 then (x_Mod_function_b167 d x0 v11 s106) else ((gI s106 x0 14 24).bind fun v108 => (if v108 ≤ 0 then ((gI s106 x0 14 6).bind fun v109 => (if v109 = 1 then ((gI s106 x0 14 24).bind fun v110 => (if v110 = 4 then (bnd (x_Mod_bad d x0 s106) fun v112 s111 => (okB v112 (some (v112, s111)))) else (bnd (x_Mod_name d x0 s106) fun v114 s113 => (bnd (x_Mod_localOf d x0 v114 s113) fun v116 s115 => (if v116 < 0 then (bnd (x_Mod_name d x0 s115) fun v118 s117 => (bnd (x_Mod_let d x0 v118 s117) fun v120 s119 => (bnd (x_Mod_step d x0 s119) fun v122 s121 => (again80 s121)))) else (bnd (x_Mod_bad d x0 s115) fun v124 s123 => (okB v124 (some (v124, s123))))))))) else (bnd (x_Mod_bad d x0 s106) fun v126 s125 => (okB v126 (some (v126, s125)))))) else (bnd (x_Mod_step d x0 s106) fun v128 s127 => ((gI s127 x0 14 6).bind fun v129 => (if v129 = 1 then ((gI s127 x0 14 24).bind fun v130 => (if v130 = 4 then (bnd (x_Mod_bad d x0 s127) fun v132 s131 => (okB v132 (some (v132, s131)))) else (bnd (x_Mod_name d x0 s127) fun v134 s133 => (bnd (x_Mod_localOf d x0 v134 s133) fun v136 s135 => (if v136 < 0 then (bnd (x_Mod_name d x0 s135) fun v138 s137 => (bnd (x_Mod_let d x0 v138 s137) fun v140 s139 => (bnd (x_Mod_step d x0 s139) fun v142 s141 => (again80 s141)))) else (bnd (x_Mod_bad d x0 s135) fun v144 s143 => (okB v144 (some (v144, s143))))))))) else (bnd (x_Mod_bad d x0 s127) fun v146 s145 => (okB v146 (some (v146, s145)))))))))))))) FU s19)))))))))))))))) else (bnd (x_Mod_bad d x0 s1) fun v148 s147 => (okB v148 (some (v148, s147)))))))

set_option maxRecDepth 100000 in
set_option maxHeartbeats 4000000 in
theorem dx_Mod_function (O : am_ok K X) (T : am_T K) {d : Nat} {x0 : Nat} {s : HS} : xM cvI K X m_Mod_function d [.ref x0] s (x_Mod_function d x0 s) := by
  cases d with
  | zero => exact xM_none
  | succ d =>
    unfold x_Mod_function
    refine xM_enter (by decide +kernel) (Nat.le_of_ble_eq_true rfl) ?_
    refine xW_gd (fun _ => ?_)
    refine xW_pure (fun _ _ _ _ _ => am_aload_n d_Mod_function_0 rfl rfl) ?_
    refine xW_callV O (dx_Mod_step O T) (fun _ e => ob_Mod_step e) rfl rfl rfl l_Mod_87 ⟨w_1808, w_84⟩ rfl (Nat.le_of_ble_eq_true rfl) d_Mod_function_1 (fun v2 s1 _ => ?_)
    refine xW_pure (fun _ _ _ _ _ => am_aload_n d_Mod_function_4 rfl rfl) ?_
    refine xW_gI O f_Mod_32 d_Mod_function_5 (fun v3 _ => ?_)
    refine xW_pure (fun _ _ _ _ _ => am_iconst (v := 1) d_Mod_function_8 (by decide)) ?_
    refine xW_ite (fun _ _ _ _ _ => am_icmp_eq (tgt := 17) d_Mod_function_9 (by decide)) (fun _ => ?_) (fun _ => ?_)
    · refine xW_pure (fun _ _ _ _ _ => am_aload_n d_Mod_function_17 rfl rfl) ?_
      refine xW_gR O f_Mod_161 d_Mod_function_18 (fun v4 _ => ?_)
      refine xW_pure (fun _ _ _ _ _ => am_aload_n d_Mod_function_21 rfl rfl) ?_
      refine xW_gI O f_Mod_137 d_Mod_function_22 (fun v5 _ => ?_)
      refine xW_pure (fun _ _ _ _ _ => am_aload_n d_Mod_function_25 rfl rfl) ?_
      refine xW_callV O (dx_Mod_name O T) (fun _ e => ob_Mod_name e) rfl rfl rfl l_Mod_164 ⟨w_1845, w_89⟩ rfl (Nat.le_of_ble_eq_true rfl) d_Mod_function_26 (fun v7 s6 _ => ?_)
      refine xW_sL O d_Mod_function_29 (fun s8 _ => ?_)
      refine xW_pure (fun _ _ _ _ _ => am_aload_n d_Mod_function_30 rfl rfl) ?_
      refine xW_callV O (dx_Mod_step O T) (fun _ e => ob_Mod_step e) rfl rfl rfl l_Mod_87 ⟨w_1808, w_84⟩ rfl (Nat.le_of_ble_eq_true rfl) d_Mod_function_31 (fun v10 s9 _ => ?_)
      refine xW_pure (fun _ _ _ _ _ => am_aload_n d_Mod_function_34 rfl rfl) ?_
      refine xW_gI O f_Mod_123 d_Mod_function_35 (fun v11 _ => ?_)
      refine xW_pure (fun _ _ _ _ _ => am_istore_n d_Mod_function_38 rfl (Nat.le_of_ble_eq_true rfl)) ?_
      refine xW_pure (fun _ _ _ _ _ => am_aload_n d_Mod_function_39 rfl rfl) ?_
      refine xW_gR O f_Mod_126 d_Mod_function_40 (fun v12 _ => ?_)
      refine xW_pure (fun _ _ _ _ _ => am_iconst (v := 0) d_Mod_function_43 (by decide)) ?_
      refine xW_pure (fun _ _ _ _ _ => am_aload_n d_Mod_function_44 rfl rfl) ?_
      refine xW_gR O f_Mod_168 d_Mod_function_45 (fun v13 _ => ?_)
      refine xW_pure (fun _ _ _ _ _ => am_iconst (v := 0) d_Mod_function_48 (by decide)) ?_
      refine xW_pure (fun _ _ _ _ _ => am_aload_n d_Mod_function_49 rfl rfl) ?_
      refine xW_gI O f_Mod_123 d_Mod_function_50 (fun v14 _ => ?_)
      refine xW_copy O w_1847 w_735 w_734 w_167 d_Mod_function_53 (Nat.le_of_ble_eq_true rfl) (fun s15 _ => ?_)
      refine xW_pure (fun _ _ _ _ _ => am_aload_n d_Mod_function_56 rfl rfl) ?_
      refine xW_pure (fun _ _ _ _ _ => am_iconst (v := 0) d_Mod_function_57 (by decide)) ?_
      refine xW_put O f_Mod_123 d_Mod_function_58 (fun q hq => by cases hq; exact ⟨rfl, rfl, rfl⟩) (fun s16 _ => ?_)
      refine xW_pure (fun _ _ _ _ _ => am_aload_n d_Mod_function_61 rfl rfl) ?_
      refine xW_pure (fun _ _ _ _ _ => am_aload_n d_Mod_function_62 rfl rfl) ?_
      refine xW_gR O f_Mod_149 d_Mod_function_63 (fun v17 _ => ?_)
      refine xW_put O f_Mod_91 d_Mod_function_66 (fun q hq => by cases hq; exact ⟨rfl, rfl, rfl⟩) (fun s18 _ => ?_)
      refine xW_pure (fun _ _ _ _ _ => am_aload_n d_Mod_function_69 rfl rfl) ?_
      refine xW_pure (fun _ _ _ _ _ => am_ldcS (T.2.2 4 ("StowTongueModel", 177, "(") rfl) d_Mod_function_70) ?_
      refine xW_callV O (dx_Mod_take O T) (fun _ e => ob_Mod_take e) rfl rfl rfl l_Mod_179 ⟨w_1851, w_90⟩ rfl (Nat.le_of_ble_eq_true rfl) d_Mod_function_72 (fun v20 s19 _ => ?_)
      refine xW_ite (fun _ _ _ _ _ k1 k2 => am_if_ne (tgt := 80) d_Mod_function_75 (by decide) k2 k1) (fun _ => ?_) (fun _ => ?_)
      · refine xW_pure (fun _ _ _ _ _ => am_iconst (v := 0) d_Mod_function_78 (by decide)) ?_
        exact xW_ret (fun _ _ _ _ _ => am_zret (ty := .boolean) rfl rfl d_Mod_function_79)
      · refine xW_locs (lv' := [(0, .ref x0), (1, .int v11)]) rfl ?_
        refine xW_loop (lvf := fun (z80 : HS) => [(0, .ref x0), (1, .int v11)]) (hsf := fun (z80 : HS) => z80) (fun again80 ih80 z80 => ?_) FU s19
        refine xW_pure (fun _ _ _ _ _ => am_aload_n d_Mod_function_80 rfl rfl) ?_
        refine xW_gI O f_Mod_123 d_Mod_function_81 (fun v21 _ => ?_)
        refine xW_ite (fun _ _ _ _ _ k1 k2 => am_if_ne (tgt := 99) d_Mod_function_84 (by decide) k2 k1) (fun _ => ?_) (fun _ => ?_)
        · refine xW_pure (fun _ _ _ _ _ => am_aload_n d_Mod_function_87 rfl rfl) ?_
          refine xW_pure (fun _ _ _ _ _ => am_ldcS (T.2.2 5 ("StowTongueModel", 182, ")") rfl) d_Mod_function_88) ?_
          refine xW_callV O (dx_Mod_is O T) (fun _ e => ob_Mod_is e) rfl rfl rfl l_Mod_80 ⟨w_1833, w_86⟩ rfl (Nat.le_of_ble_eq_true rfl) d_Mod_function_90 (fun v23 s22 _ => ?_)
          refine xW_ite (fun _ _ _ _ _ k1 k2 => am_if_ne (tgt := 167) d_Mod_function_93 (by decide) k2 k1) (fun _ => ?_) (fun _ => ?_)
          · refine xW_pure (fun _ _ _ _ _ => am_goto (tgt := 108) d_Mod_function_96 (by decide)) ?_
            refine xW_pure (fun _ _ _ _ _ => am_aload_n d_Mod_function_108 rfl rfl) ?_
            refine xW_gI O f_Mod_123 d_Mod_function_109 (fun v24 _ => ?_)
            refine xW_ite (fun _ _ _ _ _ => am_if_le (tgt := 119) d_Mod_function_112 (by decide)) (fun _ => ?_) (fun _ => ?_)
            · refine xW_pure (fun _ _ _ _ _ => am_aload_n d_Mod_function_119 rfl rfl) ?_
              refine xW_gI O f_Mod_32 d_Mod_function_120 (fun v25 _ => ?_)
              refine xW_pure (fun _ _ _ _ _ => am_iconst (v := 1) d_Mod_function_123 (by decide)) ?_
              refine xW_ite (fun _ _ _ _ _ k1 k2 => am_icmp_ne (tgt := 146) d_Mod_function_124 (by decide) k2 k1) (fun _ => ?_) (fun _ => ?_)
              · refine xW_pure (fun _ _ _ _ _ => am_aload_n d_Mod_function_127 rfl rfl) ?_
                refine xW_gI O f_Mod_123 d_Mod_function_128 (fun v26 _ => ?_)
                refine xW_pure (fun _ _ _ _ _ => am_iconst (v := 4) d_Mod_function_131 (by decide)) ?_
                refine xW_ite (fun _ _ _ _ _ => am_icmp_eq (tgt := 146) d_Mod_function_132 (by decide)) (fun _ => ?_) (fun _ => ?_)
                · refine xW_pure (fun _ _ _ _ _ => am_aload_n d_Mod_function_146 rfl rfl) ?_
                  refine xW_callV O (dx_Mod_bad O T) (fun _ e => ob_Mod_bad e) rfl rfl rfl l_Mod_84 ⟨w_1841, w_88⟩ rfl (Nat.le_of_ble_eq_true rfl) d_Mod_function_147 (fun v28 s27 _ => ?_)
                  refine xW_okB (fun hz => ?_)
                  exact xW_ret (fun _ _ _ _ _ => am_zret (ty := .boolean) rfl (bz_nar hz) d_Mod_function_150)
                · refine xW_pure (fun _ _ _ _ _ => am_aload_n d_Mod_function_135 rfl rfl) ?_
                  refine xW_pure (fun _ _ _ _ _ => am_aload_n d_Mod_function_136 rfl rfl) ?_
                  refine xW_callV O (dx_Mod_name O T) (fun _ e => ob_Mod_name e) rfl rfl rfl l_Mod_164 ⟨w_1845, w_89⟩ rfl (Nat.le_of_ble_eq_true rfl) d_Mod_function_137 (fun v30 s29 _ => ?_)
                  refine xW_callV O (dx_Mod_localOf O T) (fun _ e => ob_Mod_localOf e) rfl rfl rfl l_Mod_130 ⟨w_1857, w_91⟩ rfl (Nat.le_of_ble_eq_true rfl) d_Mod_function_140 (fun v32 s31 _ => ?_)
                  refine xW_ite (fun _ _ _ _ _ => am_if_lt (tgt := 151) d_Mod_function_143 (by decide)) (fun _ => ?_) (fun _ => ?_)
                  · refine xW_pure (fun _ _ _ _ _ => am_aload_n d_Mod_function_151 rfl rfl) ?_
                    refine xW_pure (fun _ _ _ _ _ => am_aload_n d_Mod_function_152 rfl rfl) ?_
                    refine xW_callV O (dx_Mod_name O T) (fun _ e => ob_Mod_name e) rfl rfl rfl l_Mod_164 ⟨w_1845, w_89⟩ rfl (Nat.le_of_ble_eq_true rfl) d_Mod_function_153 (fun v34 s33 _ => ?_)
                    refine xW_callV O (dx_Mod_let O T) (fun _ e => ob_Mod_let e) rfl rfl rfl l_Mod_186 ⟨w_1861, w_92⟩ rfl (Nat.le_of_ble_eq_true rfl) d_Mod_function_156 (fun v36 s35 _ => ?_)
                    refine xW_pure (fun _ _ _ _ _ => am_pop d_Mod_function_159 rfl) ?_
                    refine xW_pure (fun _ _ _ _ _ => am_aload_n d_Mod_function_160 rfl rfl) ?_
                    refine xW_callV O (dx_Mod_step O T) (fun _ e => ob_Mod_step e) rfl rfl rfl l_Mod_87 ⟨w_1808, w_84⟩ rfl (Nat.le_of_ble_eq_true rfl) d_Mod_function_161 (fun v38 s37 _ => ?_)
                    refine xW_pure (fun _ _ _ _ _ => am_goto (tgt := 80) d_Mod_function_164 (by decide)) ?_
                    refine xW_locs (lv' := [(0, .ref x0), (1, .int v11)]) rfl ?_
                    exact ih80 s37
                  · refine xW_pure (fun _ _ _ _ _ => am_aload_n d_Mod_function_146 rfl rfl) ?_
                    refine xW_callV O (dx_Mod_bad O T) (fun _ e => ob_Mod_bad e) rfl rfl rfl l_Mod_84 ⟨w_1841, w_88⟩ rfl (Nat.le_of_ble_eq_true rfl) d_Mod_function_147 (fun v40 s39 _ => ?_)
                    refine xW_okB (fun hz => ?_)
                    exact xW_ret (fun _ _ _ _ _ => am_zret (ty := .boolean) rfl (bz_nar hz) d_Mod_function_150)
              · refine xW_pure (fun _ _ _ _ _ => am_aload_n d_Mod_function_146 rfl rfl) ?_
                refine xW_callV O (dx_Mod_bad O T) (fun _ e => ob_Mod_bad e) rfl rfl rfl l_Mod_84 ⟨w_1841, w_88⟩ rfl (Nat.le_of_ble_eq_true rfl) d_Mod_function_147 (fun v42 s41 _ => ?_)
                refine xW_okB (fun hz => ?_)
                exact xW_ret (fun _ _ _ _ _ => am_zret (ty := .boolean) rfl (bz_nar hz) d_Mod_function_150)
            · refine xW_pure (fun _ _ _ _ _ => am_aload_n d_Mod_function_115 rfl rfl) ?_
              refine xW_callV O (dx_Mod_step O T) (fun _ e => ob_Mod_step e) rfl rfl rfl l_Mod_87 ⟨w_1808, w_84⟩ rfl (Nat.le_of_ble_eq_true rfl) d_Mod_function_116 (fun v44 s43 _ => ?_)
              refine xW_pure (fun _ _ _ _ _ => am_aload_n d_Mod_function_119 rfl rfl) ?_
              refine xW_gI O f_Mod_32 d_Mod_function_120 (fun v45 _ => ?_)
              refine xW_pure (fun _ _ _ _ _ => am_iconst (v := 1) d_Mod_function_123 (by decide)) ?_
              refine xW_ite (fun _ _ _ _ _ k1 k2 => am_icmp_ne (tgt := 146) d_Mod_function_124 (by decide) k2 k1) (fun _ => ?_) (fun _ => ?_)
              · refine xW_pure (fun _ _ _ _ _ => am_aload_n d_Mod_function_127 rfl rfl) ?_
                refine xW_gI O f_Mod_123 d_Mod_function_128 (fun v46 _ => ?_)
                refine xW_pure (fun _ _ _ _ _ => am_iconst (v := 4) d_Mod_function_131 (by decide)) ?_
                refine xW_ite (fun _ _ _ _ _ => am_icmp_eq (tgt := 146) d_Mod_function_132 (by decide)) (fun _ => ?_) (fun _ => ?_)
                · refine xW_pure (fun _ _ _ _ _ => am_aload_n d_Mod_function_146 rfl rfl) ?_
                  refine xW_callV O (dx_Mod_bad O T) (fun _ e => ob_Mod_bad e) rfl rfl rfl l_Mod_84 ⟨w_1841, w_88⟩ rfl (Nat.le_of_ble_eq_true rfl) d_Mod_function_147 (fun v48 s47 _ => ?_)
                  refine xW_okB (fun hz => ?_)
                  exact xW_ret (fun _ _ _ _ _ => am_zret (ty := .boolean) rfl (bz_nar hz) d_Mod_function_150)
                · refine xW_pure (fun _ _ _ _ _ => am_aload_n d_Mod_function_135 rfl rfl) ?_
                  refine xW_pure (fun _ _ _ _ _ => am_aload_n d_Mod_function_136 rfl rfl) ?_
                  refine xW_callV O (dx_Mod_name O T) (fun _ e => ob_Mod_name e) rfl rfl rfl l_Mod_164 ⟨w_1845, w_89⟩ rfl (Nat.le_of_ble_eq_true rfl) d_Mod_function_137 (fun v50 s49 _ => ?_)
                  refine xW_callV O (dx_Mod_localOf O T) (fun _ e => ob_Mod_localOf e) rfl rfl rfl l_Mod_130 ⟨w_1857, w_91⟩ rfl (Nat.le_of_ble_eq_true rfl) d_Mod_function_140 (fun v52 s51 _ => ?_)
                  refine xW_ite (fun _ _ _ _ _ => am_if_lt (tgt := 151) d_Mod_function_143 (by decide)) (fun _ => ?_) (fun _ => ?_)
                  · refine xW_pure (fun _ _ _ _ _ => am_aload_n d_Mod_function_151 rfl rfl) ?_
                    refine xW_pure (fun _ _ _ _ _ => am_aload_n d_Mod_function_152 rfl rfl) ?_
                    refine xW_callV O (dx_Mod_name O T) (fun _ e => ob_Mod_name e) rfl rfl rfl l_Mod_164 ⟨w_1845, w_89⟩ rfl (Nat.le_of_ble_eq_true rfl) d_Mod_function_153 (fun v54 s53 _ => ?_)
                    refine xW_callV O (dx_Mod_let O T) (fun _ e => ob_Mod_let e) rfl rfl rfl l_Mod_186 ⟨w_1861, w_92⟩ rfl (Nat.le_of_ble_eq_true rfl) d_Mod_function_156 (fun v56 s55 _ => ?_)
                    refine xW_pure (fun _ _ _ _ _ => am_pop d_Mod_function_159 rfl) ?_
                    refine xW_pure (fun _ _ _ _ _ => am_aload_n d_Mod_function_160 rfl rfl) ?_
                    refine xW_callV O (dx_Mod_step O T) (fun _ e => ob_Mod_step e) rfl rfl rfl l_Mod_87 ⟨w_1808, w_84⟩ rfl (Nat.le_of_ble_eq_true rfl) d_Mod_function_161 (fun v58 s57 _ => ?_)
                    refine xW_pure (fun _ _ _ _ _ => am_goto (tgt := 80) d_Mod_function_164 (by decide)) ?_
                    refine xW_locs (lv' := [(0, .ref x0), (1, .int v11)]) rfl ?_
                    exact ih80 s57
                  · refine xW_pure (fun _ _ _ _ _ => am_aload_n d_Mod_function_146 rfl rfl) ?_
                    refine xW_callV O (dx_Mod_bad O T) (fun _ e => ob_Mod_bad e) rfl rfl rfl l_Mod_84 ⟨w_1841, w_88⟩ rfl (Nat.le_of_ble_eq_true rfl) d_Mod_function_147 (fun v60 s59 _ => ?_)
                    refine xW_okB (fun hz => ?_)
                    exact xW_ret (fun _ _ _ _ _ => am_zret (ty := .boolean) rfl (bz_nar hz) d_Mod_function_150)
              · refine xW_pure (fun _ _ _ _ _ => am_aload_n d_Mod_function_146 rfl rfl) ?_
                refine xW_callV O (dx_Mod_bad O T) (fun _ e => ob_Mod_bad e) rfl rfl rfl l_Mod_84 ⟨w_1841, w_88⟩ rfl (Nat.le_of_ble_eq_true rfl) d_Mod_function_147 (fun v62 s61 _ => ?_)
                refine xW_okB (fun hz => ?_)
                exact xW_ret (fun _ _ _ _ _ => am_zret (ty := .boolean) rfl (bz_nar hz) d_Mod_function_150)
          · refine xW_locs (lv' := [(0, .ref x0), (1, .int v11)]) rfl ?_
            exact dx_Mod_function_b167 O T
        · refine xW_pure (fun _ _ _ _ _ => am_aload_n d_Mod_function_99 rfl rfl) ?_
          refine xW_pure (fun _ _ _ _ _ => am_ldcS (T.2.2 6 ("StowTongueModel", 184, ",") rfl) d_Mod_function_100) ?_
          refine xW_callV O (dx_Mod_is O T) (fun _ e => ob_Mod_is e) rfl rfl rfl l_Mod_80 ⟨w_1833, w_86⟩ rfl (Nat.le_of_ble_eq_true rfl) d_Mod_function_102 (fun v107 s106 _ => ?_)
          refine xW_ite (fun _ _ _ _ _ => am_if_eq (tgt := 167) d_Mod_function_105 (by decide)) (fun _ => ?_) (fun _ => ?_)
          · refine xW_locs (lv' := [(0, .ref x0), (1, .int v11)]) rfl ?_
            exact dx_Mod_function_b167 O T
          · refine xW_pure (fun _ _ _ _ _ => am_aload_n d_Mod_function_108 rfl rfl) ?_
            refine xW_gI O f_Mod_123 d_Mod_function_109 (fun v108 _ => ?_)
            refine xW_ite (fun _ _ _ _ _ => am_if_le (tgt := 119) d_Mod_function_112 (by decide)) (fun _ => ?_) (fun _ => ?_)
            · refine xW_pure (fun _ _ _ _ _ => am_aload_n d_Mod_function_119 rfl rfl) ?_
              refine xW_gI O f_Mod_32 d_Mod_function_120 (fun v109 _ => ?_)
              refine xW_pure (fun _ _ _ _ _ => am_iconst (v := 1) d_Mod_function_123 (by decide)) ?_
              refine xW_ite (fun _ _ _ _ _ k1 k2 => am_icmp_ne (tgt := 146) d_Mod_function_124 (by decide) k2 k1) (fun _ => ?_) (fun _ => ?_)
              · refine xW_pure (fun _ _ _ _ _ => am_aload_n d_Mod_function_127 rfl rfl) ?_
                refine xW_gI O f_Mod_123 d_Mod_function_128 (fun v110 _ => ?_)
                refine xW_pure (fun _ _ _ _ _ => am_iconst (v := 4) d_Mod_function_131 (by decide)) ?_
                refine xW_ite (fun _ _ _ _ _ => am_icmp_eq (tgt := 146) d_Mod_function_132 (by decide)) (fun _ => ?_) (fun _ => ?_)
                · refine xW_pure (fun _ _ _ _ _ => am_aload_n d_Mod_function_146 rfl rfl) ?_
                  refine xW_callV O (dx_Mod_bad O T) (fun _ e => ob_Mod_bad e) rfl rfl rfl l_Mod_84 ⟨w_1841, w_88⟩ rfl (Nat.le_of_ble_eq_true rfl) d_Mod_function_147 (fun v112 s111 _ => ?_)
                  refine xW_okB (fun hz => ?_)
                  exact xW_ret (fun _ _ _ _ _ => am_zret (ty := .boolean) rfl (bz_nar hz) d_Mod_function_150)
                · refine xW_pure (fun _ _ _ _ _ => am_aload_n d_Mod_function_135 rfl rfl) ?_
                  refine xW_pure (fun _ _ _ _ _ => am_aload_n d_Mod_function_136 rfl rfl) ?_
                  refine xW_callV O (dx_Mod_name O T) (fun _ e => ob_Mod_name e) rfl rfl rfl l_Mod_164 ⟨w_1845, w_89⟩ rfl (Nat.le_of_ble_eq_true rfl) d_Mod_function_137 (fun v114 s113 _ => ?_)
                  refine xW_callV O (dx_Mod_localOf O T) (fun _ e => ob_Mod_localOf e) rfl rfl rfl l_Mod_130 ⟨w_1857, w_91⟩ rfl (Nat.le_of_ble_eq_true rfl) d_Mod_function_140 (fun v116 s115 _ => ?_)
                  refine xW_ite (fun _ _ _ _ _ => am_if_lt (tgt := 151) d_Mod_function_143 (by decide)) (fun _ => ?_) (fun _ => ?_)
                  · refine xW_pure (fun _ _ _ _ _ => am_aload_n d_Mod_function_151 rfl rfl) ?_
                    refine xW_pure (fun _ _ _ _ _ => am_aload_n d_Mod_function_152 rfl rfl) ?_
                    refine xW_callV O (dx_Mod_name O T) (fun _ e => ob_Mod_name e) rfl rfl rfl l_Mod_164 ⟨w_1845, w_89⟩ rfl (Nat.le_of_ble_eq_true rfl) d_Mod_function_153 (fun v118 s117 _ => ?_)
                    refine xW_callV O (dx_Mod_let O T) (fun _ e => ob_Mod_let e) rfl rfl rfl l_Mod_186 ⟨w_1861, w_92⟩ rfl (Nat.le_of_ble_eq_true rfl) d_Mod_function_156 (fun v120 s119 _ => ?_)
                    refine xW_pure (fun _ _ _ _ _ => am_pop d_Mod_function_159 rfl) ?_
                    refine xW_pure (fun _ _ _ _ _ => am_aload_n d_Mod_function_160 rfl rfl) ?_
                    refine xW_callV O (dx_Mod_step O T) (fun _ e => ob_Mod_step e) rfl rfl rfl l_Mod_87 ⟨w_1808, w_84⟩ rfl (Nat.le_of_ble_eq_true rfl) d_Mod_function_161 (fun v122 s121 _ => ?_)
                    refine xW_pure (fun _ _ _ _ _ => am_goto (tgt := 80) d_Mod_function_164 (by decide)) ?_
                    refine xW_locs (lv' := [(0, .ref x0), (1, .int v11)]) rfl ?_
                    exact ih80 s121
                  · refine xW_pure (fun _ _ _ _ _ => am_aload_n d_Mod_function_146 rfl rfl) ?_
                    refine xW_callV O (dx_Mod_bad O T) (fun _ e => ob_Mod_bad e) rfl rfl rfl l_Mod_84 ⟨w_1841, w_88⟩ rfl (Nat.le_of_ble_eq_true rfl) d_Mod_function_147 (fun v124 s123 _ => ?_)
                    refine xW_okB (fun hz => ?_)
                    exact xW_ret (fun _ _ _ _ _ => am_zret (ty := .boolean) rfl (bz_nar hz) d_Mod_function_150)
              · refine xW_pure (fun _ _ _ _ _ => am_aload_n d_Mod_function_146 rfl rfl) ?_
                refine xW_callV O (dx_Mod_bad O T) (fun _ e => ob_Mod_bad e) rfl rfl rfl l_Mod_84 ⟨w_1841, w_88⟩ rfl (Nat.le_of_ble_eq_true rfl) d_Mod_function_147 (fun v126 s125 _ => ?_)
                refine xW_okB (fun hz => ?_)
                exact xW_ret (fun _ _ _ _ _ => am_zret (ty := .boolean) rfl (bz_nar hz) d_Mod_function_150)
            · refine xW_pure (fun _ _ _ _ _ => am_aload_n d_Mod_function_115 rfl rfl) ?_
              refine xW_callV O (dx_Mod_step O T) (fun _ e => ob_Mod_step e) rfl rfl rfl l_Mod_87 ⟨w_1808, w_84⟩ rfl (Nat.le_of_ble_eq_true rfl) d_Mod_function_116 (fun v128 s127 _ => ?_)
              refine xW_pure (fun _ _ _ _ _ => am_aload_n d_Mod_function_119 rfl rfl) ?_
              refine xW_gI O f_Mod_32 d_Mod_function_120 (fun v129 _ => ?_)
              refine xW_pure (fun _ _ _ _ _ => am_iconst (v := 1) d_Mod_function_123 (by decide)) ?_
              refine xW_ite (fun _ _ _ _ _ k1 k2 => am_icmp_ne (tgt := 146) d_Mod_function_124 (by decide) k2 k1) (fun _ => ?_) (fun _ => ?_)
              · refine xW_pure (fun _ _ _ _ _ => am_aload_n d_Mod_function_127 rfl rfl) ?_
                refine xW_gI O f_Mod_123 d_Mod_function_128 (fun v130 _ => ?_)
                refine xW_pure (fun _ _ _ _ _ => am_iconst (v := 4) d_Mod_function_131 (by decide)) ?_
                refine xW_ite (fun _ _ _ _ _ => am_icmp_eq (tgt := 146) d_Mod_function_132 (by decide)) (fun _ => ?_) (fun _ => ?_)
                · refine xW_pure (fun _ _ _ _ _ => am_aload_n d_Mod_function_146 rfl rfl) ?_
                  refine xW_callV O (dx_Mod_bad O T) (fun _ e => ob_Mod_bad e) rfl rfl rfl l_Mod_84 ⟨w_1841, w_88⟩ rfl (Nat.le_of_ble_eq_true rfl) d_Mod_function_147 (fun v132 s131 _ => ?_)
                  refine xW_okB (fun hz => ?_)
                  exact xW_ret (fun _ _ _ _ _ => am_zret (ty := .boolean) rfl (bz_nar hz) d_Mod_function_150)
                · refine xW_pure (fun _ _ _ _ _ => am_aload_n d_Mod_function_135 rfl rfl) ?_
                  refine xW_pure (fun _ _ _ _ _ => am_aload_n d_Mod_function_136 rfl rfl) ?_
                  refine xW_callV O (dx_Mod_name O T) (fun _ e => ob_Mod_name e) rfl rfl rfl l_Mod_164 ⟨w_1845, w_89⟩ rfl (Nat.le_of_ble_eq_true rfl) d_Mod_function_137 (fun v134 s133 _ => ?_)
                  refine xW_callV O (dx_Mod_localOf O T) (fun _ e => ob_Mod_localOf e) rfl rfl rfl l_Mod_130 ⟨w_1857, w_91⟩ rfl (Nat.le_of_ble_eq_true rfl) d_Mod_function_140 (fun v136 s135 _ => ?_)
                  refine xW_ite (fun _ _ _ _ _ => am_if_lt (tgt := 151) d_Mod_function_143 (by decide)) (fun _ => ?_) (fun _ => ?_)
                  · refine xW_pure (fun _ _ _ _ _ => am_aload_n d_Mod_function_151 rfl rfl) ?_
                    refine xW_pure (fun _ _ _ _ _ => am_aload_n d_Mod_function_152 rfl rfl) ?_
                    refine xW_callV O (dx_Mod_name O T) (fun _ e => ob_Mod_name e) rfl rfl rfl l_Mod_164 ⟨w_1845, w_89⟩ rfl (Nat.le_of_ble_eq_true rfl) d_Mod_function_153 (fun v138 s137 _ => ?_)
                    refine xW_callV O (dx_Mod_let O T) (fun _ e => ob_Mod_let e) rfl rfl rfl l_Mod_186 ⟨w_1861, w_92⟩ rfl (Nat.le_of_ble_eq_true rfl) d_Mod_function_156 (fun v140 s139 _ => ?_)
                    refine xW_pure (fun _ _ _ _ _ => am_pop d_Mod_function_159 rfl) ?_
                    refine xW_pure (fun _ _ _ _ _ => am_aload_n d_Mod_function_160 rfl rfl) ?_
                    refine xW_callV O (dx_Mod_step O T) (fun _ e => ob_Mod_step e) rfl rfl rfl l_Mod_87 ⟨w_1808, w_84⟩ rfl (Nat.le_of_ble_eq_true rfl) d_Mod_function_161 (fun v142 s141 _ => ?_)
                    refine xW_pure (fun _ _ _ _ _ => am_goto (tgt := 80) d_Mod_function_164 (by decide)) ?_
                    refine xW_locs (lv' := [(0, .ref x0), (1, .int v11)]) rfl ?_
                    exact ih80 s141
                  · refine xW_pure (fun _ _ _ _ _ => am_aload_n d_Mod_function_146 rfl rfl) ?_
                    refine xW_callV O (dx_Mod_bad O T) (fun _ e => ob_Mod_bad e) rfl rfl rfl l_Mod_84 ⟨w_1841, w_88⟩ rfl (Nat.le_of_ble_eq_true rfl) d_Mod_function_147 (fun v144 s143 _ => ?_)
                    refine xW_okB (fun hz => ?_)
                    exact xW_ret (fun _ _ _ _ _ => am_zret (ty := .boolean) rfl (bz_nar hz) d_Mod_function_150)
              · refine xW_pure (fun _ _ _ _ _ => am_aload_n d_Mod_function_146 rfl rfl) ?_
                refine xW_callV O (dx_Mod_bad O T) (fun _ e => ob_Mod_bad e) rfl rfl rfl l_Mod_84 ⟨w_1841, w_88⟩ rfl (Nat.le_of_ble_eq_true rfl) d_Mod_function_147 (fun v146 s145 _ => ?_)
                refine xW_okB (fun hz => ?_)
                exact xW_ret (fun _ _ _ _ _ => am_zret (ty := .boolean) rfl (bz_nar hz) d_Mod_function_150)
    · refine xW_pure (fun _ _ _ _ _ => am_aload_n d_Mod_function_12 rfl rfl) ?_
      refine xW_callV O (dx_Mod_bad O T) (fun _ e => ob_Mod_bad e) rfl rfl rfl l_Mod_84 ⟨w_1841, w_88⟩ rfl (Nat.le_of_ble_eq_true rfl) d_Mod_function_13 (fun v148 s147 _ => ?_)
      refine xW_okB (fun hz => ?_)
      exact xW_ret (fun _ _ _ _ _ => am_zret (ty := .boolean) rfl (bz_nar hz) d_Mod_function_16)

theorem ob_Mod_function {d : Nat} {x0 : Nat} {s : HS} {y : Int32 × HS} (h : x_Mod_function d x0 s = some y) : isO s x0 14 = true := by
  cases d with
  | zero => cases h
  | succ d => exact (gd_spec h).1

set_option maxRecDepth 100000 in
def x_Mod_read (d : Nat) (x0 : Nat) (s : HS) : Option (Int32 × HS) := match d with
  | 0 => none
  | d + 1 => gd s x0 14 ((gI s x0 14 2).bind fun v1 => ((pV s x0 14 4 (.int v1)).bind fun s2 => ((pV s2 x0 14 2 (.int 0)).bind fun s3 => ((pV s3 x0 14 5 (.int 0)).bind fun s4 => ((pV s4 x0 14 9 (.int (-1))).bind fun s5 => ((pV s5 x0 14 20 (.int 0)).bind fun s6 => ((pV s6 x0 14 29 (.int 0)).bind fun s7 => ((gR s7 x0 14 12).bind fun v8 => (bnd (x_Code_clear d v8 s7) fun v10 s9 => ((gR s9 x0 14 21).bind fun v11 => (bnd (x_Code_clear d v11 s9) fun v13 s12 => ((gR s12 x0 14 12).bind fun v14 => ((pV s12 x0 14 22 (.ref v14)).bind fun s15 => ((pV s15 x0 14 24 (.int 0)).bind fun s16 => (bnd (x_Mod_step d x0 s16) fun v18 s17 => (loopK (fun (again64 : HS → Option (Int32 × HS)) (z64 : HS) => ((gI z64 x0 14 6).bind fun v19 => (if v19 = 0 then ((gR z64 x0 14 22).bind fun v20 => ((gI z64 x0 14 24).bind fun v21 => ((pV z64 v20 12 6 (.int v21)).bind fun s22 => (bnd (x_Mod_put_I d x0 28 s22) fun v24 s23 => (some (1, s23)))))) else (bnd (x_Mod_is d x0 12 z64) fun v26 s25 => (if v26 = 0 then (bnd (x_Mod_statement d x0 0 s25) fun v28 s27 => (if v28 = 0 then (some (0, s27)) else (again64 s27))) else (bnd (x_Mod_function d x0 s25) fun v30 s29 => (if v30 = 0 then (some (0, s29)) else (again64 s29)))))))) FU s17))))))))))))))))

set_option maxRecDepth 100000 in
set_option maxHeartbeats 4000000 in
theorem dx_Mod_read (O : am_ok K X) (T : am_T K) {d : Nat} {x0 : Nat} {s : HS} : xM cvI K X m_Mod_read d [.ref x0] s (x_Mod_read d x0 s) := by
  cases d with
  | zero => exact xM_none
  | succ d =>
    unfold x_Mod_read
    refine xM_enter (by decide +kernel) (Nat.le_of_ble_eq_true rfl) ?_
    refine xW_gd (fun _ => ?_)
    refine xW_pure (fun _ _ _ _ _ => am_aload_n d_Mod_read_0 rfl rfl) ?_
    refine xW_pure (fun _ _ _ _ _ => am_aload_n d_Mod_read_1 rfl rfl) ?_
    refine xW_gI O f_Mod_134 d_Mod_read_2 (fun v1 _ => ?_)
    refine xW_put O f_Mod_29 d_Mod_read_5 (fun q hq => by cases hq; exact ⟨rfl, rfl, rfl⟩) (fun s2 _ => ?_)
    refine xW_pure (fun _ _ _ _ _ => am_aload_n d_Mod_read_8 rfl rfl) ?_
    refine xW_pure (fun _ _ _ _ _ => am_iconst (v := 0) d_Mod_read_9 (by decide)) ?_
    refine xW_put O f_Mod_134 d_Mod_read_10 (fun q hq => by cases hq; exact ⟨rfl, rfl, rfl⟩) (fun s3 _ => ?_)
    refine xW_pure (fun _ _ _ _ _ => am_aload_n d_Mod_read_13 rfl rfl) ?_
    refine xW_pure (fun _ _ _ _ _ => am_iconst (v := 0) d_Mod_read_14 (by decide)) ?_
    refine xW_put O f_Mod_3 d_Mod_read_15 (fun q hq => by cases hq; exact ⟨rfl, rfl, rfl⟩) (fun s4 _ => ?_)
    refine xW_pure (fun _ _ _ _ _ => am_aload_n d_Mod_read_18 rfl rfl) ?_
    refine xW_pure (fun _ _ _ _ _ => am_iconst (v := (-1)) d_Mod_read_19 (by decide)) ?_
    refine xW_put O f_Mod_77 d_Mod_read_20 (fun q hq => by cases hq; exact ⟨rfl, rfl, rfl⟩) (fun s5 _ => ?_)
    refine xW_pure (fun _ _ _ _ _ => am_aload_n d_Mod_read_23 rfl rfl) ?_
    refine xW_pure (fun _ _ _ _ _ => am_iconst (v := 0) d_Mod_read_24 (by decide)) ?_
    refine xW_put O f_Mod_137 d_Mod_read_25 (fun q hq => by cases hq; exact ⟨rfl, rfl, rfl⟩) (fun s6 _ => ?_)
    refine xW_pure (fun _ _ _ _ _ => am_aload_n d_Mod_read_28 rfl rfl) ?_
    refine xW_pure (fun _ _ _ _ _ => am_iconst (v := 0) d_Mod_read_29 (by decide)) ?_
    refine xW_put O f_Mod_140 d_Mod_read_30 (fun q hq => by cases hq; exact ⟨rfl, rfl, rfl⟩) (fun s7 _ => ?_)
    refine xW_pure (fun _ _ _ _ _ => am_aload_n d_Mod_read_33 rfl rfl) ?_
    refine xW_gR O f_Mod_143 d_Mod_read_34 (fun v8 _ => ?_)
    refine xW_callV O (dx_Code_clear O T) (fun _ e => ob_Code_clear e) rfl rfl rfl l_Mod_146 ⟨w_1803, w_1804⟩ rfl (Nat.le_of_ble_eq_true rfl) d_Mod_read_37 (fun v10 s9 _ => ?_)
    refine xW_pure (fun _ _ _ _ _ => am_aload_n d_Mod_read_40 rfl rfl) ?_
    refine xW_gR O f_Mod_149 d_Mod_read_41 (fun v11 _ => ?_)
    refine xW_callV O (dx_Code_clear O T) (fun _ e => ob_Code_clear e) rfl rfl rfl l_Mod_146 ⟨w_1803, w_1804⟩ rfl (Nat.le_of_ble_eq_true rfl) d_Mod_read_44 (fun v13 s12 _ => ?_)
    refine xW_pure (fun _ _ _ _ _ => am_aload_n d_Mod_read_47 rfl rfl) ?_
    refine xW_pure (fun _ _ _ _ _ => am_aload_n d_Mod_read_48 rfl rfl) ?_
    refine xW_gR O f_Mod_143 d_Mod_read_49 (fun v14 _ => ?_)
    refine xW_put O f_Mod_91 d_Mod_read_52 (fun q hq => by cases hq; exact ⟨rfl, rfl, rfl⟩) (fun s15 _ => ?_)
    refine xW_pure (fun _ _ _ _ _ => am_aload_n d_Mod_read_55 rfl rfl) ?_
    refine xW_pure (fun _ _ _ _ _ => am_iconst (v := 0) d_Mod_read_56 (by decide)) ?_
    refine xW_put O f_Mod_123 d_Mod_read_57 (fun q hq => by cases hq; exact ⟨rfl, rfl, rfl⟩) (fun s16 _ => ?_)
    refine xW_pure (fun _ _ _ _ _ => am_aload_n d_Mod_read_60 rfl rfl) ?_
    refine xW_callV O (dx_Mod_step O T) (fun _ e => ob_Mod_step e) rfl rfl rfl l_Mod_87 ⟨w_1808, w_84⟩ rfl (Nat.le_of_ble_eq_true rfl) d_Mod_read_61 (fun v18 s17 _ => ?_)
    refine xW_locs (lv' := [(0, .ref x0)]) rfl ?_
    refine xW_loop (lvf := fun (z64 : HS) => [(0, .ref x0)]) (hsf := fun (z64 : HS) => z64) (fun again64 ih64 z64 => ?_) FU s17
    refine xW_pure (fun _ _ _ _ _ => am_aload_n d_Mod_read_64 rfl rfl) ?_
    refine xW_gI O f_Mod_32 d_Mod_read_65 (fun v19 _ => ?_)
    refine xW_ite (fun _ _ _ _ _ => am_if_eq (tgt := 100) d_Mod_read_68 (by decide)) (fun _ => ?_) (fun _ => ?_)
    · refine xW_pure (fun _ _ _ _ _ => am_aload_n d_Mod_read_100 rfl rfl) ?_
      refine xW_gR O f_Mod_91 d_Mod_read_101 (fun v20 _ => ?_)
      refine xW_pure (fun _ _ _ _ _ => am_aload_n d_Mod_read_104 rfl rfl) ?_
      refine xW_gI O f_Mod_123 d_Mod_read_105 (fun v21 _ => ?_)
      refine xW_put O f_Mod_160 d_Mod_read_108 (fun q hq => by cases hq; exact ⟨rfl, rfl, rfl⟩) (fun s22 _ => ?_)
      refine xW_pure (fun _ _ _ _ _ => am_aload_n d_Mod_read_111 rfl rfl) ?_
      refine xW_pure (fun _ _ _ _ _ => am_bipush (v := 28) d_Mod_read_112 (by decide)) ?_
      refine xW_callV O (dx_Mod_put_I O T) (fun _ e => ob_Mod_put_I e) rfl rfl rfl l_Mod_103 ⟨w_1875, w_95⟩ rfl (Nat.le_of_ble_eq_true rfl) d_Mod_read_114 (fun v24 s23 _ => ?_)
      refine xW_pure (fun _ _ _ _ _ => am_pop d_Mod_read_117 rfl) ?_
      refine xW_pure (fun _ _ _ _ _ => am_iconst (v := 1) d_Mod_read_118 (by decide)) ?_
      exact xW_ret (fun _ _ _ _ _ => am_zret (ty := .boolean) rfl rfl d_Mod_read_119)
    · refine xW_pure (fun _ _ _ _ _ => am_aload_n d_Mod_read_71 rfl rfl) ?_
      refine xW_pure (fun _ _ _ _ _ => am_ldcS (T.2.2 3 ("StowTongueModel", 152, "fun") rfl) d_Mod_read_72) ?_
      refine xW_callV O (dx_Mod_is O T) (fun _ e => ob_Mod_is e) rfl rfl rfl l_Mod_80 ⟨w_1833, w_86⟩ rfl (Nat.le_of_ble_eq_true rfl) d_Mod_read_74 (fun v26 s25 _ => ?_)
      refine xW_ite (fun _ _ _ _ _ => am_if_eq (tgt := 90) d_Mod_read_77 (by decide)) (fun _ => ?_) (fun _ => ?_)
      · refine xW_pure (fun _ _ _ _ _ => am_aload_n d_Mod_read_90 rfl rfl) ?_
        refine xW_pure (fun _ _ _ _ _ => am_iconst (v := 0) d_Mod_read_91 (by decide)) ?_
        refine xW_callV O (dx_Mod_statement O T) (fun _ e => ob_Mod_statement e) rfl rfl rfl l_Mod_157 ⟨w_1871, w_94⟩ rfl (Nat.le_of_ble_eq_true rfl) d_Mod_read_92 (fun v28 s27 _ => ?_)
        refine xW_ite (fun _ _ _ _ _ k1 k2 => am_if_ne (tgt := 64) d_Mod_read_95 (by decide) k2 k1) (fun _ => ?_) (fun _ => ?_)
        · refine xW_pure (fun _ _ _ _ _ => am_iconst (v := 0) d_Mod_read_98 (by decide)) ?_
          exact xW_ret (fun _ _ _ _ _ => am_zret (ty := .boolean) rfl rfl d_Mod_read_99)
        · refine xW_locs (lv' := [(0, .ref x0)]) rfl ?_
          exact ih64 s27
      · refine xW_pure (fun _ _ _ _ _ => am_aload_n d_Mod_read_80 rfl rfl) ?_
        refine xW_callV O (dx_Mod_function O T) (fun _ e => ob_Mod_function e) rfl rfl rfl l_Mod_154 ⟨w_1837, w_87⟩ rfl (Nat.le_of_ble_eq_true rfl) d_Mod_read_81 (fun v30 s29 _ => ?_)
        refine xW_ite (fun _ _ _ _ _ => am_if_eq (tgt := 98) d_Mod_read_84 (by decide)) (fun _ => ?_) (fun _ => ?_)
        · refine xW_pure (fun _ _ _ _ _ => am_iconst (v := 0) d_Mod_read_98 (by decide)) ?_
          exact xW_ret (fun _ _ _ _ _ => am_zret (ty := .boolean) rfl rfl d_Mod_read_99)
        · refine xW_pure (fun _ _ _ _ _ => am_goto (tgt := 64) d_Mod_read_87 (by decide)) ?_
          refine xW_locs (lv' := [(0, .ref x0)]) rfl ?_
          exact ih64 s29

theorem ob_Mod_read {d : Nat} {x0 : Nat} {s : HS} {y : Int32 × HS} (h : x_Mod_read d x0 s = some y) : isO s x0 14 = true := by
  cases d with
  | zero => cases h
  | succ d => exact (gd_spec h).1

set_option maxRecDepth 100000 in
def x_Mod_run_b81 (d : Nat) (l0 : Nat) (l2 : Int32) (s : HS) : Option (Int32 × HS) := if l2 = 0 then (loopK (fun (again105 : Int32 × Int32 × HS → Option (Int32 × HS)) (z105 : Int32 × Int32 × HS) => (if 100 ≤ z105.2.1 then (loopK (fun (again166 : Int32 × Int32 × HS → Option (Int32 × HS)) (z166 : Int32 × Int32 × HS) => ((gR z166.2.2 l0 14 31).bind fun v20 => ((gI z166.2.2 v20 13 9).bind fun v21 => (if v21 ≤ z166.2.1 then (loopK (fun (again238 : Int32 × Int32 × HS → Option (Int32 × HS)) (z238 : Int32 × Int32 × HS) => ((gR z238.2.2 l0 14 30).bind fun v22 => ((gI z238.2.2 v22 13 9).bind fun v23 => (if v23 ≤ z238.2.1 then (loopK (fun (again282 : Int32 × Int32 × HS → Option (Int32 × HS)) (z282 : Int32 × Int32 × HS) => ((gI z282.2.2 l0 14 20).bind fun v24 => (if v24 ≤ z282.2.1 then ((gR z282.2.2 l0 14 30).bind fun v25 => ((gR z282.2.2 l0 14 31).bind fun v26 => ((pV z282.2.2 l0 14 30 (.ref v26)).bind fun s27 => ((pV s27 l0 14 31 (.ref v25)).bind fun s28 => (bnd (x_Mod_wait d l0 z282.1 s28) fun v30 s29 => (some (0, s29))))))) else ((gR z282.2.2 l0 14 17).bind fun v31 => ((aI z282.2.2 v31 z282.2.1).bind fun v32 => (again282 ((z282.1 + (3 * v32)), (z282.2.1 + 1), z282.2.2))))))) FU (z238.1, 0, z238.2.2)) else ((gR z238.2.2 l0 14 31).bind fun v33 => ((gR z238.2.2 l0 14 30).bind fun v34 => ((gR z238.2.2 v34 13 3).bind fun v35 => ((aL z238.2.2 v35 z238.2.1).bind fun v36 => (bnd (x_State_findRoot d v33 v36 z238.2.2) fun v38 s37 => (if 0 ≤ v38 then (again238 (z238.1, (z238.2.1 + 1), s37)) else (again238 ((z238.1 + 6), (z238.2.1 + 1), s37)))))))))))) FU (z166.1, 0, z166.2.2)) else ((gR z166.2.2 l0 14 30).bind fun v39 => ((gR z166.2.2 l0 14 31).bind fun v40 => ((gR z166.2.2 v40 13 3).bind fun v41 => ((aL z166.2.2 v41 z166.2.1).bind fun v42 => (bnd (x_State_findRoot d v39 v42 z166.2.2) fun v44 s43 => (if v44 < 0 then (again166 ((z166.1 + 6), (z166.2.1 + 1), s43)) else ((gR s43 l0 14 31).bind fun v45 => ((gR s43 v45 13 6).bind fun v46 => ((gR s43 l0 14 30).bind fun v47 => ((gR s43 v47 13 6).bind fun v48 => (bnd (x_Vals_isLike d v46 z166.2.1 v48 v44 s43) fun v50 s49 => (if v50 = 0 then (again166 ((z166.1 + 6), (z166.2.1 + 1), s49)) else (again166 (z166.1, (z166.2.1 + 1), s49)))))))))))))))))) FU (z105.1, 0, z105.2.2)) else ((gR z105.2.2 l0 14 31).bind fun v51 => ((gR z105.2.2 v51 13 0).bind fun v52 => ((aI z105.2.2 v52 z105.2.1).bind fun v53 => (if v53 = 0 then (again105 (z105.1, (z105.2.1 + 1), z105.2.2)) else ((gR z105.2.2 l0 14 30).bind fun v54 => ((gR z105.2.2 v54 13 0).bind fun v55 => ((aI z105.2.2 v55 z105.2.1).bind fun v56 => (if v56 = 0 then (again105 ((z105.1 + 16), (z105.2.1 + 1), z105.2.2)) else ((gR z105.2.2 l0 14 31).bind fun v57 => ((gR z105.2.2 l0 14 30).bind fun v58 => (bnd (x_State_isSame d v57 z105.2.1 v58 z105.2.2) fun v60 s59 => (if v60 = 0 then (again105 ((z105.1 + 16), (z105.2.1 + 1), s59)) else (again105 (z105.1, (z105.2.1 + 1), s59)))))))))))))))) FU (8, 0, s)) else ((gR s l0 14 39).bind fun v61 => (bnd (x_Vals_set d v61 0 0 0 0 0 s) fun v63 s62 => (some (l2, s62))))

set_option maxRecDepth 100000 in
set_option maxHeartbeats 4000000 in
theorem dx_Mod_run_b81 (O : am_ok K X) (T : am_T K) {d : Nat} {l0 : Nat} {l2 : Int32} {s : HS} : xW cvI K X m_Mod_run (d + 1) 81 [(0, .ref l0), (2, .int l2)] [] s (x_Mod_run_b81 d l0 l2 s) := by
  unfold x_Mod_run_b81
  refine xW_pure (fun _ _ _ _ _ => am_iload_n d_Mod_run_81 rfl rfl) ?_
  refine xW_ite (fun _ _ _ _ _ => am_if_eq (tgt := 99) d_Mod_run_82 (by decide)) (fun _ => ?_) (fun _ => ?_)
  · refine xW_pure (fun _ _ _ _ _ => am_bipush (v := 8) d_Mod_run_99 (by decide)) ?_
    refine xW_pure (fun _ _ _ _ _ => am_istore_n d_Mod_run_101 rfl (Nat.le_of_ble_eq_true rfl)) ?_
    refine xW_pure (fun _ _ _ _ _ => am_iconst (v := 0) d_Mod_run_102 (by decide)) ?_
    refine xW_pure (fun _ _ _ _ _ => am_istore d_Mod_run_103 (Nat.le_of_ble_eq_true rfl)) ?_
    refine xW_locs (lv' := [(0, .ref l0), (3, .int 8), (4, .int 0)]) rfl ?_
    refine xW_loop (lvf := fun (z105 : Int32 × Int32 × HS) => [(0, .ref l0), (3, .int z105.1), (4, .int z105.2.1)]) (hsf := fun (z105 : Int32 × Int32 × HS) => z105.2.2) (fun again105 ih105 z105 => ?_) FU (8, 0, s)
    refine xW_pure (fun _ _ _ _ _ => am_iload d_Mod_run_105 rfl) ?_
    refine xW_pure (fun _ _ _ _ _ => am_bipush (v := 100) d_Mod_run_107 (by decide)) ?_
    refine xW_ite (fun _ _ _ _ _ => am_icmp_ge (tgt := 163) d_Mod_run_109 (by decide)) (fun _ => ?_) (fun _ => ?_)
    · refine xW_pure (fun _ _ _ _ _ => am_iconst (v := 0) d_Mod_run_163 (by decide)) ?_
      refine xW_pure (fun _ _ _ _ _ => am_istore d_Mod_run_164 (Nat.le_of_ble_eq_true rfl)) ?_
      refine xW_locs (lv' := [(0, .ref l0), (3, .int z105.1), (4, .int 0)]) rfl ?_
      refine xW_loop (lvf := fun (z166 : Int32 × Int32 × HS) => [(0, .ref l0), (3, .int z166.1), (4, .int z166.2.1)]) (hsf := fun (z166 : Int32 × Int32 × HS) => z166.2.2) (fun again166 ih166 z166 => ?_) FU (z105.1, 0, z105.2.2)
      refine xW_pure (fun _ _ _ _ _ => am_iload d_Mod_run_166 rfl) ?_
      refine xW_pure (fun _ _ _ _ _ => am_aload_n d_Mod_run_168 rfl rfl) ?_
      refine xW_gR O f_Mod_353 d_Mod_run_169 (fun v20 _ => ?_)
      refine xW_gI O f_Mod_463 d_Mod_run_172 (fun v21 _ => ?_)
      refine xW_ite (fun _ _ _ _ _ => am_icmp_ge (tgt := 235) d_Mod_run_175 (by decide)) (fun _ => ?_) (fun _ => ?_)
      · refine xW_pure (fun _ _ _ _ _ => am_iconst (v := 0) d_Mod_run_235 (by decide)) ?_
        refine xW_pure (fun _ _ _ _ _ => am_istore d_Mod_run_236 (Nat.le_of_ble_eq_true rfl)) ?_
        refine xW_locs (lv' := [(0, .ref l0), (3, .int z166.1), (4, .int 0)]) rfl ?_
        refine xW_loop (lvf := fun (z238 : Int32 × Int32 × HS) => [(0, .ref l0), (3, .int z238.1), (4, .int z238.2.1)]) (hsf := fun (z238 : Int32 × Int32 × HS) => z238.2.2) (fun again238 ih238 z238 => ?_) FU (z166.1, 0, z166.2.2)
        refine xW_pure (fun _ _ _ _ _ => am_iload d_Mod_run_238 rfl) ?_
        refine xW_pure (fun _ _ _ _ _ => am_aload_n d_Mod_run_240 rfl rfl) ?_
        refine xW_gR O f_Mod_349 d_Mod_run_241 (fun v22 _ => ?_)
        refine xW_gI O f_Mod_463 d_Mod_run_244 (fun v23 _ => ?_)
        refine xW_ite (fun _ _ _ _ _ => am_icmp_ge (tgt := 279) d_Mod_run_247 (by decide)) (fun _ => ?_) (fun _ => ?_)
        · refine xW_pure (fun _ _ _ _ _ => am_iconst (v := 0) d_Mod_run_279 (by decide)) ?_
          refine xW_pure (fun _ _ _ _ _ => am_istore d_Mod_run_280 (Nat.le_of_ble_eq_true rfl)) ?_
          refine xW_locs (lv' := [(0, .ref l0), (3, .int z238.1), (4, .int 0)]) rfl ?_
          refine xW_loop (lvf := fun (z282 : Int32 × Int32 × HS) => [(0, .ref l0), (3, .int z282.1), (4, .int z282.2.1)]) (hsf := fun (z282 : Int32 × Int32 × HS) => z282.2.2) (fun again282 ih282 z282 => ?_) FU (z238.1, 0, z238.2.2)
          refine xW_pure (fun _ _ _ _ _ => am_iload d_Mod_run_282 rfl) ?_
          refine xW_pure (fun _ _ _ _ _ => am_aload_n d_Mod_run_284 rfl rfl) ?_
          refine xW_gI O f_Mod_137 d_Mod_run_285 (fun v24 _ => ?_)
          refine xW_ite (fun _ _ _ _ _ => am_icmp_ge (tgt := 309) d_Mod_run_288 (by decide)) (fun _ => ?_) (fun _ => ?_)
          · refine xW_pure (fun _ _ _ _ _ => am_aload_n d_Mod_run_309 rfl rfl) ?_
            refine xW_gR O f_Mod_349 d_Mod_run_310 (fun v25 _ => ?_)
            refine xW_pure (fun _ _ _ _ _ => am_astore d_Mod_run_313 (Nat.le_of_ble_eq_true rfl)) ?_
            refine xW_pure (fun _ _ _ _ _ => am_aload_n d_Mod_run_315 rfl rfl) ?_
            refine xW_pure (fun _ _ _ _ _ => am_aload_n d_Mod_run_316 rfl rfl) ?_
            refine xW_gR O f_Mod_353 d_Mod_run_317 (fun v26 _ => ?_)
            refine xW_put O f_Mod_349 d_Mod_run_320 (fun q hq => by cases hq; exact ⟨rfl, rfl, rfl⟩) (fun s27 _ => ?_)
            refine xW_pure (fun _ _ _ _ _ => am_aload_n d_Mod_run_323 rfl rfl) ?_
            refine xW_pure (fun _ _ _ _ _ => am_aload d_Mod_run_324 rfl) ?_
            refine xW_put O f_Mod_353 d_Mod_run_326 (fun q hq => by cases hq; exact ⟨rfl, rfl, rfl⟩) (fun s28 _ => ?_)
            refine xW_pure (fun _ _ _ _ _ => am_aload_n d_Mod_run_329 rfl rfl) ?_
            refine xW_pure (fun _ _ _ _ _ => am_iload_n d_Mod_run_330 rfl rfl) ?_
            refine xW_callV O (dx_Mod_wait O T) (fun _ e => ob_Mod_wait e) rfl rfl rfl l_Mod_477 ⟨w_2140, w_140⟩ rfl (Nat.le_of_ble_eq_true rfl) d_Mod_run_331 (fun v30 s29 _ => ?_)
            refine xW_pure (fun _ _ _ _ _ => am_iconst (v := 0) d_Mod_run_334 (by decide)) ?_
            exact xW_ret (fun _ _ _ _ _ => am_iret rfl d_Mod_run_335)
          · refine xW_pure (fun _ _ _ _ _ => am_iload_n d_Mod_run_291 rfl rfl) ?_
            refine xW_pure (fun _ _ _ _ _ => am_iconst (v := 3) d_Mod_run_292 (by decide)) ?_
            refine xW_pure (fun _ _ _ _ _ => am_aload_n d_Mod_run_293 rfl rfl) ?_
            refine xW_gR O f_Mod_204 d_Mod_run_294 (fun v31 _ => ?_)
            refine xW_pure (fun _ _ _ _ _ => am_iload d_Mod_run_297 rfl) ?_
            refine xW_aI O d_Mod_run_299 (fun v32 _ => ?_)
            refine xW_pure (fun _ _ _ _ _ => am_imul d_Mod_run_300) ?_
            refine xW_pure (fun _ _ _ _ _ => am_iadd d_Mod_run_301) ?_
            refine xW_pure (fun _ _ _ _ _ => am_istore_n d_Mod_run_302 rfl (Nat.le_of_ble_eq_true rfl)) ?_
            refine xW_pure (fun _ _ _ _ _ => am_iinc (v := 1) d_Mod_run_303 rfl (by decide) (Nat.le_of_ble_eq_true rfl)) ?_
            refine xW_pure (fun _ _ _ _ _ => am_goto (tgt := 282) d_Mod_run_306 (by decide)) ?_
            refine xW_locs (lv' := [(0, .ref l0), (3, .int (z282.1 + (3 * v32))), (4, .int (z282.2.1 + 1))]) rfl ?_
            exact ih282 ((z282.1 + (3 * v32)), (z282.2.1 + 1), z282.2.2)
        · refine xW_pure (fun _ _ _ _ _ => am_aload_n d_Mod_run_250 rfl rfl) ?_
          refine xW_gR O f_Mod_353 d_Mod_run_251 (fun v33 _ => ?_)
          refine xW_pure (fun _ _ _ _ _ => am_aload_n d_Mod_run_254 rfl rfl) ?_
          refine xW_gR O f_Mod_349 d_Mod_run_255 (fun v34 _ => ?_)
          refine xW_gR O f_Mod_466 d_Mod_run_258 (fun v35 _ => ?_)
          refine xW_pure (fun _ _ _ _ _ => am_iload d_Mod_run_261 rfl) ?_
          refine xW_aL O d_Mod_run_263 (fun v36 _ => ?_)
          refine xW_callV O (dx_State_findRoot O T) (fun _ e => ob_State_findRoot e) rfl rfl rfl l_Mod_469 ⟨w_2043, w_2044⟩ rfl (Nat.le_of_ble_eq_true rfl) d_Mod_run_264 (fun v38 s37 _ => ?_)
          refine xW_ite (fun _ _ _ _ _ => am_if_ge (tgt := 273) d_Mod_run_267 (by decide)) (fun _ => ?_) (fun _ => ?_)
          · refine xW_pure (fun _ _ _ _ _ => am_iinc (v := 1) d_Mod_run_273 rfl (by decide) (Nat.le_of_ble_eq_true rfl)) ?_
            refine xW_pure (fun _ _ _ _ _ => am_goto (tgt := 238) d_Mod_run_276 (by decide)) ?_
            refine xW_locs (lv' := [(0, .ref l0), (3, .int z238.1), (4, .int (z238.2.1 + 1))]) rfl ?_
            exact ih238 (z238.1, (z238.2.1 + 1), s37)
          · refine xW_pure (fun _ _ _ _ _ => am_iinc (v := 6) d_Mod_run_270 rfl (by decide) (Nat.le_of_ble_eq_true rfl)) ?_
            refine xW_pure (fun _ _ _ _ _ => am_iinc (v := 1) d_Mod_run_273 rfl (by decide) (Nat.le_of_ble_eq_true rfl)) ?_
            refine xW_pure (fun _ _ _ _ _ => am_goto (tgt := 238) d_Mod_run_276 (by decide)) ?_
            refine xW_locs (lv' := [(0, .ref l0), (3, .int (z238.1 + 6)), (4, .int (z238.2.1 + 1))]) rfl ?_
            exact ih238 ((z238.1 + 6), (z238.2.1 + 1), s37)
      · refine xW_pure (fun _ _ _ _ _ => am_aload_n d_Mod_run_178 rfl rfl) ?_
        refine xW_gR O f_Mod_349 d_Mod_run_179 (fun v39 _ => ?_)
        refine xW_pure (fun _ _ _ _ _ => am_aload_n d_Mod_run_182 rfl rfl) ?_
        refine xW_gR O f_Mod_353 d_Mod_run_183 (fun v40 _ => ?_)
        refine xW_gR O f_Mod_466 d_Mod_run_186 (fun v41 _ => ?_)
        refine xW_pure (fun _ _ _ _ _ => am_iload d_Mod_run_189 rfl) ?_
        refine xW_aL O d_Mod_run_191 (fun v42 _ => ?_)
        refine xW_callV O (dx_State_findRoot O T) (fun _ e => ob_State_findRoot e) rfl rfl rfl l_Mod_469 ⟨w_2043, w_2044⟩ rfl (Nat.le_of_ble_eq_true rfl) d_Mod_run_192 (fun v44 s43 _ => ?_)
        refine xW_pure (fun _ _ _ _ _ => am_istore d_Mod_run_195 (Nat.le_of_ble_eq_true rfl)) ?_
        refine xW_pure (fun _ _ _ _ _ => am_iload d_Mod_run_197 rfl) ?_
        refine xW_ite (fun _ _ _ _ _ => am_if_lt (tgt := 226) d_Mod_run_199 (by decide)) (fun _ => ?_) (fun _ => ?_)
        · refine xW_pure (fun _ _ _ _ _ => am_iinc (v := 6) d_Mod_run_226 rfl (by decide) (Nat.le_of_ble_eq_true rfl)) ?_
          refine xW_pure (fun _ _ _ _ _ => am_iinc (v := 1) d_Mod_run_229 rfl (by decide) (Nat.le_of_ble_eq_true rfl)) ?_
          refine xW_pure (fun _ _ _ _ _ => am_goto (tgt := 166) d_Mod_run_232 (by decide)) ?_
          refine xW_locs (lv' := [(0, .ref l0), (3, .int (z166.1 + 6)), (4, .int (z166.2.1 + 1))]) rfl ?_
          exact ih166 ((z166.1 + 6), (z166.2.1 + 1), s43)
        · refine xW_pure (fun _ _ _ _ _ => am_aload_n d_Mod_run_202 rfl rfl) ?_
          refine xW_gR O f_Mod_353 d_Mod_run_203 (fun v45 _ => ?_)
          refine xW_gR O f_Mod_472 d_Mod_run_206 (fun v46 _ => ?_)
          refine xW_pure (fun _ _ _ _ _ => am_iload d_Mod_run_209 rfl) ?_
          refine xW_pure (fun _ _ _ _ _ => am_aload_n d_Mod_run_211 rfl rfl) ?_
          refine xW_gR O f_Mod_349 d_Mod_run_212 (fun v47 _ => ?_)
          refine xW_gR O f_Mod_472 d_Mod_run_215 (fun v48 _ => ?_)
          refine xW_pure (fun _ _ _ _ _ => am_iload d_Mod_run_218 rfl) ?_
          refine xW_callV O (dx_Vals_isLike O T) (fun _ e => ob_Vals_isLike e) rfl rfl rfl l_Mod_473 ⟨w_2109, w_2110⟩ rfl (Nat.le_of_ble_eq_true rfl) d_Mod_run_220 (fun v50 s49 _ => ?_)
          refine xW_ite (fun _ _ _ _ _ k1 k2 => am_if_ne (tgt := 229) d_Mod_run_223 (by decide) k2 k1) (fun _ => ?_) (fun _ => ?_)
          · refine xW_pure (fun _ _ _ _ _ => am_iinc (v := 6) d_Mod_run_226 rfl (by decide) (Nat.le_of_ble_eq_true rfl)) ?_
            refine xW_pure (fun _ _ _ _ _ => am_iinc (v := 1) d_Mod_run_229 rfl (by decide) (Nat.le_of_ble_eq_true rfl)) ?_
            refine xW_pure (fun _ _ _ _ _ => am_goto (tgt := 166) d_Mod_run_232 (by decide)) ?_
            refine xW_locs (lv' := [(0, .ref l0), (3, .int (z166.1 + 6)), (4, .int (z166.2.1 + 1))]) rfl ?_
            exact ih166 ((z166.1 + 6), (z166.2.1 + 1), s49)
          · refine xW_pure (fun _ _ _ _ _ => am_iinc (v := 1) d_Mod_run_229 rfl (by decide) (Nat.le_of_ble_eq_true rfl)) ?_
            refine xW_pure (fun _ _ _ _ _ => am_goto (tgt := 166) d_Mod_run_232 (by decide)) ?_
            refine xW_locs (lv' := [(0, .ref l0), (3, .int z166.1), (4, .int (z166.2.1 + 1))]) rfl ?_
            exact ih166 (z166.1, (z166.2.1 + 1), s49)
    · refine xW_pure (fun _ _ _ _ _ => am_aload_n d_Mod_run_112 rfl rfl) ?_
      refine xW_gR O f_Mod_353 d_Mod_run_113 (fun v51 _ => ?_)
      refine xW_gR O f_Mod_457 d_Mod_run_116 (fun v52 _ => ?_)
      refine xW_pure (fun _ _ _ _ _ => am_iload d_Mod_run_119 rfl) ?_
      refine xW_aI O d_Mod_run_121 (fun v53 _ => ?_)
      refine xW_ite (fun _ _ _ _ _ => am_if_eq (tgt := 157) d_Mod_run_122 (by decide)) (fun _ => ?_) (fun _ => ?_)
      · refine xW_pure (fun _ _ _ _ _ => am_iinc (v := 1) d_Mod_run_157 rfl (by decide) (Nat.le_of_ble_eq_true rfl)) ?_
        refine xW_pure (fun _ _ _ _ _ => am_goto (tgt := 105) d_Mod_run_160 (by decide)) ?_
        refine xW_locs (lv' := [(0, .ref l0), (3, .int z105.1), (4, .int (z105.2.1 + 1))]) rfl ?_
        exact ih105 (z105.1, (z105.2.1 + 1), z105.2.2)
      · refine xW_pure (fun _ _ _ _ _ => am_aload_n d_Mod_run_125 rfl rfl) ?_
        refine xW_gR O f_Mod_349 d_Mod_run_126 (fun v54 _ => ?_)
        refine xW_gR O f_Mod_457 d_Mod_run_129 (fun v55 _ => ?_)
        refine xW_pure (fun _ _ _ _ _ => am_iload d_Mod_run_132 rfl) ?_
        refine xW_aI O d_Mod_run_134 (fun v56 _ => ?_)
        refine xW_ite (fun _ _ _ _ _ => am_if_eq (tgt := 154) d_Mod_run_135 (by decide)) (fun _ => ?_) (fun _ => ?_)
        · refine xW_pure (fun _ _ _ _ _ => am_iinc (v := 16) d_Mod_run_154 rfl (by decide) (Nat.le_of_ble_eq_true rfl)) ?_
          refine xW_pure (fun _ _ _ _ _ => am_iinc (v := 1) d_Mod_run_157 rfl (by decide) (Nat.le_of_ble_eq_true rfl)) ?_
          refine xW_pure (fun _ _ _ _ _ => am_goto (tgt := 105) d_Mod_run_160 (by decide)) ?_
          refine xW_locs (lv' := [(0, .ref l0), (3, .int (z105.1 + 16)), (4, .int (z105.2.1 + 1))]) rfl ?_
          exact ih105 ((z105.1 + 16), (z105.2.1 + 1), z105.2.2)
        · refine xW_pure (fun _ _ _ _ _ => am_aload_n d_Mod_run_138 rfl rfl) ?_
          refine xW_gR O f_Mod_353 d_Mod_run_139 (fun v57 _ => ?_)
          refine xW_pure (fun _ _ _ _ _ => am_iload d_Mod_run_142 rfl) ?_
          refine xW_pure (fun _ _ _ _ _ => am_aload_n d_Mod_run_144 rfl rfl) ?_
          refine xW_gR O f_Mod_349 d_Mod_run_145 (fun v58 _ => ?_)
          refine xW_callV O (dx_State_isSame O T) (fun _ e => ob_State_isSame e) rfl rfl rfl l_Mod_459 ⟨w_2134, w_2135⟩ rfl (Nat.le_of_ble_eq_true rfl) d_Mod_run_148 (fun v60 s59 _ => ?_)
          refine xW_ite (fun _ _ _ _ _ k1 k2 => am_if_ne (tgt := 157) d_Mod_run_151 (by decide) k2 k1) (fun _ => ?_) (fun _ => ?_)
          · refine xW_pure (fun _ _ _ _ _ => am_iinc (v := 16) d_Mod_run_154 rfl (by decide) (Nat.le_of_ble_eq_true rfl)) ?_
            refine xW_pure (fun _ _ _ _ _ => am_iinc (v := 1) d_Mod_run_157 rfl (by decide) (Nat.le_of_ble_eq_true rfl)) ?_
            refine xW_pure (fun _ _ _ _ _ => am_goto (tgt := 105) d_Mod_run_160 (by decide)) ?_
            refine xW_locs (lv' := [(0, .ref l0), (3, .int (z105.1 + 16)), (4, .int (z105.2.1 + 1))]) rfl ?_
            exact ih105 ((z105.1 + 16), (z105.2.1 + 1), s59)
          · refine xW_pure (fun _ _ _ _ _ => am_iinc (v := 1) d_Mod_run_157 rfl (by decide) (Nat.le_of_ble_eq_true rfl)) ?_
            refine xW_pure (fun _ _ _ _ _ => am_goto (tgt := 105) d_Mod_run_160 (by decide)) ?_
            refine xW_locs (lv' := [(0, .ref l0), (3, .int z105.1), (4, .int (z105.2.1 + 1))]) rfl ?_
            exact ih105 (z105.1, (z105.2.1 + 1), s59)
  · refine xW_pure (fun _ _ _ _ _ => am_aload_n d_Mod_run_85 rfl rfl) ?_
    refine xW_gR O f_Mod_374 d_Mod_run_86 (fun v61 _ => ?_)
    refine xW_pure (fun _ _ _ _ _ => am_iconst (v := 0) d_Mod_run_89 (by decide)) ?_
    refine xW_pure (fun _ _ _ _ _ => am_iconst (v := 0) d_Mod_run_90 (by decide)) ?_
    refine xW_pure (fun _ _ _ _ _ => am_iconst (v := 0) d_Mod_run_91 (by decide)) ?_
    refine xW_pure (fun _ _ _ _ _ => am_lconst (v := 0) d_Mod_run_92 (by decide)) ?_
    refine xW_pure (fun _ _ _ _ _ => am_lconst (v := 0) d_Mod_run_93 (by decide)) ?_
    refine xW_callV O (dx_Vals_set O T) (fun _ e => ob_Vals_set e) rfl rfl rfl l_Mod_114 ⟨w_1914, w_1915⟩ rfl (Nat.le_of_ble_eq_true rfl) d_Mod_run_94 (fun v63 s62 _ => ?_)
    refine xW_pure (fun _ _ _ _ _ => am_iload_n d_Mod_run_97 rfl rfl) ?_
    exact xW_ret (fun _ _ _ _ _ => am_iret rfl d_Mod_run_98)

set_option maxRecDepth 100000 in
def x_Mod_run (d : Nat) (x0 : Nat) (x1 : Int32) (s : HS) : Option (Int32 × HS) := match d with
  | 0 => none
  | d + 1 => gd s x0 14 (bnd (x_Mod_in d (x1 : Int32).toInt64 0 2000 s) fun v2 s1 => (if v2 = 0 then (some ((-1), s1)) else (bnd (x_Mod_read d x0 s1) fun v4 s3 => (if v4 = 0 then ((gI s3 x0 14 9).bind fun v5 => (some ((v5 + 100), s3))) else ((pV s3 x0 14 3 (.int 0)).bind fun s6 => ((gR s6 x0 14 39).bind fun v7 => (bnd (x_Vals_set d v7 0 0 0 0 0 s6) fun v9 s8 => ((pV s8 x0 14 43 (.int x1)).bind fun s10 => ((pV s10 x0 14 44 (.int 0)).bind fun s11 => ((gR s11 x0 14 31).bind fun v12 => ((gR s11 x0 14 30).bind fun v13 => (bnd (x_State_copy d v12 v13 s11) fun v15 s14 => (bnd (x_Mod_tellFunctions d x0 s14) fun v17 s16 => (if v17 = 0 then (bnd (x_Mod_go_ d x0 s16) fun v19 s18 => (x_Mod_run_b81 d x0 v19 s18)) else (x_Mod_run_b81 d x0 v17 s16)))))))))))))))

set_option maxRecDepth 100000 in
set_option maxHeartbeats 4000000 in
theorem dx_Mod_run (O : am_ok K X) (T : am_T K) {d : Nat} {x0 : Nat} {x1 : Int32} {s : HS} : xM cvI K X m_Mod_run d [.ref x0, .int x1] s (x_Mod_run d x0 x1 s) := by
  cases d with
  | zero => exact xM_none
  | succ d =>
    unfold x_Mod_run
    refine xM_enter (by decide +kernel) (Nat.le_of_ble_eq_true rfl) ?_
    refine xW_gd (fun _ => ?_)
    refine xW_pure (fun _ _ _ _ _ => am_iload_n d_Mod_run_0 rfl rfl) ?_
    refine xW_pure (fun _ _ _ _ _ => am_i2l d_Mod_run_1 rfl) ?_
    refine xW_pure (fun _ _ _ _ _ => am_lconst (v := 0) d_Mod_run_2 (by decide)) ?_
    refine xW_pure (fun _ _ _ _ _ => am_ldc2 (v := 2000) w_1797 d_Mod_run_3) ?_
    refine xW_callS O (dx_Mod_in O T) rfl l_Mod_70 w_1791 rfl (Nat.le_of_ble_eq_true rfl) d_Mod_run_6 (fun v2 s1 _ => ?_)
    refine xW_ite (fun _ _ _ _ _ k1 k2 => am_if_ne (tgt := 14) d_Mod_run_9 (by decide) k2 k1) (fun _ => ?_) (fun _ => ?_)
    · refine xW_pure (fun _ _ _ _ _ => am_iconst (v := (-1)) d_Mod_run_12 (by decide)) ?_
      exact xW_ret (fun _ _ _ _ _ => am_iret rfl d_Mod_run_13)
    · refine xW_pure (fun _ _ _ _ _ => am_aload_n d_Mod_run_14 rfl rfl) ?_
      refine xW_callV O (dx_Mod_read O T) (fun _ e => ob_Mod_read e) rfl rfl rfl l_Mod_437 ⟨w_1800, w_83⟩ rfl (Nat.le_of_ble_eq_true rfl) d_Mod_run_15 (fun v4 s3 _ => ?_)
      refine xW_ite (fun _ _ _ _ _ k1 k2 => am_if_ne (tgt := 29) d_Mod_run_18 (by decide) k2 k1) (fun _ => ?_) (fun _ => ?_)
      · refine xW_pure (fun _ _ _ _ _ => am_aload_n d_Mod_run_21 rfl rfl) ?_
        refine xW_gI O f_Mod_77 d_Mod_run_22 (fun v5 _ => ?_)
        refine xW_pure (fun _ _ _ _ _ => am_bipush (v := 100) d_Mod_run_25 (by decide)) ?_
        refine xW_pure (fun _ _ _ _ _ => am_iadd d_Mod_run_27) ?_
        exact xW_ret (fun _ _ _ _ _ => am_iret rfl d_Mod_run_28)
      · refine xW_pure (fun _ _ _ _ _ => am_aload_n d_Mod_run_29 rfl rfl) ?_
        refine xW_pure (fun _ _ _ _ _ => am_iconst (v := 0) d_Mod_run_30 (by decide)) ?_
        refine xW_put O f_Mod_440 d_Mod_run_31 (fun q hq => by cases hq; exact ⟨rfl, rfl, rfl⟩) (fun s6 _ => ?_)
        refine xW_pure (fun _ _ _ _ _ => am_aload_n d_Mod_run_34 rfl rfl) ?_
        refine xW_gR O f_Mod_374 d_Mod_run_35 (fun v7 _ => ?_)
        refine xW_pure (fun _ _ _ _ _ => am_iconst (v := 0) d_Mod_run_38 (by decide)) ?_
        refine xW_pure (fun _ _ _ _ _ => am_iconst (v := 0) d_Mod_run_39 (by decide)) ?_
        refine xW_pure (fun _ _ _ _ _ => am_iconst (v := 0) d_Mod_run_40 (by decide)) ?_
        refine xW_pure (fun _ _ _ _ _ => am_lconst (v := 0) d_Mod_run_41 (by decide)) ?_
        refine xW_pure (fun _ _ _ _ _ => am_lconst (v := 0) d_Mod_run_42 (by decide)) ?_
        refine xW_callV O (dx_Vals_set O T) (fun _ e => ob_Vals_set e) rfl rfl rfl l_Mod_114 ⟨w_1914, w_1915⟩ rfl (Nat.le_of_ble_eq_true rfl) d_Mod_run_43 (fun v9 s8 _ => ?_)
        refine xW_pure (fun _ _ _ _ _ => am_aload_n d_Mod_run_46 rfl rfl) ?_
        refine xW_pure (fun _ _ _ _ _ => am_iload_n d_Mod_run_47 rfl rfl) ?_
        refine xW_put O f_Mod_443 d_Mod_run_48 (fun q hq => by cases hq; exact ⟨rfl, rfl, rfl⟩) (fun s10 _ => ?_)
        refine xW_pure (fun _ _ _ _ _ => am_aload_n d_Mod_run_51 rfl rfl) ?_
        refine xW_pure (fun _ _ _ _ _ => am_iconst (v := 0) d_Mod_run_52 (by decide)) ?_
        refine xW_put O f_Mod_446 d_Mod_run_53 (fun q hq => by cases hq; exact ⟨rfl, rfl, rfl⟩) (fun s11 _ => ?_)
        refine xW_pure (fun _ _ _ _ _ => am_aload_n d_Mod_run_56 rfl rfl) ?_
        refine xW_gR O f_Mod_353 d_Mod_run_57 (fun v12 _ => ?_)
        refine xW_pure (fun _ _ _ _ _ => am_aload_n d_Mod_run_60 rfl rfl) ?_
        refine xW_gR O f_Mod_349 d_Mod_run_61 (fun v13 _ => ?_)
        refine xW_callV O (dx_State_copy O T) (fun _ e => ob_State_copy e) rfl rfl rfl l_Mod_448 ⟨w_1987, w_1988⟩ rfl (Nat.le_of_ble_eq_true rfl) d_Mod_run_64 (fun v15 s14 _ => ?_)
        refine xW_pure (fun _ _ _ _ _ => am_aload_n d_Mod_run_67 rfl rfl) ?_
        refine xW_callV O (dx_Mod_tellFunctions O T) (fun _ e => ob_Mod_tellFunctions e) rfl rfl rfl l_Mod_451 ⟨w_1998, w_114⟩ rfl (Nat.le_of_ble_eq_true rfl) d_Mod_run_68 (fun v17 s16 _ => ?_)
        refine xW_pure (fun _ _ _ _ _ => am_istore_n d_Mod_run_71 rfl (Nat.le_of_ble_eq_true rfl)) ?_
        refine xW_pure (fun _ _ _ _ _ => am_iload_n d_Mod_run_72 rfl rfl) ?_
        refine xW_ite (fun _ _ _ _ _ k1 k2 => am_if_ne (tgt := 81) d_Mod_run_73 (by decide) k2 k1) (fun _ => ?_) (fun _ => ?_)
        · refine xW_pure (fun _ _ _ _ _ => am_aload_n d_Mod_run_76 rfl rfl) ?_
          refine xW_callV O (dx_Mod_go_ O T) (fun _ e => ob_Mod_go_ e) rfl rfl rfl l_Mod_454 ⟨w_2023, w_117⟩ rfl (Nat.le_of_ble_eq_true rfl) d_Mod_run_77 (fun v19 s18 _ => ?_)
          refine xW_pure (fun _ _ _ _ _ => am_istore_n d_Mod_run_80 rfl (Nat.le_of_ble_eq_true rfl)) ?_
          refine xW_locs (lv' := [(0, .ref x0), (2, .int v19)]) rfl ?_
          exact dx_Mod_run_b81 O T
        · refine xW_locs (lv' := [(0, .ref x0), (2, .int v17)]) rfl ?_
          exact dx_Mod_run_b81 O T

theorem ob_Mod_run {d : Nat} {x0 : Nat} {x1 : Int32} {s : HS} {y : Int32 × HS} (h : x_Mod_run d x0 x1 s = some y) : isO s x0 14 = true := by
  cases d with
  | zero => cases h
  | succ d => exact (gd_spec h).1
end
