section
variable {K : am_K} {X : Nat → am_C}
set_option maxRecDepth 100000 in
def x_Mod_one_b416 (d : Nat) (l0 : Nat) (t0 : Int32) (s : HS) : Option (Int32 × HS) := bnd (x_Mod_next d l0 s) fun v140 s139 => ((gI s139 l0 14 41).bind fun v141 => (bnd (x_Mod_isTrue d l0 (v141 - 1) s139) fun v143 s142 => (if v143 = t0 then ((gI s142 l0 14 41).bind fun v144 => ((pV s142 l0 14 41 (.int (v144 - 1))).bind fun s145 => (some ((-1), s145)))) else (bnd (x_Mod_go_I d l0 v140 s142) fun v147 s146 => (some ((-1), s146))))))

set_option maxRecDepth 100000 in
set_option maxHeartbeats 4000000 in
theorem dx_Mod_one_b416 (O : am_ok K X) (T : am_T K) {d : Nat} {l0 : Nat} {t0 : Int32} {s : HS} : xW cvI K X m_Mod_one (d + 1) 416 [(0, .ref l0)] [.int t0] s (x_Mod_one_b416 d l0 t0 s) := by
  unfold x_Mod_one_b416
  refine xW_pure (fun _ _ _ _ _ => am_istore d_Mod_one_416 (Nat.le_of_ble_eq_true rfl)) ?_
  refine xW_pure (fun _ _ _ _ _ => am_aload_n d_Mod_one_418 rfl rfl) ?_
  refine xW_callV O (dx_Mod_next O T) (fun _ e => ob_Mod_next e) rfl rfl rfl l_Mod_516 ⟨w_2036, w_120⟩ rfl (Nat.le_of_ble_eq_true rfl) d_Mod_one_419 (fun v140 s139 _ => ?_)
  refine xW_pure (fun _ _ _ _ _ => am_istore_n d_Mod_one_422 rfl (Nat.le_of_ble_eq_true rfl)) ?_
  refine xW_pure (fun _ _ _ _ _ => am_aload_n d_Mod_one_423 rfl rfl) ?_
  refine xW_pure (fun _ _ _ _ _ => am_aload_n d_Mod_one_424 rfl rfl) ?_
  refine xW_gI O f_Mod_486 d_Mod_one_425 (fun v141 _ => ?_)
  refine xW_pure (fun _ _ _ _ _ => am_iconst (v := 1) d_Mod_one_428 (by decide)) ?_
  refine xW_pure (fun _ _ _ _ _ => am_isub d_Mod_one_429) ?_
  refine xW_callV O (dx_Mod_isTrue O T) (fun _ e => ob_Mod_isTrue e) rfl rfl rfl l_Mod_527 ⟨w_2056, w_124⟩ rfl (Nat.le_of_ble_eq_true rfl) d_Mod_one_430 (fun v143 s142 _ => ?_)
  refine xW_pure (fun _ _ _ _ _ => am_iload d_Mod_one_433 rfl) ?_
  refine xW_ite (fun _ _ _ _ _ => am_icmp_eq (tgt := 446) d_Mod_one_435 (by decide)) (fun _ => ?_) (fun _ => ?_)
  · refine xW_pure (fun _ _ _ _ _ => am_aload_n d_Mod_one_446 rfl rfl) ?_
    refine xW_pure (fun _ _ _ _ _ => am_dup d_Mod_one_447 rfl) ?_
    refine xW_gI O f_Mod_486 d_Mod_one_448 (fun v144 _ => ?_)
    refine xW_pure (fun _ _ _ _ _ => am_iconst (v := 1) d_Mod_one_451 (by decide)) ?_
    refine xW_pure (fun _ _ _ _ _ => am_isub d_Mod_one_452) ?_
    refine xW_put O f_Mod_486 d_Mod_one_453 (fun q hq => by cases hq; exact ⟨rfl, rfl, rfl⟩) (fun s145 _ => ?_)
    refine xW_pure (fun _ _ _ _ _ => am_iconst (v := (-1)) d_Mod_one_456 (by decide)) ?_
    exact xW_ret (fun _ _ _ _ _ => am_iret rfl d_Mod_one_457)
  · refine xW_pure (fun _ _ _ _ _ => am_aload_n d_Mod_one_438 rfl rfl) ?_
    refine xW_pure (fun _ _ _ _ _ => am_iload_n d_Mod_one_439 rfl rfl) ?_
    refine xW_callV O (dx_Mod_go_I O T) (fun _ e => ob_Mod_go_I e) rfl rfl rfl l_Mod_525 ⟨w_2052, w_123⟩ rfl (Nat.le_of_ble_eq_true rfl) d_Mod_one_440 (fun v147 s146 _ => ?_)
    refine xW_pure (fun _ _ _ _ _ => am_goto (tgt := 456) d_Mod_one_443 (by decide)) ?_
    refine xW_pure (fun _ _ _ _ _ => am_iconst (v := (-1)) d_Mod_one_456 (by decide)) ?_
    exact xW_ret (fun _ _ _ _ _ => am_iret rfl d_Mod_one_457)

set_option maxRecDepth 100000 in
def x_Mod_one (d : Nat) (x0 : Nat) (s : HS) : Option (Int32 × HS) := match d with
  | 0 => none
  | d + 1 => gd s x0 14 (bnd (x_Mod_next d x0 s) fun v2 s1 => ((gI s1 x0 14 45).bind fun v3 => (if v2 = 0 then (bnd (x_Mod_next d x0 s1) fun v5 s4 => ((gR s4 x0 14 37).bind fun v6 => ((gI s4 x0 14 41).bind fun v7 => ((gR s4 x0 14 47).bind fun v8 => ((aR "StowTongueModel$Code" s4 v8 (v3 - 1)).bind fun v9 => ((gR s4 v9 12 1).bind fun v10 => ((gR s4 x0 14 47).bind fun v11 => ((aR "StowTongueModel$Code" s4 v11 (v3 - 1)).bind fun v12 => ((gI s4 v12 12 8).bind fun v13 => (bnd (x_Vals_copy d v6 v7 v10 (v5 - v13) s4) fun v15 s14 => ((gI s14 x0 14 41).bind fun v16 => ((pV s14 x0 14 41 (.int (v16 + 1))).bind fun s17 => (some ((-1), s17)))))))))))))) else (if v2 = 1 then ((gR s1 x0 14 37).bind fun v18 => ((gI s1 x0 14 41).bind fun v19 => ((gR s1 x0 14 38).bind fun v20 => ((gR s1 x0 14 49).bind fun v21 => ((aI s1 v21 (v3 - 1)).bind fun v22 => (bnd (x_Mod_next d x0 s1) fun v24 s23 => (bnd (x_Vals_copy d v18 v19 v20 (v22 + v24) s23) fun v26 s25 => ((gI s25 x0 14 41).bind fun v27 => ((pV s25 x0 14 41 (.int (v27 + 1))).bind fun s28 => (some ((-1), s28))))))))))) else (if v2 = 2 then ((gI s1 x0 14 41).bind fun v29 => ((pV s1 x0 14 41 (.int (v29 - 1))).bind fun s30 => ((gR s30 x0 14 38).bind fun v31 => ((gR s30 x0 14 49).bind fun v32 => ((aI s30 v32 (v3 - 1)).bind fun v33 => (bnd (x_Mod_next d x0 s30) fun v35 s34 => ((gR s34 x0 14 37).bind fun v36 => ((gI s34 x0 14 41).bind fun v37 => (bnd (x_Vals_copy d v31 (v33 + v35) v36 v37 s34) fun v39 s38 => (some ((-1), s38))))))))))) else (if v2 = 3 then ((gR s1 x0 14 31).bind fun v40 => (bnd (x_Mod_next d x0 s1) fun v42 s41 => (bnd (x_Mod_text d x0 v42 s41) fun v44 s43 => (bnd (x_State_findRoot d v40 v44 s43) fun v46 s45 => (if 0 ≤ v46 then ((gR s45 x0 14 37).bind fun v47 => ((gI s45 x0 14 41).bind fun v48 => ((gR s45 x0 14 31).bind fun v49 => ((gR s45 v49 13 6).bind fun v50 => (bnd (x_Vals_copy d v47 v48 v50 v46 s45) fun v52 s51 => ((gI s51 x0 14 41).bind fun v53 => ((pV s51 x0 14 41 (.int (v53 + 1))).bind fun s54 => (some ((-1), s54))))))))) else ((gR s45 x0 14 37).bind fun v55 => ((gI s45 x0 14 41).bind fun v56 => (bnd (x_Vals_set d v55 v56 0 0 0 0 s45) fun v58 s57 => ((gI s57 x0 14 41).bind fun v59 => ((pV s57 x0 14 41 (.int (v59 + 1))).bind fun s60 => (some ((-1), s60)))))))))))) else (if v2 = 4 then (bnd (x_Mod_next d x0 s1) fun v62 s61 => (bnd (x_Mod_text d x0 v62 s61) fun v64 s63 => (bnd (x_Mod_setRoot d x0 v64 s63) fun v66 s65 => (some (v66, s65))))) else (if v2 = 5 then (if 8 < v2 then (if 13 < v2 then (bnd (x_Mod_things d x0 v2 s1) fun v68 s67 => (some (v68, s67))) else (bnd (x_Mod_reckon d x0 v2 s1) fun v70 s69 => (some (v70, s69)))) else (bnd (x_Mod_parts d x0 v2 s1) fun v72 s71 => (some (v72, s71)))) else (if v2 = 6 then (if 8 < v2 then (if 13 < v2 then (bnd (x_Mod_things d x0 v2 s1) fun v74 s73 => (some (v74, s73))) else (bnd (x_Mod_reckon d x0 v2 s1) fun v76 s75 => (some (v76, s75)))) else (bnd (x_Mod_parts d x0 v2 s1) fun v78 s77 => (some (v78, s77)))) else (if v2 = 7 then (if 8 < v2 then (if 13 < v2 then (bnd (x_Mod_things d x0 v2 s1) fun v80 s79 => (some (v80, s79))) else (bnd (x_Mod_reckon d x0 v2 s1) fun v82 s81 => (some (v82, s81)))) else (bnd (x_Mod_parts d x0 v2 s1) fun v84 s83 => (some (v84, s83)))) else (if v2 = 8 then (if 8 < v2 then (if 13 < v2 then (bnd (x_Mod_things d x0 v2 s1) fun v86 s85 => (some (v86, s85))) else (bnd (x_Mod_reckon d x0 v2 s1) fun v88 s87 => (some (v88, s87)))) else (bnd (x_Mod_parts d x0 v2 s1) fun v90 s89 => (some (v90, s89)))) else (if v2 = 9 then (if 8 < v2 then (if 13 < v2 then (bnd (x_Mod_things d x0 v2 s1) fun v92 s91 => (some (v92, s91))) else (bnd (x_Mod_reckon d x0 v2 s1) fun v94 s93 => (some (v94, s93)))) else (bnd (x_Mod_parts d x0 v2 s1) fun v96 s95 => (some (v96, s95)))) else (if v2 = 10 then (if 8 < v2 then (if 13 < v2 then (bnd (x_Mod_things d x0 v2 s1) fun v98 s97 => (some (v98, s97))) else (bnd (x_Mod_reckon d x0 v2 s1) fun v100 s99 => (some (v100, s99)))) else (bnd (x_Mod_parts d x0 v2 s1) fun v102 s101 => (some (v102, s101)))) else (if v2 = 11 then (if 8 < v2 then (if 13 < v2 then (bnd (x_Mod_things d x0 v2 s1) fun v104 s103 => (some (v104, s103))) else (bnd (x_Mod_reckon d x0 v2 s1) fun v106 s105 => (some (v106, s105)))) else (bnd (x_Mod_parts d x0 v2 s1) fun v108 s107 => (some (v108, s107)))) else (if v2 = 12 then (if 8 < v2 then (if 13 < v2 then (bnd (x_Mod_things d x0 v2 s1) fun v110 s109 => (some (v110, s109))) else (bnd (x_Mod_reckon d x0 v2 s1) fun v112 s111 => (some (v112, s111)))) else (bnd (x_Mod_parts d x0 v2 s1) fun v114 s113 => (some (v114, s113)))) else (if v2 = 13 then (if 8 < v2 then (if 13 < v2 then (bnd (x_Mod_things d x0 v2 s1) fun v116 s115 => (some (v116, s115))) else (bnd (x_Mod_reckon d x0 v2 s1) fun v118 s117 => (some (v118, s117)))) else (bnd (x_Mod_parts d x0 v2 s1) fun v120 s119 => (some (v120, s119)))) else (if v2 = 14 then ((gR s1 x0 14 47).bind fun v121 => ((aR "StowTongueModel$Code" s1 v121 (v3 - 1)).bind fun v122 => ((gR s1 v122 12 0).bind fun v123 => ((gI s1 x0 14 46).bind fun v124 => ((aI s1 v123 v124).bind fun v125 => (bnd (x_Mod_go_I d x0 v125 s1) fun v127 s126 => (some ((-1), s126)))))))) else (if v2 = 15 then (bnd (x_Mod_next d x0 s1) fun v129 s128 => ((gI s128 x0 14 41).bind fun v130 => ((pV s128 x0 14 41 (.int (v130 - 1))).bind fun s131 => ((gI s131 x0 14 41).bind fun v132 => (bnd (x_Mod_isTrue d x0 v132 s131) fun v134 s133 => (if v134 = 0 then (bnd (x_Mod_go_I d x0 v129 s133) fun v136 s135 => (some ((-1), s135))) else (some ((-1), s133)))))))) else (if v2 = 16 then (bnd (x_Mod_next d x0 s1) fun v138 s137 => (if v138 = 1 then (x_Mod_one_b416 d x0 1 s137) else (x_Mod_one_b416 d x0 0 s137))) else (if v2 = 17 then (if 8 < v2 then (if 13 < v2 then (bnd (x_Mod_things d x0 v2 s1) fun v149 s148 => (some (v149, s148))) else (bnd (x_Mod_reckon d x0 v2 s1) fun v151 s150 => (some (v151, s150)))) else (bnd (x_Mod_parts d x0 v2 s1) fun v153 s152 => (some (v153, s152)))) else (if v2 = 18 then (if 8 < v2 then (if 13 < v2 then (bnd (x_Mod_things d x0 v2 s1) fun v155 s154 => (some (v155, s154))) else (bnd (x_Mod_reckon d x0 v2 s1) fun v157 s156 => (some (v157, s156)))) else (bnd (x_Mod_parts d x0 v2 s1) fun v159 s158 => (some (v159, s158)))) else (if v2 = 19 then (if 8 < v2 then (if 13 < v2 then (bnd (x_Mod_things d x0 v2 s1) fun v161 s160 => (some (v161, s160))) else (bnd (x_Mod_reckon d x0 v2 s1) fun v163 s162 => (some (v163, s162)))) else (bnd (x_Mod_parts d x0 v2 s1) fun v165 s164 => (some (v165, s164)))) else (if v2 = 20 then (if 8 < v2 then (if 13 < v2 then (bnd (x_Mod_things d x0 v2 s1) fun v167 s166 => (some (v167, s166))) else (bnd (x_Mod_reckon d x0 v2 s1) fun v169 s168 => (some (v169, s168)))) else (bnd (x_Mod_parts d x0 v2 s1) fun v171 s170 => (some (v171, s170)))) else (if v2 = 21 then (if 8 < v2 then (if 13 < v2 then (bnd (x_Mod_things d x0 v2 s1) fun v173 s172 => (some (v173, s172))) else (bnd (x_Mod_reckon d x0 v2 s1) fun v175 s174 => (some (v175, s174)))) else (bnd (x_Mod_parts d x0 v2 s1) fun v177 s176 => (some (v177, s176)))) else (if v2 = 22 then (bnd (x_Mod_next d x0 s1) fun v179 s178 => (bnd (x_Mod_text d x0 v179 s178) fun v181 s180 => (bnd (x_Mod_next d x0 s180) fun v183 s182 => (bnd (x_Mod_call d x0 v181 v183 s182) fun v185 s184 => (some (v185, s184)))))) else (if v2 = 23 then (bnd (x_Mod_spend d x0 s1) fun v187 s186 => (if v187 = 0 then (some (1, s186)) else (some ((-1), s186)))) else (if v2 = 24 then (bnd (x_Mod_print d x0 s1) fun v189 s188 => (some (v189, s188))) else (if v2 = 25 then (some (10, s1)) else (if v2 = 26 then (bnd (x_Mod_leave d x0 s1) fun v191 s190 => (some (v191, s190))) else (if v2 = 27 then ((gI s1 x0 14 41).bind fun v192 => ((pV s1 x0 14 41 (.int (v192 - 1))).bind fun s193 => (some ((-1), s193)))) else (if v2 = 28 then (bnd (x_Mod_push d x0 0 0 s1) fun v195 s194 => (bnd (x_Mod_leave d x0 s194) fun v197 s196 => (some (v197, s196)))) else (if 8 < v2 then (if 13 < v2 then (bnd (x_Mod_things d x0 v2 s1) fun v199 s198 => (some (v199, s198))) else (bnd (x_Mod_reckon d x0 v2 s1) fun v201 s200 => (some (v201, s200)))) else (bnd (x_Mod_parts d x0 v2 s1) fun v203 s202 => (some (v203, s202)))))))))))))))))))))))))))))))))))

set_option maxRecDepth 100000 in
set_option maxHeartbeats 4000000 in
theorem dx_Mod_one (O : am_ok K X) (T : am_T K) {d : Nat} {x0 : Nat} {s : HS} : xM cvI K X m_Mod_one d [.ref x0] s (x_Mod_one d x0 s) := by
  cases d with
  | zero => exact xM_none
  | succ d =>
    unfold x_Mod_one
    refine xM_enter (by decide +kernel) (Nat.le_of_ble_eq_true rfl) ?_
    refine xW_gd (fun _ => ?_)
    refine xW_pure (fun _ _ _ _ _ => am_aload_n d_Mod_one_0 rfl rfl) ?_
    refine xW_callV O (dx_Mod_next O T) (fun _ e => ob_Mod_next e) rfl rfl rfl l_Mod_516 ⟨w_2036, w_120⟩ rfl (Nat.le_of_ble_eq_true rfl) d_Mod_one_1 (fun v2 s1 _ => ?_)
    refine xW_pure (fun _ _ _ _ _ => am_istore_n d_Mod_one_4 rfl (Nat.le_of_ble_eq_true rfl)) ?_
    refine xW_pure (fun _ _ _ _ _ => am_aload_n d_Mod_one_5 rfl rfl) ?_
    refine xW_gI O f_Mod_492 d_Mod_one_6 (fun v3 _ => ?_)
    refine xW_pure (fun _ _ _ _ _ => am_iconst (v := 1) d_Mod_one_9 (by decide)) ?_
    refine xW_pure (fun _ _ _ _ _ => am_isub d_Mod_one_10) ?_
    refine xW_pure (fun _ _ _ _ _ => am_istore_n d_Mod_one_11 rfl (Nat.le_of_ble_eq_true rfl)) ?_
    refine xW_pure (fun _ _ _ _ _ => am_iload_n d_Mod_one_12 rfl rfl) ?_
    refine xW_by (fun c13_0 => ?_) (fun c13_0 => ?_)
    · refine xW_pure (fun _ _ _ _ _ => am_tableIn (off := 131) (tgt := 144) d_Mod_one_13 (by rw [c13_0]; decide) (by rw [c13_0]; decide) (by rw [c13_0]; rfl) (by decide)) ?_
      refine xW_pure (fun _ _ _ _ _ => am_aload_n d_Mod_one_144 rfl rfl) ?_
      refine xW_callV O (dx_Mod_next O T) (fun _ e => ob_Mod_next e) rfl rfl rfl l_Mod_516 ⟨w_2036, w_120⟩ rfl (Nat.le_of_ble_eq_true rfl) d_Mod_one_145 (fun v5 s4 _ => ?_)
      refine xW_pure (fun _ _ _ _ _ => am_istore_n d_Mod_one_148 rfl (Nat.le_of_ble_eq_true rfl)) ?_
      refine xW_pure (fun _ _ _ _ _ => am_aload_n d_Mod_one_149 rfl rfl) ?_
      refine xW_gR O f_Mod_368 d_Mod_one_150 (fun v6 _ => ?_)
      refine xW_pure (fun _ _ _ _ _ => am_aload_n d_Mod_one_153 rfl rfl) ?_
      refine xW_gI O f_Mod_486 d_Mod_one_154 (fun v7 _ => ?_)
      refine xW_pure (fun _ _ _ _ _ => am_aload_n d_Mod_one_157 rfl rfl) ?_
      refine xW_gR O f_Mod_380 d_Mod_one_158 (fun v8 _ => ?_)
      refine xW_pure (fun _ _ _ _ _ => am_iload_n d_Mod_one_161 rfl rfl) ?_
      refine xW_aR O (by decide) d_Mod_one_162 (fun v9 _ => ?_)
      refine xW_gR O f_Mod_107 d_Mod_one_163 (fun v10 _ => ?_)
      refine xW_pure (fun _ _ _ _ _ => am_iload_n d_Mod_one_166 rfl rfl) ?_
      refine xW_pure (fun _ _ _ _ _ => am_aload_n d_Mod_one_167 rfl rfl) ?_
      refine xW_gR O f_Mod_380 d_Mod_one_168 (fun v11 _ => ?_)
      refine xW_pure (fun _ _ _ _ _ => am_iload_n d_Mod_one_171 rfl rfl) ?_
      refine xW_aR O (by decide) d_Mod_one_172 (fun v12 _ => ?_)
      refine xW_gI O f_Mod_510 d_Mod_one_173 (fun v13 _ => ?_)
      refine xW_pure (fun _ _ _ _ _ => am_isub d_Mod_one_176) ?_
      refine xW_callV O (dx_Vals_copy O T) (fun _ e => ob_Vals_copy e) rfl rfl rfl l_Mod_505 ⟨w_1992, w_1993⟩ rfl (Nat.le_of_ble_eq_true rfl) d_Mod_one_177 (fun v15 s14 _ => ?_)
      refine xW_pure (fun _ _ _ _ _ => am_aload_n d_Mod_one_180 rfl rfl) ?_
      refine xW_pure (fun _ _ _ _ _ => am_dup d_Mod_one_181 rfl) ?_
      refine xW_gI O f_Mod_486 d_Mod_one_182 (fun v16 _ => ?_)
      refine xW_pure (fun _ _ _ _ _ => am_iconst (v := 1) d_Mod_one_185 (by decide)) ?_
      refine xW_pure (fun _ _ _ _ _ => am_iadd d_Mod_one_186) ?_
      refine xW_put O f_Mod_486 d_Mod_one_187 (fun q hq => by cases hq; exact ⟨rfl, rfl, rfl⟩) (fun s17 _ => ?_)
      refine xW_pure (fun _ _ _ _ _ => am_iconst (v := (-1)) d_Mod_one_190 (by decide)) ?_
      exact xW_ret (fun _ _ _ _ _ => am_iret rfl d_Mod_one_191)
    · refine xW_by (fun c13_1 => ?_) (fun c13_1 => ?_)
      · refine xW_pure (fun _ _ _ _ _ => am_tableIn (off := 179) (tgt := 192) d_Mod_one_13 (by rw [c13_1]; decide) (by rw [c13_1]; decide) (by rw [c13_1]; rfl) (by decide)) ?_
        refine xW_pure (fun _ _ _ _ _ => am_aload_n d_Mod_one_192 rfl rfl) ?_
        refine xW_gR O f_Mod_368 d_Mod_one_193 (fun v18 _ => ?_)
        refine xW_pure (fun _ _ _ _ _ => am_aload_n d_Mod_one_196 rfl rfl) ?_
        refine xW_gI O f_Mod_486 d_Mod_one_197 (fun v19 _ => ?_)
        refine xW_pure (fun _ _ _ _ _ => am_aload_n d_Mod_one_200 rfl rfl) ?_
        refine xW_gR O f_Mod_371 d_Mod_one_201 (fun v20 _ => ?_)
        refine xW_pure (fun _ _ _ _ _ => am_aload_n d_Mod_one_204 rfl rfl) ?_
        refine xW_gR O f_Mod_386 d_Mod_one_205 (fun v21 _ => ?_)
        refine xW_pure (fun _ _ _ _ _ => am_iload_n d_Mod_one_208 rfl rfl) ?_
        refine xW_aI O d_Mod_one_209 (fun v22 _ => ?_)
        refine xW_pure (fun _ _ _ _ _ => am_aload_n d_Mod_one_210 rfl rfl) ?_
        refine xW_callV O (dx_Mod_next O T) (fun _ e => ob_Mod_next e) rfl rfl rfl l_Mod_516 ⟨w_2036, w_120⟩ rfl (Nat.le_of_ble_eq_true rfl) d_Mod_one_211 (fun v24 s23 _ => ?_)
        refine xW_pure (fun _ _ _ _ _ => am_iadd d_Mod_one_214) ?_
        refine xW_callV O (dx_Vals_copy O T) (fun _ e => ob_Vals_copy e) rfl rfl rfl l_Mod_505 ⟨w_1992, w_1993⟩ rfl (Nat.le_of_ble_eq_true rfl) d_Mod_one_215 (fun v26 s25 _ => ?_)
        refine xW_pure (fun _ _ _ _ _ => am_aload_n d_Mod_one_218 rfl rfl) ?_
        refine xW_pure (fun _ _ _ _ _ => am_dup d_Mod_one_219 rfl) ?_
        refine xW_gI O f_Mod_486 d_Mod_one_220 (fun v27 _ => ?_)
        refine xW_pure (fun _ _ _ _ _ => am_iconst (v := 1) d_Mod_one_223 (by decide)) ?_
        refine xW_pure (fun _ _ _ _ _ => am_iadd d_Mod_one_224) ?_
        refine xW_put O f_Mod_486 d_Mod_one_225 (fun q hq => by cases hq; exact ⟨rfl, rfl, rfl⟩) (fun s28 _ => ?_)
        refine xW_pure (fun _ _ _ _ _ => am_iconst (v := (-1)) d_Mod_one_228 (by decide)) ?_
        exact xW_ret (fun _ _ _ _ _ => am_iret rfl d_Mod_one_229)
      · refine xW_by (fun c13_2 => ?_) (fun c13_2 => ?_)
        · refine xW_pure (fun _ _ _ _ _ => am_tableIn (off := 217) (tgt := 230) d_Mod_one_13 (by rw [c13_2]; decide) (by rw [c13_2]; decide) (by rw [c13_2]; rfl) (by decide)) ?_
          refine xW_pure (fun _ _ _ _ _ => am_aload_n d_Mod_one_230 rfl rfl) ?_
          refine xW_pure (fun _ _ _ _ _ => am_dup d_Mod_one_231 rfl) ?_
          refine xW_gI O f_Mod_486 d_Mod_one_232 (fun v29 _ => ?_)
          refine xW_pure (fun _ _ _ _ _ => am_iconst (v := 1) d_Mod_one_235 (by decide)) ?_
          refine xW_pure (fun _ _ _ _ _ => am_isub d_Mod_one_236) ?_
          refine xW_put O f_Mod_486 d_Mod_one_237 (fun q hq => by cases hq; exact ⟨rfl, rfl, rfl⟩) (fun s30 _ => ?_)
          refine xW_pure (fun _ _ _ _ _ => am_aload_n d_Mod_one_240 rfl rfl) ?_
          refine xW_gR O f_Mod_371 d_Mod_one_241 (fun v31 _ => ?_)
          refine xW_pure (fun _ _ _ _ _ => am_aload_n d_Mod_one_244 rfl rfl) ?_
          refine xW_gR O f_Mod_386 d_Mod_one_245 (fun v32 _ => ?_)
          refine xW_pure (fun _ _ _ _ _ => am_iload_n d_Mod_one_248 rfl rfl) ?_
          refine xW_aI O d_Mod_one_249 (fun v33 _ => ?_)
          refine xW_pure (fun _ _ _ _ _ => am_aload_n d_Mod_one_250 rfl rfl) ?_
          refine xW_callV O (dx_Mod_next O T) (fun _ e => ob_Mod_next e) rfl rfl rfl l_Mod_516 ⟨w_2036, w_120⟩ rfl (Nat.le_of_ble_eq_true rfl) d_Mod_one_251 (fun v35 s34 _ => ?_)
          refine xW_pure (fun _ _ _ _ _ => am_iadd d_Mod_one_254) ?_
          refine xW_pure (fun _ _ _ _ _ => am_aload_n d_Mod_one_255 rfl rfl) ?_
          refine xW_gR O f_Mod_368 d_Mod_one_256 (fun v36 _ => ?_)
          refine xW_pure (fun _ _ _ _ _ => am_aload_n d_Mod_one_259 rfl rfl) ?_
          refine xW_gI O f_Mod_486 d_Mod_one_260 (fun v37 _ => ?_)
          refine xW_callV O (dx_Vals_copy O T) (fun _ e => ob_Vals_copy e) rfl rfl rfl l_Mod_505 ⟨w_1992, w_1993⟩ rfl (Nat.le_of_ble_eq_true rfl) d_Mod_one_263 (fun v39 s38 _ => ?_)
          refine xW_pure (fun _ _ _ _ _ => am_iconst (v := (-1)) d_Mod_one_266 (by decide)) ?_
          exact xW_ret (fun _ _ _ _ _ => am_iret rfl d_Mod_one_267)
        · refine xW_by (fun c13_3 => ?_) (fun c13_3 => ?_)
          · refine xW_pure (fun _ _ _ _ _ => am_tableIn (off := 255) (tgt := 268) d_Mod_one_13 (by rw [c13_3]; decide) (by rw [c13_3]; decide) (by rw [c13_3]; rfl) (by decide)) ?_
            refine xW_pure (fun _ _ _ _ _ => am_aload_n d_Mod_one_268 rfl rfl) ?_
            refine xW_gR O f_Mod_353 d_Mod_one_269 (fun v40 _ => ?_)
            refine xW_pure (fun _ _ _ _ _ => am_aload_n d_Mod_one_272 rfl rfl) ?_
            refine xW_pure (fun _ _ _ _ _ => am_aload_n d_Mod_one_273 rfl rfl) ?_
            refine xW_callV O (dx_Mod_next O T) (fun _ e => ob_Mod_next e) rfl rfl rfl l_Mod_516 ⟨w_2036, w_120⟩ rfl (Nat.le_of_ble_eq_true rfl) d_Mod_one_274 (fun v42 s41 _ => ?_)
            refine xW_callV O (dx_Mod_text O T) (fun _ e => ob_Mod_text e) rfl rfl rfl l_Mod_518 ⟨w_2040, w_121⟩ rfl (Nat.le_of_ble_eq_true rfl) d_Mod_one_277 (fun v44 s43 _ => ?_)
            refine xW_callV O (dx_State_findRoot O T) (fun _ e => ob_State_findRoot e) rfl rfl rfl l_Mod_469 ⟨w_2043, w_2044⟩ rfl (Nat.le_of_ble_eq_true rfl) d_Mod_one_280 (fun v46 s45 _ => ?_)
            refine xW_pure (fun _ _ _ _ _ => am_istore_n d_Mod_one_283 rfl (Nat.le_of_ble_eq_true rfl)) ?_
            refine xW_pure (fun _ _ _ _ _ => am_iload_n d_Mod_one_284 rfl rfl) ?_
            refine xW_ite (fun _ _ _ _ _ => am_if_ge (tgt := 306) d_Mod_one_285 (by decide)) (fun _ => ?_) (fun _ => ?_)
            · refine xW_pure (fun _ _ _ _ _ => am_aload_n d_Mod_one_306 rfl rfl) ?_
              refine xW_gR O f_Mod_368 d_Mod_one_307 (fun v47 _ => ?_)
              refine xW_pure (fun _ _ _ _ _ => am_aload_n d_Mod_one_310 rfl rfl) ?_
              refine xW_gI O f_Mod_486 d_Mod_one_311 (fun v48 _ => ?_)
              refine xW_pure (fun _ _ _ _ _ => am_aload_n d_Mod_one_314 rfl rfl) ?_
              refine xW_gR O f_Mod_353 d_Mod_one_315 (fun v49 _ => ?_)
              refine xW_gR O f_Mod_472 d_Mod_one_318 (fun v50 _ => ?_)
              refine xW_pure (fun _ _ _ _ _ => am_iload_n d_Mod_one_321 rfl rfl) ?_
              refine xW_callV O (dx_Vals_copy O T) (fun _ e => ob_Vals_copy e) rfl rfl rfl l_Mod_505 ⟨w_1992, w_1993⟩ rfl (Nat.le_of_ble_eq_true rfl) d_Mod_one_322 (fun v52 s51 _ => ?_)
              refine xW_pure (fun _ _ _ _ _ => am_aload_n d_Mod_one_325 rfl rfl) ?_
              refine xW_pure (fun _ _ _ _ _ => am_dup d_Mod_one_326 rfl) ?_
              refine xW_gI O f_Mod_486 d_Mod_one_327 (fun v53 _ => ?_)
              refine xW_pure (fun _ _ _ _ _ => am_iconst (v := 1) d_Mod_one_330 (by decide)) ?_
              refine xW_pure (fun _ _ _ _ _ => am_iadd d_Mod_one_331) ?_
              refine xW_put O f_Mod_486 d_Mod_one_332 (fun q hq => by cases hq; exact ⟨rfl, rfl, rfl⟩) (fun s54 _ => ?_)
              refine xW_pure (fun _ _ _ _ _ => am_iconst (v := (-1)) d_Mod_one_335 (by decide)) ?_
              exact xW_ret (fun _ _ _ _ _ => am_iret rfl d_Mod_one_336)
            · refine xW_pure (fun _ _ _ _ _ => am_aload_n d_Mod_one_288 rfl rfl) ?_
              refine xW_gR O f_Mod_368 d_Mod_one_289 (fun v55 _ => ?_)
              refine xW_pure (fun _ _ _ _ _ => am_aload_n d_Mod_one_292 rfl rfl) ?_
              refine xW_gI O f_Mod_486 d_Mod_one_293 (fun v56 _ => ?_)
              refine xW_pure (fun _ _ _ _ _ => am_iconst (v := 0) d_Mod_one_296 (by decide)) ?_
              refine xW_pure (fun _ _ _ _ _ => am_iconst (v := 0) d_Mod_one_297 (by decide)) ?_
              refine xW_pure (fun _ _ _ _ _ => am_lconst (v := 0) d_Mod_one_298 (by decide)) ?_
              refine xW_pure (fun _ _ _ _ _ => am_lconst (v := 0) d_Mod_one_299 (by decide)) ?_
              refine xW_callV O (dx_Vals_set O T) (fun _ e => ob_Vals_set e) rfl rfl rfl l_Mod_114 ⟨w_1914, w_1915⟩ rfl (Nat.le_of_ble_eq_true rfl) d_Mod_one_300 (fun v58 s57 _ => ?_)
              refine xW_pure (fun _ _ _ _ _ => am_goto (tgt := 325) d_Mod_one_303 (by decide)) ?_
              refine xW_pure (fun _ _ _ _ _ => am_aload_n d_Mod_one_325 rfl rfl) ?_
              refine xW_pure (fun _ _ _ _ _ => am_dup d_Mod_one_326 rfl) ?_
              refine xW_gI O f_Mod_486 d_Mod_one_327 (fun v59 _ => ?_)
              refine xW_pure (fun _ _ _ _ _ => am_iconst (v := 1) d_Mod_one_330 (by decide)) ?_
              refine xW_pure (fun _ _ _ _ _ => am_iadd d_Mod_one_331) ?_
              refine xW_put O f_Mod_486 d_Mod_one_332 (fun q hq => by cases hq; exact ⟨rfl, rfl, rfl⟩) (fun s60 _ => ?_)
              refine xW_pure (fun _ _ _ _ _ => am_iconst (v := (-1)) d_Mod_one_335 (by decide)) ?_
              exact xW_ret (fun _ _ _ _ _ => am_iret rfl d_Mod_one_336)
          · refine xW_by (fun c13_4 => ?_) (fun c13_4 => ?_)
            · refine xW_pure (fun _ _ _ _ _ => am_tableIn (off := 324) (tgt := 337) d_Mod_one_13 (by rw [c13_4]; decide) (by rw [c13_4]; decide) (by rw [c13_4]; rfl) (by decide)) ?_
              refine xW_pure (fun _ _ _ _ _ => am_aload_n d_Mod_one_337 rfl rfl) ?_
              refine xW_pure (fun _ _ _ _ _ => am_aload_n d_Mod_one_338 rfl rfl) ?_
              refine xW_pure (fun _ _ _ _ _ => am_aload_n d_Mod_one_339 rfl rfl) ?_
              refine xW_callV O (dx_Mod_next O T) (fun _ e => ob_Mod_next e) rfl rfl rfl l_Mod_516 ⟨w_2036, w_120⟩ rfl (Nat.le_of_ble_eq_true rfl) d_Mod_one_340 (fun v62 s61 _ => ?_)
              refine xW_callV O (dx_Mod_text O T) (fun _ e => ob_Mod_text e) rfl rfl rfl l_Mod_518 ⟨w_2040, w_121⟩ rfl (Nat.le_of_ble_eq_true rfl) d_Mod_one_343 (fun v64 s63 _ => ?_)
              refine xW_callV O (dx_Mod_setRoot O T) (fun _ e => ob_Mod_setRoot e) rfl rfl rfl l_Mod_522 ⟨w_2048, w_122⟩ rfl (Nat.le_of_ble_eq_true rfl) d_Mod_one_346 (fun v66 s65 _ => ?_)
              exact xW_ret (fun _ _ _ _ _ => am_iret rfl d_Mod_one_349)
            · refine xW_by (fun c13_5 => ?_) (fun c13_5 => ?_)
              · refine xW_pure (fun _ _ _ _ _ => am_tableIn (off := 511) (tgt := 524) d_Mod_one_13 (by rw [c13_5]; decide) (by rw [c13_5]; decide) (by rw [c13_5]; rfl) (by decide)) ?_
                refine xW_pure (fun _ _ _ _ _ => am_iload_n d_Mod_one_524 rfl rfl) ?_
                refine xW_pure (fun _ _ _ _ _ => am_bipush (v := 8) d_Mod_one_525 (by decide)) ?_
                refine xW_ite (fun _ _ _ _ _ => am_icmp_gt (tgt := 538) d_Mod_one_527 (by decide)) (fun _ => ?_) (fun _ => ?_)
                · refine xW_pure (fun _ _ _ _ _ => am_iload_n d_Mod_one_538 rfl rfl) ?_
                  refine xW_pure (fun _ _ _ _ _ => am_bipush (v := 13) d_Mod_one_539 (by decide)) ?_
                  refine xW_ite (fun _ _ _ _ _ => am_icmp_gt (tgt := 552) d_Mod_one_541 (by decide)) (fun _ => ?_) (fun _ => ?_)
                  · refine xW_pure (fun _ _ _ _ _ => am_aload_n d_Mod_one_552 rfl rfl) ?_
                    refine xW_pure (fun _ _ _ _ _ => am_iload_n d_Mod_one_553 rfl rfl) ?_
                    refine xW_callV O (dx_Mod_things O T) (fun _ e => ob_Mod_things e) rfl rfl rfl l_Mod_551 ⟨w_2127, w_138⟩ rfl (Nat.le_of_ble_eq_true rfl) d_Mod_one_554 (fun v68 s67 _ => ?_)
                    exact xW_ret (fun _ _ _ _ _ => am_iret rfl d_Mod_one_557)
                  · refine xW_pure (fun _ _ _ _ _ => am_aload_n d_Mod_one_544 rfl rfl) ?_
                    refine xW_pure (fun _ _ _ _ _ => am_iload_n d_Mod_one_545 rfl rfl) ?_
                    refine xW_callV O (dx_Mod_reckon O T) (fun _ e => ob_Mod_reckon e) rfl rfl rfl l_Mod_548 ⟨w_2106, w_134⟩ rfl (Nat.le_of_ble_eq_true rfl) d_Mod_one_546 (fun v70 s69 _ => ?_)
                    refine xW_pure (fun _ _ _ _ _ => am_goto (tgt := 557) d_Mod_one_549 (by decide)) ?_
                    exact xW_ret (fun _ _ _ _ _ => am_iret rfl d_Mod_one_557)
                · refine xW_pure (fun _ _ _ _ _ => am_aload_n d_Mod_one_530 rfl rfl) ?_
                  refine xW_pure (fun _ _ _ _ _ => am_iload_n d_Mod_one_531 rfl rfl) ?_
                  refine xW_callV O (dx_Mod_parts O T) (fun _ e => ob_Mod_parts e) rfl rfl rfl l_Mod_545 ⟨w_2090, w_131⟩ rfl (Nat.le_of_ble_eq_true rfl) d_Mod_one_532 (fun v72 s71 _ => ?_)
                  refine xW_pure (fun _ _ _ _ _ => am_goto (tgt := 557) d_Mod_one_535 (by decide)) ?_
                  exact xW_ret (fun _ _ _ _ _ => am_iret rfl d_Mod_one_557)
              · refine xW_by (fun c13_6 => ?_) (fun c13_6 => ?_)
                · refine xW_pure (fun _ _ _ _ _ => am_tableIn (off := 511) (tgt := 524) d_Mod_one_13 (by rw [c13_6]; decide) (by rw [c13_6]; decide) (by rw [c13_6]; rfl) (by decide)) ?_
                  refine xW_pure (fun _ _ _ _ _ => am_iload_n d_Mod_one_524 rfl rfl) ?_
                  refine xW_pure (fun _ _ _ _ _ => am_bipush (v := 8) d_Mod_one_525 (by decide)) ?_
                  refine xW_ite (fun _ _ _ _ _ => am_icmp_gt (tgt := 538) d_Mod_one_527 (by decide)) (fun _ => ?_) (fun _ => ?_)
                  · refine xW_pure (fun _ _ _ _ _ => am_iload_n d_Mod_one_538 rfl rfl) ?_
                    refine xW_pure (fun _ _ _ _ _ => am_bipush (v := 13) d_Mod_one_539 (by decide)) ?_
                    refine xW_ite (fun _ _ _ _ _ => am_icmp_gt (tgt := 552) d_Mod_one_541 (by decide)) (fun _ => ?_) (fun _ => ?_)
                    · refine xW_pure (fun _ _ _ _ _ => am_aload_n d_Mod_one_552 rfl rfl) ?_
                      refine xW_pure (fun _ _ _ _ _ => am_iload_n d_Mod_one_553 rfl rfl) ?_
                      refine xW_callV O (dx_Mod_things O T) (fun _ e => ob_Mod_things e) rfl rfl rfl l_Mod_551 ⟨w_2127, w_138⟩ rfl (Nat.le_of_ble_eq_true rfl) d_Mod_one_554 (fun v74 s73 _ => ?_)
                      exact xW_ret (fun _ _ _ _ _ => am_iret rfl d_Mod_one_557)
                    · refine xW_pure (fun _ _ _ _ _ => am_aload_n d_Mod_one_544 rfl rfl) ?_
                      refine xW_pure (fun _ _ _ _ _ => am_iload_n d_Mod_one_545 rfl rfl) ?_
                      refine xW_callV O (dx_Mod_reckon O T) (fun _ e => ob_Mod_reckon e) rfl rfl rfl l_Mod_548 ⟨w_2106, w_134⟩ rfl (Nat.le_of_ble_eq_true rfl) d_Mod_one_546 (fun v76 s75 _ => ?_)
                      refine xW_pure (fun _ _ _ _ _ => am_goto (tgt := 557) d_Mod_one_549 (by decide)) ?_
                      exact xW_ret (fun _ _ _ _ _ => am_iret rfl d_Mod_one_557)
                  · refine xW_pure (fun _ _ _ _ _ => am_aload_n d_Mod_one_530 rfl rfl) ?_
                    refine xW_pure (fun _ _ _ _ _ => am_iload_n d_Mod_one_531 rfl rfl) ?_
                    refine xW_callV O (dx_Mod_parts O T) (fun _ e => ob_Mod_parts e) rfl rfl rfl l_Mod_545 ⟨w_2090, w_131⟩ rfl (Nat.le_of_ble_eq_true rfl) d_Mod_one_532 (fun v78 s77 _ => ?_)
                    refine xW_pure (fun _ _ _ _ _ => am_goto (tgt := 557) d_Mod_one_535 (by decide)) ?_
                    exact xW_ret (fun _ _ _ _ _ => am_iret rfl d_Mod_one_557)
                · refine xW_by (fun c13_7 => ?_) (fun c13_7 => ?_)
                  · refine xW_pure (fun _ _ _ _ _ => am_tableIn (off := 511) (tgt := 524) d_Mod_one_13 (by rw [c13_7]; decide) (by rw [c13_7]; decide) (by rw [c13_7]; rfl) (by decide)) ?_
                    refine xW_pure (fun _ _ _ _ _ => am_iload_n d_Mod_one_524 rfl rfl) ?_
                    refine xW_pure (fun _ _ _ _ _ => am_bipush (v := 8) d_Mod_one_525 (by decide)) ?_
                    refine xW_ite (fun _ _ _ _ _ => am_icmp_gt (tgt := 538) d_Mod_one_527 (by decide)) (fun _ => ?_) (fun _ => ?_)
                    · refine xW_pure (fun _ _ _ _ _ => am_iload_n d_Mod_one_538 rfl rfl) ?_
                      refine xW_pure (fun _ _ _ _ _ => am_bipush (v := 13) d_Mod_one_539 (by decide)) ?_
                      refine xW_ite (fun _ _ _ _ _ => am_icmp_gt (tgt := 552) d_Mod_one_541 (by decide)) (fun _ => ?_) (fun _ => ?_)
                      · refine xW_pure (fun _ _ _ _ _ => am_aload_n d_Mod_one_552 rfl rfl) ?_
                        refine xW_pure (fun _ _ _ _ _ => am_iload_n d_Mod_one_553 rfl rfl) ?_
                        refine xW_callV O (dx_Mod_things O T) (fun _ e => ob_Mod_things e) rfl rfl rfl l_Mod_551 ⟨w_2127, w_138⟩ rfl (Nat.le_of_ble_eq_true rfl) d_Mod_one_554 (fun v80 s79 _ => ?_)
                        exact xW_ret (fun _ _ _ _ _ => am_iret rfl d_Mod_one_557)
                      · refine xW_pure (fun _ _ _ _ _ => am_aload_n d_Mod_one_544 rfl rfl) ?_
                        refine xW_pure (fun _ _ _ _ _ => am_iload_n d_Mod_one_545 rfl rfl) ?_
                        refine xW_callV O (dx_Mod_reckon O T) (fun _ e => ob_Mod_reckon e) rfl rfl rfl l_Mod_548 ⟨w_2106, w_134⟩ rfl (Nat.le_of_ble_eq_true rfl) d_Mod_one_546 (fun v82 s81 _ => ?_)
                        refine xW_pure (fun _ _ _ _ _ => am_goto (tgt := 557) d_Mod_one_549 (by decide)) ?_
                        exact xW_ret (fun _ _ _ _ _ => am_iret rfl d_Mod_one_557)
                    · refine xW_pure (fun _ _ _ _ _ => am_aload_n d_Mod_one_530 rfl rfl) ?_
                      refine xW_pure (fun _ _ _ _ _ => am_iload_n d_Mod_one_531 rfl rfl) ?_
                      refine xW_callV O (dx_Mod_parts O T) (fun _ e => ob_Mod_parts e) rfl rfl rfl l_Mod_545 ⟨w_2090, w_131⟩ rfl (Nat.le_of_ble_eq_true rfl) d_Mod_one_532 (fun v84 s83 _ => ?_)
                      refine xW_pure (fun _ _ _ _ _ => am_goto (tgt := 557) d_Mod_one_535 (by decide)) ?_
                      exact xW_ret (fun _ _ _ _ _ => am_iret rfl d_Mod_one_557)
                  · refine xW_by (fun c13_8 => ?_) (fun c13_8 => ?_)
                    · refine xW_pure (fun _ _ _ _ _ => am_tableIn (off := 511) (tgt := 524) d_Mod_one_13 (by rw [c13_8]; decide) (by rw [c13_8]; decide) (by rw [c13_8]; rfl) (by decide)) ?_
                      refine xW_pure (fun _ _ _ _ _ => am_iload_n d_Mod_one_524 rfl rfl) ?_
                      refine xW_pure (fun _ _ _ _ _ => am_bipush (v := 8) d_Mod_one_525 (by decide)) ?_
                      refine xW_ite (fun _ _ _ _ _ => am_icmp_gt (tgt := 538) d_Mod_one_527 (by decide)) (fun _ => ?_) (fun _ => ?_)
                      · refine xW_pure (fun _ _ _ _ _ => am_iload_n d_Mod_one_538 rfl rfl) ?_
                        refine xW_pure (fun _ _ _ _ _ => am_bipush (v := 13) d_Mod_one_539 (by decide)) ?_
                        refine xW_ite (fun _ _ _ _ _ => am_icmp_gt (tgt := 552) d_Mod_one_541 (by decide)) (fun _ => ?_) (fun _ => ?_)
                        · refine xW_pure (fun _ _ _ _ _ => am_aload_n d_Mod_one_552 rfl rfl) ?_
                          refine xW_pure (fun _ _ _ _ _ => am_iload_n d_Mod_one_553 rfl rfl) ?_
                          refine xW_callV O (dx_Mod_things O T) (fun _ e => ob_Mod_things e) rfl rfl rfl l_Mod_551 ⟨w_2127, w_138⟩ rfl (Nat.le_of_ble_eq_true rfl) d_Mod_one_554 (fun v86 s85 _ => ?_)
                          exact xW_ret (fun _ _ _ _ _ => am_iret rfl d_Mod_one_557)
                        · refine xW_pure (fun _ _ _ _ _ => am_aload_n d_Mod_one_544 rfl rfl) ?_
                          refine xW_pure (fun _ _ _ _ _ => am_iload_n d_Mod_one_545 rfl rfl) ?_
                          refine xW_callV O (dx_Mod_reckon O T) (fun _ e => ob_Mod_reckon e) rfl rfl rfl l_Mod_548 ⟨w_2106, w_134⟩ rfl (Nat.le_of_ble_eq_true rfl) d_Mod_one_546 (fun v88 s87 _ => ?_)
                          refine xW_pure (fun _ _ _ _ _ => am_goto (tgt := 557) d_Mod_one_549 (by decide)) ?_
                          exact xW_ret (fun _ _ _ _ _ => am_iret rfl d_Mod_one_557)
                      · refine xW_pure (fun _ _ _ _ _ => am_aload_n d_Mod_one_530 rfl rfl) ?_
                        refine xW_pure (fun _ _ _ _ _ => am_iload_n d_Mod_one_531 rfl rfl) ?_
                        refine xW_callV O (dx_Mod_parts O T) (fun _ e => ob_Mod_parts e) rfl rfl rfl l_Mod_545 ⟨w_2090, w_131⟩ rfl (Nat.le_of_ble_eq_true rfl) d_Mod_one_532 (fun v90 s89 _ => ?_)
                        refine xW_pure (fun _ _ _ _ _ => am_goto (tgt := 557) d_Mod_one_535 (by decide)) ?_
                        exact xW_ret (fun _ _ _ _ _ => am_iret rfl d_Mod_one_557)
                    · refine xW_by (fun c13_9 => ?_) (fun c13_9 => ?_)
                      · refine xW_pure (fun _ _ _ _ _ => am_tableIn (off := 511) (tgt := 524) d_Mod_one_13 (by rw [c13_9]; decide) (by rw [c13_9]; decide) (by rw [c13_9]; rfl) (by decide)) ?_
                        refine xW_pure (fun _ _ _ _ _ => am_iload_n d_Mod_one_524 rfl rfl) ?_
                        refine xW_pure (fun _ _ _ _ _ => am_bipush (v := 8) d_Mod_one_525 (by decide)) ?_
                        refine xW_ite (fun _ _ _ _ _ => am_icmp_gt (tgt := 538) d_Mod_one_527 (by decide)) (fun _ => ?_) (fun _ => ?_)
                        · refine xW_pure (fun _ _ _ _ _ => am_iload_n d_Mod_one_538 rfl rfl) ?_
                          refine xW_pure (fun _ _ _ _ _ => am_bipush (v := 13) d_Mod_one_539 (by decide)) ?_
                          refine xW_ite (fun _ _ _ _ _ => am_icmp_gt (tgt := 552) d_Mod_one_541 (by decide)) (fun _ => ?_) (fun _ => ?_)
                          · refine xW_pure (fun _ _ _ _ _ => am_aload_n d_Mod_one_552 rfl rfl) ?_
                            refine xW_pure (fun _ _ _ _ _ => am_iload_n d_Mod_one_553 rfl rfl) ?_
                            refine xW_callV O (dx_Mod_things O T) (fun _ e => ob_Mod_things e) rfl rfl rfl l_Mod_551 ⟨w_2127, w_138⟩ rfl (Nat.le_of_ble_eq_true rfl) d_Mod_one_554 (fun v92 s91 _ => ?_)
                            exact xW_ret (fun _ _ _ _ _ => am_iret rfl d_Mod_one_557)
                          · refine xW_pure (fun _ _ _ _ _ => am_aload_n d_Mod_one_544 rfl rfl) ?_
                            refine xW_pure (fun _ _ _ _ _ => am_iload_n d_Mod_one_545 rfl rfl) ?_
                            refine xW_callV O (dx_Mod_reckon O T) (fun _ e => ob_Mod_reckon e) rfl rfl rfl l_Mod_548 ⟨w_2106, w_134⟩ rfl (Nat.le_of_ble_eq_true rfl) d_Mod_one_546 (fun v94 s93 _ => ?_)
                            refine xW_pure (fun _ _ _ _ _ => am_goto (tgt := 557) d_Mod_one_549 (by decide)) ?_
                            exact xW_ret (fun _ _ _ _ _ => am_iret rfl d_Mod_one_557)
                        · refine xW_pure (fun _ _ _ _ _ => am_aload_n d_Mod_one_530 rfl rfl) ?_
                          refine xW_pure (fun _ _ _ _ _ => am_iload_n d_Mod_one_531 rfl rfl) ?_
                          refine xW_callV O (dx_Mod_parts O T) (fun _ e => ob_Mod_parts e) rfl rfl rfl l_Mod_545 ⟨w_2090, w_131⟩ rfl (Nat.le_of_ble_eq_true rfl) d_Mod_one_532 (fun v96 s95 _ => ?_)
                          refine xW_pure (fun _ _ _ _ _ => am_goto (tgt := 557) d_Mod_one_535 (by decide)) ?_
                          exact xW_ret (fun _ _ _ _ _ => am_iret rfl d_Mod_one_557)
                      · refine xW_by (fun c13_10 => ?_) (fun c13_10 => ?_)
                        · refine xW_pure (fun _ _ _ _ _ => am_tableIn (off := 511) (tgt := 524) d_Mod_one_13 (by rw [c13_10]; decide) (by rw [c13_10]; decide) (by rw [c13_10]; rfl) (by decide)) ?_
                          refine xW_pure (fun _ _ _ _ _ => am_iload_n d_Mod_one_524 rfl rfl) ?_
                          refine xW_pure (fun _ _ _ _ _ => am_bipush (v := 8) d_Mod_one_525 (by decide)) ?_
                          refine xW_ite (fun _ _ _ _ _ => am_icmp_gt (tgt := 538) d_Mod_one_527 (by decide)) (fun _ => ?_) (fun _ => ?_)
                          · refine xW_pure (fun _ _ _ _ _ => am_iload_n d_Mod_one_538 rfl rfl) ?_
                            refine xW_pure (fun _ _ _ _ _ => am_bipush (v := 13) d_Mod_one_539 (by decide)) ?_
                            refine xW_ite (fun _ _ _ _ _ => am_icmp_gt (tgt := 552) d_Mod_one_541 (by decide)) (fun _ => ?_) (fun _ => ?_)
                            · refine xW_pure (fun _ _ _ _ _ => am_aload_n d_Mod_one_552 rfl rfl) ?_
                              refine xW_pure (fun _ _ _ _ _ => am_iload_n d_Mod_one_553 rfl rfl) ?_
                              refine xW_callV O (dx_Mod_things O T) (fun _ e => ob_Mod_things e) rfl rfl rfl l_Mod_551 ⟨w_2127, w_138⟩ rfl (Nat.le_of_ble_eq_true rfl) d_Mod_one_554 (fun v98 s97 _ => ?_)
                              exact xW_ret (fun _ _ _ _ _ => am_iret rfl d_Mod_one_557)
                            · refine xW_pure (fun _ _ _ _ _ => am_aload_n d_Mod_one_544 rfl rfl) ?_
                              refine xW_pure (fun _ _ _ _ _ => am_iload_n d_Mod_one_545 rfl rfl) ?_
                              refine xW_callV O (dx_Mod_reckon O T) (fun _ e => ob_Mod_reckon e) rfl rfl rfl l_Mod_548 ⟨w_2106, w_134⟩ rfl (Nat.le_of_ble_eq_true rfl) d_Mod_one_546 (fun v100 s99 _ => ?_)
                              refine xW_pure (fun _ _ _ _ _ => am_goto (tgt := 557) d_Mod_one_549 (by decide)) ?_
                              exact xW_ret (fun _ _ _ _ _ => am_iret rfl d_Mod_one_557)
                          · refine xW_pure (fun _ _ _ _ _ => am_aload_n d_Mod_one_530 rfl rfl) ?_
                            refine xW_pure (fun _ _ _ _ _ => am_iload_n d_Mod_one_531 rfl rfl) ?_
                            refine xW_callV O (dx_Mod_parts O T) (fun _ e => ob_Mod_parts e) rfl rfl rfl l_Mod_545 ⟨w_2090, w_131⟩ rfl (Nat.le_of_ble_eq_true rfl) d_Mod_one_532 (fun v102 s101 _ => ?_)
                            refine xW_pure (fun _ _ _ _ _ => am_goto (tgt := 557) d_Mod_one_535 (by decide)) ?_
                            exact xW_ret (fun _ _ _ _ _ => am_iret rfl d_Mod_one_557)
                        · refine xW_by (fun c13_11 => ?_) (fun c13_11 => ?_)
                          · refine xW_pure (fun _ _ _ _ _ => am_tableIn (off := 511) (tgt := 524) d_Mod_one_13 (by rw [c13_11]; decide) (by rw [c13_11]; decide) (by rw [c13_11]; rfl) (by decide)) ?_
                            refine xW_pure (fun _ _ _ _ _ => am_iload_n d_Mod_one_524 rfl rfl) ?_
                            refine xW_pure (fun _ _ _ _ _ => am_bipush (v := 8) d_Mod_one_525 (by decide)) ?_
                            refine xW_ite (fun _ _ _ _ _ => am_icmp_gt (tgt := 538) d_Mod_one_527 (by decide)) (fun _ => ?_) (fun _ => ?_)
                            · refine xW_pure (fun _ _ _ _ _ => am_iload_n d_Mod_one_538 rfl rfl) ?_
                              refine xW_pure (fun _ _ _ _ _ => am_bipush (v := 13) d_Mod_one_539 (by decide)) ?_
                              refine xW_ite (fun _ _ _ _ _ => am_icmp_gt (tgt := 552) d_Mod_one_541 (by decide)) (fun _ => ?_) (fun _ => ?_)
                              · refine xW_pure (fun _ _ _ _ _ => am_aload_n d_Mod_one_552 rfl rfl) ?_
                                refine xW_pure (fun _ _ _ _ _ => am_iload_n d_Mod_one_553 rfl rfl) ?_
                                refine xW_callV O (dx_Mod_things O T) (fun _ e => ob_Mod_things e) rfl rfl rfl l_Mod_551 ⟨w_2127, w_138⟩ rfl (Nat.le_of_ble_eq_true rfl) d_Mod_one_554 (fun v104 s103 _ => ?_)
                                exact xW_ret (fun _ _ _ _ _ => am_iret rfl d_Mod_one_557)
                              · refine xW_pure (fun _ _ _ _ _ => am_aload_n d_Mod_one_544 rfl rfl) ?_
                                refine xW_pure (fun _ _ _ _ _ => am_iload_n d_Mod_one_545 rfl rfl) ?_
                                refine xW_callV O (dx_Mod_reckon O T) (fun _ e => ob_Mod_reckon e) rfl rfl rfl l_Mod_548 ⟨w_2106, w_134⟩ rfl (Nat.le_of_ble_eq_true rfl) d_Mod_one_546 (fun v106 s105 _ => ?_)
                                refine xW_pure (fun _ _ _ _ _ => am_goto (tgt := 557) d_Mod_one_549 (by decide)) ?_
                                exact xW_ret (fun _ _ _ _ _ => am_iret rfl d_Mod_one_557)
                            · refine xW_pure (fun _ _ _ _ _ => am_aload_n d_Mod_one_530 rfl rfl) ?_
                              refine xW_pure (fun _ _ _ _ _ => am_iload_n d_Mod_one_531 rfl rfl) ?_
                              refine xW_callV O (dx_Mod_parts O T) (fun _ e => ob_Mod_parts e) rfl rfl rfl l_Mod_545 ⟨w_2090, w_131⟩ rfl (Nat.le_of_ble_eq_true rfl) d_Mod_one_532 (fun v108 s107 _ => ?_)
                              refine xW_pure (fun _ _ _ _ _ => am_goto (tgt := 557) d_Mod_one_535 (by decide)) ?_
                              exact xW_ret (fun _ _ _ _ _ => am_iret rfl d_Mod_one_557)
                          · refine xW_by (fun c13_12 => ?_) (fun c13_12 => ?_)
                            · refine xW_pure (fun _ _ _ _ _ => am_tableIn (off := 511) (tgt := 524) d_Mod_one_13 (by rw [c13_12]; decide) (by rw [c13_12]; decide) (by rw [c13_12]; rfl) (by decide)) ?_
                              refine xW_pure (fun _ _ _ _ _ => am_iload_n d_Mod_one_524 rfl rfl) ?_
                              refine xW_pure (fun _ _ _ _ _ => am_bipush (v := 8) d_Mod_one_525 (by decide)) ?_
                              refine xW_ite (fun _ _ _ _ _ => am_icmp_gt (tgt := 538) d_Mod_one_527 (by decide)) (fun _ => ?_) (fun _ => ?_)
                              · refine xW_pure (fun _ _ _ _ _ => am_iload_n d_Mod_one_538 rfl rfl) ?_
                                refine xW_pure (fun _ _ _ _ _ => am_bipush (v := 13) d_Mod_one_539 (by decide)) ?_
                                refine xW_ite (fun _ _ _ _ _ => am_icmp_gt (tgt := 552) d_Mod_one_541 (by decide)) (fun _ => ?_) (fun _ => ?_)
                                · refine xW_pure (fun _ _ _ _ _ => am_aload_n d_Mod_one_552 rfl rfl) ?_
                                  refine xW_pure (fun _ _ _ _ _ => am_iload_n d_Mod_one_553 rfl rfl) ?_
                                  refine xW_callV O (dx_Mod_things O T) (fun _ e => ob_Mod_things e) rfl rfl rfl l_Mod_551 ⟨w_2127, w_138⟩ rfl (Nat.le_of_ble_eq_true rfl) d_Mod_one_554 (fun v110 s109 _ => ?_)
                                  exact xW_ret (fun _ _ _ _ _ => am_iret rfl d_Mod_one_557)
                                · refine xW_pure (fun _ _ _ _ _ => am_aload_n d_Mod_one_544 rfl rfl) ?_
                                  refine xW_pure (fun _ _ _ _ _ => am_iload_n d_Mod_one_545 rfl rfl) ?_
                                  refine xW_callV O (dx_Mod_reckon O T) (fun _ e => ob_Mod_reckon e) rfl rfl rfl l_Mod_548 ⟨w_2106, w_134⟩ rfl (Nat.le_of_ble_eq_true rfl) d_Mod_one_546 (fun v112 s111 _ => ?_)
                                  refine xW_pure (fun _ _ _ _ _ => am_goto (tgt := 557) d_Mod_one_549 (by decide)) ?_
                                  exact xW_ret (fun _ _ _ _ _ => am_iret rfl d_Mod_one_557)
                              · refine xW_pure (fun _ _ _ _ _ => am_aload_n d_Mod_one_530 rfl rfl) ?_
                                refine xW_pure (fun _ _ _ _ _ => am_iload_n d_Mod_one_531 rfl rfl) ?_
                                refine xW_callV O (dx_Mod_parts O T) (fun _ e => ob_Mod_parts e) rfl rfl rfl l_Mod_545 ⟨w_2090, w_131⟩ rfl (Nat.le_of_ble_eq_true rfl) d_Mod_one_532 (fun v114 s113 _ => ?_)
                                refine xW_pure (fun _ _ _ _ _ => am_goto (tgt := 557) d_Mod_one_535 (by decide)) ?_
                                exact xW_ret (fun _ _ _ _ _ => am_iret rfl d_Mod_one_557)
                            · refine xW_by (fun c13_13 => ?_) (fun c13_13 => ?_)
                              · refine xW_pure (fun _ _ _ _ _ => am_tableIn (off := 511) (tgt := 524) d_Mod_one_13 (by rw [c13_13]; decide) (by rw [c13_13]; decide) (by rw [c13_13]; rfl) (by decide)) ?_
                                refine xW_pure (fun _ _ _ _ _ => am_iload_n d_Mod_one_524 rfl rfl) ?_
                                refine xW_pure (fun _ _ _ _ _ => am_bipush (v := 8) d_Mod_one_525 (by decide)) ?_
                                refine xW_ite (fun _ _ _ _ _ => am_icmp_gt (tgt := 538) d_Mod_one_527 (by decide)) (fun _ => ?_) (fun _ => ?_)
                                · refine xW_pure (fun _ _ _ _ _ => am_iload_n d_Mod_one_538 rfl rfl) ?_
                                  refine xW_pure (fun _ _ _ _ _ => am_bipush (v := 13) d_Mod_one_539 (by decide)) ?_
                                  refine xW_ite (fun _ _ _ _ _ => am_icmp_gt (tgt := 552) d_Mod_one_541 (by decide)) (fun _ => ?_) (fun _ => ?_)
                                  · refine xW_pure (fun _ _ _ _ _ => am_aload_n d_Mod_one_552 rfl rfl) ?_
                                    refine xW_pure (fun _ _ _ _ _ => am_iload_n d_Mod_one_553 rfl rfl) ?_
                                    refine xW_callV O (dx_Mod_things O T) (fun _ e => ob_Mod_things e) rfl rfl rfl l_Mod_551 ⟨w_2127, w_138⟩ rfl (Nat.le_of_ble_eq_true rfl) d_Mod_one_554 (fun v116 s115 _ => ?_)
                                    exact xW_ret (fun _ _ _ _ _ => am_iret rfl d_Mod_one_557)
                                  · refine xW_pure (fun _ _ _ _ _ => am_aload_n d_Mod_one_544 rfl rfl) ?_
                                    refine xW_pure (fun _ _ _ _ _ => am_iload_n d_Mod_one_545 rfl rfl) ?_
                                    refine xW_callV O (dx_Mod_reckon O T) (fun _ e => ob_Mod_reckon e) rfl rfl rfl l_Mod_548 ⟨w_2106, w_134⟩ rfl (Nat.le_of_ble_eq_true rfl) d_Mod_one_546 (fun v118 s117 _ => ?_)
                                    refine xW_pure (fun _ _ _ _ _ => am_goto (tgt := 557) d_Mod_one_549 (by decide)) ?_
                                    exact xW_ret (fun _ _ _ _ _ => am_iret rfl d_Mod_one_557)
                                · refine xW_pure (fun _ _ _ _ _ => am_aload_n d_Mod_one_530 rfl rfl) ?_
                                  refine xW_pure (fun _ _ _ _ _ => am_iload_n d_Mod_one_531 rfl rfl) ?_
                                  refine xW_callV O (dx_Mod_parts O T) (fun _ e => ob_Mod_parts e) rfl rfl rfl l_Mod_545 ⟨w_2090, w_131⟩ rfl (Nat.le_of_ble_eq_true rfl) d_Mod_one_532 (fun v120 s119 _ => ?_)
                                  refine xW_pure (fun _ _ _ _ _ => am_goto (tgt := 557) d_Mod_one_535 (by decide)) ?_
                                  exact xW_ret (fun _ _ _ _ _ => am_iret rfl d_Mod_one_557)
                              · refine xW_by (fun c13_14 => ?_) (fun c13_14 => ?_)
                                · refine xW_pure (fun _ _ _ _ _ => am_tableIn (off := 337) (tgt := 350) d_Mod_one_13 (by rw [c13_14]; decide) (by rw [c13_14]; decide) (by rw [c13_14]; rfl) (by decide)) ?_
                                  refine xW_pure (fun _ _ _ _ _ => am_aload_n d_Mod_one_350 rfl rfl) ?_
                                  refine xW_pure (fun _ _ _ _ _ => am_aload_n d_Mod_one_351 rfl rfl) ?_
                                  refine xW_gR O f_Mod_380 d_Mod_one_352 (fun v121 _ => ?_)
                                  refine xW_pure (fun _ _ _ _ _ => am_iload_n d_Mod_one_355 rfl rfl) ?_
                                  refine xW_aR O (by decide) d_Mod_one_356 (fun v122 _ => ?_)
                                  refine xW_gR O f_Mod_95 d_Mod_one_357 (fun v123 _ => ?_)
                                  refine xW_pure (fun _ _ _ _ _ => am_aload_n d_Mod_one_360 rfl rfl) ?_
                                  refine xW_gI O f_Mod_502 d_Mod_one_361 (fun v124 _ => ?_)
                                  refine xW_aI O d_Mod_one_364 (fun v125 _ => ?_)
                                  refine xW_callV O (dx_Mod_go_I O T) (fun _ e => ob_Mod_go_I e) rfl rfl rfl l_Mod_525 ⟨w_2052, w_123⟩ rfl (Nat.le_of_ble_eq_true rfl) d_Mod_one_365 (fun v127 s126 _ => ?_)
                                  refine xW_pure (fun _ _ _ _ _ => am_iconst (v := (-1)) d_Mod_one_368 (by decide)) ?_
                                  exact xW_ret (fun _ _ _ _ _ => am_iret rfl d_Mod_one_369)
                                · refine xW_by (fun c13_15 => ?_) (fun c13_15 => ?_)
                                  · refine xW_pure (fun _ _ _ _ _ => am_tableIn (off := 357) (tgt := 370) d_Mod_one_13 (by rw [c13_15]; decide) (by rw [c13_15]; decide) (by rw [c13_15]; rfl) (by decide)) ?_
                                    refine xW_pure (fun _ _ _ _ _ => am_aload_n d_Mod_one_370 rfl rfl) ?_
                                    refine xW_callV O (dx_Mod_next O T) (fun _ e => ob_Mod_next e) rfl rfl rfl l_Mod_516 ⟨w_2036, w_120⟩ rfl (Nat.le_of_ble_eq_true rfl) d_Mod_one_371 (fun v129 s128 _ => ?_)
                                    refine xW_pure (fun _ _ _ _ _ => am_istore_n d_Mod_one_374 rfl (Nat.le_of_ble_eq_true rfl)) ?_
                                    refine xW_pure (fun _ _ _ _ _ => am_aload_n d_Mod_one_375 rfl rfl) ?_
                                    refine xW_pure (fun _ _ _ _ _ => am_dup d_Mod_one_376 rfl) ?_
                                    refine xW_gI O f_Mod_486 d_Mod_one_377 (fun v130 _ => ?_)
                                    refine xW_pure (fun _ _ _ _ _ => am_iconst (v := 1) d_Mod_one_380 (by decide)) ?_
                                    refine xW_pure (fun _ _ _ _ _ => am_isub d_Mod_one_381) ?_
                                    refine xW_put O f_Mod_486 d_Mod_one_382 (fun q hq => by cases hq; exact ⟨rfl, rfl, rfl⟩) (fun s131 _ => ?_)
                                    refine xW_pure (fun _ _ _ _ _ => am_aload_n d_Mod_one_385 rfl rfl) ?_
                                    refine xW_pure (fun _ _ _ _ _ => am_aload_n d_Mod_one_386 rfl rfl) ?_
                                    refine xW_gI O f_Mod_486 d_Mod_one_387 (fun v132 _ => ?_)
                                    refine xW_callV O (dx_Mod_isTrue O T) (fun _ e => ob_Mod_isTrue e) rfl rfl rfl l_Mod_527 ⟨w_2056, w_124⟩ rfl (Nat.le_of_ble_eq_true rfl) d_Mod_one_390 (fun v134 s133 _ => ?_)
                                    refine xW_ite (fun _ _ _ _ _ k1 k2 => am_if_ne (tgt := 401) d_Mod_one_393 (by decide) k2 k1) (fun _ => ?_) (fun _ => ?_)
                                    · refine xW_pure (fun _ _ _ _ _ => am_aload_n d_Mod_one_396 rfl rfl) ?_
                                      refine xW_pure (fun _ _ _ _ _ => am_iload_n d_Mod_one_397 rfl rfl) ?_
                                      refine xW_callV O (dx_Mod_go_I O T) (fun _ e => ob_Mod_go_I e) rfl rfl rfl l_Mod_525 ⟨w_2052, w_123⟩ rfl (Nat.le_of_ble_eq_true rfl) d_Mod_one_398 (fun v136 s135 _ => ?_)
                                      refine xW_pure (fun _ _ _ _ _ => am_iconst (v := (-1)) d_Mod_one_401 (by decide)) ?_
                                      exact xW_ret (fun _ _ _ _ _ => am_iret rfl d_Mod_one_402)
                                    · refine xW_pure (fun _ _ _ _ _ => am_iconst (v := (-1)) d_Mod_one_401 (by decide)) ?_
                                      exact xW_ret (fun _ _ _ _ _ => am_iret rfl d_Mod_one_402)
                                  · refine xW_by (fun c13_16 => ?_) (fun c13_16 => ?_)
                                    · refine xW_pure (fun _ _ _ _ _ => am_tableIn (off := 390) (tgt := 403) d_Mod_one_13 (by rw [c13_16]; decide) (by rw [c13_16]; decide) (by rw [c13_16]; rfl) (by decide)) ?_
                                      refine xW_pure (fun _ _ _ _ _ => am_aload_n d_Mod_one_403 rfl rfl) ?_
                                      refine xW_callV O (dx_Mod_next O T) (fun _ e => ob_Mod_next e) rfl rfl rfl l_Mod_516 ⟨w_2036, w_120⟩ rfl (Nat.le_of_ble_eq_true rfl) d_Mod_one_404 (fun v138 s137 _ => ?_)
                                      refine xW_pure (fun _ _ _ _ _ => am_iconst (v := 1) d_Mod_one_407 (by decide)) ?_
                                      refine xW_ite (fun _ _ _ _ _ k1 k2 => am_icmp_ne (tgt := 415) d_Mod_one_408 (by decide) k2 k1) (fun _ => ?_) (fun _ => ?_)
                                      · refine xW_pure (fun _ _ _ _ _ => am_iconst (v := 1) d_Mod_one_411 (by decide)) ?_
                                        refine xW_pure (fun _ _ _ _ _ => am_goto (tgt := 416) d_Mod_one_412 (by decide)) ?_
                                        refine xW_locs (lv' := [(0, .ref x0)]) rfl ?_
                                        exact dx_Mod_one_b416 O T
                                      · refine xW_pure (fun _ _ _ _ _ => am_iconst (v := 0) d_Mod_one_415 (by decide)) ?_
                                        refine xW_locs (lv' := [(0, .ref x0)]) rfl ?_
                                        exact dx_Mod_one_b416 O T
                                    · refine xW_by (fun c13_17 => ?_) (fun c13_17 => ?_)
                                      · refine xW_pure (fun _ _ _ _ _ => am_tableIn (off := 511) (tgt := 524) d_Mod_one_13 (by rw [c13_17]; decide) (by rw [c13_17]; decide) (by rw [c13_17]; rfl) (by decide)) ?_
                                        refine xW_pure (fun _ _ _ _ _ => am_iload_n d_Mod_one_524 rfl rfl) ?_
                                        refine xW_pure (fun _ _ _ _ _ => am_bipush (v := 8) d_Mod_one_525 (by decide)) ?_
                                        refine xW_ite (fun _ _ _ _ _ => am_icmp_gt (tgt := 538) d_Mod_one_527 (by decide)) (fun _ => ?_) (fun _ => ?_)
                                        · refine xW_pure (fun _ _ _ _ _ => am_iload_n d_Mod_one_538 rfl rfl) ?_
                                          refine xW_pure (fun _ _ _ _ _ => am_bipush (v := 13) d_Mod_one_539 (by decide)) ?_
                                          refine xW_ite (fun _ _ _ _ _ => am_icmp_gt (tgt := 552) d_Mod_one_541 (by decide)) (fun _ => ?_) (fun _ => ?_)
                                          · refine xW_pure (fun _ _ _ _ _ => am_aload_n d_Mod_one_552 rfl rfl) ?_
                                            refine xW_pure (fun _ _ _ _ _ => am_iload_n d_Mod_one_553 rfl rfl) ?_
                                            refine xW_callV O (dx_Mod_things O T) (fun _ e => ob_Mod_things e) rfl rfl rfl l_Mod_551 ⟨w_2127, w_138⟩ rfl (Nat.le_of_ble_eq_true rfl) d_Mod_one_554 (fun v149 s148 _ => ?_)
                                            exact xW_ret (fun _ _ _ _ _ => am_iret rfl d_Mod_one_557)
                                          · refine xW_pure (fun _ _ _ _ _ => am_aload_n d_Mod_one_544 rfl rfl) ?_
                                            refine xW_pure (fun _ _ _ _ _ => am_iload_n d_Mod_one_545 rfl rfl) ?_
                                            refine xW_callV O (dx_Mod_reckon O T) (fun _ e => ob_Mod_reckon e) rfl rfl rfl l_Mod_548 ⟨w_2106, w_134⟩ rfl (Nat.le_of_ble_eq_true rfl) d_Mod_one_546 (fun v151 s150 _ => ?_)
                                            refine xW_pure (fun _ _ _ _ _ => am_goto (tgt := 557) d_Mod_one_549 (by decide)) ?_
                                            exact xW_ret (fun _ _ _ _ _ => am_iret rfl d_Mod_one_557)
                                        · refine xW_pure (fun _ _ _ _ _ => am_aload_n d_Mod_one_530 rfl rfl) ?_
                                          refine xW_pure (fun _ _ _ _ _ => am_iload_n d_Mod_one_531 rfl rfl) ?_
                                          refine xW_callV O (dx_Mod_parts O T) (fun _ e => ob_Mod_parts e) rfl rfl rfl l_Mod_545 ⟨w_2090, w_131⟩ rfl (Nat.le_of_ble_eq_true rfl) d_Mod_one_532 (fun v153 s152 _ => ?_)
                                          refine xW_pure (fun _ _ _ _ _ => am_goto (tgt := 557) d_Mod_one_535 (by decide)) ?_
                                          exact xW_ret (fun _ _ _ _ _ => am_iret rfl d_Mod_one_557)
                                      · refine xW_by (fun c13_18 => ?_) (fun c13_18 => ?_)
                                        · refine xW_pure (fun _ _ _ _ _ => am_tableIn (off := 511) (tgt := 524) d_Mod_one_13 (by rw [c13_18]; decide) (by rw [c13_18]; decide) (by rw [c13_18]; rfl) (by decide)) ?_
                                          refine xW_pure (fun _ _ _ _ _ => am_iload_n d_Mod_one_524 rfl rfl) ?_
                                          refine xW_pure (fun _ _ _ _ _ => am_bipush (v := 8) d_Mod_one_525 (by decide)) ?_
                                          refine xW_ite (fun _ _ _ _ _ => am_icmp_gt (tgt := 538) d_Mod_one_527 (by decide)) (fun _ => ?_) (fun _ => ?_)
                                          · refine xW_pure (fun _ _ _ _ _ => am_iload_n d_Mod_one_538 rfl rfl) ?_
                                            refine xW_pure (fun _ _ _ _ _ => am_bipush (v := 13) d_Mod_one_539 (by decide)) ?_
                                            refine xW_ite (fun _ _ _ _ _ => am_icmp_gt (tgt := 552) d_Mod_one_541 (by decide)) (fun _ => ?_) (fun _ => ?_)
                                            · refine xW_pure (fun _ _ _ _ _ => am_aload_n d_Mod_one_552 rfl rfl) ?_
                                              refine xW_pure (fun _ _ _ _ _ => am_iload_n d_Mod_one_553 rfl rfl) ?_
                                              refine xW_callV O (dx_Mod_things O T) (fun _ e => ob_Mod_things e) rfl rfl rfl l_Mod_551 ⟨w_2127, w_138⟩ rfl (Nat.le_of_ble_eq_true rfl) d_Mod_one_554 (fun v155 s154 _ => ?_)
                                              exact xW_ret (fun _ _ _ _ _ => am_iret rfl d_Mod_one_557)
                                            · refine xW_pure (fun _ _ _ _ _ => am_aload_n d_Mod_one_544 rfl rfl) ?_
                                              refine xW_pure (fun _ _ _ _ _ => am_iload_n d_Mod_one_545 rfl rfl) ?_
                                              refine xW_callV O (dx_Mod_reckon O T) (fun _ e => ob_Mod_reckon e) rfl rfl rfl l_Mod_548 ⟨w_2106, w_134⟩ rfl (Nat.le_of_ble_eq_true rfl) d_Mod_one_546 (fun v157 s156 _ => ?_)
                                              refine xW_pure (fun _ _ _ _ _ => am_goto (tgt := 557) d_Mod_one_549 (by decide)) ?_
                                              exact xW_ret (fun _ _ _ _ _ => am_iret rfl d_Mod_one_557)
                                          · refine xW_pure (fun _ _ _ _ _ => am_aload_n d_Mod_one_530 rfl rfl) ?_
                                            refine xW_pure (fun _ _ _ _ _ => am_iload_n d_Mod_one_531 rfl rfl) ?_
                                            refine xW_callV O (dx_Mod_parts O T) (fun _ e => ob_Mod_parts e) rfl rfl rfl l_Mod_545 ⟨w_2090, w_131⟩ rfl (Nat.le_of_ble_eq_true rfl) d_Mod_one_532 (fun v159 s158 _ => ?_)
                                            refine xW_pure (fun _ _ _ _ _ => am_goto (tgt := 557) d_Mod_one_535 (by decide)) ?_
                                            exact xW_ret (fun _ _ _ _ _ => am_iret rfl d_Mod_one_557)
                                        · refine xW_by (fun c13_19 => ?_) (fun c13_19 => ?_)
                                          · refine xW_pure (fun _ _ _ _ _ => am_tableIn (off := 511) (tgt := 524) d_Mod_one_13 (by rw [c13_19]; decide) (by rw [c13_19]; decide) (by rw [c13_19]; rfl) (by decide)) ?_
                                            refine xW_pure (fun _ _ _ _ _ => am_iload_n d_Mod_one_524 rfl rfl) ?_
                                            refine xW_pure (fun _ _ _ _ _ => am_bipush (v := 8) d_Mod_one_525 (by decide)) ?_
                                            refine xW_ite (fun _ _ _ _ _ => am_icmp_gt (tgt := 538) d_Mod_one_527 (by decide)) (fun _ => ?_) (fun _ => ?_)
                                            · refine xW_pure (fun _ _ _ _ _ => am_iload_n d_Mod_one_538 rfl rfl) ?_
                                              refine xW_pure (fun _ _ _ _ _ => am_bipush (v := 13) d_Mod_one_539 (by decide)) ?_
                                              refine xW_ite (fun _ _ _ _ _ => am_icmp_gt (tgt := 552) d_Mod_one_541 (by decide)) (fun _ => ?_) (fun _ => ?_)
                                              · refine xW_pure (fun _ _ _ _ _ => am_aload_n d_Mod_one_552 rfl rfl) ?_
                                                refine xW_pure (fun _ _ _ _ _ => am_iload_n d_Mod_one_553 rfl rfl) ?_
                                                refine xW_callV O (dx_Mod_things O T) (fun _ e => ob_Mod_things e) rfl rfl rfl l_Mod_551 ⟨w_2127, w_138⟩ rfl (Nat.le_of_ble_eq_true rfl) d_Mod_one_554 (fun v161 s160 _ => ?_)
                                                exact xW_ret (fun _ _ _ _ _ => am_iret rfl d_Mod_one_557)
                                              · refine xW_pure (fun _ _ _ _ _ => am_aload_n d_Mod_one_544 rfl rfl) ?_
                                                refine xW_pure (fun _ _ _ _ _ => am_iload_n d_Mod_one_545 rfl rfl) ?_
                                                refine xW_callV O (dx_Mod_reckon O T) (fun _ e => ob_Mod_reckon e) rfl rfl rfl l_Mod_548 ⟨w_2106, w_134⟩ rfl (Nat.le_of_ble_eq_true rfl) d_Mod_one_546 (fun v163 s162 _ => ?_)
                                                refine xW_pure (fun _ _ _ _ _ => am_goto (tgt := 557) d_Mod_one_549 (by decide)) ?_
                                                exact xW_ret (fun _ _ _ _ _ => am_iret rfl d_Mod_one_557)
                                            · refine xW_pure (fun _ _ _ _ _ => am_aload_n d_Mod_one_530 rfl rfl) ?_
                                              refine xW_pure (fun _ _ _ _ _ => am_iload_n d_Mod_one_531 rfl rfl) ?_
                                              refine xW_callV O (dx_Mod_parts O T) (fun _ e => ob_Mod_parts e) rfl rfl rfl l_Mod_545 ⟨w_2090, w_131⟩ rfl (Nat.le_of_ble_eq_true rfl) d_Mod_one_532 (fun v165 s164 _ => ?_)
                                              refine xW_pure (fun _ _ _ _ _ => am_goto (tgt := 557) d_Mod_one_535 (by decide)) ?_
                                              exact xW_ret (fun _ _ _ _ _ => am_iret rfl d_Mod_one_557)
                                          · refine xW_by (fun c13_20 => ?_) (fun c13_20 => ?_)
                                            · refine xW_pure (fun _ _ _ _ _ => am_tableIn (off := 511) (tgt := 524) d_Mod_one_13 (by rw [c13_20]; decide) (by rw [c13_20]; decide) (by rw [c13_20]; rfl) (by decide)) ?_
                                              refine xW_pure (fun _ _ _ _ _ => am_iload_n d_Mod_one_524 rfl rfl) ?_
                                              refine xW_pure (fun _ _ _ _ _ => am_bipush (v := 8) d_Mod_one_525 (by decide)) ?_
                                              refine xW_ite (fun _ _ _ _ _ => am_icmp_gt (tgt := 538) d_Mod_one_527 (by decide)) (fun _ => ?_) (fun _ => ?_)
                                              · refine xW_pure (fun _ _ _ _ _ => am_iload_n d_Mod_one_538 rfl rfl) ?_
                                                refine xW_pure (fun _ _ _ _ _ => am_bipush (v := 13) d_Mod_one_539 (by decide)) ?_
                                                refine xW_ite (fun _ _ _ _ _ => am_icmp_gt (tgt := 552) d_Mod_one_541 (by decide)) (fun _ => ?_) (fun _ => ?_)
                                                · refine xW_pure (fun _ _ _ _ _ => am_aload_n d_Mod_one_552 rfl rfl) ?_
                                                  refine xW_pure (fun _ _ _ _ _ => am_iload_n d_Mod_one_553 rfl rfl) ?_
                                                  refine xW_callV O (dx_Mod_things O T) (fun _ e => ob_Mod_things e) rfl rfl rfl l_Mod_551 ⟨w_2127, w_138⟩ rfl (Nat.le_of_ble_eq_true rfl) d_Mod_one_554 (fun v167 s166 _ => ?_)
                                                  exact xW_ret (fun _ _ _ _ _ => am_iret rfl d_Mod_one_557)
                                                · refine xW_pure (fun _ _ _ _ _ => am_aload_n d_Mod_one_544 rfl rfl) ?_
                                                  refine xW_pure (fun _ _ _ _ _ => am_iload_n d_Mod_one_545 rfl rfl) ?_
                                                  refine xW_callV O (dx_Mod_reckon O T) (fun _ e => ob_Mod_reckon e) rfl rfl rfl l_Mod_548 ⟨w_2106, w_134⟩ rfl (Nat.le_of_ble_eq_true rfl) d_Mod_one_546 (fun v169 s168 _ => ?_)
                                                  refine xW_pure (fun _ _ _ _ _ => am_goto (tgt := 557) d_Mod_one_549 (by decide)) ?_
                                                  exact xW_ret (fun _ _ _ _ _ => am_iret rfl d_Mod_one_557)
                                              · refine xW_pure (fun _ _ _ _ _ => am_aload_n d_Mod_one_530 rfl rfl) ?_
                                                refine xW_pure (fun _ _ _ _ _ => am_iload_n d_Mod_one_531 rfl rfl) ?_
                                                refine xW_callV O (dx_Mod_parts O T) (fun _ e => ob_Mod_parts e) rfl rfl rfl l_Mod_545 ⟨w_2090, w_131⟩ rfl (Nat.le_of_ble_eq_true rfl) d_Mod_one_532 (fun v171 s170 _ => ?_)
                                                refine xW_pure (fun _ _ _ _ _ => am_goto (tgt := 557) d_Mod_one_535 (by decide)) ?_
                                                exact xW_ret (fun _ _ _ _ _ => am_iret rfl d_Mod_one_557)
                                            · refine xW_by (fun c13_21 => ?_) (fun c13_21 => ?_)
                                              · refine xW_pure (fun _ _ _ _ _ => am_tableIn (off := 511) (tgt := 524) d_Mod_one_13 (by rw [c13_21]; decide) (by rw [c13_21]; decide) (by rw [c13_21]; rfl) (by decide)) ?_
                                                refine xW_pure (fun _ _ _ _ _ => am_iload_n d_Mod_one_524 rfl rfl) ?_
                                                refine xW_pure (fun _ _ _ _ _ => am_bipush (v := 8) d_Mod_one_525 (by decide)) ?_
                                                refine xW_ite (fun _ _ _ _ _ => am_icmp_gt (tgt := 538) d_Mod_one_527 (by decide)) (fun _ => ?_) (fun _ => ?_)
                                                · refine xW_pure (fun _ _ _ _ _ => am_iload_n d_Mod_one_538 rfl rfl) ?_
                                                  refine xW_pure (fun _ _ _ _ _ => am_bipush (v := 13) d_Mod_one_539 (by decide)) ?_
                                                  refine xW_ite (fun _ _ _ _ _ => am_icmp_gt (tgt := 552) d_Mod_one_541 (by decide)) (fun _ => ?_) (fun _ => ?_)
                                                  · refine xW_pure (fun _ _ _ _ _ => am_aload_n d_Mod_one_552 rfl rfl) ?_
                                                    refine xW_pure (fun _ _ _ _ _ => am_iload_n d_Mod_one_553 rfl rfl) ?_
                                                    refine xW_callV O (dx_Mod_things O T) (fun _ e => ob_Mod_things e) rfl rfl rfl l_Mod_551 ⟨w_2127, w_138⟩ rfl (Nat.le_of_ble_eq_true rfl) d_Mod_one_554 (fun v173 s172 _ => ?_)
                                                    exact xW_ret (fun _ _ _ _ _ => am_iret rfl d_Mod_one_557)
                                                  · refine xW_pure (fun _ _ _ _ _ => am_aload_n d_Mod_one_544 rfl rfl) ?_
                                                    refine xW_pure (fun _ _ _ _ _ => am_iload_n d_Mod_one_545 rfl rfl) ?_
                                                    refine xW_callV O (dx_Mod_reckon O T) (fun _ e => ob_Mod_reckon e) rfl rfl rfl l_Mod_548 ⟨w_2106, w_134⟩ rfl (Nat.le_of_ble_eq_true rfl) d_Mod_one_546 (fun v175 s174 _ => ?_)
                                                    refine xW_pure (fun _ _ _ _ _ => am_goto (tgt := 557) d_Mod_one_549 (by decide)) ?_
                                                    exact xW_ret (fun _ _ _ _ _ => am_iret rfl d_Mod_one_557)
                                                · refine xW_pure (fun _ _ _ _ _ => am_aload_n d_Mod_one_530 rfl rfl) ?_
                                                  refine xW_pure (fun _ _ _ _ _ => am_iload_n d_Mod_one_531 rfl rfl) ?_
                                                  refine xW_callV O (dx_Mod_parts O T) (fun _ e => ob_Mod_parts e) rfl rfl rfl l_Mod_545 ⟨w_2090, w_131⟩ rfl (Nat.le_of_ble_eq_true rfl) d_Mod_one_532 (fun v177 s176 _ => ?_)
                                                  refine xW_pure (fun _ _ _ _ _ => am_goto (tgt := 557) d_Mod_one_535 (by decide)) ?_
                                                  exact xW_ret (fun _ _ _ _ _ => am_iret rfl d_Mod_one_557)
                                              · refine xW_by (fun c13_22 => ?_) (fun c13_22 => ?_)
                                                · refine xW_pure (fun _ _ _ _ _ => am_tableIn (off := 478) (tgt := 491) d_Mod_one_13 (by rw [c13_22]; decide) (by rw [c13_22]; decide) (by rw [c13_22]; rfl) (by decide)) ?_
                                                  refine xW_pure (fun _ _ _ _ _ => am_aload_n d_Mod_one_491 rfl rfl) ?_
                                                  refine xW_pure (fun _ _ _ _ _ => am_aload_n d_Mod_one_492 rfl rfl) ?_
                                                  refine xW_pure (fun _ _ _ _ _ => am_aload_n d_Mod_one_493 rfl rfl) ?_
                                                  refine xW_callV O (dx_Mod_next O T) (fun _ e => ob_Mod_next e) rfl rfl rfl l_Mod_516 ⟨w_2036, w_120⟩ rfl (Nat.le_of_ble_eq_true rfl) d_Mod_one_494 (fun v179 s178 _ => ?_)
                                                  refine xW_callV O (dx_Mod_text O T) (fun _ e => ob_Mod_text e) rfl rfl rfl l_Mod_518 ⟨w_2040, w_121⟩ rfl (Nat.le_of_ble_eq_true rfl) d_Mod_one_497 (fun v181 s180 _ => ?_)
                                                  refine xW_pure (fun _ _ _ _ _ => am_aload_n d_Mod_one_500 rfl rfl) ?_
                                                  refine xW_callV O (dx_Mod_next O T) (fun _ e => ob_Mod_next e) rfl rfl rfl l_Mod_516 ⟨w_2036, w_120⟩ rfl (Nat.le_of_ble_eq_true rfl) d_Mod_one_501 (fun v183 s182 _ => ?_)
                                                  refine xW_callV O (dx_Mod_call O T) (fun _ e => ob_Mod_call e) rfl rfl rfl l_Mod_535 ⟨w_2078, w_128⟩ rfl (Nat.le_of_ble_eq_true rfl) d_Mod_one_504 (fun v185 s184 _ => ?_)
                                                  exact xW_ret (fun _ _ _ _ _ => am_iret rfl d_Mod_one_507)
                                                · refine xW_by (fun c13_23 => ?_) (fun c13_23 => ?_)
                                                  · refine xW_pure (fun _ _ _ _ _ => am_tableIn (off := 445) (tgt := 458) d_Mod_one_13 (by rw [c13_23]; decide) (by rw [c13_23]; decide) (by rw [c13_23]; rfl) (by decide)) ?_
                                                    refine xW_pure (fun _ _ _ _ _ => am_aload_n d_Mod_one_458 rfl rfl) ?_
                                                    refine xW_callV O (dx_Mod_spend O T) (fun _ e => ob_Mod_spend e) rfl rfl rfl l_Mod_530 ⟨w_2060, w_125⟩ rfl (Nat.le_of_ble_eq_true rfl) d_Mod_one_459 (fun v187 s186 _ => ?_)
                                                    refine xW_ite (fun _ _ _ _ _ => am_if_eq (tgt := 469) d_Mod_one_462 (by decide)) (fun _ => ?_) (fun _ => ?_)
                                                    · refine xW_pure (fun _ _ _ _ _ => am_iconst (v := 1) d_Mod_one_469 (by decide)) ?_
                                                      exact xW_ret (fun _ _ _ _ _ => am_iret rfl d_Mod_one_470)
                                                    · refine xW_pure (fun _ _ _ _ _ => am_iconst (v := (-1)) d_Mod_one_465 (by decide)) ?_
                                                      refine xW_pure (fun _ _ _ _ _ => am_goto (tgt := 470) d_Mod_one_466 (by decide)) ?_
                                                      exact xW_ret (fun _ _ _ _ _ => am_iret rfl d_Mod_one_470)
                                                  · refine xW_by (fun c13_24 => ?_) (fun c13_24 => ?_)
                                                    · refine xW_pure (fun _ _ _ _ _ => am_tableIn (off := 473) (tgt := 486) d_Mod_one_13 (by rw [c13_24]; decide) (by rw [c13_24]; decide) (by rw [c13_24]; rfl) (by decide)) ?_
                                                      refine xW_pure (fun _ _ _ _ _ => am_aload_n d_Mod_one_486 rfl rfl) ?_
                                                      refine xW_callV O (dx_Mod_print O T) (fun _ e => ob_Mod_print e) rfl rfl rfl l_Mod_533 ⟨w_2064, w_126⟩ rfl (Nat.le_of_ble_eq_true rfl) d_Mod_one_487 (fun v189 s188 _ => ?_)
                                                      exact xW_ret (fun _ _ _ _ _ => am_iret rfl d_Mod_one_490)
                                                    · refine xW_by (fun c13_25 => ?_) (fun c13_25 => ?_)
                                                      · refine xW_pure (fun _ _ _ _ _ => am_tableIn (off := 458) (tgt := 471) d_Mod_one_13 (by rw [c13_25]; decide) (by rw [c13_25]; decide) (by rw [c13_25]; rfl) (by decide)) ?_
                                                        refine xW_pure (fun _ _ _ _ _ => am_bipush (v := 10) d_Mod_one_471 (by decide)) ?_
                                                        exact xW_ret (fun _ _ _ _ _ => am_iret rfl d_Mod_one_473)
                                                      · refine xW_by (fun c13_26 => ?_) (fun c13_26 => ?_)
                                                        · refine xW_pure (fun _ _ _ _ _ => am_tableIn (off := 495) (tgt := 508) d_Mod_one_13 (by rw [c13_26]; decide) (by rw [c13_26]; decide) (by rw [c13_26]; rfl) (by decide)) ?_
                                                          refine xW_pure (fun _ _ _ _ _ => am_aload_n d_Mod_one_508 rfl rfl) ?_
                                                          refine xW_callV O (dx_Mod_leave O T) (fun _ e => ob_Mod_leave e) rfl rfl rfl l_Mod_539 ⟨w_2082, w_129⟩ rfl (Nat.le_of_ble_eq_true rfl) d_Mod_one_509 (fun v191 s190 _ => ?_)
                                                          exact xW_ret (fun _ _ _ _ _ => am_iret rfl d_Mod_one_512)
                                                        · refine xW_by (fun c13_27 => ?_) (fun c13_27 => ?_)
                                                          · refine xW_pure (fun _ _ _ _ _ => am_tableIn (off := 461) (tgt := 474) d_Mod_one_13 (by rw [c13_27]; decide) (by rw [c13_27]; decide) (by rw [c13_27]; rfl) (by decide)) ?_
                                                            refine xW_pure (fun _ _ _ _ _ => am_aload_n d_Mod_one_474 rfl rfl) ?_
                                                            refine xW_pure (fun _ _ _ _ _ => am_dup d_Mod_one_475 rfl) ?_
                                                            refine xW_gI O f_Mod_486 d_Mod_one_476 (fun v192 _ => ?_)
                                                            refine xW_pure (fun _ _ _ _ _ => am_iconst (v := 1) d_Mod_one_479 (by decide)) ?_
                                                            refine xW_pure (fun _ _ _ _ _ => am_isub d_Mod_one_480) ?_
                                                            refine xW_put O f_Mod_486 d_Mod_one_481 (fun q hq => by cases hq; exact ⟨rfl, rfl, rfl⟩) (fun s193 _ => ?_)
                                                            refine xW_pure (fun _ _ _ _ _ => am_iconst (v := (-1)) d_Mod_one_484 (by decide)) ?_
                                                            exact xW_ret (fun _ _ _ _ _ => am_iret rfl d_Mod_one_485)
                                                          · refine xW_by (fun c13_28 => ?_) (fun c13_28 => ?_)
                                                            · refine xW_pure (fun _ _ _ _ _ => am_tableIn (off := 500) (tgt := 513) d_Mod_one_13 (by rw [c13_28]; decide) (by rw [c13_28]; decide) (by rw [c13_28]; rfl) (by decide)) ?_
                                                              refine xW_pure (fun _ _ _ _ _ => am_aload_n d_Mod_one_513 rfl rfl) ?_
                                                              refine xW_pure (fun _ _ _ _ _ => am_iconst (v := 0) d_Mod_one_514 (by decide)) ?_
                                                              refine xW_pure (fun _ _ _ _ _ => am_lconst (v := 0) d_Mod_one_515 (by decide)) ?_
                                                              refine xW_callV O (dx_Mod_push O T) (fun _ e => ob_Mod_push e) rfl rfl rfl l_Mod_542 ⟨w_2086, w_130⟩ rfl (Nat.le_of_ble_eq_true rfl) d_Mod_one_516 (fun v195 s194 _ => ?_)
                                                              refine xW_pure (fun _ _ _ _ _ => am_aload_n d_Mod_one_519 rfl rfl) ?_
                                                              refine xW_callV O (dx_Mod_leave O T) (fun _ e => ob_Mod_leave e) rfl rfl rfl l_Mod_539 ⟨w_2082, w_129⟩ rfl (Nat.le_of_ble_eq_true rfl) d_Mod_one_520 (fun v197 s196 _ => ?_)
                                                              exact xW_ret (fun _ _ _ _ _ => am_iret rfl d_Mod_one_523)
                                                            · have e13_0 := lk_ne c13_0 (show (0 : Int32).toInt = 0 by decide)
                                                              have e13_1 := lk_ne c13_1 (show (1 : Int32).toInt = 1 by decide)
                                                              have e13_2 := lk_ne c13_2 (show (2 : Int32).toInt = 2 by decide)
                                                              have e13_3 := lk_ne c13_3 (show (3 : Int32).toInt = 3 by decide)
                                                              have e13_4 := lk_ne c13_4 (show (4 : Int32).toInt = 4 by decide)
                                                              have e13_5 := lk_ne c13_5 (show (5 : Int32).toInt = 5 by decide)
                                                              have e13_6 := lk_ne c13_6 (show (6 : Int32).toInt = 6 by decide)
                                                              have e13_7 := lk_ne c13_7 (show (7 : Int32).toInt = 7 by decide)
                                                              have e13_8 := lk_ne c13_8 (show (8 : Int32).toInt = 8 by decide)
                                                              have e13_9 := lk_ne c13_9 (show (9 : Int32).toInt = 9 by decide)
                                                              have e13_10 := lk_ne c13_10 (show (10 : Int32).toInt = 10 by decide)
                                                              have e13_11 := lk_ne c13_11 (show (11 : Int32).toInt = 11 by decide)
                                                              have e13_12 := lk_ne c13_12 (show (12 : Int32).toInt = 12 by decide)
                                                              have e13_13 := lk_ne c13_13 (show (13 : Int32).toInt = 13 by decide)
                                                              have e13_14 := lk_ne c13_14 (show (14 : Int32).toInt = 14 by decide)
                                                              have e13_15 := lk_ne c13_15 (show (15 : Int32).toInt = 15 by decide)
                                                              have e13_16 := lk_ne c13_16 (show (16 : Int32).toInt = 16 by decide)
                                                              have e13_17 := lk_ne c13_17 (show (17 : Int32).toInt = 17 by decide)
                                                              have e13_18 := lk_ne c13_18 (show (18 : Int32).toInt = 18 by decide)
                                                              have e13_19 := lk_ne c13_19 (show (19 : Int32).toInt = 19 by decide)
                                                              have e13_20 := lk_ne c13_20 (show (20 : Int32).toInt = 20 by decide)
                                                              have e13_21 := lk_ne c13_21 (show (21 : Int32).toInt = 21 by decide)
                                                              have e13_22 := lk_ne c13_22 (show (22 : Int32).toInt = 22 by decide)
                                                              have e13_23 := lk_ne c13_23 (show (23 : Int32).toInt = 23 by decide)
                                                              have e13_24 := lk_ne c13_24 (show (24 : Int32).toInt = 24 by decide)
                                                              have e13_25 := lk_ne c13_25 (show (25 : Int32).toInt = 25 by decide)
                                                              have e13_26 := lk_ne c13_26 (show (26 : Int32).toInt = 26 by decide)
                                                              have e13_27 := lk_ne c13_27 (show (27 : Int32).toInt = 27 by decide)
                                                              have e13_28 := lk_ne c13_28 (show (28 : Int32).toInt = 28 by decide)
                                                              refine xW_pure (fun _ _ _ _ _ => am_tableOut (tgt := 524) d_Mod_one_13 (by omega) (by decide)) ?_
                                                              refine xW_pure (fun _ _ _ _ _ => am_iload_n d_Mod_one_524 rfl rfl) ?_
                                                              refine xW_pure (fun _ _ _ _ _ => am_bipush (v := 8) d_Mod_one_525 (by decide)) ?_
                                                              refine xW_ite (fun _ _ _ _ _ => am_icmp_gt (tgt := 538) d_Mod_one_527 (by decide)) (fun _ => ?_) (fun _ => ?_)
                                                              · refine xW_pure (fun _ _ _ _ _ => am_iload_n d_Mod_one_538 rfl rfl) ?_
                                                                refine xW_pure (fun _ _ _ _ _ => am_bipush (v := 13) d_Mod_one_539 (by decide)) ?_
                                                                refine xW_ite (fun _ _ _ _ _ => am_icmp_gt (tgt := 552) d_Mod_one_541 (by decide)) (fun _ => ?_) (fun _ => ?_)
                                                                · refine xW_pure (fun _ _ _ _ _ => am_aload_n d_Mod_one_552 rfl rfl) ?_
                                                                  refine xW_pure (fun _ _ _ _ _ => am_iload_n d_Mod_one_553 rfl rfl) ?_
                                                                  refine xW_callV O (dx_Mod_things O T) (fun _ e => ob_Mod_things e) rfl rfl rfl l_Mod_551 ⟨w_2127, w_138⟩ rfl (Nat.le_of_ble_eq_true rfl) d_Mod_one_554 (fun v199 s198 _ => ?_)
                                                                  exact xW_ret (fun _ _ _ _ _ => am_iret rfl d_Mod_one_557)
                                                                · refine xW_pure (fun _ _ _ _ _ => am_aload_n d_Mod_one_544 rfl rfl) ?_
                                                                  refine xW_pure (fun _ _ _ _ _ => am_iload_n d_Mod_one_545 rfl rfl) ?_
                                                                  refine xW_callV O (dx_Mod_reckon O T) (fun _ e => ob_Mod_reckon e) rfl rfl rfl l_Mod_548 ⟨w_2106, w_134⟩ rfl (Nat.le_of_ble_eq_true rfl) d_Mod_one_546 (fun v201 s200 _ => ?_)
                                                                  refine xW_pure (fun _ _ _ _ _ => am_goto (tgt := 557) d_Mod_one_549 (by decide)) ?_
                                                                  exact xW_ret (fun _ _ _ _ _ => am_iret rfl d_Mod_one_557)
                                                              · refine xW_pure (fun _ _ _ _ _ => am_aload_n d_Mod_one_530 rfl rfl) ?_
                                                                refine xW_pure (fun _ _ _ _ _ => am_iload_n d_Mod_one_531 rfl rfl) ?_
                                                                refine xW_callV O (dx_Mod_parts O T) (fun _ e => ob_Mod_parts e) rfl rfl rfl l_Mod_545 ⟨w_2090, w_131⟩ rfl (Nat.le_of_ble_eq_true rfl) d_Mod_one_532 (fun v203 s202 _ => ?_)
                                                                refine xW_pure (fun _ _ _ _ _ => am_goto (tgt := 557) d_Mod_one_535 (by decide)) ?_
                                                                exact xW_ret (fun _ _ _ _ _ => am_iret rfl d_Mod_one_557)

theorem ob_Mod_one {d : Nat} {x0 : Nat} {s : HS} {y : Int32 × HS} (h : x_Mod_one d x0 s = some y) : isO s x0 14 = true := by
  cases d with
  | zero => cases h
  | succ d => exact (gd_spec h).1

set_option maxRecDepth 100000 in
def x_Lexer_begin (d : Nat) (x0 : Nat) (x1 : Nat) (x2 : Int32) (s : HS) : Option (Unit × HS) := match d with
  | 0 => none
  | d + 1 => gd s x0 1 ((pV s x0 1 1 (.ref x1)).bind fun s1 => ((lenA s1 x1).bind fun v2 => ((pV s1 x0 1 2 (.int (if v2 < x2 then v2 else x2))).bind fun s3 => ((pV s3 x0 1 3 (.int 0)).bind fun s4 => ((pV s4 x0 1 4 (.int (-1))).bind fun s5 => (bnd (x_Lexer_advance d x0 s5) fun v7 s6 => (some ((), s6))))))))

set_option maxRecDepth 100000 in
set_option maxHeartbeats 4000000 in
theorem dx_Lexer_begin (O : am_ok K X) (T : am_T K) {d : Nat} {x0 : Nat} {x1 : Nat} {x2 : Int32} {s : HS} : xM cvU K X m_Lexer_begin d [.ref x0, .ref x1, .int x2] s (x_Lexer_begin d x0 x1 x2 s) := by
  cases d with
  | zero => exact xM_none
  | succ d =>
    unfold x_Lexer_begin
    refine xM_enter (by decide +kernel) (Nat.le_of_ble_eq_true rfl) ?_
    refine xW_gd (fun _ => ?_)
    refine xW_pure (fun _ _ _ _ _ => am_aload_n d_Lexer_begin_0 rfl rfl) ?_
    refine xW_pure (fun _ _ _ _ _ => am_aload_n d_Lexer_begin_1 rfl rfl) ?_
    refine xW_put O f_Lexer_15 d_Lexer_begin_2 (fun q hq => by cases hq; exact ⟨rfl, rfl, rfl⟩) (fun s1 _ => ?_)
    refine xW_pure (fun _ _ _ _ _ => am_aload_n d_Lexer_begin_5 rfl rfl) ?_
    refine xW_pure (fun _ _ _ _ _ => am_iload_n d_Lexer_begin_6 rfl rfl) ?_
    refine xW_pure (fun _ _ _ _ _ => am_aload_n d_Lexer_begin_7 rfl rfl) ?_
    refine xW_len O d_Lexer_begin_8 (fun v2 _ => ?_)
    refine xW_pure (fun _ _ _ _ _ => am_mmin w_550 w_551 w_164 w_552 d_Lexer_begin_9 (Nat.le_of_ble_eq_true rfl) (by omega)) ?_
    refine xW_put O f_Lexer_43 d_Lexer_begin_12 (fun q hq => by cases hq; exact ⟨rfl, rfl, rfl⟩) (fun s3 _ => ?_)
    refine xW_pure (fun _ _ _ _ _ => am_aload_n d_Lexer_begin_15 rfl rfl) ?_
    refine xW_pure (fun _ _ _ _ _ => am_iconst (v := 0) d_Lexer_begin_16 (by decide)) ?_
    refine xW_put O f_Lexer_46 d_Lexer_begin_17 (fun q hq => by cases hq; exact ⟨rfl, rfl, rfl⟩) (fun s4 _ => ?_)
    refine xW_pure (fun _ _ _ _ _ => am_aload_n d_Lexer_begin_20 rfl rfl) ?_
    refine xW_pure (fun _ _ _ _ _ => am_iconst (v := (-1)) d_Lexer_begin_21 (by decide)) ?_
    refine xW_put O f_Lexer_49 d_Lexer_begin_22 (fun q hq => by cases hq; exact ⟨rfl, rfl, rfl⟩) (fun s5 _ => ?_)
    refine xW_pure (fun _ _ _ _ _ => am_aload_n d_Lexer_begin_25 rfl rfl) ?_
    refine xW_callV O (dx_Lexer_advance O T) (fun _ e => ob_Lexer_advance e) rfl rfl rfl l_Lexer_52 ⟨w_554, w_555⟩ rfl (Nat.le_of_ble_eq_true rfl) d_Lexer_begin_26 (fun v7 s6 _ => ?_)
    exact xW_ret (fun _ _ _ _ _ => am_vret rfl d_Lexer_begin_29)

theorem ob_Lexer_begin {d : Nat} {x0 : Nat} {x1 : Nat} {x2 : Int32} {s : HS} {y : Unit × HS} (h : x_Lexer_begin d x0 x1 x2 s = some y) : isO s x0 1 = true := by
  cases d with
  | zero => cases h
  | succ d => exact (gd_spec h).1

set_option maxRecDepth 100000 in
def x_Pars_names (d : Nat) (x0 : Nat) (s : HS) : Option (Int32 × HS) := match d with
  | 0 => none
  | d + 1 => gd s x0 5 (bnd (x_Pars_take d x0 40 s) fun v2 s1 => ((gR s1 x0 5 0).bind fun v3 => (bnd (x_Lexer_kind d v3 s1) fun v5 s4 => (if v5 = 41 then (bnd (x_Pars_take d x0 41 s4) fun v7 s6 => (some (0, s6))) else (bnd (x_Pars_newName d x0 0 s4) fun v9 s8 => (loopK (fun (again27 : Int32 × HS → Option (Int32 × HS)) (z27 : Int32 × HS) => (if 4 < z27.1 then (bnd (x_Pars_take d x0 41 z27.2) fun v11 s10 => (some (z27.1, s10))) else ((gR z27.2 x0 5 0).bind fun v12 => (bnd (x_Lexer_kind d v12 z27.2) fun v14 s13 => (if v14 = 44 then (bnd (x_Pars_take d x0 44 s13) fun v16 s15 => (bnd (x_Pars_newName d x0 z27.1 s15) fun v18 s17 => (again27 ((z27.1 + 1), s17)))) else (bnd (x_Pars_take d x0 41 s13) fun v20 s19 => (some (z27.1, s19)))))))) FU (1, s8)))))))

set_option maxRecDepth 100000 in
set_option maxHeartbeats 4000000 in
theorem dx_Pars_names (O : am_ok K X) (T : am_T K) {d : Nat} {x0 : Nat} {s : HS} : xM cvI K X m_Pars_names d [.ref x0] s (x_Pars_names d x0 s) := by
  cases d with
  | zero => exact xM_none
  | succ d =>
    unfold x_Pars_names
    refine xM_enter (by decide +kernel) (Nat.le_of_ble_eq_true rfl) ?_
    refine xW_gd (fun _ => ?_)
    refine xW_pure (fun _ _ _ _ _ => am_iconst (v := 0) d_Pars_names_0 (by decide)) ?_
    refine xW_pure (fun _ _ _ _ _ => am_istore_n d_Pars_names_1 rfl (Nat.le_of_ble_eq_true rfl)) ?_
    refine xW_pure (fun _ _ _ _ _ => am_aload_n d_Pars_names_2 rfl rfl) ?_
    refine xW_pure (fun _ _ _ _ _ => am_bipush (v := 40) d_Pars_names_3 (by decide)) ?_
    refine xW_callV O (dx_Pars_take O T) (fun _ e => ob_Pars_take e) rfl rfl rfl l_Pars_106 ⟨w_682, w_9⟩ rfl (Nat.le_of_ble_eq_true rfl) d_Pars_names_5 (fun v2 s1 _ => ?_)
    refine xW_pure (fun _ _ _ _ _ => am_aload_n d_Pars_names_8 rfl rfl) ?_
    refine xW_gR O f_Pars_12 d_Pars_names_9 (fun v3 _ => ?_)
    refine xW_callV O (dx_Lexer_kind O T) (fun _ e => ob_Lexer_kind e) rfl rfl rfl l_Pars_59 ⟨w_673, w_674⟩ rfl (Nat.le_of_ble_eq_true rfl) d_Pars_names_12 (fun v5 s4 _ => ?_)
    refine xW_pure (fun _ _ _ _ _ => am_bipush (v := 41) d_Pars_names_15 (by decide)) ?_
    refine xW_ite (fun _ _ _ _ _ => am_icmp_eq (tgt := 61) d_Pars_names_17 (by decide)) (fun _ => ?_) (fun _ => ?_)
    · refine xW_pure (fun _ _ _ _ _ => am_aload_n d_Pars_names_61 rfl rfl) ?_
      refine xW_pure (fun _ _ _ _ _ => am_bipush (v := 41) d_Pars_names_62 (by decide)) ?_
      refine xW_callV O (dx_Pars_take O T) (fun _ e => ob_Pars_take e) rfl rfl rfl l_Pars_106 ⟨w_682, w_9⟩ rfl (Nat.le_of_ble_eq_true rfl) d_Pars_names_64 (fun v7 s6 _ => ?_)
      refine xW_pure (fun _ _ _ _ _ => am_iload_n d_Pars_names_67 rfl rfl) ?_
      exact xW_ret (fun _ _ _ _ _ => am_iret rfl d_Pars_names_68)
    · refine xW_pure (fun _ _ _ _ _ => am_aload_n d_Pars_names_20 rfl rfl) ?_
      refine xW_pure (fun _ _ _ _ _ => am_iload_n d_Pars_names_21 rfl rfl) ?_
      refine xW_callV O (dx_Pars_newName O T) (fun _ e => ob_Pars_newName e) rfl rfl rfl l_Pars_125 ⟨w_711, w_13⟩ rfl (Nat.le_of_ble_eq_true rfl) d_Pars_names_22 (fun v9 s8 _ => ?_)
      refine xW_pure (fun _ _ _ _ _ => am_iconst (v := 1) d_Pars_names_25 (by decide)) ?_
      refine xW_pure (fun _ _ _ _ _ => am_istore_n d_Pars_names_26 rfl (Nat.le_of_ble_eq_true rfl)) ?_
      refine xW_locs (lv' := [(0, .ref x0), (1, .int 1)]) rfl ?_
      refine xW_loop (lvf := fun (z27 : Int32 × HS) => [(0, .ref x0), (1, .int z27.1)]) (hsf := fun (z27 : Int32 × HS) => z27.2) (fun again27 ih27 z27 => ?_) FU (1, s8)
      refine xW_pure (fun _ _ _ _ _ => am_iload_n d_Pars_names_27 rfl rfl) ?_
      refine xW_pure (fun _ _ _ _ _ => am_iconst (v := 4) d_Pars_names_28 (by decide)) ?_
      refine xW_ite (fun _ _ _ _ _ => am_icmp_gt (tgt := 61) d_Pars_names_29 (by decide)) (fun _ => ?_) (fun _ => ?_)
      · refine xW_pure (fun _ _ _ _ _ => am_aload_n d_Pars_names_61 rfl rfl) ?_
        refine xW_pure (fun _ _ _ _ _ => am_bipush (v := 41) d_Pars_names_62 (by decide)) ?_
        refine xW_callV O (dx_Pars_take O T) (fun _ e => ob_Pars_take e) rfl rfl rfl l_Pars_106 ⟨w_682, w_9⟩ rfl (Nat.le_of_ble_eq_true rfl) d_Pars_names_64 (fun v11 s10 _ => ?_)
        refine xW_pure (fun _ _ _ _ _ => am_iload_n d_Pars_names_67 rfl rfl) ?_
        exact xW_ret (fun _ _ _ _ _ => am_iret rfl d_Pars_names_68)
      · refine xW_pure (fun _ _ _ _ _ => am_aload_n d_Pars_names_32 rfl rfl) ?_
        refine xW_gR O f_Pars_12 d_Pars_names_33 (fun v12 _ => ?_)
        refine xW_callV O (dx_Lexer_kind O T) (fun _ e => ob_Lexer_kind e) rfl rfl rfl l_Pars_59 ⟨w_673, w_674⟩ rfl (Nat.le_of_ble_eq_true rfl) d_Pars_names_36 (fun v14 s13 _ => ?_)
        refine xW_pure (fun _ _ _ _ _ => am_bipush (v := 44) d_Pars_names_39 (by decide)) ?_
        refine xW_ite (fun _ _ _ _ _ k1 k2 => am_icmp_ne (tgt := 61) d_Pars_names_41 (by decide) k2 k1) (fun _ => ?_) (fun _ => ?_)
        · refine xW_pure (fun _ _ _ _ _ => am_aload_n d_Pars_names_44 rfl rfl) ?_
          refine xW_pure (fun _ _ _ _ _ => am_bipush (v := 44) d_Pars_names_45 (by decide)) ?_
          refine xW_callV O (dx_Pars_take O T) (fun _ e => ob_Pars_take e) rfl rfl rfl l_Pars_106 ⟨w_682, w_9⟩ rfl (Nat.le_of_ble_eq_true rfl) d_Pars_names_47 (fun v16 s15 _ => ?_)
          refine xW_pure (fun _ _ _ _ _ => am_aload_n d_Pars_names_50 rfl rfl) ?_
          refine xW_pure (fun _ _ _ _ _ => am_iload_n d_Pars_names_51 rfl rfl) ?_
          refine xW_callV O (dx_Pars_newName O T) (fun _ e => ob_Pars_newName e) rfl rfl rfl l_Pars_125 ⟨w_711, w_13⟩ rfl (Nat.le_of_ble_eq_true rfl) d_Pars_names_52 (fun v18 s17 _ => ?_)
          refine xW_pure (fun _ _ _ _ _ => am_iinc (v := 1) d_Pars_names_55 rfl (by decide) (Nat.le_of_ble_eq_true rfl)) ?_
          refine xW_pure (fun _ _ _ _ _ => am_goto (tgt := 27) d_Pars_names_58 (by decide)) ?_
          refine xW_locs (lv' := [(0, .ref x0), (1, .int (z27.1 + 1))]) rfl ?_
          exact ih27 ((z27.1 + 1), s17)
        · refine xW_pure (fun _ _ _ _ _ => am_aload_n d_Pars_names_61 rfl rfl) ?_
          refine xW_pure (fun _ _ _ _ _ => am_bipush (v := 41) d_Pars_names_62 (by decide)) ?_
          refine xW_callV O (dx_Pars_take O T) (fun _ e => ob_Pars_take e) rfl rfl rfl l_Pars_106 ⟨w_682, w_9⟩ rfl (Nat.le_of_ble_eq_true rfl) d_Pars_names_64 (fun v20 s19 _ => ?_)
          refine xW_pure (fun _ _ _ _ _ => am_iload_n d_Pars_names_67 rfl rfl) ?_
          exact xW_ret (fun _ _ _ _ _ => am_iret rfl d_Pars_names_68)

theorem ob_Pars_names {d : Nat} {x0 : Nat} {s : HS} {y : Int32 × HS} (h : x_Pars_names d x0 s = some y) : isO s x0 5 = true := by
  cases d with
  | zero => cases h
  | succ d => exact (gd_spec h).1

set_option maxRecDepth 100000 in
def x_Mach_print_b107 (d : Nat) (l0 : Nat) (s : HS) : Option (Unit × HS) := (gR s l0 6 11).bind fun v8 => (bnd (x_Out_add d v8 10 s) fun v10 s9 => ((gR s9 l0 6 11).bind fun v11 => (bnd (x_Out_spilled d v11 s9) fun v13 s12 => (if v13 = 0 then (some ((), s12)) else (bnd (x_Mach_fail d l0 9 s12) fun v15 s14 => (some ((), s14)))))))

set_option maxRecDepth 100000 in
set_option maxHeartbeats 4000000 in
theorem dx_Mach_print_b107 (O : am_ok K X) (T : am_T K) {d : Nat} {l0 : Nat} {s : HS} : xW cvU K X m_Mach_print (d + 1) 107 [(0, .ref l0)] [] s (x_Mach_print_b107 d l0 s) := by
  unfold x_Mach_print_b107
  refine xW_pure (fun _ _ _ _ _ => am_aload_n d_Mach_print_107 rfl rfl) ?_
  refine xW_gR O f_Mach_33 d_Mach_print_108 (fun v8 _ => ?_)
  refine xW_pure (fun _ _ _ _ _ => am_bipush (v := 10) d_Mach_print_111 (by decide)) ?_
  refine xW_callV O (dx_Out_add O T) (fun _ e => ob_Out_add e) rfl rfl rfl l_Mach_188 ⟨w_1148, w_1149⟩ rfl (Nat.le_of_ble_eq_true rfl) d_Mach_print_113 (fun v10 s9 _ => ?_)
  refine xW_pure (fun _ _ _ _ _ => am_aload_n d_Mach_print_116 rfl rfl) ?_
  refine xW_gR O f_Mach_33 d_Mach_print_117 (fun v11 _ => ?_)
  refine xW_callV O (dx_Out_spilled O T) (fun _ e => ob_Out_spilled e) rfl rfl rfl l_Mach_191 ⟨w_1169, w_1170⟩ rfl (Nat.le_of_ble_eq_true rfl) d_Mach_print_120 (fun v13 s12 _ => ?_)
  refine xW_ite (fun _ _ _ _ _ => am_if_eq (tgt := 132) d_Mach_print_123 (by decide)) (fun _ => ?_) (fun _ => ?_)
  · exact xW_ret (fun _ _ _ _ _ => am_vret rfl d_Mach_print_132)
  · refine xW_pure (fun _ _ _ _ _ => am_aload_n d_Mach_print_126 rfl rfl) ?_
    refine xW_pure (fun _ _ _ _ _ => am_bipush (v := 9) d_Mach_print_127 (by decide)) ?_
    refine xW_callV O (dx_Mach_fail O T) (fun _ e => ob_Mach_fail e) rfl rfl rfl l_Mach_106 ⟨w_1084, w_45⟩ rfl (Nat.le_of_ble_eq_true rfl) d_Mach_print_129 (fun v15 s14 _ => ?_)
    exact xW_ret (fun _ _ _ _ _ => am_vret rfl d_Mach_print_132)

set_option maxRecDepth 100000 in
def x_Mach_print (d : Nat) (x0 : Nat) (x1 : Int32) (s : HS) : Option (Unit × HS) := match d with
  | 0 => none
  | d + 1 => gd s x0 6 (bnd (x_Mach_sortAt d x0 x1 s) fun v2 s1 => (if v2 = 1 then ((gR s1 x0 6 11).bind fun v3 => ((gR s1 x0 6 1).bind fun v4 => ((aL s1 v4 x1).bind fun v5 => (bnd (x_Out_addNumber d v3 v5 s1) fun v7 s6 => (x_Mach_print_b107 d x0 s6))))) else (if v2 = 2 then ((gR s1 x0 6 11).bind fun v16 => ((gR s1 x0 6 0).bind fun v17 => ((aL s1 v17 x1).bind fun v18 => ((gR s1 x0 6 1).bind fun v19 => ((aL s1 v19 x1).bind fun v20 => (bnd (x_Out_addText d v16 v18 v20 s1) fun v22 s21 => (x_Mach_print_b107 d x0 s21))))))) else (if v2 = 3 then ((gR s1 x0 6 11).bind fun v23 => (bnd (x_Out_add d v23 114 s1) fun v25 s24 => (x_Mach_print_b107 d x0 s24))) else (if v2 = 4 then ((gR s1 x0 6 11).bind fun v26 => (bnd (x_Out_add d v26 119 s1) fun v28 s27 => (x_Mach_print_b107 d x0 s27))) else ((gR s1 x0 6 11).bind fun v29 => (bnd (x_Out_add d v29 110 s1) fun v31 s30 => (x_Mach_print_b107 d x0 s30))))))))

set_option maxRecDepth 100000 in
set_option maxHeartbeats 4000000 in
theorem dx_Mach_print (O : am_ok K X) (T : am_T K) {d : Nat} {x0 : Nat} {x1 : Int32} {s : HS} : xM cvU K X m_Mach_print d [.ref x0, .int x1] s (x_Mach_print d x0 x1 s) := by
  cases d with
  | zero => exact xM_none
  | succ d =>
    unfold x_Mach_print
    refine xM_enter (by decide +kernel) (Nat.le_of_ble_eq_true rfl) ?_
    refine xW_gd (fun _ => ?_)
    refine xW_pure (fun _ _ _ _ _ => am_aload_n d_Mach_print_0 rfl rfl) ?_
    refine xW_pure (fun _ _ _ _ _ => am_iload_n d_Mach_print_1 rfl rfl) ?_
    refine xW_callV O (dx_Mach_sortAt O T) (fun _ e => ob_Mach_sortAt e) rfl rfl rfl l_Mach_177 ⟨w_1140, w_52⟩ rfl (Nat.le_of_ble_eq_true rfl) d_Mach_print_2 (fun v2 s1 _ => ?_)
    refine xW_by (fun c5_0 => ?_) (fun c5_0 => ?_)
    · refine xW_pure (fun _ _ _ _ _ => am_tableIn (off := 31) (tgt := 36) d_Mach_print_5 (by rw [c5_0]; decide) (by rw [c5_0]; decide) (by rw [c5_0]; rfl) (by decide)) ?_
      refine xW_pure (fun _ _ _ _ _ => am_aload_n d_Mach_print_36 rfl rfl) ?_
      refine xW_gR O f_Mach_33 d_Mach_print_37 (fun v3 _ => ?_)
      refine xW_pure (fun _ _ _ _ _ => am_aload_n d_Mach_print_40 rfl rfl) ?_
      refine xW_gR O f_Mach_13 d_Mach_print_41 (fun v4 _ => ?_)
      refine xW_pure (fun _ _ _ _ _ => am_iload_n d_Mach_print_44 rfl rfl) ?_
      refine xW_aL O d_Mach_print_45 (fun v5 _ => ?_)
      refine xW_callV O (dx_Out_addNumber O T) (fun _ e => ob_Out_addNumber e) rfl rfl rfl l_Mach_180 ⟨w_1144, w_1145⟩ rfl (Nat.le_of_ble_eq_true rfl) d_Mach_print_46 (fun v7 s6 _ => ?_)
      refine xW_pure (fun _ _ _ _ _ => am_goto (tgt := 107) d_Mach_print_49 (by decide)) ?_
      refine xW_locs (lv' := [(0, .ref x0)]) rfl ?_
      exact dx_Mach_print_b107 O T
    · refine xW_by (fun c5_1 => ?_) (fun c5_1 => ?_)
      · refine xW_pure (fun _ _ _ _ _ => am_tableIn (off := 47) (tgt := 52) d_Mach_print_5 (by rw [c5_1]; decide) (by rw [c5_1]; decide) (by rw [c5_1]; rfl) (by decide)) ?_
        refine xW_pure (fun _ _ _ _ _ => am_aload_n d_Mach_print_52 rfl rfl) ?_
        refine xW_gR O f_Mach_33 d_Mach_print_53 (fun v16 _ => ?_)
        refine xW_pure (fun _ _ _ _ _ => am_aload_n d_Mach_print_56 rfl rfl) ?_
        refine xW_gR O f_Mach_7 d_Mach_print_57 (fun v17 _ => ?_)
        refine xW_pure (fun _ _ _ _ _ => am_iload_n d_Mach_print_60 rfl rfl) ?_
        refine xW_aL O d_Mach_print_61 (fun v18 _ => ?_)
        refine xW_pure (fun _ _ _ _ _ => am_aload_n d_Mach_print_62 rfl rfl) ?_
        refine xW_gR O f_Mach_13 d_Mach_print_63 (fun v19 _ => ?_)
        refine xW_pure (fun _ _ _ _ _ => am_iload_n d_Mach_print_66 rfl rfl) ?_
        refine xW_aL O d_Mach_print_67 (fun v20 _ => ?_)
        refine xW_callV O (dx_Out_addText O T) (fun _ e => ob_Out_addText e) rfl rfl rfl l_Mach_185 ⟨w_1157, w_1158⟩ rfl (Nat.le_of_ble_eq_true rfl) d_Mach_print_68 (fun v22 s21 _ => ?_)
        refine xW_pure (fun _ _ _ _ _ => am_goto (tgt := 107) d_Mach_print_71 (by decide)) ?_
        refine xW_locs (lv' := [(0, .ref x0)]) rfl ?_
        exact dx_Mach_print_b107 O T
      · refine xW_by (fun c5_2 => ?_) (fun c5_2 => ?_)
        · refine xW_pure (fun _ _ _ _ _ => am_tableIn (off := 69) (tgt := 74) d_Mach_print_5 (by rw [c5_2]; decide) (by rw [c5_2]; decide) (by rw [c5_2]; rfl) (by decide)) ?_
          refine xW_pure (fun _ _ _ _ _ => am_aload_n d_Mach_print_74 rfl rfl) ?_
          refine xW_gR O f_Mach_33 d_Mach_print_75 (fun v23 _ => ?_)
          refine xW_pure (fun _ _ _ _ _ => am_bipush (v := 114) d_Mach_print_78 (by decide)) ?_
          refine xW_callV O (dx_Out_add O T) (fun _ e => ob_Out_add e) rfl rfl rfl l_Mach_188 ⟨w_1148, w_1149⟩ rfl (Nat.le_of_ble_eq_true rfl) d_Mach_print_80 (fun v25 s24 _ => ?_)
          refine xW_pure (fun _ _ _ _ _ => am_goto (tgt := 107) d_Mach_print_83 (by decide)) ?_
          refine xW_locs (lv' := [(0, .ref x0)]) rfl ?_
          exact dx_Mach_print_b107 O T
        · refine xW_by (fun c5_3 => ?_) (fun c5_3 => ?_)
          · refine xW_pure (fun _ _ _ _ _ => am_tableIn (off := 81) (tgt := 86) d_Mach_print_5 (by rw [c5_3]; decide) (by rw [c5_3]; decide) (by rw [c5_3]; rfl) (by decide)) ?_
            refine xW_pure (fun _ _ _ _ _ => am_aload_n d_Mach_print_86 rfl rfl) ?_
            refine xW_gR O f_Mach_33 d_Mach_print_87 (fun v26 _ => ?_)
            refine xW_pure (fun _ _ _ _ _ => am_bipush (v := 119) d_Mach_print_90 (by decide)) ?_
            refine xW_callV O (dx_Out_add O T) (fun _ e => ob_Out_add e) rfl rfl rfl l_Mach_188 ⟨w_1148, w_1149⟩ rfl (Nat.le_of_ble_eq_true rfl) d_Mach_print_92 (fun v28 s27 _ => ?_)
            refine xW_pure (fun _ _ _ _ _ => am_goto (tgt := 107) d_Mach_print_95 (by decide)) ?_
            refine xW_locs (lv' := [(0, .ref x0)]) rfl ?_
            exact dx_Mach_print_b107 O T
          · have e5_0 := lk_ne c5_0 (show (1 : Int32).toInt = 1 by decide)
            have e5_1 := lk_ne c5_1 (show (2 : Int32).toInt = 2 by decide)
            have e5_2 := lk_ne c5_2 (show (3 : Int32).toInt = 3 by decide)
            have e5_3 := lk_ne c5_3 (show (4 : Int32).toInt = 4 by decide)
            refine xW_pure (fun _ _ _ _ _ => am_tableOut (tgt := 98) d_Mach_print_5 (by omega) (by decide)) ?_
            refine xW_pure (fun _ _ _ _ _ => am_aload_n d_Mach_print_98 rfl rfl) ?_
            refine xW_gR O f_Mach_33 d_Mach_print_99 (fun v29 _ => ?_)
            refine xW_pure (fun _ _ _ _ _ => am_bipush (v := 110) d_Mach_print_102 (by decide)) ?_
            refine xW_callV O (dx_Out_add O T) (fun _ e => ob_Out_add e) rfl rfl rfl l_Mach_188 ⟨w_1148, w_1149⟩ rfl (Nat.le_of_ble_eq_true rfl) d_Mach_print_104 (fun v31 s30 _ => ?_)
            refine xW_locs (lv' := [(0, .ref x0)]) rfl ?_
            exact dx_Mach_print_b107 O T

theorem ob_Mach_print {d : Nat} {x0 : Nat} {x1 : Int32} {s : HS} {y : Unit × HS} (h : x_Mach_print d x0 x1 s = some y) : isO s x0 6 = true := by
  cases d with
  | zero => cases h
  | succ d => exact (gd_spec h).1

set_option maxRecDepth 100000 in
def x_Mach_storeField (d : Nat) (x0 : Nat) (x1 : Int64) (s : HS) : Option (Unit × HS) := match d with
  | 0 => none
  | d + 1 => gd s x0 6 (bnd (x_Mach_below d x0 2 s) fun v2 s1 => (bnd (x_Mach_below d x0 1 s1) fun v4 s3 => ((pV s3 x0 6 2 (.int v2)).bind fun s5 => (bnd (x_Mach_sortAt d x0 v2 s5) fun v7 s6 => (if v7 = 3 then ((gR s6 x0 6 10).bind fun v8 => (bnd (x_Mach_objectAt d x0 v2 s6) fun v10 s9 => ((gR s9 x0 6 0).bind fun v11 => ((aL s9 v11 v4).bind fun v12 => ((gR s9 x0 6 1).bind fun v13 => ((aL s9 v13 v4).bind fun v14 => (bnd (x_Store_setField d v8 v10 x1 v12 v14 s9) fun v16 s15 => (if v16 = 0 then (bnd (x_Mach_fail d x0 4 s15) fun v18 s17 => (some ((), s17))) else (some ((), s15)))))))))) else (bnd (x_Mach_fail d x0 2 s6) fun v20 s19 => (some ((), s19))))))))

set_option maxRecDepth 100000 in
set_option maxHeartbeats 4000000 in
theorem dx_Mach_storeField (O : am_ok K X) (T : am_T K) {d : Nat} {x0 : Nat} {x1 : Int64} {s : HS} : xM cvU K X m_Mach_storeField d [.ref x0, .long x1] s (x_Mach_storeField d x0 x1 s) := by
  cases d with
  | zero => exact xM_none
  | succ d =>
    unfold x_Mach_storeField
    refine xM_enter (by decide +kernel) (Nat.le_of_ble_eq_true rfl) ?_
    refine xW_gd (fun _ => ?_)
    refine xW_pure (fun _ _ _ _ _ => am_aload_n d_Mach_storeField_0 rfl rfl) ?_
    refine xW_pure (fun _ _ _ _ _ => am_iconst (v := 2) d_Mach_storeField_1 (by decide)) ?_
    refine xW_callV O (dx_Mach_below O T) (fun _ e => ob_Mach_below e) rfl rfl rfl l_Mach_133 ⟨w_1071, w_43⟩ rfl (Nat.le_of_ble_eq_true rfl) d_Mach_storeField_2 (fun v2 s1 _ => ?_)
    refine xW_pure (fun _ _ _ _ _ => am_istore_n d_Mach_storeField_5 rfl (Nat.le_of_ble_eq_true rfl)) ?_
    refine xW_pure (fun _ _ _ _ _ => am_aload_n d_Mach_storeField_6 rfl rfl) ?_
    refine xW_pure (fun _ _ _ _ _ => am_iconst (v := 1) d_Mach_storeField_7 (by decide)) ?_
    refine xW_callV O (dx_Mach_below O T) (fun _ e => ob_Mach_below e) rfl rfl rfl l_Mach_133 ⟨w_1071, w_43⟩ rfl (Nat.le_of_ble_eq_true rfl) d_Mach_storeField_8 (fun v4 s3 _ => ?_)
    refine xW_pure (fun _ _ _ _ _ => am_istore d_Mach_storeField_11 (Nat.le_of_ble_eq_true rfl)) ?_
    refine xW_pure (fun _ _ _ _ _ => am_aload_n d_Mach_storeField_13 rfl rfl) ?_
    refine xW_pure (fun _ _ _ _ _ => am_iload_n d_Mach_storeField_14 rfl rfl) ?_
    refine xW_put O f_Mach_54 d_Mach_storeField_15 (fun q hq => by cases hq; exact ⟨rfl, rfl, rfl⟩) (fun s5 _ => ?_)
    refine xW_pure (fun _ _ _ _ _ => am_aload_n d_Mach_storeField_18 rfl rfl) ?_
    refine xW_pure (fun _ _ _ _ _ => am_iload_n d_Mach_storeField_19 rfl rfl) ?_
    refine xW_callV O (dx_Mach_sortAt O T) (fun _ e => ob_Mach_sortAt e) rfl rfl rfl l_Mach_177 ⟨w_1140, w_52⟩ rfl (Nat.le_of_ble_eq_true rfl) d_Mach_storeField_20 (fun v7 s6 _ => ?_)
    refine xW_pure (fun _ _ _ _ _ => am_iconst (v := 3) d_Mach_storeField_23 (by decide)) ?_
    refine xW_ite (fun _ _ _ _ _ => am_icmp_eq (tgt := 35) d_Mach_storeField_24 (by decide)) (fun _ => ?_) (fun _ => ?_)
    · refine xW_pure (fun _ _ _ _ _ => am_aload_n d_Mach_storeField_35 rfl rfl) ?_
      refine xW_gR O f_Mach_29 d_Mach_storeField_36 (fun v8 _ => ?_)
      refine xW_pure (fun _ _ _ _ _ => am_aload_n d_Mach_storeField_39 rfl rfl) ?_
      refine xW_pure (fun _ _ _ _ _ => am_iload_n d_Mach_storeField_40 rfl rfl) ?_
      refine xW_callV O (dx_Mach_objectAt O T) (fun _ e => ob_Mach_objectAt e) rfl rfl rfl l_Mach_225 ⟨w_1213, w_60⟩ rfl (Nat.le_of_ble_eq_true rfl) d_Mach_storeField_41 (fun v10 s9 _ => ?_)
      refine xW_pure (fun _ _ _ _ _ => am_lload_n d_Mach_storeField_44 rfl rfl) ?_
      refine xW_pure (fun _ _ _ _ _ => am_aload_n d_Mach_storeField_45 rfl rfl) ?_
      refine xW_gR O f_Mach_7 d_Mach_storeField_46 (fun v11 _ => ?_)
      refine xW_pure (fun _ _ _ _ _ => am_iload d_Mach_storeField_49 rfl) ?_
      refine xW_aL O d_Mach_storeField_51 (fun v12 _ => ?_)
      refine xW_pure (fun _ _ _ _ _ => am_aload_n d_Mach_storeField_52 rfl rfl) ?_
      refine xW_gR O f_Mach_13 d_Mach_storeField_53 (fun v13 _ => ?_)
      refine xW_pure (fun _ _ _ _ _ => am_iload d_Mach_storeField_56 rfl) ?_
      refine xW_aL O d_Mach_storeField_58 (fun v14 _ => ?_)
      refine xW_callV O (dx_Store_setField O T) (fun _ e => ob_Store_setField e) rfl rfl rfl l_Mach_234 ⟨w_1232, w_1233⟩ rfl (Nat.le_of_ble_eq_true rfl) d_Mach_storeField_59 (fun v16 s15 _ => ?_)
      refine xW_ite (fun _ _ _ _ _ k1 k2 => am_if_ne (tgt := 70) d_Mach_storeField_62 (by decide) k2 k1) (fun _ => ?_) (fun _ => ?_)
      · refine xW_pure (fun _ _ _ _ _ => am_aload_n d_Mach_storeField_65 rfl rfl) ?_
        refine xW_pure (fun _ _ _ _ _ => am_iconst (v := 4) d_Mach_storeField_66 (by decide)) ?_
        refine xW_callV O (dx_Mach_fail O T) (fun _ e => ob_Mach_fail e) rfl rfl rfl l_Mach_106 ⟨w_1084, w_45⟩ rfl (Nat.le_of_ble_eq_true rfl) d_Mach_storeField_67 (fun v18 s17 _ => ?_)
        exact xW_ret (fun _ _ _ _ _ => am_vret rfl d_Mach_storeField_70)
      · exact xW_ret (fun _ _ _ _ _ => am_vret rfl d_Mach_storeField_70)
    · refine xW_pure (fun _ _ _ _ _ => am_aload_n d_Mach_storeField_27 rfl rfl) ?_
      refine xW_pure (fun _ _ _ _ _ => am_iconst (v := 2) d_Mach_storeField_28 (by decide)) ?_
      refine xW_callV O (dx_Mach_fail O T) (fun _ e => ob_Mach_fail e) rfl rfl rfl l_Mach_106 ⟨w_1084, w_45⟩ rfl (Nat.le_of_ble_eq_true rfl) d_Mach_storeField_29 (fun v20 s19 _ => ?_)
      refine xW_pure (fun _ _ _ _ _ => am_goto (tgt := 70) d_Mach_storeField_32 (by decide)) ?_
      exact xW_ret (fun _ _ _ _ _ => am_vret rfl d_Mach_storeField_70)

theorem ob_Mach_storeField {d : Nat} {x0 : Nat} {x1 : Int64} {s : HS} {y : Unit × HS} (h : x_Mach_storeField d x0 x1 s = some y) : isO s x0 6 = true := by
  cases d with
  | zero => cases h
  | succ d => exact (gd_spec h).1
end
