section
variable {K : am_K} {X : Nat → am_C}
set_option maxRecDepth 100000 in
def x_Mach_doObject (d : Nat) (x0 : Nat) (x1 : Int32) (x2 : Int32) (s : HS) : Option (Unit × HS) := match d with
  | 0 => none
  | d + 1 => gd s x0 6 (if x1 = 21 then (bnd (x_Mach_makeRecord d x0 x2 s) fun v2 s1 => (some ((), s1))) else (if x1 = 22 then (bnd (x_Mach_makeRow d x0 x2 s) fun v4 s3 => (some ((), s3))) else (if x1 = 23 then (bnd (x_Mach_size d x0 s) fun v6 s5 => (some ((), s5))) else (if x1 = 24 then (bnd (x_Mach_push d x0 s) fun v8 s7 => (some ((), s7))) else (bnd (x_Mach_pop d x0 s) fun v10 s9 => (some ((), s9)))))))

set_option maxRecDepth 100000 in
set_option maxHeartbeats 4000000 in
theorem dx_Mach_doObject (O : am_ok K X) (T : am_T K) {d : Nat} {x0 : Nat} {x1 : Int32} {x2 : Int32} {s : HS} : xM cvU K X m_Mach_doObject d [.ref x0, .int x1, .int x2] s (x_Mach_doObject d x0 x1 x2 s) := by
  cases d with
  | zero => exact xM_none
  | succ d =>
    unfold x_Mach_doObject
    refine xM_enter (by decide +kernel) (Nat.le_of_ble_eq_true rfl) ?_
    refine xW_gd (fun _ => ?_)
    refine xW_pure (fun _ _ _ _ _ => am_iload_n d_Mach_doObject_0 rfl rfl) ?_
    refine xW_by (fun c1_0 => ?_) (fun c1_0 => ?_)
    · refine xW_pure (fun _ _ _ _ _ => am_tableIn (off := 31) (tgt := 32) d_Mach_doObject_1 (by rw [c1_0]; decide) (by rw [c1_0]; decide) (by rw [c1_0]; rfl) (by decide)) ?_
      refine xW_pure (fun _ _ _ _ _ => am_aload_n d_Mach_doObject_32 rfl rfl) ?_
      refine xW_pure (fun _ _ _ _ _ => am_iload_n d_Mach_doObject_33 rfl rfl) ?_
      refine xW_callV O (dx_Mach_makeRecord O T) (fun _ e => ob_Mach_makeRecord e) rfl rfl rfl l_Mach_260 ⟨w_1271, w_67⟩ rfl (Nat.le_of_ble_eq_true rfl) d_Mach_doObject_34 (fun v2 s1 _ => ?_)
      refine xW_pure (fun _ _ _ _ _ => am_goto (tgt := 66) d_Mach_doObject_37 (by decide)) ?_
      exact xW_ret (fun _ _ _ _ _ => am_vret rfl d_Mach_doObject_66)
    · refine xW_by (fun c1_1 => ?_) (fun c1_1 => ?_)
      · refine xW_pure (fun _ _ _ _ _ => am_tableIn (off := 39) (tgt := 40) d_Mach_doObject_1 (by rw [c1_1]; decide) (by rw [c1_1]; decide) (by rw [c1_1]; rfl) (by decide)) ?_
        refine xW_pure (fun _ _ _ _ _ => am_aload_n d_Mach_doObject_40 rfl rfl) ?_
        refine xW_pure (fun _ _ _ _ _ => am_iload_n d_Mach_doObject_41 rfl rfl) ?_
        refine xW_callV O (dx_Mach_makeRow O T) (fun _ e => ob_Mach_makeRow e) rfl rfl rfl l_Mach_263 ⟨w_1279, w_68⟩ rfl (Nat.le_of_ble_eq_true rfl) d_Mach_doObject_42 (fun v4 s3 _ => ?_)
        refine xW_pure (fun _ _ _ _ _ => am_goto (tgt := 66) d_Mach_doObject_45 (by decide)) ?_
        exact xW_ret (fun _ _ _ _ _ => am_vret rfl d_Mach_doObject_66)
      · refine xW_by (fun c1_2 => ?_) (fun c1_2 => ?_)
        · refine xW_pure (fun _ _ _ _ _ => am_tableIn (off := 47) (tgt := 48) d_Mach_doObject_1 (by rw [c1_2]; decide) (by rw [c1_2]; decide) (by rw [c1_2]; rfl) (by decide)) ?_
          refine xW_pure (fun _ _ _ _ _ => am_aload_n d_Mach_doObject_48 rfl rfl) ?_
          refine xW_callV O (dx_Mach_size O T) (fun _ e => ob_Mach_size e) rfl rfl rfl l_Mach_266 ⟨w_1284, w_69⟩ rfl (Nat.le_of_ble_eq_true rfl) d_Mach_doObject_49 (fun v6 s5 _ => ?_)
          refine xW_pure (fun _ _ _ _ _ => am_goto (tgt := 66) d_Mach_doObject_52 (by decide)) ?_
          exact xW_ret (fun _ _ _ _ _ => am_vret rfl d_Mach_doObject_66)
        · refine xW_by (fun c1_3 => ?_) (fun c1_3 => ?_)
          · refine xW_pure (fun _ _ _ _ _ => am_tableIn (off := 54) (tgt := 55) d_Mach_doObject_1 (by rw [c1_3]; decide) (by rw [c1_3]; decide) (by rw [c1_3]; rfl) (by decide)) ?_
            refine xW_pure (fun _ _ _ _ _ => am_aload_n d_Mach_doObject_55 rfl rfl) ?_
            refine xW_callV O (dx_Mach_push O T) (fun _ e => ob_Mach_push e) rfl rfl rfl l_Mach_269 ⟨w_1288, w_70⟩ rfl (Nat.le_of_ble_eq_true rfl) d_Mach_doObject_56 (fun v8 s7 _ => ?_)
            refine xW_pure (fun _ _ _ _ _ => am_goto (tgt := 66) d_Mach_doObject_59 (by decide)) ?_
            exact xW_ret (fun _ _ _ _ _ => am_vret rfl d_Mach_doObject_66)
          · have e1_0 := lk_ne c1_0 (show (21 : Int32).toInt = 21 by decide)
            have e1_1 := lk_ne c1_1 (show (22 : Int32).toInt = 22 by decide)
            have e1_2 := lk_ne c1_2 (show (23 : Int32).toInt = 23 by decide)
            have e1_3 := lk_ne c1_3 (show (24 : Int32).toInt = 24 by decide)
            refine xW_pure (fun _ _ _ _ _ => am_tableOut (tgt := 62) d_Mach_doObject_1 (by omega) (by decide)) ?_
            refine xW_pure (fun _ _ _ _ _ => am_aload_n d_Mach_doObject_62 rfl rfl) ?_
            refine xW_callV O (dx_Mach_pop O T) (fun _ e => ob_Mach_pop e) rfl rfl rfl l_Mach_272 ⟨w_1292, w_71⟩ rfl (Nat.le_of_ble_eq_true rfl) d_Mach_doObject_63 (fun v10 s9 _ => ?_)
            exact xW_ret (fun _ _ _ _ _ => am_vret rfl d_Mach_doObject_66)

theorem ob_Mach_doObject {d : Nat} {x0 : Nat} {x1 : Int32} {x2 : Int32} {s : HS} {y : Unit × HS} (h : x_Mach_doObject d x0 x1 x2 s = some y) : isO s x0 6 = true := by
  cases d with
  | zero => cases h
  | succ d => exact (gd_spec h).1

set_option maxRecDepth 100000 in
def x_Mach_doReckoning_b49 (d : Nat) (l0 : Nat) (l1 : Int32) (l2 : Int32) (l3 : Int32) (t0 : Int32) (s : HS) : Option (Unit × HS) := if l1 = 26 then (bnd (x_Mach_minus d l0 l3 s) fun v14 s13 => (some ((), s13))) else (if l1 = 27 then ((pV s l0 6 2 (.int l3)).bind fun s15 => ((gR s15 l0 6 0).bind fun v16 => ((aL s15 v16 l3).bind fun v17 => ((gR s15 l0 6 1).bind fun v18 => ((aL s15 v18 l3).bind fun v19 => (bnd (x_Cell_isTrue d v17 v19 s15) fun v21 s20 => (if v21 = 0 then (bnd (x_Mach_layTruth d l0 1 s20) fun v23 s22 => (some ((), s22))) else (bnd (x_Mach_layTruth d l0 0 s20) fun v25 s24 => (some ((), s24)))))))))) else (if l1 = 28 then ((pV s l0 6 2 (.int l2)).bind fun s26 => (bnd (x_Mach_layTruth d l0 t0 s26) fun v28 s27 => (some ((), s27)))) else (if l1 = 29 then ((pV s l0 6 2 (.int l2)).bind fun s29 => (if t0 = 0 then (bnd (x_Mach_layTruth d l0 1 s29) fun v31 s30 => (some ((), s30))) else (bnd (x_Mach_layTruth d l0 0 s29) fun v33 s32 => (some ((), s32))))) else (if l1 = 30 then (bnd (x_Mach_compare d l0 l2 l3 0 s) fun v35 s34 => (some ((), s34))) else (if l1 = 31 then (bnd (x_Mach_compare d l0 l2 l3 t0 s) fun v37 s36 => (some ((), s36))) else (bnd (x_Mach_reckon d l0 l1 l2 l3 s) fun v39 s38 => (some ((), s38))))))))

set_option maxRecDepth 100000 in
set_option maxHeartbeats 4000000 in
theorem dx_Mach_doReckoning_b49 (O : am_ok K X) (T : am_T K) {d : Nat} {l0 : Nat} {l1 : Int32} {l2 : Int32} {l3 : Int32} {t0 : Int32} {s : HS} : xW cvU K X m_Mach_doReckoning (d + 1) 49 [(0, .ref l0), (1, .int l1), (2, .int l2), (3, .int l3)] [.int t0] s (x_Mach_doReckoning_b49 d l0 l1 l2 l3 t0 s) := by
  unfold x_Mach_doReckoning_b49
  refine xW_pure (fun _ _ _ _ _ => am_istore d_Mach_doReckoning_49 (Nat.le_of_ble_eq_true rfl)) ?_
  refine xW_pure (fun _ _ _ _ _ => am_iload_n d_Mach_doReckoning_51 rfl rfl) ?_
  refine xW_by (fun c52_0 => ?_) (fun c52_0 => ?_)
  · refine xW_pure (fun _ _ _ _ _ => am_tableIn (off := 40) (tgt := 92) d_Mach_doReckoning_52 (by rw [c52_0]; decide) (by rw [c52_0]; decide) (by rw [c52_0]; rfl) (by decide)) ?_
    refine xW_pure (fun _ _ _ _ _ => am_aload_n d_Mach_doReckoning_92 rfl rfl) ?_
    refine xW_pure (fun _ _ _ _ _ => am_iload_n d_Mach_doReckoning_93 rfl rfl) ?_
    refine xW_callV O (dx_Mach_minus O T) (fun _ e => ob_Mach_minus e) rfl rfl rfl l_Mach_285 ⟨w_1304, w_73⟩ rfl (Nat.le_of_ble_eq_true rfl) d_Mach_doReckoning_94 (fun v14 s13 _ => ?_)
    refine xW_pure (fun _ _ _ _ _ => am_goto (tgt := 199) d_Mach_doReckoning_97 (by decide)) ?_
    exact xW_ret (fun _ _ _ _ _ => am_vret rfl d_Mach_doReckoning_199)
  · refine xW_by (fun c52_1 => ?_) (fun c52_1 => ?_)
    · refine xW_pure (fun _ _ _ _ _ => am_tableIn (off := 48) (tgt := 100) d_Mach_doReckoning_52 (by rw [c52_1]; decide) (by rw [c52_1]; decide) (by rw [c52_1]; rfl) (by decide)) ?_
      refine xW_pure (fun _ _ _ _ _ => am_aload_n d_Mach_doReckoning_100 rfl rfl) ?_
      refine xW_pure (fun _ _ _ _ _ => am_iload_n d_Mach_doReckoning_101 rfl rfl) ?_
      refine xW_put O f_Mach_54 d_Mach_doReckoning_102 (fun q hq => by cases hq; exact ⟨rfl, rfl, rfl⟩) (fun s15 _ => ?_)
      refine xW_pure (fun _ _ _ _ _ => am_aload_n d_Mach_doReckoning_105 rfl rfl) ?_
      refine xW_pure (fun _ _ _ _ _ => am_aload_n d_Mach_doReckoning_106 rfl rfl) ?_
      refine xW_gR O f_Mach_7 d_Mach_doReckoning_107 (fun v16 _ => ?_)
      refine xW_pure (fun _ _ _ _ _ => am_iload_n d_Mach_doReckoning_110 rfl rfl) ?_
      refine xW_aL O d_Mach_doReckoning_111 (fun v17 _ => ?_)
      refine xW_pure (fun _ _ _ _ _ => am_aload_n d_Mach_doReckoning_112 rfl rfl) ?_
      refine xW_gR O f_Mach_13 d_Mach_doReckoning_113 (fun v18 _ => ?_)
      refine xW_pure (fun _ _ _ _ _ => am_iload_n d_Mach_doReckoning_116 rfl rfl) ?_
      refine xW_aL O d_Mach_doReckoning_117 (fun v19 _ => ?_)
      refine xW_callS O (dx_Cell_isTrue O T) rfl l_Mach_136 w_1101 rfl (Nat.le_of_ble_eq_true rfl) d_Mach_doReckoning_118 (fun v21 s20 _ => ?_)
      refine xW_ite (fun _ _ _ _ _ k1 k2 => am_if_ne (tgt := 128) d_Mach_doReckoning_121 (by decide) k2 k1) (fun _ => ?_) (fun _ => ?_)
      · refine xW_pure (fun _ _ _ _ _ => am_iconst (v := 1) d_Mach_doReckoning_124 (by decide)) ?_
        refine xW_pure (fun _ _ _ _ _ => am_goto (tgt := 129) d_Mach_doReckoning_125 (by decide)) ?_
        refine xW_callV O (dx_Mach_layTruth O T) (fun _ e => ob_Mach_layTruth e) rfl rfl rfl l_Mach_288 ⟨w_1308, w_74⟩ rfl (Nat.le_of_ble_eq_true rfl) d_Mach_doReckoning_129 (fun v23 s22 _ => ?_)
        refine xW_pure (fun _ _ _ _ _ => am_goto (tgt := 199) d_Mach_doReckoning_132 (by decide)) ?_
        exact xW_ret (fun _ _ _ _ _ => am_vret rfl d_Mach_doReckoning_199)
      · refine xW_pure (fun _ _ _ _ _ => am_iconst (v := 0) d_Mach_doReckoning_128 (by decide)) ?_
        refine xW_callV O (dx_Mach_layTruth O T) (fun _ e => ob_Mach_layTruth e) rfl rfl rfl l_Mach_288 ⟨w_1308, w_74⟩ rfl (Nat.le_of_ble_eq_true rfl) d_Mach_doReckoning_129 (fun v25 s24 _ => ?_)
        refine xW_pure (fun _ _ _ _ _ => am_goto (tgt := 199) d_Mach_doReckoning_132 (by decide)) ?_
        exact xW_ret (fun _ _ _ _ _ => am_vret rfl d_Mach_doReckoning_199)
    · refine xW_by (fun c52_2 => ?_) (fun c52_2 => ?_)
      · refine xW_pure (fun _ _ _ _ _ => am_tableIn (off := 83) (tgt := 135) d_Mach_doReckoning_52 (by rw [c52_2]; decide) (by rw [c52_2]; decide) (by rw [c52_2]; rfl) (by decide)) ?_
        refine xW_pure (fun _ _ _ _ _ => am_aload_n d_Mach_doReckoning_135 rfl rfl) ?_
        refine xW_pure (fun _ _ _ _ _ => am_iload_n d_Mach_doReckoning_136 rfl rfl) ?_
        refine xW_put O f_Mach_54 d_Mach_doReckoning_137 (fun q hq => by cases hq; exact ⟨rfl, rfl, rfl⟩) (fun s26 _ => ?_)
        refine xW_pure (fun _ _ _ _ _ => am_aload_n d_Mach_doReckoning_140 rfl rfl) ?_
        refine xW_pure (fun _ _ _ _ _ => am_iload d_Mach_doReckoning_141 rfl) ?_
        refine xW_callV O (dx_Mach_layTruth O T) (fun _ e => ob_Mach_layTruth e) rfl rfl rfl l_Mach_288 ⟨w_1308, w_74⟩ rfl (Nat.le_of_ble_eq_true rfl) d_Mach_doReckoning_143 (fun v28 s27 _ => ?_)
        refine xW_pure (fun _ _ _ _ _ => am_goto (tgt := 199) d_Mach_doReckoning_146 (by decide)) ?_
        exact xW_ret (fun _ _ _ _ _ => am_vret rfl d_Mach_doReckoning_199)
      · refine xW_by (fun c52_3 => ?_) (fun c52_3 => ?_)
        · refine xW_pure (fun _ _ _ _ _ => am_tableIn (off := 97) (tgt := 149) d_Mach_doReckoning_52 (by rw [c52_3]; decide) (by rw [c52_3]; decide) (by rw [c52_3]; rfl) (by decide)) ?_
          refine xW_pure (fun _ _ _ _ _ => am_aload_n d_Mach_doReckoning_149 rfl rfl) ?_
          refine xW_pure (fun _ _ _ _ _ => am_iload_n d_Mach_doReckoning_150 rfl rfl) ?_
          refine xW_put O f_Mach_54 d_Mach_doReckoning_151 (fun q hq => by cases hq; exact ⟨rfl, rfl, rfl⟩) (fun s29 _ => ?_)
          refine xW_pure (fun _ _ _ _ _ => am_aload_n d_Mach_doReckoning_154 rfl rfl) ?_
          refine xW_pure (fun _ _ _ _ _ => am_iload d_Mach_doReckoning_155 rfl) ?_
          refine xW_ite (fun _ _ _ _ _ k1 k2 => am_if_ne (tgt := 164) d_Mach_doReckoning_157 (by decide) k2 k1) (fun _ => ?_) (fun _ => ?_)
          · refine xW_pure (fun _ _ _ _ _ => am_iconst (v := 1) d_Mach_doReckoning_160 (by decide)) ?_
            refine xW_pure (fun _ _ _ _ _ => am_goto (tgt := 165) d_Mach_doReckoning_161 (by decide)) ?_
            refine xW_callV O (dx_Mach_layTruth O T) (fun _ e => ob_Mach_layTruth e) rfl rfl rfl l_Mach_288 ⟨w_1308, w_74⟩ rfl (Nat.le_of_ble_eq_true rfl) d_Mach_doReckoning_165 (fun v31 s30 _ => ?_)
            refine xW_pure (fun _ _ _ _ _ => am_goto (tgt := 199) d_Mach_doReckoning_168 (by decide)) ?_
            exact xW_ret (fun _ _ _ _ _ => am_vret rfl d_Mach_doReckoning_199)
          · refine xW_pure (fun _ _ _ _ _ => am_iconst (v := 0) d_Mach_doReckoning_164 (by decide)) ?_
            refine xW_callV O (dx_Mach_layTruth O T) (fun _ e => ob_Mach_layTruth e) rfl rfl rfl l_Mach_288 ⟨w_1308, w_74⟩ rfl (Nat.le_of_ble_eq_true rfl) d_Mach_doReckoning_165 (fun v33 s32 _ => ?_)
            refine xW_pure (fun _ _ _ _ _ => am_goto (tgt := 199) d_Mach_doReckoning_168 (by decide)) ?_
            exact xW_ret (fun _ _ _ _ _ => am_vret rfl d_Mach_doReckoning_199)
        · refine xW_by (fun c52_4 => ?_) (fun c52_4 => ?_)
          · refine xW_pure (fun _ _ _ _ _ => am_tableIn (off := 119) (tgt := 171) d_Mach_doReckoning_52 (by rw [c52_4]; decide) (by rw [c52_4]; decide) (by rw [c52_4]; rfl) (by decide)) ?_
            refine xW_pure (fun _ _ _ _ _ => am_aload_n d_Mach_doReckoning_171 rfl rfl) ?_
            refine xW_pure (fun _ _ _ _ _ => am_iload_n d_Mach_doReckoning_172 rfl rfl) ?_
            refine xW_pure (fun _ _ _ _ _ => am_iload_n d_Mach_doReckoning_173 rfl rfl) ?_
            refine xW_pure (fun _ _ _ _ _ => am_iconst (v := 0) d_Mach_doReckoning_174 (by decide)) ?_
            refine xW_callV O (dx_Mach_compare O T) (fun _ e => ob_Mach_compare e) rfl rfl rfl l_Mach_292 ⟨w_1312, w_75⟩ rfl (Nat.le_of_ble_eq_true rfl) d_Mach_doReckoning_175 (fun v35 s34 _ => ?_)
            refine xW_pure (fun _ _ _ _ _ => am_goto (tgt := 199) d_Mach_doReckoning_178 (by decide)) ?_
            exact xW_ret (fun _ _ _ _ _ => am_vret rfl d_Mach_doReckoning_199)
          · refine xW_by (fun c52_5 => ?_) (fun c52_5 => ?_)
            · refine xW_pure (fun _ _ _ _ _ => am_tableIn (off := 129) (tgt := 181) d_Mach_doReckoning_52 (by rw [c52_5]; decide) (by rw [c52_5]; decide) (by rw [c52_5]; rfl) (by decide)) ?_
              refine xW_pure (fun _ _ _ _ _ => am_aload_n d_Mach_doReckoning_181 rfl rfl) ?_
              refine xW_pure (fun _ _ _ _ _ => am_iload_n d_Mach_doReckoning_182 rfl rfl) ?_
              refine xW_pure (fun _ _ _ _ _ => am_iload_n d_Mach_doReckoning_183 rfl rfl) ?_
              refine xW_pure (fun _ _ _ _ _ => am_iload d_Mach_doReckoning_184 rfl) ?_
              refine xW_callV O (dx_Mach_compare O T) (fun _ e => ob_Mach_compare e) rfl rfl rfl l_Mach_292 ⟨w_1312, w_75⟩ rfl (Nat.le_of_ble_eq_true rfl) d_Mach_doReckoning_186 (fun v37 s36 _ => ?_)
              refine xW_pure (fun _ _ _ _ _ => am_goto (tgt := 199) d_Mach_doReckoning_189 (by decide)) ?_
              exact xW_ret (fun _ _ _ _ _ => am_vret rfl d_Mach_doReckoning_199)
            · have e52_0 := lk_ne c52_0 (show (26 : Int32).toInt = 26 by decide)
              have e52_1 := lk_ne c52_1 (show (27 : Int32).toInt = 27 by decide)
              have e52_2 := lk_ne c52_2 (show (28 : Int32).toInt = 28 by decide)
              have e52_3 := lk_ne c52_3 (show (29 : Int32).toInt = 29 by decide)
              have e52_4 := lk_ne c52_4 (show (30 : Int32).toInt = 30 by decide)
              have e52_5 := lk_ne c52_5 (show (31 : Int32).toInt = 31 by decide)
              refine xW_pure (fun _ _ _ _ _ => am_tableOut (tgt := 192) d_Mach_doReckoning_52 (by omega) (by decide)) ?_
              refine xW_pure (fun _ _ _ _ _ => am_aload_n d_Mach_doReckoning_192 rfl rfl) ?_
              refine xW_pure (fun _ _ _ _ _ => am_iload_n d_Mach_doReckoning_193 rfl rfl) ?_
              refine xW_pure (fun _ _ _ _ _ => am_iload_n d_Mach_doReckoning_194 rfl rfl) ?_
              refine xW_pure (fun _ _ _ _ _ => am_iload_n d_Mach_doReckoning_195 rfl rfl) ?_
              refine xW_callV O (dx_Mach_reckon O T) (fun _ e => ob_Mach_reckon e) rfl rfl rfl l_Mach_296 ⟨w_1316, w_76⟩ rfl (Nat.le_of_ble_eq_true rfl) d_Mach_doReckoning_196 (fun v39 s38 _ => ?_)
              exact xW_ret (fun _ _ _ _ _ => am_vret rfl d_Mach_doReckoning_199)

set_option maxRecDepth 100000 in
def x_Mach_doReckoning_b48 (d : Nat) (l0 : Nat) (l1 : Int32) (l2 : Int32) (l3 : Int32) (s : HS) : Option (Unit × HS) := x_Mach_doReckoning_b49 d l0 l1 l2 l3 0 s

set_option maxRecDepth 100000 in
set_option maxHeartbeats 4000000 in
theorem dx_Mach_doReckoning_b48 (O : am_ok K X) (T : am_T K) {d : Nat} {l0 : Nat} {l1 : Int32} {l2 : Int32} {l3 : Int32} {s : HS} : xW cvU K X m_Mach_doReckoning (d + 1) 48 [(0, .ref l0), (1, .int l1), (2, .int l2), (3, .int l3)] [] s (x_Mach_doReckoning_b48 d l0 l1 l2 l3 s) := by
  unfold x_Mach_doReckoning_b48
  refine xW_pure (fun _ _ _ _ _ => am_iconst (v := 0) d_Mach_doReckoning_48 (by decide)) ?_
  refine xW_locs (lv' := [(0, .ref l0), (1, .int l1), (2, .int l2), (3, .int l3)]) rfl ?_
  exact dx_Mach_doReckoning_b49 O T

set_option maxRecDepth 100000 in
def x_Mach_doReckoning (d : Nat) (x0 : Nat) (x1 : Int32) (s : HS) : Option (Unit × HS) := match d with
  | 0 => none
  | d + 1 => gd s x0 6 (bnd (x_Mach_below d x0 2 s) fun v2 s1 => (bnd (x_Mach_below d x0 1 s1) fun v4 s3 => ((gR s3 x0 6 0).bind fun v5 => ((aL s3 v5 v2).bind fun v6 => ((gR s3 x0 6 0).bind fun v7 => ((aL s3 v7 v4).bind fun v8 => (if (lg_cmp v6 v8) = 0 then ((gR s3 x0 6 1).bind fun v9 => ((aL s3 v9 v2).bind fun v10 => ((gR s3 x0 6 1).bind fun v11 => ((aL s3 v11 v4).bind fun v12 => (if (lg_cmp v10 v12) = 0 then (x_Mach_doReckoning_b49 d x0 x1 v2 v4 1 s3) else (x_Mach_doReckoning_b48 d x0 x1 v2 v4 s3)))))) else (x_Mach_doReckoning_b48 d x0 x1 v2 v4 s3))))))))

set_option maxRecDepth 100000 in
set_option maxHeartbeats 4000000 in
theorem dx_Mach_doReckoning (O : am_ok K X) (T : am_T K) {d : Nat} {x0 : Nat} {x1 : Int32} {s : HS} : xM cvU K X m_Mach_doReckoning d [.ref x0, .int x1] s (x_Mach_doReckoning d x0 x1 s) := by
  cases d with
  | zero => exact xM_none
  | succ d =>
    unfold x_Mach_doReckoning
    refine xM_enter (by decide +kernel) (Nat.le_of_ble_eq_true rfl) ?_
    refine xW_gd (fun _ => ?_)
    refine xW_pure (fun _ _ _ _ _ => am_aload_n d_Mach_doReckoning_0 rfl rfl) ?_
    refine xW_pure (fun _ _ _ _ _ => am_iconst (v := 2) d_Mach_doReckoning_1 (by decide)) ?_
    refine xW_callV O (dx_Mach_below O T) (fun _ e => ob_Mach_below e) rfl rfl rfl l_Mach_133 ⟨w_1071, w_43⟩ rfl (Nat.le_of_ble_eq_true rfl) d_Mach_doReckoning_2 (fun v2 s1 _ => ?_)
    refine xW_pure (fun _ _ _ _ _ => am_istore_n d_Mach_doReckoning_5 rfl (Nat.le_of_ble_eq_true rfl)) ?_
    refine xW_pure (fun _ _ _ _ _ => am_aload_n d_Mach_doReckoning_6 rfl rfl) ?_
    refine xW_pure (fun _ _ _ _ _ => am_iconst (v := 1) d_Mach_doReckoning_7 (by decide)) ?_
    refine xW_callV O (dx_Mach_below O T) (fun _ e => ob_Mach_below e) rfl rfl rfl l_Mach_133 ⟨w_1071, w_43⟩ rfl (Nat.le_of_ble_eq_true rfl) d_Mach_doReckoning_8 (fun v4 s3 _ => ?_)
    refine xW_pure (fun _ _ _ _ _ => am_istore_n d_Mach_doReckoning_11 rfl (Nat.le_of_ble_eq_true rfl)) ?_
    refine xW_pure (fun _ _ _ _ _ => am_aload_n d_Mach_doReckoning_12 rfl rfl) ?_
    refine xW_gR O f_Mach_7 d_Mach_doReckoning_13 (fun v5 _ => ?_)
    refine xW_pure (fun _ _ _ _ _ => am_iload_n d_Mach_doReckoning_16 rfl rfl) ?_
    refine xW_aL O d_Mach_doReckoning_17 (fun v6 _ => ?_)
    refine xW_pure (fun _ _ _ _ _ => am_aload_n d_Mach_doReckoning_18 rfl rfl) ?_
    refine xW_gR O f_Mach_7 d_Mach_doReckoning_19 (fun v7 _ => ?_)
    refine xW_pure (fun _ _ _ _ _ => am_iload_n d_Mach_doReckoning_22 rfl rfl) ?_
    refine xW_aL O d_Mach_doReckoning_23 (fun v8 _ => ?_)
    refine xW_pure (fun _ _ _ _ _ => am_lcmp d_Mach_doReckoning_24) ?_
    refine xW_ite (fun _ _ _ _ _ k1 k2 => am_if_ne (tgt := 48) d_Mach_doReckoning_25 (by decide) k2 k1) (fun _ => ?_) (fun _ => ?_)
    · refine xW_pure (fun _ _ _ _ _ => am_aload_n d_Mach_doReckoning_28 rfl rfl) ?_
      refine xW_gR O f_Mach_13 d_Mach_doReckoning_29 (fun v9 _ => ?_)
      refine xW_pure (fun _ _ _ _ _ => am_iload_n d_Mach_doReckoning_32 rfl rfl) ?_
      refine xW_aL O d_Mach_doReckoning_33 (fun v10 _ => ?_)
      refine xW_pure (fun _ _ _ _ _ => am_aload_n d_Mach_doReckoning_34 rfl rfl) ?_
      refine xW_gR O f_Mach_13 d_Mach_doReckoning_35 (fun v11 _ => ?_)
      refine xW_pure (fun _ _ _ _ _ => am_iload_n d_Mach_doReckoning_38 rfl rfl) ?_
      refine xW_aL O d_Mach_doReckoning_39 (fun v12 _ => ?_)
      refine xW_pure (fun _ _ _ _ _ => am_lcmp d_Mach_doReckoning_40) ?_
      refine xW_ite (fun _ _ _ _ _ k1 k2 => am_if_ne (tgt := 48) d_Mach_doReckoning_41 (by decide) k2 k1) (fun _ => ?_) (fun _ => ?_)
      · refine xW_pure (fun _ _ _ _ _ => am_iconst (v := 1) d_Mach_doReckoning_44 (by decide)) ?_
        refine xW_pure (fun _ _ _ _ _ => am_goto (tgt := 49) d_Mach_doReckoning_45 (by decide)) ?_
        refine xW_locs (lv' := [(0, .ref x0), (1, .int x1), (2, .int v2), (3, .int v4)]) rfl ?_
        exact dx_Mach_doReckoning_b49 O T
      · refine xW_locs (lv' := [(0, .ref x0), (1, .int x1), (2, .int v2), (3, .int v4)]) rfl ?_
        exact dx_Mach_doReckoning_b48 O T
    · refine xW_locs (lv' := [(0, .ref x0), (1, .int x1), (2, .int v2), (3, .int v4)]) rfl ?_
      exact dx_Mach_doReckoning_b48 O T

theorem ob_Mach_doReckoning {d : Nat} {x0 : Nat} {x1 : Int32} {s : HS} {y : Unit × HS} (h : x_Mach_doReckoning d x0 x1 s = some y) : isO s x0 6 = true := by
  cases d with
  | zero => cases h
  | succ d => exact (gd_spec h).1

set_option maxRecDepth 100000 in
def x_Stow_sweep (d : Nat) (x0 : Nat) (s : HS) : Option (Int32 × HS) := match d with
  | 0 => none
  | d + 1 => gd s x0 9 ((gR s x0 9 5).bind fun v1 => (bnd (x_Log_workCopy d v1 s) fun v3 s2 => ((gR s2 x0 9 6).bind fun v4 => (bnd (x_Sweep_clean d v4 v3 s2) fun v6 s5 => (if v6 ≤ 0 then (some (v6, s5)) else ((gR s5 x0 9 5).bind fun v7 => (bnd (x_Log_append d v7 8 s5) fun v9 s8 => (some (v6, s8)))))))))

set_option maxRecDepth 100000 in
set_option maxHeartbeats 4000000 in
theorem dx_Stow_sweep (O : am_ok K X) (T : am_T K) {d : Nat} {x0 : Nat} {s : HS} : xM cvI K X m_Stow_sweep d [.ref x0] s (x_Stow_sweep d x0 s) := by
  cases d with
  | zero => exact xM_none
  | succ d =>
    unfold x_Stow_sweep
    refine xM_enter (by decide +kernel) (Nat.le_of_ble_eq_true rfl) ?_
    refine xW_gd (fun _ => ?_)
    refine xW_pure (fun _ _ _ _ _ => am_aload_n d_Stow_sweep_0 rfl rfl) ?_
    refine xW_gR O f_Stow_37 d_Stow_sweep_1 (fun v1 _ => ?_)
    refine xW_callV O (dx_Log_workCopy O T) (fun _ e => ob_Log_workCopy e) rfl rfl rfl l_Stow_66 ⟨w_954, w_955⟩ rfl (Nat.le_of_ble_eq_true rfl) d_Stow_sweep_4 (fun v3 s2 _ => ?_)
    refine xW_pure (fun _ _ _ _ _ => am_astore_n d_Stow_sweep_7 rfl (Nat.le_of_ble_eq_true rfl)) ?_
    refine xW_pure (fun _ _ _ _ _ => am_aload_n d_Stow_sweep_8 rfl rfl) ?_
    refine xW_gR O f_Stow_44 d_Stow_sweep_9 (fun v4 _ => ?_)
    refine xW_pure (fun _ _ _ _ _ => am_aload_n d_Stow_sweep_12 rfl rfl) ?_
    refine xW_callV O (dx_Sweep_clean O T) (fun _ e => ob_Sweep_clean e) rfl rfl rfl l_Stow_181 ⟨w_1431, w_1432⟩ rfl (Nat.le_of_ble_eq_true rfl) d_Stow_sweep_13 (fun v6 s5 _ => ?_)
    refine xW_pure (fun _ _ _ _ _ => am_istore_n d_Stow_sweep_16 rfl (Nat.le_of_ble_eq_true rfl)) ?_
    refine xW_pure (fun _ _ _ _ _ => am_iload_n d_Stow_sweep_17 rfl rfl) ?_
    refine xW_ite (fun _ _ _ _ _ => am_if_le (tgt := 30) d_Stow_sweep_18 (by decide)) (fun _ => ?_) (fun _ => ?_)
    · refine xW_pure (fun _ _ _ _ _ => am_iload_n d_Stow_sweep_30 rfl rfl) ?_
      exact xW_ret (fun _ _ _ _ _ => am_iret rfl d_Stow_sweep_31)
    · refine xW_pure (fun _ _ _ _ _ => am_aload_n d_Stow_sweep_21 rfl rfl) ?_
      refine xW_gR O f_Stow_37 d_Stow_sweep_22 (fun v7 _ => ?_)
      refine xW_pure (fun _ _ _ _ _ => am_bipush (v := 8) d_Stow_sweep_25 (by decide)) ?_
      refine xW_callV O (dx_Log_append O T) (fun _ e => ob_Log_append e) rfl rfl rfl l_Stow_113 ⟨w_1359, w_1360⟩ rfl (Nat.le_of_ble_eq_true rfl) d_Stow_sweep_27 (fun v9 s8 _ => ?_)
      refine xW_pure (fun _ _ _ _ _ => am_iload_n d_Stow_sweep_30 rfl rfl) ?_
      exact xW_ret (fun _ _ _ _ _ => am_iret rfl d_Stow_sweep_31)

theorem ob_Stow_sweep {d : Nat} {x0 : Nat} {s : HS} {y : Int32 × HS} (h : x_Stow_sweep d x0 s = some y) : isO s x0 9 = true := by
  cases d with
  | zero => cases h
  | succ d => exact (gd_spec h).1

set_option maxRecDepth 100000 in
def x_Mod_go_ (d : Nat) (x0 : Nat) (s : HS) : Option (Int32 × HS) := match d with
  | 0 => none
  | d + 1 => gd s x0 14 ((pV s x0 14 41 (.int 0)).bind fun s1 => ((pV s1 x0 14 42 (.int 0)).bind fun s2 => ((pV s2 x0 14 45 (.int 0)).bind fun s3 => ((gR s3 x0 14 12).bind fun v4 => (bnd (x_Mod_enter d x0 v4 0 s3) fun v6 s5 => (loopK (fun (again26 : Int32 × HS → Option (Int32 × HS)) (z26 : Int32 × HS) => (if 0 ≤ z26.1 then (some (z26.1, z26.2)) else (bnd (x_Mod_one d x0 z26.2) fun v8 s7 => (again26 (v8, s7))))) FU ((-1), s5)))))))

set_option maxRecDepth 100000 in
set_option maxHeartbeats 4000000 in
theorem dx_Mod_go_ (O : am_ok K X) (T : am_T K) {d : Nat} {x0 : Nat} {s : HS} : xM cvI K X m_Mod_go_ d [.ref x0] s (x_Mod_go_ d x0 s) := by
  cases d with
  | zero => exact xM_none
  | succ d =>
    unfold x_Mod_go_
    refine xM_enter (by decide +kernel) (Nat.le_of_ble_eq_true rfl) ?_
    refine xW_gd (fun _ => ?_)
    refine xW_pure (fun _ _ _ _ _ => am_aload_n d_Mod_go__0 rfl rfl) ?_
    refine xW_pure (fun _ _ _ _ _ => am_iconst (v := 0) d_Mod_go__1 (by decide)) ?_
    refine xW_put O f_Mod_486 d_Mod_go__2 (fun q hq => by cases hq; exact ⟨rfl, rfl, rfl⟩) (fun s1 _ => ?_)
    refine xW_pure (fun _ _ _ _ _ => am_aload_n d_Mod_go__5 rfl rfl) ?_
    refine xW_pure (fun _ _ _ _ _ => am_iconst (v := 0) d_Mod_go__6 (by decide)) ?_
    refine xW_put O f_Mod_489 d_Mod_go__7 (fun q hq => by cases hq; exact ⟨rfl, rfl, rfl⟩) (fun s2 _ => ?_)
    refine xW_pure (fun _ _ _ _ _ => am_aload_n d_Mod_go__10 rfl rfl) ?_
    refine xW_pure (fun _ _ _ _ _ => am_iconst (v := 0) d_Mod_go__11 (by decide)) ?_
    refine xW_put O f_Mod_492 d_Mod_go__12 (fun q hq => by cases hq; exact ⟨rfl, rfl, rfl⟩) (fun s3 _ => ?_)
    refine xW_pure (fun _ _ _ _ _ => am_aload_n d_Mod_go__15 rfl rfl) ?_
    refine xW_pure (fun _ _ _ _ _ => am_aload_n d_Mod_go__16 rfl rfl) ?_
    refine xW_gR O f_Mod_143 d_Mod_go__17 (fun v4 _ => ?_)
    refine xW_pure (fun _ _ _ _ _ => am_iconst (v := 0) d_Mod_go__20 (by decide)) ?_
    refine xW_callV O (dx_Mod_enter O T) (fun _ e => ob_Mod_enter e) rfl rfl rfl l_Mod_495 ⟨w_2027, w_118⟩ rfl (Nat.le_of_ble_eq_true rfl) d_Mod_go__21 (fun v6 s5 _ => ?_)
    refine xW_pure (fun _ _ _ _ _ => am_iconst (v := (-1)) d_Mod_go__24 (by decide)) ?_
    refine xW_pure (fun _ _ _ _ _ => am_istore_n d_Mod_go__25 rfl (Nat.le_of_ble_eq_true rfl)) ?_
    refine xW_locs (lv' := [(0, .ref x0), (1, .int (-1))]) rfl ?_
    refine xW_loop (lvf := fun (z26 : Int32 × HS) => [(0, .ref x0), (1, .int z26.1)]) (hsf := fun (z26 : Int32 × HS) => z26.2) (fun again26 ih26 z26 => ?_) FU ((-1), s5)
    refine xW_pure (fun _ _ _ _ _ => am_iload_n d_Mod_go__26 rfl rfl) ?_
    refine xW_ite (fun _ _ _ _ _ => am_if_ge (tgt := 38) d_Mod_go__27 (by decide)) (fun _ => ?_) (fun _ => ?_)
    · refine xW_pure (fun _ _ _ _ _ => am_iload_n d_Mod_go__38 rfl rfl) ?_
      exact xW_ret (fun _ _ _ _ _ => am_iret rfl d_Mod_go__39)
    · refine xW_pure (fun _ _ _ _ _ => am_aload_n d_Mod_go__30 rfl rfl) ?_
      refine xW_callV O (dx_Mod_one O T) (fun _ e => ob_Mod_one e) rfl rfl rfl l_Mod_499 ⟨w_2032, w_119⟩ rfl (Nat.le_of_ble_eq_true rfl) d_Mod_go__31 (fun v8 s7 _ => ?_)
      refine xW_pure (fun _ _ _ _ _ => am_istore_n d_Mod_go__34 rfl (Nat.le_of_ble_eq_true rfl)) ?_
      refine xW_pure (fun _ _ _ _ _ => am_goto (tgt := 26) d_Mod_go__35 (by decide)) ?_
      refine xW_locs (lv' := [(0, .ref x0), (1, .int v8)]) rfl ?_
      exact ih26 (v8, s7)

theorem ob_Mod_go_ {d : Nat} {x0 : Nat} {s : HS} {y : Int32 × HS} (h : x_Mod_go_ d x0 s = some y) : isO s x0 14 = true := by
  cases d with
  | zero => cases h
  | succ d => exact (gd_spec h).1

set_option maxRecDepth 100000 in
def x_Mach_doFlow (d : Nat) (x0 : Nat) (x1 : Int32) (x2 : Int32) (s : HS) : Option (Unit × HS) := match d with
  | 0 => none
  | d + 1 => gd s x0 6 (bnd (x_Mach_below d x0 1 s) fun v2 s1 => ((gR s1 x0 6 0).bind fun v3 => ((aL s1 v3 v2).bind fun v4 => ((gR s1 x0 6 1).bind fun v5 => ((aL s1 v5 v2).bind fun v6 => (bnd (x_Cell_isTrue d v4 v6 s1) fun v8 s7 => (if x1 = 0 then (bnd (x_Mach_burn d x0 s7) fun v10 s9 => (some ((), s9))) else (if x1 = 1 then ((pV s7 x0 6 5 (.int x2)).bind fun s11 => (some ((), s11))) else (if x1 = 2 then ((pV s7 x0 6 2 (.int v2)).bind fun s12 => (if v8 = 0 then ((pV s12 x0 6 5 (.int x2)).bind fun s13 => (some ((), s13))) else ((gI s12 x0 6 5).bind fun v14 => ((pV s12 x0 6 5 (.int v14)).bind fun s15 => (some ((), s15)))))) else (if x1 = 3 then (bnd (x_Mach_keepLeft d x0 v8 x2 s7) fun v17 s16 => (some ((), s16))) else (if x1 = 4 then (if v8 = 0 then (bnd (x_Mach_keepLeft d x0 1 x2 s7) fun v19 s18 => (some ((), s18))) else (bnd (x_Mach_keepLeft d x0 0 x2 s7) fun v21 s20 => (some ((), s20)))) else (if x1 = 5 then ((gR s7 x0 6 4).bind fun v22 => (bnd (x_Unit_constant d v22 x2 s7) fun v24 s23 => ((gR s23 x0 6 4).bind fun v25 => (bnd (x_Unit_constant d v25 (x2 + 1) s23) fun v27 s26 => (bnd (x_Mach_call d x0 v24 (v27 : Int64).toInt32 s26) fun v29 s28 => (some ((), s28))))))) else (if x1 = 6 then (bnd (x_Mach_leave d x0 s7) fun v31 s30 => (some ((), s30))) else (if x1 = 7 then (bnd (x_Mach_fail d x0 10 s7) fun v33 s32 => (some ((), s32))) else (if x1 = 8 then ((pV s7 x0 6 2 (.int v2)).bind fun s34 => (some ((), s34))) else ((pV s7 x0 6 2 (.int v2)).bind fun s35 => (bnd (x_Mach_print d x0 v2 s35) fun v37 s36 => (some ((), s36)))))))))))))))))))

set_option maxRecDepth 100000 in
set_option maxHeartbeats 4000000 in
theorem dx_Mach_doFlow (O : am_ok K X) (T : am_T K) {d : Nat} {x0 : Nat} {x1 : Int32} {x2 : Int32} {s : HS} : xM cvU K X m_Mach_doFlow d [.ref x0, .int x1, .int x2] s (x_Mach_doFlow d x0 x1 x2 s) := by
  cases d with
  | zero => exact xM_none
  | succ d =>
    unfold x_Mach_doFlow
    refine xM_enter (by decide +kernel) (Nat.le_of_ble_eq_true rfl) ?_
    refine xW_gd (fun _ => ?_)
    refine xW_pure (fun _ _ _ _ _ => am_aload_n d_Mach_doFlow_0 rfl rfl) ?_
    refine xW_pure (fun _ _ _ _ _ => am_iconst (v := 1) d_Mach_doFlow_1 (by decide)) ?_
    refine xW_callV O (dx_Mach_below O T) (fun _ e => ob_Mach_below e) rfl rfl rfl l_Mach_133 ⟨w_1071, w_43⟩ rfl (Nat.le_of_ble_eq_true rfl) d_Mach_doFlow_2 (fun v2 s1 _ => ?_)
    refine xW_pure (fun _ _ _ _ _ => am_istore_n d_Mach_doFlow_5 rfl (Nat.le_of_ble_eq_true rfl)) ?_
    refine xW_pure (fun _ _ _ _ _ => am_aload_n d_Mach_doFlow_6 rfl rfl) ?_
    refine xW_gR O f_Mach_7 d_Mach_doFlow_7 (fun v3 _ => ?_)
    refine xW_pure (fun _ _ _ _ _ => am_iload_n d_Mach_doFlow_10 rfl rfl) ?_
    refine xW_aL O d_Mach_doFlow_11 (fun v4 _ => ?_)
    refine xW_pure (fun _ _ _ _ _ => am_aload_n d_Mach_doFlow_12 rfl rfl) ?_
    refine xW_gR O f_Mach_13 d_Mach_doFlow_13 (fun v5 _ => ?_)
    refine xW_pure (fun _ _ _ _ _ => am_iload_n d_Mach_doFlow_16 rfl rfl) ?_
    refine xW_aL O d_Mach_doFlow_17 (fun v6 _ => ?_)
    refine xW_callS O (dx_Cell_isTrue O T) rfl l_Mach_136 w_1101 rfl (Nat.le_of_ble_eq_true rfl) d_Mach_doFlow_18 (fun v8 s7 _ => ?_)
    refine xW_pure (fun _ _ _ _ _ => am_istore d_Mach_doFlow_21 (Nat.le_of_ble_eq_true rfl)) ?_
    refine xW_pure (fun _ _ _ _ _ => am_iload_n d_Mach_doFlow_23 rfl rfl) ?_
    refine xW_by (fun c24_0 => ?_) (fun c24_0 => ?_)
    · refine xW_pure (fun _ _ _ _ _ => am_tableIn (off := 52) (tgt := 76) d_Mach_doFlow_24 (by rw [c24_0]; decide) (by rw [c24_0]; decide) (by rw [c24_0]; rfl) (by decide)) ?_
      refine xW_pure (fun _ _ _ _ _ => am_aload_n d_Mach_doFlow_76 rfl rfl) ?_
      refine xW_callV O (dx_Mach_burn O T) (fun _ e => ob_Mach_burn e) rfl rfl rfl l_Mach_140 ⟨w_1108, w_47⟩ rfl (Nat.le_of_ble_eq_true rfl) d_Mach_doFlow_77 (fun v10 s9 _ => ?_)
      refine xW_pure (fun _ _ _ _ _ => am_pop d_Mach_doFlow_80 rfl) ?_
      refine xW_pure (fun _ _ _ _ _ => am_goto (tgt := 205) d_Mach_doFlow_81 (by decide)) ?_
      exact xW_ret (fun _ _ _ _ _ => am_vret rfl d_Mach_doFlow_205)
    · refine xW_by (fun c24_1 => ?_) (fun c24_1 => ?_)
      · refine xW_pure (fun _ _ _ _ _ => am_tableIn (off := 60) (tgt := 84) d_Mach_doFlow_24 (by rw [c24_1]; decide) (by rw [c24_1]; decide) (by rw [c24_1]; rfl) (by decide)) ?_
        refine xW_pure (fun _ _ _ _ _ => am_aload_n d_Mach_doFlow_84 rfl rfl) ?_
        refine xW_pure (fun _ _ _ _ _ => am_iload_n d_Mach_doFlow_85 rfl rfl) ?_
        refine xW_put O f_Mach_66 d_Mach_doFlow_86 (fun q hq => by cases hq; exact ⟨rfl, rfl, rfl⟩) (fun s11 _ => ?_)
        refine xW_pure (fun _ _ _ _ _ => am_goto (tgt := 205) d_Mach_doFlow_89 (by decide)) ?_
        exact xW_ret (fun _ _ _ _ _ => am_vret rfl d_Mach_doFlow_205)
      · refine xW_by (fun c24_2 => ?_) (fun c24_2 => ?_)
        · refine xW_pure (fun _ _ _ _ _ => am_tableIn (off := 68) (tgt := 92) d_Mach_doFlow_24 (by rw [c24_2]; decide) (by rw [c24_2]; decide) (by rw [c24_2]; rfl) (by decide)) ?_
          refine xW_pure (fun _ _ _ _ _ => am_aload_n d_Mach_doFlow_92 rfl rfl) ?_
          refine xW_pure (fun _ _ _ _ _ => am_iload_n d_Mach_doFlow_93 rfl rfl) ?_
          refine xW_put O f_Mach_54 d_Mach_doFlow_94 (fun q hq => by cases hq; exact ⟨rfl, rfl, rfl⟩) (fun s12 _ => ?_)
          refine xW_pure (fun _ _ _ _ _ => am_aload_n d_Mach_doFlow_97 rfl rfl) ?_
          refine xW_pure (fun _ _ _ _ _ => am_iload d_Mach_doFlow_98 rfl) ?_
          refine xW_ite (fun _ _ _ _ _ => am_if_eq (tgt := 110) d_Mach_doFlow_100 (by decide)) (fun _ => ?_) (fun _ => ?_)
          · refine xW_pure (fun _ _ _ _ _ => am_iload_n d_Mach_doFlow_110 rfl rfl) ?_
            refine xW_put O f_Mach_66 d_Mach_doFlow_111 (fun q hq => by cases hq; exact ⟨rfl, rfl, rfl⟩) (fun s13 _ => ?_)
            refine xW_pure (fun _ _ _ _ _ => am_goto (tgt := 205) d_Mach_doFlow_114 (by decide)) ?_
            exact xW_ret (fun _ _ _ _ _ => am_vret rfl d_Mach_doFlow_205)
          · refine xW_pure (fun _ _ _ _ _ => am_aload_n d_Mach_doFlow_103 rfl rfl) ?_
            refine xW_gI O f_Mach_66 d_Mach_doFlow_104 (fun v14 _ => ?_)
            refine xW_pure (fun _ _ _ _ _ => am_goto (tgt := 111) d_Mach_doFlow_107 (by decide)) ?_
            refine xW_put O f_Mach_66 d_Mach_doFlow_111 (fun q hq => by cases hq; exact ⟨rfl, rfl, rfl⟩) (fun s15 _ => ?_)
            refine xW_pure (fun _ _ _ _ _ => am_goto (tgt := 205) d_Mach_doFlow_114 (by decide)) ?_
            exact xW_ret (fun _ _ _ _ _ => am_vret rfl d_Mach_doFlow_205)
        · refine xW_by (fun c24_3 => ?_) (fun c24_3 => ?_)
          · refine xW_pure (fun _ _ _ _ _ => am_tableIn (off := 93) (tgt := 117) d_Mach_doFlow_24 (by rw [c24_3]; decide) (by rw [c24_3]; decide) (by rw [c24_3]; rfl) (by decide)) ?_
            refine xW_pure (fun _ _ _ _ _ => am_aload_n d_Mach_doFlow_117 rfl rfl) ?_
            refine xW_pure (fun _ _ _ _ _ => am_iload d_Mach_doFlow_118 rfl) ?_
            refine xW_pure (fun _ _ _ _ _ => am_iload_n d_Mach_doFlow_120 rfl rfl) ?_
            refine xW_callV O (dx_Mach_keepLeft O T) (fun _ e => ob_Mach_keepLeft e) rfl rfl rfl l_Mach_144 ⟨w_1112, w_48⟩ rfl (Nat.le_of_ble_eq_true rfl) d_Mach_doFlow_121 (fun v17 s16 _ => ?_)
            refine xW_pure (fun _ _ _ _ _ => am_goto (tgt := 205) d_Mach_doFlow_124 (by decide)) ?_
            exact xW_ret (fun _ _ _ _ _ => am_vret rfl d_Mach_doFlow_205)
          · refine xW_by (fun c24_4 => ?_) (fun c24_4 => ?_)
            · refine xW_pure (fun _ _ _ _ _ => am_tableIn (off := 103) (tgt := 127) d_Mach_doFlow_24 (by rw [c24_4]; decide) (by rw [c24_4]; decide) (by rw [c24_4]; rfl) (by decide)) ?_
              refine xW_pure (fun _ _ _ _ _ => am_aload_n d_Mach_doFlow_127 rfl rfl) ?_
              refine xW_pure (fun _ _ _ _ _ => am_iload d_Mach_doFlow_128 rfl) ?_
              refine xW_ite (fun _ _ _ _ _ k1 k2 => am_if_ne (tgt := 137) d_Mach_doFlow_130 (by decide) k2 k1) (fun _ => ?_) (fun _ => ?_)
              · refine xW_pure (fun _ _ _ _ _ => am_iconst (v := 1) d_Mach_doFlow_133 (by decide)) ?_
                refine xW_pure (fun _ _ _ _ _ => am_goto (tgt := 138) d_Mach_doFlow_134 (by decide)) ?_
                refine xW_pure (fun _ _ _ _ _ => am_iload_n d_Mach_doFlow_138 rfl rfl) ?_
                refine xW_callV O (dx_Mach_keepLeft O T) (fun _ e => ob_Mach_keepLeft e) rfl rfl rfl l_Mach_144 ⟨w_1112, w_48⟩ rfl (Nat.le_of_ble_eq_true rfl) d_Mach_doFlow_139 (fun v19 s18 _ => ?_)
                refine xW_pure (fun _ _ _ _ _ => am_goto (tgt := 205) d_Mach_doFlow_142 (by decide)) ?_
                exact xW_ret (fun _ _ _ _ _ => am_vret rfl d_Mach_doFlow_205)
              · refine xW_pure (fun _ _ _ _ _ => am_iconst (v := 0) d_Mach_doFlow_137 (by decide)) ?_
                refine xW_pure (fun _ _ _ _ _ => am_iload_n d_Mach_doFlow_138 rfl rfl) ?_
                refine xW_callV O (dx_Mach_keepLeft O T) (fun _ e => ob_Mach_keepLeft e) rfl rfl rfl l_Mach_144 ⟨w_1112, w_48⟩ rfl (Nat.le_of_ble_eq_true rfl) d_Mach_doFlow_139 (fun v21 s20 _ => ?_)
                refine xW_pure (fun _ _ _ _ _ => am_goto (tgt := 205) d_Mach_doFlow_142 (by decide)) ?_
                exact xW_ret (fun _ _ _ _ _ => am_vret rfl d_Mach_doFlow_205)
            · refine xW_by (fun c24_5 => ?_) (fun c24_5 => ?_)
              · refine xW_pure (fun _ _ _ _ _ => am_tableIn (off := 121) (tgt := 145) d_Mach_doFlow_24 (by rw [c24_5]; decide) (by rw [c24_5]; decide) (by rw [c24_5]; rfl) (by decide)) ?_
                refine xW_pure (fun _ _ _ _ _ => am_aload_n d_Mach_doFlow_145 rfl rfl) ?_
                refine xW_pure (fun _ _ _ _ _ => am_aload_n d_Mach_doFlow_146 rfl rfl) ?_
                refine xW_gR O f_Mach_62 d_Mach_doFlow_147 (fun v22 _ => ?_)
                refine xW_pure (fun _ _ _ _ _ => am_iload_n d_Mach_doFlow_150 rfl rfl) ?_
                refine xW_callV O (dx_Unit_constant O T) (fun _ e => ob_Unit_constant e) rfl rfl rfl l_Mach_148 ⟨w_1115, w_1116⟩ rfl (Nat.le_of_ble_eq_true rfl) d_Mach_doFlow_151 (fun v24 s23 _ => ?_)
                refine xW_pure (fun _ _ _ _ _ => am_aload_n d_Mach_doFlow_154 rfl rfl) ?_
                refine xW_gR O f_Mach_62 d_Mach_doFlow_155 (fun v25 _ => ?_)
                refine xW_pure (fun _ _ _ _ _ => am_iload_n d_Mach_doFlow_158 rfl rfl) ?_
                refine xW_pure (fun _ _ _ _ _ => am_iconst (v := 1) d_Mach_doFlow_159 (by decide)) ?_
                refine xW_pure (fun _ _ _ _ _ => am_iadd d_Mach_doFlow_160) ?_
                refine xW_callV O (dx_Unit_constant O T) (fun _ e => ob_Unit_constant e) rfl rfl rfl l_Mach_148 ⟨w_1115, w_1116⟩ rfl (Nat.le_of_ble_eq_true rfl) d_Mach_doFlow_161 (fun v27 s26 _ => ?_)
                refine xW_pure (fun _ _ _ _ _ => am_l2i d_Mach_doFlow_164 rfl) ?_
                refine xW_callV O (dx_Mach_call O T) (fun _ e => ob_Mach_call e) rfl rfl rfl l_Mach_151 ⟨w_1120, w_49⟩ rfl (Nat.le_of_ble_eq_true rfl) d_Mach_doFlow_165 (fun v29 s28 _ => ?_)
                refine xW_pure (fun _ _ _ _ _ => am_goto (tgt := 205) d_Mach_doFlow_168 (by decide)) ?_
                exact xW_ret (fun _ _ _ _ _ => am_vret rfl d_Mach_doFlow_205)
              · refine xW_by (fun c24_6 => ?_) (fun c24_6 => ?_)
                · refine xW_pure (fun _ _ _ _ _ => am_tableIn (off := 147) (tgt := 171) d_Mach_doFlow_24 (by rw [c24_6]; decide) (by rw [c24_6]; decide) (by rw [c24_6]; rfl) (by decide)) ?_
                  refine xW_pure (fun _ _ _ _ _ => am_aload_n d_Mach_doFlow_171 rfl rfl) ?_
                  refine xW_callV O (dx_Mach_leave O T) (fun _ e => ob_Mach_leave e) rfl rfl rfl l_Mach_155 ⟨w_1132, w_50⟩ rfl (Nat.le_of_ble_eq_true rfl) d_Mach_doFlow_172 (fun v31 s30 _ => ?_)
                  refine xW_pure (fun _ _ _ _ _ => am_goto (tgt := 205) d_Mach_doFlow_175 (by decide)) ?_
                  exact xW_ret (fun _ _ _ _ _ => am_vret rfl d_Mach_doFlow_205)
                · refine xW_by (fun c24_7 => ?_) (fun c24_7 => ?_)
                  · refine xW_pure (fun _ _ _ _ _ => am_tableIn (off := 154) (tgt := 178) d_Mach_doFlow_24 (by rw [c24_7]; decide) (by rw [c24_7]; decide) (by rw [c24_7]; rfl) (by decide)) ?_
                    refine xW_pure (fun _ _ _ _ _ => am_aload_n d_Mach_doFlow_178 rfl rfl) ?_
                    refine xW_pure (fun _ _ _ _ _ => am_bipush (v := 10) d_Mach_doFlow_179 (by decide)) ?_
                    refine xW_callV O (dx_Mach_fail O T) (fun _ e => ob_Mach_fail e) rfl rfl rfl l_Mach_106 ⟨w_1084, w_45⟩ rfl (Nat.le_of_ble_eq_true rfl) d_Mach_doFlow_181 (fun v33 s32 _ => ?_)
                    refine xW_pure (fun _ _ _ _ _ => am_goto (tgt := 205) d_Mach_doFlow_184 (by decide)) ?_
                    exact xW_ret (fun _ _ _ _ _ => am_vret rfl d_Mach_doFlow_205)
                  · refine xW_by (fun c24_8 => ?_) (fun c24_8 => ?_)
                    · refine xW_pure (fun _ _ _ _ _ => am_tableIn (off := 163) (tgt := 187) d_Mach_doFlow_24 (by rw [c24_8]; decide) (by rw [c24_8]; decide) (by rw [c24_8]; rfl) (by decide)) ?_
                      refine xW_pure (fun _ _ _ _ _ => am_aload_n d_Mach_doFlow_187 rfl rfl) ?_
                      refine xW_pure (fun _ _ _ _ _ => am_iload_n d_Mach_doFlow_188 rfl rfl) ?_
                      refine xW_put O f_Mach_54 d_Mach_doFlow_189 (fun q hq => by cases hq; exact ⟨rfl, rfl, rfl⟩) (fun s34 _ => ?_)
                      refine xW_pure (fun _ _ _ _ _ => am_goto (tgt := 205) d_Mach_doFlow_192 (by decide)) ?_
                      exact xW_ret (fun _ _ _ _ _ => am_vret rfl d_Mach_doFlow_205)
                    · have e24_0 := lk_ne c24_0 (show (0 : Int32).toInt = 0 by decide)
                      have e24_1 := lk_ne c24_1 (show (1 : Int32).toInt = 1 by decide)
                      have e24_2 := lk_ne c24_2 (show (2 : Int32).toInt = 2 by decide)
                      have e24_3 := lk_ne c24_3 (show (3 : Int32).toInt = 3 by decide)
                      have e24_4 := lk_ne c24_4 (show (4 : Int32).toInt = 4 by decide)
                      have e24_5 := lk_ne c24_5 (show (5 : Int32).toInt = 5 by decide)
                      have e24_6 := lk_ne c24_6 (show (6 : Int32).toInt = 6 by decide)
                      have e24_7 := lk_ne c24_7 (show (7 : Int32).toInt = 7 by decide)
                      have e24_8 := lk_ne c24_8 (show (8 : Int32).toInt = 8 by decide)
                      refine xW_pure (fun _ _ _ _ _ => am_tableOut (tgt := 195) d_Mach_doFlow_24 (by omega) (by decide)) ?_
                      refine xW_pure (fun _ _ _ _ _ => am_aload_n d_Mach_doFlow_195 rfl rfl) ?_
                      refine xW_pure (fun _ _ _ _ _ => am_iload_n d_Mach_doFlow_196 rfl rfl) ?_
                      refine xW_put O f_Mach_54 d_Mach_doFlow_197 (fun q hq => by cases hq; exact ⟨rfl, rfl, rfl⟩) (fun s35 _ => ?_)
                      refine xW_pure (fun _ _ _ _ _ => am_aload_n d_Mach_doFlow_200 rfl rfl) ?_
                      refine xW_pure (fun _ _ _ _ _ => am_iload_n d_Mach_doFlow_201 rfl rfl) ?_
                      refine xW_callV O (dx_Mach_print O T) (fun _ e => ob_Mach_print e) rfl rfl rfl l_Mach_158 ⟨w_1136, w_51⟩ rfl (Nat.le_of_ble_eq_true rfl) d_Mach_doFlow_202 (fun v37 s36 _ => ?_)
                      exact xW_ret (fun _ _ _ _ _ => am_vret rfl d_Mach_doFlow_205)

theorem ob_Mach_doFlow {d : Nat} {x0 : Nat} {x1 : Int32} {x2 : Int32} {s : HS} {y : Unit × HS} (h : x_Mach_doFlow d x0 x1 x2 s = some y) : isO s x0 6 = true := by
  cases d with
  | zero => cases h
  | succ d => exact (gd_spec h).1

set_option maxRecDepth 100000 in
def x_Mach_doPlace (d : Nat) (x0 : Nat) (x1 : Int32) (x2 : Int32) (s : HS) : Option (Unit × HS) := match d with
  | 0 => none
  | d + 1 => gd s x0 6 (bnd (x_Mach_below d x0 1 s) fun v2 s1 => (if x1 = 13 then ((gR s1 x0 6 0).bind fun v3 => (bnd (x_Mach_localAt d x0 x2 s1) fun v5 s4 => ((aL s4 v3 v5).bind fun v6 => ((gR s4 x0 6 1).bind fun v7 => (bnd (x_Mach_localAt d x0 x2 s4) fun v9 s8 => ((aL s8 v7 v9).bind fun v10 => (bnd (x_Mach_lay d x0 v6 v10 s8) fun v12 s11 => (some ((), s11))))))))) else (if x1 = 14 then ((pV s1 x0 6 2 (.int v2)).bind fun s13 => ((gR s13 x0 6 0).bind fun v14 => (bnd (x_Mach_localAt d x0 x2 s13) fun v16 s15 => ((gR s15 x0 6 0).bind fun v17 => ((aL s15 v17 v2).bind fun v18 => ((sV s15 .long v14 v16 (.long v18)).bind fun s19 => ((gR s19 x0 6 1).bind fun v20 => (bnd (x_Mach_localAt d x0 x2 s19) fun v22 s21 => ((gR s21 x0 6 1).bind fun v23 => ((aL s21 v23 v2).bind fun v24 => ((sV s21 .long v20 v22 (.long v24)).bind fun s25 => (some ((), s25))))))))))))) else (if x1 = 15 then ((gR s1 x0 6 10).bind fun v26 => ((gR s1 x0 6 4).bind fun v27 => (bnd (x_Unit_constant d v27 x2 s1) fun v29 s28 => (bnd (x_Store_rootAt d v26 v29 s28) fun v31 s30 => (bnd (x_Mach_loadRoot d x0 v31 s30) fun v33 s32 => (some ((), s32))))))) else (if x1 = 16 then ((pV s1 x0 6 2 (.int v2)).bind fun s34 => ((gR s34 x0 6 10).bind fun v35 => ((gR s34 x0 6 4).bind fun v36 => (bnd (x_Unit_constant d v36 x2 s34) fun v38 s37 => ((gR s37 x0 6 0).bind fun v39 => ((aL s37 v39 v2).bind fun v40 => ((gR s37 x0 6 1).bind fun v41 => ((aL s37 v41 v2).bind fun v42 => (bnd (x_Store_setRoot d v35 v38 v40 v42 s37) fun v44 s43 => (if v44 = 0 then (bnd (x_Mach_fail d x0 8 s43) fun v46 s45 => (some ((), s45))) else (some ((), s43)))))))))))) else (if x1 = 17 then ((gR s1 x0 6 4).bind fun v47 => (bnd (x_Unit_constant d v47 x2 s1) fun v49 s48 => (bnd (x_Mach_loadField d x0 v49 s48) fun v51 s50 => (some ((), s50))))) else (if x1 = 18 then ((gR s1 x0 6 4).bind fun v52 => (bnd (x_Unit_constant d v52 x2 s1) fun v54 s53 => (bnd (x_Mach_storeField d x0 v54 s53) fun v56 s55 => (some ((), s55))))) else (if x1 = 19 then (bnd (x_Mach_loadItem d x0 s1) fun v58 s57 => (some ((), s57))) else (bnd (x_Mach_storeItem d x0 s1) fun v60 s59 => (some ((), s59)))))))))))

set_option maxRecDepth 100000 in
set_option maxHeartbeats 4000000 in
theorem dx_Mach_doPlace (O : am_ok K X) (T : am_T K) {d : Nat} {x0 : Nat} {x1 : Int32} {x2 : Int32} {s : HS} : xM cvU K X m_Mach_doPlace d [.ref x0, .int x1, .int x2] s (x_Mach_doPlace d x0 x1 x2 s) := by
  cases d with
  | zero => exact xM_none
  | succ d =>
    unfold x_Mach_doPlace
    refine xM_enter (by decide +kernel) (Nat.le_of_ble_eq_true rfl) ?_
    refine xW_gd (fun _ => ?_)
    refine xW_pure (fun _ _ _ _ _ => am_aload_n d_Mach_doPlace_0 rfl rfl) ?_
    refine xW_pure (fun _ _ _ _ _ => am_iconst (v := 1) d_Mach_doPlace_1 (by decide)) ?_
    refine xW_callV O (dx_Mach_below O T) (fun _ e => ob_Mach_below e) rfl rfl rfl l_Mach_133 ⟨w_1071, w_43⟩ rfl (Nat.le_of_ble_eq_true rfl) d_Mach_doPlace_2 (fun v2 s1 _ => ?_)
    refine xW_pure (fun _ _ _ _ _ => am_istore_n d_Mach_doPlace_5 rfl (Nat.le_of_ble_eq_true rfl)) ?_
    refine xW_pure (fun _ _ _ _ _ => am_iload_n d_Mach_doPlace_6 rfl rfl) ?_
    refine xW_by (fun c7_0 => ?_) (fun c7_0 => ?_)
    · refine xW_pure (fun _ _ _ _ _ => am_tableIn (off := 41) (tgt := 48) d_Mach_doPlace_7 (by rw [c7_0]; decide) (by rw [c7_0]; decide) (by rw [c7_0]; rfl) (by decide)) ?_
      refine xW_pure (fun _ _ _ _ _ => am_aload_n d_Mach_doPlace_48 rfl rfl) ?_
      refine xW_pure (fun _ _ _ _ _ => am_aload_n d_Mach_doPlace_49 rfl rfl) ?_
      refine xW_gR O f_Mach_7 d_Mach_doPlace_50 (fun v3 _ => ?_)
      refine xW_pure (fun _ _ _ _ _ => am_aload_n d_Mach_doPlace_53 rfl rfl) ?_
      refine xW_pure (fun _ _ _ _ _ => am_iload_n d_Mach_doPlace_54 rfl rfl) ?_
      refine xW_callV O (dx_Mach_localAt O T) (fun _ e => ob_Mach_localAt e) rfl rfl rfl l_Mach_194 ⟨w_1187, w_56⟩ rfl (Nat.le_of_ble_eq_true rfl) d_Mach_doPlace_55 (fun v5 s4 _ => ?_)
      refine xW_aL O d_Mach_doPlace_58 (fun v6 _ => ?_)
      refine xW_pure (fun _ _ _ _ _ => am_aload_n d_Mach_doPlace_59 rfl rfl) ?_
      refine xW_gR O f_Mach_13 d_Mach_doPlace_60 (fun v7 _ => ?_)
      refine xW_pure (fun _ _ _ _ _ => am_aload_n d_Mach_doPlace_63 rfl rfl) ?_
      refine xW_pure (fun _ _ _ _ _ => am_iload_n d_Mach_doPlace_64 rfl rfl) ?_
      refine xW_callV O (dx_Mach_localAt O T) (fun _ e => ob_Mach_localAt e) rfl rfl rfl l_Mach_194 ⟨w_1187, w_56⟩ rfl (Nat.le_of_ble_eq_true rfl) d_Mach_doPlace_65 (fun v9 s8 _ => ?_)
      refine xW_aL O d_Mach_doPlace_68 (fun v10 _ => ?_)
      refine xW_callV O (dx_Mach_lay O T) (fun _ e => ob_Mach_lay e) rfl rfl rfl l_Mach_121 ⟨w_1080, w_44⟩ rfl (Nat.le_of_ble_eq_true rfl) d_Mach_doPlace_69 (fun v12 s11 _ => ?_)
      refine xW_pure (fun _ _ _ _ _ => am_goto (tgt := 222) d_Mach_doPlace_72 (by decide)) ?_
      exact xW_ret (fun _ _ _ _ _ => am_vret rfl d_Mach_doPlace_222)
    · refine xW_by (fun c7_1 => ?_) (fun c7_1 => ?_)
      · refine xW_pure (fun _ _ _ _ _ => am_tableIn (off := 68) (tgt := 75) d_Mach_doPlace_7 (by rw [c7_1]; decide) (by rw [c7_1]; decide) (by rw [c7_1]; rfl) (by decide)) ?_
        refine xW_pure (fun _ _ _ _ _ => am_aload_n d_Mach_doPlace_75 rfl rfl) ?_
        refine xW_pure (fun _ _ _ _ _ => am_iload_n d_Mach_doPlace_76 rfl rfl) ?_
        refine xW_put O f_Mach_54 d_Mach_doPlace_77 (fun q hq => by cases hq; exact ⟨rfl, rfl, rfl⟩) (fun s13 _ => ?_)
        refine xW_pure (fun _ _ _ _ _ => am_aload_n d_Mach_doPlace_80 rfl rfl) ?_
        refine xW_gR O f_Mach_7 d_Mach_doPlace_81 (fun v14 _ => ?_)
        refine xW_pure (fun _ _ _ _ _ => am_aload_n d_Mach_doPlace_84 rfl rfl) ?_
        refine xW_pure (fun _ _ _ _ _ => am_iload_n d_Mach_doPlace_85 rfl rfl) ?_
        refine xW_callV O (dx_Mach_localAt O T) (fun _ e => ob_Mach_localAt e) rfl rfl rfl l_Mach_194 ⟨w_1187, w_56⟩ rfl (Nat.le_of_ble_eq_true rfl) d_Mach_doPlace_86 (fun v16 s15 _ => ?_)
        refine xW_pure (fun _ _ _ _ _ => am_aload_n d_Mach_doPlace_89 rfl rfl) ?_
        refine xW_gR O f_Mach_7 d_Mach_doPlace_90 (fun v17 _ => ?_)
        refine xW_pure (fun _ _ _ _ _ => am_iload_n d_Mach_doPlace_93 rfl rfl) ?_
        refine xW_aL O d_Mach_doPlace_94 (fun v18 _ => ?_)
        refine xW_sL O d_Mach_doPlace_95 (fun s19 _ => ?_)
        refine xW_pure (fun _ _ _ _ _ => am_aload_n d_Mach_doPlace_96 rfl rfl) ?_
        refine xW_gR O f_Mach_13 d_Mach_doPlace_97 (fun v20 _ => ?_)
        refine xW_pure (fun _ _ _ _ _ => am_aload_n d_Mach_doPlace_100 rfl rfl) ?_
        refine xW_pure (fun _ _ _ _ _ => am_iload_n d_Mach_doPlace_101 rfl rfl) ?_
        refine xW_callV O (dx_Mach_localAt O T) (fun _ e => ob_Mach_localAt e) rfl rfl rfl l_Mach_194 ⟨w_1187, w_56⟩ rfl (Nat.le_of_ble_eq_true rfl) d_Mach_doPlace_102 (fun v22 s21 _ => ?_)
        refine xW_pure (fun _ _ _ _ _ => am_aload_n d_Mach_doPlace_105 rfl rfl) ?_
        refine xW_gR O f_Mach_13 d_Mach_doPlace_106 (fun v23 _ => ?_)
        refine xW_pure (fun _ _ _ _ _ => am_iload_n d_Mach_doPlace_109 rfl rfl) ?_
        refine xW_aL O d_Mach_doPlace_110 (fun v24 _ => ?_)
        refine xW_sL O d_Mach_doPlace_111 (fun s25 _ => ?_)
        refine xW_pure (fun _ _ _ _ _ => am_goto (tgt := 222) d_Mach_doPlace_112 (by decide)) ?_
        exact xW_ret (fun _ _ _ _ _ => am_vret rfl d_Mach_doPlace_222)
      · refine xW_by (fun c7_2 => ?_) (fun c7_2 => ?_)
        · refine xW_pure (fun _ _ _ _ _ => am_tableIn (off := 108) (tgt := 115) d_Mach_doPlace_7 (by rw [c7_2]; decide) (by rw [c7_2]; decide) (by rw [c7_2]; rfl) (by decide)) ?_
          refine xW_pure (fun _ _ _ _ _ => am_aload_n d_Mach_doPlace_115 rfl rfl) ?_
          refine xW_pure (fun _ _ _ _ _ => am_aload_n d_Mach_doPlace_116 rfl rfl) ?_
          refine xW_gR O f_Mach_29 d_Mach_doPlace_117 (fun v26 _ => ?_)
          refine xW_pure (fun _ _ _ _ _ => am_aload_n d_Mach_doPlace_120 rfl rfl) ?_
          refine xW_gR O f_Mach_62 d_Mach_doPlace_121 (fun v27 _ => ?_)
          refine xW_pure (fun _ _ _ _ _ => am_iload_n d_Mach_doPlace_124 rfl rfl) ?_
          refine xW_callV O (dx_Unit_constant O T) (fun _ e => ob_Unit_constant e) rfl rfl rfl l_Mach_148 ⟨w_1115, w_1116⟩ rfl (Nat.le_of_ble_eq_true rfl) d_Mach_doPlace_125 (fun v29 s28 _ => ?_)
          refine xW_callV O (dx_Store_rootAt O T) (fun _ e => ob_Store_rootAt e) rfl rfl rfl l_Mach_197 ⟨w_1190, w_1191⟩ rfl (Nat.le_of_ble_eq_true rfl) d_Mach_doPlace_128 (fun v31 s30 _ => ?_)
          refine xW_callV O (dx_Mach_loadRoot O T) (fun _ e => ob_Mach_loadRoot e) rfl rfl rfl l_Mach_200 ⟨w_1195, w_57⟩ rfl (Nat.le_of_ble_eq_true rfl) d_Mach_doPlace_131 (fun v33 s32 _ => ?_)
          refine xW_pure (fun _ _ _ _ _ => am_goto (tgt := 222) d_Mach_doPlace_134 (by decide)) ?_
          exact xW_ret (fun _ _ _ _ _ => am_vret rfl d_Mach_doPlace_222)
        · refine xW_by (fun c7_3 => ?_) (fun c7_3 => ?_)
          · refine xW_pure (fun _ _ _ _ _ => am_tableIn (off := 130) (tgt := 137) d_Mach_doPlace_7 (by rw [c7_3]; decide) (by rw [c7_3]; decide) (by rw [c7_3]; rfl) (by decide)) ?_
            refine xW_pure (fun _ _ _ _ _ => am_aload_n d_Mach_doPlace_137 rfl rfl) ?_
            refine xW_pure (fun _ _ _ _ _ => am_iload_n d_Mach_doPlace_138 rfl rfl) ?_
            refine xW_put O f_Mach_54 d_Mach_doPlace_139 (fun q hq => by cases hq; exact ⟨rfl, rfl, rfl⟩) (fun s34 _ => ?_)
            refine xW_pure (fun _ _ _ _ _ => am_aload_n d_Mach_doPlace_142 rfl rfl) ?_
            refine xW_gR O f_Mach_29 d_Mach_doPlace_143 (fun v35 _ => ?_)
            refine xW_pure (fun _ _ _ _ _ => am_aload_n d_Mach_doPlace_146 rfl rfl) ?_
            refine xW_gR O f_Mach_62 d_Mach_doPlace_147 (fun v36 _ => ?_)
            refine xW_pure (fun _ _ _ _ _ => am_iload_n d_Mach_doPlace_150 rfl rfl) ?_
            refine xW_callV O (dx_Unit_constant O T) (fun _ e => ob_Unit_constant e) rfl rfl rfl l_Mach_148 ⟨w_1115, w_1116⟩ rfl (Nat.le_of_ble_eq_true rfl) d_Mach_doPlace_151 (fun v38 s37 _ => ?_)
            refine xW_pure (fun _ _ _ _ _ => am_aload_n d_Mach_doPlace_154 rfl rfl) ?_
            refine xW_gR O f_Mach_7 d_Mach_doPlace_155 (fun v39 _ => ?_)
            refine xW_pure (fun _ _ _ _ _ => am_iload_n d_Mach_doPlace_158 rfl rfl) ?_
            refine xW_aL O d_Mach_doPlace_159 (fun v40 _ => ?_)
            refine xW_pure (fun _ _ _ _ _ => am_aload_n d_Mach_doPlace_160 rfl rfl) ?_
            refine xW_gR O f_Mach_13 d_Mach_doPlace_161 (fun v41 _ => ?_)
            refine xW_pure (fun _ _ _ _ _ => am_iload_n d_Mach_doPlace_164 rfl rfl) ?_
            refine xW_aL O d_Mach_doPlace_165 (fun v42 _ => ?_)
            refine xW_callV O (dx_Store_setRoot O T) (fun _ e => ob_Store_setRoot e) rfl rfl rfl l_Mach_203 ⟨w_1198, w_1199⟩ rfl (Nat.le_of_ble_eq_true rfl) d_Mach_doPlace_166 (fun v44 s43 _ => ?_)
            refine xW_ite (fun _ _ _ _ _ k1 k2 => am_if_ne (tgt := 222) d_Mach_doPlace_169 (by decide) k2 k1) (fun _ => ?_) (fun _ => ?_)
            · refine xW_pure (fun _ _ _ _ _ => am_aload_n d_Mach_doPlace_172 rfl rfl) ?_
              refine xW_pure (fun _ _ _ _ _ => am_bipush (v := 8) d_Mach_doPlace_173 (by decide)) ?_
              refine xW_callV O (dx_Mach_fail O T) (fun _ e => ob_Mach_fail e) rfl rfl rfl l_Mach_106 ⟨w_1084, w_45⟩ rfl (Nat.le_of_ble_eq_true rfl) d_Mach_doPlace_175 (fun v46 s45 _ => ?_)
              refine xW_pure (fun _ _ _ _ _ => am_goto (tgt := 222) d_Mach_doPlace_178 (by decide)) ?_
              exact xW_ret (fun _ _ _ _ _ => am_vret rfl d_Mach_doPlace_222)
            · exact xW_ret (fun _ _ _ _ _ => am_vret rfl d_Mach_doPlace_222)
          · refine xW_by (fun c7_4 => ?_) (fun c7_4 => ?_)
            · refine xW_pure (fun _ _ _ _ _ => am_tableIn (off := 174) (tgt := 181) d_Mach_doPlace_7 (by rw [c7_4]; decide) (by rw [c7_4]; decide) (by rw [c7_4]; rfl) (by decide)) ?_
              refine xW_pure (fun _ _ _ _ _ => am_aload_n d_Mach_doPlace_181 rfl rfl) ?_
              refine xW_pure (fun _ _ _ _ _ => am_aload_n d_Mach_doPlace_182 rfl rfl) ?_
              refine xW_gR O f_Mach_62 d_Mach_doPlace_183 (fun v47 _ => ?_)
              refine xW_pure (fun _ _ _ _ _ => am_iload_n d_Mach_doPlace_186 rfl rfl) ?_
              refine xW_callV O (dx_Unit_constant O T) (fun _ e => ob_Unit_constant e) rfl rfl rfl l_Mach_148 ⟨w_1115, w_1116⟩ rfl (Nat.le_of_ble_eq_true rfl) d_Mach_doPlace_187 (fun v49 s48 _ => ?_)
              refine xW_callV O (dx_Mach_loadField O T) (fun _ e => ob_Mach_loadField e) rfl rfl rfl l_Mach_207 ⟨w_1209, w_59⟩ rfl (Nat.le_of_ble_eq_true rfl) d_Mach_doPlace_190 (fun v51 s50 _ => ?_)
              refine xW_pure (fun _ _ _ _ _ => am_goto (tgt := 222) d_Mach_doPlace_193 (by decide)) ?_
              exact xW_ret (fun _ _ _ _ _ => am_vret rfl d_Mach_doPlace_222)
            · refine xW_by (fun c7_5 => ?_) (fun c7_5 => ?_)
              · refine xW_pure (fun _ _ _ _ _ => am_tableIn (off := 189) (tgt := 196) d_Mach_doPlace_7 (by rw [c7_5]; decide) (by rw [c7_5]; decide) (by rw [c7_5]; rfl) (by decide)) ?_
                refine xW_pure (fun _ _ _ _ _ => am_aload_n d_Mach_doPlace_196 rfl rfl) ?_
                refine xW_pure (fun _ _ _ _ _ => am_aload_n d_Mach_doPlace_197 rfl rfl) ?_
                refine xW_gR O f_Mach_62 d_Mach_doPlace_198 (fun v52 _ => ?_)
                refine xW_pure (fun _ _ _ _ _ => am_iload_n d_Mach_doPlace_201 rfl rfl) ?_
                refine xW_callV O (dx_Unit_constant O T) (fun _ e => ob_Unit_constant e) rfl rfl rfl l_Mach_148 ⟨w_1115, w_1116⟩ rfl (Nat.le_of_ble_eq_true rfl) d_Mach_doPlace_202 (fun v54 s53 _ => ?_)
                refine xW_callV O (dx_Mach_storeField O T) (fun _ e => ob_Mach_storeField e) rfl rfl rfl l_Mach_210 ⟨w_1229, w_61⟩ rfl (Nat.le_of_ble_eq_true rfl) d_Mach_doPlace_205 (fun v56 s55 _ => ?_)
                refine xW_pure (fun _ _ _ _ _ => am_goto (tgt := 222) d_Mach_doPlace_208 (by decide)) ?_
                exact xW_ret (fun _ _ _ _ _ => am_vret rfl d_Mach_doPlace_222)
              · refine xW_by (fun c7_6 => ?_) (fun c7_6 => ?_)
                · refine xW_pure (fun _ _ _ _ _ => am_tableIn (off := 204) (tgt := 211) d_Mach_doPlace_7 (by rw [c7_6]; decide) (by rw [c7_6]; decide) (by rw [c7_6]; rfl) (by decide)) ?_
                  refine xW_pure (fun _ _ _ _ _ => am_aload_n d_Mach_doPlace_211 rfl rfl) ?_
                  refine xW_callV O (dx_Mach_loadItem O T) (fun _ e => ob_Mach_loadItem e) rfl rfl rfl l_Mach_213 ⟨w_1250, w_63⟩ rfl (Nat.le_of_ble_eq_true rfl) d_Mach_doPlace_212 (fun v58 s57 _ => ?_)
                  refine xW_pure (fun _ _ _ _ _ => am_goto (tgt := 222) d_Mach_doPlace_215 (by decide)) ?_
                  exact xW_ret (fun _ _ _ _ _ => am_vret rfl d_Mach_doPlace_222)
                · have e7_0 := lk_ne c7_0 (show (13 : Int32).toInt = 13 by decide)
                  have e7_1 := lk_ne c7_1 (show (14 : Int32).toInt = 14 by decide)
                  have e7_2 := lk_ne c7_2 (show (15 : Int32).toInt = 15 by decide)
                  have e7_3 := lk_ne c7_3 (show (16 : Int32).toInt = 16 by decide)
                  have e7_4 := lk_ne c7_4 (show (17 : Int32).toInt = 17 by decide)
                  have e7_5 := lk_ne c7_5 (show (18 : Int32).toInt = 18 by decide)
                  have e7_6 := lk_ne c7_6 (show (19 : Int32).toInt = 19 by decide)
                  refine xW_pure (fun _ _ _ _ _ => am_tableOut (tgt := 218) d_Mach_doPlace_7 (by omega) (by decide)) ?_
                  refine xW_pure (fun _ _ _ _ _ => am_aload_n d_Mach_doPlace_218 rfl rfl) ?_
                  refine xW_callV O (dx_Mach_storeItem O T) (fun _ e => ob_Mach_storeItem e) rfl rfl rfl l_Mach_216 ⟨w_1263, w_65⟩ rfl (Nat.le_of_ble_eq_true rfl) d_Mach_doPlace_219 (fun v60 s59 _ => ?_)
                  exact xW_ret (fun _ _ _ _ _ => am_vret rfl d_Mach_doPlace_222)

theorem ob_Mach_doPlace {d : Nat} {x0 : Nat} {x1 : Int32} {x2 : Int32} {s : HS} {y : Unit × HS} (h : x_Mach_doPlace d x0 x1 x2 s = some y) : isO s x0 6 = true := by
  cases d with
  | zero => cases h
  | succ d => exact (gd_spec h).1

set_option maxRecDepth 100000 in
def x_Mach_perform (d : Nat) (x0 : Nat) (x1 : Nat) (x2 : Nat) (x3 : Nat) (x4 : Int32) (s : HS) : Option (Int32 × HS) := match d with
  | 0 => none
  | d + 1 => gd s x0 6 ((pV s x0 6 10 (.ref x2)).bind fun s1 => ((pV s1 x0 6 11 (.ref x3)).bind fun s2 => ((pV s2 x0 6 12 (.int x4)).bind fun s3 => ((pV s3 x0 6 13 (.int 0)).bind fun s4 => ((pV s4 x0 6 14 (.int 0)).bind fun s5 => ((pV s5 x0 6 15 (.int 0)).bind fun s6 => ((pV s6 x0 6 9 (.int 0)).bind fun s7 => ((pV s7 x0 6 2 (.int 0)).bind fun s8 => (bnd (x_Mach_enter d x0 x1 0 s8) fun v10 s9 => (loopK (fun (again50 : Int32 × HS → Option (Int32 × HS)) (z50 : Int32 × HS) => (if 100000000 ≤ z50.1 then ((gI z50.2 x0 6 14).bind fun v11 => (some (v11, z50.2))) else ((gI z50.2 x0 6 15).bind fun v12 => (if v12 = 0 then ((gR z50.2 x0 6 4).bind fun v13 => ((gR z50.2 x0 6 4).bind fun v14 => ((gI z50.2 x0 6 5).bind fun v15 => (bnd (x_Unit_op d v14 v15 z50.2) fun v17 s16 => ((gR s16 x0 6 4).bind fun v18 => ((gI s16 x0 6 5).bind fun v19 => (bnd (x_Unit_argument d v18 v19 s16) fun v21 s20 => ((gI s20 x0 6 5).bind fun v22 => ((pV s20 x0 6 5 (.int (v22 + 1))).bind fun s23 => (if 9 < v17 then (if 12 < v17 then (if 20 < v17 then (if 25 < v17 then (bnd (x_Mach_doReckoning d x0 v17 s23) fun v25 s24 => (again50 ((z50.1 + 1), s24))) else (bnd (x_Mach_doObject d x0 v17 v21 s23) fun v27 s26 => (again50 ((z50.1 + 1), s26)))) else (bnd (x_Mach_doPlace d x0 v17 v21 s23) fun v29 s28 => (again50 ((z50.1 + 1), s28)))) else (bnd (x_Mach_doConstant d x0 v17 v21 s23) fun v31 s30 => (again50 ((z50.1 + 1), s30)))) else (bnd (x_Mach_doFlow d x0 v17 v21 s23) fun v33 s32 => (again50 ((z50.1 + 1), s32))))))))))))) else ((gI z50.2 x0 6 14).bind fun v34 => (some (v34, z50.2))))))) FU (0, s9)))))))))))

set_option maxRecDepth 100000 in
set_option maxHeartbeats 4000000 in
theorem dx_Mach_perform (O : am_ok K X) (T : am_T K) {d : Nat} {x0 : Nat} {x1 : Nat} {x2 : Nat} {x3 : Nat} {x4 : Int32} {s : HS} : xM cvI K X m_Mach_perform d [.ref x0, .ref x1, .ref x2, .ref x3, .int x4] s (x_Mach_perform d x0 x1 x2 x3 x4 s) := by
  cases d with
  | zero => exact xM_none
  | succ d =>
    unfold x_Mach_perform
    refine xM_enter (by decide +kernel) (Nat.le_of_ble_eq_true rfl) ?_
    refine xW_gd (fun _ => ?_)
    refine xW_pure (fun _ _ _ _ _ => am_aload_n d_Mach_perform_0 rfl rfl) ?_
    refine xW_pure (fun _ _ _ _ _ => am_aload_n d_Mach_perform_1 rfl rfl) ?_
    refine xW_put O f_Mach_29 d_Mach_perform_2 (fun q hq => by cases hq; exact ⟨rfl, rfl, rfl⟩) (fun s1 _ => ?_)
    refine xW_pure (fun _ _ _ _ _ => am_aload_n d_Mach_perform_5 rfl rfl) ?_
    refine xW_pure (fun _ _ _ _ _ => am_aload_n d_Mach_perform_6 rfl rfl) ?_
    refine xW_put O f_Mach_33 d_Mach_perform_7 (fun q hq => by cases hq; exact ⟨rfl, rfl, rfl⟩) (fun s2 _ => ?_)
    refine xW_pure (fun _ _ _ _ _ => am_aload_n d_Mach_perform_10 rfl rfl) ?_
    refine xW_pure (fun _ _ _ _ _ => am_iload d_Mach_perform_11 rfl) ?_
    refine xW_put O f_Mach_37 d_Mach_perform_13 (fun q hq => by cases hq; exact ⟨rfl, rfl, rfl⟩) (fun s3 _ => ?_)
    refine xW_pure (fun _ _ _ _ _ => am_aload_n d_Mach_perform_16 rfl rfl) ?_
    refine xW_pure (fun _ _ _ _ _ => am_iconst (v := 0) d_Mach_perform_17 (by decide)) ?_
    refine xW_put O f_Mach_41 d_Mach_perform_18 (fun q hq => by cases hq; exact ⟨rfl, rfl, rfl⟩) (fun s4 _ => ?_)
    refine xW_pure (fun _ _ _ _ _ => am_aload_n d_Mach_perform_21 rfl rfl) ?_
    refine xW_pure (fun _ _ _ _ _ => am_iconst (v := 0) d_Mach_perform_22 (by decide)) ?_
    refine xW_put O f_Mach_44 d_Mach_perform_23 (fun q hq => by cases hq; exact ⟨rfl, rfl, rfl⟩) (fun s5 _ => ?_)
    refine xW_pure (fun _ _ _ _ _ => am_aload_n d_Mach_perform_26 rfl rfl) ?_
    refine xW_pure (fun _ _ _ _ _ => am_iconst (v := 0) d_Mach_perform_27 (by decide)) ?_
    refine xW_put O f_Mach_47 d_Mach_perform_28 (fun q hq => by cases hq; exact ⟨rfl, rfl, rfl⟩) (fun s6 _ => ?_)
    refine xW_pure (fun _ _ _ _ _ => am_aload_n d_Mach_perform_31 rfl rfl) ?_
    refine xW_pure (fun _ _ _ _ _ => am_iconst (v := 0) d_Mach_perform_32 (by decide)) ?_
    refine xW_put O f_Mach_51 d_Mach_perform_33 (fun q hq => by cases hq; exact ⟨rfl, rfl, rfl⟩) (fun s7 _ => ?_)
    refine xW_pure (fun _ _ _ _ _ => am_aload_n d_Mach_perform_36 rfl rfl) ?_
    refine xW_pure (fun _ _ _ _ _ => am_iconst (v := 0) d_Mach_perform_37 (by decide)) ?_
    refine xW_put O f_Mach_54 d_Mach_perform_38 (fun q hq => by cases hq; exact ⟨rfl, rfl, rfl⟩) (fun s8 _ => ?_)
    refine xW_pure (fun _ _ _ _ _ => am_aload_n d_Mach_perform_41 rfl rfl) ?_
    refine xW_pure (fun _ _ _ _ _ => am_aload_n d_Mach_perform_42 rfl rfl) ?_
    refine xW_pure (fun _ _ _ _ _ => am_iconst (v := 0) d_Mach_perform_43 (by decide)) ?_
    refine xW_callV O (dx_Mach_enter O T) (fun _ e => ob_Mach_enter e) rfl rfl rfl l_Mach_57 ⟨w_1067, w_42⟩ rfl (Nat.le_of_ble_eq_true rfl) d_Mach_perform_44 (fun v10 s9 _ => ?_)
    refine xW_pure (fun _ _ _ _ _ => am_iconst (v := 0) d_Mach_perform_47 (by decide)) ?_
    refine xW_pure (fun _ _ _ _ _ => am_istore d_Mach_perform_48 (Nat.le_of_ble_eq_true rfl)) ?_
    refine xW_locs (lv' := [(0, .ref x0), (5, .int 0)]) rfl ?_
    refine xW_loop (lvf := fun (z50 : Int32 × HS) => [(0, .ref x0), (5, .int z50.1)]) (hsf := fun (z50 : Int32 × HS) => z50.2) (fun again50 ih50 z50 => ?_) FU (0, s9)
    refine xW_pure (fun _ _ _ _ _ => am_iload d_Mach_perform_50 rfl) ?_
    refine xW_pure (fun _ _ _ _ _ => am_ldc (v := 100000000) w_1087 d_Mach_perform_52) ?_
    refine xW_ite (fun _ _ _ _ _ => am_icmp_ge (tgt := 191) d_Mach_perform_54 (by decide)) (fun _ => ?_) (fun _ => ?_)
    · refine xW_pure (fun _ _ _ _ _ => am_aload_n d_Mach_perform_191 rfl rfl) ?_
      refine xW_gI O f_Mach_44 d_Mach_perform_192 (fun v11 _ => ?_)
      exact xW_ret (fun _ _ _ _ _ => am_iret rfl d_Mach_perform_195)
    · refine xW_pure (fun _ _ _ _ _ => am_aload_n d_Mach_perform_57 rfl rfl) ?_
      refine xW_gI O f_Mach_47 d_Mach_perform_58 (fun v12 _ => ?_)
      refine xW_ite (fun _ _ _ _ _ k1 k2 => am_if_ne (tgt := 191) d_Mach_perform_61 (by decide) k2 k1) (fun _ => ?_) (fun _ => ?_)
      · refine xW_pure (fun _ _ _ _ _ => am_aload_n d_Mach_perform_64 rfl rfl) ?_
        refine xW_gR O f_Mach_62 d_Mach_perform_65 (fun v13 _ => ?_)
        refine xW_pure (fun _ _ _ _ _ => am_ifnullR d_Mach_perform_68) ?_
        refine xW_pure (fun _ _ _ _ _ => am_aload_n d_Mach_perform_71 rfl rfl) ?_
        refine xW_gR O f_Mach_62 d_Mach_perform_72 (fun v14 _ => ?_)
        refine xW_pure (fun _ _ _ _ _ => am_aload_n d_Mach_perform_75 rfl rfl) ?_
        refine xW_gI O f_Mach_66 d_Mach_perform_76 (fun v15 _ => ?_)
        refine xW_callV O (dx_Unit_op O T) (fun _ e => ob_Unit_op e) rfl rfl rfl l_Mach_69 ⟨w_1089, w_1090⟩ rfl (Nat.le_of_ble_eq_true rfl) d_Mach_perform_79 (fun v17 s16 _ => ?_)
        refine xW_pure (fun _ _ _ _ _ => am_istore d_Mach_perform_82 (Nat.le_of_ble_eq_true rfl)) ?_
        refine xW_pure (fun _ _ _ _ _ => am_aload_n d_Mach_perform_84 rfl rfl) ?_
        refine xW_gR O f_Mach_62 d_Mach_perform_85 (fun v18 _ => ?_)
        refine xW_pure (fun _ _ _ _ _ => am_aload_n d_Mach_perform_88 rfl rfl) ?_
        refine xW_gI O f_Mach_66 d_Mach_perform_89 (fun v19 _ => ?_)
        refine xW_callV O (dx_Unit_argument O T) (fun _ e => ob_Unit_argument e) rfl rfl rfl l_Mach_73 ⟨w_1093, w_1094⟩ rfl (Nat.le_of_ble_eq_true rfl) d_Mach_perform_92 (fun v21 s20 _ => ?_)
        refine xW_pure (fun _ _ _ _ _ => am_istore d_Mach_perform_95 (Nat.le_of_ble_eq_true rfl)) ?_
        refine xW_pure (fun _ _ _ _ _ => am_aload_n d_Mach_perform_97 rfl rfl) ?_
        refine xW_pure (fun _ _ _ _ _ => am_dup d_Mach_perform_98 rfl) ?_
        refine xW_gI O f_Mach_66 d_Mach_perform_99 (fun v22 _ => ?_)
        refine xW_pure (fun _ _ _ _ _ => am_iconst (v := 1) d_Mach_perform_102 (by decide)) ?_
        refine xW_pure (fun _ _ _ _ _ => am_iadd d_Mach_perform_103) ?_
        refine xW_put O f_Mach_66 d_Mach_perform_104 (fun q hq => by cases hq; exact ⟨rfl, rfl, rfl⟩) (fun s23 _ => ?_)
        refine xW_pure (fun _ _ _ _ _ => am_iload d_Mach_perform_107 rfl) ?_
        refine xW_pure (fun _ _ _ _ _ => am_bipush (v := 9) d_Mach_perform_109 (by decide)) ?_
        refine xW_ite (fun _ _ _ _ _ => am_icmp_gt (tgt := 125) d_Mach_perform_111 (by decide)) (fun _ => ?_) (fun _ => ?_)
        · refine xW_pure (fun _ _ _ _ _ => am_iload d_Mach_perform_125 rfl) ?_
          refine xW_pure (fun _ _ _ _ _ => am_bipush (v := 12) d_Mach_perform_127 (by decide)) ?_
          refine xW_ite (fun _ _ _ _ _ => am_icmp_gt (tgt := 143) d_Mach_perform_129 (by decide)) (fun _ => ?_) (fun _ => ?_)
          · refine xW_pure (fun _ _ _ _ _ => am_iload d_Mach_perform_143 rfl) ?_
            refine xW_pure (fun _ _ _ _ _ => am_bipush (v := 20) d_Mach_perform_145 (by decide)) ?_
            refine xW_ite (fun _ _ _ _ _ => am_icmp_gt (tgt := 161) d_Mach_perform_147 (by decide)) (fun _ => ?_) (fun _ => ?_)
            · refine xW_pure (fun _ _ _ _ _ => am_iload d_Mach_perform_161 rfl) ?_
              refine xW_pure (fun _ _ _ _ _ => am_bipush (v := 25) d_Mach_perform_163 (by decide)) ?_
              refine xW_ite (fun _ _ _ _ _ => am_icmp_gt (tgt := 179) d_Mach_perform_165 (by decide)) (fun _ => ?_) (fun _ => ?_)
              · refine xW_pure (fun _ _ _ _ _ => am_aload_n d_Mach_perform_179 rfl rfl) ?_
                refine xW_pure (fun _ _ _ _ _ => am_iload d_Mach_perform_180 rfl) ?_
                refine xW_callV O (dx_Mach_doReckoning O T) (fun _ e => ob_Mach_doReckoning e) rfl rfl rfl l_Mach_89 ⟨w_1300, w_72⟩ rfl (Nat.le_of_ble_eq_true rfl) d_Mach_perform_182 (fun v25 s24 _ => ?_)
                refine xW_pure (fun _ _ _ _ _ => am_iinc (v := 1) d_Mach_perform_185 rfl (by decide) (Nat.le_of_ble_eq_true rfl)) ?_
                refine xW_pure (fun _ _ _ _ _ => am_goto (tgt := 50) d_Mach_perform_188 (by decide)) ?_
                refine xW_locs (lv' := [(0, .ref x0), (5, .int (z50.1 + 1))]) rfl ?_
                exact ih50 ((z50.1 + 1), s24)
              · refine xW_pure (fun _ _ _ _ _ => am_aload_n d_Mach_perform_168 rfl rfl) ?_
                refine xW_pure (fun _ _ _ _ _ => am_iload d_Mach_perform_169 rfl) ?_
                refine xW_pure (fun _ _ _ _ _ => am_iload d_Mach_perform_171 rfl) ?_
                refine xW_callV O (dx_Mach_doObject O T) (fun _ e => ob_Mach_doObject e) rfl rfl rfl l_Mach_86 ⟨w_1267, w_66⟩ rfl (Nat.le_of_ble_eq_true rfl) d_Mach_perform_173 (fun v27 s26 _ => ?_)
                refine xW_pure (fun _ _ _ _ _ => am_goto (tgt := 185) d_Mach_perform_176 (by decide)) ?_
                refine xW_pure (fun _ _ _ _ _ => am_iinc (v := 1) d_Mach_perform_185 rfl (by decide) (Nat.le_of_ble_eq_true rfl)) ?_
                refine xW_pure (fun _ _ _ _ _ => am_goto (tgt := 50) d_Mach_perform_188 (by decide)) ?_
                refine xW_locs (lv' := [(0, .ref x0), (5, .int (z50.1 + 1))]) rfl ?_
                exact ih50 ((z50.1 + 1), s26)
            · refine xW_pure (fun _ _ _ _ _ => am_aload_n d_Mach_perform_150 rfl rfl) ?_
              refine xW_pure (fun _ _ _ _ _ => am_iload d_Mach_perform_151 rfl) ?_
              refine xW_pure (fun _ _ _ _ _ => am_iload d_Mach_perform_153 rfl) ?_
              refine xW_callV O (dx_Mach_doPlace O T) (fun _ e => ob_Mach_doPlace e) rfl rfl rfl l_Mach_83 ⟨w_1183, w_55⟩ rfl (Nat.le_of_ble_eq_true rfl) d_Mach_perform_155 (fun v29 s28 _ => ?_)
              refine xW_pure (fun _ _ _ _ _ => am_goto (tgt := 185) d_Mach_perform_158 (by decide)) ?_
              refine xW_pure (fun _ _ _ _ _ => am_iinc (v := 1) d_Mach_perform_185 rfl (by decide) (Nat.le_of_ble_eq_true rfl)) ?_
              refine xW_pure (fun _ _ _ _ _ => am_goto (tgt := 50) d_Mach_perform_188 (by decide)) ?_
              refine xW_locs (lv' := [(0, .ref x0), (5, .int (z50.1 + 1))]) rfl ?_
              exact ih50 ((z50.1 + 1), s28)
          · refine xW_pure (fun _ _ _ _ _ => am_aload_n d_Mach_perform_132 rfl rfl) ?_
            refine xW_pure (fun _ _ _ _ _ => am_iload d_Mach_perform_133 rfl) ?_
            refine xW_pure (fun _ _ _ _ _ => am_iload d_Mach_perform_135 rfl) ?_
            refine xW_callV O (dx_Mach_doConstant O T) (fun _ e => ob_Mach_doConstant e) rfl rfl rfl l_Mach_80 ⟨w_1174, w_53⟩ rfl (Nat.le_of_ble_eq_true rfl) d_Mach_perform_137 (fun v31 s30 _ => ?_)
            refine xW_pure (fun _ _ _ _ _ => am_goto (tgt := 185) d_Mach_perform_140 (by decide)) ?_
            refine xW_pure (fun _ _ _ _ _ => am_iinc (v := 1) d_Mach_perform_185 rfl (by decide) (Nat.le_of_ble_eq_true rfl)) ?_
            refine xW_pure (fun _ _ _ _ _ => am_goto (tgt := 50) d_Mach_perform_188 (by decide)) ?_
            refine xW_locs (lv' := [(0, .ref x0), (5, .int (z50.1 + 1))]) rfl ?_
            exact ih50 ((z50.1 + 1), s30)
        · refine xW_pure (fun _ _ _ _ _ => am_aload_n d_Mach_perform_114 rfl rfl) ?_
          refine xW_pure (fun _ _ _ _ _ => am_iload d_Mach_perform_115 rfl) ?_
          refine xW_pure (fun _ _ _ _ _ => am_iload d_Mach_perform_117 rfl) ?_
          refine xW_callV O (dx_Mach_doFlow O T) (fun _ e => ob_Mach_doFlow e) rfl rfl rfl l_Mach_76 ⟨w_1098, w_46⟩ rfl (Nat.le_of_ble_eq_true rfl) d_Mach_perform_119 (fun v33 s32 _ => ?_)
          refine xW_pure (fun _ _ _ _ _ => am_goto (tgt := 185) d_Mach_perform_122 (by decide)) ?_
          refine xW_pure (fun _ _ _ _ _ => am_iinc (v := 1) d_Mach_perform_185 rfl (by decide) (Nat.le_of_ble_eq_true rfl)) ?_
          refine xW_pure (fun _ _ _ _ _ => am_goto (tgt := 50) d_Mach_perform_188 (by decide)) ?_
          refine xW_locs (lv' := [(0, .ref x0), (5, .int (z50.1 + 1))]) rfl ?_
          exact ih50 ((z50.1 + 1), s32)
      · refine xW_pure (fun _ _ _ _ _ => am_aload_n d_Mach_perform_191 rfl rfl) ?_
        refine xW_gI O f_Mach_44 d_Mach_perform_192 (fun v34 _ => ?_)
        exact xW_ret (fun _ _ _ _ _ => am_iret rfl d_Mach_perform_195)

theorem ob_Mach_perform {d : Nat} {x0 : Nat} {x1 : Nat} {x2 : Nat} {x3 : Nat} {x4 : Int32} {s : HS} {y : Int32 × HS} (h : x_Mach_perform d x0 x1 x2 x3 x4 s = some y) : isO s x0 6 = true := by
  cases d with
  | zero => cases h
  | succ d => exact (gd_spec h).1
end
