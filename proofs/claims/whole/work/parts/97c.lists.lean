section
variable {K : am_K} {X : Nat → am_C}
set_option maxRecDepth 100000 in
theorem c_Objs_checkIndex (O : am_ok K X) {i n : Int32} (h0 : ¬ i < 0) (h1 : i < n) {h : am_H} : am_Mt K X m_Objs_checkIndex 1 0 0 [.int i, .int n] h (fun v h' => v = some (.int i) ∧ h' = h) := by
  have a0 : 0 ≤ i.toInt := by simpa using Int32.le_iff_toInt_le.mp (Int32.not_lt.mp h0)
  have a1 := Int32.lt_iff_toInt_lt.mp h1
  have a2 := Int32.toInt_lt n
  have hn : ¬ n < 0 := fun q => by have := Int32.lt_iff_toInt_lt.mp q; simp at this; omega
  have C := c_Pre_checkIndex (K := K) (X := X) (v := .null) (Or.inl rfl) (show i.toInt.toNat < n.toInt.toNat by omega) (show n.toInt.toNat < 2 ^ 31 by omega) (h := h)
  rw [show nI i.toInt.toNat = i from nI_back h0, show nI n.toInt.toNat = n from nI_back hn] at C
  refine am_enter (by decide +kernel) (Nat.le_of_ble_eq_true rfl) ?_
  refine am_iload_n d_Objs_checkIndex_0 rfl rfl ?_
  refine am_iload_n d_Objs_checkIndex_1 rfl rfl ?_
  refine am_null d_Objs_checkIndex_2 ?_
  refine am_callS O C rfl l_Objs_105 w_236 rfl (Nat.le_of_ble_eq_true rfl) d_Objs_checkIndex_3 (by omega) (by omega) (by omega) (fun v h' hp => ?_)
  obtain ⟨rfl, rfl⟩ := hp
  exact am_iret rfl d_Objs_checkIndex_6 ⟨rfl, rfl⟩

theorem xW_ckI {α : Type} {cv : α → Option Value} {M : am_M} {d pc : Nat} {lv : List (Nat × Value)} {st : List Value} {s : HS} (O : am_ok K X) {ix n : Nat} {i j : Int32} {c : Int32 → Option (α × HS)} (L : am_L M.1.cls ix n m_Objs_checkIndex) (L2 : Cond.static m_Objs_checkIndex.1 ∈ am_tbl) (hn : 2 = n) (hst : (st.map fun v => v.category).sum ≤ 8) (hd : decode M.2.1 pc = .ok (.invokestatic ix, 3)) (kk : ∀ x, ckI i j = some x → xW cv K X M (d + 1) (pc + 3) lv (.int x :: st) s (c x)) : xW cv K X M (d + 1) pc lv (.int j :: .int i :: st) s (dp 1 d ((ckI i j).bind c)) :=
  xW_dp fun hd1 => xW_bind fun x hx => by
    have hx' := hx
    unfold ckI at hx'
    split at hx'
    · next cc =>
      cases hx'
      exact xW_pureB (fun kc ks uc us post u1 u2 kk => am_callS O (As := [.int i, .int j]) (c_Objs_checkIndex O cc.1 cc.2) rfl L L2 hn hst hd (by omega) (by omega) (by omega) (fun v h' hp => by obtain ⟨rfl, rfl⟩ := hp; exact kk)) (kk _ hx)
    · cases hx'

set_option maxRecDepth 100000 in
def x_AL_size (d : Nat) (x0 : Nat) (s : HS) : Option (Int32 × HS) := gd s x0 3 ((gI s x0 3 1).bind fun v1 => (some (v1, s)))

set_option maxRecDepth 100000 in
set_option maxHeartbeats 4000000 in
theorem dx_AL_size (O : am_ok K X) (T2 : am_T2 K) {d : Nat} {x0 : Nat} {s : HS} : xM cvI K X m_AL_size d [.ref x0] s (x_AL_size d x0 s) := by
  have T := T2.1
  unfold x_AL_size
  refine xM_enter (by decide +kernel) (Nat.le_of_ble_eq_true rfl) ?_
  refine xW_gd (fun _ => ?_)
  refine xW_pure (fun _ _ _ _ _ => am_aload_n d_AL_size_0 rfl rfl) ?_
  refine xW_gI O f_AL_48 d_AL_size_1 (fun v1 _ => ?_)
  exact xW_ret (fun _ _ _ _ _ => am_iret rfl d_AL_size_4)

theorem ob_AL_size {d : Nat} {x0 : Nat} {s : HS} {y : Int32 × HS} (h : x_AL_size d x0 s = some y) : isO s x0 3 = true := (gd_spec h).1

set_option maxRecDepth 100000 in
def x_AL_elementData (d : Nat) (x0 : Nat) (x1 : Int32) (s : HS) : Option (Nat × HS) := gd s x0 3 ((gR s x0 3 0).bind fun v1 => ((aR "java/lang/Object" s v1 x1).bind fun v2 => (some (v2, s))))

set_option maxRecDepth 100000 in
set_option maxHeartbeats 4000000 in
theorem dx_AL_elementData (O : am_ok K X) (T2 : am_T2 K) {d : Nat} {x0 : Nat} {x1 : Int32} {s : HS} : xM cvR K X m_AL_elementData d [.ref x0, .int x1] s (x_AL_elementData d x0 x1 s) := by
  have T := T2.1
  unfold x_AL_elementData
  refine xM_enter (by decide +kernel) (Nat.le_of_ble_eq_true rfl) ?_
  refine xW_gd (fun _ => ?_)
  refine xW_pure (fun _ _ _ _ _ => am_aload_n d_AL_elementData_0 rfl rfl) ?_
  refine xW_gR O f_AL_9 d_AL_elementData_1 (fun v1 _ => ?_)
  refine xW_pure (fun _ _ _ _ _ => am_iload_n d_AL_elementData_4 rfl rfl) ?_
  refine xW_aR O (by decide) d_AL_elementData_5 (fun v2 _ => ?_)
  exact xW_ret (fun _ _ _ _ _ => am_aret rfl (Or.inl ⟨_, rfl⟩) d_AL_elementData_6)

theorem ob_AL_elementData {d : Nat} {x0 : Nat} {x1 : Int32} {s : HS} {y : Nat × HS} (h : x_AL_elementData d x0 x1 s = some y) : isO s x0 3 = true := (gd_spec h).1

set_option maxRecDepth 100000 in
def x_AL_get (d : Nat) (x0 : Nat) (x1 : Int32) (s : HS) : Option (Nat × HS) := match d with
  | 0 => none
  | d + 1 => gd s x0 3 ((gI s x0 3 1).bind fun v1 => (dp 1 d <| (ckI x1 v1).bind fun v2 => (bnd (x_AL_elementData d x0 x1 s) fun v4 s3 => (some (v4, s3)))))

set_option maxRecDepth 100000 in
set_option maxHeartbeats 4000000 in
theorem dx_AL_get (O : am_ok K X) (T2 : am_T2 K) {d : Nat} {x0 : Nat} {x1 : Int32} {s : HS} : xM cvR K X m_AL_get d [.ref x0, .int x1] s (x_AL_get d x0 x1 s) := by
  cases d with
  | zero => exact xM_none
  | succ d =>
    have T := T2.1
    unfold x_AL_get
    refine xM_enter (by decide +kernel) (Nat.le_of_ble_eq_true rfl) ?_
    refine xW_gd (fun _ => ?_)
    refine xW_pure (fun _ _ _ _ _ => am_iload_n d_AL_get_0 rfl rfl) ?_
    refine xW_pure (fun _ _ _ _ _ => am_aload_n d_AL_get_1 rfl rfl) ?_
    refine xW_gI O f_AL_48 d_AL_get_2 (fun v1 _ => ?_)
    refine xW_ckI O l_AL_118 w_1030 rfl (Nat.le_of_ble_eq_true rfl) d_AL_get_5 (fun v2 _ => ?_)
    refine xW_pure (fun _ _ _ _ _ => am_pop d_AL_get_8 rfl) ?_
    refine xW_pure (fun _ _ _ _ _ => am_aload_n d_AL_get_9 rfl rfl) ?_
    refine xW_pure (fun _ _ _ _ _ => am_iload_n d_AL_get_10 rfl rfl) ?_
    refine xW_callV O (dx_AL_elementData O T2) (fun _ e => ob_AL_elementData e) rfl rfl rfl l_AL_123 ⟨w_1034, w_1035⟩ rfl (Nat.le_of_ble_eq_true rfl) d_AL_get_11 (fun v4 s3 _ => ?_)
    exact xW_ret (fun _ _ _ _ _ => am_aret rfl (Or.inl ⟨_, rfl⟩) d_AL_get_14)

theorem ob_AL_get {d : Nat} {x0 : Nat} {x1 : Int32} {s : HS} {y : Nat × HS} (h : x_AL_get d x0 x1 s = some y) : isO s x0 3 = true := by
  cases d with
  | zero => cases h
  | succ d => exact (gd_spec h).1

set_option maxRecDepth 100000 in
def x_AL_clear (d : Nat) (x0 : Nat) (s : HS) : Option (Unit × HS) := gd s x0 3 ((gI s x0 3 2).bind fun v1 => ((pV s x0 3 2 (.int (v1 + 1))).bind fun s2 => ((gR s2 x0 3 0).bind fun v3 => ((gI s2 x0 3 1).bind fun v4 => ((pV s2 x0 3 1 (.int 0)).bind fun s5 => (loopK (fun (again27 : Int32 × HS → Option (Unit × HS)) (z27 : Int32 × HS) => (if v4 ≤ z27.1 then (some ((), z27.2)) else ((sV z27.2 (.object "java/lang/Object") v3 z27.1 .null).bind fun s6 => (again27 ((z27.1 + 1), s6))))) FU (0, s5)))))))

set_option maxRecDepth 100000 in
set_option maxHeartbeats 4000000 in
theorem dx_AL_clear (O : am_ok K X) (T2 : am_T2 K) {d : Nat} {x0 : Nat} {s : HS} : xM cvU K X m_AL_clear d [.ref x0] s (x_AL_clear d x0 s) := by
  have T := T2.1
  unfold x_AL_clear
  refine xM_enter (by decide +kernel) (Nat.le_of_ble_eq_true rfl) ?_
  refine xW_gd (fun _ => ?_)
  refine xW_pure (fun _ _ _ _ _ => am_aload_n d_AL_clear_0 rfl rfl) ?_
  refine xW_pure (fun _ _ _ _ _ => am_dup d_AL_clear_1 rfl) ?_
  refine xW_gIS O fS_AL_63 d_AL_clear_2 (fun v1 _ => ?_)
  refine xW_pure (fun _ _ _ _ _ => am_iconst (v := 1) d_AL_clear_5 (by decide)) ?_
  refine xW_pure (fun _ _ _ _ _ => am_iadd d_AL_clear_6) ?_
  refine xW_putS O fS_AL_63 d_AL_clear_7 (fun q hq => by cases hq; exact ⟨rfl, rfl, rfl⟩) (fun s2 _ => ?_)
  refine xW_pure (fun _ _ _ _ _ => am_aload_n d_AL_clear_10 rfl rfl) ?_
  refine xW_gR O f_AL_9 d_AL_clear_11 (fun v3 _ => ?_)
  refine xW_pure (fun _ _ _ _ _ => am_astore_n d_AL_clear_14 rfl (Nat.le_of_ble_eq_true rfl)) ?_
  refine xW_pure (fun _ _ _ _ _ => am_aload_n d_AL_clear_15 rfl rfl) ?_
  refine xW_gI O f_AL_48 d_AL_clear_16 (fun v4 _ => ?_)
  refine xW_pure (fun _ _ _ _ _ => am_istore_n d_AL_clear_19 rfl (Nat.le_of_ble_eq_true rfl)) ?_
  refine xW_pure (fun _ _ _ _ _ => am_aload_n d_AL_clear_20 rfl rfl) ?_
  refine xW_pure (fun _ _ _ _ _ => am_iconst (v := 0) d_AL_clear_21 (by decide)) ?_
  refine xW_pure (fun _ _ _ _ _ => am_dup_x1 d_AL_clear_22 rfl rfl) ?_
  refine xW_put O f_AL_48 d_AL_clear_23 (fun q hq => by cases hq; exact ⟨rfl, rfl, rfl⟩) (fun s5 _ => ?_)
  refine xW_pure (fun _ _ _ _ _ => am_istore_n d_AL_clear_26 rfl (Nat.le_of_ble_eq_true rfl)) ?_
  refine xW_locs (lv' := [(1, .ref v3), (2, .int v4), (3, .int 0)]) rfl ?_
  refine xW_loop (lvf := fun (z27 : Int32 × HS) => [(1, .ref v3), (2, .int v4), (3, .int z27.1)]) (hsf := fun (z27 : Int32 × HS) => z27.2) (fun again27 ih27 z27 => ?_) FU (0, s5)
  refine xW_pure (fun _ _ _ _ _ => am_iload_n d_AL_clear_27 rfl rfl) ?_
  refine xW_pure (fun _ _ _ _ _ => am_iload_n d_AL_clear_28 rfl rfl) ?_
  refine xW_ite (fun _ _ _ _ _ => am_icmp_ge (tgt := 42) d_AL_clear_29 (by decide)) (fun _ => ?_) (fun _ => ?_)
  · exact xW_ret (fun _ _ _ _ _ => am_vret rfl d_AL_clear_42)
  · refine xW_pure (fun _ _ _ _ _ => am_aload_n d_AL_clear_32 rfl rfl) ?_
    refine xW_pure (fun _ _ _ _ _ => am_iload_n d_AL_clear_33 rfl rfl) ?_
    refine xW_pure (fun _ _ _ _ _ => am_null d_AL_clear_34) ?_
    refine xW_sN O (by decide) d_AL_clear_35 (fun s6 _ => ?_)
    refine xW_pure (fun _ _ _ _ _ => am_iinc (v := 1) d_AL_clear_36 rfl (by decide) (Nat.le_of_ble_eq_true rfl)) ?_
    refine xW_pure (fun _ _ _ _ _ => am_goto (tgt := 27) d_AL_clear_39 (by decide)) ?_
    refine xW_locs (lv' := [(1, .ref v3), (2, .int v4), (3, .int (z27.1 + 1))]) rfl ?_
    exact ih27 ((z27.1 + 1), s6)

theorem ob_AL_clear {d : Nat} {x0 : Nat} {s : HS} {y : Unit × HS} (h : x_AL_clear d x0 s = some y) : isO s x0 3 = true := (gd_spec h).1

set_option maxRecDepth 100000 in
def x_AS_newLength (d : Nat) (x1 : Int32) (x2 : Int32) (x3 : Int32) (s : HS) : Option (Int32 × HS) := match d with
  | 0 => none
  | d + 1 => if (x1 + (if x2 < x3 then x3 else x2)) ≤ 0 then (none) else (if 2147483639 < (x1 + (if x2 < x3 then x3 else x2)) then (none) else (some ((x1 + (if x2 < x3 then x3 else x2)), s)))

set_option maxRecDepth 100000 in
set_option maxHeartbeats 4000000 in
theorem dx_AS_newLength (O : am_ok K X) (T2 : am_T2 K) {d : Nat} {x1 : Int32} {x2 : Int32} {x3 : Int32} {s : HS} : xM cvI K X m_AS_newLength d [.int x1, .int x2, .int x3] s (x_AS_newLength d x1 x2 x3 s) := by
  cases d with
  | zero => exact xM_none
  | succ d =>
    have T := T2.1
    unfold x_AS_newLength
    refine xM_enter (by decide +kernel) (Nat.le_of_ble_eq_true rfl) ?_
    refine xW_pure (fun _ _ _ _ _ => am_iload_n d_AS_newLength_0 rfl rfl) ?_
    refine xW_pure (fun _ _ _ _ _ => am_iload_n d_AS_newLength_1 rfl rfl) ?_
    refine xW_pure (fun _ _ _ _ _ => am_iload_n d_AS_newLength_2 rfl rfl) ?_
    refine xW_pure (fun _ _ _ _ _ => am_mmax w_910 w_623 w_164 w_624 d_AS_newLength_3 (Nat.le_of_ble_eq_true rfl) (by omega)) ?_
    refine xW_pure (fun _ _ _ _ _ => am_iadd d_AS_newLength_6) ?_
    refine xW_pure (fun _ _ _ _ _ => am_istore_n d_AS_newLength_7 rfl (Nat.le_of_ble_eq_true rfl)) ?_
    refine xW_pure (fun _ _ _ _ _ => am_iconst (v := 0) d_AS_newLength_8 (by decide)) ?_
    refine xW_pure (fun _ _ _ _ _ => am_iload_n d_AS_newLength_9 rfl rfl) ?_
    refine xW_ite (fun _ _ _ _ _ => am_icmp_ge (tgt := 21) d_AS_newLength_10 (by decide)) (fun _ => ?_) (fun _ => ?_)
    · refine xW_pure (fun _ _ _ _ _ => am_iload_n d_AS_newLength_21 rfl rfl) ?_
      refine xW_pure (fun _ _ _ _ _ => am_iload_n d_AS_newLength_22 rfl rfl) ?_
      exact xW_none
    · refine xW_pure (fun _ _ _ _ _ => am_iload_n d_AS_newLength_13 rfl rfl) ?_
      refine xW_pure (fun _ _ _ _ _ => am_ldc (v := 2147483639) w_911 d_AS_newLength_14) ?_
      refine xW_ite (fun _ _ _ _ _ => am_icmp_gt (tgt := 21) d_AS_newLength_16 (by decide)) (fun _ => ?_) (fun _ => ?_)
      · refine xW_pure (fun _ _ _ _ _ => am_iload_n d_AS_newLength_21 rfl rfl) ?_
        refine xW_pure (fun _ _ _ _ _ => am_iload_n d_AS_newLength_22 rfl rfl) ?_
        exact xW_none
      · refine xW_pure (fun _ _ _ _ _ => am_iload_n d_AS_newLength_19 rfl rfl) ?_
        exact xW_ret (fun _ _ _ _ _ => am_iret rfl d_AS_newLength_20)

set_option maxRecDepth 100000 in
def x_Arr_copyOf_aLObjectILClass_b24 (d : Nat) (l0 : Nat) (l1 : Int32) (t0 : Nat) (s : HS) : Option (Nat × HS) := (lenX s l0).bind fun v2 => ((cpO s l0 0 t0 0 (if l1 < v2 then l1 else v2)).bind fun s3 => (some (t0, s3)))

set_option maxRecDepth 100000 in
set_option maxHeartbeats 4000000 in
theorem dx_Arr_copyOf_aLObjectILClass_b24 (O : am_ok K X) (T2 : am_T2 K) {d : Nat} {l0 : Nat} {l1 : Int32} {t0 : Nat} {s : HS} : xW cvR K X m_Arr_copyOf_aLObjectILClass (d + 1) 24 [(0, .ref l0), (1, .int l1)] [.ref t0] s (x_Arr_copyOf_aLObjectILClass_b24 d l0 l1 t0 s) := by
  have T := T2.1
  unfold x_Arr_copyOf_aLObjectILClass_b24
  refine xW_pure (fun _ _ _ _ _ => am_astore_n d_Arr_copyOf_aLObjectILClass_24 rfl (Nat.le_of_ble_eq_true rfl)) ?_
  refine xW_pure (fun _ _ _ _ _ => am_aload_n d_Arr_copyOf_aLObjectILClass_25 rfl rfl) ?_
  refine xW_pure (fun _ _ _ _ _ => am_iconst (v := 0) d_Arr_copyOf_aLObjectILClass_26 (by decide)) ?_
  refine xW_pure (fun _ _ _ _ _ => am_aload_n d_Arr_copyOf_aLObjectILClass_27 rfl rfl) ?_
  refine xW_pure (fun _ _ _ _ _ => am_iconst (v := 0) d_Arr_copyOf_aLObjectILClass_28 (by decide)) ?_
  refine xW_pure (fun _ _ _ _ _ => am_aload_n d_Arr_copyOf_aLObjectILClass_29 rfl rfl) ?_
  refine xW_lenX O T2 d_Arr_copyOf_aLObjectILClass_30 (fun v2 _ => ?_)
  refine xW_pure (fun _ _ _ _ _ => am_iload_n d_Arr_copyOf_aLObjectILClass_31 rfl rfl) ?_
  refine xW_pure (fun _ _ _ _ _ => am_mmin w_732 w_551 w_164 w_552 d_Arr_copyOf_aLObjectILClass_32 (Nat.le_of_ble_eq_true rfl) (by omega)) ?_
  refine xW_copyO O x_2190 w_733 w_735 w_734 w_167 d_Arr_copyOf_aLObjectILClass_35 (Nat.le_of_ble_eq_true rfl) (fun s3 _ => ?_)
  refine xW_pure (fun _ _ _ _ _ => am_aload_n d_Arr_copyOf_aLObjectILClass_38 rfl rfl) ?_
  exact xW_ret (fun _ _ _ _ _ => am_aret rfl (Or.inr ⟨_, rfl⟩) d_Arr_copyOf_aLObjectILClass_39)

set_option maxRecDepth 100000 in
def x_Arr_copyOf_aLObjectILClass (d : Nat) (x1 : Nat) (x2 : Int32) (x3 : Nat) (s : HS) : Option (Nat × HS) := match d with
  | 0 => none
  | d + 1 => if x3 = 5 then ((newR "java/lang/Object" s x2).bind fun s1 => (x_Arr_copyOf_aLObjectILClass_b24 d x1 x2 s.1 s1)) else none

set_option maxRecDepth 100000 in
set_option maxHeartbeats 4000000 in
theorem dx_Arr_copyOf_aLObjectILClass (O : am_ok K X) (T2 : am_T2 K) {d : Nat} {x1 : Nat} {x2 : Int32} {x3 : Nat} {s : HS} : xM cvR K X m_Arr_copyOf_aLObjectILClass d [.ref x1, .int x2, .ref x3] s (x_Arr_copyOf_aLObjectILClass d x1 x2 x3 s) := by
  cases d with
  | zero => exact xM_none
  | succ d =>
    have T := T2.1
    unfold x_Arr_copyOf_aLObjectILClass
    refine xM_enter (by decide +kernel) (Nat.le_of_ble_eq_true rfl) ?_
    refine xW_pure (fun _ _ _ _ _ => am_aload_n d_Arr_copyOf_aLObjectILClass_0 rfl rfl) ?_
    refine xW_pure (fun _ _ _ _ _ => am_ldcM T2.2.2 w_940 d_Arr_copyOf_aLObjectILClass_1) ?_
    refine xW_by (fun e5 => ?_) (fun _ => xW_none)
    subst e5
    refine xW_pure (fun _ _ _ _ _ => am_acmp_same (tgt := 13) d_Arr_copyOf_aLObjectILClass_3 (by decide)) ?_
    refine xW_pure (fun _ _ _ _ _ => am_iload_n d_Arr_copyOf_aLObjectILClass_6 rfl rfl) ?_
    refine xW_newR O (by decide) w_942 x_941 d_Arr_copyOf_aLObjectILClass_7 (fun s1 _ => ?_)
    refine xW_pure (fun _ _ _ _ _ => am_goto (tgt := 24) d_Arr_copyOf_aLObjectILClass_10 (by decide)) ?_
    refine xW_locs (lv' := [(0, .ref x1), (1, .int x2)]) rfl ?_
    exact dx_Arr_copyOf_aLObjectILClass_b24 O T2

set_option maxRecDepth 100000 in
def x_Arr_copyOf_aLObjectI (d : Nat) (x1 : Nat) (x2 : Int32) (s : HS) : Option (Nat × HS) := match d with
  | 0 => none
  | d + 1 => if isA s x1 = true then (bnd (x_Arr_copyOf_aLObjectILClass d x1 x2 5 s) fun v2 s1 => (some (v2, s1))) else none

set_option maxRecDepth 100000 in
set_option maxHeartbeats 4000000 in
theorem dx_Arr_copyOf_aLObjectI (O : am_ok K X) (T2 : am_T2 K) {d : Nat} {x1 : Nat} {x2 : Int32} {s : HS} : xM cvR K X m_Arr_copyOf_aLObjectI d [.ref x1, .int x2] s (x_Arr_copyOf_aLObjectI d x1 x2 s) := by
  cases d with
  | zero => exact xM_none
  | succ d =>
    have T := T2.1
    unfold x_Arr_copyOf_aLObjectI
    refine xM_enter (by decide +kernel) (Nat.le_of_ble_eq_true rfl) ?_
    refine xW_pure (fun _ _ _ _ _ => am_aload_n d_Arr_copyOf_aLObjectI_0 rfl rfl) ?_
    refine xW_pure (fun _ _ _ _ _ => am_iload_n d_Arr_copyOf_aLObjectI_1 rfl rfl) ?_
    refine xW_pure (fun _ _ _ _ _ => am_aload_n d_Arr_copyOf_aLObjectI_2 rfl rfl) ?_
    refine xW_getC O T2 w_918 x_2184 w_2183 w_919 w_936 d_Arr_copyOf_aLObjectI_3 (Nat.le_of_ble_eq_true rfl) ?_
    refine xW_callS O (dx_Arr_copyOf_aLObjectILClass O T2) rfl l_Arr_300 w_938 rfl (Nat.le_of_ble_eq_true rfl) d_Arr_copyOf_aLObjectI_6 (fun v2 s1 _ => ?_)
    exact xW_ret (fun _ _ _ _ _ => am_aret rfl (Or.inr ⟨_, rfl⟩) d_Arr_copyOf_aLObjectI_9)

set_option maxRecDepth 100000 in
def x_AL_grow_I_b20 (d : Nat) (l0 : Nat) (l1 : Int32) (l2 : Int32) (s : HS) : Option (Nat × HS) := bnd (x_AS_newLength d l2 (l1 - l2) ((l2 : Int32) >>> ((1 : Int32) &&& 31)) s) fun v4 s3 => ((gR s3 l0 3 0).bind fun v5 => (bnd (x_Arr_copyOf_aLObjectI d v5 v4 s3) fun v7 s6 => ((pV s6 l0 3 0 (.ref v7)).bind fun s8 => (some (v7, s8)))))

set_option maxRecDepth 100000 in
set_option maxHeartbeats 4000000 in
theorem dx_AL_grow_I_b20 (O : am_ok K X) (T2 : am_T2 K) {d : Nat} {l0 : Nat} {l1 : Int32} {l2 : Int32} {s : HS} : xW cvR K X m_AL_grow_I (d + 1) 20 [(0, .ref l0), (1, .int l1), (2, .int l2)] [] s (x_AL_grow_I_b20 d l0 l1 l2 s) := by
  have T := T2.1
  unfold x_AL_grow_I_b20
  refine xW_pure (fun _ _ _ _ _ => am_iload_n d_AL_grow_I_20 rfl rfl) ?_
  refine xW_pure (fun _ _ _ _ _ => am_iload_n d_AL_grow_I_21 rfl rfl) ?_
  refine xW_pure (fun _ _ _ _ _ => am_iload_n d_AL_grow_I_22 rfl rfl) ?_
  refine xW_pure (fun _ _ _ _ _ => am_isub d_AL_grow_I_23) ?_
  refine xW_pure (fun _ _ _ _ _ => am_iload_n d_AL_grow_I_24 rfl rfl) ?_
  refine xW_pure (fun _ _ _ _ _ => am_iconst (v := 1) d_AL_grow_I_25 (by decide)) ?_
  refine xW_pure (fun _ _ _ _ _ => am_ishr d_AL_grow_I_26) ?_
  refine xW_callS O (dx_AS_newLength O T2) rfl l_AL_73 w_908 rfl (Nat.le_of_ble_eq_true rfl) d_AL_grow_I_27 (fun v4 s3 _ => ?_)
  refine xW_pure (fun _ _ _ _ _ => am_istore_n d_AL_grow_I_30 rfl (Nat.le_of_ble_eq_true rfl)) ?_
  refine xW_pure (fun _ _ _ _ _ => am_aload_n d_AL_grow_I_31 rfl rfl) ?_
  refine xW_pure (fun _ _ _ _ _ => am_aload_n d_AL_grow_I_32 rfl rfl) ?_
  refine xW_gR O f_AL_9 d_AL_grow_I_33 (fun v5 _ => ?_)
  refine xW_pure (fun _ _ _ _ _ => am_iload_n d_AL_grow_I_36 rfl rfl) ?_
  refine xW_callS O (dx_Arr_copyOf_aLObjectI O T2) rfl l_AL_66 w_916 rfl (Nat.le_of_ble_eq_true rfl) d_AL_grow_I_37 (fun v7 s6 _ => ?_)
  refine xW_pure (fun _ _ _ _ _ => am_dup_x1 d_AL_grow_I_40 rfl rfl) ?_
  refine xW_put O f_AL_9 d_AL_grow_I_41 (fun q hq => by cases hq; exact ⟨rfl, rfl, rfl⟩) (fun s8 _ => ?_)
  exact xW_ret (fun _ _ _ _ _ => am_aret rfl (Or.inr ⟨_, rfl⟩) d_AL_grow_I_44)

set_option maxRecDepth 100000 in
def x_AL_grow_I (d : Nat) (x0 : Nat) (x1 : Int32) (s : HS) : Option (Nat × HS) := match d with
  | 0 => none
  | d + 1 => gd s x0 3 ((gR s x0 3 0).bind fun v1 => ((lenX s v1).bind fun v2 => (if 0 < v2 then (x_AL_grow_I_b20 d x0 x1 v2 s) else ((gR s x0 3 0).bind fun v9 => (if v9 = 1 then ((newR "java/lang/Object" s (if 10 < x1 then x1 else 10)).bind fun s10 => ((pV s10 x0 3 0 (.ref s.1)).bind fun s11 => (some (s.1, s11)))) else if 128 ≤ v9 then (x_AL_grow_I_b20 d x0 x1 v2 s) else none)))))

set_option maxRecDepth 100000 in
set_option maxHeartbeats 4000000 in
theorem dx_AL_grow_I (O : am_ok K X) (T2 : am_T2 K) {d : Nat} {x0 : Nat} {x1 : Int32} {s : HS} : xM cvR K X m_AL_grow_I d [.ref x0, .int x1] s (x_AL_grow_I d x0 x1 s) := by
  cases d with
  | zero => exact xM_none
  | succ d =>
    have T := T2.1
    unfold x_AL_grow_I
    refine xM_enter (by decide +kernel) (Nat.le_of_ble_eq_true rfl) ?_
    refine xW_gd (fun _ => ?_)
    refine xW_pure (fun _ _ _ _ _ => am_aload_n d_AL_grow_I_0 rfl rfl) ?_
    refine xW_gR O f_AL_9 d_AL_grow_I_1 (fun v1 _ => ?_)
    refine xW_lenX O T2 d_AL_grow_I_4 (fun v2 _ => ?_)
    refine xW_pure (fun _ _ _ _ _ => am_istore_n d_AL_grow_I_5 rfl (Nat.le_of_ble_eq_true rfl)) ?_
    refine xW_pure (fun _ _ _ _ _ => am_iload_n d_AL_grow_I_6 rfl rfl) ?_
    refine xW_ite (fun _ _ _ _ _ => am_if_gt (tgt := 20) d_AL_grow_I_7 (by decide)) (fun _ => ?_) (fun _ => ?_)
    · refine xW_locs (lv' := [(0, .ref x0), (1, .int x1), (2, .int v2)]) rfl ?_
      exact dx_AL_grow_I_b20 O T2
    · refine xW_pure (fun _ _ _ _ _ => am_aload_n d_AL_grow_I_10 rfl rfl) ?_
      refine xW_gR O f_AL_9 d_AL_grow_I_11 (fun v9 _ => ?_)
      refine xW_pure (fun _ _ _ _ _ => am_gets (v := .ref 1) T.1.2.2 w_330 d_AL_grow_I_14) ?_
      refine xW_acmp1 T2 (tgt := 45) d_AL_grow_I_17 (by decide) (fun _ => ?_) (fun _ => ?_)
      · refine xW_pure (fun _ _ _ _ _ => am_aload_n d_AL_grow_I_45 rfl rfl) ?_
        refine xW_pure (fun _ _ _ _ _ => am_bipush (v := 10) d_AL_grow_I_46 (by decide)) ?_
        refine xW_pure (fun _ _ _ _ _ => am_iload_n d_AL_grow_I_48 rfl rfl) ?_
        refine xW_pure (fun _ _ _ _ _ => am_mmax w_943 w_623 w_164 w_624 d_AL_grow_I_49 (Nat.le_of_ble_eq_true rfl) (by omega)) ?_
        refine xW_newR O (by decide) w_944 x_941 d_AL_grow_I_52 (fun s10 _ => ?_)
        refine xW_pure (fun _ _ _ _ _ => am_dup_x1 d_AL_grow_I_55 rfl rfl) ?_
        refine xW_put O f_AL_9 d_AL_grow_I_56 (fun q hq => by cases hq; exact ⟨rfl, rfl, rfl⟩) (fun s11 _ => ?_)
        exact xW_ret (fun _ _ _ _ _ => am_aret rfl (Or.inr ⟨_, rfl⟩) d_AL_grow_I_59)
      · refine xW_locs (lv' := [(0, .ref x0), (1, .int x1), (2, .int v2)]) rfl ?_
        exact dx_AL_grow_I_b20 O T2

theorem ob_AL_grow_I {d : Nat} {x0 : Nat} {x1 : Int32} {s : HS} {y : Nat × HS} (h : x_AL_grow_I d x0 x1 s = some y) : isO s x0 3 = true := by
  cases d with
  | zero => cases h
  | succ d => exact (gd_spec h).1

set_option maxRecDepth 100000 in
def x_AL_grow_ (d : Nat) (x0 : Nat) (s : HS) : Option (Nat × HS) := match d with
  | 0 => none
  | d + 1 => gd s x0 3 ((gI s x0 3 1).bind fun v1 => (bnd (x_AL_grow_I d x0 (v1 + 1) s) fun v3 s2 => (some (v3, s2))))

set_option maxRecDepth 100000 in
set_option maxHeartbeats 4000000 in
theorem dx_AL_grow_ (O : am_ok K X) (T2 : am_T2 K) {d : Nat} {x0 : Nat} {s : HS} : xM cvR K X m_AL_grow_ d [.ref x0] s (x_AL_grow_ d x0 s) := by
  cases d with
  | zero => exact xM_none
  | succ d =>
    have T := T2.1
    unfold x_AL_grow_
    refine xM_enter (by decide +kernel) (Nat.le_of_ble_eq_true rfl) ?_
    refine xW_gd (fun _ => ?_)
    refine xW_pure (fun _ _ _ _ _ => am_aload_n d_AL_grow__0 rfl rfl) ?_
    refine xW_pure (fun _ _ _ _ _ => am_aload_n d_AL_grow__1 rfl rfl) ?_
    refine xW_gI O f_AL_48 d_AL_grow__2 (fun v1 _ => ?_)
    refine xW_pure (fun _ _ _ _ _ => am_iconst (v := 1) d_AL_grow__5 (by decide)) ?_
    refine xW_pure (fun _ _ _ _ _ => am_iadd d_AL_grow__6) ?_
    refine xW_callV O (dx_AL_grow_I O T2) (fun _ e => ob_AL_grow_I e) rfl rfl rfl l_AL_69 ⟨w_905, w_38⟩ rfl (Nat.le_of_ble_eq_true rfl) d_AL_grow__7 (fun v3 s2 _ => ?_)
    exact xW_ret (fun _ _ _ _ _ => am_aret rfl (Or.inr ⟨_, rfl⟩) d_AL_grow__10)

theorem ob_AL_grow_ {d : Nat} {x0 : Nat} {s : HS} {y : Nat × HS} (h : x_AL_grow_ d x0 s = some y) : isO s x0 3 = true := by
  cases d with
  | zero => cases h
  | succ d => exact (gd_spec h).1

set_option maxRecDepth 100000 in
def x_AL_add_LObjectaLObjectI_b11 (d : Nat) (l0 : Nat) (l1 : Nat) (l2 : Nat) (l3 : Int32) (s : HS) : Option (Unit × HS) := (sRO s l2 l3 l1).bind fun s4 => ((pV s4 l0 3 1 (.int (l3 + 1))).bind fun s5 => (some ((), s5)))

set_option maxRecDepth 100000 in
set_option maxHeartbeats 4000000 in
theorem dx_AL_add_LObjectaLObjectI_b11 (O : am_ok K X) (T2 : am_T2 K) {d : Nat} {l0 : Nat} {l1 : Nat} {l2 : Nat} {l3 : Int32} {s : HS} : xW cvU K X m_AL_add_LObjectaLObjectI (d + 1) 11 [(0, .ref l0), (1, .ref l1), (2, .ref l2), (3, .int l3)] [] s (x_AL_add_LObjectaLObjectI_b11 d l0 l1 l2 l3 s) := by
  have T := T2.1
  unfold x_AL_add_LObjectaLObjectI_b11
  refine xW_pure (fun _ _ _ _ _ => am_aload_n d_AL_add_LObjectaLObjectI_11 rfl rfl) ?_
  refine xW_pure (fun _ _ _ _ _ => am_iload_n d_AL_add_LObjectaLObjectI_12 rfl rfl) ?_
  refine xW_pure (fun _ _ _ _ _ => am_aload_n d_AL_add_LObjectaLObjectI_13 rfl rfl) ?_
  refine xW_sRO O x_2190 d_AL_add_LObjectaLObjectI_14 (fun s4 _ => ?_)
  refine xW_pure (fun _ _ _ _ _ => am_aload_n d_AL_add_LObjectaLObjectI_15 rfl rfl) ?_
  refine xW_pure (fun _ _ _ _ _ => am_iload_n d_AL_add_LObjectaLObjectI_16 rfl rfl) ?_
  refine xW_pure (fun _ _ _ _ _ => am_iconst (v := 1) d_AL_add_LObjectaLObjectI_17 (by decide)) ?_
  refine xW_pure (fun _ _ _ _ _ => am_iadd d_AL_add_LObjectaLObjectI_18) ?_
  refine xW_put O f_AL_48 d_AL_add_LObjectaLObjectI_19 (fun q hq => by cases hq; exact ⟨rfl, rfl, rfl⟩) (fun s5 _ => ?_)
  exact xW_ret (fun _ _ _ _ _ => am_vret rfl d_AL_add_LObjectaLObjectI_22)

set_option maxRecDepth 100000 in
def x_AL_add_LObjectaLObjectI (d : Nat) (x0 : Nat) (x1 : Nat) (x2 : Nat) (x3 : Int32) (s : HS) : Option (Unit × HS) := match d with
  | 0 => none
  | d + 1 => gd s x0 3 ((lenX s x2).bind fun v1 => (if x3 = v1 then (bnd (x_AL_grow_ d x0 s) fun v3 s2 => (x_AL_add_LObjectaLObjectI_b11 d x0 x1 v3 x3 s2)) else (x_AL_add_LObjectaLObjectI_b11 d x0 x1 x2 x3 s)))

set_option maxRecDepth 100000 in
set_option maxHeartbeats 4000000 in
theorem dx_AL_add_LObjectaLObjectI (O : am_ok K X) (T2 : am_T2 K) {d : Nat} {x0 : Nat} {x1 : Nat} {x2 : Nat} {x3 : Int32} {s : HS} : xM cvU K X m_AL_add_LObjectaLObjectI d [.ref x0, .ref x1, .ref x2, .int x3] s (x_AL_add_LObjectaLObjectI d x0 x1 x2 x3 s) := by
  cases d with
  | zero => exact xM_none
  | succ d =>
    have T := T2.1
    unfold x_AL_add_LObjectaLObjectI
    refine xM_enter (by decide +kernel) (Nat.le_of_ble_eq_true rfl) ?_
    refine xW_gd (fun _ => ?_)
    refine xW_pure (fun _ _ _ _ _ => am_iload_n d_AL_add_LObjectaLObjectI_0 rfl rfl) ?_
    refine xW_pure (fun _ _ _ _ _ => am_aload_n d_AL_add_LObjectaLObjectI_1 rfl rfl) ?_
    refine xW_lenX O T2 d_AL_add_LObjectaLObjectI_2 (fun v1 _ => ?_)
    refine xW_ite (fun _ _ _ _ _ k1 k2 => am_icmp_ne (tgt := 11) d_AL_add_LObjectaLObjectI_3 (by decide) k2 k1) (fun _ => ?_) (fun _ => ?_)
    · refine xW_pure (fun _ _ _ _ _ => am_aload_n d_AL_add_LObjectaLObjectI_6 rfl rfl) ?_
      refine xW_callV O (dx_AL_grow_ O T2) (fun _ e => ob_AL_grow_ e) rfl rfl rfl l_AL_129 ⟨w_901, w_37⟩ rfl (Nat.le_of_ble_eq_true rfl) d_AL_add_LObjectaLObjectI_7 (fun v3 s2 _ => ?_)
      refine xW_pure (fun _ _ _ _ _ => am_astore_n d_AL_add_LObjectaLObjectI_10 rfl (Nat.le_of_ble_eq_true rfl)) ?_
      refine xW_locs (lv' := [(0, .ref x0), (1, .ref x1), (2, .ref v3), (3, .int x3)]) rfl ?_
      exact dx_AL_add_LObjectaLObjectI_b11 O T2
    · refine xW_locs (lv' := [(0, .ref x0), (1, .ref x1), (2, .ref x2), (3, .int x3)]) rfl ?_
      exact dx_AL_add_LObjectaLObjectI_b11 O T2

theorem ob_AL_add_LObjectaLObjectI {d : Nat} {x0 : Nat} {x1 : Nat} {x2 : Nat} {x3 : Int32} {s : HS} {y : Unit × HS} (h : x_AL_add_LObjectaLObjectI d x0 x1 x2 x3 s = some y) : isO s x0 3 = true := by
  cases d with
  | zero => cases h
  | succ d => exact (gd_spec h).1

set_option maxRecDepth 100000 in
def x_AL_add_LObject (d : Nat) (x0 : Nat) (x1 : Nat) (s : HS) : Option (Int32 × HS) := match d with
  | 0 => none
  | d + 1 => gd s x0 3 ((gI s x0 3 2).bind fun v1 => ((pV s x0 3 2 (.int (v1 + 1))).bind fun s2 => ((gR s2 x0 3 0).bind fun v3 => ((gI s2 x0 3 1).bind fun v4 => (bnd (x_AL_add_LObjectaLObjectI d x0 x1 v3 v4 s2) fun v6 s5 => (some (1, s5)))))))

set_option maxRecDepth 100000 in
set_option maxHeartbeats 4000000 in
theorem dx_AL_add_LObject (O : am_ok K X) (T2 : am_T2 K) {d : Nat} {x0 : Nat} {x1 : Nat} {s : HS} : xM cvI K X m_AL_add_LObject d [.ref x0, .ref x1] s (x_AL_add_LObject d x0 x1 s) := by
  cases d with
  | zero => exact xM_none
  | succ d =>
    have T := T2.1
    unfold x_AL_add_LObject
    refine xM_enter (by decide +kernel) (Nat.le_of_ble_eq_true rfl) ?_
    refine xW_gd (fun _ => ?_)
    refine xW_pure (fun _ _ _ _ _ => am_aload_n d_AL_add_LObject_0 rfl rfl) ?_
    refine xW_pure (fun _ _ _ _ _ => am_dup d_AL_add_LObject_1 rfl) ?_
    refine xW_gIS O fS_AL_63 d_AL_add_LObject_2 (fun v1 _ => ?_)
    refine xW_pure (fun _ _ _ _ _ => am_iconst (v := 1) d_AL_add_LObject_5 (by decide)) ?_
    refine xW_pure (fun _ _ _ _ _ => am_iadd d_AL_add_LObject_6) ?_
    refine xW_putS O fS_AL_63 d_AL_add_LObject_7 (fun q hq => by cases hq; exact ⟨rfl, rfl, rfl⟩) (fun s2 _ => ?_)
    refine xW_pure (fun _ _ _ _ _ => am_aload_n d_AL_add_LObject_10 rfl rfl) ?_
    refine xW_pure (fun _ _ _ _ _ => am_aload_n d_AL_add_LObject_11 rfl rfl) ?_
    refine xW_pure (fun _ _ _ _ _ => am_aload_n d_AL_add_LObject_12 rfl rfl) ?_
    refine xW_gR O f_AL_9 d_AL_add_LObject_13 (fun v3 _ => ?_)
    refine xW_pure (fun _ _ _ _ _ => am_aload_n d_AL_add_LObject_16 rfl rfl) ?_
    refine xW_gI O f_AL_48 d_AL_add_LObject_17 (fun v4 _ => ?_)
    refine xW_callV O (dx_AL_add_LObjectaLObjectI O T2) (fun _ e => ob_AL_add_LObjectaLObjectI e) rfl rfl rfl l_AL_131 ⟨w_897, w_36⟩ rfl (Nat.le_of_ble_eq_true rfl) d_AL_add_LObject_20 (fun v6 s5 _ => ?_)
    refine xW_pure (fun _ _ _ _ _ => am_iconst (v := 1) d_AL_add_LObject_23 (by decide)) ?_
    exact xW_ret (fun _ _ _ _ _ => am_zret (ty := .boolean) rfl rfl d_AL_add_LObject_24)

theorem ob_AL_add_LObject {d : Nat} {x0 : Nat} {x1 : Nat} {s : HS} {y : Int32 × HS} (h : x_AL_add_LObject d x0 x1 s = some y) : isO s x0 3 = true := by
  cases d with
  | zero => cases h
  | succ d => exact (gd_spec h).1
end
