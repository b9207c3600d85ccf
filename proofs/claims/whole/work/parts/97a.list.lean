/-! what ArrayList needs: arrays of Object that hold Units, class objects, references held against each other -/
def am_T2 (K : am_K) : Prop := am_T K ∧ va_T (.object "java/lang/Object") (am_ad K 1) 0 (fun _ => .null) (am_A K) K.1 K.1.heap ∧ va_Mi "[Ljava/lang/Object;" (am_ad K 5) K.1
section AML
variable {K : am_K} {X : Nat → am_C} {M : am_M} {d kc ks uc us pc : Nat} {lv : List (Nat × Value)} {st : List Value} {hn : Nat} {hf : Nat → am_C} {post : Option Value → am_H → Prop}
theorem am_aastO (O : am_ok K X) {r n rv ci : Nat} {q : vw_C} {vs : List Value} {f : Nat → Value} {i : Int32} (hd : decode M.2.1 pc = .ok (.aastore, 1)) (hc : hf r = .inl (.object "java/lang/Object", n, f)) (hr : 128 ≤ r) (hr2 : r < hn) (hv : hf rv = .inr (ci, vs)) (hv1 : 128 ≤ rv) (hv2 : rv < hn) (hq : am_cl[ci]? = some q) (hcl : Cond.castable q.1 "java/lang/Object" ∈ lw_tbl) (hin : vp_in i n) (kk : am_W K X M d kc ks uc us (pc + 1) lv st (hn, va_up hf r (.inl (.object "java/lang/Object", n, updV f i.toNatClampNeg (.ref rv)))) post) : am_W K X M d kc ks uc us pc lv (.ref rv :: .int i :: .ref r :: st) (hn, hf) post := by
  intro p l e R s m args below meth c H locs cells slots ls z hH hL hl h1 h2
  have hlt : i.toNatClampNeg < n := Nat.not_le.mp fun q => hin (Or.inr q)
  have h0 : ¬ i < 0 := fun q => hin (Or.inl q)
  obtain ⟨cellV, g1, g3, g2⟩ := am_rcv hH hv hv1 hv2 hq
  have hcls := ((am_kc O z).1 ci q hq).2
  obtain ⟨kA, comp, k1, k2, k3, -⟩ := (am_kn O z (ty := .object "java/lang/Object") (by decide)).2
  obtain ⟨A, hA⟩ := O.2.2 _ hcl
  obtain ⟨c0, t0, f1, f2, f3⟩ := Cond.castable_spec (va_Nw.use (A := args) rfl (va_Nw.warmC z.2.2.2.2.2.2.2.2.1 (va_Nw.of rfl hA)))
  cases hcls.1.symm.trans f1
  cases k3.symm.trans f2
  obtain ⟨kC, hkC, hkk⟩ := hcls.2
  obtain ⟨kO, hkO⟩ := Vm.classAt_of_findClass k3
  refine W.aast z.1 z.2.1 (am_hat hH hc hr hr2) (fun q h => by cases h) (fun h => by cases h) k1 k2 rfl hkO ⟨h0, by rw [arrV_size]; exact hlt⟩ g1 (fun q h => by rw [g3] at h; cases h) (by rw [g2]; exact hkC) (by rw [g2]; exact f3) rfl rfl hd fun H' w1 w2 w3 => ?_
  refine kk p l e R s m args below meth c H' _ cells slots ls z (hH.set hr hr2 w2 w3 ?_) (am_locs2 hL hr) hl h1 h2
  show H'[am_ad K r]? = some (arrV _ n _)
  rw [w1, arrV_store]
  exact congrArg (fun g => some (arrV _ n g)) (am_updV K f i.toNatClampNeg (.ref rv))
theorem am_copyO (O : am_ok K X) {ix r0 r1 n0 n1 P Q N : Nat} {ci : Nat} {qc : vw_C} {f g : Nat → Value} {sp dp n : Int32} (hw : Cond.methodLink M.1.cls ix arraycopyName ∈ am_tbl) (hnat : Cond.native arraycopyName ∈ am_tbl) (hstat : Cond.static arraycopyName ∈ am_tbl) (hini : Cond.initialized "java/lang/System" ∈ am_tbl) (hd : decode M.2.1 pc = .ok (.invokestatic ix, 3)) (hc0 : hf r0 = .inl ((.object "java/lang/Object"), n0, f)) (hr0 : 128 ≤ r0) (hr02 : r0 < hn) (hc1 : hf r1 = .inl ((.object "java/lang/Object"), n1, g)) (hr : 128 ≤ r1) (hr2 : r1 < hn) (h1 : ¬ sp < 0) (h2 : ¬ dp < 0) (h3 : ¬ n < 0) (hP : sp.toNatClampNeg = P) (hQ : dp.toNatClampNeg = Q) (hN : n.toNatClampNeg = N) (h4 : P + N ≤ n0) (h5 : Q + N ≤ n1) (hq : am_cl[ci]? = some qc) (hcl : Cond.castable qc.1 "java/lang/Object" ∈ lw_tbl) (hel : ∀ i : Nat, i < N → f (P + i) = .null ∨ ∃ (y : Nat) (vs : List Value), f (P + i) = .ref y ∧ hf y = .inr (ci, vs) ∧ 128 ≤ y ∧ y < hn) (hst : (st.map fun v => v.category).sum ≤ 8) (hdd : 1 ≤ d)
    (kk : am_W K X M d kc ks uc us (pc + 3) lv st (hn, va_up hf r1 (.inl ((.object "java/lang/Object"), n1, va_cpy f g P Q N))) post) : am_W K X M d kc ks uc us pc lv (.int n :: .int dp :: .ref r1 :: .int sp :: .ref r0 :: st) (hn, hf) post := by
  have nn : ∀ z : Int32, ¬ z < 0 → z.toInt = (z.toNatClampNeg : Int) := by
    intro z hz
    have hz0 : (0 : Int) ≤ z.toInt := by
      have := Int32.not_lt.mp hz
      simpa using Int32.le_iff_toInt_le.mp this
    show z.toInt = ((z.toInt.toNat : Nat) : Int)
    omega
  subst hP; subst hQ; subst hN
  intro p l e R s m args below meth c H locs cells slots ls z hH hL hl h11 h12
  have hcat : ((st.map (am_tr K)).map fun v => v.category).sum ≤ 8 := by
    rw [List.map_map, show ((fun v : Value => v.category) ∘ am_tr K) = fun v => v.category from funext (am_cat K)]
    exact hst
  have hnw : nativeFrameWords "java/lang/System" "arraycopy" 5 ≤ 40 := by decide +kernel
  obtain ⟨z1, z2, z3, z4, z5, z6, z7, z8, z9, z10, z11⟩ := id z
  have ht : (FieldType.object "java/lang/Object") ∈ am_tys := by decide
  obtain ⟨A, hA⟩ := O.2.2 _ hcl
  obtain ⟨c0, t0, f1, f2, f3⟩ := Cond.castable_spec (va_Nw.use (A := args) rfl (va_Nw.warmC z9 (va_Nw.of rfl hA)))
  intro T hT X1
  have k0 := am_hat hH hc0 hr0 hr02
  have k1 := am_hat hH hc1 hr hr2
  obtain ⟨-, kA0, hk0, cm0, hkk0⟩ := (am_kn O z ht).1 n0 (fun j => am_tr K (f j))
  obtain ⟨-, kA1, hk1, cm1, hkk1⟩ := (am_kn O z ht).1 n1 (fun j => am_tr K (g j))
  obtain ⟨vm', X', step⟩ := X1.arraycopy z1 z4 (z5 _ hw) (z5 _ hnat) (z5 _ hstat) (z5 _ hini) (src := am_ad K r0) (dst := am_ad K r1) (srcPos := sp) (destPos := dp) (n := n) (by rw [hT]; exact k0) (by rw [hT]; exact k1)
    (fun _ h => by cases h) (fun _ h => by cases h) (fun h => by cases h) (fun h => by cases h) hk0 hk1 hkk0 hkk1 rfl h1 h2 h3
    (by rw [nn sp h1, nn n h3, arrV_size]; omega)
    (by rw [nn dp h2, nn n h3, arrV_size]; omega)
    (fun vm₁ hal i hi => by
      have e : (arrV (K.2.2.1 (.object "java/lang/Object")) n0 (fun j => am_tr K (f j))).slots.getD (sp.toNatClampNeg + i) .null = am_tr K (f (sp.toNatClampNeg + i)) := by
        rw [Array.getD_eq_getD_getElem?, arrV_read _ _ (by omega)]
        rfl
      rw [e]
      rcases hel i hi with hx | ⟨y, vs, hx, g1, g2, g3⟩
      · rw [hx]; exact ⟨rfl, trivial⟩
      · rw [hx]
        obtain ⟨cellV, v1, v2, v3⟩ := am_rcv hH g1 g2 g3 hq
        have hcls := ((am_kc O z).1 ci qc hq).2
        obtain ⟨kA, comp, q1, q2, q3, -⟩ := (am_kn O z ht).2
        cases hk1.symm.trans q1
        cases hkk1.symm.trans q2
        cases hcls.1.symm.trans f1
        cases q3.symm.trans f2
        obtain ⟨kC, hkC, -⟩ := hcls.2
        obtain ⟨kC', hkC', -⟩ := hal.2.2 _ _ hkC
        obtain ⟨kO, hkO⟩ := Vm.classAt_of_findClass q3
        obtain ⟨kO', hkO', -⟩ := hal.2.2 _ _ hkO
        refine ⟨rfl, cellV, (show T.heap[am_ad K y]? = some cellV by rw [hT]; exact v1), (fun q h => by rw [v2] at h; cases h), ⟨kC', by rw [v3]; exact hkC'⟩, ?_, ?_⟩
        · exact ⟨kO', hkO'⟩
        · show vm₁.assignable _ _ = true
          rw [hal.assignable, v3]
          exact f3)
    (g := F0 m pc ls ((.int n :: .int dp :: .ref r1 :: .int sp :: .ref r0 :: st).map (am_tr K))) rfl (by rw [z3]; exact hl.1) (rest := st.map (am_tr K)) rfl (by rw [z2]; exact hd) (by omega) (by show 2 * 0 + _ + _ ≤ _; omega)
  have e1 : copied (arrV (K.2.2.1 (.object "java/lang/Object")) n0 (fun j => am_tr K (f j))) (arrV (K.2.2.1 (.object "java/lang/Object")) n1 (fun j => am_tr K (g j))) sp dp n = arrV (K.2.2.1 (.object "java/lang/Object")) n1 (fun j => am_tr K (va_cpy f g sp.toNatClampNeg dp.toNatClampNeg n.toNatClampNeg j)) := va_copied (fun v => am_tr K v) _ _ f g h4
  rw [e1] at X' step
  have hlt : am_ad K r1 < H.size := (Array.getElem?_eq_some_iff.mp k1).1
  have hheap : ((T.setVm vm').setCell (am_ad K r1) (arrV (K.2.2.1 (.object "java/lang/Object")) n1 (fun j => am_tr K (va_cpy f g sp.toNatClampNeg dp.toNatClampNeg n.toNatClampNeg j)))).heap = H.setIfInBounds (am_ad K r1) (arrV (K.2.2.1 (.object "java/lang/Object")) n1 (fun j => am_tr K (va_cpy f g sp.toNatClampNeg dp.toNatClampNeg n.toNatClampNeg j))) := by rw [← hT]; rfl
  have hH2 := hH.set (c := .inl ((.object "java/lang/Object"), n1, va_cpy f g sp.toNatClampNeg dp.toNatClampNeg n.toNatClampNeg)) (H1 := H.setIfInBounds (am_ad K r1) (arrV (K.2.2.1 (.object "java/lang/Object")) n1 (fun j => am_tr K (va_cpy f g sp.toNatClampNeg dp.toNatClampNeg n.toNatClampNeg j)))) hr hr2 (by simp) (fun q hq => by simp [Array.getElem?_setIfInBounds, Ne.symm hq]) (show (H.setIfInBounds (am_ad K r1) _)[am_ad K r1]? = some _ by simp [Array.getElem?_setIfInBounds, hlt])
  obtain ⟨t, a1, b1⟩ := kk p l e R s m args below meth c _ _ cells slots ls z hH2 (fun q hq => by
      rcases List.mem_append.mp hq with h | h
      · exact hL q h
      · obtain ⟨y, -, hy⟩ := List.mem_map.mp h
        rw [← hy]
        show K.1.heap.size ≤ am_ad K r1
        rw [am_ad_hi hr]
        exact Nat.le_add_right _ _) hl h11 h12 _ hheap X'
  exact ⟨t, step t a1, b1⟩
/-- getClass of an array of Object -/
theorem am_getC (O : am_ok K X) {ix r N : Nat} {f : Nat → Value} (hM : va_Mi "[Ljava/lang/Object;" (am_ad K 5) K.1) (hw : Cond.methodLink M.1.cls ix ⟨"java/lang/Object", "getClass", "()Ljava/lang/Class;"⟩ ∈ am_tbl) (hdc : Cond.declares ⟨"java/lang/Object", "getClass", "()Ljava/lang/Class;"⟩ ∈ lw_tbl) (hsel : Cond.selects "[Ljava/lang/Object;" ⟨"java/lang/Object", "getClass", "()Ljava/lang/Class;"⟩ ⟨"java/lang/Object", "getClass", "()Ljava/lang/Class;"⟩ ∈ am_tbl) (hinst : Cond.instanceMethod ⟨"java/lang/Object", "getClass", "()Ljava/lang/Class;"⟩ ∈ am_tbl) (hnat : Cond.native ⟨"java/lang/Object", "getClass", "()Ljava/lang/Class;"⟩ ∈ am_tbl) (hd : decode M.2.1 pc = .ok (.invokevirtual ix, 3)) (hc : hf r = .inl (.object "java/lang/Object", N, f)) (hr : 128 ≤ r) (hr2 : r < hn) (hst : (st.map fun v => v.category).sum ≤ 8) (hdd : 1 ≤ d) (kk : am_W K X M d kc ks uc us (pc + 3) lv (.ref 5 :: st) (hn, hf) post) : am_W K X M d kc ks uc us pc lv (.ref r :: st) (hn, hf) post := by
  intro p l e R s m args below meth c H locs cells slots ls z hH hL hl h1 h2
  have hcat : ((st.map (am_tr K)).map fun v => v.category).sum ≤ 8 := by
    rw [List.map_map, show ((fun v : Value => v.category) ∘ am_tr K) = fun v => v.category from funext (am_cat K)]
    exact hst
  obtain ⟨z1, z2, z3, z4, z5, z6, z7, z8, z9, z10, z11⟩ := id z
  obtain ⟨A, hA⟩ := O.2.2 _ hdc
  have hnm : s.vm.findClass "[Ljava/lang/Object;" = some (K.2.2.1 (.object "java/lang/Object")) := am_RA (am_kn O z (ty := .object "java/lang/Object") (by decide)).2
  exact va_getC (mi := am_ad K 5) z1 z2 (by rw [z3]; exact hl.1.symm) z4 (z5 _ hw) (va_Nw.use rfl (va_Nw.warmD z9 (va_Nw.of rfl hA))) (z5 _ hsel) (z5 _ hinst) (z5 _ hnat) (va_Mi.moved z9.alike hM) ⟨_, am_hat hH hc hr hr2, rfl, hnm⟩ (by omega) (by omega) hd (kk p l e R s m args below meth c H locs cells slots ls z hH hL hl h1 h2)
theorem am_ldcM {h : am_H} {ix : Nat} (hM : va_Mi "[Ljava/lang/Object;" (am_ad K 5) K.1) (hw : Cond.classLink M.1.cls ix "[Ljava/lang/Object;" ∈ am_tbl) (hd : decode M.2.1 pc = .ok (.ldc ix, 2)) (kk : am_W K X M d kc ks uc us (pc + 2) lv (.ref 5 :: st) h post) : am_W K X M d kc ks uc us pc lv st h post := by
  intro p l e R s m args below meth c H locs cells slots ls z hH hL hl h1 h2
  obtain ⟨z1, z2, z3, z4, z5, z6, z7, z8, z9, z10, z11⟩ := id z
  exact va_ldcM (mi := am_ad K 5) z1 z2 z4 (z5 _ hw) (va_Mi.moved z9.alike hM) hd (kk p l e R s m args below meth c H locs cells slots ls z hH hL hl h1 h2)
theorem am_acmp_same {h : am_H} {off : Int} {r : Nat} (hd : decode M.2.1 pc = .ok (.if_acmp .ne off, 3)) {tgt : Nat} (ht : (pc : Int) + off = (tgt : Int)) (kk : am_W K X M d kc ks uc us (pc + 3) lv st h post) : am_W K X M d kc ks uc us pc lv (.ref r :: .ref r :: st) h post := by
  intro p l e R s m args below meth c H locs cells slots ls z hH hL hl h1 h2
  exact lv_acmp_ne (rx := some (am_ad K r)) (ry := some (am_ad K r)) z.1 z.2.1 hd ht (fun q => absurd rfl q) (fun _ => kk p l e R s m args below meth c H locs cells slots ls z hH hL hl h1 h2)
theorem am_acmp_eq {h : am_H} {off : Int} {a b : Nat} (hd : decode M.2.1 pc = .ok (.if_acmp .eq off, 3)) {tgt : Nat} (ht : (pc : Int) + off = (tgt : Int)) (hab : a = b ∨ am_ad K a ≠ am_ad K b) (kt : a = b → am_W K X M d kc ks uc us tgt lv st h post) (kf : ¬ a = b → am_W K X M d kc ks uc us (pc + 3) lv st h post) : am_W K X M d kc ks uc us pc lv (.ref b :: .ref a :: st) h post := by
  intro p l e R s m args below meth c H locs cells slots ls z hH hL hl h1 h2
  refine lv_acmp_eq (rx := some (am_ad K a)) (ry := some (am_ad K b)) z.1 z.2.1 hd ht (fun q => ?_) (fun q => ?_)
  · rcases hab with hab | hab
    · exact kt hab p l e R s m args below meth c H locs cells slots ls z hH hL hl h1 h2
    · exact absurd (Option.some.inj q) hab
  · exact kf (fun e => q (by rw [e])) p l e R s m args below meth c H locs cells slots ls z hH hL hl h1 h2
end AML
section
variable {α : Type} {cv : α → Option Value} {K : am_K} {X : Nat → am_C} {M : am_M} {d pc : Nat} {lv : List (Nat × Value)} {st : List Value} {s : HS} {res : Option (α × HS)}
def lenX (s : HS) (a : Nat) : Option Int32 := if a = 1 then some 0 else lenA s a
theorem xW_lenX (O : am_ok K X) (T : am_T2 K) {a : Nat} {c : Int32 → Option (α × HS)} (hd : decode M.2.1 pc = .ok (.arraylength, 1)) (kk : ∀ x, lenX s a = some x → xW cv K X M d (pc + 1) lv (.int x :: st) s (c x)) : xW cv K X M d pc lv (.ref a :: st) s ((lenX s a).bind c) := by
  by_cases h : a = 1
  · subst h
    have e : lenX s 1 = some 0 := if_pos rfl
    rw [e]
    exact xW_pure (fun _ _ _ _ _ => am_alenE T.2.1 hd) (kk 0 e)
  · have e : lenX s a = lenA s a := if_neg h
    rw [e]
    exact xW_len O hd (fun x hx => kk x (e.trans hx))
theorem am_ad1 (T : am_T2 K) {a : Nat} (h : 128 ≤ a) : am_ad K a ≠ am_ad K 1 := by
  obtain ⟨cell, h1, -⟩ := T.2.1
  have h2 : am_ad K 1 < K.1.heap.size := (Array.getElem?_eq_some_iff.mp h1).1
  rw [am_ad_hi h]
  omega
theorem xW_acmp1 (T : am_T2 K) {off : Int} {a tgt : Nat} {t e : Option (α × HS)} (hd : decode M.2.1 pc = .ok (.if_acmp .eq off, 3)) (ht : (pc : Int) + off = (tgt : Int)) (k1 : a = 1 → xW cv K X M d tgt lv st s t) (k2 : ¬ a = 1 → xW cv K X M d (pc + 3) lv st s e) : xW cv K X M d pc lv (.ref 1 :: .ref a :: st) s (if a = 1 then t else if 128 ≤ a then e else none) := by
  by_cases h : a = 1
  · rw [if_pos h]
    exact xW_pure (fun _ _ _ _ _ kk => am_acmp_eq hd ht (Or.inl h) (fun _ => kk) (fun q => absurd h q)) (k1 h)
  · rw [if_neg h]
    refine xW_by (fun h2 => ?_) (fun _ => xW_none)
    exact xW_pure (fun _ _ _ _ _ kk => am_acmp_eq hd ht (Or.inr (am_ad1 T h2)) (fun q => absurd q h) (fun _ => kk)) (k2 h)
def sRO (s : HS) (a : Nat) (i : Int32) (r : Nat) : Option HS := if isO s r 4 = true then sV s (.object "java/lang/Object") a i (.ref r) else none
theorem xW_sRO (O : am_ok K X) {a r : Nat} {i : Int32} {c : HS → Option (α × HS)} (hcl : Cond.castable "StowTongue$Unit" "java/lang/Object" ∈ lw_tbl) (hd : decode M.2.1 pc = .ok (.aastore, 1)) (kk : ∀ t, sRO s a i r = some t → xW cv K X M d (pc + 1) lv st t (c t)) : xW cv K X M d pc lv (.ref r :: .int i :: .ref a :: st) s ((sRO s a i r).bind c) :=
  xW_bind fun t hx => by
    have hx' := hx
    unfold sRO at hx'
    split at hx'
    · next hc =>
      obtain ⟨fs, f1, f2, f3⟩ := isO_spec hc
      obtain ⟨N, g, h1, h2, h3, h4, rfl⟩ := sV_spec hx'
      exact xW_to (kk _ hx) (fun _ _ _ _ _ => am_aastO O (ci := 4) hd h1 h2 h3 f1 f2 f3 rfl hcl h4) rfl rfl
    · cases hx'
def isA (s : HS) (a : Nat) : Bool := match s.2.1 a with
  | .inl o => decide (o.1 = .object "java/lang/Object" ∧ 128 ≤ a ∧ a < s.1)
  | .inr _ => false
theorem xW_getC (O : am_ok K X) (T : am_T2 K) {ix a : Nat} {b : Option (α × HS)} (hw : Cond.methodLink M.1.cls ix ⟨"java/lang/Object", "getClass", "()Ljava/lang/Class;"⟩ ∈ am_tbl) (hdc : Cond.declares ⟨"java/lang/Object", "getClass", "()Ljava/lang/Class;"⟩ ∈ lw_tbl) (hsel : Cond.selects "[Ljava/lang/Object;" ⟨"java/lang/Object", "getClass", "()Ljava/lang/Class;"⟩ ⟨"java/lang/Object", "getClass", "()Ljava/lang/Class;"⟩ ∈ am_tbl) (hinst : Cond.instanceMethod ⟨"java/lang/Object", "getClass", "()Ljava/lang/Class;"⟩ ∈ am_tbl) (hnat : Cond.native ⟨"java/lang/Object", "getClass", "()Ljava/lang/Class;"⟩ ∈ am_tbl) (hd : decode M.2.1 pc = .ok (.invokevirtual ix, 3)) (hst : (st.map fun v => v.category).sum ≤ 8) (k : xW cv K X M (d + 1) (pc + 3) lv (.ref 5 :: st) s b) : xW cv K X M (d + 1) pc lv (.ref a :: st) s (if isA s a = true then b else none) := by
  refine xW_by (fun h => ?_) (fun _ => xW_none)
  unfold isA at h
  split at h
  · next o ho =>
    obtain ⟨c1, c2, c3⟩ := of_decide_eq_true h
    exact xW_pure (fun _ _ _ _ _ => am_getC O T.2.2 hw hdc hsel hinst hnat hd (show s.2.1 a = .inl (.object "java/lang/Object", o.2.1, o.2.2) by rw [ho, ← c1]) c2 c3 hst (by omega)) k
  · cases h
def cpO (s : HS) (a0 : Nat) (sp : Int32) (a1 : Nat) (dp n : Int32) : Option HS := match s.2.1 a0, s.2.1 a1 with
  | .inl o, .inl q => if o.1 = .object "java/lang/Object" ∧ q.1 = .object "java/lang/Object" ∧ 128 ≤ a0 ∧ a0 < s.1 ∧ 128 ≤ a1 ∧ a1 < s.1 ∧ ¬ sp < 0 ∧ ¬ dp < 0 ∧ ¬ n < 0 ∧ sp.toNatClampNeg + n.toNatClampNeg ≤ o.2.1 ∧ dp.toNatClampNeg + n.toNatClampNeg ≤ q.2.1 ∧ (List.range n.toNatClampNeg).all (fun i => match o.2.2 (sp.toNatClampNeg + i) with | .ref y => isO s y 4 | .null => true | _ => false) = true then some (s.1, va_up s.2.1 a1 (.inl (.object "java/lang/Object", q.2.1, va_cpy o.2.2 q.2.2 sp.toNatClampNeg dp.toNatClampNeg n.toNatClampNeg)), s.2.2) else none
  | _, _ => none
theorem xW_copyO (O : am_ok K X) {ix a0 a1 : Nat} {sp dp n : Int32} {c : HS → Option (α × HS)} (hcl : Cond.castable "StowTongue$Unit" "java/lang/Object" ∈ lw_tbl) (hw : Cond.methodLink M.1.cls ix arraycopyName ∈ am_tbl) (hnat : Cond.native arraycopyName ∈ am_tbl) (hstat : Cond.static arraycopyName ∈ am_tbl) (hini : Cond.initialized "java/lang/System" ∈ am_tbl) (hd : decode M.2.1 pc = .ok (.invokestatic ix, 3)) (hst : (st.map fun v => v.category).sum ≤ 8) (kk : ∀ t, cpO s a0 sp a1 dp n = some t → xW cv K X M (d + 1) (pc + 3) lv st t (c t)) : xW cv K X M (d + 1) pc lv (.int n :: .int dp :: .ref a1 :: .int sp :: .ref a0 :: st) s ((cpO s a0 sp a1 dp n).bind c) :=
  xW_bind fun t hx => by
    have hx' := hx
    unfold cpO at hx'
    split at hx'
    · next o q ho hq' =>
      split at hx'
      · next cc =>
        obtain ⟨c0, c1, c4, c5, c6, c7, c8, c9, c10, c11, c12, c13⟩ := cc
        cases hx'
        refine xW_to (kk _ hx) (fun _ _ _ _ _ => am_copyO (ci := 4) O hw hnat hstat hini hd (show s.2.1 a0 = .inl (.object "java/lang/Object", o.2.1, o.2.2) by rw [ho, ← c0]) c4 c5 (show s.2.1 a1 = .inl (.object "java/lang/Object", q.2.1, q.2.2) by rw [hq', ← c1]) c6 c7 c8 c9 c10 rfl rfl rfl c11 c12 rfl hcl (fun i hi => ?_) hst (by omega)) rfl rfl
        have c14 := List.all_eq_true.mp c13 i (List.mem_range.mpr hi)
        split at c14
        · next y hy =>
          obtain ⟨fs, f1, f2, f3⟩ := isO_spec c14
          exact Or.inr ⟨y, fs, hy, f1, f2, f3⟩
        · next hy => exact Or.inl hy
        · cases c14
      · cases hx'
    · cases hx'
theorem xW_gIS (O : am_ok K X) {ix ci k r : Nat} {c : Int32 → Option (α × HS)} (hF : am_FS M.1.cls ix ci k) (hd : decode M.2.1 pc = .ok (.getfield ix, 3)) (kk : ∀ x, gI s r ci k = some x → xW cv K X M d (pc + 3) lv (.int x :: st) s (c x)) : xW cv K X M d pc lv (.ref r :: st) s ((gI s r ci k).bind c) :=
  xW_bind fun x hx => by
    obtain ⟨fs, h1, h2, h3, h4⟩ := gV_spec (asI_spec hx)
    exact xW_pure (fun _ _ _ _ _ => am_getS O hF hd h1 h2 h3 h4) (kk x hx)
theorem xW_putS (O : am_ok K X) {ix ci k r : Nat} {v : Value} {c : HS → Option (α × HS)} (hF : am_FS M.1.cls ix ci k) (hd : decode M.2.1 pc = .ok (.putfield ix, 3)) (ht : ∀ q : vw_C, am_cl[ci]? = some q → (q.2.1 k).2.2.2 = false ∧ narrow ((parseFieldDescriptor (q.2.1 k).2.2.1).getD .int) v = v ∧ fits ((parseFieldDescriptor (q.2.1 k).2.2.1).getD .int) v = true) (kk : ∀ t, pV s r ci k v = some t → xW cv K X M d (pc + 3) lv st t (c t)) : xW cv K X M d pc lv (v :: .ref r :: st) s ((pV s r ci k v).bind c) :=
  xW_bind fun t hx => by
    obtain ⟨fs, h1, h2, h3, h4, rfl⟩ := pV_spec hx
    exact xW_to (kk _ hx) (fun _ _ _ _ _ => am_putS O hF hd h1 h2 h3 h4 ht) rfl rfl
/-- Objects.checkIndex -/
def ckI (i n : Int32) : Option Int32 := if ¬ i < 0 ∧ i < n then some i else none
end
