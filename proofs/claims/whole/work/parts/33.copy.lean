/-! System.arraycopy -/
section AMCP
variable {K : am_K} {X : Nat → am_C} {M : am_M} {d kc ks uc us pc : Nat} {lv : List (Nat × Value)} {st : List Value} {hn : Nat} {hf : Nat → am_C} {post : Option Value → am_H → Prop}
theorem am_copy (O : am_ok K X) {ix r0 r1 n0 n1 P Q N : Nat} {ty : FieldType} {f g : Nat → Value} {sp dp n : Int32} (hw : Cond.methodLink M.1.cls ix arraycopyName ∈ am_tbl) (hnat : Cond.native arraycopyName ∈ am_tbl) (hstat : Cond.static arraycopyName ∈ am_tbl) (hini : Cond.initialized "java/lang/System" ∈ am_tbl) (hd : decode M.2.1 pc = .ok (.invokestatic ix, 3)) (hc0 : hf r0 = .inl (ty, n0, f)) (hr0 : 128 ≤ r0) (hr02 : r0 < hn) (hc1 : hf r1 = .inl (ty, n1, g)) (hr : 128 ≤ r1) (hr2 : r1 < hn) (ht : (ty : FieldType) ∈ am_tys) (h1 : ¬ sp < 0) (h2 : ¬ dp < 0) (h3 : ¬ n < 0) (hP : sp.toNatClampNeg = P) (hQ : dp.toNatClampNeg = Q) (hN : n.toNatClampNeg = N) (h4 : P + N ≤ n0) (h5 : Q + N ≤ n1) (hprim : refKind ty = false) (hfit : ∀ i : Nat, i < N → fits ty (f (P + i)) = true ∧ ∀ r, f (P + i) ≠ .ref r) (hst : (st.map fun v => v.category).sum ≤ 8) (hdd : 1 ≤ d)
    (kk : am_W K X M d kc ks uc us (pc + 3) lv st (hn, va_up hf r1 (.inl (ty, n1, va_cpy f g P Q N))) post) : am_W K X M d kc ks uc us pc lv (.int n :: .int dp :: .ref r1 :: .int sp :: .ref r0 :: st) (hn, hf) post := by
  have nn : ∀ z : Int32, ¬ z < 0 → z.toInt = (z.toNatClampNeg : Int) := by
    intro z hz
    have hz0 : (0 : Int) ≤ z.toInt := by
      have := Int32.not_lt.mp hz
      simpa using Int32.le_iff_toInt_le.mp this
    show z.toInt = ((z.toInt.toNat : Nat) : Int)
    omega
  subst hP; subst hQ; subst hN
  intro p l e R s m args below meth c H locs cells slots ls z hH hL hl h11 h12
  have hcat : ((st.map (am_tr K)).map fun v => v.category).sum ≤ 8 := by
    rw [List.map_map, show ((fun v : Value => v.category) ∘ am_tr K) = fun v => v.category from funext (am_cat K)]
    exact hst
  have hnw : nativeFrameWords "java/lang/System" "arraycopy" 5 ≤ 40 := by decide +kernel
  obtain ⟨z1, z2, z3, z4, z5, z6, z7, z8, z9, z10, z11⟩ := id z
  intro T hT X1
  have k0 := am_hat hH hc0 hr0 hr02
  have k1 := am_hat hH hc1 hr hr2
  obtain ⟨-, kA0, hk0, cm0, hkk0⟩ := (am_kn O z ht).1 n0 (fun j => am_tr K (f j))
  obtain ⟨-, kA1, hk1, cm1, hkk1⟩ := (am_kn O z ht).1 n1 (fun j => am_tr K (g j))
  obtain ⟨vm', X', step⟩ := X1.arraycopy z1 z4 (z5 _ hw) (z5 _ hnat) (z5 _ hstat) (z5 _ hini) (src := am_ad K r0) (dst := am_ad K r1) (srcPos := sp) (destPos := dp) (n := n) (by rw [hT]; exact k0) (by rw [hT]; exact k1)
    (fun _ h => by cases h) (fun _ h => by cases h) (fun h => by cases h) (fun h => by cases h) hk0 hk1 hkk0 hkk1 (by simp [hprim]) h1 h2 h3
    (by rw [nn sp h1, nn n h3, arrV_size]; omega)
    (by rw [nn dp h2, nn n h3, arrV_size]; omega)
    (fun vm₁ hal i hi => by
      have e : (arrV (K.2.2.1 ty) n0 (fun j => am_tr K (f j))).slots.getD (sp.toNatClampNeg + i) .null = am_tr K (f (sp.toNatClampNeg + i)) := by
        rw [Array.getD_eq_getD_getElem?, arrV_read _ _ (by omega)]
        rfl
      rw [e]
      obtain ⟨w1, w2⟩ := hfit i hi
      refine ⟨am_fits w1, ?_⟩
      cases hx : f (sp.toNatClampNeg + i) <;> first | exact trivial | exact absurd hx (w2 _))
    (g := F0 m pc ls ((.int n :: .int dp :: .ref r1 :: .int sp :: .ref r0 :: st).map (am_tr K))) rfl (by rw [z3]; exact hl.1) (rest := st.map (am_tr K)) rfl (by rw [z2]; exact hd) (by omega) (by show 2 * 0 + _ + _ ≤ _; omega)
  have e1 : copied (arrV (K.2.2.1 ty) n0 (fun j => am_tr K (f j))) (arrV (K.2.2.1 ty) n1 (fun j => am_tr K (g j))) sp dp n = arrV (K.2.2.1 ty) n1 (fun j => am_tr K (va_cpy f g sp.toNatClampNeg dp.toNatClampNeg n.toNatClampNeg j)) := va_copied (fun v => am_tr K v) _ _ f g h4
  rw [e1] at X' step
  have hlt : am_ad K r1 < H.size := (Array.getElem?_eq_some_iff.mp k1).1
  have hheap : ((T.setVm vm').setCell (am_ad K r1) (arrV (K.2.2.1 ty) n1 (fun j => am_tr K (va_cpy f g sp.toNatClampNeg dp.toNatClampNeg n.toNatClampNeg j)))).heap = H.setIfInBounds (am_ad K r1) (arrV (K.2.2.1 ty) n1 (fun j => am_tr K (va_cpy f g sp.toNatClampNeg dp.toNatClampNeg n.toNatClampNeg j))) := by rw [← hT]; rfl
  have hH2 := hH.set (c := .inl (ty, n1, va_cpy f g sp.toNatClampNeg dp.toNatClampNeg n.toNatClampNeg)) (H1 := H.setIfInBounds (am_ad K r1) (arrV (K.2.2.1 ty) n1 (fun j => am_tr K (va_cpy f g sp.toNatClampNeg dp.toNatClampNeg n.toNatClampNeg j)))) hr hr2 (by simp) (fun q hq => by simp [Array.getElem?_setIfInBounds, Ne.symm hq]) (show (H.setIfInBounds (am_ad K r1) _)[am_ad K r1]? = some _ by simp [Array.getElem?_setIfInBounds, hlt])
  obtain ⟨t, a1, b1⟩ := kk p l e R s m args below meth c _ _ cells slots ls z hH2 (fun q hq => by
      rcases List.mem_append.mp hq with h | h
      · exact hL q h
      · obtain ⟨y, -, hy⟩ := List.mem_map.mp h
        rw [← hy]
        show K.1.heap.size ≤ am_ad K r1
        rw [am_ad_hi hr]
        exact Nat.le_add_right _ _) hl h11 h12 _ hheap X'
  exact ⟨t, step t a1, b1⟩
theorem am_copyq (O : am_ok K X) {ix r0 r1 n0 n1 P Q N : Nat} {C : String} {ci : Nat} {qc : vw_C} {f g : Nat → Value} {sp dp n : Int32} (hw : Cond.methodLink M.1.cls ix arraycopyName ∈ am_tbl) (hnat : Cond.native arraycopyName ∈ am_tbl) (hstat : Cond.static arraycopyName ∈ am_tbl) (hini : Cond.initialized "java/lang/System" ∈ am_tbl) (hd : decode M.2.1 pc = .ok (.invokestatic ix, 3)) (hc0 : hf r0 = .inl ((.object C), n0, f)) (hr0 : 128 ≤ r0) (hr02 : r0 < hn) (hc1 : hf r1 = .inl ((.object C), n1, g)) (hr : 128 ≤ r1) (hr2 : r1 < hn) (ht : ((.object C) : FieldType) ∈ am_tys) (h1 : ¬ sp < 0) (h2 : ¬ dp < 0) (h3 : ¬ n < 0) (hP : sp.toNatClampNeg = P) (hQ : dp.toNatClampNeg = Q) (hN : n.toNatClampNeg = N) (h4 : P + N ≤ n0) (h5 : Q + N ≤ n1) (hq : am_cl[ci]? = some qc) (hC : qc.1 = C) (hel : ∀ i : Nat, i < N → f (P + i) = .null ∨ ∃ (y : Nat) (vs : List Value), f (P + i) = .ref y ∧ hf y = .inr (ci, vs) ∧ 128 ≤ y ∧ y < hn) (hst : (st.map fun v => v.category).sum ≤ 8) (hdd : 1 ≤ d)
    (kk : am_W K X M d kc ks uc us (pc + 3) lv st (hn, va_up hf r1 (.inl ((.object C), n1, va_cpy f g P Q N))) post) : am_W K X M d kc ks uc us pc lv (.int n :: .int dp :: .ref r1 :: .int sp :: .ref r0 :: st) (hn, hf) post := by
  have nn : ∀ z : Int32, ¬ z < 0 → z.toInt = (z.toNatClampNeg : Int) := by
    intro z hz
    have hz0 : (0 : Int) ≤ z.toInt := by
      have := Int32.not_lt.mp hz
      simpa using Int32.le_iff_toInt_le.mp this
    show z.toInt = ((z.toInt.toNat : Nat) : Int)
    omega
  subst hP; subst hQ; subst hN
  intro p l e R s m args below meth c H locs cells slots ls z hH hL hl h11 h12
  have hcat : ((st.map (am_tr K)).map fun v => v.category).sum ≤ 8 := by
    rw [List.map_map, show ((fun v : Value => v.category) ∘ am_tr K) = fun v => v.category from funext (am_cat K)]
    exact hst
  have hnw : nativeFrameWords "java/lang/System" "arraycopy" 5 ≤ 40 := by decide +kernel
  obtain ⟨z1, z2, z3, z4, z5, z6, z7, z8, z9, z10, z11⟩ := id z
  intro T hT X1
  have k0 := am_hat hH hc0 hr0 hr02
  have k1 := am_hat hH hc1 hr hr2
  obtain ⟨-, kA0, hk0, cm0, hkk0⟩ := (am_kn O z ht).1 n0 (fun j => am_tr K (f j))
  obtain ⟨-, kA1, hk1, cm1, hkk1⟩ := (am_kn O z ht).1 n1 (fun j => am_tr K (g j))
  obtain ⟨vm', X', step⟩ := X1.arraycopy z1 z4 (z5 _ hw) (z5 _ hnat) (z5 _ hstat) (z5 _ hini) (src := am_ad K r0) (dst := am_ad K r1) (srcPos := sp) (destPos := dp) (n := n) (by rw [hT]; exact k0) (by rw [hT]; exact k1)
    (fun _ h => by cases h) (fun _ h => by cases h) (fun h => by cases h) (fun h => by cases h) hk0 hk1 hkk0 hkk1 rfl h1 h2 h3
    (by rw [nn sp h1, nn n h3, arrV_size]; omega)
    (by rw [nn dp h2, nn n h3, arrV_size]; omega)
    (fun vm₁ hal i hi => by
      have e : (arrV (K.2.2.1 (.object C)) n0 (fun j => am_tr K (f j))).slots.getD (sp.toNatClampNeg + i) .null = am_tr K (f (sp.toNatClampNeg + i)) := by
        rw [Array.getD_eq_getD_getElem?, arrV_read _ _ (by omega)]
        rfl
      rw [e]
      rcases hel i hi with hx | ⟨y, vs, hx, g1, g2, g3⟩
      · rw [hx]; exact ⟨rfl, trivial⟩
      · rw [hx]
        obtain ⟨cellV, v1, v2, v3⟩ := am_rcv hH g1 g2 g3 hq
        have hcls := ((am_kc O z).1 ci qc hq).2
        obtain ⟨kA, comp, q1, q2, q3, -⟩ := (am_kn O z ht).2
        cases hk1.symm.trans q1
        cases hkk1.symm.trans q2
        rw [← hC] at q3
        have hcomp : cm1 = K.2.1.1 ci := Option.some.inj (q3.symm.trans hcls.1)
        subst hcomp
        obtain ⟨kC, hkC, -⟩ := hcls.2
        obtain ⟨kC', hkC', -⟩ := hal.2.2 _ _ hkC
        refine ⟨rfl, cellV, (show T.heap[am_ad K y]? = some cellV by rw [hT]; exact v1), (fun q h => by rw [v2] at h; cases h), ⟨kC', by rw [v3]; exact hkC'⟩, ?_, ?_⟩
        · exact ⟨kC', hkC'⟩
        · show vm₁.assignable _ _ = true
          rw [hal.assignable, v3]
          exact va_assign hcls)
    (g := F0 m pc ls ((.int n :: .int dp :: .ref r1 :: .int sp :: .ref r0 :: st).map (am_tr K))) rfl (by rw [z3]; exact hl.1) (rest := st.map (am_tr K)) rfl (by rw [z2]; exact hd) (by omega) (by show 2 * 0 + _ + _ ≤ _; omega)
  have e1 : copied (arrV (K.2.2.1 (.object C)) n0 (fun j => am_tr K (f j))) (arrV (K.2.2.1 (.object C)) n1 (fun j => am_tr K (g j))) sp dp n = arrV (K.2.2.1 (.object C)) n1 (fun j => am_tr K (va_cpy f g sp.toNatClampNeg dp.toNatClampNeg n.toNatClampNeg j)) := va_copied (fun v => am_tr K v) _ _ f g h4
  rw [e1] at X' step
  have hlt : am_ad K r1 < H.size := (Array.getElem?_eq_some_iff.mp k1).1
  have hheap : ((T.setVm vm').setCell (am_ad K r1) (arrV (K.2.2.1 (.object C)) n1 (fun j => am_tr K (va_cpy f g sp.toNatClampNeg dp.toNatClampNeg n.toNatClampNeg j)))).heap = H.setIfInBounds (am_ad K r1) (arrV (K.2.2.1 (.object C)) n1 (fun j => am_tr K (va_cpy f g sp.toNatClampNeg dp.toNatClampNeg n.toNatClampNeg j))) := by rw [← hT]; rfl
  have hH2 := hH.set (c := .inl ((.object C), n1, va_cpy f g sp.toNatClampNeg dp.toNatClampNeg n.toNatClampNeg)) (H1 := H.setIfInBounds (am_ad K r1) (arrV (K.2.2.1 (.object C)) n1 (fun j => am_tr K (va_cpy f g sp.toNatClampNeg dp.toNatClampNeg n.toNatClampNeg j)))) hr hr2 (by simp) (fun q hq => by simp [Array.getElem?_setIfInBounds, Ne.symm hq]) (show (H.setIfInBounds (am_ad K r1) _)[am_ad K r1]? = some _ by simp [Array.getElem?_setIfInBounds, hlt])
  obtain ⟨t, a1, b1⟩ := kk p l e R s m args below meth c _ _ cells slots ls z hH2 (fun q hq => by
      rcases List.mem_append.mp hq with h | h
      · exact hL q h
      · obtain ⟨y, -, hy⟩ := List.mem_map.mp h
        rw [← hy]
        show K.1.heap.size ≤ am_ad K r1
        rw [am_ad_hi hr]
        exact Nat.le_add_right _ _) hl h11 h12 _ hheap X'
  exact ⟨t, step t a1, b1⟩
end AMCP
