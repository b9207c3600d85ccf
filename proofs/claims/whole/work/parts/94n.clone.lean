/-! clone of an array, casts -/
section AMCL
variable {α : Type} {cv : α → Option Value} {K : am_K} {X : Nat → am_C} {M : am_M} {d kc ks uc us pc : Nat} {lv : List (Nat × Value)} {st : List Value} {hn : Nat} {hf : Nat → am_C} {post : Option Value → am_H → Prop}
theorem am_clone (O : am_ok K X) {ix r N : Nat} {ty : FieldType} {ad : String} {f : Nat → Value} (had : "[" ++ ty.toString = ad) (ht : ty ∈ am_tys) (hw : Cond.methodLink M.1.cls ix ⟨ad, "clone", "()Ljava/lang/Object;"⟩ ∈ am_tbl) (hsame : Cond.sameMethod ad "java/lang/Object" "clone" "()Ljava/lang/Object;" ∈ am_tbl) (hnat : Cond.native ⟨"java/lang/Object", "clone", "()Ljava/lang/Object;"⟩ ∈ am_tbl) (hinst : Cond.instanceMethod ⟨"java/lang/Object", "clone", "()Ljava/lang/Object;"⟩ ∈ am_tbl) (hsel : Cond.selects ad ⟨ad, "clone", "()Ljava/lang/Object;"⟩ ⟨"java/lang/Object", "clone", "()Ljava/lang/Object;"⟩ ∈ am_tbl) (hcl : Cond.castable ad "java/lang/Cloneable" ∈ lw_tbl) (hd : decode M.2.1 pc = .ok (.invokevirtual ix, 3)) (hc : hf r = .inl (ty, N, f)) (hr : 128 ≤ r) (hr2 : r < hn) (hfit : ∀ i : Nat, i < N → fits ty (f i) = true) (hst : (st.map fun v => v.category).sum ≤ 8) (hdd : 1 ≤ d) (hk : uc + 1 ≤ kc) (hk2 : us + N ≤ ks)
    (kk : am_W K X M d kc ks (uc + 1) (us + N) (pc + 3) lv (.ref hn :: st) (hn + 1, va_up hf hn (.inl (ty, N, f))) post) : am_W K X M d kc ks uc us pc lv (.ref r :: st) (hn, hf) post := by
  intro p l e R s m args below meth c H locs cells slots ls z hH hL hl h1 h2
  have hcat : ((st.map (am_tr K)).map fun v => v.category).sum ≤ 8 := by
    rw [List.map_map, show ((fun v : Value => v.category) ∘ am_tr K) = fun v => v.category from funext (am_cat K)]
    exact hst
  obtain ⟨z1, z2, z3, z4, z5, z6, z7, z8, z9, z10, z11⟩ := id z
  have k0 := am_hat hH hc hr hr2
  obtain ⟨A, hA⟩ := O.2.2 _ hcl
  have hcl' := va_Nw.warmC z9 (va_Nw.of rfl hA)
  obtain ⟨c0, t0, f1, f2, f3⟩ := Cond.castable_spec (va_Nw.use (A := args) rfl hcl')
  have hnm : s.vm.findClass ad = some (K.2.2.1 ty) := by rw [← had]; exact am_RA (am_kn O z ht).2
  cases hnm.symm.trans f1
  intro T hT X1
  obtain ⟨-, kA, hkA, comp, hkind⟩ := State.isArrayOf_alike X1.warmed.alike ((am_kn O z ht).1 N (fun j => am_tr K (f j)))
  obtain ⟨-, kS, hkS, compS, hkindS⟩ := (am_kn O z ht).1 N (fun j => am_tr K (f j))
  obtain ⟨vm', X', step⟩ := X1.cloneArray z1 z4 (z5 _ hw) (z5 _ hsame) (z5 _ hnat) (z5 _ hinst) (z5 _ hsel) (a := am_ad K r) (cell := arrV (K.2.2.1 ty) N (fun j => am_tr K (f j))) (by rw [hT]; exact k0) (fun k h => by cases h) (fun h => by cases h) hnm f2 f3
    (fun i v hv => by
      have hk' : T.vm.classes[K.2.2.1 ty]? = some kA := hkA
      have := va_fit (cA := K.2.2.1 ty) (n := N) (F := fun j => am_tr K (f j)) (ty := ty) (fun i hi => am_fits (hfit i hi)) i v hv
      have hk'' : T.vm.classes[(arrV (K.2.2.1 ty) N (fun j => am_tr K (f j))).cls]? = some kA := hkA
      simpa [State.fitsSlot, State.slotType?, hk'', hkind] using this)
    (g := F0 m pc ls ((.ref r :: st).map (am_tr K))) rfl (by rw [z3]; exact hl.1) rfl (by rw [z2]; exact hd) (by omega) (by show 2 * 0 + _ + 14 ≤ _; omega) (by omega) (by rw [arrV_size]; omega) (hloader := Vm.clonesLoader_of_array hkS hkindS)
  have hcellE : ({ cls := (arrV (K.2.2.1 ty) N (fun j => am_tr K (f j))).cls, slots := (arrV (K.2.2.1 ty) N (fun j => am_tr K (f j))).slots } : Cell) = arrV (K.2.2.1 ty) N (fun j => am_tr K (f j)) := rfl
  rw [hcellE, arrV_size] at X'
  obtain ⟨g1, g2⟩ := hH.push (c := .inl (ty, N, f)) (H1 := H.push (arrV (K.2.2.1 ty) N (fun j => am_tr K (f j)))) (by rw [Array.size_push]) (fun q hq => by rw [Array.getElem?_push, if_neg (Nat.ne_of_lt hq)]) (by show (H.push _)[H.size]? = some _; rw [Array.getElem?_push_size])
  obtain ⟨t, a1, b1⟩ := kk p l e R s m args below meth c _ locs (cells + 1) (slots + N) ls z g1 hL hl (by omega) (by omega) ((T.setVm vm').pushCell (arrV (K.2.2.1 ty) N (fun j => am_tr K (f j)))) (by rw [← hT]; rfl) X'
  rw [List.map_cons, show am_tr K (.ref hn) = .ref H.size from congrArg Value.ref g2] at a1
  refine ⟨t, step t ?_, b1⟩
  rw [hcellE, hT]
  exact a1
theorem am_castA (O : am_ok K X) {ix r N : Nat} {ty : FieldType} {ad : String} {f : Nat → Value} (had : "[" ++ ty.toString = ad) (ht : ty ∈ am_tys) (hw : Cond.classLink M.1.cls ix ad ∈ am_tbl) (hd : decode M.2.1 pc = .ok (.checkcast ix, 3)) (hc : hf r = .inl (ty, N, f)) (hr : 128 ≤ r) (hr2 : r < hn) (kk : am_W K X M d kc ks uc us (pc + 3) lv (.ref r :: st) (hn, hf) post) : am_W K X M d kc ks uc us pc lv (.ref r :: st) (hn, hf) post := by
  intro p l e R s m args below meth c H locs cells slots ls z hH hL hl h1 h2
  obtain ⟨z1, z2, z3, z4, z5, z6, z7, z8, z9, z10, z11⟩ := id z
  have k0 := am_hat hH hc hr hr2
  have hnm : s.vm.findClass ad = some (K.2.2.1 ty) := by rw [← had]; exact am_RA (am_kn O z ht).2
  intro T hT X1
  obtain ⟨vm', X', step⟩ := X1.checkcastYes z1 z4 (z5 _ hw) (by rw [hT]; exact k0) rfl hnm (va_asg _ _) (g := F0 m pc ls ((.ref r :: st).map (am_tr K))) rfl rfl (by rw [z2]; exact hd)
  obtain ⟨t, a1, b1⟩ := kk p l e R s m args below meth c H locs cells slots ls z hH hL hl h1 h2 (T.setVm vm') hT X'
  exact ⟨t, step t a1, b1⟩
theorem am_ccast (O : am_ok K X) {ix r ci : Nat} {q : vw_C} {C : String} {fs : List Value} (hq : am_cl[ci]? = some q) (hC : q.1 = C) (hcl : Cond.castable C C ∈ lw_tbl) (hw : Cond.classLink M.1.cls ix C ∈ am_tbl) (hd : decode M.2.1 pc = .ok (.checkcast ix, 3)) (hc : hf r = .inr (ci, fs)) (hr : 128 ≤ r) (hr2 : r < hn) (kk : am_W K X M d kc ks uc us (pc + 3) lv (.ref r :: st) (hn, hf) post) : am_W K X M d kc ks uc us pc lv (.ref r :: st) (hn, hf) post := by
  intro p l e R s m args below meth c H locs cells slots ls z hH hL hl h1 h2
  obtain ⟨z1, z2, z3, z4, z5, z6, z7, z8, z9, z10, z11⟩ := id z
  obtain ⟨A, hA⟩ := O.2.2 _ hcl
  obtain ⟨cell, g1, g2, g3⟩ := am_rcv hH hc hr hr2 hq
  obtain ⟨hS, hfc, -⟩ := (am_kc O z).1 ci _ hq
  exact va_castY z1 z2 z4 (z5 _ hw) (va_Nw.warmC z9 (va_Nw.of rfl hA)) ⟨cell, g1, by rw [g2]; rfl, by rw [g3, ← hC]; exact hfc⟩ hd (kk p l e R s m args below meth c H locs cells slots ls z hH hL hl h1 h2)
end AMCL
section
variable {α : Type} {cv : α → Option Value} {K : am_K} {X : Nat → am_C} {M : am_M} {d pc : Nat} {lv : List (Nat × Value)} {st : List Value} {s : HS} {res : Option (α × HS)}
def clA (s : HS) (ty : FieldType) (a : Nat) : Option HS := match s.2.1 a with
  | .inl o => if o.1 = ty ∧ 128 ≤ a ∧ a < s.1 ∧ (List.range o.2.1).all (fun i => fits ty (o.2.2 i)) = true then some (s.1 + 1, va_up s.2.1 s.1 (.inl (ty, o.2.1, o.2.2)), s.2.2 + o.2.1) else none
  | .inr _ => none
/-- the copy of an array, and the cast behind it -/
theorem xW_clone (O : am_ok K X) {ix ix2 a : Nat} {ty : FieldType} {ad : String} {c : HS → Option (α × HS)} (had : "[" ++ ty.toString = ad) (ht : ty ∈ am_tys) (hw : Cond.methodLink M.1.cls ix ⟨ad, "clone", "()Ljava/lang/Object;"⟩ ∈ am_tbl) (hsame : Cond.sameMethod ad "java/lang/Object" "clone" "()Ljava/lang/Object;" ∈ am_tbl) (hnat : Cond.native ⟨"java/lang/Object", "clone", "()Ljava/lang/Object;"⟩ ∈ am_tbl) (hinst : Cond.instanceMethod ⟨"java/lang/Object", "clone", "()Ljava/lang/Object;"⟩ ∈ am_tbl) (hsel : Cond.selects ad ⟨ad, "clone", "()Ljava/lang/Object;"⟩ ⟨"java/lang/Object", "clone", "()Ljava/lang/Object;"⟩ ∈ am_tbl) (hcl : Cond.castable ad "java/lang/Cloneable" ∈ lw_tbl) (hd : decode M.2.1 pc = .ok (.invokevirtual ix, 3)) (hw2 : Cond.classLink M.1.cls ix2 ad ∈ am_tbl) (hd2 : decode M.2.1 (pc + 3) = .ok (.checkcast ix2, 3)) (hst : (st.map fun v => v.category).sum ≤ 8) (kk : ∀ t, clA s ty a = some t → xW cv K X M (d + 1) (pc + 3 + 3) lv (.ref s.1 :: st) t (c t)) : xW cv K X M (d + 1) pc lv (.ref a :: st) s ((clA s ty a).bind c) :=
  xW_bind fun t hx => by
    have hx' := hx
    unfold clA at hx'
    split at hx'
    · next o ho =>
      split at hx'
      · next cc =>
        obtain ⟨c1, c2, c3, c4⟩ := cc
        cases hx'
        intro b u e
        obtain ⟨k1, k2, k3⟩ := kk _ hx b u e
        have k1 : s.1 + 1 ≤ u.1 := k1
        have k2 : s.2.2 + o.2.1 ≤ u.2.2 := k2
        have ho' : s.2.1 a = .inl (ty, o.2.1, o.2.2) := by rw [ho, ← c1]
        refine ⟨by omega, by omega, fun kc ks uc us h1 h2 => am_clone O had ht hw hsame hnat hinst hsel hcl hd ho' c2 c3 (fun i hi => List.all_eq_true.mp c4 i (List.mem_range.mpr hi)) hst (by omega) (by omega) (by omega) (am_castA O had ht hw2 hd2 (va_up_self _ _ _) (by omega) (by omega) (k3 kc ks _ _ ?_ ?_))⟩
        · show u.1 + (uc + 1) ≤ kc + (s.1 + 1); omega
        · show u.2.2 + (us + _) ≤ ks + (s.2.2 + _); omega
      · cases hx'
    · cases hx'
theorem xW_cast (O : am_ok K X) {ix r ci : Nat} {q : vw_C} {C : String} {b : Option (α × HS)} (hq : am_cl[ci]? = some q) (hC : q.1 = C) (hcl : Cond.castable C C ∈ lw_tbl) (hw : Cond.classLink M.1.cls ix C ∈ am_tbl) (hd : decode M.2.1 pc = .ok (.checkcast ix, 3)) (k : xW cv K X M d (pc + 3) lv (.ref r :: st) s b) : xW cv K X M d pc lv (.ref r :: st) s (gd s r ci b) := by
  by_cases h : isO s r ci = true
  · unfold gd
    rw [if_pos h]
    obtain ⟨fs, f1, f2, f3⟩ := isO_spec h
    exact xW_pure (fun _ _ _ _ _ => am_ccast O hq hC hcl hw hd f1 f2 f3) k
  · unfold gd
    rw [if_neg h]
    exact xW_none
end
