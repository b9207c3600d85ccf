/-! ROWS ON CELLS OF THE START -/
def am_A (K : am_K) : Nat → Prop := fun q => K.1.heap.size ≤ q
section AME
variable {K : am_K} {X : Nat → am_C} {M M2 : am_M} {d d2 kc ks uc us kc1 ks1 pc : Nat} {lv : List (Nat × Value)} {st stk : List Value} {h : am_H} {post post1 : Option Value → am_H → Prop} {As : List Value}
theorem am_old {H : Heap} (hH : am_HR K X h H) : ∀ a : Nat, a < K.1.heap.size → ¬ am_A K a → H[a]? = K.1.heap[a]? := fun a ha _ => hH.2.2.1 a ha
theorem am_getE {ix r : Nat} {o n ds : String} {v : Value} (hE : va_OF o n ds (am_tr K v) (am_ad K r) (am_A K) K.1 K.1.heap) (hw : Cond.fieldLink M.1.cls ix o n ds ∈ am_tbl) (hd : decode M.2.1 pc = .ok (.getfield ix, 3)) (kk : am_W K X M d kc ks uc us (pc + 3) lv (v :: st) h post) : am_W K X M d kc ks uc us pc lv (.ref r :: st) h post := by
  intro p l e R s m args below meth c H locs cells slots ls z hH hL hl h1 h2
  obtain ⟨cf, k, fi, f, cell, g1, g2, g3, g4, g5, g6⟩ := (va_OF.moved z.2.2.2.2.2.2.2.2.1.alike hE).kept (am_old hH)
  exact W.getf z.1 z.2.1 z.2.2.2.1 (z.2.2.2.2.1 _ hw) g1 g2 g3 g4 g5 rfl rfl hd (kk p l e R s m args below meth c H locs cells slots ls z hH hL hl h1 h2)
theorem am_gets {ix : Nat} {C n ds : String} {v : Value} (hE : va_Z C n ds (am_tr K v) (am_A K) K.1 K.1.heap) (hw : Cond.fieldLink M.1.cls ix C n ds ∈ am_tbl) (hd : decode M.2.1 pc = .ok (.getstatic ix, 3)) (kk : am_W K X M d kc ks uc us (pc + 3) lv (v :: st) h post) : am_W K X M d kc ks uc us pc lv st h post := by
  intro p l e R s m args below meth c H locs cells slots ls z hH hL hl h1 h2
  obtain ⟨cf, kf, fi, f, a, cell, g1, g2, g3, g4, g5, g6, g7, g8⟩ := (va_Z.moved z.2.2.2.2.2.2.2.2.1.alike hE).kept (am_old hH)
  exact W.gets z.1 z.2.1 z.2.2.2.1 (z.2.2.2.2.1 _ hw) g1 g2 g3 g4 g5 (fun e => by rw [e] at g6; cases g6) g7 rfl hd (kk p l e R s m args below meth c H locs cells slots ls z hH hL hl h1 h2)
theorem am_ldcS {ix r : Nat} {tx : String} (hE : vk_R M.1.cls ix tx (am_ad K r) K.1) (hd : decode M.2.1 pc = .ok (.ldc ix, 2)) (kk : am_W K X M d kc ks uc us (pc + 2) lv (.ref r :: st) h post) : am_W K X M d kc ks uc us pc lv st h post := by
  intro p l e R s m args below meth c H locs cells slots ls z hH hL hl h1 h2
  exact va_ldcS z.1 z.2.1 z.2.2.2.1 (vk_R.warm z.2.2.2.2.2.2.2.2.1 hE) hd (kk p l e R s m args below meth c H locs cells slots ls z hH hL hl h1 h2)
theorem am_alenE {r N : Nat} {ty : FieldType} {f : Nat → Value} (hE : va_T ty (am_ad K r) N f (am_A K) K.1 K.1.heap) (hd : decode M.2.1 pc = .ok (.arraylength, 1)) (kk : am_W K X M d kc ks uc us (pc + 1) lv (.int (Int32.ofNat N) :: st) h post) : am_W K X M d kc ks uc us pc lv (.ref r :: st) h post := by
  intro p l e R s m args below meth c H locs cells slots ls z hH hL hl h1 h2
  obtain ⟨cell, g1, g2, g3, g4, g5, g6, g7⟩ := (va_T.moved z.2.2.2.2.2.2.2.2.1.alike hE).kept (am_old hH)
  exact W.alen (n := Int32.ofNat N) z.1 z.2.1 g1 g2 g5 rfl rfl hd (kk p l e R s m args below meth c H locs cells slots ls z hH hL hl h1 h2)

theorem am_ialdE {r N : Nat} {f : Nat → Value} {i : Int32} {v : Value} (hE : va_T .int (am_ad K r) N (fun j => am_tr K (f j)) (am_A K) K.1 K.1.heap) (hd : decode M.2.1 pc = .ok (.iaload, 1)) (hin : vp_in i N) (hv : f i.toNatClampNeg = v) (kk : am_W K X M d kc ks uc us (pc + 1) lv (v :: st) h post) : am_W K X M d kc ks uc us pc lv (.int i :: .ref r :: st) h post := by
  intro p l e R s m args below meth c H locs cells slots ls z hH hL hl h1 h2
  obtain ⟨cell, g1, g2, g3, g4, g5, g6, g7⟩ := (va_T.moved z.2.2.2.2.2.2.2.2.1.alike hE).kept (am_old hH)
  have hlt : i.toNatClampNeg < N := Nat.not_le.mp fun q => hin (Or.inr q)
  subst hv
  exact W.iald (v := am_tr K (f i.toNatClampNeg)) z.1 z.2.1 g1 g2 g3 (fun q => q.elim (fun q => hin (Or.inl q)) (fun q => by omega)) (g6 _ hlt) rfl rfl hd (kk p l e R s m args below meth c H locs cells slots ls z hH hL hl h1 h2)
theorem am_baldE {r N : Nat} {f : Nat → Value} {i : Int32} {v : Value} (hE : va_T .byte (am_ad K r) N (fun j => am_tr K (f j)) (am_A K) K.1 K.1.heap) (hd : decode M.2.1 pc = .ok (.baload, 1)) (hin : vp_in i N) (hv : f i.toNatClampNeg = v) (kk : am_W K X M d kc ks uc us (pc + 1) lv (v :: st) h post) : am_W K X M d kc ks uc us pc lv (.int i :: .ref r :: st) h post := by
  intro p l e R s m args below meth c H locs cells slots ls z hH hL hl h1 h2
  obtain ⟨cell, g1, g2, g3, g4, g5, g6, g7⟩ := (va_T.moved z.2.2.2.2.2.2.2.2.1.alike hE).kept (am_old hH)
  have hlt : i.toNatClampNeg < N := Nat.not_le.mp fun q => hin (Or.inr q)
  subst hv
  exact W.bald (v := am_tr K (f i.toNatClampNeg)) z.1 z.2.1 g1 g2 g3 (fun q => q.elim (fun q => hin (Or.inl q)) (fun q => by omega)) (g6 _ hlt) rfl rfl hd (kk p l e R s m args below meth c H locs cells slots ls z hH hL hl h1 h2)
/-- a call on an object of the start -/
theorem am_callVE (O : am_ok K X) {ix r n : Nat} (hM : am_Mt K X M2 d2 kc1 ks1 (.ref r :: As) h post1) (hs : stk = As.reverse ++ .ref r :: st) (hE : va_O M2.1.cls (am_ad K r) (am_A K) K.1 K.1.heap) (L : am_L M.1.cls ix n M2) (L2 : Cond.instanceMethod M2.1 ∈ am_tbl ∧ Cond.selects M2.1.cls M2.1 M2.1 ∈ am_tbl) (hlen : As.length = n) (hst : (st.map fun v => v.category).sum ≤ 8) (hd : decode M.2.1 pc = .ok (.invokevirtual ix, 3)) (hdd : d2 + 1 ≤ d) (hk : uc + kc1 ≤ kc) (hk2 : us + ks1 ≤ ks)
    (kk : ∀ v h', post1 v h' → am_W K X M d kc ks (uc + kc1) (us + ks1) (pc + 3) lv (v.toList ++ st) h' post) : am_W K X M d kc ks uc us pc lv stk h post := by
  intro p l e R s m args below meth c H locs cells slots ls z hH hL hl h1 h2
  have hcat : ((st.map (am_tr K)).map fun v => v.category).sum ≤ 8 := by
    rw [List.map_map, show ((fun v : Value => v.category) ∘ am_tr K) = fun v => v.category from funext (am_cat K)]
    exact hst
  obtain ⟨z1, z2, z3, z4, z5, z6, z7, z8, z9, z10, z11⟩ := id z
  obtain ⟨hlk, w1, w2, w3, w4, w5⟩ := id L
  obtain ⟨cell, g1, g2, g3, -⟩ := (va_O.moved z9.alike hE).kept (am_old hH)
  have hstk : stk.map (am_tr K) = (As.map (am_tr K)).reverse ++ .ref (am_ad K r) :: st.map (am_tr K) := by rw [hs]; simp [am_tr]
  have hp : PreV s H M2.1.cls (am_ad K r) (am_P K X (.ref r :: As) h) (As.map (am_tr K)) := ⟨am_blind, ⟨cell, g1, g2, g3⟩, fun U hU hW => ⟨rfl, by rw [hU]; exact hH, State.WarmedH.trans z9 hW⟩⟩
  refine am_back z hL hl hk hk2 h1 h2 (a := (Value.ref (am_ad K r) :: As.map (am_tr K)).toArray) (stk := stk) ?_ kk
  rcases hlk with hlk | ⟨host, hlk⟩
  · exact va_runV (As := As.map (am_tr K)) (C := M2.1.cls) ⟨z1, z2, z3, z4, z5⟩ (hM l) ⟨⟨rfl, rfl, by show d2 + 1 ≤ _; omega, by show _ + _ + 64 * d2 ≤ _; omega, am_words z L, List.mem_cons_self, z5 _ w2, z5 _ w1, w3, am_len L, z5 _ hlk⟩, z5 _ L2.1, z5 _ L2.2⟩ hp rfl (by rw [List.length_map]; exact hlen) hl.1 hstk (by show 2 * 0 + _ ≤ 8; omega) hd ⟨by omega, by omega⟩
  · obtain ⟨A, hA⟩ := O.2.2 _ hlk
    exact va_runVN (As := As.map (am_tr K)) (C := M2.1.cls) (host := host) ⟨z1, z2, z3, z4, z5⟩ (hM l) ⟨⟨⟨rfl, rfl, by show d2 + 1 ≤ _; omega, by show _ + _ + 64 * d2 ≤ _; omega, am_words z L, List.mem_cons_self⟩, z5 _ w2, z5 _ w1, w3, am_len L, va_Nw.use rfl (va_Nw.warmM z9 (va_Nw.of rfl hA))⟩, z5 _ L2.1, z5 _ L2.2⟩ hp rfl (by rw [List.length_map]; exact hlen) hl.1 hstk (by show 2 * 0 + _ ≤ 8; omega) hd ⟨by omega, by omega⟩
end AME
