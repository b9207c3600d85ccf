/-! THE ABSTRACT MACHINE'S HEAP ROWS -/
/-- a cell of the start, as read: an array, or an object of which some fields are known -/
def am_ext (K : am_K) (q : Nat) (c : am_C) : Prop := match c with
  | .inl a => ∃ cell : Cell, K.1.heap[q]? = some cell ∧ K.1.isArrayOf cell a.1 ∧ cell.vm ≠ .unknown ∧ cell.slots.size = a.2.1 ∧ ∀ j : Nat, j < a.2.1 → cell.slots[j]? = some (am_tr K (a.2.2 j))
  | .inr o => ∃ (r : vw_C) (cell : Cell), am_cl[o.1]? = some r ∧ K.1.heap[q]? = some cell ∧ cell.vm ≠ .unknown ∧ cell.vm.isStatics = false ∧ K.1.vm.findClass r.1 = some cell.cls ∧
      ∀ (k : Nat) (v : Value), o.2[k]? = some v → ∃ (cf fi : Nat) (kf : Class) (f : Field), K.1.fieldFound? (r.2.1 k).1 (r.2.1 k).2.1 (r.2.1 k).2.2.1 = some (cf, kf, fi, f) ∧ f.isStatic = false ∧ cell.slots[f.slot]? = some (am_tr K v)
def am_ok (K : am_K) (X : Nat → am_C) : Prop :=
  (∀ (c : Nat) (q : vw_C), am_cl[c]? = some q → u_Kn K.1 q.1 q.2.1 q.2.2 (K.2.1.1 c) (K.2.1.2 c)) ∧ (∀ ty ∈ am_tys, ArrOfT K.1 (K.2.2.1 ty) ty ∧ va_RA K.1 (K.2.2.1 ty) ty) ∧ (∀ w ∈ lw_tbl, ∃ A : Array Value, w.before A K.1 = true)
/-- the class's table: its words, its fields' names apart, their types known -/
def am_Cl (q : vw_C) : Prop := (∀ w ∈ u_ws q.1 q.2.1 q.2.2, w ∈ am_tbl) ∧ (∀ a, a < q.2.2 → ∀ b, b < q.2.2 → a ≠ b → (q.2.1 a).2.1 ≠ (q.2.1 b).2.1) ∧ (∀ k, k < q.2.2 → parseFieldDescriptor (q.2.1 k).2.2.1 = some ((parseFieldDescriptor (q.2.1 k).2.2.1).getD .int))
/-- a field's link: pool place ix of class own is field k of class ci -/
def am_F (own : String) (ix ci k : Nat) : Prop := ∃ q : vw_C, am_cl[ci]? = some q ∧ am_Cl q ∧ k < q.2.2 ∧
  (Cond.fieldLink own ix (q.2.1 k).1 (q.2.1 k).2.1 (q.2.1 k).2.2.1 ∈ am_tbl ∨ ∃ host, Cond.fieldLinkNest own ix (q.2.1 k).1 (q.2.1 k).2.1 (q.2.1 k).2.2.1 host ∈ lw_tbl)
theorem am_updV (K : am_K) (f : Nat → Value) (k : Nat) (v : Value) : updV (fun j => am_tr K (f j)) k (am_tr K v) = fun j => am_tr K (updV f k v j) := by
  funext j
  by_cases h : j = k
  · simp [updV, h]
  · simp [updV, h]
theorem am_narrow {K : am_K} {ty : FieldType} {v : Value} (h : narrow ty v = v) : narrow ty (am_tr K v) = am_tr K v := by
  cases v <;> first | exact h | (cases ty <;> rfl)
theorem am_fits {K : am_K} {ty : FieldType} {v : Value} (h : fits ty v = true) : fits ty (am_tr K v) = true := by
  cases v <;> first | exact h | (cases ty <;> exact h)
section AMH
variable {K : am_K} {X : Nat → am_C} {M : am_M} {d kc ks uc us pc : Nat} {lv : List (Nat × Value)} {st : List Value} {hn : Nat} {hf : Nat → am_C} {post : Option Value → am_H → Prop}
theorem am_kn {p : Program} {R : Room} {s : State} {m : MethodId} {args : Array Value} {meth : Method} {c : Code} (O : am_ok K X) (z : am_Z K p R s m args meth c M d) {ty : FieldType} (ht : ty ∈ am_tys) : ArrOfT s (K.2.2.1 ty) ty ∧ va_RA s (K.2.2.1 ty) ty :=
  ⟨arrOfT_moved z.2.2.2.2.2.2.2.2.1.alike (O.2.1 ty ht).1, (O.2.1 ty ht).2.moved z.2.2.2.2.2.2.2.2.1.alike⟩
theorem am_kc {p : Program} {R : Room} {s : State} {m : MethodId} {args : Array Value} {meth : Method} {c : Code} (O : am_ok K X) (z : am_Z K p R s m args meth c M d) : va_K K.2.1 am_cl [] s :=
  ⟨fun c q hq => u_Kn_moved z.2.2.2.2.2.2.2.2.1.alike (O.1 c q hq), fun k q hq => by simp at hq⟩
theorem am_locs2 {K : am_K} {locs : List Loc} {r i : Nat} (hL : ∀ q ∈ locs, K.1.heap.size ≤ q.base) (hr : 128 ≤ r) : ∀ q ∈ locs ++ [(⟨am_ad K r, i⟩ : Loc)], K.1.heap.size ≤ q.base := by
  intro q hq
  rcases List.mem_append.mp hq with h | h
  · exact hL q h
  · have e : q = ⟨am_ad K r, i⟩ := by simpa using h
    rw [e, am_ad_hi hr]
    exact Nat.le_add_right _ _
theorem am_get (O : am_ok K X) {ix ci k r : Nat} {fs : List Value} {v : Value} (hF : am_F M.1.cls ix ci k) (hd : decode M.2.1 pc = .ok (.getfield ix, 3)) (hc : hf r = .inr (ci, fs)) (hr : 128 ≤ r) (hr2 : r < hn) (hv : fs[k]? = some v) (kk : am_W K X M d kc ks uc us (pc + 3) lv (v :: st) (hn, hf) post) : am_W K X M d kc ks uc us pc lv (.ref r :: st) (hn, hf) post := by
  intro p l e R s m args below meth c H locs cells slots ls z hH hL hl h1 h2
  obtain ⟨q, e1, e2, hk, e4⟩ := hF
  have hat : am_at K (am_ad K r) (hf r) H := hH.2.2.2.2 r hr hr2
  rw [hc] at hat
  obtain ⟨q', f1, cell, g1, g2, g3, g4⟩ := hat
  have hq : q' = q := Option.some.inj (f1.symm.trans e1)
  subst hq
  obtain ⟨hS, hfc, kC, hkC, hkind⟩ := (am_kc O z).1 ci _ e1
  obtain ⟨cf, kf, fi, f, hi, hsl⟩ := hS k hk
  have hst := (u_facts hfc hkC (u_lays z.2.2.2.2.1 e2.1 hk) hi).1
  have hslot : cell.slots[f.slot]? = some (am_tr K v) := by
    rw [hsl, g4 k hk]
    simp [vp_V, hv]
  rcases e4 with e4 | ⟨host, e4⟩
  · exact W.getf z.1 z.2.1 z.2.2.2.1 (z.2.2.2.2.1 _ e4) hi hst g1 (by rw [g3]; exact fun h => by cases h) hslot rfl rfl hd (kk p l e R s m args below meth c H locs cells slots ls z hH hL hl h1 h2)
  · obtain ⟨A, hA⟩ := O.2.2 _ e4
    exact va_Wgetf z.1 z.2.1 z.2.2.2.1 (va_Nw.use rfl (va_Nw.warmF z.2.2.2.2.2.2.2.2.1 (va_Nw.of rfl hA))) hi hst g1 (by rw [g3]; exact fun h => by cases h) hslot rfl rfl hd (kk p l e R s m args below meth c H locs cells slots ls z hH hL hl h1 h2)
theorem am_put (O : am_ok K X) {ix ci k r : Nat} {fs : List Value} {v : Value} (hF : am_F M.1.cls ix ci k) (hd : decode M.2.1 pc = .ok (.putfield ix, 3)) (hc : hf r = .inr (ci, fs)) (hr : 128 ≤ r) (hr2 : r < hn) (hlen : k < fs.length)
    (ht : ∀ q : vw_C, am_cl[ci]? = some q → (q.2.1 k).2.2.2 = false ∧ narrow ((parseFieldDescriptor (q.2.1 k).2.2.1).getD .int) v = v ∧ fits ((parseFieldDescriptor (q.2.1 k).2.2.1).getD .int) v = true)
    (kk : am_W K X M d kc ks uc us (pc + 3) lv st (hn, va_up hf r (.inr (ci, fs.set k v))) post) : am_W K X M d kc ks uc us pc lv (v :: .ref r :: st) (hn, hf) post := by
  intro p l e R s m args below meth c H locs cells slots ls z hH hL hl h1 h2
  obtain ⟨q, e1, e2, hk, e4⟩ := hF
  have hat : am_at K (am_ad K r) (hf r) H := hH.2.2.2.2 r hr hr2
  rw [hc] at hat
  obtain ⟨q', f1, cell, g1, g2, g3, g4⟩ := hat
  have hq : q' = q := Option.some.inj (f1.symm.trans e1)
  subst hq
  have hK := am_kc O z
  obtain ⟨hS, hfc, kC, hkC, hkind⟩ := hK.1 ci _ e1
  have hap := va_apart (own := M.1.cls) (C := q'.1) (T := q'.2.1) (N := q'.2.2) z.2.2.2.2.1 e2.1 _ e2.2.2 e2.2.1 hK e1
  obtain ⟨cf, kf, fi, f, hi, hsl⟩ := hS k hk
  have hst := (u_facts hfc hkC (u_lays z.2.2.2.2.1 e2.1 hk) hi).1
  have hslt : f.slot < cell.slots.size := by rw [hsl]; exact k2_hasslot (g4 k hk)
  obtain ⟨t1, t2, t3⟩ := ht _ e1
  have tn := am_narrow (K := K) t2
  have tf := am_fits (K := K) t3
  have fin : ∀ H' : Heap, H'[am_ad K r]? = some (cell.setSlot f.slot (am_tr K v)) → H'.size = H.size → (∀ q, q ≠ am_ad K r → H'[q]? = H[q]?) → W p l e R s m args below meth c H' (locs ++ [⟨am_ad K r, f.slot⟩]) cells slots (MQ below (am_Q K X post) args s R.cells R.slots (fun q => K.1.heap.size ≤ q)) (F0 m (pc + 3) ls (st.map (am_tr K))) := by
    intro H' w1 w2 w3
    refine kk p l e R s m args below meth c H' _ cells slots ls z (hH.set hr hr2 w2 w3 ⟨q', e1, ?_⟩) (am_locs2 hL hr) hl h1 h2
    rw [hsl] at w1
    have hlen' : k < (fs.map (am_tr K)).length := by rw [List.length_map]; exact hlen
    have := t_OB.to (V := updV (vp_V (fs.map (am_tr K))) k (am_tr K v)) (V' := vp_V ((fs.map (am_tr K)).set k (am_tr K v))) (N := q'.2.2) ⟨_, w1, g2, g3, t_set g4 hap hk (am_tr K v)⟩ (fun j _ => vp_updV_set hlen' (am_tr K v) j)
    show t_OB _ _ _ _ _ (vp_V ((fs.set k v).map (am_tr K)))
    rw [List.map_set]
    exact this
  have hlay := z.2.2.2.2.1 _ (e2.1 _ (u_in_lay hk))
  unfold u_lay at hlay
  rw [if_neg (by rw [t1]; decide)] at hlay
  have h6 := u_store hfc hkC hkind hlay hi (e2.2.2 k hk) tn tf
  rcases e4 with e4 | ⟨host, e4⟩
  · exact W.putK z.1 z.2.1 (f := f) ⟨z.2.2.2.1, z.2.2.2.2.1 _ e4, ⟨_, _, _, hi⟩, hst⟩ (by rw [g2]; exact h6) g1 g3 hslt rfl rfl hd fin
  · obtain ⟨A, hA⟩ := O.2.2 _ e4
    exact va_WputK z.1 z.2.1 z.2.2.2.1 (va_Nw.use rfl (va_Nw.warmF z.2.2.2.2.2.2.2.2.1 (va_Nw.of rfl hA))) hi hst (by rw [g2]; exact h6) g1 g3 hslt rfl rfl hd fin
/-- a final field, in its own constructor -/
theorem am_putF (O : am_ok K X) {ix ci k r : Nat} {fs : List Value} {v : Value} (hF : am_F M.1.cls ix ci k) (hw : ∀ q : vw_C, am_cl[ci]? = some q → Cond.fieldLink M.1.cls ix (q.2.1 k).1 (q.2.1 k).2.1 (q.2.1 k).2.2.1 ∈ am_tbl ∧ M.1.cls = (q.2.1 k).1) (hin : M.1.name = "<init>") (hd : decode M.2.1 pc = .ok (.putfield ix, 3)) (hc : hf r = .inr (ci, fs)) (hr : 128 ≤ r) (hr2 : r < hn) (hlen : k < fs.length)
    (ht : ∀ q : vw_C, am_cl[ci]? = some q → (q.2.1 k).2.2.2 = true ∧ narrow ((parseFieldDescriptor (q.2.1 k).2.2.1).getD .int) v = v ∧ fits ((parseFieldDescriptor (q.2.1 k).2.2.1).getD .int) v = true)
    (kk : am_W K X M d kc ks uc us (pc + 3) lv st (hn, va_up hf r (.inr (ci, fs.set k v))) post) : am_W K X M d kc ks uc us pc lv (v :: .ref r :: st) (hn, hf) post := by
  intro p l e R s m args below meth c H locs cells slots ls z hH hL hl h1 h2
  obtain ⟨q, e1, e2, hk, e4⟩ := hF
  have hat : am_at K (am_ad K r) (hf r) H := hH.2.2.2.2 r hr hr2
  rw [hc] at hat
  obtain ⟨q', f1, cell, g1, g2, g3, g4⟩ := hat
  have hq : q' = q := Option.some.inj (f1.symm.trans e1)
  subst hq
  have hK := am_kc O z
  obtain ⟨hS, hfc, kC, hkC, hkind⟩ := hK.1 ci _ e1
  have hap := va_apart (own := M.1.cls) (C := q'.1) (T := q'.2.1) (N := q'.2.2) z.2.2.2.2.1 e2.1 _ e2.2.2 e2.2.1 hK e1
  obtain ⟨cf, kf, fi, f, hi, hsl⟩ := hS k hk
  have hst := (u_facts hfc hkC (u_lays z.2.2.2.2.1 e2.1 hk) hi).1
  have hslt : f.slot < cell.slots.size := by rw [hsl]; exact k2_hasslot (g4 k hk)
  obtain ⟨t1, t2, t3⟩ := ht _ e1
  have tn := am_narrow (K := K) t2
  have tf := am_fits (K := K) t3
  have fin : ∀ H' : Heap, H'[am_ad K r]? = some (cell.setSlot f.slot (am_tr K v)) → H'.size = H.size → (∀ q, q ≠ am_ad K r → H'[q]? = H[q]?) → W p l e R s m args below meth c H' (locs ++ [⟨am_ad K r, f.slot⟩]) cells slots (MQ below (am_Q K X post) args s R.cells R.slots (fun q => K.1.heap.size ≤ q)) (F0 m (pc + 3) ls (st.map (am_tr K))) := by
    intro H' w1 w2 w3
    refine kk p l e R s m args below meth c H' _ cells slots ls z (hH.set hr hr2 w2 w3 ⟨q', e1, ?_⟩) (am_locs2 hL hr) hl h1 h2
    rw [hsl] at w1
    have hlen' : k < (fs.map (am_tr K)).length := by rw [List.length_map]; exact hlen
    have := t_OB.to (V := updV (vp_V (fs.map (am_tr K))) k (am_tr K v)) (V' := vp_V ((fs.map (am_tr K)).set k (am_tr K v))) (N := q'.2.2) ⟨_, w1, g2, g3, t_set g4 hap hk (am_tr K v)⟩ (fun j _ => vp_updV_set hlen' (am_tr K v) j)
    show t_OB _ _ _ _ _ (vp_V ((fs.set k v).map (am_tr K)))
    rw [List.map_set]
    exact this
  have hlay := z.2.2.2.2.1 _ (e2.1 _ (u_in_lay hk))
  unfold u_lay at hlay
  rw [if_pos t1] at hlay
  obtain ⟨w1, w2⟩ := hw _ e1
  have hcf : m.cls = cf := by
    obtain ⟨_, _, c', _, _, _, -, -, hf', -, -, -, hown2, -⟩ := Cond.laysFinal_spec hlay
    have e1 : c' = cf := by have := hi.symm.trans hf'; simp at this; exact this.1.symm
    rw [← w2] at hown2
    rw [← e1]; exact Option.some.inj (z.2.2.2.1.symm.trans hown2)
  have h6 := u_fits hfc hkC hkind (Or.inr hlay) hi (e2.2.2 k hk) tn tf
  exact W.putFinK z.1 z.2.1 z.2.2.2.1 (z.2.2.2.2.1 _ w1) hi hst hcf (z.2.2.2.2.2.2.2.1.trans hin) (by rw [g2]; exact h6) g1 g3 hslt rfl rfl hd fin
theorem am_hat {r n : Nat} {ty : FieldType} {f : Nat → Value} {H : Heap} (hH : am_HR K X (hn, hf) H) (hc : hf r = .inl (ty, n, f)) (hr : 128 ≤ r) (hr2 : r < hn) : H[am_ad K r]? = some (arrV (K.2.2.1 ty) n (fun j => am_tr K (f j))) := by
  have hat : am_at K (am_ad K r) (hf r) H := hH.2.2.2.2 r hr hr2
  rw [hc] at hat
  exact hat
theorem am_alen (O : am_ok K X) {r n : Nat} {ty : FieldType} {f : Nat → Value} {v : Int32} (hd : decode M.2.1 pc = .ok (.arraylength, 1)) (hc : hf r = .inl (ty, n, f)) (hr : 128 ≤ r) (hr2 : r < hn) (ht : ty ∈ am_tys) (hv : Int32.ofNat n = v) (kk : am_W K X M d kc ks uc us (pc + 1) lv (.int v :: st) (hn, hf) post) : am_W K X M d kc ks uc us pc lv (.ref r :: st) (hn, hf) post := by
  intro p l e R s m args below meth c H locs cells slots ls z hH hL hl h1 h2
  exact W.alen (n := v) z.1 z.2.1 (am_hat hH hc hr hr2) ((am_kn O z ht).1 n _) (by rw [arrV_size]; exact hv) rfl rfl hd (kk p l e R s m args below meth c H locs cells slots ls z hH hL hl h1 h2)

theorem am_iald (O : am_ok K X) {r n : Nat} {f : Nat → Value} {i : Int32} {v : Value} (ht : FieldType.int ∈ am_tys) (hd : decode M.2.1 pc = .ok (.iaload, 1)) (hc : hf r = .inl (.int, n, f)) (hr : 128 ≤ r) (hr2 : r < hn) (hin : vp_in i n) (hv : f i.toNatClampNeg = v) (kk : am_W K X M d kc ks uc us (pc + 1) lv (v :: st) (hn, hf) post) : am_W K X M d kc ks uc us pc lv (.int i :: .ref r :: st) (hn, hf) post := by
  intro p l e R s m args below meth c H locs cells slots ls z hH hL hl h1 h2
  have hlt : i.toNatClampNeg < n := Nat.not_le.mp fun q => hin (Or.inr q)
  exact W.iald (v := am_tr K v) z.1 z.2.1 (am_hat hH hc hr hr2) ((am_kn O z ht).1 n _) (fun q => by cases q) (by rw [arrV_size]; exact hin) (by rw [arrV_read _ _ hlt, hv]) rfl rfl hd (kk p l e R s m args below meth c H locs cells slots ls z hH hL hl h1 h2)
theorem am_lald (O : am_ok K X) {r n : Nat} {f : Nat → Value} {i : Int32} {v : Value} (ht : FieldType.long ∈ am_tys) (hd : decode M.2.1 pc = .ok (.laload, 1)) (hc : hf r = .inl (.long, n, f)) (hr : 128 ≤ r) (hr2 : r < hn) (hin : vp_in i n) (hv : f i.toNatClampNeg = v) (kk : am_W K X M d kc ks uc us (pc + 1) lv (v :: st) (hn, hf) post) : am_W K X M d kc ks uc us pc lv (.int i :: .ref r :: st) (hn, hf) post := by
  intro p l e R s m args below meth c H locs cells slots ls z hH hL hl h1 h2
  have hlt : i.toNatClampNeg < n := Nat.not_le.mp fun q => hin (Or.inr q)
  exact W.lald (v := am_tr K v) z.1 z.2.1 (am_hat hH hc hr hr2) ((am_kn O z ht).1 n _) (fun q => by cases q) (by rw [arrV_size]; exact hin) (by rw [arrV_read _ _ hlt, hv]) rfl rfl hd (kk p l e R s m args below meth c H locs cells slots ls z hH hL hl h1 h2)
theorem am_bald (O : am_ok K X) {r n : Nat} {f : Nat → Value} {i : Int32} {v : Value} (ht : FieldType.byte ∈ am_tys) (hd : decode M.2.1 pc = .ok (.baload, 1)) (hc : hf r = .inl (.byte, n, f)) (hr : 128 ≤ r) (hr2 : r < hn) (hin : vp_in i n) (hv : f i.toNatClampNeg = v) (kk : am_W K X M d kc ks uc us (pc + 1) lv (v :: st) (hn, hf) post) : am_W K X M d kc ks uc us pc lv (.int i :: .ref r :: st) (hn, hf) post := by
  intro p l e R s m args below meth c H locs cells slots ls z hH hL hl h1 h2
  have hlt : i.toNatClampNeg < n := Nat.not_le.mp fun q => hin (Or.inr q)
  exact W.bald (v := am_tr K v) z.1 z.2.1 (am_hat hH hc hr hr2) ((am_kn O z ht).1 n _) (fun q => by cases q) (by rw [arrV_size]; exact hin) (by rw [arrV_read _ _ hlt, hv]) rfl rfl hd (kk p l e R s m args below meth c H locs cells slots ls z hH hL hl h1 h2)
theorem am_zald (O : am_ok K X) {r n : Nat} {f : Nat → Value} {i : Int32} {v : Value} (ht : FieldType.boolean ∈ am_tys) (hd : decode M.2.1 pc = .ok (.baload, 1)) (hc : hf r = .inl (.boolean, n, f)) (hr : 128 ≤ r) (hr2 : r < hn) (hin : vp_in i n) (hv : f i.toNatClampNeg = v) (kk : am_W K X M d kc ks uc us (pc + 1) lv (v :: st) (hn, hf) post) : am_W K X M d kc ks uc us pc lv (.int i :: .ref r :: st) (hn, hf) post := by
  intro p l e R s m args below meth c H locs cells slots ls z hH hL hl h1 h2
  have hlt : i.toNatClampNeg < n := Nat.not_le.mp fun q => hin (Or.inr q)
  exact W.zald (v := am_tr K v) z.1 z.2.1 (am_hat hH hc hr hr2) ((am_kn O z ht).1 n _) (fun q => by cases q) (by rw [arrV_size]; exact hin) (by rw [arrV_read _ _ hlt, hv]) rfl rfl hd (kk p l e R s m args below meth c H locs cells slots ls z hH hL hl h1 h2)
theorem am_cald (O : am_ok K X) {r n : Nat} {f : Nat → Value} {i : Int32} {v : Value} (ht : FieldType.char ∈ am_tys) (hd : decode M.2.1 pc = .ok (.caload, 1)) (hc : hf r = .inl (.char, n, f)) (hr : 128 ≤ r) (hr2 : r < hn) (hin : vp_in i n) (hv : f i.toNatClampNeg = v) (kk : am_W K X M d kc ks uc us (pc + 1) lv (v :: st) (hn, hf) post) : am_W K X M d kc ks uc us pc lv (.int i :: .ref r :: st) (hn, hf) post := by
  intro p l e R s m args below meth c H locs cells slots ls z hH hL hl h1 h2
  have hlt : i.toNatClampNeg < n := Nat.not_le.mp fun q => hin (Or.inr q)
  exact W.cald (v := am_tr K v) z.1 z.2.1 (am_hat hH hc hr hr2) ((am_kn O z ht).1 n _) (fun q => by cases q) (by rw [arrV_size]; exact hin) (by rw [arrV_read _ _ hlt, hv]) rfl rfl hd (kk p l e R s m args below meth c H locs cells slots ls z hH hL hl h1 h2)
theorem am_aald (O : am_ok K X) {r n : Nat} {ty : FieldType} {f : Nat → Value} {i : Int32} {v : Value} (hd : decode M.2.1 pc = .ok (.aaload, 1)) (hc : hf r = .inl (ty, n, f)) (hr : 128 ≤ r) (hr2 : r < hn) (ht : ty ∈ am_tys) (href : ty.isReference = true) (hin : vp_in i n) (hv : f i.toNatClampNeg = v) (kk : am_W K X M d kc ks uc us (pc + 1) lv (v :: st) (hn, hf) post) : am_W K X M d kc ks uc us pc lv (.int i :: .ref r :: st) (hn, hf) post := by
  intro p l e R s m args below meth c H locs cells slots ls z hH hL hl h1 h2
  have hlt : i.toNatClampNeg < n := Nat.not_le.mp fun q => hin (Or.inr q)
  exact W.aald (v := am_tr K v) z.1 z.2.1 (am_hat hH hc hr hr2) ((am_kn O z ht).1 n _) href (fun q => by cases q) (by rw [arrV_size]; exact hin) (by rw [arrV_read _ _ hlt, hv]) rfl rfl hd (kk p l e R s m args below meth c H locs cells slots ls z hH hL hl h1 h2)
theorem am_iast (O : am_ok K X) {r n : Nat} {f : Nat → Value} {i : Int32} {x : Int32} (ht : FieldType.int ∈ am_tys) (hd : decode M.2.1 pc = .ok (.iastore, 1)) (hc : hf r = .inl (.int, n, f)) (hr : 128 ≤ r) (hr2 : r < hn) (hin : vp_in i n) (kk : am_W K X M d kc ks uc us (pc + 1) lv st (hn, va_up hf r (.inl (.int, n, updV f i.toNatClampNeg (.int x)))) post) : am_W K X M d kc ks uc us pc lv (.int x :: .int i :: .ref r :: st) (hn, hf) post := by
  intro p l e R s m args below meth c H locs cells slots ls z hH hL hl h1 h2
  refine W.iast z.1 z.2.1 (am_hat hH hc hr hr2) ((am_kn O z ht).1 n _) (fun q => by cases q) (by rw [arrV_size]; exact hin) rfl rfl hd fun H' w1 w2 w3 => ?_
  refine kk p l e R s m args below meth c H' _ cells slots ls z (hH.set hr hr2 w2 w3 ?_) (am_locs2 hL hr) hl h1 h2
  show H'[am_ad K r]? = some (arrV _ n _)
  rw [w1, arrV_store]
  exact congrArg (fun g => some (arrV _ n g)) (am_updV K f i.toNatClampNeg (.int x))
theorem am_last (O : am_ok K X) {r n : Nat} {f : Nat → Value} {i : Int32} {x : Int64} (ht : FieldType.long ∈ am_tys) (hd : decode M.2.1 pc = .ok (.lastore, 1)) (hc : hf r = .inl (.long, n, f)) (hr : 128 ≤ r) (hr2 : r < hn) (hin : vp_in i n) (kk : am_W K X M d kc ks uc us (pc + 1) lv st (hn, va_up hf r (.inl (.long, n, updV f i.toNatClampNeg (.long x)))) post) : am_W K X M d kc ks uc us pc lv (.long x :: .int i :: .ref r :: st) (hn, hf) post := by
  intro p l e R s m args below meth c H locs cells slots ls z hH hL hl h1 h2
  refine W.last z.1 z.2.1 (am_hat hH hc hr hr2) ((am_kn O z ht).1 n _) (fun q => by cases q) (by rw [arrV_size]; exact hin) rfl rfl hd fun H' w1 w2 w3 => ?_
  refine kk p l e R s m args below meth c H' _ cells slots ls z (hH.set hr hr2 w2 w3 ?_) (am_locs2 hL hr) hl h1 h2
  show H'[am_ad K r]? = some (arrV _ n _)
  rw [w1, arrV_store]
  exact congrArg (fun g => some (arrV _ n g)) (am_updV K f i.toNatClampNeg (.long x))
theorem am_bast (O : am_ok K X) {r n : Nat} {f : Nat → Value} {i : Int32} {x : Int32} (ht : FieldType.byte ∈ am_tys) (hd : decode M.2.1 pc = .ok (.bastore, 1)) (hc : hf r = .inl (.byte, n, f)) (hr : 128 ≤ r) (hr2 : r < hn) (hin : vp_in i n) (kk : am_W K X M d kc ks uc us (pc + 1) lv st (hn, va_up hf r (.inl (.byte, n, updV f i.toNatClampNeg (.int x.toInt8.toInt32)))) post) : am_W K X M d kc ks uc us pc lv (.int x :: .int i :: .ref r :: st) (hn, hf) post := by
  intro p l e R s m args below meth c H locs cells slots ls z hH hL hl h1 h2
  refine W.bast z.1 z.2.1 (am_hat hH hc hr hr2) ((am_kn O z ht).1 n _) (fun q => by cases q) (by rw [arrV_size]; exact hin) rfl rfl hd fun H' w1 w2 w3 => ?_
  refine kk p l e R s m args below meth c H' _ cells slots ls z (hH.set hr hr2 w2 w3 ?_) (am_locs2 hL hr) hl h1 h2
  show H'[am_ad K r]? = some (arrV _ n _)
  rw [w1, arrV_store]
  exact congrArg (fun g => some (arrV _ n g)) (am_updV K f i.toNatClampNeg (.int x.toInt8.toInt32))
theorem am_zast (O : am_ok K X) {r n : Nat} {f : Nat → Value} {i : Int32} {x : Int32} (ht : FieldType.boolean ∈ am_tys) (hd : decode M.2.1 pc = .ok (.bastore, 1)) (hc : hf r = .inl (.boolean, n, f)) (hr : 128 ≤ r) (hr2 : r < hn) (hin : vp_in i n) (kk : am_W K X M d kc ks uc us (pc + 1) lv st (hn, va_up hf r (.inl (.boolean, n, updV f i.toNatClampNeg (narrow .boolean (.int x))))) post) : am_W K X M d kc ks uc us pc lv (.int x :: .int i :: .ref r :: st) (hn, hf) post := by
  intro p l e R s m args below meth c H locs cells slots ls z hH hL hl h1 h2
  refine W.zast z.1 z.2.1 (am_hat hH hc hr hr2) ((am_kn O z ht).1 n _) (fun q => by cases q) (by rw [arrV_size]; exact hin) rfl rfl hd fun H' w1 w2 w3 => ?_
  refine kk p l e R s m args below meth c H' _ cells slots ls z (hH.set hr hr2 w2 w3 ?_) (am_locs2 hL hr) hl h1 h2
  show H'[am_ad K r]? = some (arrV _ n _)
  rw [w1, arrV_store]
  exact congrArg (fun g => some (arrV _ n g)) (am_updV K f i.toNatClampNeg (narrow .boolean (.int x)))
theorem am_cast (O : am_ok K X) {r n : Nat} {f : Nat → Value} {i : Int32} {x : Int32} (ht : FieldType.char ∈ am_tys) (hd : decode M.2.1 pc = .ok (.castore, 1)) (hc : hf r = .inl (.char, n, f)) (hr : 128 ≤ r) (hr2 : r < hn) (hin : vp_in i n) (kk : am_W K X M d kc ks uc us (pc + 1) lv st (hn, va_up hf r (.inl (.char, n, updV f i.toNatClampNeg (narrow .char (.int x))))) post) : am_W K X M d kc ks uc us pc lv (.int x :: .int i :: .ref r :: st) (hn, hf) post := by
  intro p l e R s m args below meth c H locs cells slots ls z hH hL hl h1 h2
  refine W.cast z.1 z.2.1 (am_hat hH hc hr hr2) ((am_kn O z ht).1 n _) (fun q => by cases q) (by rw [arrV_size]; exact hin) rfl rfl hd fun H' w1 w2 w3 => ?_
  refine kk p l e R s m args below meth c H' _ cells slots ls z (hH.set hr hr2 w2 w3 ?_) (am_locs2 hL hr) hl h1 h2
  show H'[am_ad K r]? = some (arrV _ n _)
  rw [w1, arrV_store]
  exact congrArg (fun g => some (arrV _ n g)) (am_updV K f i.toNatClampNeg (narrow .char (.int x)))
/-- what a new object's fields hold -/
def am_df (q : vw_C) : List Value := (List.range q.2.2).map (fun j => defaultValue ((parseFieldDescriptor (q.2.1 j).2.2.1).getD .int))
theorem am_tr_df (K : am_K) (ty : FieldType) : am_tr K (defaultValue ty) = defaultValue ty := by cases ty <;> rfl
def am_N (own : String) (ix ci N : Nat) (fs : List Value) : Prop := ∃ q : vw_C, am_cl[ci]? = some q ∧ am_Cl q ∧ q.2.2 = N ∧ am_df q = fs ∧ Cond.classLink own ix q.1 ∈ am_tbl ∧ Cond.instantiable q.1 q.2.2 ∈ am_tbl ∧ Cond.initialized q.1 ∈ am_tbl
theorem am_new (O : am_ok K X) {ix ci N : Nat} {fs : List Value} (hN : am_N M.1.cls ix ci N fs) (hd : decode M.2.1 pc = .ok (.new ix, 3)) (hk : uc + 1 ≤ kc) (hk2 : us + N ≤ ks) (kk : am_W K X M d kc ks (uc + 1) (us + N) (pc + 3) lv (.ref hn :: st) (hn + 1, va_up hf hn (.inr (ci, fs))) post) : am_W K X M d kc ks uc us pc lv st (hn, hf) post := by
  intro p l e R s m args below meth c H locs cells slots ls z hH hL hl h1 h2
  obtain ⟨q, e1, e2, rfl, rfl, w1, w2, w3⟩ := hN
  have hKn := (am_kc O z).1 ci q e1
  refine W.newcK z.1 z.2.1 z.2.2.2.1 (z.2.2.2.2.1 _ w1) (z.2.2.2.2.1 _ w2) (z.2.2.2.2.1 _ w3) rfl hd (by omega) (by omega) hKn.2.1 rfl fun H' kC hkC c1 c2 c3 => ?_
  obtain ⟨g1, g2⟩ := hH.push (c := .inr (ci, am_df q)) c2 c3 ⟨q, e1, (u_born _ z.2.2.2.2.1 e2.1 hKn hkC c1 e2.2.2).to (fun j hj => by
    simp [vp_V, am_df, hj, am_tr_df])⟩
  have := kk p l e R s m args below meth c H' locs (cells + 1) (slots + q.2.2) ls z g1 hL hl (by omega) (by omega)
  rw [List.map_cons, show am_tr K (.ref hn) = .ref H.size from congrArg Value.ref g2] at this
  exact this
theorem am_RA {U : State} {cA : ClassId} {ty : FieldType} (h : va_RA U cA ty) : U.vm.findClass ("[" ++ ty.toString) = some cA := by
  cases ty with
  | object C =>
    obtain ⟨_, _, _, _, _, h4⟩ := h
    exact h4
  | _ => exact h
theorem am_newa (O : am_ok K X) {at_ : ArrayType} {ty : FieldType} {n : Int32} {N : Nat} (hty : newarray.typeOf at_ = ty) (ht : ty ∈ am_tys) (hw : Cond.arrayClass ty ∈ am_tbl) (hd : decode M.2.1 pc = .ok (.newarray at_, 2)) (hng : ¬ n < 0) (hN : n.toNatClampNeg = N) (hb : N * componentBytes ty ≤ 536870912) (hk : uc + 1 ≤ kc) (hk2 : us + N ≤ ks) (kk : am_W K X M d kc ks (uc + 1) (us + N) (pc + 2) lv (.ref hn :: st) (hn + 1, va_up hf hn (.inl (ty, N, fun _ => defaultValue ty))) post) : am_W K X M d kc ks uc us pc lv (.int n :: st) (hn, hf) post := by
  intro p l e R s m args below meth c H locs cells slots ls z hH hL hl h1 h2
  subst hty
  refine va_newaK z.1 z.2.1 (z.2.2.2.2.1 _ hw) rfl hd rfl hng hN hb (by omega) (by omega) rfl fun H' cA c1 c2 c3 _ c5 => ?_
  have hA : K.2.2.1 (newarray.typeOf at_) = cA := Option.some.inj ((am_RA (am_kn O z ht).2).symm.trans c5)
  obtain ⟨g1, g2⟩ := hH.push (c := .inl (newarray.typeOf at_, N, fun _ => defaultValue (newarray.typeOf at_))) c2 c3 (by
    show H'[H.size]? = some (arrV _ N _)
    rw [c1, hA]
    simp only [am_tr_df])
  have := kk p l e R s m args below meth c H' locs (cells + 1) (slots + N) ls z g1 hL hl (by omega) (by omega)
  rw [List.map_cons, show am_tr K (.ref hn) = .ref H.size from congrArg Value.ref g2] at this
  exact this
theorem am_anew (O : am_ok K X) {C : String} {ix : Nat} {n : Int32} {N : Nat} (ht : FieldType.object C ∈ am_tys) (hw : Cond.classLink M.1.cls ix C ∈ am_tbl) (hw2 : Cond.arrayOver (.object C) ∈ lw_tbl) (hd : decode M.2.1 pc = .ok (.anewarray ix, 3)) (hng : ¬ n < 0) (hN : n.toNatClampNeg = N) (hb : N * 4 ≤ 536870912) (hk : uc + 1 ≤ kc) (hk2 : us + N ≤ ks) (kk : am_W K X M d kc ks (uc + 1) (us + N) (pc + 3) lv (.ref hn :: st) (hn + 1, va_up hf hn (.inl (.object C, N, fun _ => .null))) post) : am_W K X M d kc ks uc us pc lv (.int n :: st) (hn, hf) post := by
  intro p l e R s m args below meth c H locs cells slots ls z hH hL hl h1 h2
  subst hN
  obtain ⟨A, hA⟩ := O.2.2 _ hw2
  refine W.anew z.1 z.2.1 z.2.2.2.1 (z.2.2.2.2.1 _ hw) (va_AO.use (va_AO.moved z.2.2.2.2.2.2.2.2.1.alike (va_AO.of hA))) rfl hd rfl hng hb (by omega) (by omega) fun cA kA comp c1 _ _ _ => ?_
  have hA : K.2.2.1 (.object C) = cA := Option.some.inj ((am_RA (am_kn O z ht).2).symm.trans c1)
  obtain ⟨g1, g2⟩ := hH.push (c := .inl (.object C, n.toNatClampNeg, fun _ => .null)) (H1 := H.push { cls := cA, slots := Array.replicate n.toNatClampNeg .null, vm := .none }) (by simp) (fun q hq => by rw [Array.getElem?_push, if_neg (Nat.ne_of_lt hq)]) (by
    show _ = some (arrV _ _ _)
    rw [hA, arrV_new]
    simp [am_tr])
  have := kk p l e R s m args below meth c _ locs (cells + 1) (slots + n.toNatClampNeg) ls z g1 hL hl (by omega) (by omega)
  rw [List.map_cons, show am_tr K (.ref hn) = .ref H.size from congrArg Value.ref g2] at this
  exact this
theorem am_rcv {H : Heap} {r ci : Nat} {q : vw_C} {fs : List Value} (hH : am_HR K X (hn, hf) H) (hc : hf r = .inr (ci, fs)) (hr : 128 ≤ r) (hr2 : r < hn) (hq : am_cl[ci]? = some q) : ∃ cell : Cell, H[am_ad K r]? = some cell ∧ cell.vm = .none ∧ cell.cls = K.2.1.1 ci := by
  have hat : am_at K (am_ad K r) (hf r) H := hH.2.2.2.2 r hr hr2
  rw [hc] at hat
  obtain ⟨q', f1, cell, g1, g2, g3, g4⟩ := hat
  exact ⟨cell, g1, g3, g2⟩
/-- an object into an array of its own class -/
theorem am_aast (O : am_ok K X) {r n rv ci : Nat} {q : vw_C} {C : String} {vs : List Value} {f : Nat → Value} {i : Int32} (hd : decode M.2.1 pc = .ok (.aastore, 1)) (hc : hf r = .inl (.object C, n, f)) (hr : 128 ≤ r) (hr2 : r < hn) (hv : hf rv = .inr (ci, vs)) (hv1 : 128 ≤ rv) (hv2 : rv < hn) (hq : am_cl[ci]? = some q) (hC : q.1 = C) (ht : FieldType.object C ∈ am_tys) (hin : vp_in i n) (kk : am_W K X M d kc ks uc us (pc + 1) lv st (hn, va_up hf r (.inl (.object C, n, updV f i.toNatClampNeg (.ref rv)))) post) : am_W K X M d kc ks uc us pc lv (.ref rv :: .int i :: .ref r :: st) (hn, hf) post := by
  intro p l e R s m args below meth c H locs cells slots ls z hH hL hl h1 h2
  subst hC
  have hlt : i.toNatClampNeg < n := Nat.not_le.mp fun q => hin (Or.inr q)
  have h0 : ¬ i < 0 := fun q => hin (Or.inl q)
  obtain ⟨cellV, g1, g3, g2⟩ := am_rcv hH hv hv1 hv2 hq
  have hcls := ((am_kc O z).1 ci q hq).2
  obtain ⟨kA, comp, k1, k2, k3, -⟩ := (am_kn O z ht).2
  have hcomp : comp = K.2.1.1 ci := Option.some.inj (k3.symm.trans hcls.1)
  subst hcomp
  obtain ⟨kC, hkC, hkk⟩ := hcls.2
  refine W.aast z.1 z.2.1 (am_hat hH hc hr hr2) (fun q h => by cases h) (fun h => by cases h) k1 k2 rfl hkC ⟨h0, by rw [arrV_size]; exact hlt⟩ g1 (fun q h => by rw [g3] at h; cases h) (by rw [g2]; exact hkC) (by rw [g2]; exact va_assign hcls) rfl rfl hd fun H' w1 w2 w3 => ?_
  refine kk p l e R s m args below meth c H' _ cells slots ls z (hH.set hr hr2 w2 w3 ?_) (am_locs2 hL hr) hl h1 h2
  show H'[am_ad K r]? = some (arrV _ n _)
  rw [w1, arrV_store]
  exact congrArg (fun g => some (arrV _ n g)) (am_updV K f i.toNatClampNeg (.ref rv))
theorem am_aastN (O : am_ok K X) {r n : Nat} {C : String} {f : Nat → Value} {i : Int32} (ht : FieldType.object C ∈ am_tys) (hd : decode M.2.1 pc = .ok (.aastore, 1)) (hc : hf r = .inl (.object C, n, f)) (hr : 128 ≤ r) (hr2 : r < hn) (hin : vp_in i n) (kk : am_W K X M d kc ks uc us (pc + 1) lv st (hn, va_up hf r (.inl (.object C, n, updV f i.toNatClampNeg .null))) post) : am_W K X M d kc ks uc us pc lv (.null :: .int i :: .ref r :: st) (hn, hf) post := by
  intro p l e R s m args below meth c H locs cells slots ls z hH hL hl h1 h2
  refine va_WaastN (C := C) z.1 z.2.1 (am_hat hH hc hr hr2) ((am_kn O z ht).1 n _) (fun h => by cases h) (by rw [arrV_size]; exact hin) rfl rfl hd fun H' w1 w2 w3 => ?_
  refine kk p l e R s m args below meth c H' _ cells slots ls z (hH.set hr hr2 w2 w3 ?_) (am_locs2 hL hr) hl h1 h2
  show H'[am_ad K r]? = some (arrV _ n _)
  rw [w1, arrV_store]
  exact congrArg (fun g => some (arrV _ n g)) (am_updV K f i.toNatClampNeg .null)
/-- Object.<init> -/
theorem am_obj {ix r : Nat} (hw : Cond.methodLink M.1.cls ix objectInit ∈ am_tbl) (hw2 : Cond.instanceMethod objectInit ∈ am_tbl) (hw3 : Cond.code objectInit ⟨#[0xb1]⟩ 1 none ∈ am_tbl) (hd : decode M.2.1 pc = .ok (.invokespecial ix, 3)) (hd1 : 1 ≤ d) (hst : (st.map fun v => v.category).sum ≤ 8) (kk : am_W K X M d kc ks uc us (pc + 3) lv st (hn, hf) post) : am_W K X M d kc ks uc us pc lv (.ref r :: st) (hn, hf) post := by
  intro p l e R s m args below meth c H locs cells slots ls z hH hL hl h1 h2
  have hs : ((st.map (am_tr K)).map fun v => v.category).sum ≤ 8 := by
    rw [List.map_map, show ((fun v : Value => v.category) ∘ am_tr K) = fun v => v.category from funext (am_cat K)]
    exact hst
  obtain ⟨z1, z2, z3, z4, z5, z6, z7, z8, z9, z10, z11⟩ := id z
  exact W.objInit z.1 z.2.1 z.2.2.2.1 (z.2.2.2.2.1 _ hw) (z.2.2.2.2.1 _ hw2) (z.2.2.2.2.1 _ hw3) rfl (by rw [z3]; exact hl.1) rfl hd (by omega) (by show 2 * 0 + _ + 12 ≤ _; omega) (kk p l e R s m args below meth c H locs cells slots ls z hH hL hl h1 h2)
end AMH
