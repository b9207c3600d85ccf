/-! THE ABSTRACT MACHINE. A heap of cells by number: numbers under 128 are cells of the start (the script, texts), never written; number r from 128 on is the cell at (the start's size + r - 128). A value's reference is such a number. am_W: the machine at a frame, over an abstract heap, comes to its method's end with 'post'. -/
abbrev am_C : Type := (FieldType × Nat × (Nat → Value)) ⊕ (Nat × List Value)
abbrev am_H : Type := Nat × (Nat → am_C)
abbrev am_K : Type := State × va_G × (FieldType → ClassId) × (Nat → Nat)
abbrev am_M : Type := MethodName × ByteArray × Nat × Option FieldType
def am_ad (K : am_K) (r : Nat) : Nat := if r < 128 then K.2.2.2 r else K.1.heap.size + (r - 128)
def am_tr (K : am_K) (v : Value) : Value := match v with
  | .ref r => .ref (am_ad K r)
  | w => w
def am_tl (K : am_K) (q : Nat × Value) : Nat × Value := (q.1, am_tr K q.2)
theorem am_cat (K : am_K) (v : Value) : (am_tr K v).category = v.category := by cases v <;> rfl
def am_at (K : am_K) (q : Nat) (c : am_C) (H : Heap) : Prop := match c with
  | .inl a => H[q]? = some (arrV (K.2.2.1 a.1) a.2.1 (fun j => am_tr K (a.2.2 j)))
  | .inr o => ∃ r : vw_C, am_cl[o.1]? = some r ∧ t_OB q (K.2.1.1 o.1) r.2.2 (K.2.1.2 o.1) H (vp_V (o.2.map (am_tr K)))
theorem am_at.kept {K : am_K} {q : Nat} {c : am_C} {H H1 : Heap} (h : am_at K q c H) (e : H1[q]? = H[q]?) : am_at K q c H1 := by
  cases c with
  | inl a => exact e.trans h
  | inr o =>
    obtain ⟨r, h1, h2⟩ := h
    exact ⟨r, h1, h2.kept e⟩
def am_HR (K : am_K) (X : Nat → am_C) (h : am_H) (H : Heap) : Prop :=
  128 ≤ h.1 ∧ H.size + 128 = K.1.heap.size + h.1 ∧ (∀ q : Nat, q < K.1.heap.size → H[q]? = K.1.heap[q]?) ∧ (∀ r : Nat, r < 128 → h.2 r = X r) ∧ ∀ r : Nat, 128 ≤ r → r < h.1 → am_at K (am_ad K r) (h.2 r) H
theorem am_ad_hi {K : am_K} {r : Nat} (h : 128 ≤ r) : am_ad K r = K.1.heap.size + (r - 128) := if_neg (by omega)
theorem am_HR.set {K : am_K} {X : Nat → am_C} {h : am_H} {H H1 : Heap} (g : am_HR K X h H) {r : Nat} (h1 : 128 ≤ r) (h2 : r < h.1) {c : am_C} (hz : H1.size = H.size) (ho : ∀ q : Nat, q ≠ am_ad K r → H1[q]? = H[q]?) (hc : am_at K (am_ad K r) c H1) : am_HR K X (h.1, va_up h.2 r c) H1 := by
  obtain ⟨g1, g2, g3, g4, g5⟩ := g
  have e := am_ad_hi (K := K) h1
  refine ⟨g1, by rw [hz]; exact g2, fun q hq => (ho q (by omega)).trans (g3 q hq), fun x hx => ?_, fun x hx hx2 => ?_⟩
  · show va_up h.2 r c x = X x
    rw [va_up_ne _ _ (by omega)]
    exact g4 x hx
  · show am_at K (am_ad K x) (va_up h.2 r c x) H1
    by_cases hxr : x = r
    · subst hxr
      rw [va_up_self]
      exact hc
    · rw [va_up_ne _ _ hxr]
      have e2 := am_ad_hi (K := K) hx
      exact (g5 x hx hx2).kept (ho _ (by omega))
theorem am_HR.push {K : am_K} {X : Nat → am_C} {h : am_H} {H H1 : Heap} (g : am_HR K X h H) {c : am_C} (hz : H1.size = H.size + 1) (ho : ∀ q : Nat, q < H.size → H1[q]? = H[q]?) (hc : am_at K H.size c H1) : am_HR K X (h.1 + 1, va_up h.2 h.1 c) H1 ∧ am_ad K h.1 = H.size := by
  obtain ⟨g1, g2, g3, g4, g5⟩ := g
  have e := am_ad_hi (K := K) g1
  have e3 : am_ad K h.1 = H.size := by omega
  refine ⟨⟨by show 128 ≤ h.1 + 1; omega, by show H1.size + 128 = K.1.heap.size + (h.1 + 1); omega, fun q hq => (ho q (by omega)).trans (g3 q hq), fun x hx => ?_, fun x hx hx2 => ?_⟩, e3⟩
  · show va_up h.2 h.1 c x = X x
    rw [va_up_ne _ _ (by omega)]
    exact g4 x hx
  · show am_at K (am_ad K x) (va_up h.2 h.1 c x) H1
    have hx2 : x < h.1 + 1 := hx2
    by_cases hxr : x = h.1
    · subst hxr
      rw [va_up_self, e3]
      exact hc
    · rw [va_up_ne _ _ hxr]
      have e2 := am_ad_hi (K := K) hx
      exact (g5 x hx (by omega)).kept (ho _ (by omega))
/-- what a frame stands on: the machine, its code, the tables' words, the start's tables warmed, room -/
def am_Z (K : am_K) (p : Program) (R : Room) (s : State) (m : MethodId) (args : Array Value) (meth : Method) (c : Code) (M : am_M) (d : Nat) : Prop :=
  p.tables.exec = Jvm.exec ∧ c.code = M.2.1 ∧ c.maxLocals = M.2.2.1 ∧ s.vm.findClass M.1.cls = some m.cls ∧ (∀ w ∈ am_tbl, w.before args s = true) ∧ meth.sig.returnType = M.2.2.2 ∧ meth.locks = false ∧ meth.name = M.1.name ∧ K.1.WarmedH s.vm ∧ d ≤ R.frames ∧ 64 * d ≤ R.locals
def am_Q (K : am_K) (X : Nat → am_C) (post : Option Value → am_H → Prop) : Array Value → State → Outcome → State → Prop := fun _ _ o t => ∃ (v : Option Value) (h : am_H), o = .returned (v.map (am_tr K)) ∧ am_HR K X h t.heap ∧ post v h
def am_W (K : am_K) (X : Nat → am_C) (M : am_M) (d kc ks uc us pc : Nat) (lv : List (Nat × Value)) (st : List Value) (h : am_H) (post : Option Value → am_H → Prop) : Prop :=
  ∀ (p : Program) (l : Launch) (e : Env) (R : Room) (s : State) (m : MethodId) (args : Array Value) (below : List Frame) (meth : Method) (c : Code) (H : Heap) (locs : List Loc) (cells slots : Nat) (ls : Array Slot),
    am_Z K p R s m args meth c M d → am_HR K X h H → (∀ q ∈ locs, K.1.heap.size ≤ q.base) → lv_has ls M.2.2.1 (lv.map (am_tl K)) → cells + (kc - uc) ≤ R.cells → slots + (ks - us) ≤ R.slots →
    W p l e R s m args below meth c H locs cells slots (MQ below (am_Q K X post) args s R.cells R.slots (fun q => K.1.heap.size ≤ q)) (F0 m pc ls (st.map (am_tr K)))
/-- a local -/
def am_lk : List (Nat × Value) → Nat → Option Value
  | [], _ => none
  | (j, v) :: l, i => if j = i then some v else am_lk l i
theorem am_lk_mem : ∀ {lv : List (Nat × Value)} {i : Nat} {v : Value}, am_lk lv i = some v → (i, v) ∈ lv
  | [], _, _, h => by simp [am_lk] at h
  | (j, x) :: l, i, v, h => by
    by_cases hj : j = i
    · rw [am_lk, if_pos hj] at h
      cases h
      subst hj
      exact List.mem_cons_self
    · rw [am_lk, if_neg hj] at h
      exact List.mem_cons_of_mem _ (am_lk_mem h)
theorem am_loc {K : am_K} {ls : Array Slot} {n : Nat} {lv : List (Nat × Value)} {i : Nat} {v : Value} (hl : lv_has ls n (lv.map (am_tl K))) (h : am_lk lv i = some v) : ls[i]? = some (.val (am_tr K v)) :=
  hl.2.2 (i, am_tr K v) (List.mem_map.mpr ⟨(i, v), am_lk_mem h, rfl⟩)
def am_s1 (lv : List (Nat × Value)) (i : Nat) (v : Value) : List (Nat × Value) := (i, v) :: lv.filter (fun q => !(q.1 == i) && !(q.1 + 1 == i && q.2.category == 2))
def am_s2 (lv : List (Nat × Value)) (i : Nat) (v : Value) : List (Nat × Value) := (i, v) :: lv.filter (fun q => !(q.1 == i) && (!(q.1 == i + 1) && !(q.1 + 1 == i && q.2.category == 2)))
theorem am_s1_map (K : am_K) (lv : List (Nat × Value)) (i : Nat) (v : Value) : (i, am_tr K v) :: (lv.map (am_tl K)).filter (fun q => !(q.1 == i) && !(q.1 + 1 == i && q.2.category == 2)) = (am_s1 lv i v).map (am_tl K) := by
  simp only [am_s1, List.map_cons, List.filter_map, am_tl]
  congr 2
  apply List.filter_congr
  intro q _
  simp only [Function.comp, am_tl, am_cat]
theorem am_s2_map (K : am_K) (lv : List (Nat × Value)) (i : Nat) (v : Value) : (i, am_tr K v) :: (lv.map (am_tl K)).filter (fun q => !(q.1 == i) && (!(q.1 == i + 1) && !(q.1 + 1 == i && q.2.category == 2))) = (am_s2 lv i v).map (am_tl K) := by
  simp only [am_s2, List.map_cons, List.filter_map, am_tl]
  congr 2
  apply List.filter_congr
  intro q _
  simp only [Function.comp, am_tl, am_cat]
section AM
variable {K : am_K} {X : Nat → am_C} {M : am_M} {d kc ks uc us pc : Nat} {lv : List (Nat × Value)} {st : List Value} {h : am_H} {post : Option Value → am_H → Prop}
/-- fewer locals, in another order -/
theorem am_locs {lv' : List (Nat × Value)} (ee : lv'.map (fun q => am_lk lv q.1) = lv'.map (fun q => some q.2)) (k : am_W K X M d kc ks uc us pc lv' st h post) : am_W K X M d kc ks uc us pc lv st h post := by
  intro p l e R s m args below meth c H locs cells slots ls z hH hL hl h1 h2
  refine k p l e R s m args below meth c H locs cells slots ls z hH hL ⟨hl.1, hl.2.1, fun q hq => ?_⟩ h1 h2
  obtain ⟨x, hx, rfl⟩ := List.mem_map.mp hq
  obtain ⟨i, hi⟩ := List.getElem?_of_mem hx
  have e1 : (lv'.map (fun q => am_lk lv q.1))[i]? = (lv'.map (fun q => some q.2))[i]? := by rw [ee]
  rw [List.getElem?_map, List.getElem?_map, hi] at e1
  exact am_loc hl (Option.some.inj e1)
/-- room may be left -/
theorem am_less {d0 kc0 ks0 uc0 us0 : Nat} (hd : d0 ≤ d) (hc : kc0 - uc0 ≤ kc - uc) (hs : ks0 - us0 ≤ ks - us) (k : am_W K X M d0 kc0 ks0 uc0 us0 pc lv st h post) : am_W K X M d kc ks uc us pc lv st h post := by
  intro p l e R s m args below meth c H locs cells slots ls z hH hL hl h1 h2
  obtain ⟨z1, z2, z3, z4, z5, z6, z7, z8, z9, z10, z11⟩ := z
  exact k p l e R s m args below meth c H locs cells slots ls ⟨z1, z2, z3, z4, z5, z6, z7, z8, z9, by omega, by omega⟩ hH hL hl (by omega) (by omega)
theorem am_post {post0 : Option Value → am_H → Prop} (hp : ∀ v h', post0 v h' → post v h') (k : am_W K X M d kc ks uc us pc lv st h post0) : am_W K X M d kc ks uc us pc lv st h post := by
  intro p l e R s m args below meth c H locs cells slots ls z hH hL hl h1 h2 T hT X1
  obtain ⟨t, a, o, b1, b2, ⟨v, h', c1, c2, c3⟩, b4⟩ := k p l e R s m args below meth c H locs cells slots ls z hH hL hl h1 h2 T hT X1
  exact ⟨t, a, o, b1, b2, ⟨v, h', c1, c2, hp v h' c3⟩, b4⟩

theorem am_iconst {i : Int} {v : Int32} (hd : decode M.2.1 pc = .ok (.iconst i, 1)) (hv : Int32.ofInt i = v) (k : am_W K X M d kc ks uc us (pc + 1) lv (.int v :: st) h post) : am_W K X M d kc ks uc us pc lv (st) h post := by
  intro p l e R s m args below meth c H locs cells slots ls z hH hL hl h1 h2
  exact lv_iconst z.1 z.2.1 hd hv (k p l e R s m args below meth c H locs cells slots ls z hH hL hl h1 h2)
theorem am_bipush {i : Int} {v : Int32} (hd : decode M.2.1 pc = .ok (.bipush i, 2)) (hv : (Int8.ofInt i).toInt32 = v) (k : am_W K X M d kc ks uc us (pc + 2) lv (.int v :: st) h post) : am_W K X M d kc ks uc us pc lv (st) h post := by
  intro p l e R s m args below meth c H locs cells slots ls z hH hL hl h1 h2
  exact lv_bipush z.1 z.2.1 hd hv (k p l e R s m args below meth c H locs cells slots ls z hH hL hl h1 h2)
theorem am_sipush {i : Int} {v : Int32} (hd : decode M.2.1 pc = .ok (.sipush i, 3)) (hv : (Int16.ofInt i).toInt32 = v) (k : am_W K X M d kc ks uc us (pc + 3) lv (.int v :: st) h post) : am_W K X M d kc ks uc us pc lv (st) h post := by
  intro p l e R s m args below meth c H locs cells slots ls z hH hL hl h1 h2
  exact lv_sipush z.1 z.2.1 hd hv (k p l e R s m args below meth c H locs cells slots ls z hH hL hl h1 h2)
theorem am_lconst {i : Fin 2} {v : Int64} (hd : decode M.2.1 pc = .ok (.lconst i, 1)) (hv : Int64.ofNat (i : Nat) = v) (k : am_W K X M d kc ks uc us (pc + 1) lv (.long v :: st) h post) : am_W K X M d kc ks uc us pc lv (st) h post := by
  intro p l e R s m args below meth c H locs cells slots ls z hH hL hl h1 h2
  exact lv_lconst z.1 z.2.1 hd hv (k p l e R s m args below meth c H locs cells slots ls z hH hL hl h1 h2)
theorem am_null (hd : decode M.2.1 pc = .ok (.aconst_null, 1)) (k : am_W K X M d kc ks uc us (pc + 1) lv (.null :: st) h post) : am_W K X M d kc ks uc us pc lv (st) h post := by
  intro p l e R s m args below meth c H locs cells slots ls z hH hL hl h1 h2
  exact lv_null z.1 z.2.1 hd (k p l e R s m args below meth c H locs cells slots ls z hH hL hl h1 h2)
theorem am_ldc {ix : Nat} {v : Int32} (hw : Cond.constant M.1.cls ix v ∈ am_tbl) (hd : decode M.2.1 pc = .ok (.ldc ix, 2)) (k : am_W K X M d kc ks uc us (pc + 2) lv (.int v :: st) h post) : am_W K X M d kc ks uc us pc lv (st) h post := by
  intro p l e R s m args below meth c H locs cells slots ls z hH hL hl h1 h2
  exact lv_ldc z.1 z.2.1 z.2.2.2.1 (z.2.2.2.2.1 _ hw) hd (k p l e R s m args below meth c H locs cells slots ls z hH hL hl h1 h2)
theorem am_ldcw {ix : Nat} {v : Int32} (hw : Cond.constant M.1.cls ix v ∈ am_tbl) (hd : decode M.2.1 pc = .ok (.ldc_w ix, 3)) (k : am_W K X M d kc ks uc us (pc + 3) lv (.int v :: st) h post) : am_W K X M d kc ks uc us pc lv (st) h post := by
  intro p l e R s m args below meth c H locs cells slots ls z hH hL hl h1 h2
  exact lv_ldcw z.1 z.2.1 z.2.2.2.1 (z.2.2.2.2.1 _ hw) hd (k p l e R s m args below meth c H locs cells slots ls z hH hL hl h1 h2)
theorem am_ldc2 {ix : Nat} {v : Int64} (hw : Cond.constantLong M.1.cls ix v ∈ am_tbl) (hd : decode M.2.1 pc = .ok (.ldc2_w ix, 3)) (k : am_W K X M d kc ks uc us (pc + 3) lv (.long v :: st) h post) : am_W K X M d kc ks uc us pc lv (st) h post := by
  intro p l e R s m args below meth c H locs cells slots ls z hH hL hl h1 h2
  exact lv_ldc2 z.1 z.2.1 z.2.2.2.1 (z.2.2.2.2.1 _ hw) hd (k p l e R s m args below meth c H locs cells slots ls z hH hL hl h1 h2)
theorem am_iload_n {n : Fin 4} {i : Nat} {x : Int32} (hd : decode M.2.1 pc = .ok (.iload_n n, 1)) (hi : (n : Nat) = i) (hk : am_lk lv i = some (.int x)) (k : am_W K X M d kc ks uc us (pc + 1) lv (.int x :: st) h post) : am_W K X M d kc ks uc us pc lv (st) h post := by
  intro p l e R s m args below meth c H locs cells slots ls z hH hL hl h1 h2
  exact lv_iload_n z.1 z.2.1 hd hi (am_loc hl hk) (k p l e R s m args below meth c H locs cells slots ls z hH hL hl h1 h2)
theorem am_iload {i : Nat} {x : Int32} (hd : decode M.2.1 pc = .ok (.iload i, 2)) (hk : am_lk lv i = some (.int x)) (k : am_W K X M d kc ks uc us (pc + 2) lv (.int x :: st) h post) : am_W K X M d kc ks uc us pc lv (st) h post := by
  intro p l e R s m args below meth c H locs cells slots ls z hH hL hl h1 h2
  exact lv_iload z.1 z.2.1 hd (am_loc hl hk) (k p l e R s m args below meth c H locs cells slots ls z hH hL hl h1 h2)
theorem am_lload_n {n : Fin 4} {i : Nat} {x : Int64} (hd : decode M.2.1 pc = .ok (.lload_n n, 1)) (hi : (n : Nat) = i) (hk : am_lk lv i = some (.long x)) (k : am_W K X M d kc ks uc us (pc + 1) lv (.long x :: st) h post) : am_W K X M d kc ks uc us pc lv (st) h post := by
  intro p l e R s m args below meth c H locs cells slots ls z hH hL hl h1 h2
  exact lv_lload_n z.1 z.2.1 hd hi (am_loc hl hk) (k p l e R s m args below meth c H locs cells slots ls z hH hL hl h1 h2)
theorem am_lload {i : Nat} {x : Int64} (hd : decode M.2.1 pc = .ok (.lload i, 2)) (hk : am_lk lv i = some (.long x)) (k : am_W K X M d kc ks uc us (pc + 2) lv (.long x :: st) h post) : am_W K X M d kc ks uc us pc lv (st) h post := by
  intro p l e R s m args below meth c H locs cells slots ls z hH hL hl h1 h2
  exact lv_lload z.1 z.2.1 hd (am_loc hl hk) (k p l e R s m args below meth c H locs cells slots ls z hH hL hl h1 h2)
theorem am_aload_n {n : Fin 4} {i : Nat} {x : Nat} (hd : decode M.2.1 pc = .ok (.aload_n n, 1)) (hi : (n : Nat) = i) (hk : am_lk lv i = some (.ref x)) (k : am_W K X M d kc ks uc us (pc + 1) lv (.ref x :: st) h post) : am_W K X M d kc ks uc us pc lv (st) h post := by
  intro p l e R s m args below meth c H locs cells slots ls z hH hL hl h1 h2
  exact lv_aload_n z.1 z.2.1 hd hi (am_loc hl hk) (k p l e R s m args below meth c H locs cells slots ls z hH hL hl h1 h2)
theorem am_aload {i : Nat} {x : Nat} (hd : decode M.2.1 pc = .ok (.aload i, 2)) (hk : am_lk lv i = some (.ref x)) (k : am_W K X M d kc ks uc us (pc + 2) lv (.ref x :: st) h post) : am_W K X M d kc ks uc us pc lv (st) h post := by
  intro p l e R s m args below meth c H locs cells slots ls z hH hL hl h1 h2
  exact lv_aload z.1 z.2.1 hd (am_loc hl hk) (k p l e R s m args below meth c H locs cells slots ls z hH hL hl h1 h2)
theorem am_aload_nN {n : Fin 4} {i : Nat} (hd : decode M.2.1 pc = .ok (.aload_n n, 1)) (hi : (n : Nat) = i) (hk : am_lk lv i = some .null) (k : am_W K X M d kc ks uc us (pc + 1) lv (.null :: st) h post) : am_W K X M d kc ks uc us pc lv (st) h post := by
  intro p l e R s m args below meth c H locs cells slots ls z hH hL hl h1 h2
  exact lv_aload_nN z.1 z.2.1 hd hi (am_loc hl hk) (k p l e R s m args below meth c H locs cells slots ls z hH hL hl h1 h2)
theorem am_aloadN {i : Nat} (hd : decode M.2.1 pc = .ok (.aload i, 2)) (hk : am_lk lv i = some .null) (k : am_W K X M d kc ks uc us (pc + 2) lv (.null :: st) h post) : am_W K X M d kc ks uc us pc lv (st) h post := by
  intro p l e R s m args below meth c H locs cells slots ls z hH hL hl h1 h2
  exact lv_aloadN z.1 z.2.1 hd (am_loc hl hk) (k p l e R s m args below meth c H locs cells slots ls z hH hL hl h1 h2)
theorem am_istore_n {n : Fin 4} {i : Nat} {x : Int32} (hd : decode M.2.1 pc = .ok (.istore_n n, 1)) (hi : (n : Nat) = i) (hb : i < M.2.2.1) (k : am_W K X M d kc ks uc us (pc + 1) (am_s1 lv i (.int x)) st h post) : am_W K X M d kc ks uc us pc lv (.int x :: st) h post := by
  intro p l e R s m args below meth c H locs cells slots ls z hH hL hl h1 h2
  exact lv_istore_n z.1 z.2.1 hd hi hl hb (am_s1_map K lv i (.int x)) (fun ls hl => k p l e R s m args below meth c H locs cells slots ls z hH hL hl h1 h2)
theorem am_istore {i : Nat} {x : Int32} (hd : decode M.2.1 pc = .ok (.istore i, 2)) (hb : i < M.2.2.1) (k : am_W K X M d kc ks uc us (pc + 2) (am_s1 lv i (.int x)) st h post) : am_W K X M d kc ks uc us pc lv (.int x :: st) h post := by
  intro p l e R s m args below meth c H locs cells slots ls z hH hL hl h1 h2
  exact lv_istore z.1 z.2.1 hd hl hb (am_s1_map K lv i (.int x)) (fun ls hl => k p l e R s m args below meth c H locs cells slots ls z hH hL hl h1 h2)
theorem am_lstore_n {n : Fin 4} {i : Nat} {x : Int64} (hd : decode M.2.1 pc = .ok (.lstore_n n, 1)) (hi : (n : Nat) = i) (hb : i + 1 < M.2.2.1) (k : am_W K X M d kc ks uc us (pc + 1) (am_s2 lv i (.long x)) st h post) : am_W K X M d kc ks uc us pc lv (.long x :: st) h post := by
  intro p l e R s m args below meth c H locs cells slots ls z hH hL hl h1 h2
  exact lv_lstore_n z.1 z.2.1 hd hi hl hb (am_s2_map K lv i (.long x)) (fun ls hl => k p l e R s m args below meth c H locs cells slots ls z hH hL hl h1 h2)
theorem am_lstore {i : Nat} {x : Int64} (hd : decode M.2.1 pc = .ok (.lstore i, 2)) (hb : i + 1 < M.2.2.1) (k : am_W K X M d kc ks uc us (pc + 2) (am_s2 lv i (.long x)) st h post) : am_W K X M d kc ks uc us pc lv (.long x :: st) h post := by
  intro p l e R s m args below meth c H locs cells slots ls z hH hL hl h1 h2
  exact lv_lstore z.1 z.2.1 hd hl hb (am_s2_map K lv i (.long x)) (fun ls hl => k p l e R s m args below meth c H locs cells slots ls z hH hL hl h1 h2)
theorem am_astore_n {n : Fin 4} {i : Nat} {x : Nat} (hd : decode M.2.1 pc = .ok (.astore_n n, 1)) (hi : (n : Nat) = i) (hb : i < M.2.2.1) (k : am_W K X M d kc ks uc us (pc + 1) (am_s1 lv i (.ref x)) st h post) : am_W K X M d kc ks uc us pc lv (.ref x :: st) h post := by
  intro p l e R s m args below meth c H locs cells slots ls z hH hL hl h1 h2
  exact lv_astore_n z.1 z.2.1 hd hi hl hb (am_s1_map K lv i (.ref x)) (fun ls hl => k p l e R s m args below meth c H locs cells slots ls z hH hL hl h1 h2)
theorem am_astore {i : Nat} {x : Nat} (hd : decode M.2.1 pc = .ok (.astore i, 2)) (hb : i < M.2.2.1) (k : am_W K X M d kc ks uc us (pc + 2) (am_s1 lv i (.ref x)) st h post) : am_W K X M d kc ks uc us pc lv (.ref x :: st) h post := by
  intro p l e R s m args below meth c H locs cells slots ls z hH hL hl h1 h2
  exact lv_astore z.1 z.2.1 hd hl hb (am_s1_map K lv i (.ref x)) (fun ls hl => k p l e R s m args below meth c H locs cells slots ls z hH hL hl h1 h2)
theorem am_astore_nN {n : Fin 4} {i : Nat} (hd : decode M.2.1 pc = .ok (.astore_n n, 1)) (hi : (n : Nat) = i) (hb : i < M.2.2.1) (k : am_W K X M d kc ks uc us (pc + 1) (am_s1 lv i (.null)) st h post) : am_W K X M d kc ks uc us pc lv (.null :: st) h post := by
  intro p l e R s m args below meth c H locs cells slots ls z hH hL hl h1 h2
  exact lv_astore_nN z.1 z.2.1 hd hi hl hb (am_s1_map K lv i .null) (fun ls hl => k p l e R s m args below meth c H locs cells slots ls z hH hL hl h1 h2)
theorem am_astoreN {i : Nat} (hd : decode M.2.1 pc = .ok (.astore i, 2)) (hb : i < M.2.2.1) (k : am_W K X M d kc ks uc us (pc + 2) (am_s1 lv i (.null)) st h post) : am_W K X M d kc ks uc us pc lv (.null :: st) h post := by
  intro p l e R s m args below meth c H locs cells slots ls z hH hL hl h1 h2
  exact lv_astoreN z.1 z.2.1 hd hl hb (am_s1_map K lv i .null) (fun ls hl => k p l e R s m args below meth c H locs cells slots ls z hH hL hl h1 h2)
theorem am_iinc {i : Nat} {n : Int} {x v : Int32} (hd : decode M.2.1 pc = .ok (.iinc i n, 3)) (hk : am_lk lv i = some (.int x)) (hv : Int32.ofInt n = v) (hb : i < M.2.2.1) (k : am_W K X M d kc ks uc us (pc + 3) (am_s1 lv i (.int (x + v))) st h post) : am_W K X M d kc ks uc us pc lv st h post := by
  intro p l e R s m args below meth c H locs cells slots ls z hH hL hl h1 h2
  obtain ⟨j, hj⟩ := List.getElem?_of_mem (List.mem_map.mpr ⟨(i, .int x), am_lk_mem hk, rfl⟩ : am_tl K (i, .int x) ∈ lv.map (am_tl K))
  exact lv_iinc z.1 z.2.1 hd hl hj (congrArg (x + ·) hv) hb (am_s1_map K lv i (.int (x + v))) (fun ls hl => k p l e R s m args below meth c H locs cells slots ls z hH hL hl h1 h2)
theorem am_iadd {x y : Int32} (hd : decode M.2.1 pc = .ok (.iadd, 1)) (k : am_W K X M d kc ks uc us (pc + 1) lv (.int (x + y) :: st) h post) : am_W K X M d kc ks uc us pc lv (.int y :: .int x :: st) h post := by
  intro p l e R s m args below meth c H locs cells slots ls z hH hL hl h1 h2
  exact lv_iadd z.1 z.2.1 hd (k p l e R s m args below meth c H locs cells slots ls z hH hL hl h1 h2)
theorem am_isub {x y : Int32} (hd : decode M.2.1 pc = .ok (.isub, 1)) (k : am_W K X M d kc ks uc us (pc + 1) lv (.int (x - y) :: st) h post) : am_W K X M d kc ks uc us pc lv (.int y :: .int x :: st) h post := by
  intro p l e R s m args below meth c H locs cells slots ls z hH hL hl h1 h2
  exact lv_isub z.1 z.2.1 hd (k p l e R s m args below meth c H locs cells slots ls z hH hL hl h1 h2)
theorem am_imul {x y : Int32} (hd : decode M.2.1 pc = .ok (.imul, 1)) (k : am_W K X M d kc ks uc us (pc + 1) lv (.int (x * y) :: st) h post) : am_W K X M d kc ks uc us pc lv (.int y :: .int x :: st) h post := by
  intro p l e R s m args below meth c H locs cells slots ls z hH hL hl h1 h2
  exact lv_imul z.1 z.2.1 hd (k p l e R s m args below meth c H locs cells slots ls z hH hL hl h1 h2)
theorem am_iand {x y : Int32} (hd : decode M.2.1 pc = .ok (.iand, 1)) (k : am_W K X M d kc ks uc us (pc + 1) lv (.int (x &&& y) :: st) h post) : am_W K X M d kc ks uc us pc lv (.int y :: .int x :: st) h post := by
  intro p l e R s m args below meth c H locs cells slots ls z hH hL hl h1 h2
  exact lv_iand z.1 z.2.1 hd (k p l e R s m args below meth c H locs cells slots ls z hH hL hl h1 h2)
theorem am_ior {x y : Int32} (hd : decode M.2.1 pc = .ok (.ior, 1)) (k : am_W K X M d kc ks uc us (pc + 1) lv (.int (x ||| y) :: st) h post) : am_W K X M d kc ks uc us pc lv (.int y :: .int x :: st) h post := by
  intro p l e R s m args below meth c H locs cells slots ls z hH hL hl h1 h2
  exact lv_ior z.1 z.2.1 hd (k p l e R s m args below meth c H locs cells slots ls z hH hL hl h1 h2)
theorem am_ixor {x y : Int32} (hd : decode M.2.1 pc = .ok (.ixor, 1)) (k : am_W K X M d kc ks uc us (pc + 1) lv (.int (x ^^^ y) :: st) h post) : am_W K X M d kc ks uc us pc lv (.int y :: .int x :: st) h post := by
  intro p l e R s m args below meth c H locs cells slots ls z hH hL hl h1 h2
  exact lv_ixor z.1 z.2.1 hd (k p l e R s m args below meth c H locs cells slots ls z hH hL hl h1 h2)
theorem am_ladd {x y : Int64} (hd : decode M.2.1 pc = .ok (.ladd, 1)) (k : am_W K X M d kc ks uc us (pc + 1) lv (.long (x + y) :: st) h post) : am_W K X M d kc ks uc us pc lv (.long y :: .long x :: st) h post := by
  intro p l e R s m args below meth c H locs cells slots ls z hH hL hl h1 h2
  exact lv_ladd z.1 z.2.1 hd (k p l e R s m args below meth c H locs cells slots ls z hH hL hl h1 h2)
theorem am_lsub {x y : Int64} (hd : decode M.2.1 pc = .ok (.lsub, 1)) (k : am_W K X M d kc ks uc us (pc + 1) lv (.long (x - y) :: st) h post) : am_W K X M d kc ks uc us pc lv (.long y :: .long x :: st) h post := by
  intro p l e R s m args below meth c H locs cells slots ls z hH hL hl h1 h2
  exact lv_lsub z.1 z.2.1 hd (k p l e R s m args below meth c H locs cells slots ls z hH hL hl h1 h2)
theorem am_lmul {x y : Int64} (hd : decode M.2.1 pc = .ok (.lmul, 1)) (k : am_W K X M d kc ks uc us (pc + 1) lv (.long (x * y) :: st) h post) : am_W K X M d kc ks uc us pc lv (.long y :: .long x :: st) h post := by
  intro p l e R s m args below meth c H locs cells slots ls z hH hL hl h1 h2
  exact lv_lmul z.1 z.2.1 hd (k p l e R s m args below meth c H locs cells slots ls z hH hL hl h1 h2)
theorem am_land {x y : Int64} (hd : decode M.2.1 pc = .ok (.land, 1)) (k : am_W K X M d kc ks uc us (pc + 1) lv (.long (x &&& y) :: st) h post) : am_W K X M d kc ks uc us pc lv (.long y :: .long x :: st) h post := by
  intro p l e R s m args below meth c H locs cells slots ls z hH hL hl h1 h2
  exact lv_land z.1 z.2.1 hd (k p l e R s m args below meth c H locs cells slots ls z hH hL hl h1 h2)
theorem am_lor {x y : Int64} (hd : decode M.2.1 pc = .ok (.lor, 1)) (k : am_W K X M d kc ks uc us (pc + 1) lv (.long (x ||| y) :: st) h post) : am_W K X M d kc ks uc us pc lv (.long y :: .long x :: st) h post := by
  intro p l e R s m args below meth c H locs cells slots ls z hH hL hl h1 h2
  exact lv_lor z.1 z.2.1 hd (k p l e R s m args below meth c H locs cells slots ls z hH hL hl h1 h2)
theorem am_lxor {x y : Int64} (hd : decode M.2.1 pc = .ok (.lxor, 1)) (k : am_W K X M d kc ks uc us (pc + 1) lv (.long (x ^^^ y) :: st) h post) : am_W K X M d kc ks uc us pc lv (.long y :: .long x :: st) h post := by
  intro p l e R s m args below meth c H locs cells slots ls z hH hL hl h1 h2
  exact lv_lxor z.1 z.2.1 hd (k p l e R s m args below meth c H locs cells slots ls z hH hL hl h1 h2)
theorem am_idiv {x y : Int32} (hd : decode M.2.1 pc = .ok (.idiv, 1)) (hne : ¬ y = 0) (k : am_W K X M d kc ks uc us (pc + 1) lv (.int (x / y) :: st) h post) : am_W K X M d kc ks uc us pc lv (.int y :: .int x :: st) h post := by
  intro p l e R s m args below meth c H locs cells slots ls z hH hL hl h1 h2
  exact lv_idiv z.1 z.2.1 hd hne (k p l e R s m args below meth c H locs cells slots ls z hH hL hl h1 h2)
theorem am_irem {x y : Int32} (hd : decode M.2.1 pc = .ok (.irem, 1)) (hne : ¬ y = 0) (k : am_W K X M d kc ks uc us (pc + 1) lv (.int (x - x / y * y) :: st) h post) : am_W K X M d kc ks uc us pc lv (.int y :: .int x :: st) h post := by
  intro p l e R s m args below meth c H locs cells slots ls z hH hL hl h1 h2
  exact lv_irem z.1 z.2.1 hd hne (k p l e R s m args below meth c H locs cells slots ls z hH hL hl h1 h2)
theorem am_ldiv {x y : Int64} (hd : decode M.2.1 pc = .ok (.ldiv, 1)) (hne : ¬ y = 0) (k : am_W K X M d kc ks uc us (pc + 1) lv (.long (x / y) :: st) h post) : am_W K X M d kc ks uc us pc lv (.long y :: .long x :: st) h post := by
  intro p l e R s m args below meth c H locs cells slots ls z hH hL hl h1 h2
  exact lv_ldiv z.1 z.2.1 hd hne (k p l e R s m args below meth c H locs cells slots ls z hH hL hl h1 h2)
theorem am_lrem {x y : Int64} (hd : decode M.2.1 pc = .ok (.lrem, 1)) (hne : ¬ y = 0) (k : am_W K X M d kc ks uc us (pc + 1) lv (.long (x - x / y * y) :: st) h post) : am_W K X M d kc ks uc us pc lv (.long y :: .long x :: st) h post := by
  intro p l e R s m args below meth c H locs cells slots ls z hH hL hl h1 h2
  exact lv_lrem z.1 z.2.1 hd hne (k p l e R s m args below meth c H locs cells slots ls z hH hL hl h1 h2)
theorem am_ineg {x : Int32} (hd : decode M.2.1 pc = .ok (.ineg, 1)) (k : am_W K X M d kc ks uc us (pc + 1) lv (.int (-x) :: st) h post) : am_W K X M d kc ks uc us pc lv (.int x :: st) h post := by
  intro p l e R s m args below meth c H locs cells slots ls z hH hL hl h1 h2
  exact lv_ineg z.1 z.2.1 hd (k p l e R s m args below meth c H locs cells slots ls z hH hL hl h1 h2)
theorem am_lneg {x : Int64} (hd : decode M.2.1 pc = .ok (.lneg, 1)) (k : am_W K X M d kc ks uc us (pc + 1) lv (.long (-x) :: st) h post) : am_W K X M d kc ks uc us pc lv (.long x :: st) h post := by
  intro p l e R s m args below meth c H locs cells slots ls z hH hL hl h1 h2
  exact lv_lneg z.1 z.2.1 hd (k p l e R s m args below meth c H locs cells slots ls z hH hL hl h1 h2)
theorem am_ishl {x y : Int32} (hd : decode M.2.1 pc = .ok (.ishl, 1)) (k : am_W K X M d kc ks uc us (pc + 1) lv (.int (x <<< (y &&& 31)) :: st) h post) : am_W K X M d kc ks uc us pc lv (.int y :: .int x :: st) h post := by
  intro p l e R s m args below meth c H locs cells slots ls z hH hL hl h1 h2
  exact lv_ishl z.1 z.2.1 hd (k p l e R s m args below meth c H locs cells slots ls z hH hL hl h1 h2)
theorem am_ishr {x y : Int32} (hd : decode M.2.1 pc = .ok (.ishr, 1)) (k : am_W K X M d kc ks uc us (pc + 1) lv (.int (x >>> (y &&& 31)) :: st) h post) : am_W K X M d kc ks uc us pc lv (.int y :: .int x :: st) h post := by
  intro p l e R s m args below meth c H locs cells slots ls z hH hL hl h1 h2
  exact lv_ishr z.1 z.2.1 hd (k p l e R s m args below meth c H locs cells slots ls z hH hL hl h1 h2)
theorem am_iushr {x y v : Int32} (hd : decode M.2.1 pc = .ok (.iushr, 1)) (hv : (x.toUInt32 >>> (y.toUInt32 &&& Int32.toUInt32 31)).toInt32 = v) (k : am_W K X M d kc ks uc us (pc + 1) lv (.int v :: st) h post) : am_W K X M d kc ks uc us pc lv (.int y :: .int x :: st) h post := by
  intro p l e R s m args below meth c H locs cells slots ls z hH hL hl h1 h2
  exact lv_iushr z.1 z.2.1 hd hv (k p l e R s m args below meth c H locs cells slots ls z hH hL hl h1 h2)
theorem am_lshl {x v : Int64} {y : Int32} (hd : decode M.2.1 pc = .ok (.lshl, 1)) (hv : x <<< (y.toInt64 &&& 63) = v) (k : am_W K X M d kc ks uc us (pc + 1) lv (.long v :: st) h post) : am_W K X M d kc ks uc us pc lv (.int y :: .long x :: st) h post := by
  intro p l e R s m args below meth c H locs cells slots ls z hH hL hl h1 h2
  exact lv_lshl z.1 z.2.1 hd hv (k p l e R s m args below meth c H locs cells slots ls z hH hL hl h1 h2)
theorem am_lshr {x v : Int64} {y : Int32} (hd : decode M.2.1 pc = .ok (.lshr, 1)) (hv : x >>> (y.toInt64 &&& 63) = v) (k : am_W K X M d kc ks uc us (pc + 1) lv (.long v :: st) h post) : am_W K X M d kc ks uc us pc lv (.int y :: .long x :: st) h post := by
  intro p l e R s m args below meth c H locs cells slots ls z hH hL hl h1 h2
  exact lv_lshr z.1 z.2.1 hd hv (k p l e R s m args below meth c H locs cells slots ls z hH hL hl h1 h2)
theorem am_lushr {x v : Int64} {y : Int32} (hd : decode M.2.1 pc = .ok (.lushr, 1)) (hv : (x.toUInt64 >>> (y.toInt64.toUInt64 &&& Int64.toUInt64 63)).toInt64 = v) (k : am_W K X M d kc ks uc us (pc + 1) lv (.long v :: st) h post) : am_W K X M d kc ks uc us pc lv (.int y :: .long x :: st) h post := by
  intro p l e R s m args below meth c H locs cells slots ls z hH hL hl h1 h2
  exact lv_lushr z.1 z.2.1 hd hv (k p l e R s m args below meth c H locs cells slots ls z hH hL hl h1 h2)
theorem am_i2l {x : Int32} {v : Int64} (hd : decode M.2.1 pc = .ok (.i2l, 1)) (hv : x.toInt64 = v) (k : am_W K X M d kc ks uc us (pc + 1) lv (.long v :: st) h post) : am_W K X M d kc ks uc us pc lv (.int x :: st) h post := by
  intro p l e R s m args below meth c H locs cells slots ls z hH hL hl h1 h2
  exact lv_i2l z.1 z.2.1 hd hv (k p l e R s m args below meth c H locs cells slots ls z hH hL hl h1 h2)
theorem am_l2i {x : Int64} {v : Int32} (hd : decode M.2.1 pc = .ok (.l2i, 1)) (hv : x.toInt32 = v) (k : am_W K X M d kc ks uc us (pc + 1) lv (.int v :: st) h post) : am_W K X M d kc ks uc us pc lv (.long x :: st) h post := by
  intro p l e R s m args below meth c H locs cells slots ls z hH hL hl h1 h2
  exact lv_l2i z.1 z.2.1 hd hv (k p l e R s m args below meth c H locs cells slots ls z hH hL hl h1 h2)
theorem am_i2b {x v : Int32} (hd : decode M.2.1 pc = .ok (.i2b, 1)) (hv : x.toInt8.toInt32 = v) (k : am_W K X M d kc ks uc us (pc + 1) lv (.int v :: st) h post) : am_W K X M d kc ks uc us pc lv (.int x :: st) h post := by
  intro p l e R s m args below meth c H locs cells slots ls z hH hL hl h1 h2
  exact lv_i2b z.1 z.2.1 hd hv (k p l e R s m args below meth c H locs cells slots ls z hH hL hl h1 h2)
theorem am_i2c {x v : Int32} (hd : decode M.2.1 pc = .ok (.i2c, 1)) (hv : (x.toUInt32 % 65536).toInt32 = v) (k : am_W K X M d kc ks uc us (pc + 1) lv (.int v :: st) h post) : am_W K X M d kc ks uc us pc lv (.int x :: st) h post := by
  intro p l e R s m args below meth c H locs cells slots ls z hH hL hl h1 h2
  exact lv_i2c z.1 z.2.1 hd hv (k p l e R s m args below meth c H locs cells slots ls z hH hL hl h1 h2)
theorem am_lcmp {x y : Int64} (hd : decode M.2.1 pc = .ok (.lcmp, 1)) (k : am_W K X M d kc ks uc us (pc + 1) lv (.int (lg_cmp x y) :: st) h post) : am_W K X M d kc ks uc us pc lv (.long y :: .long x :: st) h post := by
  intro p l e R s m args below meth c H locs cells slots ls z hH hL hl h1 h2
  exact W.lcmp z.1 z.2.1 hd (k p l e R s m args below meth c H locs cells slots ls z hH hL hl h1 h2)
theorem am_dup {va : Value} (hd : decode M.2.1 pc = .ok (.dup, 1)) (ha : va.category = 1) (k : am_W K X M d kc ks uc us (pc + 1) lv (va :: va :: st) h post) : am_W K X M d kc ks uc us pc lv (va :: st) h post := by
  intro p l e R s m args below meth c H locs cells slots ls z hH hL hl h1 h2
  exact lv_dup z.1 z.2.1 hd ((am_cat K va).trans ha) (k p l e R s m args below meth c H locs cells slots ls z hH hL hl h1 h2)
theorem am_pop {va : Value} (hd : decode M.2.1 pc = .ok (.pop, 1)) (ha : va.category = 1) (k : am_W K X M d kc ks uc us (pc + 1) lv (st) h post) : am_W K X M d kc ks uc us pc lv (va :: st) h post := by
  intro p l e R s m args below meth c H locs cells slots ls z hH hL hl h1 h2
  exact lv_pop z.1 z.2.1 hd ((am_cat K va).trans ha) (k p l e R s m args below meth c H locs cells slots ls z hH hL hl h1 h2)
theorem am_pop2 {va : Value} (hd : decode M.2.1 pc = .ok (.pop2, 1)) (ha : va.category = 2) (k : am_W K X M d kc ks uc us (pc + 1) lv (st) h post) : am_W K X M d kc ks uc us pc lv (va :: st) h post := by
  intro p l e R s m args below meth c H locs cells slots ls z hH hL hl h1 h2
  exact lv_pop2_2 z.1 z.2.1 hd ((am_cat K va).trans ha) (k p l e R s m args below meth c H locs cells slots ls z hH hL hl h1 h2)
theorem am_dup_x1 {va vb : Value} (hd : decode M.2.1 pc = .ok (.dup_x1, 1)) (ha : va.category = 1) (hb : vb.category = 1) (k : am_W K X M d kc ks uc us (pc + 1) lv (va :: vb :: va :: st) h post) : am_W K X M d kc ks uc us pc lv (va :: vb :: st) h post := by
  intro p l e R s m args below meth c H locs cells slots ls z hH hL hl h1 h2
  exact lv_dup_x1 z.1 z.2.1 hd ((am_cat K va).trans ha) ((am_cat K vb).trans hb) (k p l e R s m args below meth c H locs cells slots ls z hH hL hl h1 h2)
theorem am_dup_x2 {va vb vd : Value} (hd : decode M.2.1 pc = .ok (.dup_x2, 1)) (ha : va.category = 1) (hb : vb.category = 1) (hc : vd.category = 1) (k : am_W K X M d kc ks uc us (pc + 1) lv (va :: vb :: vd :: va :: st) h post) : am_W K X M d kc ks uc us pc lv (va :: vb :: vd :: st) h post := by
  intro p l e R s m args below meth c H locs cells slots ls z hH hL hl h1 h2
  exact lv_dup_x2 z.1 z.2.1 hd ((am_cat K va).trans ha) ((am_cat K vb).trans hb) ((am_cat K vd).trans hc) (k p l e R s m args below meth c H locs cells slots ls z hH hL hl h1 h2)
theorem am_dup2 {va vb : Value} (hd : decode M.2.1 pc = .ok (.dup2, 1)) (ha : va.category = 1) (hb : vb.category = 1) (k : am_W K X M d kc ks uc us (pc + 1) lv (va :: vb :: va :: vb :: st) h post) : am_W K X M d kc ks uc us pc lv (va :: vb :: st) h post := by
  intro p l e R s m args below meth c H locs cells slots ls z hH hL hl h1 h2
  exact lv_dup2_11 z.1 z.2.1 hd ((am_cat K va).trans ha) ((am_cat K vb).trans hb) (k p l e R s m args below meth c H locs cells slots ls z hH hL hl h1 h2)
theorem am_dup2L {va : Value} (hd : decode M.2.1 pc = .ok (.dup2, 1)) (ha : va.category = 2) (k : am_W K X M d kc ks uc us (pc + 1) lv (va :: va :: st) h post) : am_W K X M d kc ks uc us pc lv (va :: st) h post := by
  intro p l e R s m args below meth c H locs cells slots ls z hH hL hl h1 h2
  exact lv_dup2_2 z.1 z.2.1 hd ((am_cat K va).trans ha) (k p l e R s m args below meth c H locs cells slots ls z hH hL hl h1 h2)
theorem am_dup2_x1 {va vb : Value} (hd : decode M.2.1 pc = .ok (.dup2_x1, 1)) (ha : va.category = 2) (hb : vb.category = 1) (k : am_W K X M d kc ks uc us (pc + 1) lv (va :: vb :: va :: st) h post) : am_W K X M d kc ks uc us pc lv (va :: vb :: st) h post := by
  intro p l e R s m args below meth c H locs cells slots ls z hH hL hl h1 h2
  exact lv_dup2_x1_2 z.1 z.2.1 hd ((am_cat K va).trans ha) ((am_cat K vb).trans hb) (k p l e R s m args below meth c H locs cells slots ls z hH hL hl h1 h2)
theorem am_dup2_x2 {va vb vd : Value} (hd : decode M.2.1 pc = .ok (.dup2_x2, 1)) (ha : va.category = 2) (hb : vb.category = 1) (hc : vd.category = 1) (k : am_W K X M d kc ks uc us (pc + 1) lv (va :: vb :: vd :: va :: st) h post) : am_W K X M d kc ks uc us pc lv (va :: vb :: vd :: st) h post := by
  intro p l e R s m args below meth c H locs cells slots ls z hH hL hl h1 h2
  exact lv_dup2_x2_2 z.1 z.2.1 hd ((am_cat K va).trans ha) ((am_cat K vb).trans hb) ((am_cat K vd).trans hc) (k p l e R s m args below meth c H locs cells slots ls z hH hL hl h1 h2)
theorem am_if_eq {x : Int32} {off : Int} {tgt : Nat} (hd : decode M.2.1 pc = .ok (.ifCond .eq off, 3)) (ht : (pc : Int) + off = (tgt : Int)) (kt : x = 0 → am_W K X M d kc ks uc us tgt lv st h post) (kf : ¬ x = 0 → am_W K X M d kc ks uc us (pc + 3) lv st h post) : am_W K X M d kc ks uc us pc lv (.int x :: st) h post := by
  intro p l e R s m args below meth c H locs cells slots ls z hH hL hl h1 h2
  exact lv_if_eq z.1 z.2.1 hd ht (fun q => kt q p l e R s m args below meth c H locs cells slots ls z hH hL hl h1 h2) (fun q => kf q p l e R s m args below meth c H locs cells slots ls z hH hL hl h1 h2)
theorem am_if_ne {x : Int32} {off : Int} {tgt : Nat} (hd : decode M.2.1 pc = .ok (.ifCond .ne off, 3)) (ht : (pc : Int) + off = (tgt : Int)) (kt : ¬ x = 0 → am_W K X M d kc ks uc us tgt lv st h post) (kf : x = 0 → am_W K X M d kc ks uc us (pc + 3) lv st h post) : am_W K X M d kc ks uc us pc lv (.int x :: st) h post := by
  intro p l e R s m args below meth c H locs cells slots ls z hH hL hl h1 h2
  exact lv_if_ne z.1 z.2.1 hd ht (fun q => kt q p l e R s m args below meth c H locs cells slots ls z hH hL hl h1 h2) (fun q => kf q p l e R s m args below meth c H locs cells slots ls z hH hL hl h1 h2)
theorem am_if_lt {x : Int32} {off : Int} {tgt : Nat} (hd : decode M.2.1 pc = .ok (.ifCond .lt off, 3)) (ht : (pc : Int) + off = (tgt : Int)) (kt : x < 0 → am_W K X M d kc ks uc us tgt lv st h post) (kf : ¬ x < 0 → am_W K X M d kc ks uc us (pc + 3) lv st h post) : am_W K X M d kc ks uc us pc lv (.int x :: st) h post := by
  intro p l e R s m args below meth c H locs cells slots ls z hH hL hl h1 h2
  exact lv_if_lt z.1 z.2.1 hd ht (fun q => kt q p l e R s m args below meth c H locs cells slots ls z hH hL hl h1 h2) (fun q => kf q p l e R s m args below meth c H locs cells slots ls z hH hL hl h1 h2)
theorem am_if_ge {x : Int32} {off : Int} {tgt : Nat} (hd : decode M.2.1 pc = .ok (.ifCond .ge off, 3)) (ht : (pc : Int) + off = (tgt : Int)) (kt : 0 ≤ x → am_W K X M d kc ks uc us tgt lv st h post) (kf : ¬ 0 ≤ x → am_W K X M d kc ks uc us (pc + 3) lv st h post) : am_W K X M d kc ks uc us pc lv (.int x :: st) h post := by
  intro p l e R s m args below meth c H locs cells slots ls z hH hL hl h1 h2
  exact lv_if_ge z.1 z.2.1 hd ht (fun q => kt q p l e R s m args below meth c H locs cells slots ls z hH hL hl h1 h2) (fun q => kf q p l e R s m args below meth c H locs cells slots ls z hH hL hl h1 h2)
theorem am_if_gt {x : Int32} {off : Int} {tgt : Nat} (hd : decode M.2.1 pc = .ok (.ifCond .gt off, 3)) (ht : (pc : Int) + off = (tgt : Int)) (kt : 0 < x → am_W K X M d kc ks uc us tgt lv st h post) (kf : ¬ 0 < x → am_W K X M d kc ks uc us (pc + 3) lv st h post) : am_W K X M d kc ks uc us pc lv (.int x :: st) h post := by
  intro p l e R s m args below meth c H locs cells slots ls z hH hL hl h1 h2
  exact lv_if_gt z.1 z.2.1 hd ht (fun q => kt q p l e R s m args below meth c H locs cells slots ls z hH hL hl h1 h2) (fun q => kf q p l e R s m args below meth c H locs cells slots ls z hH hL hl h1 h2)
theorem am_if_le {x : Int32} {off : Int} {tgt : Nat} (hd : decode M.2.1 pc = .ok (.ifCond .le off, 3)) (ht : (pc : Int) + off = (tgt : Int)) (kt : x ≤ 0 → am_W K X M d kc ks uc us tgt lv st h post) (kf : ¬ x ≤ 0 → am_W K X M d kc ks uc us (pc + 3) lv st h post) : am_W K X M d kc ks uc us pc lv (.int x :: st) h post := by
  intro p l e R s m args below meth c H locs cells slots ls z hH hL hl h1 h2
  exact lv_if_le z.1 z.2.1 hd ht (fun q => kt q p l e R s m args below meth c H locs cells slots ls z hH hL hl h1 h2) (fun q => kf q p l e R s m args below meth c H locs cells slots ls z hH hL hl h1 h2)
theorem am_icmp_eq {x y : Int32} {off : Int} {tgt : Nat} (hd : decode M.2.1 pc = .ok (.if_icmp .eq off, 3)) (ht : (pc : Int) + off = (tgt : Int)) (kt : x = y → am_W K X M d kc ks uc us tgt lv st h post) (kf : ¬ x = y → am_W K X M d kc ks uc us (pc + 3) lv st h post) : am_W K X M d kc ks uc us pc lv (.int y :: .int x :: st) h post := by
  intro p l e R s m args below meth c H locs cells slots ls z hH hL hl h1 h2
  exact lv_icmp_eq z.1 z.2.1 hd ht (fun q => kt q p l e R s m args below meth c H locs cells slots ls z hH hL hl h1 h2) (fun q => kf q p l e R s m args below meth c H locs cells slots ls z hH hL hl h1 h2)
theorem am_icmp_ne {x y : Int32} {off : Int} {tgt : Nat} (hd : decode M.2.1 pc = .ok (.if_icmp .ne off, 3)) (ht : (pc : Int) + off = (tgt : Int)) (kt : ¬ x = y → am_W K X M d kc ks uc us tgt lv st h post) (kf : x = y → am_W K X M d kc ks uc us (pc + 3) lv st h post) : am_W K X M d kc ks uc us pc lv (.int y :: .int x :: st) h post := by
  intro p l e R s m args below meth c H locs cells slots ls z hH hL hl h1 h2
  exact lv_icmp_ne z.1 z.2.1 hd ht (fun q => kt q p l e R s m args below meth c H locs cells slots ls z hH hL hl h1 h2) (fun q => kf q p l e R s m args below meth c H locs cells slots ls z hH hL hl h1 h2)
theorem am_icmp_lt {x y : Int32} {off : Int} {tgt : Nat} (hd : decode M.2.1 pc = .ok (.if_icmp .lt off, 3)) (ht : (pc : Int) + off = (tgt : Int)) (kt : x < y → am_W K X M d kc ks uc us tgt lv st h post) (kf : ¬ x < y → am_W K X M d kc ks uc us (pc + 3) lv st h post) : am_W K X M d kc ks uc us pc lv (.int y :: .int x :: st) h post := by
  intro p l e R s m args below meth c H locs cells slots ls z hH hL hl h1 h2
  exact lv_icmp_lt z.1 z.2.1 hd ht (fun q => kt q p l e R s m args below meth c H locs cells slots ls z hH hL hl h1 h2) (fun q => kf q p l e R s m args below meth c H locs cells slots ls z hH hL hl h1 h2)
theorem am_icmp_ge {x y : Int32} {off : Int} {tgt : Nat} (hd : decode M.2.1 pc = .ok (.if_icmp .ge off, 3)) (ht : (pc : Int) + off = (tgt : Int)) (kt : y ≤ x → am_W K X M d kc ks uc us tgt lv st h post) (kf : ¬ y ≤ x → am_W K X M d kc ks uc us (pc + 3) lv st h post) : am_W K X M d kc ks uc us pc lv (.int y :: .int x :: st) h post := by
  intro p l e R s m args below meth c H locs cells slots ls z hH hL hl h1 h2
  exact lv_icmp_ge z.1 z.2.1 hd ht (fun q => kt q p l e R s m args below meth c H locs cells slots ls z hH hL hl h1 h2) (fun q => kf q p l e R s m args below meth c H locs cells slots ls z hH hL hl h1 h2)
theorem am_icmp_gt {x y : Int32} {off : Int} {tgt : Nat} (hd : decode M.2.1 pc = .ok (.if_icmp .gt off, 3)) (ht : (pc : Int) + off = (tgt : Int)) (kt : y < x → am_W K X M d kc ks uc us tgt lv st h post) (kf : ¬ y < x → am_W K X M d kc ks uc us (pc + 3) lv st h post) : am_W K X M d kc ks uc us pc lv (.int y :: .int x :: st) h post := by
  intro p l e R s m args below meth c H locs cells slots ls z hH hL hl h1 h2
  exact lv_icmp_gt z.1 z.2.1 hd ht (fun q => kt q p l e R s m args below meth c H locs cells slots ls z hH hL hl h1 h2) (fun q => kf q p l e R s m args below meth c H locs cells slots ls z hH hL hl h1 h2)
theorem am_icmp_le {x y : Int32} {off : Int} {tgt : Nat} (hd : decode M.2.1 pc = .ok (.if_icmp .le off, 3)) (ht : (pc : Int) + off = (tgt : Int)) (kt : x ≤ y → am_W K X M d kc ks uc us tgt lv st h post) (kf : ¬ x ≤ y → am_W K X M d kc ks uc us (pc + 3) lv st h post) : am_W K X M d kc ks uc us pc lv (.int y :: .int x :: st) h post := by
  intro p l e R s m args below meth c H locs cells slots ls z hH hL hl h1 h2
  exact lv_icmp_le z.1 z.2.1 hd ht (fun q => kt q p l e R s m args below meth c H locs cells slots ls z hH hL hl h1 h2) (fun q => kf q p l e R s m args below meth c H locs cells slots ls z hH hL hl h1 h2)
theorem am_goto {off : Int} {tgt : Nat} (hd : decode M.2.1 pc = .ok (.goto off, 3)) (ht : (pc : Int) + off = (tgt : Int)) (k : am_W K X M d kc ks uc us tgt lv st h post) : am_W K X M d kc ks uc us pc lv st h post := by
  intro p l e R s m args below meth c H locs cells slots ls z hH hL hl h1 h2
  exact lv_goto z.1 z.2.1 hd ht (k p l e R s m args below meth c H locs cells slots ls z hH hL hl h1 h2)
theorem am_ifnullR {x : Nat} {off : Int} (hd : decode M.2.1 pc = .ok (.ifnull off, 3)) (k : am_W K X M d kc ks uc us (pc + 3) lv st h post) : am_W K X M d kc ks uc us pc lv (.ref x :: st) h post := by
  intro p l e R s m args below meth c H locs cells slots ls z hH hL hl h1 h2
  exact lv_ifnull z.1 z.2.1 hd (k p l e R s m args below meth c H locs cells slots ls z hH hL hl h1 h2)
theorem am_ifnullN {off : Int} {tgt : Nat} (hd : decode M.2.1 pc = .ok (.ifnull off, 3)) (ht : (pc : Int) + off = (tgt : Int)) (k : am_W K X M d kc ks uc us tgt lv st h post) : am_W K X M d kc ks uc us pc lv (.null :: st) h post := by
  intro p l e R s m args below meth c H locs cells slots ls z hH hL hl h1 h2
  exact lv_ifnullN z.1 z.2.1 hd ht (k p l e R s m args below meth c H locs cells slots ls z hH hL hl h1 h2)
theorem am_ifnonnullR {x : Nat} {off : Int} {tgt : Nat} (hd : decode M.2.1 pc = .ok (.ifnonnull off, 3)) (ht : (pc : Int) + off = (tgt : Int)) (k : am_W K X M d kc ks uc us tgt lv st h post) : am_W K X M d kc ks uc us pc lv (.ref x :: st) h post := by
  intro p l e R s m args below meth c H locs cells slots ls z hH hL hl h1 h2
  exact lv_ifnonnull z.1 z.2.1 hd ht (k p l e R s m args below meth c H locs cells slots ls z hH hL hl h1 h2)
theorem am_ifnonnullN {off : Int} (hd : decode M.2.1 pc = .ok (.ifnonnull off, 3)) (k : am_W K X M d kc ks uc us (pc + 3) lv st h post) : am_W K X M d kc ks uc us pc lv (.null :: st) h post := by
  intro p l e R s m args below meth c H locs cells slots ls z hH hL hl h1 h2
  exact lv_ifnonnullN z.1 z.2.1 hd (k p l e R s m args below meth c H locs cells slots ls z hH hL hl h1 h2)
theorem am_lookup {dflt : Int} {ps : Array (Int × Int)} {len : Nat} {x : Int32} {off : Int} {tgt : Nat} (hd : decode M.2.1 pc = .ok (.lookupswitch dflt ps, len)) (hp : (ps.toList.zip (ps.toList.drop 1)).all (fun (a, next) => a.1 < next.1) = true) (ho : Op.lookupswitch.offset ps.toList dflt x.toInt = off) (ht : (pc : Int) + off = (tgt : Int)) (k : am_W K X M d kc ks uc us tgt lv st h post) : am_W K X M d kc ks uc us pc lv (.int x :: st) h post := by
  intro p l e R s m args below meth c H locs cells slots ls z hH hL hl h1 h2
  exact lv_lookup z.1 z.2.1 hd hp ho ht (k p l e R s m args below meth c H locs cells slots ls z hH hL hl h1 h2)
theorem am_tableOut {dflt lo hi : Int} {offs : Array Int} {len : Nat} {x : Int32} {tgt : Nat} (hd : decode M.2.1 pc = .ok (.tableswitch dflt lo hi offs, len)) (hx : x.toInt < lo ∨ hi < x.toInt) (ht : (pc : Int) + dflt = (tgt : Int)) (k : am_W K X M d kc ks uc us tgt lv st h post) : am_W K X M d kc ks uc us pc lv (.int x :: st) h post := by
  intro p l e R s m args below meth c H locs cells slots ls z hH hL hl h1 h2
  exact lv_tableOut z.1 z.2.1 hd hx ht (k p l e R s m args below meth c H locs cells slots ls z hH hL hl h1 h2)
theorem am_tableIn {dflt lo hi : Int} {offs : Array Int} {len : Nat} {x : Int32} {off : Int} {tgt : Nat} (hd : decode M.2.1 pc = .ok (.tableswitch dflt lo hi offs, len)) (hx1 : ¬ x.toInt < lo) (hx2 : ¬ hi < x.toInt) (ho : offs[(x.toInt - lo).toNat]? = some off) (ht : (pc : Int) + off = (tgt : Int)) (k : am_W K X M d kc ks uc us tgt lv st h post) : am_W K X M d kc ks uc us pc lv (.int x :: st) h post := by
  intro p l e R s m args below meth c H locs cells slots ls z hH hL hl h1 h2
  exact lv_tableIn z.1 z.2.1 hd hx1 hx2 ho ht (k p l e R s m args below meth c H locs cells slots ls z hH hL hl h1 h2)
theorem am_iret {v : Int32} (hr : M.2.2.2 = some .int) (hd : decode M.2.1 pc = .ok (.ireturn, 1)) (hp : post (some (.int v)) h) : am_W K X M d kc ks uc us pc lv [.int v] h post := by
  intro p l e R s m args below meth c H locs cells slots ls z hH hL hl h1 h2
  refine W.widen (k := R.cells) (n := R.slots) (by omega) (by omega) ?_
  exact W.iret z.1 z.2.1 (z.2.2.2.2.2.1.trans hr) (fun t ht _ => ⟨some (.int v), h, rfl, by rw [ht]; exact hH, hp⟩) hL hd z.2.2.2.2.2.2.1
theorem am_zret {v : Int32} {ty : FieldType} (hr : M.2.2.2 = some ty) (hn : narrow ty (.int v) = .int v) (hd : decode M.2.1 pc = .ok (.ireturn, 1)) (hp : post (some (.int v)) h) : am_W K X M d kc ks uc us pc lv [.int v] h post := by
  intro p l e R s m args below meth c H locs cells slots ls z hH hL hl h1 h2
  refine W.widen (k := R.cells) (n := R.slots) (by omega) (by omega) ?_
  exact W.zret z.1 z.2.1 (z.2.2.2.2.2.1.trans hr) hn (fun t ht _ => ⟨some (.int v), h, rfl, by rw [ht]; exact hH, hp⟩) hL hd z.2.2.2.2.2.2.1
theorem am_lret {v : Int64} (hr : M.2.2.2 = some .long) (hd : decode M.2.1 pc = .ok (.lreturn, 1)) (hp : post (some (.long v)) h) : am_W K X M d kc ks uc us pc lv [.long v] h post := by
  intro p l e R s m args below meth c H locs cells slots ls z hH hL hl h1 h2
  refine W.widen (k := R.cells) (n := R.slots) (by omega) (by omega) ?_
  exact W.lret z.1 z.2.1 (z.2.2.2.2.2.1.trans hr) (fun t ht _ => ⟨some (.long v), h, rfl, by rw [ht]; exact hH, hp⟩) hL hd z.2.2.2.2.2.2.1
theorem am_vret (hr : M.2.2.2 = none) (hd : decode M.2.1 pc = .ok (.return_, 1)) (hp : post (none) h) : am_W K X M d kc ks uc us pc lv [] h post := by
  intro p l e R s m args below meth c H locs cells slots ls z hH hL hl h1 h2
  refine W.widen (k := R.cells) (n := R.slots) (by omega) (by omega) ?_
  exact W.vret z.1 z.2.1 (z.2.2.2.2.2.1.trans hr) (fun t ht _ => ⟨none, h, rfl, by rw [ht]; exact hH, hp⟩) hL hd z.2.2.2.2.2.2.1
theorem am_aret {v : Nat} {ty : FieldType} (hr : M.2.2.2 = some ty) (ht : (∃ n, ty = .object n) ∨ ∃ t, ty = .array t) (hd : decode M.2.1 pc = .ok (.areturn, 1)) (hp : post (some (.ref v)) h) : am_W K X M d kc ks uc us pc lv [.ref v] h post := by
  intro p l e R s m args below meth c H locs cells slots ls z hH hL hl h1 h2
  refine W.widen (k := R.cells) (n := R.slots) (by omega) (by omega) ?_
  exact W.aret z.1 z.2.1 (z.2.2.2.2.2.1.trans hr) ht (Or.inr ⟨_, rfl⟩) (fun t ht _ => ⟨some (.ref v), h, rfl, by rw [ht]; exact hH, hp⟩) hL hd z.2.2.2.2.2.2.1
theorem am_aretN {ty : FieldType} (hr : M.2.2.2 = some ty) (ht : (∃ n, ty = .object n) ∨ ∃ t, ty = .array t) (hd : decode M.2.1 pc = .ok (.areturn, 1)) (hp : post (some (.null)) h) : am_W K X M d kc ks uc us pc lv [.null] h post := by
  intro p l e R s m args below meth c H locs cells slots ls z hH hL hl h1 h2
  refine W.widen (k := R.cells) (n := R.slots) (by omega) (by omega) ?_
  exact W.aret z.1 z.2.1 (z.2.2.2.2.2.1.trans hr) ht (Or.inl rfl) (fun t ht _ => ⟨some (.null), h, rfl, by rw [ht]; exact hH, hp⟩) hL hd z.2.2.2.2.2.2.1
end AM
