/-! THE ABSTRACT MACHINE'S CALLS: a method's contract is am_Mt; am_enter proves one by its body -/
def am_P (K : am_K) (X : Nat → am_C) (vs : List Value) (h : am_H) : Array Value → State → Prop := fun a U => a = (vs.map (am_tr K)).toArray ∧ am_HR K X h U.heap ∧ K.1.WarmedH U.vm
def am_ws (M : am_M) : List Cond := Cond.code M.1 M.2.1 M.2.2.1 M.2.2.2 :: am_tbl
def am_rm (d kc ks : Nat) : Room := { frames := d, cells := kc, slots := ks, locals := 64 * d }
def am_Mt (K : am_K) (X : Nat → am_C) (M : am_M) (d kc ks : Nat) (vs : List Value) (h : am_H) (post : Option Value → am_H → Prop) : Prop :=
  ∀ l : Launch, Met l M.1 (am_ws M) (am_rm d kc ks) (am_P K X vs h) (am_Q K X post) kc ks (fun q => K.1.heap.size ≤ q)
theorem am_args (K : am_K) : ∀ (vs : List Value) (i : Nat), lv_args i (vs.map (am_tr K)) = (lv_args i vs).map (am_tl K)
  | [], _ => rfl
  | v :: vs, i => by
    show (i, am_tr K v) :: lv_args _ (vs.map (am_tr K)) = am_tl K (i, v) :: (lv_args _ vs).map (am_tl K)
    rw [am_cat, am_args K vs]
    rfl
theorem am_sl (K : am_K) : ∀ vs : List Value, (lg_sl (vs.map (am_tr K))).length = (lg_sl vs).length
  | [] => rfl
  | v :: vs => by
    have ih := am_sl K vs
    simp only [lg_sl, List.map_cons, List.flatMap_cons, List.length_append, am_cat] at ih ⊢
    rw [ih]
    by_cases hc : v.category = 2 <;> simp [hc]
section AMC
variable {K : am_K} {X : Nat → am_C} {M M2 : am_M} {d d2 kc ks uc us kc1 ks1 pc : Nat} {lv : List (Nat × Value)} {st stk : List Value} {h : am_H} {post post1 : Option Value → am_H → Prop} {vs As : List Value}
theorem am_enter (hy : plainName M.1.cls = true) (hn : (lg_sl vs).length ≤ M.2.2.1) (k : am_W K X M d kc ks 0 0 0 (lv_args 0 vs) [] h post) : am_Mt K X M d kc ks vs h post := by
  intro l
  refine Met.ofW (cc := M.2.1) (maxL := M.2.2.1) (ret := M.2.2.2) hy rfl ?_
  intro p e s m args below meth c s₁ B hml hv
  obtain ⟨rfl, hH, hW⟩ := hv
  have hl := lv_entry (vs.map (am_tr K)) (n := M.2.2.1) (by rw [am_sl]; exact hn)
  rw [am_args] at hl
  rw [lg_entry_eq]
  have z : am_Z K p (headSpec (am_ws M) (am_rm d kc ks)).room s m (vs.map (am_tr K)).toArray meth c M d :=
    ⟨B.exec, B.bytes, hml, findClass_of_methodNamed B.named, fun w hw => atoms_spec (ws := am_ws M) B.pre w (List.mem_cons_of_mem _ hw), B.returns, B.notSynchronized, (name_of_methodNamed B.named B.method).1, hW, Nat.le_refl _, Nat.le_refl _⟩
  exact k p l e _ s m _ below meth c s.heap [] 0 0 _ z hH (fun q h => by cases h) hl (by show 0 + (kc - 0) ≤ kc; omega) (by show 0 + (ks - 0) ≤ ks; omega)
/-- what a call's link says -/
def am_L (own : String) (ix n : Nat) (M2 : am_M) : Prop :=
  (Cond.methodLink own ix M2.1 ∈ am_tbl ∨ ∃ host, Cond.methodLinkNest own ix M2.1 host ∈ lw_tbl) ∧ Cond.initialized M2.1.cls ∈ am_tbl ∧ Cond.code M2.1 M2.2.1 M2.2.2.1 M2.2.2.2 ∈ am_tbl ∧ (M2.1.cls ≠ "java/lang/invoke/MethodHandle" ∧ M2.1.cls ≠ "java/lang/invoke/VarHandle") ∧ (parseMethodDescriptor M2.1.desc).map (fun d => d.parameters.length) = some n ∧ M2.2.2.1 ≤ 45
theorem am_blind : FrameBlind (am_P K X vs h) := fun _ _ _ _ q => q
theorem am_words {p : Program} {R : Room} {s : State} {m : MethodId} {args : Array Value} {meth : Method} {c : Code} (z : am_Z K p R s m args meth c M d) {own : String} {ix n : Nat} (L : am_L own ix n M2) : ∀ w ∈ am_ws M2, ∀ (a' : Array Value) (U : State), s.WarmedH U.vm → w.before a' U = true := by
  intro w hw a' U hW
  have hw : w ∈ am_tbl := by
    rcases List.mem_cons.mp hw with e | e
    · rw [e]; exact L.2.2.1
    · exact e
  exact word_at hW (good_of_word (List.mem_filter.mp hw).2) (z.2.2.2.2.1 w hw)
theorem am_len {own : String} {ix n : Nat} (L : am_L own ix n M2) : ∀ sig, parseMethodDescriptor M2.1.desc = some sig → n = sig.parameters.length := by
  intro sig hs
  have e := L.2.2.2.2.1
  rw [hs] at e
  exact (Option.some.inj e).symm
theorem am_back {p : Program} {l : Launch} {e : Env} {R : Room} {s : State} {m : MethodId} {args : Array Value} {below : List Frame} {meth : Method} {c : Code} {H : Heap} {locs : List Loc} {cells slots : Nat} {ls : Array Slot}
    (z : am_Z K p R s m args meth c M d) (hL : ∀ q ∈ locs, K.1.heap.size ≤ q.base) (hl : lv_has ls M.2.2.1 (lv.map (am_tl K))) (hk : uc + kc1 ≤ kc) (hk2 : us + ks1 ≤ ks) (h1 : cells + (kc - uc) ≤ R.cells) (h2 : slots + (ks - us) ≤ R.slots)
    {a : Array Value} (hr : va_Run p l e R s m args below meth c H locs cells slots kc1 ks1 (F0 m pc ls (stk.map (am_tr K))) (st.map (am_tr K)) (am_Q K X post1 a) (fun q => K.1.heap.size ≤ q))
    (kk : ∀ v h', post1 v h' → am_W K X M d kc ks (uc + kc1) (us + ks1) (pc + 3) lv (v.toList ++ st) h' post) :
    W p l e R s m args below meth c H locs cells slots (MQ below (am_Q K X post) args s R.cells R.slots (fun q => K.1.heap.size ≤ q)) (F0 m pc ls (stk.map (am_tr K))) := by
  intro T hT X1
  obtain ⟨v, st₀, t, T', L, -, X', hL', e1, -, ⟨v0, h', hv, hH', hp⟩, go⟩ := hr T hT X1
  have hv : v = v0.map (am_tr K) := by cases hv; rfl
  subst hv
  obtain ⟨t2, a1, b1⟩ := kk v0 h' hp p l e R s m args below meth c t.heap (locs ++ L) (cells + kc1) (slots + ks1) ls z hH' (fun q hq => (List.mem_append.mp hq).elim (hL q) (hL' q)) hl (by omega) (by omega) T' e1 X'
  refine ⟨t2, go t2 ?_, b1⟩
  have e3 : (v0.toList ++ st).map (am_tr K) = (v0.map (am_tr K)).toList ++ st.map (am_tr K) := by cases v0 <;> simp
  rw [e3] at a1
  exact a1
theorem am_callV (O : am_ok K X) {ix r ci n hn : Nat} {hf : Nat → am_C} {q : vw_C} {fs : List Value} (hM : am_Mt K X M2 d2 kc1 ks1 (.ref r :: As) (hn, hf) post1) (hs : stk = As.reverse ++ .ref r :: st) (hc : hf r = .inr (ci, fs)) (hr : 128 ≤ r) (hr2 : r < hn) (hq : am_cl[ci]? = some q) (hy : M2.1.cls = q.1) (L : am_L M.1.cls ix n M2) (L2 : Cond.instanceMethod M2.1 ∈ am_tbl ∧ Cond.selects M2.1.cls M2.1 M2.1 ∈ am_tbl) (hlen : As.length = n) (hst : (st.map fun v => v.category).sum ≤ 8) (hd : decode M.2.1 pc = .ok (.invokevirtual ix, 3)) (hdd : d2 + 1 ≤ d) (hk : uc + kc1 ≤ kc) (hk2 : us + ks1 ≤ ks)
    (kk : ∀ v h', post1 v h' → am_W K X M d kc ks (uc + kc1) (us + ks1) (pc + 3) lv (v.toList ++ st) h' post) : am_W K X M d kc ks uc us pc lv stk (hn, hf) post := by
  intro p l e R s m args below meth c H locs cells slots ls z hH hL hl h1 h2
  have hcat : ((st.map (am_tr K)).map fun v => v.category).sum ≤ 8 := by
    rw [List.map_map, show ((fun v : Value => v.category) ∘ am_tr K) = fun v => v.category from funext (am_cat K)]
    exact hst
  obtain ⟨z1, z2, z3, z4, z5, z6, z7, z8, z9, z10, z11⟩ := id z
  obtain ⟨hlk, w1, w2, w3, w4, w5⟩ := id L
  obtain ⟨cell, g1, g2, g3⟩ := am_rcv hH hc hr hr2 hq
  have hfc := ((am_kc O z).1 ci q hq).2.1
  have hstk : stk.map (am_tr K) = (As.map (am_tr K)).reverse ++ .ref (am_ad K r) :: st.map (am_tr K) := by rw [hs]; simp [am_tr]
  have hp : PreV s H q.1 (am_ad K r) (am_P K X (.ref r :: As) (hn, hf)) (As.map (am_tr K)) := ⟨am_blind, ⟨cell, g1, by rw [g2]; rfl, by rw [g3]; exact hfc⟩, fun U hU hW => ⟨rfl, by rw [hU]; exact hH, State.WarmedH.trans z9 hW⟩⟩
  refine am_back z hL hl hk hk2 h1 h2 (a := (Value.ref (am_ad K r) :: As.map (am_tr K)).toArray) (stk := stk) ?_ kk
  rcases hlk with hlk | ⟨host, hlk⟩
  · exact va_runV (As := As.map (am_tr K)) (C := q.1) ⟨z1, z2, z3, z4, z5⟩ (hM l) ⟨⟨rfl, rfl, by show d2 + 1 ≤ _; omega, by show _ + _ + 64 * d2 ≤ _; omega, am_words z L, List.mem_cons_self, z5 _ w2, z5 _ w1, w3, am_len L, z5 _ hlk⟩, z5 _ L2.1, by rw [← hy]; exact z5 _ L2.2⟩ hp rfl (by rw [List.length_map]; exact hlen) hl.1 hstk (by show 2 * 0 + _ ≤ 8; omega) hd ⟨by omega, by omega⟩
  · obtain ⟨A, hA⟩ := O.2.2 _ hlk
    exact va_runVN (As := As.map (am_tr K)) (C := q.1) (host := host) ⟨z1, z2, z3, z4, z5⟩ (hM l) ⟨⟨⟨rfl, rfl, by show d2 + 1 ≤ _; omega, by show _ + _ + 64 * d2 ≤ _; omega, am_words z L, List.mem_cons_self⟩, z5 _ w2, z5 _ w1, w3, am_len L, va_Nw.use rfl (va_Nw.warmM z9 (va_Nw.of rfl hA))⟩, z5 _ L2.1, by rw [← hy]; exact z5 _ L2.2⟩ hp rfl (by rw [List.length_map]; exact hlen) hl.1 hstk (by show 2 * 0 + _ ≤ 8; omega) hd ⟨by omega, by omega⟩
theorem am_callS (O : am_ok K X) {ix n : Nat} (hM : am_Mt K X M2 d2 kc1 ks1 As h post1) (hs : stk = As.reverse ++ st) (L : am_L M.1.cls ix n M2) (L2 : Cond.static M2.1 ∈ am_tbl) (hlen : As.length = n) (hst : (st.map fun v => v.category).sum ≤ 8) (hd : decode M.2.1 pc = .ok (.invokestatic ix, 3)) (hdd : d2 + 1 ≤ d) (hk : uc + kc1 ≤ kc) (hk2 : us + ks1 ≤ ks)
    (kk : ∀ v h', post1 v h' → am_W K X M d kc ks (uc + kc1) (us + ks1) (pc + 3) lv (v.toList ++ st) h' post) : am_W K X M d kc ks uc us pc lv stk h post := by
  intro p l e R s m args below meth c H locs cells slots ls z hH hL hl h1 h2
  have hcat : ((st.map (am_tr K)).map fun v => v.category).sum ≤ 8 := by
    rw [List.map_map, show ((fun v : Value => v.category) ∘ am_tr K) = fun v => v.category from funext (am_cat K)]
    exact hst
  obtain ⟨z1, z2, z3, z4, z5, z6, z7, z8, z9, z10, z11⟩ := id z
  obtain ⟨hlk, w1, w2, w3, w4, w5⟩ := id L
  have hstk : stk.map (am_tr K) = (As.map (am_tr K)).reverse ++ st.map (am_tr K) := by rw [hs]; simp
  have hp : PreS s H (am_P K X As h) (As.map (am_tr K)) := ⟨am_blind, fun U hU hW => ⟨rfl, by rw [hU]; exact hH, State.WarmedH.trans z9 hW⟩⟩
  refine am_back z hL hl hk hk2 h1 h2 (a := (As.map (am_tr K)).toArray) (stk := stk) ?_ kk
  rcases hlk with hlk | ⟨host, hlk⟩
  · exact va_runS (As := As.map (am_tr K)) ⟨z1, z2, z3, z4, z5⟩ (hM l) ⟨⟨rfl, rfl, by show d2 + 1 ≤ _; omega, by show _ + _ + 64 * d2 ≤ _; omega, am_words z L, List.mem_cons_self, z5 _ w2, z5 _ w1, w3, am_len L, z5 _ hlk⟩, z5 _ L2⟩ hp rfl (by rw [List.length_map]; exact hlen) hl.1 hstk (by show 2 * 0 + _ ≤ 8; omega) hd ⟨by omega, by omega⟩
  · obtain ⟨A, hA⟩ := O.2.2 _ hlk
    exact va_runSN (As := As.map (am_tr K)) (host := host) ⟨z1, z2, z3, z4, z5⟩ (hM l) ⟨⟨⟨rfl, rfl, by show d2 + 1 ≤ _; omega, by show _ + _ + 64 * d2 ≤ _; omega, am_words z L, List.mem_cons_self⟩, z5 _ w2, z5 _ w1, w3, am_len L, va_Nw.use rfl (va_Nw.warmM z9 (va_Nw.of rfl hA))⟩, z5 _ L2, trivial⟩ hp rfl (by rw [List.length_map]; exact hlen) hl.1 hstk (by show 2 * 0 + _ ≤ 8; omega) hd ⟨by omega, by omega⟩
theorem am_callI (O : am_ok K X) {ix r n : Nat} (hM : am_Mt K X M2 d2 kc1 ks1 (.ref r :: As) h post1) (hs : stk = As.reverse ++ .ref r :: st) (L : am_L M.1.cls ix n M2) (L2 : Cond.instanceMethod M2.1 ∈ am_tbl) (hi : M2.1.name = "<init>") (hret : M2.2.2.2 = none) (hlen : As.length = n) (hst : (st.map fun v => v.category).sum ≤ 8) (hd : decode M.2.1 pc = .ok (.invokespecial ix, 3)) (hdd : d2 + 1 ≤ d) (hk : uc + kc1 ≤ kc) (hk2 : us + ks1 ≤ ks)
    (kk : ∀ v h', post1 v h' → am_W K X M d kc ks (uc + kc1) (us + ks1) (pc + 3) lv (v.toList ++ st) h' post) : am_W K X M d kc ks uc us pc lv stk h post := by
  intro p l e R s m args below meth c H locs cells slots ls z hH hL hl h1 h2
  have hcat : ((st.map (am_tr K)).map fun v => v.category).sum ≤ 8 := by
    rw [List.map_map, show ((fun v : Value => v.category) ∘ am_tr K) = fun v => v.category from funext (am_cat K)]
    exact hst
  obtain ⟨z1, z2, z3, z4, z5, z6, z7, z8, z9, z10, z11⟩ := id z
  obtain ⟨hlk, w1, w2, w3, w4, w5⟩ := id L
  have hstk : stk.map (am_tr K) = (As.map (am_tr K)).reverse ++ .ref (am_ad K r) :: st.map (am_tr K) := by rw [hs]; simp [am_tr]
  have hp : PreS s H (am_P K X (.ref r :: As) h) (.ref (am_ad K r) :: As.map (am_tr K)) := ⟨am_blind, fun U hU hW => ⟨rfl, by rw [hU]; exact hH, State.WarmedH.trans z9 hW⟩⟩
  have hws : am_ws M2 = Cond.code M2.1 M2.2.1 M2.2.2.1 none :: am_tbl := by rw [am_ws, hret]
  rw [hret] at w2
  refine am_back z hL hl hk hk2 h1 h2 (a := (Value.ref (am_ad K r) :: As.map (am_tr K)).toArray) (stk := stk) ?_ kk
  rcases hlk with hlk | ⟨host, hlk⟩
  · exact va_runI (As := As.map (am_tr K)) (bytes := M2.2.1) (maxL := M2.2.2.1) ⟨z1, z2, z3, z4, z5⟩ (hM l) ⟨⟨rfl, rfl, by show d2 + 1 ≤ _; omega, by show _ + _ + 64 * d2 ≤ _; omega, am_words z L, by rw [hws]; exact List.mem_cons_self, z5 _ w2, z5 _ w1, w3, am_len L, z5 _ hlk⟩, hi, z5 _ L2⟩ hp rfl (by rw [List.length_map]; exact hlen) hl.1 hstk (by show 2 * 0 + _ ≤ 8; omega) hd ⟨by omega, by omega⟩
  · obtain ⟨A, hA⟩ := O.2.2 _ hlk
    exact va_runIN (As := As.map (am_tr K)) (host := host) (bytes := M2.2.1) (maxL := M2.2.2.1) ⟨z1, z2, z3, z4, z5⟩ (hM l) ⟨⟨⟨rfl, rfl, by show d2 + 1 ≤ _; omega, by show _ + _ + 64 * d2 ≤ _; omega, am_words z L, by rw [hws]; exact List.mem_cons_self⟩, z5 _ w2, z5 _ w1, w3, am_len L, va_Nw.use rfl (va_Nw.warmM z9 (va_Nw.of rfl hA))⟩, hi, z5 _ L2⟩ hp rfl (by rw [List.length_map]; exact hlen) hl.1 hstk (by show 2 * 0 + _ ≤ 8; omega) hd ⟨by omega, by omega⟩
end AMC
