/-! the claim -/
section
variable {K : am_K} {X : Nat → am_C}
set_option maxRecDepth 100000 in
set_option maxHeartbeats 4000000 in
theorem wh_start2 {kc ks : Nat} (hc : 100000 ≤ kc) (hs : 6700000 ≤ ks) (O : am_ok K X) (T2 : am_T2 K) {tx : String} (Z : vk_R "StowTongue$Lexer" 19 tx (am_ad K 2) K.1) (S : am_str K 2 59 (fun j => WDB.getD j 0)) {nm : String} {L : Nat} {xs : Nat → Int32} (hL : L ≤ 3072) (XS : va_T .int (am_ad K 0) L (fun j => .int (xs j)) (am_A K) K.1 K.1.heap) : am_W K X (m_Law_law nm) 1300 kc ks 0 0 0 [(0, .ref 0)] [] (128, X) (fun v _ => v = some (.int 1)) := by
  refine am_new O n_Law_7 d_Law_law_0 (by omega) (by omega) ?_
  refine am_dup d_Law_law_3 rfl ?_
  refine am_callI O (c_Stow_init2 O T2.1.1 Z S (va_up_self _ _ _) (by omega) (by omega)) rfl l_Law_9 w_174 rfl rfl rfl (Nat.le_of_ble_eq_true rfl) d_Law_law_4 (by omega) (by omega) (by omega) (fun v h' hp => ?_)
  obtain ⟨rfl, aL, hw, rfl⟩ := hp
  refine am_astore_n d_Law_law_7 rfl (Nat.le_of_ble_eq_true rfl) ?_
  refine am_new O n_Law_10 d_Law_law_8 (by omega) (by omega) ?_
  refine am_dup d_Law_law_11 rfl ?_
  refine am_callI O (c_Mod_init O (va_up_self _ _ _) (by omega) (by omega)) rfl l_Law_12 w_1486 rfl rfl rfl (Nat.le_of_ble_eq_true rfl) d_Law_law_12 (by omega) (by omega) (by omega) (fun v h' hp => ?_)
  obtain ⟨rfl, rfl⟩ := hp
  refine am_astore_n d_Law_law_15 rfl (Nat.le_of_ble_eq_true rfl) ?_
  refine am_iconst (v := 0) d_Law_law_16 (by decide) ?_
  refine am_istore_n d_Law_law_17 rfl (Nat.le_of_ble_eq_true rfl) ?_
  refine am_locs (lv' := [(0, .ref 0), (1, .ref 128), (2, .ref 160), (3, .int 0)]) rfl ?_
  show am_W K X (m_Law_law nm) 1300 kc ks 1183 601315 18 [(0, .ref 0), (1, .ref 128), (2, .ref 160), (3, .int 0)] [] (1311, p1_f X aL) _
  refine am_jk (f' := p2_f X aL) ?_ p2_jk
  obtain ⟨t, e, h1, h2⟩ := pure2 L xs X aL hL (fun i hi => by rw [hw]; exact WDB_eq i hi)
  have k := (dx_Law (d := 1299) O T2 (nm := nm) XS (i := 0) (s := (1311, p2_f X aL, 0))) 1 t e
  refine am_post (fun v h' hp => ?_) (k.2.2 kc ks 1183 601315 (by show t.1 + 1183 ≤ kc + 1311; omega) (by show t.2.2 + 601315 ≤ ks + 0; omega))
  rw [hp.1]
  rfl
end
set_option maxHeartbeats 4000000 in
theorem whole_start2 {p : Program} {e : Jvm.Env} {s : State} {m : MethodId} {below : List Frame} {meth : Method} {c : Code} (l : Launch) {b L : Nat} {xs : Nat → Int32} (hL : L ≤ 3072) (C0 : lw_At p s m meth c b L xs) : W p l e room_1 s m #[Value.ref b] below meth c s.heap [] 0 0 (lw_Z below #[Value.ref b] s) (entryFrame m ([Value.ref b] : List Value).toArray 4) := by
  obtain ⟨hx, hb, hr, hml, hown, hts, hX, hbl, hlk, hgv⟩ := C0
  obtain ⟨K, hK, i0, O, T2, Z, S, XS⟩ := wh_world hts hX hbl hgv
  subst hK
  have k := wh_start2 (kc := room_1.cells) (ks := room_1.slots) (X := fun _ => .inr (0, [])) (by decide) (by decide) (nm := meth.name) (O _) T2 Z S hL XS
  have hl := lv_entry [Value.ref b] (n := 4) (Nat.le_of_ble_eq_true rfl)
  rw [lg_entry_eq]
  have z : am_Z K p room_1 K.1 m #[Value.ref b] meth c (m_Law_law meth.name) 1300 :=
    ⟨hx, hb, hml, hown, fun w hw => hts w (List.mem_filter.mp hw).1, hr, hlk, rfl, State.WarmedH.refl _, by decide, by decide⟩
  have hl2 : lv_has ((lg_sl [Value.ref b] ++ List.replicate (4 - (lg_sl [Value.ref b]).length) Slot.unset).toArray) 4 (([(0, .ref 0)] : List (Nat × Value)).map (am_tl K)) := by
    rw [show (([(0, .ref 0)] : List (Nat × Value)).map (am_tl K)) = [(0, .ref (am_ad K 0))] from rfl, i0]
    exact hl
  have k2 := k p l e room_1 K.1 m #[Value.ref b] below meth c K.1.heap [] 0 0 _ z ⟨Nat.le_refl _, rfl, fun _ _ => rfl, fun _ _ => rfl, fun r h1 h2 => absurd h2 (Nat.not_lt.mpr h1)⟩ (fun q h => by cases h) hl2 (by decide) (by decide)
  intro T hT X1
  obtain ⟨t, a1, o, b1, b2, ⟨v, h', c1, c2, c3⟩, Lc, hF, hfree⟩ := k2 T hT X1
  subst c3
  exact ⟨t, a1, o, b1, b2, c1, hF.1, hF.2.1, hF.2.2.weaken (fun y hy hlt => absurd hlt (Nat.not_lt.mpr (hfree y hy))) (Nat.le_refl _) (Nat.le_refl _)⟩
set_option maxHeartbeats 4000000 in
theorem lw_walk2 (l : Launch) (b : Addr) (xs : List Int32) : MetFree l x (headSpec (Jvm.Cond.code x code maxLocals ret :: tables_1) room_1) (lw_P b xs) (fun _ _ _ _ _ => True) lw_Q := by
  refine MetFree.of_bodyS (code := code) (maxLocals := maxLocals) (ret := ret) (by decide) ?_ ?_
  · intro args s m h hn
    obtain ⟨meth, c, h1, h2, h3, h4, h5, h6, -, -⟩ := Cond.code_spec hn (atoms_spec (ws := Jvm.Cond.code x code maxLocals ret :: tables_1) h _ List.mem_cons_self)
    exact ⟨meth, c, h1, h2, h3, h4, h5, h6⟩
  · intro p e s m args below meth c s₁ B hml0 hP _
    obtain ⟨rfl, hx, hbd, hgv⟩ := hP
    obtain ⟨scr, harrAt, hlist, hof, hsmall⟩ := hx
    obtain ⟨hcb, hkn, -, -⟩ := State.arrayAt?_spec harrAt
    have hown : s.vm.findClass R_law = some m.cls := findClass_of_methodNamed B.named
    have hts0 : ∀ c ∈ (Jvm.Cond.code x code maxLocals ret :: tables_1), c.before #[Value.ref b] s = true := atoms_spec (ws := Jvm.Cond.code x code maxLocals ret :: tables_1) B.pre
    have hts : ∀ w ∈ lw_tbl, w.before #[Value.ref b] s = true := k2_hts_sels lw_privs (fun w hw => hts0 w (List.mem_cons_of_mem _ hw)) lw_privs_ok
    have hml : c.maxLocals = 4 := B.maxLocals_eq (hts0 _ List.mem_cons_self)
    have X₀ : Stand p l e room_1 s m #[Value.ref b] below meth c s₁ [] 0 0 := Stand.of_body B
    have hh0 : s₁.heap = s.heap := by rw [B.state]; rfl
    have hsz : scr.slots.size = xs.length := by rw [← Array.length_toList, hlist, List.length_map]
    have hval : ∀ j : Nat, j < xs.length → scr.slots[j]? = some (.int (xs.getD j 0)) := fun j hj => by
      rw [← Array.getElem?_toList, hlist]
      simp [hj]
    have hbl : b < s.heap.size := (Array.getElem?_eq_some_iff.mp hcb).1
    have hX : va_X b xs.length (fun j => xs.getD j 0) s s.heap := ⟨scr, hcb, hof, hkn, hsz, hval⟩
    have K : W p l e room_1 s m #[Value.ref b] below meth c s₁.heap [] 0 0 (lw_Z below #[Value.ref b] s) (entryFrame m ([Value.ref b] : List Value).toArray 4) := by
      rw [hh0]
      exact whole_start2 l hbd ⟨B.exec, B.bytes, B.returns, hml, hown, hts, hX, hbl, B.notSynchronized, hgv⟩
    obtain ⟨t, a1, o, b1, b2, b3⟩ := K s₁ rfl X₀
    exact ⟨t, o, a1, b1, b2, b3⟩
theorem lw_comes2 (l : Launch) : Comes l x (Jvm.Cond.code x code maxLocals ret :: tables_1) room_1 (fun tb e args s => Calls_1 tb e args s ∧ rest_1 tb e args s ∧ Pre_1 tb e args s)
    (fun _ _ args s o t => lw_Q args s o t) := by
  intro p e ha hc hk s m args below hf hfit hheap happ hpre
  obtain ⟨b, xs, hP⟩ := lw_pre_spec hpre.2.2 hpre.2.1
  obtain ⟨k, o, h1, h2, h3, hQ⟩ := lw_walk2 l b xs p e ha hc hk s m args below hf ((Spec.applies_iff_loose hf).mp happ).1 hP trivial
  exact ⟨k, o, h1, h2, h3, hQ⟩
theorem lw_limb2 (L : Cond) (hL : ∀ (args : Array Value) (s t : State), L.after args s (.returned (some (.int 1))) t = true) :
    ArmFor flags0 classFile x code maxLocals ret World_1 tables_1 room_1 Calls_1 rest_1 Pre_1
      (fun tb e a s o t => postC L tb e a s o t ∧ Framed s o t (fieldLocs frame_1_writes a s ++ arrayLocs frame_1_arrays a s ++ staticLocs frame_1_statics s) room_1.cells room_1.slots) := by
  intro l _ _ _ p e ha hc hk s m args below hf hfit hheap happ hpre
  obtain ⟨k, o, h1, h2, h3, rfl, hF⟩ := lw_comes2 l p e ha hc hk s m args below hf hfit hheap happ hpre
  exact ⟨k, _, h1, h2, h3, hL args s _, lw_frame hF⟩
theorem i_vc : Claimed_1_1 ∧ Claimed_1_2 := ⟨lw_limb2 limb_1_1 (fun args s t => by simp [limb_1_1, Cond.after, Cond.holds, Cond.value]), lw_limb2 limb_1_2 (fun args s t => Cond.after_iff.mpr (by
  first | (rw [show limb_1_2 = Cond.eq .result (.int 1) from rfl, Cond.eq_ints (x := 1) (y := 1) rfl rfl]; simp; done) | (simp [limb_1_2, Cond.value, Term.eval]; done)))⟩
