/-! NAMES and calls -/
def HX (E1 : CE) (cr : Nat) (E2 : RE) (w0 : W2) (V0 p : Nat) : Prop := ∀ d1 d2, 12 * (16 - p) + 32 ≤ d1 → 12 * (16 - p) + 32 ≤ d2 → JE E1 cr E2 w0 V0 (4000 + 4 * (12 * (16 - p) + 32)) (fun s => cU (clP d1 8 132 (nI p) 0 0 s)) (fun s => clM d2 6 160 (nI p) 0 0 s)
section
variable {E1 : CE} {cr : Nat} {E2 : RE} {w0 : W2} {u q d d1 d2 j V0 A B A' B' p m CL i : Nat} {T : TKc} {t : TKr} {x x' x1 x2 : CA} {y y' y1 y2 : RA} {s s' : HS} {K dp : Int32} {w : List Nat}
theorem Lw.find (h : Lw x y) (hw : okN w) : s_find (ca_l x) (ca_t x) (nC w) = s_find (ra_l y) (ra_t y) (nV w) ∧ ∀ i j, i < ra_t y → j < ra_t y → ra_l y i = ra_l y j → i = j := by
  obtain ⟨h1, lw, h2, h3⟩ := h
  rw [← h1]
  refine ⟨find_eq fun j hj => ?_, fun i j hi hj e => ?_⟩
  · obtain ⟨a1, a2, a3⟩ := h2 j hj
    rw [a2, a3, nC_same a1 hw, nV_same a1 hw]
  · obtain ⟨a1, a2, a3⟩ := h2 i hi
    obtain ⟨b1, b2, b3⟩ := h2 j hj
    rw [a3, b3, nV_same a1 b1] at e
    exact h3 i j hi hj e
theorem ja_var (V : KC E1 s x) (J : JJ E1 cr E2 w0 u q T t x y) (hV : V0 ≤ ra_v y) (hk : T.2.1 = 2) {q1 : Nat} {T1 : TKc} {t1 : TKr} (J1 : JJ E1 cr E2 w0 (u + 1) q1 T1 t1 (cav E1 t x) (rav E2 t y)) (hn : ¬ T1.2.1 = 40) : OUT E1 cr E2 w0 (ca_h x) B (QE V0 x y u) (x_Pars_atom_b (clP (d1 + 10)) (d1 + 10) 132 dp s) (x_Mod_simple_b (clM (d2 + 9)) (d2 + 9) 160 dp (pm cr E2 y)) := by
  have hb := J.2.2.2.2.2
  have hu := J.lt (by rw [hk]; decide) (by rw [hk]; decide)
  have hw := (J.tq.nm hk).1
  obtain ⟨hf, hdis⟩ := J.2.2.2.2.1.find hw
  have ht0 : ca_t x = ra_t y := J.2.2.2.2.1.1
  obtain ⟨s1, e1, V1⟩ := jj_takeName (d := d1 + 2) V J hk
  generalize hW : nmL (re_g E2) q (t.1 - q) = w at hw hf e1
  have Jg : JJ E1 cr E2 w0 u q T t x (raGiven y 0) := J.chg ⟨rfl, rfl, rfl, rfl⟩ ⟨rfl, rfl⟩ (by show ca_h x ≤ _ ∧ ca_k x ≤ _ ∧ ra_m y ≤ _ ∧ ra_v y ≤ _ ∧ ra_p y ≤ _; omega)
  have J1g : JJ E1 cr E2 w0 (u + 1) q1 T1 t1 (cav E1 t x) (rav E2 t (raGiven y 0)) := J1.chg ⟨rfl, rfl, rfl, rfl⟩ ⟨rfl, rfl⟩ (by show ca_h x ≤ _ ∧ ca_k x ≤ _ ∧ ra_m y ≤ _ ∧ ra_v y ≤ _ ∧ ra_p y ≤ _; omega)
  have nm := y_name (d := d2 + 8) Jg.er Jg.ar Jg.tq hk
  rw [hW] at nm
  have r0 : x_Mod_simple_b (clM (d2 + 9)) (d2 + 9) 160 dp (pm cr E2 y) = bnd (x_Mod_named_b (clM (d2 + 8)) (d2 + 8) 160 dp (pm cr E2 (raGiven y 0))) fun v s => okB v (some (v, s)) := by
    unfold x_Mod_simple_b
    rw [y_gd J.er, y_p25 J.er, Option.bind_some, y_6 J.er, Option.bind_some, if_neg (by show ¬ (ra_b y).2.1 = 3; rw [J.ar.2.1, J.tq.num, hk]; decide), Option.bind_some, if_neg (by show ¬ (ra_b y).2.1 = 4; rw [J.ar.2.1, J.tq.text, hk]; decide), Jg.is (d := d2 + 5) (K := 13) 10 rfl (by decide) rfl, bnd_some, if_neg (show ¬ T.2.1 = 13 by rw [hk]; decide), if_pos rfl, y_6 J.er, Option.bind_some, if_pos (by show (ra_b y).2.1 = 1; rw [J.ar.2.1, J.tq.name, hk])]
    rfl
  have c0 : x_Pars_atom_b (clP (d1 + 10)) (d1 + 10) 132 dp s = bnd (x_Pars_variableOrCall_b (clP (d1 + 9)) (d1 + 9) 132 dp s) fun v s => (pZ s 132 5 7 v).bind fun s => some ((), s) := by
    unfold x_Pars_atom_b
    rw [kc_gd V, kc_lx V, Option.bind_some, kc_kind V, bnd_some, J.kd, hk, if_pos rfl]
    rfl
  have cl : x_Draft_localOf (d1 + 9) (ce_d E1) (nC w) s1 = some (s_find (ca_l x) (ca_t x) (nC w), s1) := kc_localOf (x := cav E1 t x) V1
  have rl : x_Mod_localOf (d2 + 8) 160 (nV w) (pm cr E2 (rav E2 t (raGiven y 0))) = some (s_find (ra_l y) (ra_t y) (nV w), pm cr E2 (rav E2 t (raGiven y 0))) := y_locOf J.er (by show ra_t y ≤ 1500; omega) hdis
  rw [r0, c0]
  unfold x_Mod_named_b x_Pars_variableOrCall_b
  rw [y_gd J.er, nm, bnd_some, jj_step (d := d2 + 3) Jg, bnd_some, J1g.is (d := d2 + 4) (K := 40) 1 rfl (by decide) rfl, bnd_some, if_neg hn, if_pos rfl, rl, bnd_some]
  rw [kc_gd V, e1, bnd_some, kc_lx V1, Option.bind_some, kc_kind V1, bnd_some, J1.kd, if_neg hn, kc_dr V1, Option.bind_some, cl, bnd_some, hf]
  have hbd : ∀ (x' : CA) (y' : RA), ca_h x' = ca_h x + 1 → ca_k x' ≤ ca_k x + 2 → ra_m y' = ra_m y + 2 → ra_v y' ≤ ra_v y + 1 → ra_p y' = ra_p y → ca_h x' ≤ 2 * (u + 1) + 2 ∧ ca_k x' ≤ 2 * (u + 1) + 2 ∧ ra_m y' ≤ 3 * (u + 1) + 2 ∧ ra_v y' ≤ u + 1 ∧ ra_p y' ≤ u + 1 := fun x' y' h1 h2 h3 h4 h5 => by omega
  rcases find_or (g := ra_l y) (k := ra_t y) (y := nV w) (by omega) with h | ⟨i, i1, i2, i3⟩
  · obtain ⟨s2, e2, V2⟩ := kc_keep (d := d1 + 7) (y := nC w) (z := 0) J.eo V1 (by show ca_k x + 2 ≤ _; omega)
    obtain ⟨s3, e3, V3⟩ := kc_add (d := d1 + 7) (op := 15) (ar := nI (ca_k x)) J.eo V2 (by show ca_h x + 1 ≤ _; omega)
    obtain ⟨s4, e4, V4⟩ := kc_asgZ (v := 1) J.eo V3 (Or.inr rfl)
    rw [if_pos h, kc_dr V1, Option.bind_some, Option.bind_some, e2, bnd_some]
    rw [show ca_k (cav E1 t x) = ca_k x from rfl, e3, bnd_some, bnd_some, e4, Option.bind_some, if_neg (Int32.not_le.mpr h), y_nv J.er (by show ra_v y < 1500; omega), bnd_some]
    unfold x_Mod_named_b40
    rw [y_22 J.er, Option.bind_some, y_c2 J.er, Option.bind_some, y_p27 J.er, Option.bind_some, if_neg (Int32.not_le.mpr h), y_put2 J.er (by show ra_m y + 1 < 6000; omega), bnd_some, y_p25 J.er, Option.bind_some, bnd_some, okB_of (Or.inr rfl)]
    refine OUT.ok V4 (J1.chg ⟨rfl, rfl, rfl, rfl⟩ ⟨rfl, rfl⟩ (hbd _ _ rfl (Nat.le_refl _) rfl (Nat.le_refl _) rfl)) ⟨⟨Nat.lt_succ_self _, AGc.rfl'.keep.add, AGr.rfl'.val.put.put, rfl, ⟨rfl, rfl, rfl⟩, ?_⟩, ⟨dRt w, ?_, ?_⟩, rfl, Or.inr ⟨rfl, Or.inr (Or.inl ⟨w, ca_k x, ra_v y, hw, rfl, rfl, rfl, up20, up21, Nat.lt_add_of_pos_right (by decide), upl0, up10, up11, hV, Nat.lt_succ_self _, ?_⟩)⟩⟩
    · show ca_h x + 1 + 2 * u ≤ _ ∧ ca_k x + 2 + 2 * u ≤ _ ∧ ra_m y + 1 + 1 + 3 * u ≤ _ ∧ ra_v y + 1 + u ≤ _
      omega
    · rw [Nat.add_sub_cancel_left]
      exact ImE_root (p := ca_k x) (Nat.le_refl _) up20 up21 (Nat.lt_add_of_pos_right (by decide)) upl0
    · rw [Nat.add_sub_cancel_left]
      exact IrE_root (x := ra_v y) hw (Nat.le_refl _) up10 up11 hV (Nat.lt_succ_self _) (by show (upQ (ra_q y) (ra_v y) _ (ra_v y)).2.2.1 = _; rw [upQ_at])
    · show (upQ (ra_q y) (ra_v y) _ (ra_v y)).2.2.1 = _
      rw [upQ_at]
  · obtain ⟨s3, e3, V3⟩ := kc_add (d := d1 + 7) (op := 13) (ar := nI i) J.eo V1 (by show ca_h x + 1 ≤ _; omega)
    obtain ⟨s4, e4, V4⟩ := kc_asgZ (v := 1) J.eo V3 (Or.inr rfl)
    rw [i2, if_neg (nI_pos (by omega)), kc_dr V1, Option.bind_some, e3, bnd_some, bnd_some, e4, Option.bind_some, if_pos (Int32.not_lt.mp (nI_pos (by omega)))]
    unfold x_Mod_named_b40
    rw [y_22 J.er, Option.bind_some, y_c2 J.er, Option.bind_some, y_p27 J.er, Option.bind_some, if_pos (Int32.not_lt.mp (nI_pos (by omega))), y_put2 J.er (by show ra_m y + 1 < 6000; omega), bnd_some, y_p25 J.er, Option.bind_some, bnd_some, okB_of (Or.inr rfl)]
    refine OUT.ok V4 (J1.chg ⟨rfl, rfl, rfl, rfl⟩ ⟨rfl, rfl⟩ (hbd _ _ rfl (Nat.le_add_right _ _) rfl (Nat.le_succ _) rfl)) ⟨⟨Nat.lt_succ_self _, AGc.rfl'.add, AGr.rfl'.put.put, rfl, ⟨rfl, rfl, rfl⟩, ?_⟩, ⟨dLoc i, ?_, ?_⟩, rfl, Or.inr ⟨rfl, Or.inl ⟨i, by omega, rfl, rfl, rfl, up20, up21, up10, up11⟩⟩⟩
    · show ca_h x + 1 + 2 * u ≤ _ ∧ ca_k x + 2 * u ≤ _ ∧ ra_m y + 1 + 1 + 3 * u ≤ _ ∧ ra_v y + u ≤ _
      omega
    · rw [Nat.add_sub_cancel_left]
      exact ImE_loc (by omega) (Nat.le_refl _) up20 up21
    · rw [Nat.add_sub_cancel_left]
      exact IrE_loc (by omega) (Nat.le_refl _) up10 up11
theorem ja_call (hp : p ≤ 16) (HE : p < 16 → HX E1 cr E2 w0 V0 (p + 1)) (hd1 : 12 * (16 - p) + 12 ≤ d1) (hd2 : 12 * (16 - p) + 12 ≤ d2) (V : KC E1 s x) (J : JJ E1 cr E2 w0 u q T t x y) (hV : V0 ≤ ra_v y) (hk : T.2.1 = 2) {q1 : Nat} {T1 : TKc} {t1 : TKr} (J1 : JJ E1 cr E2 w0 (u + 1) q1 T1 t1 (cav E1 t x) (rav E2 t y)) (hn : T1.2.1 = 40) : OUT E1 cr E2 w0 (ca_h x) (4000 + 4 * (12 * (16 - p) + 23)) (QE V0 x y u) (x_Pars_atom_b (clP (d1 + 10)) (d1 + 10) 132 (nI p) s) (x_Mod_simple_b (clM (d2 + 9)) (d2 + 9) 160 (nI p) (pm cr E2 y)) := by
  have hb := J.2.2.2.2.2
  have hu := J.lt (by rw [hk]; decide) (by rw [hk]; decide)
  have hw := (J.tq.nm hk).1
  obtain ⟨s1, e1, V1⟩ := jj_takeName (d := d1 + 2) V J hk
  generalize hW : nmL (re_g E2) q (t.1 - q) = w at hw e1
  have Jg : JJ E1 cr E2 w0 u q T t x (raGiven y 0) := J.chg ⟨rfl, rfl, rfl, rfl⟩ ⟨rfl, rfl⟩ (by show ca_h x ≤ _ ∧ ca_k x ≤ _ ∧ ra_m y ≤ _ ∧ ra_v y ≤ _ ∧ ra_p y ≤ _; omega)
  have J1g : JJ E1 cr E2 w0 (u + 1) q1 T1 t1 (cav E1 t x) (rav E2 t (raGiven y 0)) := J1.chg ⟨rfl, rfl, rfl, rfl⟩ ⟨rfl, rfl⟩ (by show ca_h x ≤ _ ∧ ca_k x ≤ _ ∧ ra_m y ≤ _ ∧ ra_v y ≤ _ ∧ ra_p y ≤ _; omega)
  have nm := y_name (d := d2 + 8) Jg.er Jg.ar Jg.tq hk
  rw [hW] at nm
  have r0 : x_Mod_simple_b (clM (d2 + 9)) (d2 + 9) 160 (nI p) (pm cr E2 y) = bnd (x_Mod_named_b (clM (d2 + 8)) (d2 + 8) 160 (nI p) (pm cr E2 (raGiven y 0))) fun v s => okB v (some (v, s)) := by
    unfold x_Mod_simple_b
    rw [y_gd J.er, y_p25 J.er, Option.bind_some, y_6 J.er, Option.bind_some, if_neg (by show ¬ (ra_b y).2.1 = 3; rw [J.ar.2.1, J.tq.num, hk]; decide), Option.bind_some, if_neg (by show ¬ (ra_b y).2.1 = 4; rw [J.ar.2.1, J.tq.text, hk]; decide), Jg.is (d := d2 + 5) (K := 13) 10 rfl (by decide) rfl, bnd_some, if_neg (show ¬ T.2.1 = 13 by rw [hk]; decide), if_pos rfl, y_6 J.er, Option.bind_some, if_pos (by show (ra_b y).2.1 = 1; rw [J.ar.2.1, J.tq.name, hk])]
    rfl
  have c0 : x_Pars_atom_b (clP (d1 + 10)) (d1 + 10) 132 (nI p) s = bnd (x_Pars_variableOrCall_b (clP (d1 + 9)) (d1 + 9) 132 (nI p) s) fun v s => (pZ s 132 5 7 v).bind fun s => some ((), s) := by
    unfold x_Pars_atom_b
    rw [kc_gd V, kc_lx V, Option.bind_some, kc_kind V, bnd_some, J.kd, hk, if_pos rfl]
    rfl
  rw [r0, c0]
  unfold x_Mod_named_b x_Pars_variableOrCall_b
  rw [y_gd J.er, nm, bnd_some, jj_step (d := d2 + 3) Jg, bnd_some, J1g.is (d := d2 + 4) (K := 40) 1 rfl (by decide) rfl, bnd_some, if_pos hn, if_neg (by decide)]
  rw [kc_gd V, e1, bnd_some, kc_lx V1, Option.bind_some, kc_kind V1, bnd_some, J1.kd, if_pos hn, c_lst]
  unfold x_Pars_list_b
  rw [kc_gd V1]
  have dead : ∀ s' x' qf v, DD E1 s' x' qf (ca_h x) (4000 + 4 * (12 * (16 - p) + 20)) → ∃ s'' x'', (bnd (bnd (some (v, s')) fun v7 s6 => ((gR s6 132 5 3).bind fun v8 => ((gR s6 132 5 3).bind fun v9 => (bnd (x_Draft_keep (d1 + 9) v9 (nC w) (v7 : Int32).toInt64 s6) fun v11 s10 => (bnd (x_Draft_add (d1 + 9) v8 5 v11 s10) fun v13 s12 => (some ((0 : Int32), s12))))))) fun v s => (pZ s 132 5 7 v).bind fun s => some ((), s)) = some ((), s'') ∧ DD E1 s'' x'' qf (ca_h x) (4000 + 4 * (12 * (16 - p) + 23)) := fun s' x' qf v D => by
    obtain ⟨s2, x2, n2, e2, D2⟩ := dd_keep (d := d1 + 7) (y := nC w) (z := v.toInt64) D (by omega)
    obtain ⟨s3, x3, e3, D3⟩ := dd_add (d := d1 + 7) (op := 5) (ar := n2) D2 (by omega)
    obtain ⟨s4, x4, e4, D4⟩ := dd_asgZ (v := 0) D3 (Or.inl rfl)
    refine ⟨s4, x4, ?_, D4.mono (Nat.le_refl _) (by omega)⟩
    rw [bnd_some, kc_dr D.1, Option.bind_some, Option.bind_some, e2, bnd_some, e3, bnd_some, bnd_some, e4, Option.bind_some]
  by_cases c16 : p = 16
  · subst c16
    obtain ⟨s2, e2, D2⟩ := jj_openNo (d := d1 + 6) (dp := nI 16) V1 J1 (K := 40) (fun h => absurd h.2 (by decide))
    obtain ⟨s3, x3, e3, D3⟩ := dd_take (d := d1 + 6) (k := 41) D2 (by decide)
    obtain ⟨s4, x4, e4, D4⟩ := dead s3 x3 _ 0 (D3.mono (Nat.le_refl _) (by omega))
    rw [e2, bnd_some, if_pos rfl, e3, bnd_some]
    refine Eq.mpr (congrArg (fun z => OUT _ _ _ _ _ _ _ z _) e4) ?_
    rw [if_pos (show nI 16 = 16 from rfl), jj_bad J1g, bnd_some, okB_of (Or.inl rfl), bnd_some, okB_of (Or.inl rfl)]
    exact OUT.no D4 J1g.rf
  · have hE := HE (by omega) (d1 + 8) (d2 + 8) (by omega) (by omega)
    have n0 : ¬ T1.2.1 = 0 := by rw [hn]; decide
    have n1 : ¬ T1.2.1 = 1 := by rw [hn]; decide
    have hu1 := J1.lt n0 n1
    obtain ⟨s2, e2, V2⟩ := jj_open (d := d1 + 2) (dp := nI p) V1 J1 hn (by decide) (by decide) (Int32.not_le.mp (nI_ge (b := 16) (by omega) (by decide)))
    obtain ⟨q2, T2, t2, J2, _⟩ := J1g.adv n0 n1
    have en : ¬ nI p = 16 := fun e => c16 (nI_inj (by omega) (by decide) (e.trans (show (16 : Int32) = nI 16 from rfl)))
    rw [e2, bnd_some, if_neg (by decide), if_neg en, jj_step (d := d2 + 3) J1g, bnd_some, ← nI_succ]
    have LE := j_list (d1 := d1) (d2 := d2) (CL := 16) (fin := fun v s => x_Mod_named_b147 (clM (d2 + 8)) (d2 + 8) 160 (nV w) v s) hE (K := 41) (by decide) (by decide) (by decide) (i := 2) rfl (by decide) rfl V2 J2 hV
    have r1 : (loopK (lsR (d2 + 8) 16 (fun s => clM (d2 + 8) 6 160 (nI (p + 1)) 0 0 s) (fun v s => x_Mod_named_b147 (clM (d2 + 8)) (d2 + 8) 160 (nV w) v s)) FU (0, pm cr E2 (rav E2 t1 (rav E2 t (raGiven y 0))))) = _ := rfl
    have r2 : lsC (d1 + 8) 41 (fun s => cU (clP (d1 + 8) 8 132 (nI (p + 1)) 0 0 s)) s2 = _ := rfl
    rcases LE with ⟨m, s', x', y', u', q', T', t', V', J', Q, k1, k2⟩ | ⟨s', x', y', qf, v, k1, k2, D, g⟩
    · have hQ := Q.1
      have hu' := J'.uq
      have hb' := J'.2.2.2.2.2
      refine Eq.mpr (congrArg (fun z => OUT _ _ _ _ _ _ _ (bnd (bnd z _) _) _) k1) ?_
      refine Eq.mpr (congrArg (fun z => OUT _ _ _ _ _ _ _ _ (bnd z _)) k2) ?_
      unfold x_Mod_named_b147
      dsimp only
      by_cases c : T'.2.1 = 41
      · have m0 : ¬ T'.2.1 = 0 := by rw [c]; decide
        have m1 : ¬ T'.2.1 = 1 := by rw [c]; decide
        have hu2 := J'.lt m0 m1
        obtain ⟨s3, e3, V3⟩ := jj_take (d := d1 + 2) V' J' c (by decide) (by decide)
        obtain ⟨q3, T3, t3, J3, _⟩ := J'.adv m0 m1
        obtain ⟨s4, e4, V4⟩ := kc_keep (d := d1 + 7) (y := nC w) (z := (nI m).toInt64) J.eo V3 (by show ca_k x' + 2 ≤ _; omega)
        obtain ⟨s5, e5, V5⟩ := kc_add (d := d1 + 7) (op := 5) (ar := nI (ca_k x')) J.eo V4 (by show ca_h x' + 1 ≤ _; omega)
        obtain ⟨s6, e6, V6⟩ := kc_asgZ (v := 0) J.eo V5 (Or.inl rfl)
        rw [e3, bnd_some, bnd_some, kc_dr V3, Option.bind_some, Option.bind_some, e4, bnd_some]
        rw [show ca_k (cav E1 t' x') = ca_k x' from rfl, e5, bnd_some, bnd_some, e6, Option.bind_some]
        rw [jj_rtake (d := d2 + 2) (j := 16) J' 2 rfl (by decide) c, bnd_some, if_neg (by decide), y_nv J.er (by show ra_v y' < 1500; omega), bnd_some, y_put2 J.er (by show ra_m y' + 1 < 6000; omega), bnd_some, y_put J.er (by show ra_m y' + 1 + 1 < 6000; omega), bnd_some, y_p25 J.er, Option.bind_some, bnd_some, okB_of (Or.inr rfl)]
        obtain ⟨Q1, Q2, Q3, Q4, Q5, Q6, l, Q7, Q8⟩ := Q
        have Q2' : AGc x x' := Q2
        have Q3' : AGr y y' := Q3
        have Q5' : ca_t x' = ca_t x ∧ ca_l x' = ca_l x ∧ y'.2.2.1 = y.2.2.1 := Q5
        have Q6' : ca_h x' + 2 * (u + 1 + 1) ≤ ca_h x + 2 * u' ∧ ca_k x' + 2 * (u + 1 + 1) ≤ ca_k x + 2 * u' ∧ ra_m y' + 3 * (u + 1 + 1) ≤ ra_m y + 3 * u' ∧ ra_v y' + (u + 1 + 1) ≤ ra_v y + u' := Q6
        have Q7' : ImL (ca_h x) (ca_h x') (ca_t x) (u' - (u + 1 + 1)) (ca_k x') (ca_c x') (ca_p x') m l := Q7
        have Q8' : IrL (ra_m y) (ra_m y') V0 (ra_v y') (ca_t x) (u' - (u + 1 + 1)) (ra_s y') (ra_q y') m l := Q8
        have ag := Q2'.keep (z1 := nC w) (z2 := (nI m).toInt64) |>.add (op := 5) (ar := nI (ca_k x'))
        have ar := Q3'.val (z := (1, 0, nV w, 0)) |>.put (v := 22) |>.put (v := nI (ra_v y')) |>.put (v := nI m)
        refine OUT.ok V6 (J3.chg ⟨rfl, rfl, rfl, rfl⟩ ⟨rfl, rfl⟩ ?_) ⟨⟨by omega, ag, ar, Q4, Q5', ?_⟩, ⟨dCall w m l, ?_, ?_⟩, rfl, Or.inl rfl⟩
        · show ca_h x' + 1 ≤ _ ∧ ca_k x' + 2 ≤ _ ∧ ra_m y' + 1 + 1 + 1 ≤ _ ∧ ra_v y' + 1 ≤ _ ∧ ra_p y' ≤ _
          omega
        · show ca_h x' + 1 + 2 * u ≤ _ ∧ ca_k x' + 2 + 2 * u ≤ _ ∧ ra_m y' + 1 + 1 + 1 + 3 * u ≤ _ ∧ ra_v y' + 1 + u ≤ _
          omega
        · refine ImE_call (p := ca_k x') Q2'.1 (Q7'.ext (Nat.le_refl _) (by omega) (Nat.le_add_right _ _) (fun j _ hj => (AGc.rfl'.keep (z1 := nC w) (z2 := (nI m).toInt64) |>.add (op := 5) (ar := nI (ca_k x'))).2.1 j hj) (fun j hj => (AGc.rfl'.keep (z1 := nC w) (z2 := (nI m).toInt64)).2.2.2 j hj)) (by omega) (by omega) (by omega) up20 up21 (Nat.lt_succ_self _) upl0 upl1 hw.1 hw.2.1
        · refine IrE_call (x := ra_v y') hw Q3'.1 (Q8'.ext (Nat.le_refl _) (by omega) (Nat.le_refl _) (Nat.le_succ _) (fun j _ hj => (AGr.rfl'.put (v := 22) |>.put (v := nI (ra_v y')) |>.put (v := nI m)).2.1 j hj) (fun j _ hj => (AGr.rfl'.val (z := (1, 0, nV w, 0))).2.2.2.1 j hj)) (by omega) (by omega) (by omega) ?_ ?_ ?_ (by have := Q3'.2.2.1; omega) (Nat.lt_succ_self _) (by show (upQ (ra_q y') (ra_v y') _ (ra_v y')).2.2.1 = _; rw [upQ_at])
          · exact (upN (by show ¬ ra_m y' = ra_m y' + 1 + 1; omega)).trans up10
          · exact (upN (by show ¬ ra_m y' + 1 = ra_m y' + 1 + 1; omega)).trans up11
          · exact upA
      · obtain ⟨s3, e3, D3⟩ := jj_takeNo (d := d1 + 6) V' J' c
        obtain ⟨s4, x4, e4, D4⟩ := dead s3 _ _ (nI m) (D3.mono (by have := Q.2.1.1; exact this) (by omega))
        rw [e3, bnd_some]
        refine Eq.mpr (congrArg (fun z => OUT _ _ _ _ _ _ _ z _) e4) ?_
        rw [jj_rtakeNo (d := d2 + 2) (j := 16) J' 2 rfl (by decide) c, bnd_some, if_pos rfl, bnd_some, okB_of (Or.inl rfl)]
        exact OUT.no D4 J'.rf
    · refine Eq.mpr (congrArg (fun z => OUT _ _ _ _ _ _ _ (bnd (bnd z _) _) _) k1) ?_
      refine Eq.mpr (congrArg (fun z => OUT _ _ _ _ _ _ _ _ (bnd z _)) k2) ?_
      obtain ⟨s4, x4, e4, D4⟩ := dead s' x' qf v (D.mono (Nat.le_refl _) (by omega))
      refine Eq.mpr (congrArg (fun z => OUT _ _ _ _ _ _ _ z _) e4) ?_
      rw [bnd_some, okB_of (Or.inl rfl)]
      exact OUT.no D4 g
end
