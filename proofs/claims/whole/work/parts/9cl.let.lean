section
variable {E1 : CE} {cr : Nat} {E2 : RE} {w0 : W2} {u u1 u2 v1 q d d1 d2 j V0 A B A' B' p m CL i c : Nat} {T : TKc} {t : TKr} {x x' x'' x1 x2 : CA} {y y' y'' y1 y2 : RA} {s s' : HS} {K dp op opr ar l t0 v : Int32} {w : Bool} {Q : CA → RA → Nat → Prop}
theorem JJ.loc {w : List Nat} {q1 : Nat} {T1 : TKc} {t1 : TKr} (J : JJ E1 cr E2 w0 u1 q1 T1 t1 x1 y1) (hw : okN w) (h : s_find (ra_l y1) (ra_t y1) (nV w) < 0) (ht : ca_t x1 + 1 ≤ u1) (hu : u1 ≤ 1500) : JJ E1 cr E2 w0 u1 q1 T1 t1 (caLocal x1 (nC w)) (raLocal y1 (nV w)) := by
  have hb := J.2.2.2.2.2
  have ht0 : ca_t x1 = ra_t y1 := J.2.2.2.2.1.1
  obtain ⟨k1, k2, k3, k4, ⟨k5, lw, k6, k7⟩, k8⟩ := J
  refine ⟨k1, k2, k3, k4, ⟨by show ca_t x1 + 1 = ra_t y1 + 1; omega, fun i => if i = ca_t x1 then w else lw i, fun i hi => ?_, fun i j hi hj e => ?_⟩, ?_⟩
  · have hi' : i < ca_t x1 + 1 := hi
    show okN (if i = ca_t x1 then w else lw i) ∧ upL (ca_l x1) (ca_t x1) (nC w) i = nC (if i = ca_t x1 then w else lw i) ∧ upL (ra_l y1) (ra_t y1) (nV w) i = nV (if i = ca_t x1 then w else lw i)
    unfold upL
    by_cases q : i = ca_t x1
    · rw [if_pos q, if_pos q, if_pos (by omega)]
      exact ⟨hw, rfl, rfl⟩
    · rw [if_neg q, if_neg q, if_neg (by omega)]
      exact k6 i (by omega)
  · have hi' : i < ca_t x1 + 1 := hi
    have hj' : j < ca_t x1 + 1 := hj
    have no : ∀ n, n < ca_t x1 → ¬ lw n = w := fun n hn e => by
      have a := (k6 n hn).2.2
      rcases s_fd_neg (g := ra_l y1) (y := nV w) (ra_t y1) 0 (by omega) with z | ⟨j, _, z2, z3, z4, _⟩
      · exact z.2.2 n (by omega) (by omega) (by rw [a, e])
      · have : s_find (ra_l y1) (ra_t y1) (nV w) = nI j := z3
        rw [this] at h
        exact nI_pos (by omega) h
    dsimp only at e
    by_cases qi : i = ca_t x1
    · by_cases qj : j = ca_t x1
      · omega
      · rw [if_pos qi, if_neg qj] at e
        exact absurd e.symm (no j (by omega))
    · by_cases qj : j = ca_t x1
      · rw [if_neg qi, if_pos qj] at e
        exact absurd e (no i (by omega))
      · rw [if_neg qi, if_neg qj] at e
        exact k7 i j (by omega) (by omega) e
  · show ca_h x1 ≤ _ ∧ ca_k x1 ≤ _ ∧ ca_t x1 + 1 ≤ _ ∧ ra_m y1 ≤ _ ∧ ra_v y1 ≤ _ ∧ ra_p y1 ≤ _
    omega
theorem rav_local {z : Int64} : rav E2 t (raLocal y z) = raLocal (rav E2 t y) z := rfl
/-- what a new LOCAL leaves as it was -/
def SameC (x x' : CA) : Prop := ca_h x' = ca_h x ∧ ca_k x' = ca_k x ∧ ca_c x' = ca_c x ∧ ca_p x' = ca_p x
def SameR (y y' : RA) : Prop := y'.2.1 = y.2.1 ∧ y'.2.2.2 = y.2.2.2
/-- a NAME is taken and made LOCAL -/
theorem j_name {w : List Nat} (hn : nmL (re_g E2) q (t.1 - q) = w) (V : KC E1 s x) (J : JJ E1 cr E2 w0 u q T t x y) (hk : T.2.1 = 2) (ht : ca_t x + 1 ≤ u + 1) : ∃ i s1 s2 x2 yl y2 q2 T2 t2, x_Pars_takeName (d1 + 7) 132 s = some (nC w, s1) ∧ gR s1 132 5 3 = some (ce_d E1) ∧ x_Draft_makeLocal (d1 + 7) (ce_d E1) (nC w) s1 = some (nI i, s2) ∧ x_Mod_name (d2 + 5) 160 (pm cr E2 y) = some (nV w, pm cr E2 y) ∧ x_Mod_let (d2 + 5) 160 (nV w) (pm cr E2 y) = some (nI i, pm cr E2 yl) ∧ x_Mod_step (d2 + 5) 160 (pm cr E2 yl) = some ((), pm cr E2 y2) ∧ KC E1 s2 x2 ∧ JJ E1 cr E2 w0 (u + 1) q2 T2 t2 x2 y2 ∧ i < ca_t x2 ∧ ca_t x ≤ ca_t x2 ∧ ca_t x2 ≤ ca_t x + 1 ∧ SameC x x2 ∧ SameR y y2 := by
  have n0 : ¬ T.2.1 = 0 := by rw [hk]; decide
  have n1 : ¬ T.2.1 = 1 := by rw [hk]; decide
  have hlt := J.lt n0 n1
  have hb := J.2.2.2.2.2
  have hw : okN w := by rw [← hn]; exact (J.tq.nm hk).1
  have nm := y_name (d := d2 + 5) J.er J.ar J.tq hk
  obtain ⟨s1, e1, V1⟩ := jj_takeName (d := d1) V J hk
  rw [hn] at nm e1
  obtain ⟨q2, T2, t2, J2, _⟩ := J.adv n0 n1
  obtain ⟨hf, hdis⟩ := J.2.2.2.2.1.find hw
  have ht0 : ca_t x = ra_t y := J.2.2.2.2.1.1
  rcases find_or (g := ra_l y) (k := ra_t y) (y := nV w) (by omega) with h | ⟨i, i1, i2, i3⟩
  · obtain ⟨s2, e2, V2⟩ := kc_makeNew (d := d1 + 5) (y := nC w) J.eo V1 (by show ca_t x + 1 ≤ _; omega) (by show s_find (ca_l x) (ca_t x) (nC w) < 0; rw [hf]; exact h)
    have J3 := J2.loc hw h (by show ca_t x + 1 ≤ _; omega) (by omega)
    rw [← rav_local] at J3
    exact ⟨ca_t x, s1, s2, _, raLocal y (nV w), _, q2, T2, t2, e1, kc_dr V1, e2, nm, by rw [ht0]; exact y_let0 J.er (by omega) hdis h, y_step (p := t.1) J.er J.ar.1 J.tq.2.2.2, V2, J3, Nat.lt_succ_self _, Nat.le_succ _, Nat.le_refl _, ⟨rfl, rfl, rfl, rfl⟩, ⟨rfl, rfl⟩⟩
  · have hn' : ¬ s_find (ra_l y) (ra_t y) (nV w) < 0 := by rw [i2]; exact nI_pos (by omega)
    have e2 := kc_makeOld (d := d1 + 6) (y := nC w) V1 (by show ¬ s_find (ca_l x) (ca_t x) (nC w) < 0; rw [hf]; exact hn')
    have e2' : x_Draft_makeLocal (d1 + 7) (ce_d E1) (nC w) s1 = some (s_find (ca_l x) (ca_t x) (nC w), s1) := e2
    have e3 := y_let1 (d := d2 + 4) (z := nV w) J.er (by omega) hdis hn'
    rw [hf, i2] at e2'
    rw [i2] at e3
    exact ⟨i, s1, s1, _, y, _, q2, T2, t2, e1, kc_dr V1, e2', nm, e3, jj_step J, V1, J2, by show i < ca_t x; omega, Nat.le_refl _, Nat.le_succ _, ⟨rfl, rfl, rfl, rfl⟩, ⟨rfl, rfl⟩⟩
theorem SameC.ag (h : SameC x x') : AGc x x' := ⟨by rw [h.1]; exact Nat.le_refl _, fun j _ => by rw [h.2.2.1], by rw [h.2.1]; exact Nat.le_refl _, fun j _ => by rw [h.2.2.2]⟩
theorem SameR.ag (h : SameR y y') : AGr y y' := by
  obtain ⟨h1, h2⟩ := h
  unfold AGr
  rw [show ra_m y' = ra_m y from congrArg (·.1) h1, show ra_v y' = ra_v y from congrArg (·.2.1) h1, show ra_s y' = ra_s y from congrArg (·.2.2.1) h1, show ra_q y' = ra_q y from congrArg (·.2.2.2) h1, show ra_p y' = ra_p y from congrArg (·.1.1) h2, show ra_u y' = ra_u y from congrArg (·.1.2) h2]
  exact ⟨Nat.le_refl _, fun _ _ => rfl, Nat.le_refl _, fun _ _ => rfl, Nat.le_refl _, fun _ _ => rfl⟩
theorem SameR.nums (h : SameR y y') : ra_m y' = ra_m y ∧ ra_v y' = ra_v y ∧ ra_p y' = ra_p y := ⟨congrArg (·.1) h.1, congrArg (·.2.1) h.1, congrArg (·.1.1) h.2⟩
theorem j_letS (hp : p ≤ 16) (hd1 : 12 * (16 - p) + 40 ≤ d1) (hd2 : 12 * (16 - p) + 40 ≤ d2) (V : KC E1 s x) (J : JJ E1 cr E2 w0 u q T t x y) (hV : V0 ≤ ra_v y) (hh : ca_h x ≤ 2 * u + 1) (hm : ra_m y ≤ 3 * u + 1) (hk : T.2.1 = 6) : OUT E1 cr E2 w0 (ca_h x) (4000 + 4 * (12 * (16 - p) + 34)) (QI V0 1 x y u) (x_Pars_letStatement_b (clP d1) d1 132 (nI p) s) (bnd (x_Mod_step d2 160 (pm cr E2 y)) fun v54 s53 => ((gI s53 160 14 6).bind fun v55 => (if v55 = 1 then (bnd (x_Mod_name d2 160 s53) fun v57 s56 => (bnd (x_Mod_let d2 160 v57 s56) fun v59 s58 => (bnd (x_Mod_step d2 160 s58) fun v61 s60 => (bnd (x_Mod_take d2 160 26 s60) fun v63 s62 => (if v63 = 0 then (some (0, s62)) else (bnd (clM d2 6 160 (nI p) 0 0 s62) fun v65 s64 => (if v65 = 0 then (some (0, s64)) else (bnd (x_Mod_put_II d2 160 2 v59 s64) fun v67 s66 => (bnd (x_Mod_take d2 160 68 s66) fun v69 s68 => (okB v69 (some (v69, s68)))))))))))) else (bnd (x_Mod_bad d2 160 s53) fun v71 s70 => (okB v71 (some (v71, s70))))))) := by
  obtain ⟨d1, rfl⟩ : ∃ k, d1 = k + 11 := ⟨d1 - 11, by omega⟩
  obtain ⟨d2, rfl⟩ : ∃ k, d2 = k + 11 := ⟨d2 - 11, by omega⟩
  have hb := J.2.2.2.2.2
  have n0 : ¬ T.2.1 = 0 := by rw [hk]; decide
  have n1 : ¬ T.2.1 = 1 := by rw [hk]; decide
  obtain ⟨s1, e1, V1⟩ := jj_take (d := d1 + 5) V J hk (by decide) (by decide)
  obtain ⟨q1, T1, t1, J1, _⟩ := J.adv n0 n1
  unfold x_Pars_letStatement_b
  rw [kc_gd V, e1, bnd_some, jj_step (d := d2 + 6) J, bnd_some, kc_dr V1, Option.bind_some, y_6 J.er, Option.bind_some]
  have agx : AGc x (cav E1 t x) := AGc.rfl'.lex
  have agy : AGr y (rav E2 t y) := AGr.rfl'.lex
  have tx : ca_t (cav E1 t x) = ca_t x := rfl
  have hx1 : ca_h (cav E1 t x) = ca_h x ∧ ca_k (cav E1 t x) = ca_k x := ⟨rfl, rfl⟩
  have hy1 : ra_m (rav E2 t y) = ra_m y ∧ ra_v (rav E2 t y) = ra_v y ∧ ra_p (rav E2 t y) = ra_p y := ⟨rfl, rfl, rfl⟩
  generalize cav E1 t x = x1 at V1 J1 agx tx hx1
  generalize rav E2 t y = y1 at J1 agy hy1 ⊢
  have hb1 := J1.2.2.2.2.2
  rw [J1.ar.2.1]
  by_cases c2 : T1.2.1 = 2
  · obtain ⟨i, s2, s3, x3, yl, y3, q3, T3, t3, a1, a2, a3, a4, a5, a6, V3, J3, hi, ht1, ht2, SC, SR'⟩ := j_name (d1 := d1 + 4) (d2 := d2 + 6) rfl V1 J1 c2 (by omega)
    have sn := SR'.nums
    have hb3 := J3.2.2.2.2.2
    rw [if_pos (J1.tq.name.mpr c2), a4, bnd_some, a5, bnd_some, a6, bnd_some, a1, bnd_some, a3, bnd_some]
    by_cases c61 : T3.2.1 = 61
    · have m0 : ¬ T3.2.1 = 0 := by rw [c61]; decide
      have m1 : ¬ T3.2.1 = 1 := by rw [c61]; decide
      obtain ⟨s4, e4, V4⟩ := jj_take (d := d1 + 5) V3 J3 c61 (by decide) (by decide)
      obtain ⟨q4, T4, t4, J4, _⟩ := J3.adv m0 m1
      rw [e4, bnd_some, jj_rtake (d := d2 + 5) (j := 26) J3 7 rfl (by decide) c61, bnd_some, if_neg (by decide)]
      have agx3 : AGc x (cav E1 t3 x3) := (agx.trans SC.ag).lex
      have agy3 : AGr y (rav E2 t3 y3) := (agy.trans SR'.ag).lex
      have nx : ca_h (cav E1 t3 x3) = ca_h x ∧ ca_k (cav E1 t3 x3) = ca_k x := ⟨SC.1.trans hx1.1, SC.2.1.trans hx1.2⟩
      have ny : ra_m (rav E2 t3 y3) = ra_m y ∧ ra_v (rav E2 t3 y3) = ra_v y ∧ ra_p (rav E2 t3 y3) = ra_p y := ⟨sn.1.trans hy1.1, sn.2.1.trans hy1.2.1, sn.2.2.trans hy1.2.2⟩
      have nt : i < ca_t (cav E1 t3 x3) ∧ ca_t x ≤ ca_t (cav E1 t3 x3) ∧ ca_t (cav E1 t3 x3) ≤ ca_t x + 1 := ⟨hi, by show ca_t x ≤ ca_t x3; omega, by show ca_t x3 ≤ _; omega⟩
      generalize cav E1 t3 x3 = x4 at V4 J4 agx3 nx nt
      generalize rav E2 t3 y3 = y4 at J4 agy3 ny ⊢
      rcases hx_all (V0 := V0) hp (d1 + 11) (d2 + 11) (by omega) (by omega) s4 _ _ _ _ _ _ V4 J4 (by omega) with ⟨s', x', y', u', q', T', t', r1, r2, V', J', hq⟩ | ⟨s', x', y', qf, r1, r2, D, g⟩
      · dsimp only at r1 r2
        have hb' := J'.2.2.2.2.2
        have hu' := J'.uq
        obtain ⟨⟨k1, k2, k3, k4, k5, k6⟩, ⟨D, k7, k8⟩, _⟩ := hq
        obtain ⟨s5, e5, V5⟩ := kc_add (d := d1 + 9) (op := 14) (ar := nI i) J.eo V' (by omega)
        rw [r1, r2, bnd_some, bnd_some, if_neg (by decide), kc_dr V', Option.bind_some, e5, bnd_some, y_put2 J.er (by omega), bnd_some]
        have J5 : JJ E1 cr E2 w0 u' q' T' t' (caAdd x' 14 (nI i)) (raPut (raPut y' 2) (nI i)) := J'.chg ⟨rfl, rfl, rfl, rfl⟩ ⟨rfl, rfl⟩ (by
          show ca_h x' + 1 ≤ _ ∧ ca_k x' ≤ _ ∧ ra_m y' + 1 + 1 ≤ _ ∧ ra_v y' ≤ _ ∧ ra_p y' ≤ _
          omega)
        have k21 := k2.1
        refine j_semi (d1 := d1 + 5) (d2 := d2 + 5) V5 J5 (by show ca_h x ≤ ca_h x' + 1; omega) (by omega) (QI.lexS ?_)
        refine ⟨by omega, (agx3.trans k2).add, ((agy3.trans k3).put).put, k4.trans ny.2.2, ⟨by show ca_t x ≤ ca_t x'; omega, by show 5 * ca_t x' + u ≤ _; omega⟩, ?_, sLet i D, ?_, ?_⟩
        · show ca_h x' + 1 + 1 + 2 * u ≤ _ ∧ ca_k x' + 2 * u ≤ _ ∧ ra_m y' + 1 + 1 + 1 + 3 * u ≤ _ ∧ ra_v y' + u ≤ _
          omega
        · rw [← nx.1]
          exact ImS_let k2.1 (k7.ext (by show ca_t x4 ≤ ca_t x'; omega) (by omega) (Nat.le_refl _) (fun j _ hj => (AGc.rfl'.add (op := 14) (ar := nI i)).2.1 j hj) (fun _ _ => rfl)) (by show i < ca_t x'; omega) up20 up21
        · rw [← ny.1]
          exact IrS_let k3.1 (k8.ext (by show ca_t x4 ≤ ca_t x'; omega) (by omega) (Nat.le_refl _) (Nat.le_refl _) (fun j _ hj => (AGr.rfl'.put (v := 2) |>.put (v := nI i)).2.1 j hj) (fun _ _ _ => rfl)) (by show i < ca_t x'; omega) (by omega) up10 up11
      · dsimp only at r1 r2
        obtain ⟨s5, x5, e5, D5⟩ := dd_add (d := d1 + 9) (op := 14) (ar := nI i) D (by omega)
        obtain ⟨s6, x6, e6, D6⟩ := dd_take (d := d1 + 9) (k := 59) D5 (by decide)
        rw [r1, r2, bnd_some, bnd_some, if_pos rfl, kc_dr D.1, Option.bind_some, e5, bnd_some, e6, bnd_some]
        exact OUT.no' D6 g (by omega) (by omega)
    · obtain ⟨s4, e4, D4⟩ := jj_takeNo (d := d1 + 9) V3 J3 c61
      obtain ⟨s5, x5, e5, D5⟩ := dd_expr (d := d1) (dp := nI p) D4
      obtain ⟨s6, x6, e6, D6⟩ := dd_add (d := d1 + 9) (op := 14) (ar := nI i) D5 (by omega)
      obtain ⟨s7, x7, e7, D7⟩ := dd_take (d := d1 + 9) (k := 59) D6 (by decide)
      rw [e4, bnd_some, e5, bnd_some, kc_dr D5.1, Option.bind_some, e6, bnd_some, e7, bnd_some, jj_rtakeNo (d := d2 + 5) (j := 26) J3 7 rfl (by decide) c61, bnd_some, if_pos rfl]
      exact OUT.no' D7 J3.rf (by have := SC.1; show ca_h x ≤ ca_h x3; omega) (by omega)
  · obtain ⟨s2, n2, e2, D2⟩ := jj_takeNameNo (d := d1 + 8) V1 J1 c2
    obtain ⟨s3, x3, n3, e3, D3⟩ := dd_local (d := d1 + 9) (y := n2) D2 (by omega)
    obtain ⟨s4, x4, e4, D4⟩ := dd_take (d := d1 + 9) (k := 61) D3 (by decide)
    obtain ⟨s5, x5, e5, D5⟩ := dd_expr (d := d1) (dp := nI p) D4
    obtain ⟨s6, x6, e6, D6⟩ := dd_add (d := d1 + 9) (op := 14) (ar := n3) D5 (by omega)
    obtain ⟨s7, x7, e7, D7⟩ := dd_take (d := d1 + 9) (k := 59) D6 (by decide)
    rw [e2, bnd_some, e3, bnd_some, e4, bnd_some, e5, bnd_some, kc_dr D5.1, Option.bind_some, e6, bnd_some, e7, bnd_some, if_neg (fun h => c2 (J1.tq.name.mp h)), jj_bad J1, bnd_some, okB_of (Or.inl rfl)]
    exact OUT.no' D7 J1.rf (by omega) (by omega)
end
