section
variable {E1 : CE} {cr : Nat} {E2 : RE} {w0 : W2} {u u1 u2 v1 q d d1 d2 j V0 A B A' B' p m CL i c : Nat} {T : TKc} {t : TKr} {x x' x'' x1 x2 : CA} {y y' y'' y1 y2 : RA} {s s' : HS} {K dp op opr ar l t0 v : Int32} {w : Bool} {Q : CA → RA → Nat → Prop}
theorem j_abort (hd1 : 40 ≤ d1) (hd2 : 40 ≤ d2) (hB : 3200 ≤ B) (hB2 : B ≤ 15000) (V : KC E1 s x) (J : JJ E1 cr E2 w0 u q T t x y) (hh : ca_h x ≤ 2 * u + 1) (hm : ra_m y ≤ 3 * u + 1) (hk : T.2.1 = 11) : OUT E1 cr E2 w0 (ca_h x) B (QI V0 1 x y u) (bnd (x_Pars_take d1 132 11 s) fun v23 s22 => ((gR s22 132 5 3).bind fun v24 => (bnd (x_Draft_add d1 v24 7 0 s22) fun v26 s25 => (bnd (x_Pars_take d1 132 59 s25) fun v28 s27 => (some ((), s27)))))) (bnd (x_Mod_step d2 160 (pm cr E2 y)) fun v28 s27 => (bnd (x_Mod_put_I d2 160 25 s27) fun v30 s29 => (bnd (x_Mod_take d2 160 68 s29) fun v32 s31 => (okB v32 (some (v32, s31)))))) := by
  obtain ⟨d1, rfl⟩ : ∃ k, d1 = k + 11 := ⟨d1 - 11, by omega⟩
  obtain ⟨d2, rfl⟩ : ∃ k, d2 = k + 11 := ⟨d2 - 11, by omega⟩
  have hb := J.2.2.2.2.2
  have n0 : ¬ T.2.1 = 0 := by rw [hk]; decide
  have n1 : ¬ T.2.1 = 1 := by rw [hk]; decide
  have hlt := J.lt n0 n1
  obtain ⟨s1, e1, V1⟩ := jj_take (d := d1 + 5) V J hk (by decide) (by decide)
  obtain ⟨q1, T1, t1, J1, _⟩ := J.adv n0 n1
  rw [e1, bnd_some, jj_step (d := d2 + 6) J, bnd_some]
  have agx : AGc x (cav E1 t x) := AGc.rfl'.lex
  have agy : AGr y (rav E2 t y) := AGr.rfl'.lex
  have tx : ca_t (cav E1 t x) = ca_t x := rfl
  have hx1 : ca_h (cav E1 t x) = ca_h x ∧ ca_k (cav E1 t x) = ca_k x := ⟨rfl, rfl⟩
  have hy1 : ra_m (rav E2 t y) = ra_m y ∧ ra_v (rav E2 t y) = ra_v y ∧ ra_p (rav E2 t y) = ra_p y := ⟨rfl, rfl, rfl⟩
  generalize cav E1 t x = x1 at V1 J1 agx tx hx1
  generalize rav E2 t y = y1 at J1 agy hy1 ⊢
  have hb1 := J1.2.2.2.2.2
  obtain ⟨s2, e2, V2⟩ := kc_add (d := d1 + 9) (op := 7) (ar := 0) J.eo V1 (by omega)
  rw [kc_dr V1, Option.bind_some, e2, bnd_some, y_put J.er (by omega), bnd_some]
  have J2 : JJ E1 cr E2 w0 (u + 1) q1 T1 t1 (caAdd x1 7 0) (raPut y1 25) := J1.chg ⟨rfl, rfl, rfl, rfl⟩ ⟨rfl, rfl⟩ (by
    show ca_h x1 + 1 ≤ _ ∧ ca_k x1 ≤ _ ∧ ra_m y1 + 1 ≤ _ ∧ ra_v y1 ≤ _ ∧ ra_p y1 ≤ _
    omega)
  refine j_semi (d1 := d1 + 5) (d2 := d2 + 5) V2 J2 (by show ca_h x ≤ ca_h x1 + 1; omega) (by omega) (QI.lexS ?_)
  refine ⟨by omega, agx.add, agy.put, hy1.2.2, ⟨by show ca_t x ≤ ca_t x1; omega, by show 5 * ca_t x1 + u ≤ _; omega⟩, ?_, sAbort, ?_, ?_⟩
  · show ca_h x1 + 1 + 1 + 2 * u ≤ _ ∧ ca_k x1 + 2 * u ≤ _ ∧ ra_m y1 + 1 + 1 + 3 * u ≤ _ ∧ ra_v y1 + u ≤ _
    omega
  · rw [← hx1.1]
    exact ImS_abort up20
  · rw [← hy1.1]
    exact IrS_abort upA
theorem j_print (hp : p ≤ 16) (hd1 : 12 * (16 - p) + 40 ≤ d1) (hd2 : 12 * (16 - p) + 40 ≤ d2) (V : KC E1 s x) (J : JJ E1 cr E2 w0 u q T t x y) (hV : V0 ≤ ra_v y) (hh : ca_h x ≤ 2 * u + 1) (hm : ra_m y ≤ 3 * u + 1) (hk : T.2.1 = 12) : OUT E1 cr E2 w0 (ca_h x) (4000 + 4 * (12 * (16 - p) + 34)) (QI V0 1 x y u) (bnd (x_Pars_take d1 132 12 s) fun v30 s29 => (bnd (cU (clP d1 8 132 (nI p) 0 0 s29)) fun v32 s31 => ((gR s31 132 5 3).bind fun v33 => (bnd (x_Draft_add d1 v33 9 0 s31) fun v35 s34 => (bnd (x_Pars_take d1 132 59 s34) fun v37 s36 => (some ((), s36))))))) (bnd (x_Mod_step d2 160 (pm cr E2 y)) fun v20 s19 => (bnd (clM d2 6 160 (nI p) 0 0 s19) fun v22 s21 => (if v22 = 0 then (some (0, s21)) else (bnd (x_Mod_put_I d2 160 24 s21) fun v24 s23 => (bnd (x_Mod_take d2 160 68 s23) fun v26 s25 => (okB v26 (some (v26, s25)))))))) := by
  obtain ⟨d1, rfl⟩ : ∃ k, d1 = k + 11 := ⟨d1 - 11, by omega⟩
  obtain ⟨d2, rfl⟩ : ∃ k, d2 = k + 11 := ⟨d2 - 11, by omega⟩
  have hb := J.2.2.2.2.2
  have n0 : ¬ T.2.1 = 0 := by rw [hk]; decide
  have n1 : ¬ T.2.1 = 1 := by rw [hk]; decide
  obtain ⟨s1, e1, V1⟩ := jj_take (d := d1 + 5) V J hk (by decide) (by decide)
  obtain ⟨q1, T1, t1, J1, _⟩ := J.adv n0 n1
  rw [e1, bnd_some, jj_step (d := d2 + 6) J, bnd_some]
  have agx : AGc x (cav E1 t x) := AGc.rfl'.lex
  have agy : AGr y (rav E2 t y) := AGr.rfl'.lex
  have tx : ca_t (cav E1 t x) = ca_t x := rfl
  have hx1 : ca_h (cav E1 t x) = ca_h x ∧ ca_k (cav E1 t x) = ca_k x := ⟨rfl, rfl⟩
  have hy1 : ra_m (rav E2 t y) = ra_m y ∧ ra_v (rav E2 t y) = ra_v y ∧ ra_p (rav E2 t y) = ra_p y := ⟨rfl, rfl, rfl⟩
  generalize cav E1 t x = x1 at V1 J1 agx tx hx1
  generalize rav E2 t y = y1 at J1 agy hy1 ⊢
  have hb1 := J1.2.2.2.2.2
  rcases hx_all (V0 := V0) hp (d1 + 11) (d2 + 11) (by omega) (by omega) s1 _ _ _ _ _ _ V1 J1 (by omega) with ⟨s', x', y', u', q', T', t', r1, r2, V', J', hq⟩ | ⟨s', x', y', qf, r1, r2, D, g⟩
  · dsimp only at r1 r2
    have hb' := J'.2.2.2.2.2
    have hu' := J'.uq
    obtain ⟨⟨k1, k2, k3, k4, k5, k6⟩, ⟨D, k7, k8⟩, _⟩ := hq
    obtain ⟨s3, e3, V3⟩ := kc_add (d := d1 + 9) (op := 9) (ar := 0) J.eo V' (by omega)
    rw [r1, r2, bnd_some, bnd_some, if_neg (by decide), kc_dr V', Option.bind_some, e3, bnd_some, y_put J.er (by omega), bnd_some]
    have J2 : JJ E1 cr E2 w0 u' q' T' t' (caAdd x' 9 0) (raPut y' 24) := J'.chg ⟨rfl, rfl, rfl, rfl⟩ ⟨rfl, rfl⟩ (by
      show ca_h x' + 1 ≤ _ ∧ ca_k x' ≤ _ ∧ ra_m y' + 1 ≤ _ ∧ ra_v y' ≤ _ ∧ ra_p y' ≤ _
      omega)
    have k21 := k2.1
    refine j_semi (d1 := d1 + 5) (d2 := d2 + 5) V3 J2 (by show ca_h x ≤ ca_h x' + 1; omega) (by omega) (QI.lexS ?_)
    refine ⟨by omega, (agx.trans k2).add, (agy.trans k3).put, k4.trans hy1.2.2, ⟨by show ca_t x ≤ ca_t x'; omega, by show 5 * ca_t x' + u ≤ _; omega⟩, ?_, sPrint D, ?_, ?_⟩
    · show ca_h x' + 1 + 1 + 2 * u ≤ _ ∧ ca_k x' + 2 * u ≤ _ ∧ ra_m y' + 1 + 1 + 3 * u ≤ _ ∧ ra_v y' + u ≤ _
      omega
    · rw [← hx1.1]
      exact ImS_print k2.1 (k7.ext (by show ca_t x1 ≤ ca_t x'; omega) (by omega) (Nat.le_refl _) (fun j _ hj => (AGc.rfl'.add (op := 9) (ar := 0)).2.1 j hj) (fun _ _ => rfl)) up20
    · rw [← hy1.1]
      exact IrS_print k3.1 (by omega) (k8.ext (by show ca_t x1 ≤ ca_t x'; omega) (by omega) (Nat.le_refl _) (Nat.le_refl _) (fun j _ hj => (AGr.rfl'.put (v := 24)).2.1 j hj) (fun _ _ _ => rfl)) upA
  · dsimp only at r1 r2
    obtain ⟨s3, x3, e3, D3⟩ := dd_add (d := d1 + 9) (op := 9) (ar := 0) D (by omega)
    obtain ⟨s4, x4, e4, D4⟩ := dd_take (d := d1 + 9) (k := 59) D3 (by decide)
    rw [r1, r2, bnd_some, bnd_some, if_pos rfl, kc_dr D.1, Option.bind_some, e3, bnd_some, e4, bnd_some]
    exact OUT.no' D4 g (by omega) (by omega)
/-- a LOCAL on both sides, old or new -/
theorem j_local {w : List Nat} {q1 : Nat} {T1 : TKc} {t1 : TKr} {s1 : HS} (hw : okN w) (V : KC E1 s1 x1) (J : JJ E1 cr E2 w0 u1 q1 T1 t1 x1 y1) (ht : ca_t x1 + 1 ≤ u1) (hu : u1 ≤ 1500) : ∃ i s2 x2 y2, x_Draft_makeLocal (d1 + 2) (ce_d E1) (nC w) s1 = some (nI i, s2) ∧ x_Mod_let (d2 + 1) 160 (nV w) (pm cr E2 y1) = some (nI i, pm cr E2 y2) ∧ KC E1 s2 x2 ∧ JJ E1 cr E2 w0 u1 q1 T1 t1 x2 y2 ∧ i < ca_t x2 ∧ ca_t x1 ≤ ca_t x2 ∧ ca_t x2 ≤ ca_t x1 + 1 ∧ (x2.1, x2.2.1, x2.2.2.1, x2.2.2.2.1, x2.2.2.2.2.1, x2.2.2.2.2.2.2.1, x2.2.2.2.2.2.2.2.1) = (x1.1, x1.2.1, x1.2.2.1, x1.2.2.2.1, x1.2.2.2.2.1, x1.2.2.2.2.2.2.1, x1.2.2.2.2.2.2.2.1) ∧ (y2.1, y2.2.1, y2.2.2.2) = (y1.1, y1.2.1, y1.2.2.2) := by
  have hb := J.2.2.2.2.2
  obtain ⟨hf, hdis⟩ := J.2.2.2.2.1.find hw
  have ht0 : ca_t x1 = ra_t y1 := J.2.2.2.2.1.1
  rcases find_or (g := ra_l y1) (k := ra_t y1) (y := nV w) (by omega) with h | ⟨i, i1, i2, i3⟩
  · obtain ⟨s2, e2, V2⟩ := kc_makeNew (d := d1) (y := nC w) J.eo V (by omega) (by rw [hf]; exact h)
    refine ⟨ca_t x1, s2, _, raLocal y1 (nV w), e2, by rw [ht0]; exact y_let0 J.er (by omega) hdis h, V2, ?_, Nat.lt_succ_self _, Nat.le_succ _, Nat.le_refl _, rfl, rfl⟩
    obtain ⟨k1, k2, k3, k4, ⟨k5, lw, k6, k7⟩, k8⟩ := J
    refine ⟨k1, k2, k3, k4, ⟨by show ca_t x1 + 1 = ra_t y1 + 1; omega, fun i => if i = ca_t x1 then w else lw i, fun i hi => ?_, fun i j hi hj e => ?_⟩, ?_⟩
    · have hi' : i < ca_t x1 + 1 := hi
      show okN (if i = ca_t x1 then w else lw i) ∧ upL (ca_l x1) (ca_t x1) (nC w) i = nC (if i = ca_t x1 then w else lw i) ∧ upL (ra_l y1) (ra_t y1) (nV w) i = nV (if i = ca_t x1 then w else lw i)
      unfold upL
      by_cases q : i = ca_t x1
      · rw [if_pos q, if_pos q, if_pos (by omega)]
        exact ⟨hw, rfl, rfl⟩
      · rw [if_neg q, if_neg q, if_neg (by omega)]
        exact k6 i (by omega)
    · have hi' : i < ca_t x1 + 1 := hi
      have hj' : j < ca_t x1 + 1 := hj
      have no : ∀ n, n < ca_t x1 → ¬ lw n = w := fun n hn e => by
        have a := (k6 n hn).2.2
        rcases s_fd_neg (g := ra_l y1) (y := nV w) (ra_t y1) 0 (by omega) with z | ⟨j, _, z2, z3, z4, _⟩
        · exact z.2.2 n (by omega) (by omega) (by rw [a, e])
        · have : s_find (ra_l y1) (ra_t y1) (nV w) = nI j := z3
          rw [this] at h
          exact nI_pos (by omega) h
      dsimp only at e
      by_cases qi : i = ca_t x1
      · by_cases qj : j = ca_t x1
        · omega
        · rw [if_pos qi, if_neg qj] at e
          exact absurd e.symm (no j (by omega))
      · by_cases qj : j = ca_t x1
        · rw [if_neg qi, if_pos qj] at e
          exact absurd e (no i (by omega))
        · rw [if_neg qi, if_neg qj] at e
          exact k7 i j (by omega) (by omega) e
    · show ca_h x1 ≤ _ ∧ ca_k x1 ≤ _ ∧ ca_t x1 + 1 ≤ _ ∧ ra_m y1 ≤ _ ∧ ra_v y1 ≤ _ ∧ ra_p y1 ≤ _
      omega
  · have hn : ¬ s_find (ra_l y1) (ra_t y1) (nV w) < 0 := by rw [i2]; exact nI_pos (by omega)
    have e1 := kc_makeOld (d := d1 + 1) (y := nC w) V (by rw [hf]; exact hn)
    have e2 := y_let1 (d := d2) (z := nV w) J.er (by omega) hdis hn
    rw [hf, i2] at e1
    rw [i2] at e2
    exact ⟨i, s1, x1, y1, e1, e2, V, J, by omega, Nat.le_refl _, Nat.le_succ _, rfl, rfl⟩
end
