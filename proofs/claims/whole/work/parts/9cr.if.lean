/-! if, else -/
section
variable {E1 : CE} {cr : Nat} {E2 : RE} {w0 : W2} {u u' u1 u2 v1 q q' d d1 d2 j V0 A B A' B' p m CL i c h e wd qf : Nat} {T T' : TKc} {t t' : TKr} {x x' x'' x1 x2 : CA} {y y' y'' y1 y2 : RA} {s s' s1 : HS} {K dp op opr ar l t0 v l4 t1 : Int32} {w : Bool} {Q : CA → RA → Nat → Prop}
theorem j_if (hB : HB E1 cr E2 w0 V0 p) (hp : p ≤ 16) (hd1 : 12 * (16 - p) + 41 ≤ d1) (hd2 : 12 * (16 - p) + 41 ≤ d2) (V : KC E1 s x) (J : JJ E1 cr E2 w0 u q T t x y) (hV : V0 ≤ ra_v y) (hh : ca_h x ≤ 2 * u + 1) (hm : ra_m y ≤ 3 * u + 1) (hk : T.2.1 = 7) : OUT E1 cr E2 w0 (ca_h x) (4000 + 4 * (12 * (16 - p) + 44)) (QI V0 1 x y u) (x_Pars_ifStatement_b (clP d1) d1 132 (nI p) s) (x_Mod_branch_b (clM d2) d2 160 (nI p) (pm cr E2 y)) := by
  obtain ⟨d1, rfl⟩ : ∃ k, d1 = k + 12 := ⟨d1 - 12, by omega⟩
  obtain ⟨d2, rfl⟩ : ∃ k, d2 = k + 12 := ⟨d2 - 12, by omega⟩
  have hb := J.2.2.2.2.2
  have n0 : ¬ T.2.1 = 0 := by rw [hk]; decide
  have n1 : ¬ T.2.1 = 1 := by rw [hk]; decide
  obtain ⟨s1, e1, V1⟩ := jj_take (d := d1 + 6) V J hk (by decide) (by decide)
  obtain ⟨q1, T1, t1, J1, _⟩ := J.adv n0 n1
  unfold x_Pars_ifStatement_b x_Mod_branch_b
  rw [kc_gd V, y_gd J.er, e1, bnd_some, jj_step (d := d2 + 7) J, bnd_some, c_cnd, r_tst]
  have agx : AGc x (cav E1 t x) := AGc.rfl'.lex
  have agy : AGr y (rav E2 t y) := AGr.rfl'.lex
  have tx : ca_t (cav E1 t x) = ca_t x := rfl
  have hx1 : ca_h (cav E1 t x) = ca_h x ∧ ca_k (cav E1 t x) = ca_k x := ⟨rfl, rfl⟩
  have hy1 : ra_m (rav E2 t y) = ra_m y ∧ ra_v (rav E2 t y) = ra_v y ∧ ra_p (rav E2 t y) = ra_p y := ⟨rfl, rfl, rfl⟩
  generalize cav E1 t x = x1 at V1 J1 agx tx hx1 ⊢
  generalize rav E2 t y = y1 at J1 agy hy1 ⊢
  rcases j_cond (V0 := V0) (p := p) hp (d1 := d1 + 11) (d2 := d2 + 11) (by omega) (by omega) V1 J1 (by omega) with ⟨s2, x2, y2, u2, q2, T2, t2, r1, r2, V2, J2, hq⟩ | ⟨s2, x2, y2, qf, h2, r1, r2, a2, D2, gf⟩
  · obtain ⟨k1, k2, k3, k4, k5, k6, Dc, k7, k8⟩ := hq
    have hb2 := J2.2.2.2.2.2
    have hu2 := J2.uq
    have k21 := k2.1
    have k31 := k3.1
    have k33 := k3.2.2.1
    rw [r1, r2, bnd_some, bnd_some, if_neg (by decide), c_blk, y_put J.er (by omega), bnd_some, y_put J.er (by show ra_m y2 + 1 < 6000; omega), bnd_some, r_blk]
    have J3 : JJ E1 cr E2 w0 u2 q2 T2 t2 (caAdd x2 2 0) (raPut (raPut y2 15) 0) := J2.chg ⟨rfl, rfl, rfl, rfl⟩ ⟨rfl, rfl⟩ (by
      show ca_h x2 + 1 ≤ _ ∧ ca_k x2 ≤ _ ∧ ra_m y2 + 1 + 1 ≤ _ ∧ ra_v y2 ≤ _ ∧ ra_p y2 ≤ _
      omega)
    rcases hB (d1 + 11) (d2 + 11) (by omega) (by omega) s2 _ _ _ _ _ _ V2 J3 (by show V0 ≤ ra_v y2; omega) (by show ca_h x2 + 1 ≤ _; omega) (by show ra_m y2 + 1 + 1 ≤ _; omega) with ⟨s4, x4, y4, u4, q4, T4, t4, r3, r4, V4, J4, hq4⟩ | ⟨s4, x4, y4, qf, r3, r4, D4, gf⟩
    · dsimp only at r3 r4
      obtain ⟨g1, g2, g3, g4, g5, g6, Db, g7, g8⟩ := hq4
      have hb4 := J4.2.2.2.2.2
      have hu4 := J4.uq
      have g21 : ca_h x2 + 1 ≤ ca_h x4 := g2.1
      have g31 : ra_m y2 + 2 ≤ ra_m y4 := g3.1
      have g33 : ra_v y2 ≤ ra_v y4 := g3.2.2.1
      have g5' : ca_t x2 ≤ ca_t x4 ∧ 5 * ca_t x4 + u2 ≤ 5 * ca_t x2 + u4 := g5
      have g6' : ca_h x4 + 0 + 2 * u2 ≤ ca_h x2 + 1 + 2 * u4 ∧ ca_k x4 + 2 * u2 ≤ ca_k x2 + 2 * u4 ∧ ra_m y4 + 0 + 3 * u2 ≤ ra_m y2 + 2 + 3 * u4 ∧ ra_v y4 + u2 ≤ ra_v y2 + u4 := g6
      have ac : AGc x x4 := ((agx.trans k2).add).trans g2
      have ar' : AGr y y4 := ((agy.trans k3).put.put).trans g3
      rw [r3, r4, bnd_some, bnd_some, if_neg (by decide), kc_lx V4, Option.bind_some, kc_kind V4, bnd_some, J4.kd, J4.is (d := d2 + 8) (K := 8) 30 rfl (by decide) rfl, bnd_some]
      have oc : ∀ j, j < 2 * ca_h x2 → ca_c x4 j = ca_c x2 j := fun j hj => (g2.2.1 j (by show j < 2 * (ca_h x2 + 1); omega)).trans ((AGc.rfl'.add (op := 2) (ar := 0)).2.1 j hj)
      have or' : ∀ j, j < ra_m y2 → ra_s y4 j = ra_s y2 j := fun j hj => (g3.2.1 j (by show j < ra_m y2 + 1 + 1; omega)).trans ((AGr.rfl'.put (v := 15) |>.put (v := 0)).2.1 j hj)
      have o2 : ca_c x4 (2 * ca_h x2) = 2 := (g2.2.1 _ (by show _ < 2 * (ca_h x2 + 1); omega)).trans up20
      have o15 : ra_s y4 (ra_m y2) = 15 := (g3.2.1 _ (by show _ < ra_m y2 + 1 + 1; omega)).trans ((AGr.rfl' (y := raPut y2 15) |>.put (v := 0)).2.1 _ (by show _ < ra_m y2 + 1; omega) |>.trans upA)
      by_cases c8 : T4.2.1 = 8
      · rw [if_pos c8, if_pos c8, if_neg (by decide)]
        have z0 : ¬ T4.2.1 = 0 := by rw [c8]; decide
        have z1 : ¬ T4.2.1 = 1 := by rw [c8]; decide
        obtain ⟨s5, e5, V5⟩ := kc_add (d := d1 + 10) (op := 1) (ar := 0) J.eo V4 (by omega)
        obtain ⟨s6, e6, V6⟩ := kc_aim (d := d1 + 11) (a := ca_h x2) J.eo V5 (by show ca_h x2 < ca_h x4 + 1; omega)
        have J6 : JJ E1 cr E2 w0 u4 q4 T4 t4 (caAim (caAdd x4 1 0) (ca_h x2)) y4 := J4.chg ⟨rfl, rfl, rfl, rfl⟩ ⟨rfl, rfl⟩ (by
          show ca_h x4 + 1 ≤ _ ∧ ca_k x4 ≤ _ ∧ ra_m y4 ≤ _ ∧ ra_v y4 ≤ _ ∧ ra_p y4 ≤ _
          omega)
        obtain ⟨s7, e7, V7⟩ := jj_take (d := d1 + 6) V6 J6 c8 (by decide) (by decide)
        obtain ⟨q7, T7, t7, J7, _⟩ := J6.adv z0 z1
        rw [kc_dr V4, Option.bind_some, kc_here V4, bnd_some, kc_dr V4, Option.bind_some, e5, bnd_some, kc_dr V5, Option.bind_some, e6, bnd_some, e7, bnd_some, c_blk, jj_step (d := d2 + 7) J6, bnd_some]
        have bgx : AGc (caAim (caAdd x4 1 0) (ca_h x2)) (cav E1 t4 (caAim (caAdd x4 1 0) (ca_h x2))) := AGc.rfl'.lex
        have bgy : AGr y4 (rav E2 t4 y4) := AGr.rfl'.lex
        have bx : ca_t (cav E1 t4 (caAim (caAdd x4 1 0) (ca_h x2))) = ca_t x4 := rfl
        have bx1 : ca_h (cav E1 t4 (caAim (caAdd x4 1 0) (ca_h x2))) = ca_h x4 + 1 ∧ ca_k (cav E1 t4 (caAim (caAdd x4 1 0) (ca_h x2))) = ca_k x4 := ⟨rfl, rfl⟩
        have by1 : ra_m (rav E2 t4 y4) = ra_m y4 ∧ ra_v (rav E2 t4 y4) = ra_v y4 ∧ ra_p (rav E2 t4 y4) = ra_p y4 := ⟨rfl, rfl, rfl⟩
        generalize cav E1 t4 (caAim (caAdd x4 1 0) (ca_h x2)) = x6 at V7 J7 bgx bx bx1
        generalize rav E2 t4 y4 = y6 at J7 bgy by1 ⊢
        have hb7 := J7.2.2.2.2.2
        rw [y_put J.er (by omega), bnd_some, y_put J.er (by show ra_m y6 + 1 < 6000; omega), bnd_some, y_22 J.er, Option.bind_some, y_c0 J.er, Option.bind_some, Option.bind_some, y_c2 J.er, Option.bind_some]
        show OUT _ _ _ _ _ _ _ _ (Option.bind (sV _ .int _ (nI (ra_m y2 + 1)) _) _)
        rw [y_sS J.er (by omega), Option.bind_some, r_blk]
        have J8 : JJ E1 cr E2 w0 (u4 + 1) q7 T7 t7 x6 (raSet (raPut (raPut y6 14) 0) (ra_m y2 + 1) (nI (ra_m y6 + 1 + 1))) := J7.chg ⟨rfl, rfl, rfl, rfl⟩ ⟨rfl, rfl⟩ (by
          show ca_h x6 ≤ _ ∧ ca_k x6 ≤ _ ∧ ra_m y6 + 1 + 1 ≤ _ ∧ ra_v y6 ≤ _ ∧ ra_p y6 ≤ _
          omega)
        rcases hB (d1 + 11) (d2 + 11) (by omega) (by omega) s7 _ _ _ _ _ _ V7 J8 (by show V0 ≤ ra_v y6; omega) (by omega) (by show ra_m y6 + 1 + 1 ≤ _; omega) with ⟨s8, x8, y8, u8, q8, T8, t8, r5, r6, V8, J9, hq8⟩ | ⟨s8, x8, y8, qf, r5, r6, D8, gf⟩
        · dsimp only at r5 r6
          obtain ⟨f1, f2, f3, f4, f5, f6, De, f7, f8⟩ := hq8
          have hb8 := J9.2.2.2.2.2
          have hu8 := J9.uq
          have f21 : ca_h x4 + 1 ≤ ca_h x8 := by have := f2.1; omega
          have f31 : ra_m y4 + 2 ≤ ra_m y8 := by have := f3.1; have e : ra_m y6 + 1 + 1 ≤ ra_m y8 := this; omega
          have f33 : ra_v y6 ≤ ra_v y8 := f3.2.2.1
          have f23 : ca_k x6 ≤ ca_k x8 := f2.2.2.1
          have f6' : ca_h x8 + 0 + 2 * (u4 + 1) ≤ ca_h x6 + 2 * u8 ∧ ca_k x8 + 2 * (u4 + 1) ≤ ca_k x6 + 2 * u8 ∧ ra_m y8 + 0 + 3 * (u4 + 1) ≤ ra_m y6 + 1 + 1 + 3 * u8 ∧ ra_v y8 + (u4 + 1) ≤ ra_v y6 + u8 := f6
          obtain ⟨s9, e9, V9⟩ := kc_aim (d := d1 + 11) (a := ca_h x4) J.eo V8 (by omega)
          rw [r5, r6, bnd_some, bnd_some, if_neg (by decide), kc_dr V8, Option.bind_some, e9, bnd_some, y_22 J.er, Option.bind_some, y_c0 J.er, Option.bind_some, Option.bind_some, y_c2 J.er, Option.bind_some]
          show OUT _ _ _ _ _ _ _ _ (Option.bind (sV _ .int _ (nI (ra_m y6 + 1)) _) _)
          rw [y_sS J.er (by omega), Option.bind_some]
          have J10 : JJ E1 cr E2 w0 u8 q8 T8 t8 (caAim x8 (ca_h x4)) (raSet y8 (ra_m y6 + 1) (nI (ra_m y8))) := J9.chg ⟨rfl, rfl, rfl, rfl⟩ ⟨rfl, rfl⟩ (by
            show ca_h x8 ≤ _ ∧ ca_k x8 ≤ _ ∧ ra_m y8 ≤ _ ∧ ra_v y8 ≤ _ ∧ ra_p y8 ≤ _
            omega)
          have ac8 : AGc x x8 := (((ac.add (op := 1) (ar := 0)).aim (a := ca_h x2) (by omega)).trans bgx).trans f2
          have ar8 : AGr y y8 := (((ar'.trans bgy).put (v := 14) |>.put (v := 0)).set (a := ra_m y2 + 1) (v := nI (ra_m y6 + 1 + 1)) (by omega)).trans f3
          have p1 : ∀ j, j < 2 * (ca_h x4 + 1) → ca_c x8 j = upI (ca_c (caAdd x4 1 0)) (2 * ca_h x2 + 1) (nI (ca_h x4 + 1)) j := fun j hj => (f2.2.1 j (by omega)).trans (bgx.2.1 j hj)
          have p2 : ∀ j, j < ra_m y4 + 2 → ra_s y8 j = upI (upI (upI (ra_s y6) (ra_m y6) 14) (ra_m y6 + 1) 0) (ra_m y2 + 1) (nI (ra_m y6 + 1 + 1)) j := fun j hj => f3.2.1 j (by show j < ra_m y6 + 1 + 1; omega)
          have fc : ∀ j, ¬ j = 2 * ca_h x2 + 1 → j < 2 * ca_h x4 → ca_c (caAim x8 (ca_h x4)) j = ca_c x4 j := fun j h1 h2 => (upN (by omega)).trans ((p1 j (by omega)).trans ((upN h1).trans ((AGc.rfl'.add (op := 1) (ar := 0)).2.1 j h2)))
          have fr : ∀ j, ¬ j = ra_m y2 + 1 → j < ra_m y4 → ra_s (raSet y8 (ra_m y6 + 1) (nI (ra_m y8))) j = ra_s y4 j := fun j h1 h2 => (upN (by omega)).trans ((p2 j (by omega)).trans ((upN h1).trans ((upN (by omega)).trans ((upN (by omega)).trans (bgy.2.1 j h2)))))
          refine OUT.ok V9 J10 ⟨by omega, ac8.aim (by omega), ar8.set (by omega), (f4.trans (by1.2.2.trans (g4.trans k4))).trans hy1.2.2, ⟨by have := f5.1; show ca_t x ≤ ca_t x8; omega, by have := f5; show 5 * ca_t x8 + u ≤ _; omega⟩, ?_, sIf Dc Db De, ?_, ?_⟩
          · show ca_h x8 + 1 + 2 * u ≤ _ ∧ ca_k x8 + 2 * u ≤ _ ∧ ra_m y8 + 1 + 3 * u ≤ _ ∧ ra_v y8 + u ≤ _
            omega
          · have t5 := f5.1
            refine ImS_ifelse (a := ca_h x) (b := ca_h x2) (c := ca_h x4) (f := ca_h x8) (by omega) g21 f21 ?_ ?_ ?_ ?_ ?_ ?_ upA
            · rw [← hx1.1]
              exact k7.ext (by show ca_t x1 ≤ ca_t x8; omega) (by omega) (Nat.le_trans g2.2.2.1 (by rw [← bx1.2]; exact f23)) (fun j _ hj => (fc j (by omega) (by omega)).trans (oc j hj)) (fun j hj => (f2.2.2.2 j (by have : ca_k x2 ≤ ca_k x4 := g2.2.2.1; omega)).trans ((bgx.2.2.2 j (by have : ca_k x2 ≤ ca_k x4 := g2.2.2.1; show j < ca_k x4; omega)).trans (g2.2.2.2 j hj)))
            · exact g7.ext (by show ca_t x4 ≤ ca_t x8; omega) (by omega) (by rw [← bx1.2]; exact f23) (fun j h1 hj => fc j (by have h1' : 2 * (ca_h x2 + 1) ≤ j := h1; omega) hj) (fun j hj => (f2.2.2.2 j (by omega)).trans (bgx.2.2.2 j hj))
            · rw [← bx1.1]
              exact f7.ext (Nat.le_refl _) (by omega) (Nat.le_refl _) (fun j h1 hj => upN (by omega)) (fun _ _ => rfl)
            · exact (fc _ (by omega) (by omega)).trans o2
            · exact (upN (by omega)).trans ((p1 _ (by omega)).trans upA)
            · exact (upN (by omega)).trans ((p1 _ (by omega)).trans ((upN (by omega)).trans up20))
          · have t5 := f5.1
            rw [by1.1]
            refine IrS_ifelse (a := ra_m y) (b := ra_m y2) (c := ra_m y4) (f := ra_m y8) (by omega) g31 f31 (by omega) ?_ ?_ ?_ ?_ ?_ ?_ upA
            · rw [← hy1.1]
              exact k8.ext (by show ca_t x1 ≤ ca_t x8; omega) (by omega) (Nat.le_refl _) (by show ra_v y2 ≤ ra_v y8; omega) (fun j _ hj => ((by rw [by1.1] at fr; exact fr j (by omega) (by omega)) : _ = _).trans (or' j hj)) (fun j _ hj => (f3.2.2.2.1 j (by show j < ra_v y6; omega)).trans ((bgy.2.2.2.1 j (by omega)).trans (g3.2.2.2.1 j hj)))
            · exact g8.ext (by show ca_t x4 ≤ ca_t x8; omega) (by omega) (Nat.le_refl _) (by show ra_v y4 ≤ ra_v y8; omega) (fun j h1 hj => (by rw [by1.1] at fr; exact fr j (by have h1' : ra_m y2 + 1 + 1 ≤ j := h1; omega) hj)) (fun j _ hj => (f3.2.2.2.1 j (by show j < ra_v y6; omega)).trans (bgy.2.2.2.1 j hj))
            · have f8' : IrS (ra_m y6 + 2) (ra_m y8) V0 (ra_v y8) (ca_t x8) (u8 - (u4 + 1)) (ra_s y8) (ra_q y8) De := f8
              rw [by1.1] at f8'
              exact f8'.ext (Nat.le_refl _) (by omega) (Nat.le_refl _) (Nat.le_refl _) (fun j h1 hj => upN (by omega)) (fun _ _ _ => rfl)
            · exact ((by rw [by1.1] at fr; exact fr (ra_m y2) (by omega) (by omega)) : _ = _).trans o15
            · refine (upN (by omega)).trans ((p2 _ (by omega)).trans (upA.trans ?_))
              rw [by1.1]
            · refine (upN (by omega)).trans ((p2 _ (by omega)).trans ((upN (by omega)).trans ?_))
              rw [by1.1]
              exact up10
        · dsimp only at r5 r6
          obtain ⟨s9, x9, e9, D9⟩ := dd_aim (d := d1 + 11) (a := ca_h x4) D8 (by omega)
          rw [r5, r6, bnd_some, bnd_some, if_pos rfl, kc_dr D8.1, Option.bind_some, e9, bnd_some]
          exact OUT.no' D9 gf (by omega) (by omega)
      · obtain ⟨s5, e5, V5⟩ := kc_aim (d := d1 + 11) (a := ca_h x2) J.eo V4 (by omega)
        rw [if_neg c8, if_neg c8, if_pos rfl, kc_dr V4, Option.bind_some, e5, bnd_some, y_22 J.er, Option.bind_some, y_c0 J.er, Option.bind_some, Option.bind_some, y_c2 J.er, Option.bind_some]
        show OUT _ _ _ _ _ _ _ _ (Option.bind (sV _ .int _ (nI (ra_m y2 + 1)) _) _)
        rw [y_sS J.er (by omega), Option.bind_some]
        have J6 : JJ E1 cr E2 w0 u4 q4 T4 t4 (caAim x4 (ca_h x2)) (raSet y4 (ra_m y2 + 1) (nI (ra_m y4))) := J4.chg ⟨rfl, rfl, rfl, rfl⟩ ⟨rfl, rfl⟩ (by
          show ca_h x4 ≤ _ ∧ ca_k x4 ≤ _ ∧ ra_m y4 ≤ _ ∧ ra_v y4 ≤ _ ∧ ra_p y4 ≤ _
          omega)
        refine OUT.ok V5 J6 ⟨by omega, ac.aim (by omega), ar'.set (by omega), (g4.trans k4).trans hy1.2.2, ⟨by show ca_t x ≤ ca_t x4; omega, by show 5 * ca_t x4 + u ≤ _; omega⟩, ?_, sIf Dc Db sNop, ?_, ?_⟩
        · show ca_h x4 + 1 + 2 * u ≤ _ ∧ ca_k x4 + 2 * u ≤ _ ∧ ra_m y4 + 1 + 3 * u ≤ _ ∧ ra_v y4 + u ≤ _
          omega
        · refine ImS_if (a := ca_h x) (b := ca_h x2) (c := ca_h x4) (by omega) g21 ?_ ?_ ?_ upA
          · rw [← hx1.1]
            exact k7.ext (by show ca_t x1 ≤ ca_t x4; omega) (by omega) g2.2.2.1 (fun j _ hj => (upN (by omega)).trans (oc j hj)) (fun j hj => g2.2.2.2 j hj)
          · exact g7.ext (Nat.le_refl _) (by omega) (Nat.le_refl _) (fun j h1 hj => upN (by have h1' : 2 * (ca_h x2 + 1) ≤ j := h1; omega)) (fun _ _ => rfl)
          · exact (upN (by omega)).trans o2
        · refine IrS_if (a := ra_m y) (b := ra_m y2) (c := ra_m y4) (by omega) g31 (by omega) ?_ ?_ ?_ upA
          · rw [← hy1.1]
            exact k8.ext (by show ca_t x1 ≤ ca_t x4; omega) (by omega) (Nat.le_refl _) g3.2.2.1 (fun j _ hj => (upN (by omega)).trans (or' j hj)) (fun j _ hj => g3.2.2.2.1 j hj)
          · exact g8.ext (Nat.le_refl _) (by omega) (Nat.le_refl _) (Nat.le_refl _) (fun j h1 hj => upN (by have h1' : ra_m y2 + 1 + 1 ≤ j := h1; omega)) (fun _ _ _ => rfl)
          · exact (upN (by omega)).trans o15
    · dsimp only at r3 r4
      obtain ⟨s6, x6, e6, D6⟩ := dd_aim (d := d1 + 11) (a := ca_h x2) D4 (by show ca_h x2 < ca_h x2 + 1; omega)
      rw [r3, r4, bnd_some, bnd_some, if_pos rfl, kc_lx D4.1, Option.bind_some, dd_kind D4, bnd_some, if_neg (by decide), kc_dr D4.1, Option.bind_some, e6, bnd_some]
      exact OUT.no' D6 gf (by show ca_h x ≤ ca_h x2 + 1; omega) (by omega)
  · obtain ⟨s4, x4, e4, D4⟩ := dd_block (d := d1 + 9) (dp := nI p) D2
    obtain ⟨s6, x6, e6, D6⟩ := dd_aim (d := d1 + 11) (a := h2) D4 (by omega)
    rw [r1, r2, bnd_some, bnd_some, if_pos rfl, e4, bnd_some, kc_lx D4.1, Option.bind_some, dd_kind D4, bnd_some, if_neg (by decide), kc_dr D4.1, Option.bind_some, e6, bnd_some]
    exact OUT.no' D6 gf (by omega) (by omega)
end
