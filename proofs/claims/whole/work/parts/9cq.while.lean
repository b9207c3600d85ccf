/-! while -/
def HB (E1 : CE) (cr : Nat) (E2 : RE) (w0 : W2) (V0 p : Nat) : Prop := ∀ d1 d2, 12 * (16 - p) + 40 ≤ d1 → 12 * (16 - p) + 40 ≤ d2 → JSt E1 cr E2 w0 V0 (4000 + 4 * (12 * (16 - p) + 40)) 0 (fun s => x_Pars_block_b (clP d1) d1 132 (nI p) s) (fun s => x_Mod_block_b (clM d2) d2 160 (nI p) s)
section
variable {E1 : CE} {cr : Nat} {E2 : RE} {w0 : W2} {u u' u1 u2 v1 q q' d d1 d2 j V0 A B A' B' p m CL i c h e wd qf : Nat} {T T' : TKc} {t t' : TKr} {x x' x'' x1 x2 : CA} {y y' y'' y1 y2 : RA} {s s' s1 : HS} {K dp op opr ar l t0 v l4 t1 : Int32} {w : Bool} {Q : CA → RA → Nat → Prop}
theorem r_tst {i j z : Int32} {r : Nat} : clM (d + 1) 1 r i j z s = x_Mod_test_b (clM d) d r i s := rfl
theorem r_blk {i j z : Int32} {r : Nat} : clM (d + 1) 0 r i j z s = x_Mod_block_b (clM d) d r i s := rfl
theorem j_while (hB : HB E1 cr E2 w0 V0 p) (hp : p ≤ 16) (hd1 : 12 * (16 - p) + 41 ≤ d1) (hd2 : 12 * (16 - p) + 41 ≤ d2) (V : KC E1 s x) (J : JJ E1 cr E2 w0 u q T t x y) (hV : V0 ≤ ra_v y) (hh : ca_h x ≤ 2 * u + 1) (hm : ra_m y ≤ 3 * u + 1) (hk : T.2.1 = 9) : OUT E1 cr E2 w0 (ca_h x) (4000 + 4 * (12 * (16 - p) + 44)) (QI V0 1 x y u) (x_Pars_whileStatement_b (clP d1) d1 132 (nI p) s) (x_Mod_loop_b (clM d2) d2 160 (nI p) (pm cr E2 y)) := by
  obtain ⟨d1, rfl⟩ : ∃ k, d1 = k + 12 := ⟨d1 - 12, by omega⟩
  obtain ⟨d2, rfl⟩ : ∃ k, d2 = k + 12 := ⟨d2 - 12, by omega⟩
  have hb := J.2.2.2.2.2
  have n0 : ¬ T.2.1 = 0 := by rw [hk]; decide
  have n1 : ¬ T.2.1 = 1 := by rw [hk]; decide
  obtain ⟨s1, e1, V1⟩ := jj_take (d := d1 + 6) V J hk (by decide) (by decide)
  obtain ⟨q1, T1, t1, J1, _⟩ := J.adv n0 n1
  unfold x_Pars_whileStatement_b x_Mod_loop_b
  rw [kc_gd V, y_gd J.er, e1, bnd_some, jj_step (d := d2 + 7) J, bnd_some, kc_dr V1, Option.bind_some, kc_here V1, bnd_some, c_cnd, y_22 J.er, Option.bind_some, y_c2 J.er, Option.bind_some, r_tst]
  have agx : AGc x (cav E1 t x) := AGc.rfl'.lex
  have agy : AGr y (rav E2 t y) := AGr.rfl'.lex
  have tx : ca_t (cav E1 t x) = ca_t x := rfl
  have hx1 : ca_h (cav E1 t x) = ca_h x ∧ ca_k (cav E1 t x) = ca_k x := ⟨rfl, rfl⟩
  have hy1 : ra_m (rav E2 t y) = ra_m y ∧ ra_v (rav E2 t y) = ra_v y ∧ ra_p (rav E2 t y) = ra_p y := ⟨rfl, rfl, rfl⟩
  generalize cav E1 t x = x1 at V1 J1 agx tx hx1 ⊢
  generalize rav E2 t y = y1 at J1 agy hy1 ⊢
  rcases j_cond (V0 := V0) (p := p) hp (d1 := d1 + 11) (d2 := d2 + 11) (by omega) (by omega) V1 J1 (by omega) with ⟨s2, x2, y2, u2, q2, T2, t2, r1, r2, V2, J2, hq⟩ | ⟨s2, x2, y2, qf, h2, r1, r2, a2, D2, gf⟩
  · obtain ⟨k1, k2, k3, k4, k5, k6, Dc, k7, k8⟩ := hq
    have hb2 := J2.2.2.2.2.2
    have hu2 := J2.uq
    have k21 := k2.1
    have k31 := k3.1
    have k33 := k3.2.2.1
    obtain ⟨s3, e3, V3⟩ := kc_add (d := d1 + 10) (op := 0) (ar := 0) J.eo V2 (by show ca_h x2 + 1 + 1 ≤ _; omega)
    rw [r1, r2, bnd_some, bnd_some, if_neg (by decide), kc_dr V2, Option.bind_some, e3, bnd_some, c_blk, y_put J.er (by omega), bnd_some, y_put J.er (by show ra_m y2 + 1 < 6000; omega), bnd_some, y_put J.er (by show ra_m y2 + 1 + 1 < 6000; omega), bnd_some, r_blk]
    have J3 : JJ E1 cr E2 w0 u2 q2 T2 t2 (caAdd (caAdd x2 2 0) 0 0) (raPut (raPut (raPut y2 15) 0) 23) := J2.chg ⟨rfl, rfl, rfl, rfl⟩ ⟨rfl, rfl⟩ (by
      show ca_h x2 + 1 + 1 ≤ _ ∧ ca_k x2 ≤ _ ∧ ra_m y2 + 1 + 1 + 1 ≤ _ ∧ ra_v y2 ≤ _ ∧ ra_p y2 ≤ _
      omega)
    rcases hB (d1 + 11) (d2 + 11) (by omega) (by omega) s3 _ _ _ _ _ _ V3 J3 (by show V0 ≤ ra_v y2; omega) (by show ca_h x2 + 1 + 1 ≤ _; omega) (by show ra_m y2 + 1 + 1 + 1 ≤ _; omega) with ⟨s4, x4, y4, u4, q4, T4, t4, r3, r4, V4, J4, hq4⟩ | ⟨s4, x4, y4, qf, r3, r4, D4, gf⟩
    · dsimp only at r3 r4
      obtain ⟨g1, g2, g3, g4, g5, g6, Db, g7, g8⟩ := hq4
      have hb4 := J4.2.2.2.2.2
      have hu4 := J4.uq
      have g21 : ca_h x2 + 2 ≤ ca_h x4 := g2.1
      have g31 : ra_m y2 + 3 ≤ ra_m y4 := g3.1
      have g5' : ca_t x2 ≤ ca_t x4 ∧ 5 * ca_t x4 + u2 ≤ 5 * ca_t x2 + u4 := g5
      have g6' : ca_h x4 + 0 + 2 * u2 ≤ ca_h x2 + 2 + 2 * u4 ∧ ca_k x4 + 2 * u2 ≤ ca_k x2 + 2 * u4 ∧ ra_m y4 + 0 + 3 * u2 ≤ ra_m y2 + 3 + 3 * u4 ∧ ra_v y4 + u2 ≤ ra_v y2 + u4 := g6
      obtain ⟨s5, e5, V5⟩ := kc_add (d := d1 + 10) (op := 1) (ar := nI (ca_h x1)) J.eo V4 (by omega)
      obtain ⟨s6, e6, V6⟩ := kc_aim (d := d1 + 11) (a := ca_h x2) J.eo V5 (by show ca_h x2 < ca_h x4 + 1; omega)
      rw [r3, r4, bnd_some, bnd_some, if_neg (by decide), kc_dr V4, Option.bind_some, e5, bnd_some, kc_dr V5, Option.bind_some, e6, bnd_some, y_put2 J.er (by omega), bnd_some, y_22 J.er, Option.bind_some, y_c0 J.er, Option.bind_some, Option.bind_some, y_c2 J.er, Option.bind_some]
      show OUT _ _ _ _ _ _ _ _ (Option.bind (sV _ .int _ (nI (ra_m y2 + 1)) _) _)
      rw [y_sS J.er (by omega), Option.bind_some]
      have J6 : JJ E1 cr E2 w0 u4 q4 T4 t4 (caAim (caAdd x4 1 (nI (ca_h x1))) (ca_h x2)) (raSet (raPut (raPut y4 14) (nI (ra_m y1))) (ra_m y2 + 1) (nI (ra_m y4 + 1 + 1))) := J4.chg ⟨rfl, rfl, rfl, rfl⟩ ⟨rfl, rfl⟩ (by
        show ca_h x4 + 1 ≤ _ ∧ ca_k x4 ≤ _ ∧ ra_m y4 + 1 + 1 ≤ _ ∧ ra_v y4 ≤ _ ∧ ra_p y4 ≤ _
        omega)
      have fc : ∀ j, ¬ j = 2 * ca_h x2 + 1 → j < 2 * ca_h x4 → ca_c (caAim (caAdd x4 1 (nI (ca_h x1))) (ca_h x2)) j = ca_c x4 j := fun j h1 h2 => (upN h1).trans ((AGc.rfl'.add (op := 1) (ar := nI (ca_h x1))).2.1 j h2)
      have fr : ∀ j, ¬ j = ra_m y2 + 1 → j < ra_m y4 → ra_s (raSet (raPut (raPut y4 14) (nI (ra_m y1))) (ra_m y2 + 1) (nI (ra_m y4 + 1 + 1))) j = ra_s y4 j := fun j h1 h2 => (upN h1).trans ((AGr.rfl'.put (v := 14) |>.put (v := nI (ra_m y1))).2.1 j h2)
      have ac : AGc x x4 := ((agx.trans k2).add.add).trans g2
      have ar' : AGr y y4 := ((agy.trans k3).put.put.put).trans g3
      refine OUT.ok V6 J6 ⟨by omega, (ac.add).aim (by omega), ((ar'.put).put).set (by omega), (g4.trans k4).trans hy1.2.2, ⟨by show ca_t x ≤ ca_t x4; omega, by show 5 * ca_t x4 + u ≤ _; omega⟩, ?_, sWhile Dc Db, ?_, ?_⟩
      · show ca_h x4 + 1 + 1 + 2 * u ≤ _ ∧ ca_k x4 + 2 * u ≤ _ ∧ ra_m y4 + 1 + 1 + 1 + 3 * u ≤ _ ∧ ra_v y4 + u ≤ _
        omega
      · refine ImS_while (a := ca_h x) (b := ca_h x2) (c := ca_h x4) (by omega) g21 (by omega) ?_ ?_ ?_ upA ?_ ?_ ?_
        · rw [← hx1.1]
          exact k7.ext (by show ca_t x1 ≤ ca_t x4; omega) (by omega) g2.2.2.1 (fun j _ hj => (fc j (by omega) (by omega)).trans ((g2.2.1 j (by show j < 2 * (ca_h x2 + 1 + 1); omega)).trans ((AGc.rfl'.add (op := 2) (ar := 0) |>.add (op := 0) (ar := 0)).2.1 j hj))) (fun j hj => g2.2.2.2 j hj)
        · exact g7.ext (Nat.le_refl _) (by omega) (Nat.le_refl _) (fun j h1 hj => fc j (by have h1' : 2 * (ca_h x2 + 1 + 1) ≤ j := h1; omega) hj) (fun _ _ => rfl)
        · exact (fc _ (by omega) (by omega)).trans ((g2.2.1 _ (by show _ < 2 * (ca_h x2 + 1 + 1); omega)).trans (((AGc.rfl' (x := caAdd x2 2 0)).add (op := 0) (ar := 0)).2.1 _ (by show _ < 2 * (ca_h x2 + 1); omega) |>.trans up20))
        · exact (fc _ (by omega) (by omega)).trans ((g2.2.1 _ (by show _ < 2 * (ca_h x2 + 1 + 1); omega)).trans up20)
        · exact (upN (by omega)).trans up20
        · rw [← hx1.1]
          exact (upN (by omega)).trans up21
      · refine IrS_while (a := ra_m y) (b := ra_m y2) (c := ra_m y4) (by omega) g31 (by omega) (by omega) ?_ ?_ ?_ upA ?_ ?_ ?_
        · rw [← hy1.1]
          exact k8.ext (by show ca_t x1 ≤ ca_t x4; omega) (by omega) (Nat.le_refl _) g3.2.2.1 (fun j _ hj => (fr j (by omega) (by omega)).trans ((g3.2.1 j (by show j < ra_m y2 + 1 + 1 + 1; omega)).trans ((AGr.rfl'.put (v := 15) |>.put (v := 0) |>.put (v := 23)).2.1 j hj))) (fun j _ hj => g3.2.2.2.1 j hj)
        · exact g8.ext (Nat.le_refl _) (by omega) (Nat.le_refl _) (Nat.le_refl _) (fun j h1 hj => fr j (by have h1' : ra_m y2 + 1 + 1 + 1 ≤ j := h1; omega) hj) (fun _ _ _ => rfl)
        · exact (fr _ (by omega) (by omega)).trans ((g3.2.1 _ (by show _ < ra_m y2 + 1 + 1 + 1; omega)).trans ((AGr.rfl' (y := raPut y2 15) |>.put (v := 0) |>.put (v := 23)).2.1 _ (by show _ < ra_m y2 + 1; omega) |>.trans upA))
        · exact (fr _ (by omega) (by omega)).trans ((g3.2.1 _ (by show _ < ra_m y2 + 1 + 1 + 1; omega)).trans upA)
        · exact (upN (by omega)).trans up10
        · rw [← hy1.1]
          exact (upN (by omega)).trans up11
    · dsimp only at r3 r4
      obtain ⟨s5, x5, e5, D5⟩ := dd_add (d := d1 + 10) (op := 1) (ar := nI (ca_h x1)) D4 (by omega)
      obtain ⟨s6, x6, e6, D6⟩ := dd_aim (d := d1 + 11) (a := ca_h x2) D5 (by show ca_h x2 < ca_h x2 + 1 + 1; omega)
      rw [r3, r4, bnd_some, bnd_some, if_pos rfl, kc_dr D4.1, Option.bind_some, e5, bnd_some, kc_dr D5.1, Option.bind_some, e6, bnd_some]
      exact OUT.no' D6 gf (by show ca_h x ≤ ca_h x2 + 1 + 1; omega) (by omega)
  · obtain ⟨s3, x3, e3, D3⟩ := dd_add (d := d1 + 10) (op := 0) (ar := 0) D2 (by omega)
    obtain ⟨s4, x4, e4, D4⟩ := dd_block (d := d1 + 9) (dp := nI p) D3
    obtain ⟨s5, x5, e5, D5⟩ := dd_add (d := d1 + 10) (op := 1) (ar := nI (ca_h x1)) D4 (by omega)
    obtain ⟨s6, x6, e6, D6⟩ := dd_aim (d := d1 + 11) (a := h2) D5 (by omega)
    rw [r1, r2, bnd_some, bnd_some, if_pos rfl, kc_dr D2.1, Option.bind_some, e3, bnd_some, e4, bnd_some, kc_dr D4.1, Option.bind_some, e5, bnd_some, kc_dr D5.1, Option.bind_some, e6, bnd_some]
    exact OUT.no' D6 gf (by omega) (by omega)
end
