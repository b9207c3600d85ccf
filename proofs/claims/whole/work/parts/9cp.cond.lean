/-! "(" E ")" before a BLOCK -/
def CQ (V0 : Nat) (x : CA) (y : RA) (u : Nat) (x' : CA) (y' : RA) (u' : Nat) : Prop := u + 3 ≤ u' ∧ AGc x x' ∧ AGr y y' ∧ ra_p y' = ra_p y ∧ ca_t x' = ca_t x ∧ (ca_h x' + 4 + 2 * u ≤ ca_h x + 2 * u' ∧ ca_k x' + 2 * u ≤ ca_k x + 2 * u' ∧ ra_m y' + 6 + 3 * u ≤ ra_m y + 3 * u' ∧ ra_v y' + u ≤ ra_v y + u') ∧ SE V0 x y u x' y' u'
section
variable {E1 : CE} {cr : Nat} {E2 : RE} {w0 : W2} {u u' u1 u2 v1 q q' d d1 d2 j V0 A B A' B' p m CL i c h e wd qf : Nat} {T T' : TKc} {t t' : TKr} {x x' x'' x1 x2 : CA} {y y' y'' y1 y2 : RA} {s s' s1 : HS} {K dp op opr ar l t0 v l4 t1 : Int32} {w : Bool} {Q : CA → RA → Nat → Prop}
theorem c_cond (V : KC E1 s x) (e : EOK E1) (hh : ca_h x + 1 ≤ 16000) : ∃ s', x_Pars_condition_b23 (clP (d1 + 11)) (d1 + 11) 132 s = some (nI (ca_h x), s') ∧ KC E1 s' (caAdd x 2 0) := by
  obtain ⟨s1, e1, V1⟩ := kc_add (d := d1 + 9) (op := 2) (ar := 0) e V (by omega)
  refine ⟨s1, ?_, V1⟩
  unfold x_Pars_condition_b23
  rw [kc_dr V, Option.bind_some, e1, bnd_some, kc_dr V1, Option.bind_some, kc_here V1, bnd_some]
  show some (nI (ca_h x + 1) - 1, s1) = _
  rw [nI_succ, Int32.add_sub_cancel]
theorem d_cond (D : DD E1 s x qf A B) (hB : B + 1 ≤ 16000) : ∃ s' x' h, x_Pars_condition_b23 (clP (d1 + 11)) (d1 + 11) 132 s = some (nI h, s') ∧ A ≤ h ∧ DD E1 s' x' qf (h + 1) (B + 1) := by
  obtain ⟨h1, h2, h3, h4, h5, h6, h7⟩ := D
  obtain ⟨s', e1, e2⟩ := c_cond (d1 := d1) h1 h2 (by omega)
  exact ⟨s', _, ca_h x, e1, h6, e2, h2, h3, h4, h5, Nat.le_refl _, by show ca_h x + 1 ≤ B + 1; omega, by show ca_k x ≤ B + 1; omega, by show ca_t x ≤ B + 1; omega⟩
theorem j_cond (hp : p ≤ 16) (hd1 : 12 * (16 - p) + 39 ≤ d1) (hd2 : 12 * (16 - p) + 39 ≤ d2) (V : KC E1 s x) (J : JJ E1 cr E2 w0 u q T t x y) (hV : V0 ≤ ra_v y) : (∃ s' x' y' u' q' T' t', x_Pars_condition_b (clP d1) d1 132 (nI p) s = some (nI (ca_h x'), s') ∧ x_Mod_test_b (clM d2) d2 160 (nI p) (pm cr E2 y) = some (1, pm cr E2 y') ∧ KC E1 s' (caAdd x' 2 0) ∧ JJ E1 cr E2 w0 u' q' T' t' x' y' ∧ CQ V0 x y u x' y' u') ∨ (∃ s' x' y' qf h, x_Pars_condition_b (clP d1) d1 132 (nI p) s = some (nI h, s') ∧ x_Mod_test_b (clM d2) d2 160 (nI p) (pm cr E2 y) = some (0, pm cr E2 y') ∧ ca_h x ≤ h ∧ DD E1 s' x' qf (h + 1) (4000 + 4 * (12 * (16 - p) + 34)) ∧ RF y' qf) := by
  obtain ⟨d1, rfl⟩ : ∃ k, d1 = k + 11 := ⟨d1 - 11, by omega⟩
  obtain ⟨d2, rfl⟩ : ∃ k, d2 = k + 11 := ⟨d2 - 11, by omega⟩
  have hb := J.2.2.2.2.2
  have hu := J.uq
  unfold x_Pars_condition_b x_Mod_test_b
  rw [kc_gd V, y_gd J.er, J.is (d := d2 + 7) (K := 40) 1 rfl (by decide) rfl, bnd_some]
  by_cases c40 : T.2.1 = 40
  · rw [if_pos c40, if_neg (by decide)]
    by_cases c16 : p = 16
    · subst c16
      obtain ⟨s2, e2, D2⟩ := jj_openNo (d := d1 + 9) (dp := nI 16) V J (K := 40) (fun h => absurd h.2 (by decide))
      obtain ⟨s3, x3, h3, e3, a3, D3⟩ := d_cond (d1 := d1) D2 (by decide)
      rw [e2, bnd_some, if_pos rfl, e3, if_pos (show nI 16 = 16 from rfl), jj_bad J, bnd_some, okB_of (Or.inl rfl)]
      exact Or.inr ⟨_, _, _, _, _, rfl, rfl, a3, D3.mono (Nat.le_refl _) (by omega), J.rf⟩
    · have m0 : ¬ T.2.1 = 0 := by rw [c40]; decide
      have m1 : ¬ T.2.1 = 1 := by rw [c40]; decide
      obtain ⟨s2, e2, V2⟩ := jj_open (d := d1 + 5) (dp := nI p) V J c40 (by decide) (by decide) (lt16 hp c16)
      obtain ⟨q2, T2, t2, J2, _⟩ := J.adv m0 m1
      rw [e2, bnd_some, if_neg (by decide), if_neg (en16 hp c16), jj_step (d := d2 + 6) J, bnd_some, ← nI_succ]
      have agx : AGc x (cav E1 t x) := AGc.rfl'.lex
      have agy : AGr y (rav E2 t y) := AGr.rfl'.lex
      have tx : ca_t (cav E1 t x) = ca_t x := rfl
      have hx1 : ca_h (cav E1 t x) = ca_h x ∧ ca_k (cav E1 t x) = ca_k x := ⟨rfl, rfl⟩
      have hy1 : ra_m (rav E2 t y) = ra_m y ∧ ra_v (rav E2 t y) = ra_v y ∧ ra_p (rav E2 t y) = ra_p y := ⟨rfl, rfl, rfl⟩
      generalize cav E1 t x = x1 at V2 J2 agx tx hx1
      generalize rav E2 t y = y1 at J2 agy hy1 ⊢
      rcases hx_all (V0 := V0) (p := p + 1) (by omega) (d1 + 11) (d2 + 11) (by omega) (by omega) s2 _ _ _ _ _ _ V2 J2 (by omega) with ⟨s3, x3, y3, u3, q3, T3, t3, r1, r2, V3, J3, hq⟩ | ⟨s3, x3, y3, qf, r1, r2, D, gf⟩
      · dsimp only at r1 r2
        have hb3 := J3.2.2.2.2.2
        have hu3 := J3.uq
        obtain ⟨⟨k1, k2, k3, k4, k5, k6⟩, ⟨D, k7, k8⟩, _⟩ := hq
        have k21 := k2.1
        rw [r1, r2, bnd_some, bnd_some, if_neg (by decide)]
        by_cases c41 : T3.2.1 = 41
        · have z0 : ¬ T3.2.1 = 0 := by rw [c41]; decide
          have z1 : ¬ T3.2.1 = 1 := by rw [c41]; decide
          obtain ⟨s4, e4, V4⟩ := jj_take (d := d1 + 5) V3 J3 c41 (by decide) (by decide)
          obtain ⟨q4, T4, t4, J4, _⟩ := J3.adv z0 z1
          rw [e4, bnd_some, jj_rtake (d := d2 + 5) (j := 16) J3 2 rfl (by decide) c41, bnd_some, if_neg (by decide)]
          have agx3 : AGc x (cav E1 t3 x3) := (agx.trans k2).lex
          have agy3 : AGr y (rav E2 t3 y3) := (agy.trans k3).lex
          obtain ⟨s5, e5, V5⟩ := c_cond (d1 := d1) V4 J.eo (by show ca_h x3 + 1 ≤ _; omega)
          refine Or.inl ⟨s5, _, _, u3 + 1, q4, T4, t4, e5, rfl, V5, J4, by omega, agx3, agy3, k4.trans hy1.2.2, k5.1.trans tx, ?_, D, ?_, ?_⟩
          · show ca_h x3 + 4 + 2 * u ≤ _ ∧ ca_k x3 + 2 * u ≤ _ ∧ ra_m y3 + 6 + 3 * u ≤ _ ∧ ra_v y3 + u ≤ _
            omega
          · rw [← hx1.1, ← tx]
            exact k7.ext (Nat.le_refl _) (by omega) (Nat.le_refl _) (fun _ _ _ => rfl) (fun _ _ => rfl)
          · rw [← hy1.1, ← tx]
            exact k8.ext (Nat.le_refl _) (by omega) (Nat.le_refl _) (Nat.le_refl _) (fun _ _ _ => rfl) (fun _ _ _ => rfl)
        · obtain ⟨s4, e4, D4⟩ := jj_takeNo (d := d1 + 9) V3 J3 c41
          obtain ⟨s5, x5, h5, e5, a5, D5⟩ := d_cond (d1 := d1) D4 (by decide)
          rw [e4, bnd_some, e5, jj_rtakeNo (d := d2 + 5) (j := 16) J3 2 rfl (by decide) c41, bnd_some, if_pos rfl]
          exact Or.inr ⟨_, _, _, _, _, rfl, rfl, by omega, D5.mono (Nat.le_refl _) (by omega), J3.rf⟩
      · dsimp only at r1 r2
        obtain ⟨s4, x4, e4, D4⟩ := dd_take (d := d1 + 9) (k := 41) D (by decide)
        obtain ⟨s5, x5, h5, e5, a5, D5⟩ := d_cond (d1 := d1) D4 (by omega)
        rw [r1, r2, bnd_some, bnd_some, if_pos rfl, e4, bnd_some, e5]
        exact Or.inr ⟨_, _, _, _, _, rfl, rfl, by omega, D5.mono (Nat.le_refl _) (by omega), gf⟩
  · obtain ⟨s2, e2, D2⟩ := jj_openNo (d := d1 + 9) (dp := nI p) V J (K := 40) (fun h => c40 h.1)
    obtain ⟨s3, x3, h3, e3, a3, D3⟩ := d_cond (d1 := d1) D2 (by decide)
    rw [e2, bnd_some, if_pos rfl, e3, if_neg c40, if_pos rfl, jj_bad J, bnd_some, okB_of (Or.inl rfl)]
    exact Or.inr ⟨_, _, _, _, _, rfl, rfl, a3, D3.mono (Nat.le_refl _) (by omega), J.rf⟩
end
