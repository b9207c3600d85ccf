/-! size, pop, push, ROWS -/
abbrev dOne (Fo : SC → V2 → RV) : DE → DE := fun D => d1 Fo D
abbrev dTwo (Fo : SC → V2 → V2 → RV) : DE → DE → DE := fun D E => d2 Fo D E
section
variable {E1 : CE} {cr : Nat} {E2 : RE} {w0 : W2} {u u1 u2 v1 q d d1 d2 j V0 A B A' B' p m CL i : Nat} {T : TKc} {t : TKr} {x x' x'' x1 x2 : CA} {y y' y'' y1 y2 : RA} {s s' : HS} {K dp op opr ar : Int32} {w : List Nat}
theorem ja_one {F : DE → DE} (bI : ∀ {a b lcl need kp : Nat} {co : Nat → Int32} {po : Nat → Int64} {D : DE} {z : Int32}, a ≤ b → 1 ≤ need → ImE a b lcl need kp co po D → co (2 * b) = op → co (2 * b + 1) = z → ImE a (b + 1) lcl need kp co po (F D)) (bR : ∀ {a b va kv lcl need : Nat} {co : Nat → Int32} {vo : Nat → VQ} {D : DE}, a ≤ b → 1 ≤ need → IrE a b va kv lcl need co vo D → co b = opr → IrE a (b + 1) va kv lcl need co vo (F D)) (hp : p ≤ 16) (HE : p < 16 → HX E1 cr E2 w0 V0 (p + 1)) (hd1 : 12 * (16 - p) + 12 ≤ d1) (hd2 : 12 * (16 - p) + 12 ≤ d2) (V : KC E1 s x) (J : JJ E1 cr E2 w0 u q T t x y) (hV : V0 ≤ ra_v y) (hk : T.2.1 = K) (hK0 : ¬ K = 0) (hK1 : ¬ K = 1) (ho : ¬ opr = 18) (r1 : Option (Unit × HS)) (r2 : Option (Int32 × HS)) (hc : r1 = bnd (x_Pars_withOne_b (clP (d1 + 9)) (d1 + 9) 132 op (nI p) s) fun _ s => (pV s 132 5 7 (.int 0)).bind fun s => some ((), s)) (hr : r2 = bnd (x_Mod_built_b32 (clM (d2 + 8)) (d2 + 8) 160 (nI p) opr (pm cr E2 (raGiven y 0))) fun v s => okB v (some (v, s))) : OUT E1 cr E2 w0 (ca_h x) (4000 + 4 * (12 * (16 - p) + 23)) (QE V0 x y u) r1 r2 := by
  subst hc hr
  have Jg := J.gv 0
  have n0 : ¬ T.2.1 = 0 := by rw [hk]; exact hK0
  have n1 : ¬ T.2.1 = 1 := by rw [hk]; exact hK1
  have hu := J.lt n0 n1
  obtain ⟨s1, e1, V1⟩ := jj_take (d := d1 + 3) V J hk hK0 hK1
  obtain ⟨q1, T1, t1, J1, _⟩ := Jg.adv n0 n1
  have J1c : JJ E1 cr E2 w0 (u + 1) q1 T1 t1 (cav E1 t x) (rav E2 t (raGiven y 0)) := J1
  unfold x_Pars_withOne_b x_Mod_built_b32
  rw [kc_gd V, kc_lx V, Option.bind_some, kc_kind V, bnd_some, J.kd, hk, e1, bnd_some, c_brk, jj_step (d := d2 + 3) Jg, bnd_some, J1.is (d := d2 + 4) (K := 40) 1 rfl (by decide) rfl, bnd_some]
  unfold x_Pars_inBrackets_b
  rw [kc_gd V1]
  have dead : ∀ s' x' qf, DD E1 s' x' qf (ca_h x) (4000 + 4 * (12 * (16 - p) + 20)) → ∃ s'' x'', (bnd ((gR s' 132 5 3).bind fun v8 => (bnd (x_Draft_add (d1 + 9) v8 op 0 s') fun v10 s9 => (some ((), s9)))) fun _ s => (pV s 132 5 7 (.int 0)).bind fun s => some ((), s)) = some ((), s'') ∧ DD E1 s'' x'' qf (ca_h x) (4000 + 4 * (12 * (16 - p) + 23)) := fun s' x' qf D => by
    obtain ⟨s3, x3, e3, D3⟩ := dd_add (d := d1 + 7) (op := op) (ar := 0) D (by omega)
    obtain ⟨s4, x4, e4, D4⟩ := dd_asg (v := 0) D3
    refine ⟨s4, x4, ?_, D4.mono (Nat.le_refl _) (by omega)⟩
    rw [kc_dr D.1, Option.bind_some, e3, bnd_some, bnd_some, e4, Option.bind_some]
  by_cases c40 : T1.2.1 = 40
  · rw [if_pos c40, if_neg (by decide)]
    by_cases c16 : p = 16
    · subst c16
      obtain ⟨s2, e2, D2⟩ := jj_openNo (d := d1 + 6) (dp := nI 16) V1 J1c (K := 40) (fun h => absurd h.2 (by decide))
      obtain ⟨s4, x4, e4, D4⟩ := dead s2 _ _ (D2.mono (Nat.le_refl _) (by omega))
      rw [e2, bnd_some, if_pos rfl, bnd_some, e4, if_pos (show nI 16 = 16 from rfl), jj_bad J1, bnd_some, okB_of (Or.inl rfl), bnd_some, okB_of (Or.inl rfl)]
      exact OUT.no D4 J1.rf
    · have m0 : ¬ T1.2.1 = 0 := by rw [c40]; decide
      have m1 : ¬ T1.2.1 = 1 := by rw [c40]; decide
      obtain ⟨s2, e2, V2⟩ := jj_open (d := d1 + 2) (dp := nI p) V1 J1c c40 (by decide) (by decide) (lt16 hp c16)
      obtain ⟨q2, T2, t2, J2, _⟩ := J1.adv m0 m1
      rw [e2, bnd_some, if_neg (by decide), if_neg (en16 hp c16), jj_step (d := d2 + 3) J1, bnd_some, ← nI_succ]
      rcases HE (by omega) (d1 + 8) (d2 + 8) (by omega) (by omega) s2 _ _ _ _ _ _ V2 J2 hV with ⟨s', x', y', u', q', T', t', r1, r2, V', J', hq⟩ | ⟨s', x', y', qf, r1, r2, D, g⟩
      · dsimp only at r1 r2
        have hq' : QE V0 x y (u + 1 + 1) x' y' u' := hq
        have hb' := J'.2.2.2.2.2
        have hu' := J'.uq
        rw [r1, r2, bnd_some, bnd_some, if_neg (by decide), if_neg ho]
        unfold x_Mod_built_b100
        rw [y_put J.er (by omega), bnd_some, y_p25 J.er, Option.bind_some]
        have JP : TQ (re_g E2) (re_L E2) q' T' t' ∧ AtR q' t' (ra_b (raGiven (raPut y' opr) 0)) ∧ (ra_b (raGiven (raPut y' opr) 0)).2.2.2.2.1 < 0 := ⟨J'.tq, J'.ar, J'.fneg⟩
        by_cases c : T'.2.1 = 41
        · have k0 : ¬ T'.2.1 = 0 := by rw [c]; decide
          have k1 : ¬ T'.2.1 = 1 := by rw [c]; decide
          obtain ⟨s3, e3, V3⟩ := jj_take (d := d1 + 2) V' J' c (by decide) (by decide)
          obtain ⟨q3, T3, t3, J3, _⟩ := J'.adv k0 k1
          obtain ⟨s4, e4, V4⟩ := kc_add (d := d1 + 7) (op := op) (ar := 0) J.eo V3 (by show ca_h x' + 1 ≤ _; omega)
          obtain ⟨s5, e5, V5⟩ := kc_asg (v := 0) J.eo V4
          rw [e3, bnd_some, bnd_some, kc_dr V3, Option.bind_some, e4, bnd_some, bnd_some, e5, Option.bind_some, y_take (d := d2 + 2) (j := 16) J.er JP.2.1 JP.1 2 rfl (by decide) c, bnd_some, okB_of (Or.inr rfl), bnd_some, okB_of (Or.inr rfl)]
          refine OUT.ok V5 (J3.chg ⟨rfl, rfl, rfl, rfl⟩ ⟨rfl, rfl⟩ ?_) (hq'.un bI bR (by omega) (Nat.le_succ u') (by omega) rfl ⟨rfl, rfl, rfl⟩ rfl rfl)
          show ca_h x' + 1 ≤ _ ∧ ca_k x' ≤ _ ∧ ra_m y' + 1 ≤ _ ∧ ra_v y' ≤ _ ∧ ra_p y' ≤ _
          omega
        · obtain ⟨s3, e3, D3⟩ := jj_takeNo (d := d1 + 6) V' J' c
          obtain ⟨s4, x4, e4, D4⟩ := dead s3 _ _ (D3.mono (by have := hq'.1.2.1.1; exact this) (by omega))
          rw [e3, bnd_some, bnd_some, e4, y_takeNo (d := d2 + 2) (j := 16) J.er JP.2.1 JP.1 JP.2.2 2 rfl (by decide) c, bnd_some, okB_of (Or.inl rfl), bnd_some, okB_of (Or.inl rfl)]
          exact OUT.no D4 J'.rf
      · dsimp only at r1 r2
        obtain ⟨s3, x3, e3, D3⟩ := dd_take (d := d1 + 6) (k := 41) D (by decide)
        obtain ⟨s4, x4, e4, D4⟩ := dead s3 x3 qf (D3.mono (Nat.le_refl _) (by omega))
        rw [r1, r2, bnd_some, bnd_some, if_pos rfl, e3, bnd_some, bnd_some, e4, bnd_some, okB_of (Or.inl rfl)]
        exact OUT.no D4 g
  · obtain ⟨s2, e2, D2⟩ := jj_openNo (d := d1 + 6) (dp := nI p) V1 J1c (K := 40) (fun h => c40 h.1)
    obtain ⟨s4, x4, e4, D4⟩ := dead s2 _ _ (D2.mono (Nat.le_refl _) (by omega))
    rw [e2, bnd_some, if_pos rfl, bnd_some, e4, if_neg c40, if_pos rfl, jj_bad J1, bnd_some, okB_of (Or.inl rfl), bnd_some, okB_of (Or.inl rfl)]
    exact OUT.no D4 J1.rf
theorem ja_push (hp : p ≤ 16) (HE : p < 16 → HX E1 cr E2 w0 V0 (p + 1)) (hd1 : 12 * (16 - p) + 12 ≤ d1) (hd2 : 12 * (16 - p) + 12 ≤ d2) (V : KC E1 s x) (J : JJ E1 cr E2 w0 u q T t x y) (hV : V0 ≤ ra_v y) (hk : T.2.1 = 15) (r1 : Option (Unit × HS)) (r2 : Option (Int32 × HS)) (hc : r1 = bnd (x_Pars_pushAtom_b (clP (d1 + 9)) (d1 + 9) 132 (nI p) s) fun _ s => (pV s 132 5 7 (.int 0)).bind fun s => some ((), s)) (hr : r2 = bnd (x_Mod_built_b32 (clM (d2 + 8)) (d2 + 8) 160 (nI p) 18 (pm cr E2 (raGiven y 0))) fun v s => okB v (some (v, s))) : OUT E1 cr E2 w0 (ca_h x) (4000 + 4 * (12 * (16 - p) + 23)) (QE V0 x y u) r1 r2 := by
  subst hc hr
  have Jg := J.gv 0
  have n0 : ¬ T.2.1 = 0 := by rw [hk]; decide
  have n1 : ¬ T.2.1 = 1 := by rw [hk]; decide
  have hu := J.lt n0 n1
  obtain ⟨s1, e1, V1⟩ := jj_take (d := d1 + 3) V J hk (by decide) (by decide)
  obtain ⟨q1, T1, t1, J1, _⟩ := Jg.adv n0 n1
  have J1c : JJ E1 cr E2 w0 (u + 1) q1 T1 t1 (cav E1 t x) (rav E2 t (raGiven y 0)) := J1
  unfold x_Pars_pushAtom_b x_Mod_built_b32
  rw [kc_gd V, e1, bnd_some, jj_step (d := d2 + 3) Jg, bnd_some, J1.is (d := d2 + 4) (K := 40) 1 rfl (by decide) rfl, bnd_some]
  have dead : ∀ s' x' qf, DD E1 s' x' qf (ca_h x) (4000 + 4 * (12 * (16 - p) + 20)) → ∃ s'' x'', (bnd ((gR s' 132 5 3).bind fun v8 => (bnd (x_Draft_add (d1 + 9) v8 24 0 s') fun v10 s9 => (some ((), s9)))) fun _ s => (pV s 132 5 7 (.int 0)).bind fun s => some ((), s)) = some ((), s'') ∧ DD E1 s'' x'' qf (ca_h x) (4000 + 4 * (12 * (16 - p) + 23)) := fun s' x' qf D => by
    obtain ⟨s3, x3, e3, D3⟩ := dd_add (d := d1 + 7) (op := 24) (ar := 0) D (by omega)
    obtain ⟨s4, x4, e4, D4⟩ := dd_asg (v := 0) D3
    refine ⟨s4, x4, ?_, D4.mono (Nat.le_refl _) (by omega)⟩
    rw [kc_dr D.1, Option.bind_some, e3, bnd_some, bnd_some, e4, Option.bind_some]
  by_cases c40 : T1.2.1 = 40
  · rw [if_pos c40, if_neg (by decide)]
    by_cases c16 : p = 16
    · subst c16
      obtain ⟨s2, e2, D2⟩ := jj_openNo (d := d1 + 7) (dp := nI 16) V1 J1c (K := 40) (fun h => absurd h.2 (by decide))
      obtain ⟨s4, x4, e4, D4⟩ := dead s2 _ _ (D2.mono (Nat.le_refl _) (by omega))
      rw [e2, bnd_some, if_pos rfl, e4, if_pos (show nI 16 = 16 from rfl), jj_bad J1, bnd_some, okB_of (Or.inl rfl), bnd_some, okB_of (Or.inl rfl)]
      exact OUT.no D4 J1.rf
    · have m0 : ¬ T1.2.1 = 0 := by rw [c40]; decide
      have m1 : ¬ T1.2.1 = 1 := by rw [c40]; decide
      obtain ⟨s2, e2, V2⟩ := jj_open (d := d1 + 3) (dp := nI p) V1 J1c c40 (by decide) (by decide) (lt16 hp c16)
      obtain ⟨q2, T2, t2, J2, _⟩ := J1.adv m0 m1
      rw [e2, bnd_some, if_neg (by decide), if_neg (en16 hp c16), jj_step (d := d2 + 3) J1, bnd_some, ← nI_succ]
      have hE := HE (by omega) (d1 + 9) (d2 + 8) (by omega) (by omega)
      rcases hE s2 _ _ _ _ _ _ V2 J2 hV with ⟨s', x', y', u', q', T', t', r1, r2, V', J', hq⟩ | ⟨s', x', y', qf, r1, r2, D, g⟩
      · dsimp only at r1 r2
        have hq' : QE V0 x y (u + 1 + 1) x' y' u' := hq
        rw [r1, r2, bnd_some, bnd_some, if_neg (by decide), if_pos rfl]
        by_cases c : T'.2.1 = 44
        · have k0 : ¬ T'.2.1 = 0 := by rw [c]; decide
          have k1 : ¬ T'.2.1 = 1 := by rw [c]; decide
          obtain ⟨s3, e3, V3⟩ := jj_take (d := d1 + 3) V' J' c (by decide) (by decide)
          obtain ⟨q3, T3, t3, J3, _⟩ := J'.adv k0 k1
          rw [e3, bnd_some, jj_rtake (d := d2 + 2) (j := 18) J' 3 rfl (by decide) c, bnd_some, if_neg (by decide)]
          rcases hE s3 _ _ _ _ _ _ V3 J3 (by have := hq'.1.2.2.1.2.2.1; show V0 ≤ ra_v y'; omega) with ⟨s5, x5, y5, u5, q5, T5, t5, r1, r2, V5, J5, hq5⟩ | ⟨s5, x5, y5, qf, r1, r2, D, g⟩
          · dsimp only at r1 r2
            have hq5' : QE V0 x' y' (u' + 1) x5 y5 u5 := hq5
            have hb5 := J5.2.2.2.2.2
            have hu5 := J5.uq
            have hA : ca_h x ≤ ca_h x5 := Nat.le_trans hq'.1.2.1.1 hq5'.1.2.1.1
            rw [r1, r2, bnd_some, bnd_some, if_neg (by decide)]
            unfold x_Mod_built_b100
            rw [y_put J.er (by omega), bnd_some, y_p25 J.er, Option.bind_some]
            have JP : TQ (re_g E2) (re_L E2) q5 T5 t5 ∧ AtR q5 t5 (ra_b (raGiven (raPut y5 18) 0)) ∧ (ra_b (raGiven (raPut y5 18) 0)).2.2.2.2.1 < 0 := ⟨J5.tq, J5.ar, J5.fneg⟩
            by_cases c5 : T5.2.1 = 41
            · have z0 : ¬ T5.2.1 = 0 := by rw [c5]; decide
              have z1 : ¬ T5.2.1 = 1 := by rw [c5]; decide
              obtain ⟨s6, e6, V6⟩ := jj_take (d := d1 + 3) V5 J5 c5 (by decide) (by decide)
              obtain ⟨q6, T6, t6, J6, _⟩ := J5.adv z0 z1
              obtain ⟨s7, e7, V7⟩ := kc_add (d := d1 + 7) (op := 24) (ar := 0) J.eo V6 (by show ca_h x5 + 1 ≤ _; omega)
              obtain ⟨s8, e8, V8⟩ := kc_asg (v := 0) J.eo V7
              rw [e6, bnd_some, kc_dr V6, Option.bind_some, e7, bnd_some, bnd_some, e8, Option.bind_some, y_take (d := d2 + 2) (j := 16) J.er JP.2.1 JP.1 2 rfl (by decide) c5, bnd_some, okB_of (Or.inr rfl), bnd_some, okB_of (Or.inr rfl)]
              have hqw : QE V0 x y u (caAsg x' 0) (raGiven y' 0) u' := hq'.wrap (by omega) (Nat.le_refl _) rfl ⟨rfl, rfl, rfl⟩ rfl rfl
              have hq5w : QE V0 (caAsg x' 0) (raGiven y' 0) (u' + 1) x5 y5 u5 := hq5'
              refine OUT.ok V8 (J6.chg ⟨rfl, rfl, rfl, rfl⟩ ⟨rfl, rfl⟩ ?_) (QE.bi (x'' := caAsg (caAdd (cav E1 t5 x5) 24 0) 0) (y'' := rav E2 t5 (raGiven (raPut y5 18) 0)) (F := dTwo d_push) (wd := 1) (op := 24) (ar := 0) (by decide) (fun a b c d e f g => ImE_push a b c d e f g) (fun {a b c va kv lcl need D E} h1 h2 h3 h4 h5 h6 => IrE_push h1 h2 h3 h5 h6 (by subst h4; exact upA)) hqw hq5w (Nat.le_refl _) rfl ⟨AGr.rfl'.put, rfl, rfl, rfl, rfl⟩ rfl rfl (Nat.le_succ _))
              show ca_h x5 + 1 ≤ _ ∧ ca_k x5 ≤ _ ∧ ra_m y5 + 1 ≤ _ ∧ ra_v y5 ≤ _ ∧ ra_p y5 ≤ _
              omega
            · obtain ⟨s6, e6, D6⟩ := jj_takeNo (d := d1 + 7) V5 J5 c5
              obtain ⟨s7, x7, e7, D7⟩ := dead s6 _ _ (D6.mono hA (by omega))
              rw [e6, bnd_some, e7, y_takeNo (d := d2 + 2) (j := 16) J.er JP.2.1 JP.1 JP.2.2 2 rfl (by decide) c5, bnd_some, okB_of (Or.inl rfl), bnd_some, okB_of (Or.inl rfl)]
              exact OUT.no D7 J5.rf
          · dsimp only at r1 r2
            obtain ⟨s6, x6, e6, D6⟩ := dd_take (d := d1 + 7) (k := 41) D (by decide)
            obtain ⟨s7, x7, e7, D7⟩ := dead s6 x6 qf (D6.mono (by have := hq'.1.2.1.1; exact this) (by omega))
            rw [r1, r2, bnd_some, bnd_some, if_pos rfl, e6, bnd_some, e7, bnd_some, okB_of (Or.inl rfl)]
            exact OUT.no D7 g
        · obtain ⟨s3, e3, D3⟩ := jj_takeNo (d := d1 + 7) V' J' c
          obtain ⟨s4, x4, e4, D4⟩ := dd_expr (d := d1 - 2) (dp := nI (p + 1)) D3
          rw [show d1 - 2 + 11 = d1 + 9 by omega] at e4
          obtain ⟨s6, x6, e6, D6⟩ := dd_take (d := d1 + 7) (k := 41) D4 (by decide)
          obtain ⟨s7, x7, e7, D7⟩ := dead s6 x6 _ (D6.mono (by have := hq'.1.2.1.1; exact this) (by omega))
          rw [e3, bnd_some, e4, bnd_some, e6, bnd_some, e7, jj_rtakeNo (d := d2 + 2) (j := 18) J' 3 rfl (by decide) c, bnd_some, if_pos rfl, bnd_some, okB_of (Or.inl rfl)]
          exact OUT.no D7 J'.rf
      · dsimp only at r1 r2
        obtain ⟨s3, x3, e3, D3⟩ := dd_take (d := d1 + 7) (k := 44) D (by decide)
        obtain ⟨s4, x4, e4, D4⟩ := dd_expr (d := d1 - 2) (dp := nI (p + 1)) D3
        rw [show d1 - 2 + 11 = d1 + 9 by omega] at e4
        obtain ⟨s6, x6, e6, D6⟩ := dd_take (d := d1 + 7) (k := 41) D4 (by decide)
        obtain ⟨s7, x7, e7, D7⟩ := dead s6 x6 _ (D6.mono (Nat.le_refl _) (by omega))
        rw [r1, r2, bnd_some, bnd_some, if_pos rfl, e3, bnd_some, e4, bnd_some, e6, bnd_some, e7, bnd_some, okB_of (Or.inl rfl)]
        exact OUT.no D7 g
  · obtain ⟨s2, e2, D2⟩ := jj_openNo (d := d1 + 7) (dp := nI p) V1 J1c (K := 40) (fun h => c40 h.1)
    obtain ⟨s4, x4, e4, D4⟩ := dead s2 _ _ (D2.mono (Nat.le_refl _) (by omega))
    rw [e2, bnd_some, if_pos rfl, e4, if_neg c40, if_pos rfl, jj_bad J1, bnd_some, okB_of (Or.inl rfl), bnd_some, okB_of (Or.inl rfl)]
    exact OUT.no D4 J1.rf
theorem ja_row (hp : p ≤ 16) (HE : p < 16 → HX E1 cr E2 w0 V0 (p + 1)) (hd1 : 12 * (16 - p) + 12 ≤ d1) (hd2 : 12 * (16 - p) + 12 ≤ d2) (V : KC E1 s x) (J : JJ E1 cr E2 w0 u q T t x y) (hV : V0 ≤ ra_v y) (hk : T.2.1 = 91) : OUT E1 cr E2 w0 (ca_h x) (4000 + 4 * (12 * (16 - p) + 23)) (QE V0 x y u) (x_Pars_atom_b (clP (d1 + 10)) (d1 + 10) 132 (nI p) s) (x_Mod_simple_b (clM (d2 + 9)) (d2 + 9) 160 (nI p) (pm cr E2 y)) := by
  have Jg := J.gv 0
  have n0 : ¬ T.2.1 = 0 := by rw [hk]; decide
  have n1 : ¬ T.2.1 = 1 := by rw [hk]; decide
  have hu := J.lt n0 n1
  have c0 : x_Pars_atom_b (clP (d1 + 10)) (d1 + 10) 132 (nI p) s = bnd (x_Pars_list_b (clP (d1 + 9)) (d1 + 9) 132 91 93 (nI p) s) fun v51 s50 => (bnd (x_Draft_add (d1 + 10) (ce_d E1) 22 v51 s50) fun v53 s52 => ((pV s52 132 5 7 (.int 0)).bind fun s54 => (some ((), s54)))) := by
    unfold x_Pars_atom_b
    rw [kc_gd V, kc_lx V, Option.bind_some, kc_kind V, bnd_some, J.kd, hk, if_neg (by decide), if_neg (by decide), if_neg (by decide), if_neg (by decide), if_neg (by decide), if_neg (by decide), if_neg (by decide), if_neg (by decide), if_pos rfl, kc_dr V, Option.bind_some, c_lst]
  have dead : ∀ s' x' qf v, DD E1 s' x' qf (ca_h x) (4000 + 4 * (12 * (16 - p) + 20)) → ∃ s'' x'', (bnd (some (v, s')) fun v51 s50 => (bnd (x_Draft_add (d1 + 10) (ce_d E1) 22 v51 s50) fun v53 s52 => ((pV s52 132 5 7 (.int 0)).bind fun s54 => (some ((), s54))))) = some ((), s'') ∧ DD E1 s'' x'' qf (ca_h x) (4000 + 4 * (12 * (16 - p) + 23)) := fun s' x' qf v D => by
    obtain ⟨s3, x3, e3, D3⟩ := dd_add (d := d1 + 8) (op := 22) (ar := v) D (by omega)
    obtain ⟨s4, x4, e4, D4⟩ := dd_asg (v := 0) D3
    refine ⟨s4, x4, ?_, D4.mono (Nat.le_refl _) (by omega)⟩
    rw [bnd_some, e3, bnd_some, e4, Option.bind_some]
  rw [c0, r_sim J (by rw [hk]; decide) (by rw [hk]; decide) (by rw [hk]; decide) (by rw [hk]; decide), if_neg (by rw [hk]; decide), if_pos (Or.inr (Or.inr hk))]
  unfold x_Pars_list_b x_Mod_simple_b243
  rw [kc_gd V]
  by_cases c16 : p = 16
  · subst c16
    obtain ⟨s2, e2, D2⟩ := jj_openNo (d := d1 + 7) (dp := nI 16) V J (K := 91) (fun h => absurd h.2 (by decide))
    obtain ⟨s3, x3, e3, D3⟩ := dd_take (d := d1 + 7) (k := 93) D2 (by decide)
    obtain ⟨s4, x4, e4, D4⟩ := dead s3 x3 _ 0 (D3.mono (Nat.le_refl _) (by omega))
    rw [e2, bnd_some, if_pos rfl, e3, bnd_some, e4, if_pos (show nI 16 = 16 from rfl), jj_bad Jg, bnd_some, okB_of (Or.inl rfl)]
    exact OUT.no D4 Jg.rf
  · have hE := HE (by omega) (d1 + 9) (d2 + 8) (by omega) (by omega)
    obtain ⟨s2, e2, V2⟩ := jj_open (d := d1 + 3) (dp := nI p) V J hk (by decide) (by decide) (lt16 hp c16)
    obtain ⟨q2, T2, t2, J2, _⟩ := Jg.adv n0 n1
    rw [e2, bnd_some, if_neg (by decide), if_neg (en16 hp c16), Jg.is (d := d2 + 5) (K := 123) 4 rfl (by decide) rfl, bnd_some, if_neg (show ¬ T.2.1 = 123 by rw [hk]; decide), if_pos rfl, Jg.is (d := d2 + 5) (K := 91) 14 rfl (by decide) rfl, bnd_some, if_pos hk, if_neg (by decide)]
    show OUT _ _ _ _ _ _ _ _ (bnd (x_Mod_row_b (clM (d2 + 8)) (d2 + 8) 160 (nI p + 1) (pm cr E2 (raGiven y 0))) _)
    unfold x_Mod_row_b
    rw [y_gd J.er, jj_step (d := d2 + 3) Jg, bnd_some, ← nI_succ]
    have LE := j_list (d1 := d1 + 1) (d2 := d2) (CL := 44) (fin := fun v s => x_Mod_row_b56 (clM (d2 + 8)) (d2 + 8) 160 v s) hE (K := 93) (by decide) (by decide) (by decide) (i := 16) rfl (by decide) rfl V2 J2 hV
    rcases LE with ⟨m, s', x', y', u', q', T', t', V', J', Q, k1, k2⟩ | ⟨s', x', y', qf, v, k1, k2, D, g⟩
    · have hQ := Q.1
      have hu' := J'.uq
      have hb' := J'.2.2.2.2.2
      refine Eq.mpr (congrArg (fun z => OUT _ _ _ _ _ _ _ (bnd z _) _) k1) ?_
      refine Eq.mpr (congrArg (fun z => OUT _ _ _ _ _ _ _ _ (bnd z _)) k2) ?_
      unfold x_Mod_row_b56
      dsimp only
      rw [y_put2 J.er (by omega), bnd_some, y_p25 J.er, Option.bind_some]
      have JP : TQ (re_g E2) (re_L E2) q' T' t' ∧ AtR q' t' (ra_b (raGiven (raPut (raPut y' 21) (nI m)) 0)) ∧ (ra_b (raGiven (raPut (raPut y' 21) (nI m)) 0)).2.2.2.2.1 < 0 := ⟨J'.tq, J'.ar, J'.fneg⟩
      by_cases c : T'.2.1 = 93
      · have m0 : ¬ T'.2.1 = 0 := by rw [c]; decide
        have m1 : ¬ T'.2.1 = 1 := by rw [c]; decide
        obtain ⟨s3, e3, V3⟩ := jj_take (d := d1 + 3) V' J' c (by decide) (by decide)
        obtain ⟨q3, T3, t3, J3, _⟩ := J'.adv m0 m1
        obtain ⟨s5, e5, V5⟩ := kc_add (d := d1 + 8) (op := 22) (ar := nI m) J.eo V3 (by show ca_h x' + 1 ≤ _; omega)
        obtain ⟨s6, e6, V6⟩ := kc_asg (v := 0) J.eo V5
        rw [e3, bnd_some, bnd_some, e5, bnd_some, e6, Option.bind_some, y_take (d := d2 + 2) (j := 44) J.er JP.2.1 JP.1 16 rfl (by decide) c, bnd_some, okB_of (Or.inr rfl), bnd_some, okB_of (Or.inr rfl)]
        obtain ⟨Q1, Q2, Q3, Q4, Q5, Q6, l, Q7, Q8⟩ := Q
        have Q2' : AGc x x' := Q2
        have Q3' : AGr y y' := Q3
        have Q5' : ca_t x' = ca_t x ∧ ca_l x' = ca_l x ∧ y'.2.2.1 = y.2.2.1 := Q5
        have Q6' : ca_h x' + 2 * (u + 1) ≤ ca_h x + 2 * u' ∧ ca_k x' + 2 * (u + 1) ≤ ca_k x + 2 * u' ∧ ra_m y' + 3 * (u + 1) ≤ ra_m y + 3 * u' ∧ ra_v y' + (u + 1) ≤ ra_v y + u' := Q6
        have Q7' : ImL (ca_h x) (ca_h x') (ca_t x) (u' - (u + 1)) (ca_k x') (ca_c x') (ca_p x') m l := Q7
        have Q8' : IrL (ra_m y) (ra_m y') V0 (ra_v y') (ca_t x) (u' - (u + 1)) (ra_s y') (ra_q y') m l := Q8
        refine OUT.ok V6 (J3.chg ⟨rfl, rfl, rfl, rfl⟩ ⟨rfl, rfl⟩ ?_) ⟨⟨by omega, Q2'.add, Q3'.put.put, Q4, Q5', ?_⟩, ⟨dRow m l, ?_, ?_⟩, rfl, Or.inl rfl⟩
        · show ca_h x' + 1 ≤ _ ∧ ca_k x' ≤ _ ∧ ra_m y' + 1 + 1 ≤ _ ∧ ra_v y' ≤ _ ∧ ra_p y' ≤ _
          omega
        · show ca_h x' + 1 + 2 * u ≤ _ ∧ ca_k x' + 2 * u ≤ _ ∧ ra_m y' + 1 + 1 + 3 * u ≤ _ ∧ ra_v y' + u ≤ _
          omega
        · exact ImE_row Q2'.1 (by omega) (by omega) (Q7'.ext (Nat.le_refl _) (by omega) (Nat.le_refl _) (fun j _ hj => (AGc.rfl'.add (op := 22) (ar := nI m)).2.1 j hj) (fun _ _ => rfl)) up20 up21
        · exact IrE_row Q3'.1 (by omega) (by omega) (by omega) (Q8'.ext (Nat.le_refl _) (by omega) (Nat.le_refl _) (Nat.le_refl _) (fun j _ hj => (AGr.rfl'.put (v := 21) |>.put (v := nI m)).2.1 j hj) (fun _ _ _ => rfl)) up10 up11
      · obtain ⟨s3, e3, D3⟩ := jj_takeNo (d := d1 + 7) V' J' c
        obtain ⟨s4, x4, e4, D4⟩ := dead s3 _ _ (nI m) (D3.mono (by have := Q.2.1.1; exact this) (by omega))
        rw [e3, bnd_some, e4, y_takeNo (d := d2 + 2) (j := 44) J.er JP.2.1 JP.1 JP.2.2 16 rfl (by decide) c, bnd_some, okB_of (Or.inl rfl), bnd_some, okB_of (Or.inl rfl)]
        exact OUT.no D4 J'.rf
    · refine Eq.mpr (congrArg (fun z => OUT _ _ _ _ _ _ _ (bnd z _) _) k1) ?_
      refine Eq.mpr (congrArg (fun z => OUT _ _ _ _ _ _ _ _ (bnd z _)) k2) ?_
      obtain ⟨s4, x4, e4, D4⟩ := dead s' x' qf v (D.mono (Nat.le_refl _) (by omega))
      rw [e4, bnd_some, okB_of (Or.inl rfl)]
      exact OUT.no D4 g
end
