/-! phrases made of phrases -/
section
variable {E1 : CE} {cr : Nat} {E2 : RE} {w0 : W2} {u u1 u2 v1 q d d1 d2 j V0 A B A' B' p m CL i : Nat} {T : TKc} {t : TKr} {x x' x'' x1 x2 : CA} {y y' y'' y1 y2 : RA} {s s' : HS} {K dp op opr ar : Int32} {w : List Nat}
theorem IrE.up {a b va kv lcl need kv' need' : Nat} {co co' : Nat → Int32} {vo vo' : Nat → VQ} {D : DE} (h : IrE a b va kv lcl need co vo D) (hn : need ≤ need') (hk : kv ≤ kv') (hc : ∀ j, j < b → co' j = co j) (hp : ∀ j, j < kv → vo' j = vo j) : IrE a b va kv' lcl need' co' vo' D := h.ext (Nat.le_refl _) hn (Nat.le_refl _) hk (fun j _ h => hc j h) (fun j _ h => hp j h)
theorem ImE.up {a b lcl need kp need' kp' : Nat} {co co' : Nat → Int32} {po po' : Nat → Int64} {D : DE} (h : ImE a b lcl need kp co po D) (hn : need ≤ need') (hk : kp ≤ kp') (hc : ∀ j, j < 2 * b → co' j = co j) (hp : ∀ j, j < kp → po' j = po j) : ImE a b lcl need' kp' co' po' D := h.ext (Nat.le_refl _) hn hk (fun j _ h => hc j h) hp
/-- brackets around an E -/
theorem QE.wrap (h : QE V0 x y u1 x' y' u2) (hu : u ≤ u1) (hu2 : u2 ≤ v1) (hx : x''.2.2.2 = x'.2.2.2) (hy : y''.2.1 = y'.2.1 ∧ y''.2.2.1 = y'.2.2.1 ∧ y''.2.2.2.1 = y'.2.2.2.1) (hs : ca_s x'' = 0) (hg : ra_g y'' = 0) : QE V0 x y u x'' y'' v1 := by
  obtain ⟨⟨g1, g2, g3, g4, g5, g6⟩, ⟨D, g7, g8⟩, _⟩ := h
  obtain ⟨a1, a2, a3, a4⟩ := x''
  obtain ⟨b1, b2, b3, b4, b5⟩ := y''
  obtain ⟨hy1, hy2, hy3⟩ := hy
  dsimp only at hx hy1 hy2 hy3
  subst hx hy1 hy2 hy3
  refine ⟨⟨by omega, g2, g3, g4, g5, ?_⟩, ⟨D, g7.up (by omega) (Nat.le_refl _) (fun _ _ => rfl) (fun _ _ => rfl), g8.up (by omega) (Nat.le_refl _) (fun _ _ => rfl) (fun _ _ => rfl)⟩, hs.trans hg.symm, Or.inl hs⟩
  show ca_h x' + _ ≤ _ ∧ ca_k x' + _ ≤ _ ∧ ra_m y' + _ ≤ _ ∧ ra_v y' + _ ≤ _
  omega
/-- one command behind an E -/
theorem QE.un {F : DE → DE} (bI : ∀ {a b lcl need kp : Nat} {co : Nat → Int32} {po : Nat → Int64} {D : DE} {z : Int32}, a ≤ b → 1 ≤ need → ImE a b lcl need kp co po D → co (2 * b) = op → co (2 * b + 1) = z → ImE a (b + 1) lcl need kp co po (F D)) (bR : ∀ {a b va kv lcl need : Nat} {co : Nat → Int32} {vo : Nat → VQ} {D : DE}, a ≤ b → 1 ≤ need → IrE a b va kv lcl need co vo D → co b = opr → IrE a (b + 1) va kv lcl need co vo (F D)) (h : QE V0 x y u1 x' y' u2) (hu : u ≤ u1) (hu2 : u2 ≤ v1) (h1 : u + u2 + 1 ≤ u1 + v1) (hx : x''.2.2.2 = (caAdd x' op ar).2.2.2) (hy : y''.2.1 = (raPut y' opr).2.1 ∧ y''.2.2.1 = y'.2.2.1 ∧ y''.2.2.2.1 = y'.2.2.2.1) (hs : ca_s x'' = 0) (hg : ra_g y'' = 0) : QE V0 x y u x'' y'' v1 := by
  obtain ⟨⟨g1, g2, g3, g4, g5, g6⟩, ⟨D, g7, g8⟩, _⟩ := h
  obtain ⟨a1, a2, a3, a4⟩ := x''
  obtain ⟨b1, b2, b3, b4, b5⟩ := y''
  obtain ⟨hy1, hy2, hy3⟩ := hy
  dsimp only at hx hy1 hy2 hy3
  subst hx hy1 hy2 hy3
  refine ⟨⟨by omega, g2.add, g3.put, g4, g5, ?_⟩, ⟨F D, bI g2.1 (by omega) (g7.up (by omega) (Nat.le_refl _) (fun j hj => (AGc.rfl'.add (op := op) (ar := ar)).2.1 j hj) (fun _ _ => rfl)) up20 up21, bR g3.1 (by omega) (g8.up (by omega) (Nat.le_refl _) (fun j hj => (AGr.rfl'.put (v := opr)).2.1 j hj) (fun _ _ => rfl)) upA⟩, hs.trans hg.symm, Or.inl hs⟩
  show ca_h x' + 1 + _ ≤ _ ∧ ca_k x' + _ ≤ _ ∧ ra_m y' + 1 + _ ≤ _ ∧ ra_v y' + _ ≤ _
  omega
/-- one command behind two E; the reference's takes wd steps -/
theorem QE.bi {F : DE → DE → DE} {wd : Nat} (hw : wd ≤ 2) (bI : ∀ {a b c lcl need kp : Nat} {co : Nat → Int32} {po : Nat → Int64} {D E : DE} {z : Int32}, a ≤ b → b ≤ c → 2 ≤ need → ImE a b lcl need kp co po D → ImE b c lcl (need - 1) kp co po E → co (2 * c) = op → co (2 * c + 1) = z → ImE a (c + 1) lcl need kp co po (F D E)) (bR : ∀ {a b c va kv lcl need : Nat} {D E : DE}, a ≤ b → b ≤ c → 2 ≤ need → c = ra_m y2 → IrE a b va kv lcl need (ra_s y'') (ra_q y'') D → IrE b c va kv lcl (need - 1) (ra_s y'') (ra_q y'') E → IrE a (c + wd) va kv lcl need (ra_s y'') (ra_q y'') (F D E)) (h : QE V0 x y u x1 y1 u1) (h' : QE V0 x1 y1 v1 x2 y2 u2) (hv : u1 + 1 ≤ v1) (hx : x''.2.2.2 = (caAdd x2 op ar).2.2.2) (hy : AGr y2 y'' ∧ ra_m y'' = ra_m y2 + wd ∧ ra_v y'' = ra_v y2 ∧ y''.2.2.1 = y2.2.2.1 ∧ y''.2.2.2.1 = y2.2.2.2.1) (hs : ca_s x'' = 0) (hg : ra_g y'' = 0) {u3 : Nat} (hu3 : u2 ≤ u3) : QE V0 x y u x'' y'' u3 := by
  obtain ⟨⟨g1, g2, g3, g4, g5, g6⟩, ⟨D, g7, g8⟩, _⟩ := h
  obtain ⟨⟨k1, k2, k3, k4, k5, k6⟩, ⟨D', k7, k8⟩, _⟩ := h'
  obtain ⟨hy1, hy2, hy3, hy4, hy5⟩ := hy
  obtain ⟨a1, a2, a3, a4⟩ := x''
  dsimp only at hx
  subst hx
  rw [g5.1] at k7 k8
  have c1 := k2.trans (AGc.rfl'.add (op := op) (ar := ar))
  have pp : ra_p y'' = ra_p y2 := congrArg (·.1) hy5
  refine ⟨⟨by omega, g2.trans c1, g3.trans (k3.trans hy1), pp.trans (k4.trans g4), ⟨k5.1.trans g5.1, k5.2.1.trans g5.2.1, hy4.trans (k5.2.2.trans g5.2.2)⟩, ?_⟩, ⟨F D D', ?_, ?_⟩, hs.trans hg.symm, Or.inl hs⟩
  · rw [hy2, hy3]
    show ca_h x2 + 1 + _ ≤ _ ∧ ca_k x2 + _ ≤ _ ∧ ra_m y2 + wd + _ ≤ _ ∧ ra_v y2 + _ ≤ _
    omega
  · exact bI g2.1 k2.1 (by omega) (g7.up (by omega) k2.2.2.1 (fun j hj => c1.2.1 j hj) (fun j hj => k2.2.2.2 j hj)) (k7.up (by omega) (Nat.le_refl _) (fun j hj => (AGc.rfl'.add (op := op) (ar := ar)).2.1 j hj) (fun _ _ => rfl)) up20 up21
  · rw [hy2]
    refine bR g3.1 k3.1 (by omega) rfl (g8.up (by omega) (by have := k3.2.2.1; have := hy1.2.2.1; omega) (fun j hj => (k3.trans hy1).2.1 j hj) (fun j hj => (k3.trans hy1).2.2.2.1 j hj)) (k8.up (by omega) hy1.2.2.1 (fun j hj => hy1.2.1 j hj) (fun j hj => hy1.2.2.2.1 j hj))
theorem JJ.gv (J : JJ E1 cr E2 w0 u q T t x y) (v : Int32) : JJ E1 cr E2 w0 u q T t x (raGiven y v) := by
  have hb := J.2.2.2.2.2
  exact J.chg ⟨rfl, rfl, rfl, rfl⟩ ⟨rfl, rfl⟩ (by show ca_h x ≤ _ ∧ ca_k x ≤ _ ∧ ra_m y ≤ _ ∧ ra_v y ≤ _ ∧ ra_p y ≤ _; omega)
theorem r_sim (J : JJ E1 cr E2 w0 u q T t x y) (h3 : ¬ T.2.1 = 3) (h4 : ¬ T.2.1 = 4) (h13 : ¬ T.2.1 = 13) (h2 : ¬ T.2.1 = 2) : x_Mod_simple_b (clM (d2 + 9)) (d2 + 9) 160 dp (pm cr E2 y) = (if T.2.1 = 14 ∨ T.2.1 = 15 ∨ T.2.1 = 16 then (bnd (x_Mod_built_b (clM (d2 + 8)) (d2 + 8) 160 dp (pm cr E2 (raGiven y 0))) fun v s => okB v (some (v, s))) else if T.2.1 = 40 ∨ T.2.1 = 123 ∨ T.2.1 = 91 then x_Mod_simple_b243 (clM (d2 + 9)) (d2 + 9) 160 dp (pm cr E2 (raGiven y 0)) else some (0, pm cr E2 (rbd (raGiven y 0)))) := by
  have Jg := J.gv 0
  unfold x_Mod_simple_b
  rw [y_gd J.er, y_p25 J.er, Option.bind_some, y_6 J.er, Option.bind_some, if_neg (by show ¬ (ra_b y).2.1 = 3; rw [J.ar.2.1, J.tq.num]; exact h3), Option.bind_some, if_neg (by show ¬ (ra_b y).2.1 = 4; rw [J.ar.2.1, J.tq.text]; exact h4), Jg.is (d := d2 + 5) (K := 13) 10 rfl (by decide) rfl, bnd_some, if_neg h13, if_pos rfl, y_6 J.er, Option.bind_some, if_neg (by show ¬ (ra_b y).2.1 = 1; rw [J.ar.2.1, J.tq.name]; exact h2), Jg.is (d := d2 + 5) (K := 14) 11 rfl (by decide) rfl, bnd_some]
  by_cases c14 : T.2.1 = 14
  · rw [if_pos c14, if_neg (by decide), if_pos (Or.inl c14)]
    rfl
  · rw [if_neg c14, if_pos rfl, Jg.is (d := d2 + 5) (K := 15) 12 rfl (by decide) rfl, bnd_some]
    by_cases c15 : T.2.1 = 15
    · rw [if_pos c15, if_neg (by decide), if_pos (Or.inr (Or.inl c15))]
      rfl
    · rw [if_neg c15, if_pos rfl, Jg.is (d := d2 + 5) (K := 16) 13 rfl (by decide) rfl, bnd_some]
      by_cases c16 : T.2.1 = 16
      · rw [if_pos c16, if_neg (by decide), if_pos (Or.inr (Or.inr c16))]
        rfl
      · rw [if_neg c16, if_pos rfl, if_neg (by rintro (h | h | h) <;> contradiction), Jg.is (d := d2 + 5) (K := 40) 1 rfl (by decide) rfl, bnd_some]
        by_cases c40 : T.2.1 = 40
        · rw [if_pos c40, if_neg (by decide), if_pos (Or.inl c40)]
        · rw [if_neg c40, if_pos rfl, Jg.is (d := d2 + 5) (K := 123) 4 rfl (by decide) rfl, bnd_some]
          by_cases c123 : T.2.1 = 123
          · rw [if_pos c123, if_neg (by decide), if_pos (Or.inr (Or.inl c123))]
          · rw [if_neg c123, if_pos rfl, Jg.is (d := d2 + 5) (K := 91) 14 rfl (by decide) rfl, bnd_some]
            by_cases c91 : T.2.1 = 91
            · rw [if_pos c91, if_neg (by decide), if_pos (Or.inr (Or.inr c91))]
            · rw [if_neg c91, if_pos rfl, jj_bad Jg, bnd_some, okB_of (Or.inl rfl), if_neg (by rintro (h | h | h) <;> contradiction)]
theorem en16 (hp : p ≤ 16) (h : ¬ p = 16) : ¬ nI p = 16 := fun e => h (nI_inj (by omega) (by decide) (e.trans (show (16 : Int32) = nI 16 from rfl)))
theorem lt16 (hp : p ≤ 16) (h : ¬ p = 16) : nI p < 16 := Int32.not_le.mp (nI_ge (b := 16) (by omega) (by decide))
/-- "(" E ")", as both read it; pre is what the reference puts before its ")" -/
theorem ja_brk (hp : p ≤ 16) (HE : p < 16 → HX E1 cr E2 w0 V0 (p + 1)) (hd1 : 12 * (16 - p) + 12 ≤ d1) (hd2 : 12 * (16 - p) + 12 ≤ d2) (V : KC E1 s x) (J : JJ E1 cr E2 w0 u q T t x y) (hV : V0 ≤ ra_v y) (hk : T.2.1 = 40) : OUT E1 cr E2 w0 (ca_h x) (4000 + 4 * (12 * (16 - p) + 23)) (QE V0 x y u) (x_Pars_atom_b (clP (d1 + 10)) (d1 + 10) 132 (nI p) s) (x_Mod_simple_b (clM (d2 + 9)) (d2 + 9) 160 (nI p) (pm cr E2 y)) := by
  have Jg := J.gv 0
  have c0 : x_Pars_atom_b (clP (d1 + 10)) (d1 + 10) 132 (nI p) s = bnd (x_Pars_inBrackets_b (clP (d1 + 9)) (d1 + 9) 132 (nI p) s) fun _ s => (pV s 132 5 7 (.int 0)).bind fun s => some ((), s) := by
    unfold x_Pars_atom_b
    rw [kc_gd V, kc_lx V, Option.bind_some, kc_kind V, bnd_some, J.kd, hk, if_neg (by decide), if_neg (by decide), if_neg (by decide), if_neg (by decide), if_neg (by decide), if_neg (by decide), if_neg (by decide), if_pos rfl, c_brk]
  rw [c0, r_sim J (by rw [hk]; decide) (by rw [hk]; decide) (by rw [hk]; decide) (by rw [hk]; decide), if_neg (by rw [hk]; decide), if_pos (Or.inl hk)]
  unfold x_Pars_inBrackets_b x_Mod_simple_b243
  rw [kc_gd V]
  by_cases c16 : p = 16
  · subst c16
    obtain ⟨s2, e2, D2⟩ := jj_openNo (d := d1 + 7) (dp := nI 16) V J (K := 40) (fun h => absurd h.2 (by decide))
    obtain ⟨s3, x3, e3, D3⟩ := dd_asg (v := 0) D2
    rw [e2, bnd_some, if_pos rfl, bnd_some, e3, Option.bind_some, if_pos (show nI 16 = 16 from rfl), jj_bad Jg, bnd_some, okB_of (Or.inl rfl)]
    exact OUT.no' D3 Jg.rf (Nat.le_refl _) (by omega)
  · have n0 : ¬ T.2.1 = 0 := by rw [hk]; decide
    have n1 : ¬ T.2.1 = 1 := by rw [hk]; decide
    obtain ⟨s2, e2, V2⟩ := jj_open (d := d1 + 3) (dp := nI p) V J hk (by decide) (by decide) (lt16 hp c16)
    obtain ⟨q2, T2, t2, J2, _⟩ := Jg.adv n0 n1
    rw [e2, bnd_some, if_neg (by decide), if_neg (en16 hp c16), Jg.is (d := d2 + 5) (K := 123) 4 rfl (by decide) rfl, bnd_some, if_neg (show ¬ T.2.1 = 123 by rw [hk]; decide), if_pos rfl, Jg.is (d := d2 + 5) (K := 91) 14 rfl (by decide) rfl, bnd_some, if_neg (show ¬ T.2.1 = 91 by rw [hk]; decide), if_pos rfl, jj_step (d := d2 + 4) Jg, bnd_some, ← nI_succ]
    rcases HE (by omega) (d1 + 9) (d2 + 9) (by omega) (by omega) s2 _ _ _ _ _ _ V2 J2 hV with ⟨s', x', y', u', q', T', t', r1, r2, V', J', hq⟩ | ⟨s', x', y', qf, r1, r2, D, g⟩
    · dsimp only at r1 r2
      rw [r1, r2, bnd_some, bnd_some, if_neg (by decide)]
      have hq' : QE V0 x y (u + 1) x' y' u' := hq
      by_cases c : T'.2.1 = 41
      · have m0 : ¬ T'.2.1 = 0 := by rw [c]; decide
        have m1 : ¬ T'.2.1 = 1 := by rw [c]; decide
        obtain ⟨s3, e3, V3⟩ := jj_take (d := d1 + 3) V' J' c (by decide) (by decide)
        obtain ⟨q3, T3, t3, J3, _⟩ := J'.adv m0 m1
        obtain ⟨s4, e4, V4⟩ := kc_asg (v := 0) J.eo V3
        rw [e3, bnd_some, bnd_some, e4, Option.bind_some, jj_rtake (d := d2 + 3) (j := 16) J' 2 rfl (by decide) c, bnd_some, if_neg (by decide), y_p25 J.er, Option.bind_some]
        have hb := J3.2.2.2.2.2
        exact OUT.ok V4 (J3.chg ⟨rfl, rfl, rfl, rfl⟩ ⟨rfl, rfl⟩ ⟨hb.1, hb.2.1, hb.2.2.2.1, hb.2.2.2.2.1, hb.2.2.2.2.2⟩) (hq'.wrap (Nat.le_succ _) (Nat.le_succ _) rfl ⟨rfl, rfl, rfl⟩ rfl rfl)
      · obtain ⟨s3, e3, D3⟩ := jj_takeNo (d := d1 + 7) V' J' c
        obtain ⟨s4, x4, e4, D4⟩ := dd_asg (v := 0) D3
        rw [e3, bnd_some, bnd_some, e4, Option.bind_some, jj_rtakeNo (d := d2 + 3) (j := 16) J' 2 rfl (by decide) c, bnd_some, if_pos rfl]
        exact OUT.no' D4 J'.rf (by have := hq'.1.2.1.1; exact this) (by omega)
    · dsimp only at r1 r2
      rw [r1, r2, bnd_some, bnd_some, if_pos rfl]
      obtain ⟨s3, x3, e3, D3⟩ := dd_take (d := d1 + 7) (k := 41) D (by decide)
      obtain ⟨s4, x4, e4, D4⟩ := dd_asg (v := 0) D3
      rw [e3, bnd_some, bnd_some, e4, Option.bind_some]
      exact OUT.no' D4 g (Nat.le_refl _) (by omega)
end
