section
variable {E1 : CE} {cr : Nat} {E2 : RE} {w0 : W2} {u u' u1 u2 v1 q q' d d1 d2 j V0 A B A' B' p m n CL i c h e wd qf : Nat} {T T' : TKc} {t t' : TKr} {x x' x'' x1 x2 : CA} {y y' y'' y1 y2 : RA} {s s' s1 : HS} {K dp op opr ar l t0 v l4 l1 : Int32} {w : Bool} {Q : CA → RA → Nat → Prop} {r1 r2 : Option (Int32 × HS)}
theorem ns_eq : x_Pars_names (d + 1) 132 s = gd s 132 5 (bnd (x_Pars_take d 132 40 s) fun v2 s1 => ((gR s1 132 5 0).bind fun v3 => (bnd (x_Lexer_kind d v3 s1) fun v5 s4 => (if v5 = 41 then (bnd (x_Pars_take d 132 41 s4) fun v7 s6 => (some (nI 0, s6))) else (bnd (x_Pars_newName d 132 (nI 0) s4) fun v9 s8 => (loopK (nsB d) FU (nI 1, s8))))))) := rfl
theorem j_names (V : KC E1 s x) (J : JJ E1 cr E2 w0 u q T t x y) (hn : ca_t x = 0) : NO E1 cr E2 w0 d1 d2 l1 (ca_h x) x y (u + 1) (x_Pars_names (d1 + 10) 132 s) (bnd (x_Mod_take (d2 + 9) 160 14 (pm cr E2 y)) fun v20 s19 => (if v20 = 0 then (some (0, s19)) else (loopK (fnB (d2 + 9) l1) FU s19))) := by
  have ht0 : ca_t x = ra_t y := J.2.2.2.2.1.1
  rw [ns_eq, kc_gd V]
  by_cases c : T.2.1 = 40
  · have m0 : ¬ T.2.1 = 0 := by rw [c]; decide
    have m1 : ¬ T.2.1 = 1 := by rw [c]; decide
    obtain ⟨s1, e1, V1⟩ := jj_take (d := d1 + 3) V J c (by decide) (by decide)
    obtain ⟨q1, T1, t1, J1, _⟩ := J.adv m0 m1
    rw [e1, bnd_some, kc_lx V1, Option.bind_some, kc_kind V1, bnd_some, J1.kd, jj_rtake (d := d2 + 3) (j := 14) J 1 rfl (by decide) c, bnd_some, if_neg (show ¬ (1 : Int32) = 0 by decide)]
    have hx : SameC x (cav E1 t x) := ⟨rfl, rfl, rfl, rfl⟩
    have hy : SameR y (rav E2 t y) := ⟨rfl, rfl⟩
    have tx : ca_t (cav E1 t x) = 0 := hn
    have ty : ra_t (rav E2 t y) = 0 := by show ra_t y = 0; omega
    generalize cav E1 t x = x1 at V1 J1 hx tx ⊢
    generalize rav E2 t y = y1 at J1 hy ty ⊢
    rw [loopFU, fnB_eq, y_24 J.er, Option.bind_some, ty, if_pos (show nI 0 = 0 from rfl), J1.is (d := d2 + 5) (K := 41) 2 rfl (by decide) rfl, bnd_some]
    by_cases c41 : T1.2.1 = 41
    · rw [if_pos c41, if_pos c41, if_neg (by decide)]
      exact Or.inl ⟨s1, x1, y1, u + 1, q1, T1, t1, 0, rfl, rfl, V1, J1, tx, by decide, hx, hy, by omega⟩
    · rw [if_neg c41, if_neg c41, if_pos rfl, y_24 J.er, Option.bind_some, ty, if_pos (show nI 0 ≤ 0 by decide)]
      rcases j_new (d1 := d1) (d2 := d2 + 4) V1 J1 tx (by decide) with ⟨s2, x2, y2, q2, T2, t2, r1, r2, V2, J2, a1, a2, a3, a4⟩ | ⟨s2, x2, y2, qf, r1, r2, D2, gf⟩
      · rw [r1, bnd_some, r2]
        have I := j_nsL (d1 := d1) (d2 := d2) (l1 := l1) 4 1 FU (FU - 1) s2 x2 y2 (u + 1 + 1) q2 T2 t2 (by decide) (by decide) (by decide) (by rw [FU_eq]; decide) (by rw [FU_eq]; decide) V2 J2 a1
        rw [show ca_h x2 = ca_h x from a3.1.trans hx.1] at I
        exact I.from (hx.trans a3) (hy.trans a4) (by omega)
      · obtain ⟨s3, x3, v3, e3, D3⟩ := d_nsB (d1 := d1) (M := FU - 1) (z := nI 1) D2
        rw [show FU - 1 + 1 = FU by rw [FU_eq]] at e3
        rw [r1, bnd_some, r2, e3]
        exact Or.inr ⟨s3, x3, y2, qf, v3, rfl, rfl, D3.mono (by rw [hx.1]; exact Nat.le_refl _) (by decide), gf⟩
  · obtain ⟨s1, e1, D1⟩ := jj_takeNo (d := d1 + 7) V J c
    obtain ⟨s2, x2, e2, D2⟩ := d_new (d1 := d1) (z := nI 0) D1 (by decide)
    obtain ⟨s3, x3, v3, e3, D3⟩ := d_nsB (d1 := d1) (M := FU - 1) (z := nI 1) D2
    rw [show FU - 1 + 1 = FU by rw [FU_eq]] at e3
    rw [e1, bnd_some, kc_lx D1.1, Option.bind_some, dd_kind D1, bnd_some, if_neg (by decide), e2, bnd_some, e3, jj_rtakeNo (d := d2 + 3) (j := 14) J 1 rfl (by decide) c, bnd_some, if_pos rfl]
    exact Or.inr ⟨s3, x3, _, q, v3, rfl, rfl, D3.mono (Nat.le_refl _) (by decide), J.rf⟩
end
