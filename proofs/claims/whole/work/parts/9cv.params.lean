/-! the NAMES of a function, from "(" to before ")" -/
def NO (E1 : CE) (cr : Nat) (E2 : RE) (w0 : W2) (d1 d2 : Nat) (l1 : Int32) (A : Nat) (x : CA) (y : RA) (u : Nat) (r1 : Option (Int32 × HS)) (r2 : Option (Int32 × HS)) : Prop := (∃ s' x' y' u' q' T' t' n, r1 = bnd (x_Pars_take (d1 + 9) 132 41 s') (fun _ s => some (nI n, s)) ∧ r2 = x_Mod_function_b167 (d2 + 9) 160 l1 (pm cr E2 y') ∧ KC E1 s' x' ∧ JJ E1 cr E2 w0 u' q' T' t' x' y' ∧ ca_t x' = n ∧ n ≤ 4 ∧ SameC x x' ∧ SameR y y' ∧ u ≤ u') ∨ (∃ s' x' y' qf z, r1 = some (z, s') ∧ r2 = some (0, pm cr E2 y') ∧ DD E1 s' x' qf A 3110 ∧ RF y' qf)
section
variable {E1 : CE} {cr : Nat} {E2 : RE} {w0 : W2} {u u' u1 u2 v1 q q' d d1 d2 j V0 A B A' B' p m n CL i c h e wd qf : Nat} {T T' : TKc} {t t' : TKr} {x x' x'' x1 x2 : CA} {y y' y'' y1 y2 : RA} {s s' s1 : HS} {K dp op opr ar l t0 v l4 l1 : Int32} {w : Bool} {Q : CA → RA → Nat → Prop} {r1 r2 : Option (Int32 × HS)}
theorem SameC.trans (h : SameC x x') (g : SameC x' x'') : SameC x x'' := ⟨g.1.trans h.1, g.2.1.trans h.2.1, g.2.2.1.trans h.2.2.1, g.2.2.2.trans h.2.2.2⟩
theorem SameR.trans (h : SameR y y') (g : SameR y' y'') : SameR y y'' := ⟨g.1.trans h.1, g.2.trans h.2⟩
theorem NO.from (h : NO E1 cr E2 w0 d1 d2 l1 A x' y' u' r1 r2) (hc : SameC x x') (hr : SameR y y') (hu : u ≤ u') : NO E1 cr E2 w0 d1 d2 l1 A x y u r1 r2 := by
  rcases h with ⟨s', x2, y2, u2, q', T', t', n, a1, a2, a3, a4, a5, a6, a7, a8, a9⟩ | h
  · exact Or.inl ⟨s', x2, y2, u2, q', T', t', n, a1, a2, a3, a4, a5, a6, hc.trans a7, hr.trans a8, by omega⟩
  · exact Or.inr h
theorem d_nsB {M : Nat} {z : Int32} (D : DD E1 s x qf A B) : ∃ s' x' v, loopK (nsB (d1 + 9)) (M + 1) (z, s) = some (v, s') ∧ DD E1 s' x' qf A B := by
  obtain ⟨s1, x1, e1, D1⟩ := dd_take (d := d1 + 7) (k := 41) D (by decide)
  refine ⟨s1, x1, z, ?_, D1⟩
  rw [loopK_succ, nsB_eq]
  by_cases c : 4 < z
  · rw [if_pos c, e1, bnd_some]
  · rw [if_neg c, kc_lx D.1, Option.bind_some, dd_kind D, bnd_some, if_neg (by decide), e1, bnd_some]
theorem j_nsL (k : Nat) : ∀ n M1 M2 s x y u q T t, 4 - n ≤ k → 1 ≤ n → n ≤ 4 → k + 2 ≤ M1 → k + 1 ≤ M2 → KC E1 s x → JJ E1 cr E2 w0 u q T t x y → ca_t x = n → NO E1 cr E2 w0 d1 d2 l1 (ca_h x) x y u (loopK (nsB (d1 + 9)) M1 (nI n, s)) (loopK (fnB (d2 + 9) l1) M2 (pm cr E2 y)) := by
  induction k with
  | zero => ?_
  | succ k ih => ?_
  all_goals
    intro n M1 M2 s x y u q T t hk h1 h4 hM1 hM2 V J hn
    obtain ⟨M1, rfl⟩ : ∃ m, M1 = m + 1 := ⟨M1 - 1, by omega⟩
    obtain ⟨M2, rfl⟩ : ∃ m, M2 = m + 1 := ⟨M2 - 1, by omega⟩
    have ht0 : ca_t x = ra_t y := J.2.2.2.2.1.1
    have z0 : ¬ nI (ra_t y) = 0 := fun e => by
      have := nI_inj (a := ra_t y) (b := 0) (by omega) (by decide) (e.trans (show (0 : Int32) = nI 0 from rfl))
      omega
    rw [loopK_succ, loopK_succ, nsB_eq, fnB_eq, if_neg (show ¬ (4 : Int32) < nI n from Int32.not_lt.mpr (nI_le (show n ≤ 4 from h4) (by decide))), kc_lx V, Option.bind_some, kc_kind V, bnd_some, J.kd, y_24 J.er, Option.bind_some, if_neg z0, J.is (d := d2 + 5) (K := 44) 3 rfl (by decide) rfl, bnd_some]
    by_cases c : T.2.1 = 44
    · have m0 : ¬ T.2.1 = 0 := by rw [c]; decide
      have m1 : ¬ T.2.1 = 1 := by rw [c]; decide
      obtain ⟨s1, e1, V1⟩ := jj_take (d := d1 + 3) V J c (by decide) (by decide)
      obtain ⟨q1, T1, t1, J1, _⟩ := J.adv m0 m1
      rw [if_pos c, if_pos c, if_neg (by decide), e1, bnd_some, y_24 J.er, Option.bind_some, if_neg (show ¬ nI (ra_t y) ≤ 0 from nI_ge (a := 0) (show 0 < ra_t y by omega) (by have := J.2.2.2.2.2; have := J.uq; omega)), jj_step (d := d2 + 4) J, bnd_some]
      rcases j_new (d1 := d1) (d2 := d2 + 4) V1 J1 (show ca_t x = n from hn) h4 with ⟨s2, x2, y2, q2, T2, t2, r1, r2, V2, J2, a1, a2, a3, a4⟩ | ⟨s2, x2, y2, qf, r1, r2, D2, gf⟩
      · first
        | omega
        | (rw [r1, bnd_some, r2, ← nI_succ]
           have I := ih (n + 1) M1 M2 s2 x2 y2 (u + 1 + 1) q2 T2 t2 (by omega) (by omega) (by omega) (by omega) (by omega) V2 J2 a1
           rw [show ca_h x2 = ca_h x from a3.1] at I
           exact I.from (SameC.trans (x' := cav E1 t x) ⟨rfl, rfl, rfl, rfl⟩ a3) (SameR.trans (y' := rav E2 t y) ⟨rfl, rfl⟩ a4) (by omega))
      · obtain ⟨M1, rfl⟩ : ∃ m, M1 = m + 1 := ⟨M1 - 1, by omega⟩
        obtain ⟨s3, x3, v3, e3, D3⟩ := d_nsB (d1 := d1) (M := M1) (z := nI n + 1) D2
        rw [r1, bnd_some, r2, e3]
        exact Or.inr ⟨s3, x3, y2, qf, v3, rfl, rfl, D3.mono (Nat.le_refl _) (by decide), gf⟩
    · rw [if_neg c, if_neg c, if_pos rfl]
      exact Or.inl ⟨s, x, y, u, q, T, t, n, rfl, rfl, V, J, hn, h4, ⟨rfl, rfl, rfl, rfl⟩, ⟨rfl, rfl⟩, Nat.le_refl _⟩
end
