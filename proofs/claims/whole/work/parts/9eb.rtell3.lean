/-! tellFunctions, whole -/
/-- every Code of a State lies in the pool -/
def CDq (R : RS) : Prop := ∀ i, i < 10 → R.2.2.2.2.2.2.2.1 i = .null ∨ ∃ p, p < 130 ∧ R.2.2.2.2.2.2.2.1 i = .ref (pC p)
def TLr (R R' : RS) : Prop := (CDq R → CDq R') ∧ R'.1 = R.1 ∧ R'.2.1 = R.2.1 ∧ R'.2.2.1 = R.2.2.1 ∧ R'.2.2.2.1 = R.2.2.2.1 ∧ R'.2.2.2.2.2.1 = R.2.2.2.2.2.1 ∧ R'.2.2.2.2.2.2.1 = R.2.2.2.2.2.2.1 ∧ R'.2.2.2.2.2.2.2.2.1 = R.2.2.2.2.2.2.2.2.1 ∧ R'.2.2.2.2.2.2.2.2.2.1 = R.2.2.2.2.2.2.2.2.2.1
theorem TLr.rfl' {R : RS} : TLr R R := ⟨id, rfl, rfl, rfl, rfl, rfl, rfl, rfl, rfl⟩
theorem TLr.trans {R R' R'' : RS} (h : TLr R R') (g : TLr R' R'') : TLr R R'' := ⟨fun z => g.1 (h.1 z), g.2.1.trans h.2.1, g.2.2.1.trans h.2.2.1, g.2.2.2.1.trans h.2.2.2.1, g.2.2.2.2.1.trans h.2.2.2.2.1, g.2.2.2.2.2.1.trans h.2.2.2.2.2.1, g.2.2.2.2.2.2.1.trans h.2.2.2.2.2.2.1, g.2.2.2.2.2.2.2.1.trans h.2.2.2.2.2.2.2.1, g.2.2.2.2.2.2.2.2.trans h.2.2.2.2.2.2.2.2⟩
section
variable {n us d k w z nw m v : Nat} {f f' : Nat → am_C} {b : Nat → Value} {Rn Rs Rw : RS} {pn ps pw : Nat → Nat} {Fn Fs F : FTb} {wr : Nat → Nat} {WR : Nat → RS} {pp : Nat → Nat → Nat} {FF : Nat → FTb} {A : TAr} {TT : Nat → TI} {sp : Nat → Int32} {q : Nat → VQ} {ti : TI}
theorem ft_ge (hF : F.1 ≤ 10) : ti_t ti ≤ tkS (ftS F ti).2 (ftS F ti).1 := by
  have lt : ftIx F ti < ftN F ti := by
    rcases ft_or (i := ti) hF with ⟨c1, c2, c3⟩ | ⟨j, hj, c1, c2, c3, c4⟩
    · omega
    · omega
  have k := tkS_ge (TT := upT F.2 (ftIx F ti) ti) (ftN F ti) (ftIx F ti) lt
  have e : upT F.2 (ftIx F ti) ti (ftIx F ti) = ti := by
    unfold upT
    rw [if_pos rfl]
  rw [e] at k
  exact k
theorem te_L (hn : 1311 ≤ n) : ∀ mm z M f Rw pw F, z + mm = k → mm < M → TXc f b nw w Rn Rs pn ps Fn Fs wr WR pp FF → RSt f (391 - nw) Rw → RTb f Rw pw F → tkS F.2 F.1 ≤ 400 → TPc f b A k TT sp q m v → (∃ F' f' Rw' pw', ftL TT mm z F = some F' ∧ loopK (teB (d + 2)) M (nI z, (n, f, us)) = some (0, (n, f', us)) ∧ TXc f' b nw w Rn Rs pn ps Fn Fs wr WR pp FF ∧ RSt f' (391 - nw) Rw' ∧ RTb f' Rw' pw' F' ∧ tkS F'.2 F'.1 ≤ 400 ∧ (∀ x, x < 187 ∨ (220 < x ∧ x < 401) ∨ 1310 < x → f' x = f x) ∧ TLr Rw Rw') ∨ (ftL TT mm z F = none ∧ ∃ f' Rw', loopK (teB (d + 2)) M (nI z, (n, f, us)) = some (8, (n, f', us)) ∧ TXc f' b nw w Rn Rs pn ps Fn Fs wr WR pp FF ∧ RSt f' (391 - nw) Rw' ∧ ∀ x, x < 187 ∨ (220 < x ∧ x < 401) ∨ 1310 < x → f' x = f x) := by
  intro mm
  induction mm with
  | zero =>
    intro z M f Rw pw F e1 e2 X hW T hs P
    obtain ⟨M, rfl⟩ : ∃ M', M = M' + 1 := ⟨M - 1, by omega⟩
    have O := X.1.1
    have b20 := P.1.2.2.2.2.2.2.2.1
    have hk := P.2.1
    refine Or.inl ⟨F, f, Rw, pw, rfl, ?_, X, hW, T, hs, fun _ _ => rfl, TLr.rfl'⟩
    rw [loopK_succ, teB_eq, mo_gI O hn (by decide) b20, Option.bind_some, if_pos (nI_le (by omega) (by omega))]
  | succ mm ih =>
    intro z M f Rw pw F e1 e2 X hW T hs P
    obtain ⟨M, rfl⟩ : ∃ M', M = M' + 1 := ⟨M - 1, by omega⟩
    have Xs := X
    have Ps := P
    obtain ⟨⟨O, b30, b31, b32, b33, b34, b36, hw8, hnw⟩, _⟩ := X
    obtain ⟨⟨b13, b14, b15, b16, b17, b18, b19, b20, b21⟩, hk, hA, _, _, _, TR, _, _, TB⟩ := P
    obtain ⟨⟨⟨t1, t2, t3, t4, t5, t6, t7⟩, _⟩, _⟩ := TR z (by omega)
    obtain ⟨w1, w2, w3, w4, h15⟩ := TB z (by omega)
    have hF := T.1.1
    have b0 := cl0 (show z < 2 ^ 31 by omega)
    have aA : aL (n, f, us) 170 (nI z) = some (nV (ti_w (TT z))) := by
      rw [aL_of (s := (n, f, us)) hA.1 (by decide) (show 170 < n by omega) b0.1 (by rw [b0.2]; omega), b0.2, t1]
    have fd := e_findF (n := n) (d := d + 2) (us := us) (y := nV (ti_w (TT z))) hW (by omega) (by omega) hF T.1.2.1
    rw [T.at' w1] at fd
    have gF : gI (n, f, us) (391 - nw) 13 10 = some (nI F.1) := by
      have c0 : f (391 - nw) = _ := (congrFun hW.eq (391 - nw)).trans HS_0
      rw [gI_of (s := (n, f, us)) (k := 10) (x := Rw.2.2.2.2.2.2.2.2.2.2.1) c0 (by omega) (show 391 - nw < n by omega) rfl, T.1.2.1]
    have ge := ft_ge (ti := TT z) hF
    rw [loopK_succ, teB_eq, mo_gI O hn (by decide) b20, Option.bind_some, if_neg (fun q => absurd (nI_lt (a := z) (b := k) (by omega) (by omega)) (Int32.not_lt.mpr q)), mo_gR O hn (by decide) b31, Option.bind_some, mo_gR O hn (by decide) b13, Option.bind_some, aA, Option.bind_some, fd, bnd_some, ftL]
    have core : ∀ X1 X2 : Option (Int32 × HS), ti_t (TT z) ≤ 1500 → ¬ (ftAt F (TT z) < 0 ∧ F.1 = 10) → X1 = (if nI (ti_t (TT z)) ≤ 400 then (ctB (d + 2) (ftAt F (TT z)) (nI z) (loopK (teB (d + 2)) M) (n, f, us)) else (some (8, (n, f, us)))) → (∃ F' f' Rw' pw', (if ftOk F (TT z) = true then ftL TT mm (z + 1) (ftS F (TT z)) else none) = some F' ∧ X1 = some (0, (n, f', us)) ∧ TXc f' b nw w Rn Rs pn ps Fn Fs wr WR pp FF ∧ RSt f' (391 - nw) Rw' ∧ RTb f' Rw' pw' F' ∧ tkS F'.2 F'.1 ≤ 400 ∧ (∀ x, x < 187 ∨ (220 < x ∧ x < 401) ∨ 1310 < x → f' x = f x) ∧ TLr Rw Rw') ∨ ((if ftOk F (TT z) = true then ftL TT mm (z + 1) (ftS F (TT z)) else none) = none ∧ ∃ f' Rw', X1 = some (8, (n, f', us)) ∧ TXc f' b nw w Rn Rs pn ps Fn Fs wr WR pp FF ∧ RSt f' (391 - nw) Rw' ∧ ∀ x, x < 187 ∨ (220 < x ∧ x < 401) ∨ 1310 < x → f' x = f x) := fun X1 _ h15 h10 hX => by
      by_cases c4 : ti_t (TT z) ≤ 400
      · rw [if_pos (show nI (ti_t (TT z)) ≤ 400 from nI_le (b := 400) c4 (by decide))] at hX
        obtain ⟨f1, R1, p1, y1, y2, y3, y4, y5, pi, yy, jj, hjj, y6⟩ := e_tstep (d := d) (us := us) (ag := loopK (teB (d + 2)) M) hn Xs hW T hs Ps (show z < k by omega) c4 h10
        rw [y1] at hX
        by_cases c : tkS (ftS F (TT z)).2 (ftS F (TT z)).1 ≤ 400
        · rw [if_pos c] at hX
          rw [if_pos (show ftOk F (TT z) = true from decide_eq_true ⟨h10, c⟩)]
          have tl : TLr Rw R1 := by
            rw [y6]
            refine ⟨fun h i hi => ?_, rfl, rfl, rfl, rfl, rfl, rfl, rfl, rfl⟩
            show updV Rw.2.2.2.2.2.2.2.1 pi (.ref (pC jj)) i = .null ∨ ∃ p, p < 130 ∧ updV Rw.2.2.2.2.2.2.2.1 pi (.ref (pC jj)) i = .ref (pC p)
            unfold updV
            by_cases ci : i = pi
            · rw [if_pos ci]
              exact Or.inr ⟨jj, hjj, rfl⟩
            · rw [if_neg ci]
              exact h i hi
          rcases ih (z + 1) M f1 R1 p1 (ftS F (TT z)) (by omega) (by omega) y2 y3 y4 c (Ps.keep (fun x _ hx => y5 x (Or.inl hx))) with ⟨F', f', R', p', g1, g2, g3, g4, g5, g6, g7, g8⟩ | ⟨g1, f', R', g2, g3, g4, g7⟩
          · exact Or.inl ⟨F', f', R', p', g1, hX.trans g2, g3, g4, g5, g6, fun x hx => (g7 x hx).trans (y5 x hx), tl.trans g8⟩
          · exact Or.inr ⟨g1, f', R', hX.trans g2, g3, g4, fun x hx => (g7 x hx).trans (y5 x hx)⟩
        · rw [if_neg c] at hX
          rw [if_neg (show ¬ ftOk F (TT z) = true from fun q => c (of_decide_eq_true q).2)]
          exact Or.inr ⟨rfl, f1, R1, hX, y2, y3, y5⟩
      · rw [if_neg (show ¬ nI (ti_t (TT z)) ≤ 400 from fun q => absurd (nI_lt (a := 400) (b := ti_t (TT z)) (by omega) (by omega)) (Int32.not_lt.mpr q))] at hX
        rw [if_neg (show ¬ ftOk F (TT z) = true from fun q => by have := (of_decide_eq_true q).2; omega)]
        exact Or.inr ⟨rfl, f, Rw, hX, Xs, hW, fun _ _ => rfl⟩
    rcases ft_or (i := TT z) hF with ⟨c1, c2, c3⟩ | ⟨j, hj, c1, c2, c3, c4⟩
    · rw [if_neg (Int32.not_le.mpr c1), mo_gR O hn (by decide) b31, Option.bind_some, gF, Option.bind_some]
      by_cases c10 : F.1 = 10
      · rw [c10, if_pos (show nI 10 = 10 from rfl), if_neg (show ¬ ftOk F (TT z) = true from fun q => (of_decide_eq_true q).1 ⟨c1, c10⟩)]
        exact Or.inr ⟨rfl, f, Rw, rfl, Xs, hW, fun _ _ => rfl⟩
      · rw [if_neg (show ¬ nI F.1 = 10 from fun q => c10 (nI_inj (a := F.1) (b := 10) (by omega) (by decide) q)), mo_gR O hn (by decide) b17, Option.bind_some, hA.ai hn (by decide) (by decide) (by omega), Option.bind_some, t5]
        exact core _ none h15 (fun q => c10 q.2) rfl
    · rw [if_pos (Int32.not_lt.mp c1), mo_gR O hn (by decide) b17, Option.bind_some, hA.ai hn (by decide) (by decide) (by omega), Option.bind_some, t5]
      exact core _ none h15 (fun q => c1 q.1) rfl
theorem e_tellF (hn : 1311 ≤ n) (X : TXc f b nw w Rn Rs pn ps Fn Fs wr WR pp FF) (hW : RSt f (391 - nw) Rw) (T : RTb f Rw pw F) (hs : tkS F.2 F.1 ≤ 400) (P : TPc f b A k TT sp q m v) : (∃ F' f' Rw' pw', ftL TT k 0 F = some F' ∧ x_Mod_tellFunctions (d + 3) 160 (n, f, us) = some (0, (n, f', us)) ∧ TXc f' b nw w Rn Rs pn ps Fn Fs wr WR pp FF ∧ RSt f' (391 - nw) Rw' ∧ RTb f' Rw' pw' F' ∧ tkS F'.2 F'.1 ≤ 400 ∧ (∀ x, x < 187 ∨ (220 < x ∧ x < 401) ∨ 1310 < x → f' x = f x) ∧ TLr Rw Rw') ∨ (ftL TT k 0 F = none ∧ ∃ f' Rw', x_Mod_tellFunctions (d + 3) 160 (n, f, us) = some (8, (n, f', us)) ∧ TXc f' b nw w Rn Rs pn ps Fn Fs wr WR pp FF ∧ RSt f' (391 - nw) Rw' ∧ ∀ x, x < 187 ∨ (220 < x ∧ x < 401) ∨ 1310 < x → f' x = f x) := by
  have e : x_Mod_tellFunctions (d + 3) 160 (n, f, us) = gd (n, f, us) 160 14 (loopK (teB (d + 2)) FU (nI 0, (n, f, us))) := rfl
  have hk := P.2.1
  rw [e, mo_gd X.1.1 hn]
  exact te_L hn k 0 FU f Rw pw F (by omega) (by rw [FU_eq]; omega) X hW T hs P
end
