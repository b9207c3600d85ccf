section
variable {n us d L p dr pg : Nat} {g : Nat → Int32} {ws : Nat → Int64} {a : LxS} {fa sg k dp : Int32} {f : Nat → am_C}
theorem p_open (V : PW n f L g ws a dr pg fa sg) (hk : a.2.2.1 = k) (hd : dp < 16) (hp : a.1 = nI p) (hp2 : p ≤ L) : ∃ f', x_Pars_open (d + 6) 132 k dp (n, f, us) = some (1, (n, f', us)) ∧ PW n f' L g ws (advS g ws L p a) dr pg fa sg ∧ ∀ x, x ≠ 133 → f' x = f x := by
  have V0 := V
  obtain ⟨v0, v1, v2, v3, v4, v5⟩ := V
  have g0 : 132 < n := by omega
  unfold x_Pars_open
  dsimp only
  rw [gd_of (s := (n, f, us)) v0 (by decide) g0, gR_of (s := (n, f, us)) (k := 0) (x := 133) v0 (by decide) g0 rfl, Option.bind_some, p_kind V0, bnd_some, if_pos hk, if_pos hd, gR_of (s := (n, f, us)) (k := 0) (x := 133) v0 (by decide) g0 rfl, Option.bind_some, p_adv V0 hp hp2, bnd_some]
  exact ⟨_, rfl, V0.lex, fun x hx => va_up_ne _ _ hx⟩
theorem p_openNo (V : PW n f L g ws a dr pg fa sg) (hk : ¬ (a.2.2.1 = k ∧ dp < 16)) : ∃ f', x_Pars_open (d + 2) 132 k dp (n, f, us) = some (0, (n, f', us)) ∧ PW n f' L g ws (stopS a) dr pg (if fa < 0 then a.2.2.2.1 else fa) sg ∧ ∀ x, x ≠ 132 → x ≠ 133 → f' x = f x := by
  have V0 := V
  obtain ⟨v0, v1, v2, v3, v4, v5⟩ := V
  have g0 : 132 < n := by omega
  unfold x_Pars_open
  dsimp only
  rw [gd_of (s := (n, f, us)) v0 (by decide) g0, gR_of (s := (n, f, us)) (k := 0) (x := 133) v0 (by decide) g0 rfl, Option.bind_some, p_kind V0, bnd_some]
  obtain ⟨f', e1, e2, e3⟩ := p_fail (d := d) (us := us) V0
  by_cases c : a.2.2.1 = k
  · rw [if_pos c, if_neg (fun q => hk ⟨c, q⟩), e1, bnd_some]
    exact ⟨f', rfl, e2, e3⟩
  · rw [if_neg c, e1, bnd_some]
    exact ⟨f', rfl, e2, e3⟩
theorem p_takeName (V : PW n f L g ws a dr pg fa sg) (hk : a.2.2.1 = 2) (hp : a.1 = nI p) (hp2 : p ≤ L) : ∃ f', x_Pars_takeName (d + 7) 132 (n, f, us) = some (a.2.2.2.2.2.1, (n, f', us)) ∧ PW n f' L g ws (advS g ws L p a) dr pg fa sg ∧ ∀ x, x ≠ 133 → f' x = f x := by
  have V0 := V
  obtain ⟨v0, v1, v2, v3, v4, v5⟩ := V
  have g0 : 132 < n := by omega
  unfold x_Pars_takeName
  dsimp only
  rw [gd_of (s := (n, f, us)) v0 (by decide) g0, gR_of (s := (n, f, us)) (k := 0) (x := 133) v0 (by decide) g0 rfl, Option.bind_some, p_head V0, bnd_some]
  obtain ⟨f', e1, e2, e3⟩ := p_take (d := d) (us := us) V0 hk hp hp2
  rw [e1, bnd_some]
  exact ⟨f', rfl, e2, e3⟩
theorem p_takeNameNo (V : PW n f L g ws a dr pg fa sg) (hk : ¬ a.2.2.1 = 2) : ∃ f', x_Pars_takeName (d + 3) 132 (n, f, us) = some (a.2.2.2.2.2.1, (n, f', us)) ∧ PW n f' L g ws (stopS a) dr pg (if fa < 0 then a.2.2.2.1 else fa) sg ∧ ∀ x, x ≠ 132 → x ≠ 133 → f' x = f x := by
  have V0 := V
  obtain ⟨v0, v1, v2, v3, v4, v5⟩ := V
  have g0 : 132 < n := by omega
  unfold x_Pars_takeName
  dsimp only
  rw [gd_of (s := (n, f, us)) v0 (by decide) g0, gR_of (s := (n, f, us)) (k := 0) (x := 133) v0 (by decide) g0 rfl, Option.bind_some, p_head V0, bnd_some]
  obtain ⟨f', e1, e2, e3⟩ := p_takeNo (d := d) (us := us) V0 hk
  rw [e1, bnd_some]
  exact ⟨f', rfl, e2, e3⟩
/-- a Parser's two marks -/
theorem p_asg (V : PW n f L g ws a dr pg fa sg) {x : Int32} (hx : x = 0 ∨ x = 1) : ∃ f', pZ (n, f, us) 132 5 7 x = some (n, f', us) ∧ PW n f' L g ws a dr pg fa x ∧ ∀ y, y ≠ 132 → f' y = f y := by
  obtain ⟨v0, v1, v2, v3, v4, v5⟩ := V
  rw [pZ_of (s := (n, f, us)) v0 (by decide) (show 132 < n by omega) (Nat.le_of_ble_eq_true rfl) hx]
  exact ⟨_, rfl, ⟨va_up_self _ _ _, (va_up_ne _ _ (by decide)).trans v1, (va_up_ne _ _ (by decide)).trans v2, (va_up_ne _ _ (by decide)).trans v3, v4, v5⟩, fun y hy => va_up_ne _ _ hy⟩
theorem p_asgV (V : PW n f L g ws a dr pg fa sg) {x : Int32} : ∃ f', pV (n, f, us) 132 5 7 (.int x) = some (n, f', us) ∧ PW n f' L g ws a dr pg fa x ∧ ∀ y, y ≠ 132 → f' y = f y := by
  obtain ⟨v0, v1, v2, v3, v4, v5⟩ := V
  rw [pV_of (s := (n, f, us)) v0 (by decide) (show 132 < n by omega) (Nat.le_of_ble_eq_true rfl)]
  exact ⟨_, rfl, ⟨va_up_self _ _ _, (va_up_ne _ _ (by decide)).trans v1, (va_up_ne _ _ (by decide)).trans v2, (va_up_ne _ _ (by decide)).trans v3, v4, v5⟩, fun y hy => va_up_ne _ _ hy⟩
theorem p_dr (V : PW n f L g ws a dr pg fa sg) : gR (n, f, us) 132 5 3 = some dr := gR_of (s := (n, f, us)) V.1 (by decide) (Nat.lt_of_lt_of_le (by decide) V.2.2.2.2.1) rfl
theorem p_lx (V : PW n f L g ws a dr pg fa sg) : gR (n, f, us) 132 5 0 = some 133 := gR_of (s := (n, f, us)) V.1 (by decide) (Nat.lt_of_lt_of_le (by decide) V.2.2.2.2.1) rfl
theorem p_fa (V : PW n f L g ws a dr pg fa sg) : gI (n, f, us) 132 5 6 = some fa := gI_of (s := (n, f, us)) V.1 (by decide) (Nat.lt_of_lt_of_le (by decide) V.2.2.2.2.1) rfl
theorem p_sg (V : PW n f L g ws a dr pg fa sg) : gI (n, f, us) 132 5 7 = some sg := gI_of (s := (n, f, us)) V.1 (by decide) (Nat.lt_of_lt_of_le (by decide) V.2.2.2.2.1) rfl
theorem p_gd {β : Type} {b : Option β} (V : PW n f L g ws a dr pg fa sg) : gd (n, f, us) 132 5 b = b := gd_of (s := (n, f, us)) V.1 (by decide) (Nat.lt_of_lt_of_le (by decide) V.2.2.2.2.1)
/-- what is told of a token that advance has come to: TK between it and the reference's -/
theorem adv_tok {nb : Int64} (hL : L ≤ 1500) (hb : ∀ j, j < L → isBt (g j)) (hws : ∀ i, i < 12 → ws i = Int64.ofNat (C128 8 (RWL.getD i []))) (hp : p ≤ L) : TK g L (r_sk g (L - p) p) ((s_tok g ws L (s_sk g L (L - p) p) a.2.2.2.2.1 a.2.2.2.2.2.1 a.2.2.2.2.2.2)) (r_tok g L (r_sk g (L - p) p) nb) := by
  rw [sk_eq hL hb (L - p) p (by omega)]
  exact tok_eq hL hb hws (by have := (r_sk_le (g := g) (L - p) p).2; omega)
end
