/-! the class's parser turns to the other Draft -/
section
variable {n us L dr pg : Nat} {f : Nat → am_C} {g : Nat → Int32} {ws : Nat → Int64} {a : LxS} {fa sg : Int32}
theorem p_main (V : PW n f L g ws a dr pg fa sg) : gR (n, f, us) 132 5 1 = some 136 := gR_of (s := (n, f, us)) V.1 (by decide) (Nat.lt_of_lt_of_le (by decide) V.2.2.2.2.1) rfl
theorem p_body (V : PW n f L g ws a dr pg fa sg) : gR (n, f, us) 132 5 2 = some 140 := gR_of (s := (n, f, us)) V.1 (by decide) (Nat.lt_of_lt_of_le (by decide) V.2.2.2.2.1) rfl
theorem p_told (V : PW n f L g ws a dr pg fa sg) : gR (n, f, us) 132 5 4 = some 144 := gR_of (s := (n, f, us)) V.1 (by decide) (Nat.lt_of_lt_of_le (by decide) V.2.2.2.2.1) rfl
theorem p_turn (V : PW n f L g ws a dr pg fa sg) {k : Nat} : ∃ f', pV (n, f, us) 132 5 3 (.ref k) = some (n, f', us) ∧ PW n f' L g ws a k pg fa sg ∧ ∀ y, y ≠ 132 → f' y = f y := by
  obtain ⟨v0, v1, v2, v3, v4, v5⟩ := V
  rw [pV_of (s := (n, f, us)) v0 (by decide) (show 132 < n by omega) (Nat.le_of_ble_eq_true rfl)]
  exact ⟨_, rfl, ⟨va_up_self _ _ _, (va_up_ne _ _ (by decide)).trans v1, (va_up_ne _ _ (by decide)).trans v2, (va_up_ne _ _ (by decide)).trans v3, v4, v5⟩, fun y hy => va_up_ne _ _ hy⟩
end
section
variable {E1 : CE} {cr : Nat} {E2 : RE} {w0 : W2} {u q d : Nat} {T : TKc} {t : TKr} {x : CA} {y : RA} {s : HS}
abbrev caNew (x : CA) : CA := (ca_a x, ca_f x, ca_s x, 0, 0, 0, ca_c x, ca_p x, ca_l x)
/-- a Draft at rest, apart from all that the parser holds in hand -/
def DRest (s : HS) (k c p l : Nat) (N : Nat) : Prop := ∃ (a b t Nc Np Nl : Nat) (co : Nat → Int32) (po lo : Nat → Int64), DR s.1 s.2.1 k c p l a b t Nc Np Nl co po lo ∧ (16 ≤ Nc ∧ 16 ≤ Np ∧ 16 ≤ Nl) ∧ (Nc ≤ 65536 ∧ Np ≤ 65536 ∧ Nl ≤ 65536) ∧ (134 < k ∧ 134 < c ∧ 134 < p ∧ 134 < l) ∧ N = Nc + Np + Nl
/-- clear() of a resting Draft, and the turn to it -/
theorem kc_turn {k c p l N : Nat} (e : EOK E1) (V : KC E1 s x) (B : DRest s k c p l N) : ∃ (s1 s2 : HS) (E' : CE), x_Draft_clear d k s = some ((), s1) ∧ (∀ j, j = 1 ∨ j = 2 → gR s1 132 5 j = gR s 132 5 j) ∧ pV s1 132 5 3 (.ref k) = some s2 ∧ EOK E' ∧ KC E' s2 (caNew x) ∧ (ce_L E' = ce_L E1 ∧ ce_g E' = ce_g E1 ∧ ce_w E' = ce_w E1 ∧ ce_d E' = k ∧ ce_p E' = ce_p E1) ∧ (ce_c0 E' = c ∧ ce_p0 E' = p ∧ ce_l0 E' = l ∧ ce_N E' = N) ∧ (s2.1 = s.1 ∧ s2.2.2 = s.2.2 ∧ ∀ z, z ≠ 132 → z ≠ k → s2.2.1 z = s.2.1 z) ∧ ce_n E' = s2.1 ∧ ce_u E' = s2.2.2 ∧ ce_f E' = s2.2.1 := by
  obtain ⟨n, f, us⟩ := s
  obtain ⟨a0, b0, t0, Nc, Np, Nl, co, po, lo, B1, B2, B3, B4, B5⟩ := B
  obtain ⟨f1, r1, D1, g1⟩ := e_clear (us := us) (d := d) B1
  have P0 : PW n f (ce_L E1) (ce_g E1) (ce_w E1) (ca_a x) (ce_d E1) (ce_p E1) (ca_f x) (ca_s x) := V.pw
  have P1 : PW n f1 (ce_L E1) (ce_g E1) (ce_w E1) (ca_a x) (ce_d E1) (ce_p E1) (ca_f x) (ca_s x) := P0.kept (Nat.le_refl _) (fun z hz => g1 z (by omega))
  obtain ⟨f2, r2, P2, g2⟩ := p_turn (us := us) (k := k) P1
  have D2 : DR n f2 k c p l 0 0 0 Nc Np Nl co po lo := D1.kept (Nat.le_refl _) (fun z hz => g2 z (by rcases hz with rfl | rfl | rfl | rfl <;> omega))
  obtain ⟨e1, e2, e3, e4, e5, e6, e7, e8, e9⟩ := e
  have hn : 1311 ≤ n := P0.2.2.2.2.1
  refine ⟨(n, f1, us), (n, f2, us), (ce_L E1, ce_g E1, ce_w E1, (n, us, f2), (k, ce_p E1), (c, p, l), (Nc, Np, Nl)), r1, ?_, r2, ⟨e1, e2, e3, hn, B4.1, B4.2.1, B4.2.2.1, B4.2.2.2, D2.2.2.2.2.2.2.1.1⟩, ⟨c, p, l, Nc, Np, Nl, co, po, lo, P2, D2, fun j hj => absurd hj (Nat.not_lt_zero _), fun j hj => absurd hj (Nat.not_lt_zero _), fun j hj => absurd hj (Nat.not_lt_zero _), ⟨Or.inl rfl, Or.inl rfl, Or.inl rfl⟩, Nat.le_refl _, fun z _ _ _ _ _ _ _ => rfl, ⟨rfl, Nat.le_refl _⟩, B2, B3⟩, ⟨rfl, rfl, rfl, rfl, rfl⟩, ⟨rfl, rfl, rfl, B5.symm⟩, ⟨rfl, rfl, fun z h1 h2 => (g2 z h1).trans (g1 z h2)⟩, rfl, rfl, rfl⟩
  intro j hj
  rcases hj with rfl | rfl
  · rw [p_main P1, p_main P0]
  · rw [p_body P1, p_body P0]
end
