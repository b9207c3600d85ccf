section
variable {n us d r c p l s k t Nc Np Nl h a : Nat} {co : Nat → Int32} {po lo : Nat → Int64} {f : Nat → am_C}
theorem e_unit {u x5 x6 : Nat} {fs : List Value} (hu : f u = .inr (4, [.long 0, .int 0, .int 0, .int 0, .null, .null])) (h1 : 128 ≤ u) (h2 : u < n) {y : Int64} {x2 x3 x4 : Int32} : ∃ f', x_Unit_init (d + 1) u y x2 x3 x4 x5 x6 (n, f, us) = some ((), (n, f', us)) ∧ f' u = .inr (4, [.long y, .int x2, .int x3, .int x4, .ref x5, .ref x6]) ∧ ∀ x, x ≠ u → f' x = f x := by
  unfold x_Unit_init
  dsimp only
  rw [pV_of (s := (n, f, us)) (k := 0) hu h1 h2 (Nat.le_of_ble_eq_true rfl), Option.bind_some, pV_of (k := 1) (va_up_self _ _ _) h1 h2 (Nat.le_of_ble_eq_true rfl), Option.bind_some, pV_of (k := 2) (va_up_self _ _ _) h1 h2 (Nat.le_of_ble_eq_true rfl), Option.bind_some, pV_of (k := 3) (va_up_self _ _ _) h1 h2 (Nat.le_of_ble_eq_true rfl), Option.bind_some, pV_of (k := 4) (va_up_self _ _ _) h1 h2 (Nat.le_of_ble_eq_true rfl), Option.bind_some, pV_of (k := 5) (va_up_self _ _ _) h1 h2 (Nat.le_of_ble_eq_true rfl), Option.bind_some]
  refine ⟨_, rfl, va_up_self _ _ _, fun x hx => ?_⟩
  exact (va_up_ne _ _ hx).trans ((va_up_ne _ _ hx).trans ((va_up_ne _ _ hx).trans ((va_up_ne _ _ hx).trans ((va_up_ne _ _ hx).trans (va_up_ne _ _ hx)))))
set_option maxHeartbeats 1000000 in
theorem e_finish (V : DR n f r c p l s k t Nc Np Nl co po lo) (hs : s + 4 ≤ 2 ^ 19) (hN : Nc ≤ 2 ^ 18) (h4 : 4 ≤ Nc) {y : Int64} {x2 x3 : Int32} : ∃ (n' us' c' Nc' : Nat) (f' : Nat → am_C) (co' cu : Nat → Int32) (pu : Nat → Int64), x_Draft_finish (d + 3) r y x2 x3 (n, f, us) = some (n', (n' + 3, f', us' + 6 + (s + 4) + k)) ∧ DR (n' + 3) f' r c' p l (s + 4) k t Nc' Np Nl co' po lo ∧ (∀ j, j < s → co' j = co j) ∧ co' s = 10 ∧ co' (s + 1) = 0 ∧ co' (s + 2) = 6 ∧ co' (s + 3) = 0 ∧ f' n' = .inr (4, [.long y, .int x2, .int (nI t), .int x3, .ref (n' + 1), .ref (n' + 2)]) ∧ f' (n' + 1) = .inl (.int, s + 4, fun j => .int (cu j)) ∧ f' (n' + 2) = .inl (.long, k, fun j => .long (pu j)) ∧ (∀ j, j < s + 4 → cu j = co' j) ∧ (∀ j, j < k → pu j = po j) ∧ ((s + 4 ≤ Nc ∧ c' = c ∧ n' = n ∧ us' = us ∧ Nc' = Nc) ∨ (Nc < s + 4 ∧ c' = n ∧ n' = n + 1 ∧ us' = us + 2 * Nc ∧ Nc' = 2 * Nc)) ∧ ∀ x, x ≠ r → x ≠ c → x < n → f' x = f x := by
  have v5' := V.2.2.2.2.1
  have hr0 := V.2.2.2.2.2.1
  have hr1 := V.2.2.2.2.2.2.1
  unfold x_Draft_finish
  dsimp only
  rw [gd_of (s := (n, f, us)) V.1 hr0.1 hr1.1]
  obtain ⟨n1, us1, c1, Nc1, f1, co1, a1, V1, a3, a4, a5', a6, a7⟩ := e_add (d := d) (us := us) V (by omega) (by omega) (op := 10) (ar := 0)
  rw [a1, bnd_some]
  have hN1 : Nc1 ≤ 2 ^ 19 := by rcases a6 with h | h <;> omega
  obtain ⟨n2, us2, c2, Nc2, f2, co2, b1, V2, b3, b4, b5', b6, b7⟩ := e_add (d := d) (us := us1) V1 (by omega) (by omega) (op := 6) (ar := 0)
  rw [b1, bnd_some]
  have hg : (s + 4 ≤ Nc ∧ c2 = c ∧ n2 = n ∧ us2 = us ∧ Nc2 = Nc) ∨ (Nc < s + 4 ∧ c2 = n ∧ n2 = n + 1 ∧ us2 = us + 2 * Nc ∧ Nc2 = 2 * Nc) := by
    rcases a6 with ⟨g1, g2, g3, g4, g5⟩ | ⟨g1, g2, g3, g4, g5⟩ <;> rcases b6 with ⟨q1, q2, q3, q4, q5⟩ | ⟨q1, q2, q3, q4, q5⟩
    · exact Or.inl ⟨by omega, by omega, by omega, by omega, by omega⟩
    · exact Or.inr ⟨by omega, by omega, by omega, by omega, by omega⟩
    · exact Or.inr ⟨by omega, by omega, by omega, by omega, by omega⟩
    · exact absurd v5'.1 (by omega)
  have hnn : n ≤ n1 ∧ n1 ≤ n2 := by
    rcases a6 with g | g <;> rcases b6 with q | q <;> omega
  obtain ⟨w1, w2, w3, w4, w5, w6, w7, w8⟩ := V2
  have z1 : va_up f2 n2 (.inr (4, [.long 0, .int 0, .int 0, .int 0, .null, .null])) r = .inr (2, [.ref c2, .int (nI (s + 2 + 2)), .ref p, .int (nI k), .ref l, .int (nI t)]) := (va_up_ne _ _ (by omega)).trans w1
  have z2 : va_up f2 n2 (.inr (4, [.long 0, .int 0, .int 0, .int 0, .null, .null])) c2 = .inl (.int, Nc2, fun j => .int (co2 j)) := (va_up_ne _ _ (by omega)).trans w2
  have z3 : va_up f2 n2 (.inr (4, [.long 0, .int 0, .int 0, .int 0, .null, .null])) p = .inl (.long, Np, fun j => .long (po j)) := (va_up_ne _ _ (by omega)).trans w3
  rw [show newO (n2, f2, us2) 4 [.long 0, .int 0, .int 0, .int 0, .null, .null] = (n2 + 1, va_up f2 n2 (.inr (4, [.long 0, .int 0, .int 0, .int 0, .null, .null])), us2 + 6) from rfl]
  rw [gI_of (s := (n2 + 1, va_up f2 n2 _, us2 + 6)) (k := 5) (x := nI t) z1 w6.1 (show r < n2 + 1 by omega) rfl, Option.bind_some, gR_of (s := (n2 + 1, va_up f2 n2 _, us2 + 6)) (k := 0) (x := c2) z1 w6.1 (show r < n2 + 1 by omega) rfl, Option.bind_some, gI_of (s := (n2 + 1, va_up f2 n2 _, us2 + 6)) (k := 1) (x := nI (s + 2 + 2)) z1 w6.1 (show r < n2 + 1 by omega) rfl, Option.bind_some]
  obtain ⟨cu, d1, d2, d3⟩ := e_copyI (d := d + 1) (us := us2 + 6) (n := n2 + 1) (M := s + 2 + 2) z2 w6.2.1 (by omega) (by omega) (by omega)
  rw [d1, bnd_some]
  have y1 : va_up (va_up f2 n2 (.inr (4, [.long 0, .int 0, .int 0, .int 0, .null, .null]))) (n2 + 1) (.inl (.int, s + 2 + 2, fun j => .int (cu j))) r = .inr (2, [.ref c2, .int (nI (s + 2 + 2)), .ref p, .int (nI k), .ref l, .int (nI t)]) := (va_up_ne _ _ (by omega)).trans z1
  have y3 : va_up (va_up f2 n2 (.inr (4, [.long 0, .int 0, .int 0, .int 0, .null, .null]))) (n2 + 1) (.inl (.int, s + 2 + 2, fun j => .int (cu j))) p = .inl (.long, Np, fun j => .long (po j)) := (va_up_ne _ _ (by omega)).trans z3
  rw [gR_of (s := (n2 + 1 + 1, va_up (va_up f2 n2 _) (n2 + 1) _, us2 + 6 + (s + 2 + 2))) (k := 2) (x := p) y1 w6.1 (show r < n2 + 1 + 1 by omega) rfl, Option.bind_some, gI_of (s := (n2 + 1 + 1, va_up (va_up f2 n2 _) (n2 + 1) _, us2 + 6 + (s + 2 + 2))) (k := 3) (x := nI k) y1 w6.1 (show r < n2 + 1 + 1 by omega) rfl, Option.bind_some]
  obtain ⟨pu, e1, e2, e3⟩ := e_copyJ (d := d + 1) (us := us2 + 6 + (s + 2 + 2)) (n := n2 + 1 + 1) (M := k) y3 w6.2.2.1 (by omega) (by omega) (by omega)
  rw [e1, bnd_some]
  have x1 : va_up (va_up (va_up f2 n2 (.inr (4, [.long 0, .int 0, .int 0, .int 0, .null, .null]))) (n2 + 1) (.inl (.int, s + 2 + 2, fun j => .int (cu j)))) (n2 + 1 + 1) (.inl (.long, k, fun j => .long (pu j))) n2 = .inr (4, [.long 0, .int 0, .int 0, .int 0, .null, .null]) := (va_up_ne _ _ (by omega)).trans ((va_up_ne _ _ (by omega)).trans (va_up_self _ _ _))
  obtain ⟨f', g1, g2, g3⟩ := e_unit (d := d + 1) (us := us2 + 6 + (s + 2 + 2) + k) (n := n2 + 1 + 1 + 1) (fs := []) x1 (by omega) (by omega) (y := y) (x2 := x2) (x3 := nI t) (x4 := x3) (x5 := n2 + 1) (x6 := n2 + 1 + 1)
  rw [g1, bnd_some]
  have keep : ∀ x, x < n2 → f' x = f2 x := fun x hx => by
    rw [g3 x (by omega), va_up_ne _ _ (by omega), va_up_ne _ _ (by omega), va_up_ne _ _ (by omega)]
  refine ⟨n2, us2, c2, Nc2, f', co2, cu, pu, rfl, ⟨(keep _ w7.1).trans w1, (keep _ w7.2.1).trans w2, (keep _ w7.2.2.1).trans w3, (keep _ w7.2.2.2).trans w4, w5, w6, by omega, w8⟩, fun j hj => (b3 j (by omega)).trans (a3 j hj), (b3 s (by omega)).trans a4, (b3 (s + 1) (by omega)).trans a5', b4, b5', g2, ?_, ?_, fun j hj => d2 j (by omega) hj, fun j hj => e2 j (by omega) hj, hg, fun x h1 h2 h3 => ?_⟩
  · rw [g3 _ (by omega), va_up_ne _ _ (by omega)]
    exact va_up_self _ _ _
  · rw [g3 _ (by omega)]
    exact va_up_self _ _ _
  · rw [keep x (by omega), b7 x h1 (by rcases a6 with g | g <;> omega) (by omega), a7 x h1 h2 h3]
end
