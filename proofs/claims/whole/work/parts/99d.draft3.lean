section
variable {n us d r c p l s k t Nc Np Nl h a : Nat} {co : Nat → Int32} {po lo : Nat → Int64} {f : Nat → am_C}
theorem e_aimHere (V : DR n f r c p l (2 * h) k t Nc Np Nl co po lo) (ha : a < h) : ∃ f', x_Draft_aimHere (d + 1) r (nI a) (n, f, us) = some ((), (n, f', us)) ∧ DR n f' r c p l (2 * h) k t Nc Np Nl (upI co (2 * a + 1) (nI h)) po lo ∧ ∀ x, x ≠ c → f' x = f x := by
  have V0 := V
  obtain ⟨v1, v2, v3, v4, v5, v6, v7, v8⟩ := V
  unfold x_Draft_aimHere
  dsimp only
  have e1 : (2 : Int32) * nI a + 1 = nI (2 * a + 1) := by rw [show (2 : Int32) * nI a = nI (2 * a) from nI_mul 2 a, nI_succ]
  have b0 := cl0 (show 2 * a + 1 < 2 ^ 31 by omega)
  rw [gd_of (s := (n, f, us)) v1 v6.1 v7.1, e1, if_neg (show ¬ nI (2 * a + 1) < (1 : Int32) from fun q => absurd (show (1 : Int32) ≤ nI (2 * a + 1) from nI_le (a := 1) (by omega) (by omega)) (Int32.not_le.mpr q)), gI_of (s := (n, f, us)) (k := 1) (x := nI (2 * h)) v1 v6.1 v7.1 rfl, Option.bind_some, if_neg (nI_ge (by omega) (by omega)), gR_of (s := (n, f, us)) (k := 0) (x := c) v1 v6.1 v7.1 rfl, Option.bind_some, e_here V0, bnd_some, sI_of (s := (n, f, us)) v2 v6.2.1 v7.2.1 b0.1 (by rw [b0.2]; omega), Option.bind_some, b0.2]
  refine ⟨_, rfl, ⟨?_, va_up_self _ _ _, ?_, ?_, v5, v6, v7, v8⟩, fun x hx => va_up_ne _ _ hx⟩
  · exact (va_up_ne _ _ (Ne.symm v8.1)).trans v1
  · exact (va_up_ne _ _ v8.2.2.2.1).trans v3
  · exact (va_up_ne _ _ v8.2.2.2.2.1).trans v4
theorem e_dropLast (V : DR n f r c p l (s + 2) k t Nc Np Nl co po lo) : ∃ f', x_Draft_dropLast (d + 1) r (n, f, us) = some ((), (n, f', us)) ∧ DR n f' r c p l s k t Nc Np Nl co po lo ∧ ∀ x, x ≠ r → f' x = f x := by
  obtain ⟨v1, v2, v3, v4, v5, v6, v7, v8⟩ := V
  unfold x_Draft_dropLast
  dsimp only
  have e2 : (if 0 < nI s then nI s else 0) = nI s := by
    split
    · rfl
    · next hh =>
      rcases Nat.eq_zero_or_pos s with e | e
      · rw [e]; rfl
      · exact absurd (nI_lt (a := 0) e (by omega)) hh
  rw [gd_of (s := (n, f, us)) v1 v6.1 v7.1, gI_of (s := (n, f, us)) (k := 1) (x := nI (s + 2)) v1 v6.1 v7.1 rfl, Option.bind_some, show nI (s + 2) - 2 = nI s from nI_sub (a := s + 2) (b := 2) (by omega), e2, pV_of (s := (n, f, us)) (k := 1) v1 v6.1 v7.1 (Nat.le_of_ble_eq_true rfl), Option.bind_some]
  refine ⟨_, rfl, ⟨va_up_self _ _ _, ?_, ?_, ?_, by omega, v6, v7, v8⟩, fun x hx => va_up_ne _ _ hx⟩
  · exact (va_up_ne _ _ v8.1).trans v2
  · exact (va_up_ne _ _ v8.2.1).trans v3
  · exact (va_up_ne _ _ v8.2.2.1).trans v4
theorem e_clear (V : DR n f r c p l s k t Nc Np Nl co po lo) : ∃ f', x_Draft_clear d r (n, f, us) = some ((), (n, f', us)) ∧ DR n f' r c p l 0 0 0 Nc Np Nl co po lo ∧ ∀ x, x ≠ r → f' x = f x := by
  obtain ⟨v1, v2, v3, v4, v5, v6, v7, v8⟩ := V
  unfold x_Draft_clear
  rw [gd_of (s := (n, f, us)) v1 v6.1 v7.1, pV_of (s := (n, f, us)) (k := 1) v1 v6.1 v7.1 (Nat.le_of_ble_eq_true rfl), Option.bind_some, pV_of (k := 3) (va_up_self _ _ _) v6.1 v7.1 (Nat.le_of_ble_eq_true rfl), Option.bind_some, pV_of (k := 5) (va_up_self _ _ _) v6.1 v7.1 (Nat.le_of_ble_eq_true rfl), Option.bind_some]
  refine ⟨_, rfl, ⟨va_up_self _ _ _, ?_, ?_, ?_, by omega, v6, v7, v8⟩, fun x hx => ?_⟩
  · exact (va_up_ne _ _ v8.1).trans ((va_up_ne _ _ v8.1).trans ((va_up_ne _ _ v8.1).trans v2))
  · exact (va_up_ne _ _ v8.2.1).trans ((va_up_ne _ _ v8.2.1).trans ((va_up_ne _ _ v8.2.1).trans v3))
  · exact (va_up_ne _ _ v8.2.2.1).trans ((va_up_ne _ _ v8.2.2.1).trans ((va_up_ne _ _ v8.2.2.1).trans v4))
  · exact (va_up_ne _ _ hx).trans ((va_up_ne _ _ hx).trans (va_up_ne _ _ hx))
theorem e_mkl42 (V : DR n f r c p l s k t Nc Np Nl co po lo) (ht : t + 1 ≤ Nl) {y : Int64} : ∃ f', x_Draft_makeLocal_b42 d r y (n, f, us) = some (nI t, (n, f', us)) ∧ DR n f' r c p l s k (t + 1) Nc Np Nl co po (upL lo t y) ∧ ∀ x, x ≠ r → x ≠ l → f' x = f x := by
  obtain ⟨v1, v2, v3, v4, v5, v6, v7, v8⟩ := V
  unfold x_Draft_makeLocal_b42
  have b0 := cl0 (show t < 2 ^ 31 by omega)
  rw [gR_of (s := (n, f, us)) (k := 4) (x := l) v1 v6.1 v7.1 rfl, Option.bind_some, gI_of (s := (n, f, us)) (k := 5) (x := nI t) v1 v6.1 v7.1 rfl, Option.bind_some]
  rw [sL_of (s := (n, f, us)) v4 v6.2.2.2 v7.2.2.2 b0.1 (by rw [b0.2]; omega), Option.bind_some, b0.2]
  have w1 : va_up f l (.inl (.long, Nl, fun j => .long (upL lo t y j))) r = .inr (2, [.ref c, .int (nI s), .ref p, .int (nI k), .ref l, .int (nI t)]) := (va_up_ne _ _ (Ne.symm v8.2.2.1)).trans v1
  rw [gI_of (s := (n, va_up f l _, us)) (k := 5) (x := nI t) w1 v6.1 v7.1 rfl, Option.bind_some, pV_of (s := (n, va_up f l _, us)) (k := 5) w1 v6.1 v7.1 (Nat.le_of_ble_eq_true rfl), Option.bind_some, gI_of (k := 5) (x := nI t + 1) (va_up_self _ _ _) v6.1 v7.1 rfl, Option.bind_some]
  refine ⟨_, by rw [show nI t + 1 - 1 = nI t by rw [Int32.add_sub_cancel]], ⟨?_, ?_, ?_, ?_, by omega, v6, v7, v8⟩, fun x hx hc => ?_⟩
  · rw [va_up_self, ← nI_succ]
    rfl
  · rw [va_up_ne _ _ v8.1]
    exact (va_up_ne _ _ (Ne.symm v8.2.2.2.2.1)).trans v2
  · rw [va_up_ne _ _ v8.2.1]
    exact (va_up_ne _ _ (Ne.symm v8.2.2.2.2.2)).trans v3
  · rw [va_up_ne _ _ v8.2.2.1]
    exact va_up_self _ _ _
  · rw [va_up_ne _ _ hx]
    exact va_up_ne _ _ hc
theorem e_makeOld (V : DR n f r c p l s k t Nc Np Nl co po lo) {y : Int64} (hf : ¬ s_find lo t y < 0) : x_Draft_makeLocal (d + 1) r y (n, f, us) = some (s_find lo t y, (n, f, us)) := by
  have V0 := V
  obtain ⟨v1, v2, v3, v4, v5, v6, v7, v8⟩ := V
  unfold x_Draft_makeLocal
  dsimp only
  rw [gd_of (s := (n, f, us)) v1 v6.1 v7.1, e_localOf V0, bnd_some, if_neg hf]
theorem e_makeNew (V : DR n f r c p l s k t Nc Np Nl co po lo) (ht : t + 1 ≤ 2 ^ 20) (hN : 2 * Nl ≤ 2 ^ 20) {y : Int64} (hf : s_find lo t y < 0) : ∃ (n' us' l' Nl' : Nat) (f' : Nat → am_C) (lo' : Nat → Int64), x_Draft_makeLocal (d + 2) r y (n, f, us) = some (nI t, (n', f', us')) ∧ DR n' f' r c p l' s k (t + 1) Nc Np Nl' co po lo' ∧ (∀ j, j < t → lo' j = lo j) ∧ lo' t = y ∧ ((t < Nl ∧ l' = l ∧ n' = n ∧ us' = us ∧ Nl' = Nl) ∨ (t = Nl ∧ l' = n ∧ n' = n + 1 ∧ us' = us + 2 * Nl ∧ Nl' = 2 * Nl)) ∧ ∀ x, x ≠ r → x ≠ l → x < n → f' x = f x := by
  have V0 := V
  obtain ⟨v1, v2, v3, v4, v5, v6, v7, v8⟩ := V
  unfold x_Draft_makeLocal
  dsimp only
  rw [gd_of (s := (n, f, us)) v1 v6.1 v7.1, e_localOf V0, bnd_some, if_pos hf, gI_of (s := (n, f, us)) (k := 5) (x := nI t) v1 v6.1 v7.1 rfl, Option.bind_some, gR_of (s := (n, f, us)) (k := 4) (x := l) v1 v6.1 v7.1 rfl, Option.bind_some, lenA_of (s := (n, f, us)) v4 (by decide) v6.2.2.2 v7.2.2.2, Option.bind_some]
  have up : ∀ (g : Nat → Int64), upL g t y t = y ∧ ∀ j, j < t → upL g t y j = g j := fun g => ⟨if_pos rfl, fun j hj => if_neg (by omega)⟩
  by_cases hh : t = Nl
  · rw [if_pos (show nI t = nI Nl by rw [hh]), Option.bind_some, Option.bind_some, lenA_of (s := (n, f, us)) v4 (by decide) v6.2.2.2 v7.2.2.2, Option.bind_some, show (2 : Int32) * nI Nl = nI (2 * Nl) from nI_mul 2 Nl]
    obtain ⟨g', e1, e2, e3⟩ := e_copyJ (d := d) (us := us) (n := n) (M := 2 * Nl) v4 v6.2.2.2 v7.2.2.2 (by omega) (by omega)
    rw [e1, bnd_some]
    have w1 : va_up f n (.inl (.long, 2 * Nl, fun j => .long (g' j))) r = .inr (2, [.ref c, .int (nI s), .ref p, .int (nI k), .ref l, .int (nI t)]) := (va_up_ne _ _ (by omega)).trans v1
    rw [pV_of (s := (n + 1, va_up f n _, us + 2 * Nl)) (k := 4) w1 v6.1 (show r < n + 1 by omega) (Nat.le_of_ble_eq_true rfl), Option.bind_some]
    have V1 : DR (n + 1) (va_up (va_up f n (.inl (.long, 2 * Nl, fun j => .long (g' j)))) r (.inr (2, [.ref c, .int (nI s), .ref p, .int (nI k), .ref n, .int (nI t)]))) r c p n s k t Nc Np (2 * Nl) co po g' := by
      refine ⟨va_up_self _ _ _, ?_, ?_, ?_, by omega, by omega, by omega, by omega⟩
      · rw [va_up_ne _ _ v8.1]
        exact (va_up_ne _ _ (by omega)).trans v2
      · rw [va_up_ne _ _ v8.2.1]
        exact (va_up_ne _ _ (by omega)).trans v3
      · rw [va_up_ne _ _ (by omega)]
        exact va_up_self _ _ _
    obtain ⟨f', e4, e5, e6⟩ := e_mkl42 (us := us + 2 * Nl) (d := d + 1) V1 (by omega) (y := y)
    obtain ⟨u1, u2⟩ := up g'
    refine ⟨n + 1, us + 2 * Nl, n, 2 * Nl, f', _, e4, e5, fun j hj => (u2 j hj).trans (e2 j (by omega) (by omega)), u1, Or.inr ⟨hh, rfl, rfl, rfl, rfl⟩, fun x h1 h2 h3 => ?_⟩
    rw [e6 x h1 (by omega), va_up_ne _ _ h1, va_up_ne _ _ (by omega)]
  · rw [if_neg (fun q => hh (nI_inj (by omega) (by omega) q))]
    obtain ⟨f', e1, e2, e3⟩ := e_mkl42 (us := us) (d := d + 1) V0 (by omega) (y := y)
    obtain ⟨u1, u2⟩ := up lo
    exact ⟨n, us, l, Nl, f', _, e1, e2, u2, u1, Or.inl ⟨by omega, rfl, rfl, rfl, rfl⟩, fun x h1 h2 _ => e3 x h1 h2⟩
end
