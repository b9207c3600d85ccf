section
variable {n us d r c p l s k t Nc Np Nl : Nat} {co : Nat → Int32} {po lo : Nat → Int64} {f : Nat → am_C}
theorem e_keep32 (V : DR n f r c p l s k t Nc Np Nl co po lo) (hk : k + 2 ≤ Np) {y1 y2 : Int64} : ∃ f', x_Draft_keep_b32 d r y1 y2 (n, f, us) = some (nI k, (n, f', us)) ∧ DR n f' r c p l s (k + 2) t Nc Np Nl co (upL (upL po k y1) (k + 1) y2) lo ∧ ∀ x, x ≠ r → x ≠ p → f' x = f x := by
  obtain ⟨v1, v2, v3, v4, v5, v6, v7, v8⟩ := V
  unfold x_Draft_keep_b32
  have b0 := cl0 (show k < 2 ^ 31 by omega)
  have b1 := cl0 (show k + 1 < 2 ^ 31 by omega)
  rw [gR_of (s := (n, f, us)) (k := 2) (x := p) v1 v6.1 v7.1 rfl, Option.bind_some, gI_of (s := (n, f, us)) (k := 3) (x := nI k) v1 v6.1 v7.1 rfl, Option.bind_some]
  rw [sL_of (s := (n, f, us)) v3 v6.2.2.1 v7.2.2.1 b0.1 (by rw [b0.2]; omega), Option.bind_some, b0.2]
  have w1 : va_up f p (.inl (.long, Np, fun j => .long (upL po k y1 j))) r = .inr (2, [.ref c, .int (nI s), .ref p, .int (nI k), .ref l, .int (nI t)]) := (va_up_ne _ _ (Ne.symm v8.2.1)).trans v1
  rw [gR_of (s := (n, va_up f p _, us)) (k := 2) (x := p) w1 v6.1 v7.1 rfl, Option.bind_some, gI_of (s := (n, va_up f p _, us)) (k := 3) (x := nI k) w1 v6.1 v7.1 rfl, Option.bind_some, ← nI_succ]
  rw [sL_of (s := (n, va_up f p _, us)) (g := upL po k y1) (va_up_self _ _ _) v6.2.2.1 v7.2.2.1 b1.1 (by rw [b1.2]; omega), Option.bind_some, b1.2]
  rw [show ((n, va_up f p (.inl (.long, Np, fun j => .long (upL po k y1 j))), us) : HS).2.1 = va_up f p (.inl (.long, Np, fun j => .long (upL po k y1 j))) from rfl, bx_uu]
  have w2 : va_up f p (.inl (.long, Np, fun j => .long (upL (upL po k y1) (k + 1) y2 j))) r = .inr (2, [.ref c, .int (nI s), .ref p, .int (nI k), .ref l, .int (nI t)]) := (va_up_ne _ _ (Ne.symm v8.2.1)).trans v1
  rw [gI_of (s := (n, va_up f p _, us)) (k := 3) (x := nI k) w2 v6.1 v7.1 rfl, Option.bind_some, pV_of (s := (n, va_up f p _, us)) (k := 3) w2 v6.1 v7.1 (Nat.le_of_ble_eq_true rfl), Option.bind_some, gI_of (k := 3) (x := nI k + 2) (va_up_self _ _ _) v6.1 v7.1 rfl, Option.bind_some]
  refine ⟨_, by rw [show nI k + 2 - 2 = nI k by rw [Int32.add_sub_cancel]], ⟨?_, ?_, ?_, ?_, by omega, v6, v7, v8⟩, fun x hx hc => ?_⟩
  · rw [va_up_self, show nI k + 2 = nI (k + 2) from nI_add k 2]
    rfl
  · rw [va_up_ne _ _ v8.1]
    exact (va_up_ne _ _ (Ne.symm v8.2.2.2.1)).trans v2
  · rw [va_up_ne _ _ v8.2.1]
    exact va_up_self _ _ _
  · rw [va_up_ne _ _ v8.2.2.1]
    exact (va_up_ne _ _ v8.2.2.2.2.2).trans v4
  · rw [va_up_ne _ _ hx]
    exact va_up_ne _ _ hc

theorem e_keep (V : DR n f r c p l s k t Nc Np Nl co po lo) (hk : k + 2 ≤ 2 ^ 20) (hN : 2 * Np ≤ 2 ^ 20) {y1 y2 : Int64} : ∃ (n' us' p' Np' : Nat) (f' : Nat → am_C) (po' : Nat → Int64), x_Draft_keep (d + 2) r y1 y2 (n, f, us) = some (nI k, (n', f', us')) ∧ DR n' f' r c p' l s (k + 2) t Nc Np' Nl co po' lo ∧ (∀ j, j < k → po' j = po j) ∧ po' k = y1 ∧ po' (k + 1) = y2 ∧ ((k + 2 ≤ Np ∧ p' = p ∧ n' = n ∧ us' = us ∧ Np' = Np) ∨ (Np < k + 2 ∧ p' = n ∧ n' = n + 1 ∧ us' = us + 2 * Np ∧ Np' = 2 * Np)) ∧ ∀ x, x ≠ r → x ≠ p → x < n → f' x = f x := by
  have V0 := V
  obtain ⟨v1, v2, v3, v4, v5, v6, v7, v8⟩ := V
  unfold x_Draft_keep
  dsimp only
  rw [gd_of (s := (n, f, us)) v1 v6.1 v7.1, gI_of (s := (n, f, us)) (k := 3) (x := nI k) v1 v6.1 v7.1 rfl, Option.bind_some, gR_of (s := (n, f, us)) (k := 2) (x := p) v1 v6.1 v7.1 rfl, Option.bind_some, lenA_of (s := (n, f, us)) v3 (by decide) v6.2.2.1 v7.2.2.1, Option.bind_some, show nI k + 2 = nI (k + 2) from nI_add k 2]
  have up : ∀ (g : Nat → Int64), upL (upL g k y1) (k + 1) y2 k = y1 ∧ upL (upL g k y1) (k + 1) y2 (k + 1) = y2 ∧ ∀ j, j < k → upL (upL g k y1) (k + 1) y2 j = g j := fun g => by
    refine ⟨?_, ?_, fun j hj => ?_⟩
    · unfold upL
      rw [if_neg (by omega), if_pos rfl]
    · unfold upL
      rw [if_pos rfl]
    · unfold upL
      rw [if_neg (by omega), if_neg (by omega)]
  by_cases h : k + 2 ≤ Np
  · rw [if_pos (nI_le h (by omega))]
    obtain ⟨f', e1, e2, e3⟩ := e_keep32 (us := us) (d := d + 1) V0 h (y1 := y1) (y2 := y2)
    obtain ⟨u1, u2, u3⟩ := up po
    exact ⟨n, us, p, Np, f', _, e1, e2, u3, u1, u2, Or.inl ⟨h, rfl, rfl, rfl, rfl⟩, fun x h1 h2 _ => e3 x h1 h2⟩
  · rw [if_neg (nI_ge (by omega) (by omega)), Option.bind_some, Option.bind_some, lenA_of (s := (n, f, us)) v3 (by decide) v6.2.2.1 v7.2.2.1, Option.bind_some, show (2 : Int32) * nI Np = nI (2 * Np) from nI_mul 2 Np]
    obtain ⟨g', e1, e2, e3⟩ := e_copyJ (d := d) (us := us) (n := n) (M := 2 * Np) v3 v6.2.2.1 v7.2.2.1 (by omega) (by omega)
    rw [e1, bnd_some]
    have w1 : va_up f n (.inl (.long, 2 * Np, fun j => .long (g' j))) r = .inr (2, [.ref c, .int (nI s), .ref p, .int (nI k), .ref l, .int (nI t)]) := (va_up_ne _ _ (by omega)).trans v1
    rw [pV_of (s := (n + 1, va_up f n _, us + 2 * Np)) (k := 2) w1 v6.1 (show r < n + 1 by omega) (Nat.le_of_ble_eq_true rfl), Option.bind_some]
    have V1 : DR (n + 1) (va_up (va_up f n (.inl (.long, 2 * Np, fun j => .long (g' j)))) r (.inr (2, [.ref c, .int (nI s), .ref n, .int (nI k), .ref l, .int (nI t)]))) r c n l s k t Nc (2 * Np) Nl co g' lo := by
      refine ⟨va_up_self _ _ _, ?_, ?_, ?_, by omega, by omega, by omega, by omega⟩
      · rw [va_up_ne _ _ v8.1]
        exact (va_up_ne _ _ (by omega)).trans v2
      · rw [va_up_ne _ _ (by omega)]
        exact va_up_self _ _ _
      · rw [va_up_ne _ _ v8.2.2.1]
        exact (va_up_ne _ _ (by omega)).trans v4
    obtain ⟨f', e4, e5, e6⟩ := e_keep32 (us := us + 2 * Np) (d := d + 1) V1 (by omega) (y1 := y1) (y2 := y2)
    obtain ⟨u1, u2, u3⟩ := up g'
    refine ⟨n + 1, us + 2 * Np, n, 2 * Np, f', _, e4, e5, fun j hj => (u3 j hj).trans (e2 j (by omega) (by omega)), u1, u2, Or.inr ⟨by omega, rfl, rfl, rfl, rfl⟩, fun x h1 h2 h3 => ?_⟩
    rw [e6 x h1 (by omega), va_up_ne _ _ h1, va_up_ne _ _ (by omega)]

theorem e_localOf (V : DR n f r c p l s k t Nc Np Nl co po lo) {y : Int64} : x_Draft_localOf d r y (n, f, us) = some (s_find lo t y, (n, f, us)) := by
  obtain ⟨v1, v2, v3, v4, v5, v6, v7, v8⟩ := V
  unfold x_Draft_localOf s_find
  rw [gd_of (s := (n, f, us)) v1 v6.1 v7.1]
  refine loop_ind (fun z q => ∀ m i, i + m = t → z = (nI i, (n, f, us)) → q = some (s_fd lo y m i, (n, f, us))) (fun z => t - z.1.toNatClampNeg) (fun again z ih m i e ez => ?_) FU _ (by rw [FU_eq]; omega) t 0 (by omega) rfl
  subst ez
  dsimp only
  rw [gI_of (s := (n, f, us)) (k := 5) (x := nI t) v1 v6.1 v7.1 rfl, Option.bind_some]
  cases m with
  | zero =>
    obtain rfl : i = t := by omega
    rw [if_pos (Int32.le_refl _), s_fd]
  | succ m =>
    have b0 := cl0 (show i < 2 ^ 31 by omega)
    rw [if_neg (nI_ge (by omega) (by omega)), gR_of (s := (n, f, us)) (k := 4) (x := l) v1 v6.1 v7.1 rfl, Option.bind_some, aL_of (s := (n, f, us)) v4 v6.2.2.2 v7.2.2.2 b0.1 (by rw [b0.2]; omega), Option.bind_some, b0.2, s_fd]
    split
    · rfl
    · rw [← nI_succ]
      exact ih _ (by simp only [nI_clamp (show i + 1 < 2 ^ 31 by omega), b0.2]; omega) m (i + 1) (by omega) rfl
theorem s_fd_neg {g : Nat → Int64} {y : Int64} : ∀ m i, i + m < 2 ^ 31 → (s_fd g y m i < 0 ∧ s_fd g y m i = -1 ∧ ∀ j, i ≤ j → j < i + m → g j ≠ y) ∨ ∃ j, i ≤ j ∧ j < i + m ∧ s_fd g y m i = nI j ∧ g j = y ∧ ∀ j', i ≤ j' → j' < j → g j' ≠ y
  | 0, i, _ => Or.inl ⟨by rw [s_fd]; decide, rfl, fun j h1 h2 => by omega⟩
  | m + 1, i, h => by
    rw [s_fd]
    by_cases e : lg_cmp (g i) y = 0
    · rw [if_pos e]
      exact Or.inr ⟨i, Nat.le_refl _, by omega, rfl, lc_eq.mp e, fun j' h1 h2 => by omega⟩
    · rw [if_neg e]
      have hne : g i ≠ y := fun q => e (lc_eq.mpr q)
      rcases s_fd_neg m (i + 1) (by omega) with ⟨h1, h2, h3⟩ | ⟨j, h1, h2, h3, h4, h5⟩
      · refine Or.inl ⟨h1, h2, fun j hj hj2 => ?_⟩
        by_cases ej : j = i
        · rw [ej]; exact hne
        · exact h3 j (by omega) (by omega)
      · refine Or.inr ⟨j, by omega, by omega, h3, h4, fun j' hj hj2 => ?_⟩
        by_cases ej : j' = i
        · rw [ej]; exact hne
        · exact h5 j' (by omega) hj2
theorem e_here {h : Nat} (V : DR n f r c p l (2 * h) k t Nc Np Nl co po lo) : x_Draft_here d r (n, f, us) = some (nI h, (n, f, us)) := by
  obtain ⟨v1, v2, v3, v4, v5, v6, v7, v8⟩ := V
  unfold x_Draft_here
  rw [gd_of (s := (n, f, us)) v1 v6.1 v7.1, gI_of (s := (n, f, us)) (k := 1) (x := nI (2 * h)) v1 v6.1 v7.1 rfl, Option.bind_some]
  congr 2
  apply Int32.toInt_inj.mp
  rw [Int32.toInt_div_of_ne_right _ _ (by decide), nI_toInt (by omega), nI_toInt (by omega), show (2 : Int32).toInt = 2 from rfl, Int.tdiv_eq_ediv_of_nonneg (by omega)]
  omega
theorem e_lastOp (V : DR n f r c p l (s + 2) k t Nc Np Nl co po lo) : x_Draft_lastOp d r (n, f, us) = some (co s, (n, f, us)) := by
  obtain ⟨v1, v2, v3, v4, v5, v6, v7, v8⟩ := V
  unfold x_Draft_lastOp
  have b0 := cl0 (show s < 2 ^ 31 by omega)
  rw [gd_of (s := (n, f, us)) v1 v6.1 v7.1, gI_of (s := (n, f, us)) (k := 1) (x := nI (s + 2)) v1 v6.1 v7.1 rfl, Option.bind_some, if_neg (show ¬ nI (s + 2) < (2 : Int32) from fun q => absurd (show (2 : Int32) ≤ nI (s + 2) from nI_le (a := 2) (b := s + 2) (by omega) (by omega)) (Int32.not_le.mpr q)), gR_of (s := (n, f, us)) (k := 0) (x := c) v1 v6.1 v7.1 rfl, Option.bind_some, Option.bind_some, show nI (s + 2) - 2 = nI s from nI_sub (a := s + 2) (b := 2) (by omega), aI_of (s := (n, f, us)) v2 v6.2.1 v7.2.1 b0.1 (by rw [b0.2]; omega), Option.bind_some, b0.2]
theorem e_lastArg (V : DR n f r c p l (s + 2) k t Nc Np Nl co po lo) : x_Draft_lastArgument d r (n, f, us) = some (co (s + 1), (n, f, us)) := by
  obtain ⟨v1, v2, v3, v4, v5, v6, v7, v8⟩ := V
  unfold x_Draft_lastArgument
  have b0 := cl0 (show s + 1 < 2 ^ 31 by omega)
  rw [gd_of (s := (n, f, us)) v1 v6.1 v7.1, gI_of (s := (n, f, us)) (k := 1) (x := nI (s + 2)) v1 v6.1 v7.1 rfl, Option.bind_some, if_neg (show ¬ nI (s + 2) < (2 : Int32) from fun q => absurd (show (2 : Int32) ≤ nI (s + 2) from nI_le (a := 2) (b := s + 2) (by omega) (by omega)) (Int32.not_le.mpr q)), gR_of (s := (n, f, us)) (k := 0) (x := c) v1 v6.1 v7.1 rfl, Option.bind_some, Option.bind_some, show nI (s + 2) - 1 = nI (s + 1) from nI_sub (a := s + 2) (b := 1) (by omega), aI_of (s := (n, f, us)) v2 v6.2.1 v7.2.1 b0.1 (by rw [b0.2]; omega), Option.bind_some, b0.2]
end
