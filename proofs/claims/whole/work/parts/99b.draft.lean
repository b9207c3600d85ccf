/-! the class's Draft at r: s ints of code at c, k longs of pool at p, t locals at l -/
def DR (n : Nat) (f : Nat → am_C) (r c p l s k t Nc Np Nl : Nat) (co : Nat → Int32) (po lo : Nat → Int64) : Prop :=
  f r = .inr (2, [.ref c, .int (nI s), .ref p, .int (nI k), .ref l, .int (nI t)]) ∧ f c = .inl (.int, Nc, fun j => .int (co j)) ∧ f p = .inl (.long, Np, fun j => .long (po j)) ∧ f l = .inl (.long, Nl, fun j => .long (lo j)) ∧
  (s ≤ Nc ∧ k ≤ Np ∧ t ≤ Nl ∧ 2 ≤ Nc ∧ 2 ≤ Np ∧ 2 ≤ Nl ∧ Nc ≤ 2 ^ 20 ∧ Np ≤ 2 ^ 20 ∧ Nl ≤ 2 ^ 20) ∧ (128 ≤ r ∧ 128 ≤ c ∧ 128 ≤ p ∧ 128 ≤ l) ∧ (r < n ∧ c < n ∧ p < n ∧ l < n) ∧ (c ≠ r ∧ p ≠ r ∧ l ≠ r ∧ p ≠ c ∧ l ≠ c ∧ l ≠ p)
section
variable {n us d r c p l s k t Nc Np Nl : Nat} {co : Nat → Int32} {po lo : Nat → Int64} {f : Nat → am_C}
theorem DR.kept {n' : Nat} {f' : Nat → am_C} (V : DR n f r c p l s k t Nc Np Nl co po lo) (hn : n ≤ n') (h : ∀ x, x = r ∨ x = c ∨ x = p ∨ x = l → f' x = f x) : DR n' f' r c p l s k t Nc Np Nl co po lo := by
  obtain ⟨v1, v2, v3, v4, v5, v6, v7, v8⟩ := V
  exact ⟨(h _ (Or.inl rfl)).trans v1, (h _ (Or.inr (Or.inl rfl))).trans v2, (h _ (Or.inr (Or.inr (Or.inl rfl)))).trans v3, (h _ (Or.inr (Or.inr (Or.inr rfl)))).trans v4, v5, v6, by omega, v8⟩
theorem nI_mul (a b : Nat) : nI a * nI b = nI (a * b) := (Int32.ofNat_mul a b).symm
theorem cl0 {i : Nat} (h : i < 2 ^ 31) : ¬ nI i < 0 ∧ (nI i).toNatClampNeg = i := ⟨nI_pos h, nI_clamp h⟩
theorem e_add32 (V : DR n f r c p l s k t Nc Np Nl co po lo) (hs : s + 2 ≤ Nc) {op ar : Int32} : ∃ f', x_Draft_add_b32 d r op ar (n, f, us) = some ((), (n, f', us)) ∧ DR n f' r c p l (s + 2) k t Nc Np Nl (upI (upI co s op) (s + 1) ar) po lo ∧ ∀ x, x ≠ r → x ≠ c → f' x = f x := by
  obtain ⟨v1, v2, v3, v4, v5, v6, v7, v8⟩ := V
  unfold x_Draft_add_b32
  have b0 := cl0 (show s < 2 ^ 31 by omega)
  have b1 := cl0 (show s + 1 < 2 ^ 31 by omega)
  rw [gR_of (s := (n, f, us)) (k := 0) (x := c) v1 v6.1 v7.1 rfl, Option.bind_some, gI_of (s := (n, f, us)) (k := 1) (x := nI s) v1 v6.1 v7.1 rfl, Option.bind_some]
  rw [sI_of (s := (n, f, us)) v2 v6.2.1 v7.2.1 b0.1 (by rw [b0.2]; omega), Option.bind_some, b0.2]
  have w1 : va_up f c (.inl (.int, Nc, fun j => .int (upI co s op j))) r = .inr (2, [.ref c, .int (nI s), .ref p, .int (nI k), .ref l, .int (nI t)]) := (va_up_ne _ _ (Ne.symm v8.1)).trans v1
  rw [gR_of (s := (n, va_up f c _, us)) (k := 0) (x := c) w1 v6.1 v7.1 rfl, Option.bind_some, gI_of (s := (n, va_up f c _, us)) (k := 1) (x := nI s) w1 v6.1 v7.1 rfl, Option.bind_some, ← nI_succ]
  rw [sI_of (s := (n, va_up f c _, us)) (g := upI co s op) (va_up_self _ _ _) v6.2.1 v7.2.1 b1.1 (by rw [b1.2]; omega), Option.bind_some, b1.2]
  rw [show ((n, va_up f c (.inl (.int, Nc, fun j => .int (upI co s op j))), us) : HS).2.1 = va_up f c (.inl (.int, Nc, fun j => .int (upI co s op j))) from rfl, bx_uu]
  have w2 : va_up f c (.inl (.int, Nc, fun j => .int (upI (upI co s op) (s + 1) ar j))) r = .inr (2, [.ref c, .int (nI s), .ref p, .int (nI k), .ref l, .int (nI t)]) := (va_up_ne _ _ (Ne.symm v8.1)).trans v1
  rw [gI_of (s := (n, va_up f c _, us)) (k := 1) (x := nI s) w2 v6.1 v7.1 rfl, Option.bind_some, pV_of (s := (n, va_up f c _, us)) (k := 1) w2 v6.1 v7.1 (Nat.le_of_ble_eq_true rfl), Option.bind_some]
  refine ⟨_, rfl, ⟨?_, ?_, ?_, ?_, by omega, v6, v7, v8⟩, fun x hx hc => ?_⟩
  · rw [va_up_self, show nI s + 2 = nI (s + 2) from nI_add s 2]
    rfl
  · rw [va_up_ne _ _ v8.1]
    exact va_up_self _ _ _
  · rw [va_up_ne _ _ v8.2.1]
    exact (va_up_ne _ _ v8.2.2.2.1).trans v3
  · rw [va_up_ne _ _ v8.2.2.1]
    exact (va_up_ne _ _ v8.2.2.2.2.1).trans v4
  · rw [va_up_ne _ _ hx]
    exact va_up_ne _ _ hc
theorem e_add (V : DR n f r c p l s k t Nc Np Nl co po lo) (hs : s + 2 ≤ 2 ^ 20) (hN : 2 * Nc ≤ 2 ^ 20) {op ar : Int32} : ∃ (n' us' c' Nc' : Nat) (f' : Nat → am_C) (co' : Nat → Int32), x_Draft_add (d + 2) r op ar (n, f, us) = some ((), (n', f', us')) ∧ DR n' f' r c' p l (s + 2) k t Nc' Np Nl co' po lo ∧ (∀ j, j < s → co' j = co j) ∧ co' s = op ∧ co' (s + 1) = ar ∧ ((s + 2 ≤ Nc ∧ c' = c ∧ n' = n ∧ us' = us ∧ Nc' = Nc) ∨ (Nc < s + 2 ∧ c' = n ∧ n' = n + 1 ∧ us' = us + 2 * Nc ∧ Nc' = 2 * Nc)) ∧ ∀ x, x ≠ r → x ≠ c → x < n → f' x = f x := by
  have V0 := V
  obtain ⟨v1, v2, v3, v4, v5, v6, v7, v8⟩ := V
  unfold x_Draft_add
  dsimp only
  rw [gd_of (s := (n, f, us)) v1 v6.1 v7.1, gI_of (s := (n, f, us)) (k := 1) (x := nI s) v1 v6.1 v7.1 rfl, Option.bind_some, gR_of (s := (n, f, us)) (k := 0) (x := c) v1 v6.1 v7.1 rfl, Option.bind_some, lenA_of (s := (n, f, us)) v2 (by decide) v6.2.1 v7.2.1, Option.bind_some, show nI s + 2 = nI (s + 2) from nI_add s 2]
  have up : ∀ (g : Nat → Int32), upI (upI g s op) (s + 1) ar s = op ∧ upI (upI g s op) (s + 1) ar (s + 1) = ar ∧ ∀ j, j < s → upI (upI g s op) (s + 1) ar j = g j := fun g => by
    refine ⟨?_, ?_, fun j hj => ?_⟩
    · unfold upI
      rw [if_neg (by omega), if_pos rfl]
    · unfold upI
      rw [if_pos rfl]
    · unfold upI
      rw [if_neg (by omega), if_neg (by omega)]
  by_cases h : s + 2 ≤ Nc
  · rw [if_pos (nI_le h (by omega))]
    obtain ⟨f', e1, e2, e3⟩ := e_add32 (us := us) (d := d + 1) V0 h (op := op) (ar := ar)
    obtain ⟨u1, u2, u3⟩ := up co
    exact ⟨n, us, c, Nc, f', _, e1, e2, u3, u1, u2, Or.inl ⟨h, rfl, rfl, rfl, rfl⟩, fun x h1 h2 _ => e3 x h1 h2⟩
  · rw [if_neg (nI_ge (by omega) (by omega)), Option.bind_some, Option.bind_some, lenA_of (s := (n, f, us)) v2 (by decide) v6.2.1 v7.2.1, Option.bind_some, show (2 : Int32) * nI Nc = nI (2 * Nc) from nI_mul 2 Nc]
    obtain ⟨g', e1, e2, e3⟩ := e_copyI (d := d) (us := us) (n := n) (M := 2 * Nc) v2 v6.2.1 v7.2.1 (by omega) (by omega)
    rw [e1, bnd_some]
    have w1 : va_up f n (.inl (.int, 2 * Nc, fun j => .int (g' j))) r = .inr (2, [.ref c, .int (nI s), .ref p, .int (nI k), .ref l, .int (nI t)]) := (va_up_ne _ _ (by omega)).trans v1
    rw [pV_of (s := (n + 1, va_up f n _, us + 2 * Nc)) (k := 0) w1 v6.1 (show r < n + 1 by omega) (Nat.le_of_ble_eq_true rfl), Option.bind_some]
    have V1 : DR (n + 1) (va_up (va_up f n (.inl (.int, 2 * Nc, fun j => .int (g' j)))) r (.inr (2, [.ref n, .int (nI s), .ref p, .int (nI k), .ref l, .int (nI t)]))) r n p l s k t (2 * Nc) Np Nl g' po lo := by
      refine ⟨va_up_self _ _ _, ?_, ?_, ?_, by omega, by omega, by omega, by omega⟩
      · rw [va_up_ne _ _ (by omega)]
        exact va_up_self _ _ _
      · rw [va_up_ne _ _ v8.2.1]
        exact (va_up_ne _ _ (by omega)).trans v3
      · rw [va_up_ne _ _ v8.2.2.1]
        exact (va_up_ne _ _ (by omega)).trans v4
    obtain ⟨f', e4, e5, e6⟩ := e_add32 (us := us + 2 * Nc) (d := d + 1) V1 (by omega) (op := op) (ar := ar)
    obtain ⟨u1, u2, u3⟩ := up g'
    refine ⟨n + 1, us + 2 * Nc, n, 2 * Nc, f', _, e4, e5, fun j hj => (u3 j hj).trans (e2 j (by omega) (by omega)), u1, u2, Or.inr ⟨by omega, rfl, rfl, rfl, rfl⟩, fun x h1 h2 h3 => ?_⟩
    rw [e6 x h1 (by omega), va_up_ne _ _ h1, va_up_ne _ _ (by omega)]
end
