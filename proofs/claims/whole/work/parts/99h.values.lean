/-! Values of the reference (rep vR), purely -/
section
variable {n us d r N i : Nat} {kd sz : Nat → Int32} {on tw : Nat → Int64} {f : Nat → am_C}
theorem e_Vset (V : vR f r N kd sz on tw) (h1 : 128 ≤ r) (h2 : r + 4 < n) (hN : N < 2 ^ 31) (hi : i < N) {x1 x2 : Int32} {y1 y2 : Int64} : ∃ f', x_Vals_set d r (nI i) x1 x2 y1 y2 (n, f, us) = some ((), (n, f', us)) ∧ vR f' r N (upI kd i x1) (upI sz i x2) (upL on i y1) (upL tw i y2) ∧ ∀ x, x ≤ r ∨ r + 4 < x → f' x = f x := by
  obtain ⟨v0, v1, v2, v3, v4⟩ := V
  have b := cl0 (show i < 2 ^ 31 by omega)
  unfold x_Vals_set
  rw [gd_of (s := (n, f, us)) v0 h1 (show r < n by omega), gR_of (s := (n, f, us)) (k := 0) (x := r + 1) v0 h1 (show r < n by omega) rfl, Option.bind_some, sI_of (s := (n, f, us)) v1 (by omega) (show r + 1 < n by omega) b.1 (by rw [b.2]; exact hi), Option.bind_some, b.2]
  generalize hf1 : va_up f (r + 1) (.inl (.int, N, fun j => .int (upI kd i x1 j))) = f1
  have k1 : ∀ x, x ≠ r + 1 → f1 x = f x := fun x hx => by rw [← hf1]; exact va_up_ne _ _ hx
  have s1 : f1 (r + 1) = .inl (.int, N, fun j => .int (upI kd i x1 j)) := by rw [← hf1]; exact va_up_self _ _ _
  rw [gR_of (s := (n, f1, us)) (k := 1) (x := r + 2) ((k1 r (by omega)).trans v0) h1 (show r < n by omega) rfl, Option.bind_some, sI_of (s := (n, f1, us)) ((k1 (r + 2) (by omega)).trans v2) (by omega) (show r + 2 < n by omega) b.1 (by rw [b.2]; exact hi), Option.bind_some, b.2]
  generalize hf2 : va_up f1 (r + 2) (.inl (.int, N, fun j => .int (upI sz i x2 j))) = f2
  have k2 : ∀ x, x ≠ r + 2 → f2 x = f1 x := fun x hx => by rw [← hf2]; exact va_up_ne _ _ hx
  have s2 : f2 (r + 2) = .inl (.int, N, fun j => .int (upI sz i x2 j)) := by rw [← hf2]; exact va_up_self _ _ _
  rw [gR_of (s := (n, f2, us)) (k := 2) (x := r + 3) ((k2 r (by omega)).trans ((k1 r (by omega)).trans v0)) h1 (show r < n by omega) rfl, Option.bind_some, sL_of (s := (n, f2, us)) ((k2 (r + 3) (by omega)).trans ((k1 (r + 3) (by omega)).trans v3)) (by omega) (show r + 3 < n by omega) b.1 (by rw [b.2]; exact hi), Option.bind_some, b.2]
  generalize hf3 : va_up f2 (r + 3) (.inl (.long, N, fun j => .long (upL on i y1 j))) = f3
  have k3 : ∀ x, x ≠ r + 3 → f3 x = f2 x := fun x hx => by rw [← hf3]; exact va_up_ne _ _ hx
  have s3 : f3 (r + 3) = .inl (.long, N, fun j => .long (upL on i y1 j)) := by rw [← hf3]; exact va_up_self _ _ _
  rw [gR_of (s := (n, f3, us)) (k := 3) (x := r + 4) ((k3 r (by omega)).trans ((k2 r (by omega)).trans ((k1 r (by omega)).trans v0))) h1 (show r < n by omega) rfl, Option.bind_some, sL_of (s := (n, f3, us)) ((k3 (r + 4) (by omega)).trans ((k2 (r + 4) (by omega)).trans ((k1 (r + 4) (by omega)).trans v4))) (by omega) (show r + 4 < n by omega) b.1 (by rw [b.2]; exact hi), Option.bind_some, b.2]
  refine ⟨_, rfl, ⟨?_, ?_, ?_, ?_, va_up_self _ _ _⟩, fun x hx => ?_⟩
  · exact (va_up_ne _ _ (by omega)).trans ((k3 r (by omega)).trans ((k2 r (by omega)).trans ((k1 r (by omega)).trans v0)))
  · exact (va_up_ne _ _ (by omega)).trans ((k3 _ (by omega)).trans ((k2 _ (by omega)).trans s1))
  · exact (va_up_ne _ _ (by omega)).trans ((k3 _ (by omega)).trans s2)
  · exact (va_up_ne _ _ (by omega)).trans s3
  · exact (va_up_ne _ _ (by omega)).trans ((k3 _ (by omega)).trans ((k2 _ (by omega)).trans (k1 _ (by omega))))
theorem e_Vcopy {r2 N2 j : Nat} {k2 s2 : Nat → Int32} {o2 t2 : Nat → Int64} (V : vR f r N kd sz on tw) (h1 : 128 ≤ r) (h2 : r + 4 < n) (hN : N < 2 ^ 31) (hi : i < N) (W : vR f r2 N2 k2 s2 o2 t2) (g1 : 128 ≤ r2) (g2 : r2 + 4 < n) (hN2 : N2 < 2 ^ 31) (hj : j < N2) : ∃ f', x_Vals_copy (d + 1) r (nI i) r2 (nI j) (n, f, us) = some ((), (n, f', us)) ∧ vR f' r N (upI kd i (k2 j)) (upI sz i (s2 j)) (upL on i (o2 j)) (upL tw i (t2 j)) ∧ ∀ x, x ≤ r ∨ r + 4 < x → f' x = f x := by
  have V' := V
  obtain ⟨v0, v1, v2, v3, v4⟩ := V
  obtain ⟨w0, w1, w2, w3, w4⟩ := W
  have b := cl0 (show j < 2 ^ 31 by omega)
  have hb : (nI j).toNatClampNeg < N2 := by rw [b.2]; exact hj
  unfold x_Vals_copy
  dsimp only
  rw [gd_of (s := (n, f, us)) v0 h1 (show r < n by omega), gR_of (s := (n, f, us)) (k := 0) (x := r2 + 1) w0 g1 (show r2 < n by omega) rfl, Option.bind_some, aI_of (s := (n, f, us)) w1 (by omega) (show r2 + 1 < n by omega) b.1 hb, Option.bind_some, gR_of (s := (n, f, us)) (k := 1) (x := r2 + 2) w0 g1 (show r2 < n by omega) rfl, Option.bind_some, aI_of (s := (n, f, us)) w2 (by omega) (show r2 + 2 < n by omega) b.1 hb, Option.bind_some, gR_of (s := (n, f, us)) (k := 2) (x := r2 + 3) w0 g1 (show r2 < n by omega) rfl, Option.bind_some, aL_of (s := (n, f, us)) w3 (by omega) (show r2 + 3 < n by omega) b.1 hb, Option.bind_some, gR_of (s := (n, f, us)) (k := 3) (x := r2 + 4) w0 g1 (show r2 < n by omega) rfl, Option.bind_some, aL_of (s := (n, f, us)) w4 (by omega) (show r2 + 4 < n by omega) b.1 hb, Option.bind_some, b.2]
  obtain ⟨f', e1, e2, e3⟩ := e_Vset (d := d) (us := us) V' h1 h2 hN hi (x1 := k2 j) (x2 := s2 j) (y1 := o2 j) (y2 := t2 j)
  rw [e1, bnd_some]
  exact ⟨f', rfl, e2, e3⟩
theorem e_Vsign (V : vR f r N kd sz on tw) (h1 : 128 ≤ r) (h2 : r + 4 < n) (hN : N < 2 ^ 31) (hi : i < N) {x : Int32} : x_Vals_sign d r (nI i) x (n, f, us) = some (s_Vals_sign (on i) (tw i) x, (n, f, us)) := by
  obtain ⟨v0, v1, v2, v3, v4⟩ := V
  have b := cl0 (show i < 2 ^ 31 by omega)
  have hb : (nI i).toNatClampNeg < N := by rw [b.2]; exact hi
  unfold x_Vals_sign s_Vals_sign x_Vals_sign_b21
  rw [gd_of (s := (n, f, us)) v0 h1 (show r < n by omega), gR_of (s := (n, f, us)) (k := 3) (x := r + 4) v0 h1 (show r < n by omega) rfl, Option.bind_some, aL_of (s := (n, f, us)) v4 (by omega) (show r + 4 < n by omega) b.1 hb, Option.bind_some, gR_of (s := (n, f, us)) (k := 2) (x := r + 3) v0 h1 (show r < n by omega) rfl, Option.bind_some, aL_of (s := (n, f, us)) v3 (by omega) (show r + 3 < n by omega) b.1 hb, Option.bind_some, b.2]
  split <;> rfl
theorem e_Vlike {r2 N2 j : Nat} {k2 s2 : Nat → Int32} {o2 t2 : Nat → Int64} (V : vR f r N kd sz on tw) (h1 : 128 ≤ r) (h2 : r + 4 < n) (hN : N < 2 ^ 31) (hi : i < N) (W : vR f r2 N2 k2 s2 o2 t2) (g1 : 128 ≤ r2) (g2 : r2 + 4 < n) (hN2 : N2 < 2 ^ 31) (hj : j < N2) : x_Vals_isLike d r (nI i) r2 (nI j) (n, f, us) = some (if kd i = k2 j ∧ sz i = s2 j ∧ on i = o2 j ∧ tw i = t2 j then 1 else 0, (n, f, us)) := by
  obtain ⟨v0, v1, v2, v3, v4⟩ := V
  obtain ⟨w0, w1, w2, w3, w4⟩ := W
  have b := cl0 (show i < 2 ^ 31 by omega)
  have hb : (nI i).toNatClampNeg < N := by rw [b.2]; exact hi
  have c := cl0 (show j < 2 ^ 31 by omega)
  have hc : (nI j).toNatClampNeg < N2 := by rw [c.2]; exact hj
  unfold x_Vals_isLike
  have G : ∀ k y, ([.ref (r + 1), .ref (r + 2), .ref (r + 3), .ref (r + 4)] : List Value)[k]? = some (.ref y) → gR (n, f, us) r 11 k = some y := fun k y hk => gR_of (s := (n, f, us)) v0 h1 (show r < n by omega) hk
  have G2 : ∀ k y, ([.ref (r2 + 1), .ref (r2 + 2), .ref (r2 + 3), .ref (r2 + 4)] : List Value)[k]? = some (.ref y) → gR (n, f, us) r2 11 k = some y := fun k y hk => gR_of (s := (n, f, us)) w0 g1 (show r2 < n by omega) hk
  have a1 := aI_of (s := (n, f, us)) v1 (by omega) (show r + 1 < n by omega) b.1 hb
  have a2 := aI_of (s := (n, f, us)) v2 (by omega) (show r + 2 < n by omega) b.1 hb
  have a3 := aL_of (s := (n, f, us)) v3 (by omega) (show r + 3 < n by omega) b.1 hb
  have a4 := aL_of (s := (n, f, us)) v4 (by omega) (show r + 4 < n by omega) b.1 hb
  have d1 := aI_of (s := (n, f, us)) w1 (by omega) (show r2 + 1 < n by omega) c.1 hc
  have d2 := aI_of (s := (n, f, us)) w2 (by omega) (show r2 + 2 < n by omega) c.1 hc
  have d3 := aL_of (s := (n, f, us)) w3 (by omega) (show r2 + 3 < n by omega) c.1 hc
  have d4 := aL_of (s := (n, f, us)) w4 (by omega) (show r2 + 4 < n by omega) c.1 hc
  rw [b.2] at a1 a2 a3 a4
  rw [c.2] at d1 d2 d3 d4
  rw [gd_of (s := (n, f, us)) v0 h1 (show r < n by omega)]
  simp only [G 0 _ rfl, G 1 _ rfl, G 2 _ rfl, G 3 _ rfl, G2 0 _ rfl, G2 1 _ rfl, G2 2 _ rfl, G2 3 _ rfl, a1, a2, a3, a4, d1, d2, d3, d4, Option.bind_some, lc_eq]
  by_cases q1 : kd i = k2 j
  · by_cases q2 : sz i = s2 j
    · by_cases q3 : on i = o2 j
      · by_cases q4 : tw i = t2 j
        · rw [if_pos q1, if_pos q2, if_pos q3, if_pos q4, if_pos ⟨q1, q2, q3, q4⟩]
        · rw [if_pos q1, if_pos q2, if_pos q3, if_neg q4, if_neg (fun w => q4 w.2.2.2)]
      · rw [if_pos q1, if_pos q2, if_neg q3, if_neg (fun w => q3 w.2.2.1)]
    · rw [if_pos q1, if_neg q2, if_neg (fun w => q2 w.2.1)]
  · rw [if_neg q1, if_neg (fun w => q1 w.1)]
end
