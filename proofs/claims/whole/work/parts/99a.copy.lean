/-! copies of arrays -/
section
variable {n us d a N M : Nat} {f : Nat → am_C}
theorem nI_min {x y : Nat} (hx : x < 2 ^ 31) (hy : y < 2 ^ 31) : (if nI x < nI y then nI x else nI y) = nI (min x y) := by
  rcases Nat.lt_or_ge x y with h | h
  · rw [if_pos (nI_lt h hy), Nat.min_eq_left (by omega)]
  · rw [if_neg (fun q => absurd (nI_le h hx) (Int32.not_le.mpr q)), Nat.min_eq_right h]

theorem e_copyI {g : Nat → Int32} (U : f a = .inl (.int, N, fun j => .int (g j))) (h1 : 128 ≤ a) (h2 : a < n) (hN : N < 2 ^ 31) (hM : M * 4 ≤ 536870912) : ∃ g' : Nat → Int32, x_Arr_copyOf_aII (d + 1) a (nI M) (n, f, us) = some (n, (n + 1, va_up f n (.inl (.int, M, fun j => .int (g' j))), us + M)) ∧ (∀ j, j < N → j < M → g' j = g j) ∧ ∀ j, N ≤ j → j < M → g' j = 0 := by
  have hM2 : M < 2 ^ 31 := by omega
  unfold x_Arr_copyOf_aII
  dsimp only
  rw [lenA_of U (by decide) h1 h2, Option.bind_some]
  by_cases e : M = N
  · subst e
    refine ⟨g, ?_, fun j _ _ => rfl, fun j h3 h4 => by omega⟩
    rw [if_pos rfl]
    unfold clA
    rw [show (n, f, us).2.1 a = _ from U]
    dsimp only
    rw [if_pos ⟨rfl, h1, h2, List.all_eq_true.mpr fun i _ => rfl⟩]
    rfl
  · rw [if_neg (fun q => e (nI_inj hM2 hN q))]
    have eM : (nI M).toNatClampNeg = M := nI_clamp hM2
    unfold newA
    rw [if_pos ⟨nI_pos hM2, by rw [eM]; exact hM⟩, Option.bind_some, eM]
    have U' : va_up f n (.inl (.int, M, fun _ => defaultValue .int)) a = .inl (.int, N, fun j => .int (g j)) := (va_up_ne _ _ (by omega)).trans U
    rw [lenA_of (s := (n + 1, va_up f n (.inl (.int, M, fun _ => defaultValue .int)), us + M)) U' (by decide) h1 (show a < n + 1 by omega), Option.bind_some, nI_min hM2 hN]
    have eK : (nI (min M N)).toNatClampNeg = min M N := nI_clamp (by omega)
    refine ⟨fun j => if j < min M N then g j else 0, ?_, fun j h3 h4 => if_pos (by omega), fun j h3 h4 => if_neg (by omega)⟩
    unfold cpA
    rw [show (n + 1, va_up f n (.inl (.int, M, fun _ => defaultValue .int)), us + M).2.1 a = _ from U', show (n + 1, va_up f n (.inl (.int, M, fun _ => defaultValue .int)), us + M).2.1 n = _ from va_up_self _ _ _]
    dsimp only
    rw [eK, show (0 : Int32).toNatClampNeg = 0 from rfl, if_pos ⟨rfl, by decide, rfl, h1, by omega, by omega, by omega, by decide, by decide, nI_pos (by omega), by omega, by omega, List.all_eq_true.mpr fun i _ => rfl⟩, Option.bind_some, bx_uu]
    congr 6
    have : va_cpy (fun j => Value.int (g j)) (fun _ => defaultValue .int) 0 0 (min M N) = fun j => Value.int (if j < min M N then g j else 0) := by
      funext j
      unfold va_cpy
      by_cases h : j < min M N
      · rw [if_pos ⟨by omega, by omega⟩, if_pos h]
        congr 2
        omega
      · rw [if_neg (by omega), if_neg h]
        rfl
    rw [this]

theorem e_copyJ {g : Nat → Int64} (U : f a = .inl (.long, N, fun j => .long (g j))) (h1 : 128 ≤ a) (h2 : a < n) (hN : N < 2 ^ 31) (hM : M * 8 ≤ 536870912) : ∃ g' : Nat → Int64, x_Arr_copyOf_aJI (d + 1) a (nI M) (n, f, us) = some (n, (n + 1, va_up f n (.inl (.long, M, fun j => .long (g' j))), us + M)) ∧ (∀ j, j < N → j < M → g' j = g j) ∧ ∀ j, N ≤ j → j < M → g' j = 0 := by
  have hM2 : M < 2 ^ 31 := by omega
  unfold x_Arr_copyOf_aJI
  dsimp only
  rw [lenA_of U (by decide) h1 h2, Option.bind_some]
  by_cases e : M = N
  · subst e
    refine ⟨g, ?_, fun j _ _ => rfl, fun j h3 h4 => by omega⟩
    rw [if_pos rfl]
    unfold clA
    rw [show (n, f, us).2.1 a = _ from U]
    dsimp only
    rw [if_pos ⟨rfl, h1, h2, List.all_eq_true.mpr fun i _ => rfl⟩]
    rfl
  · rw [if_neg (fun q => e (nI_inj hM2 hN q))]
    have eM : (nI M).toNatClampNeg = M := nI_clamp hM2
    unfold newA
    rw [if_pos ⟨nI_pos hM2, by rw [eM]; exact hM⟩, Option.bind_some, eM]
    have U' : va_up f n (.inl (.long, M, fun _ => defaultValue .long)) a = .inl (.long, N, fun j => .long (g j)) := (va_up_ne _ _ (by omega)).trans U
    rw [lenA_of (s := (n + 1, va_up f n (.inl (.long, M, fun _ => defaultValue .long)), us + M)) U' (by decide) h1 (show a < n + 1 by omega), Option.bind_some, nI_min hM2 hN]
    have eK : (nI (min M N)).toNatClampNeg = min M N := nI_clamp (by omega)
    refine ⟨fun j => if j < min M N then g j else 0, ?_, fun j h3 h4 => if_pos (by omega), fun j h3 h4 => if_neg (by omega)⟩
    unfold cpA
    rw [show (n + 1, va_up f n (.inl (.long, M, fun _ => defaultValue .long)), us + M).2.1 a = _ from U', show (n + 1, va_up f n (.inl (.long, M, fun _ => defaultValue .long)), us + M).2.1 n = _ from va_up_self _ _ _]
    dsimp only
    rw [eK, show (0 : Int32).toNatClampNeg = 0 from rfl, if_pos ⟨rfl, by decide, rfl, h1, by omega, by omega, by omega, by decide, by decide, nI_pos (by omega), by omega, by omega, List.all_eq_true.mpr fun i _ => rfl⟩, Option.bind_some, bx_uu]
    congr 6
    have : va_cpy (fun j => Value.long (g j)) (fun _ => defaultValue .long) 0 0 (min M N) = fun j => Value.long (if j < min M N then g j else 0) := by
      funext j
      unfold va_cpy
      by_cases h : j < min M N
      · rw [if_pos ⟨by omega, by omega⟩, if_pos h]
        congr 2
        omega
      · rw [if_neg (by omega), if_neg h]
        rfl
    rw [this]

end
