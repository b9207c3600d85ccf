/-- the first n longs of one array into another -/
theorem cpL_of {s : HS} {a0 a1 N0 N1 n : Nat} {g0 g1 : Nat → Int64} (h0 : s.2.1 a0 = aLong N0 g0) (h1 : s.2.1 a1 = aLong N1 g1) (b0 : 128 ≤ a0 ∧ a0 < s.1) (b1 : 128 ≤ a1 ∧ a1 < s.1) (n0 : n ≤ N0) (n1 : n ≤ N1) (hn : n < 2 ^ 31) : cpA s a0 0 a1 0 (nI n) = some (s.1, va_up s.2.1 a1 (aLong N1 fun j => if j < n then g0 j else g1 j), s.2.2) := by
  have b := cl0 hn
  have z : ((0 : Int32).toNatClampNeg) = 0 := rfl
  unfold cpA
  rw [h0, h1]
  dsimp only
  rw [b.2, z, if_pos ⟨rfl, by decide, rfl, b0.1, b0.2, b1.1, b1.2, by decide, by decide, b.1, by omega, by omega, by
    rw [List.all_eq_true]
    intro i _
    rfl⟩]
  refine congrArg (fun F => some (s.1, va_up s.2.1 a1 (.inl (.long, N1, F)), s.2.2)) ?_
  funext j
  unfold va_cpy
  by_cases c : j < n
  · rw [if_pos ⟨Nat.zero_le _, by omega⟩]
    show Value.long (g0 (0 + (j - 0))) = Value.long (if j < n then g0 j else g1 j)
    rw [if_pos c, Nat.sub_zero, Nat.zero_add]
  · rw [if_neg (by omega)]
    show Value.long (g1 j) = Value.long (if j < n then g0 j else g1 j)
    rw [if_neg c]
