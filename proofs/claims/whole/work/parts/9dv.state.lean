/-! a State of the reference, wherever it lies -/
def HSt (f : Nat → am_C) (r : Nat) (R : RS) : Nat → am_C := fun x =>
  if x = r then .inr (13, [.ref (r + 1), .ref (r + 2), .ref (r + 3), .ref (r + 4), .ref (r + 5), .ref (r + 6), .ref (r + 11), .ref (r + 16), .int R.2.2.2.2.2.2.2.2.1, .int R.2.2.2.2.2.2.2.2.2.1, .int R.2.2.2.2.2.2.2.2.2.2.1, .int R.2.2.2.2.2.2.2.2.2.2.2])
  else if x = r + 1 then aInt 100 R.1
  else if x = r + 2 then aInt 100 R.2.1
  else if x = r + 3 then aLong 800 R.2.2.1
  else if x = r + 4 then aLong 12 R.2.2.2.1
  else if x = r + 5 then aLong 10 R.2.2.2.2.1
  else if x = r + 6 then .inr (11, [.ref (r + 7), .ref (r + 8), .ref (r + 9), .ref (r + 10)])
  else if x = r + 7 then aInt 2000 (fun j => (R.2.2.2.2.2.1 j).1)
  else if x = r + 8 then aInt 2000 (fun j => (R.2.2.2.2.2.1 j).2.1)
  else if x = r + 9 then aLong 2000 (fun j => (R.2.2.2.2.2.1 j).2.2.1)
  else if x = r + 10 then aLong 2000 (fun j => (R.2.2.2.2.2.1 j).2.2.2)
  else if x = r + 11 then .inr (11, [.ref (r + 12), .ref (r + 13), .ref (r + 14), .ref (r + 15)])
  else if x = r + 12 then aInt 12 (fun j => (R.2.2.2.2.2.2.1 j).1)
  else if x = r + 13 then aInt 12 (fun j => (R.2.2.2.2.2.2.1 j).2.1)
  else if x = r + 14 then aLong 12 (fun j => (R.2.2.2.2.2.2.1 j).2.2.1)
  else if x = r + 15 then aLong 12 (fun j => (R.2.2.2.2.2.2.1 j).2.2.2)
  else if x = r + 16 then .inl (.object "StowTongueModel$Code", 10, R.2.2.2.2.2.2.2.1)
  else f x
section
variable {n us r : Nat} {f f' : Nat → am_C} {R : RS}
theorem HS_0 : HSt f r R (r) = .inr (13, [.ref (r + 1), .ref (r + 2), .ref (r + 3), .ref (r + 4), .ref (r + 5), .ref (r + 6), .ref (r + 11), .ref (r + 16), .int R.2.2.2.2.2.2.2.2.1, .int R.2.2.2.2.2.2.2.2.2.1, .int R.2.2.2.2.2.2.2.2.2.2.1, .int R.2.2.2.2.2.2.2.2.2.2.2]) := by
  unfold HSt
  rw [if_pos rfl]
theorem HS_1 : HSt f r R (r + 1) = aInt 100 R.1 := by
  unfold HSt
  rw [if_neg (by omega)]
  rw [if_pos rfl]
theorem HS_2 : HSt f r R (r + 2) = aInt 100 R.2.1 := by
  unfold HSt
  rw [if_neg (by omega)]
  rw [if_neg (by omega)]
  rw [if_pos rfl]
theorem HS_3 : HSt f r R (r + 3) = aLong 800 R.2.2.1 := by
  unfold HSt
  rw [if_neg (by omega)]
  rw [if_neg (by omega)]
  rw [if_neg (by omega)]
  rw [if_pos rfl]
theorem HS_4 : HSt f r R (r + 4) = aLong 12 R.2.2.2.1 := by
  unfold HSt
  rw [if_neg (by omega)]
  rw [if_neg (by omega)]
  rw [if_neg (by omega)]
  rw [if_neg (by omega)]
  rw [if_pos rfl]
theorem HS_5 : HSt f r R (r + 5) = aLong 10 R.2.2.2.2.1 := by
  unfold HSt
  rw [if_neg (by omega)]
  rw [if_neg (by omega)]
  rw [if_neg (by omega)]
  rw [if_neg (by omega)]
  rw [if_neg (by omega)]
  rw [if_pos rfl]
theorem HS_6 : HSt f r R (r + 6) = .inr (11, [.ref (r + 7), .ref (r + 8), .ref (r + 9), .ref (r + 10)]) := by
  unfold HSt
  rw [if_neg (by omega)]
  rw [if_neg (by omega)]
  rw [if_neg (by omega)]
  rw [if_neg (by omega)]
  rw [if_neg (by omega)]
  rw [if_neg (by omega)]
  rw [if_pos rfl]
theorem HS_7 : HSt f r R (r + 7) = aInt 2000 (fun j => (R.2.2.2.2.2.1 j).1) := by
  unfold HSt
  rw [if_neg (by omega)]
  rw [if_neg (by omega)]
  rw [if_neg (by omega)]
  rw [if_neg (by omega)]
  rw [if_neg (by omega)]
  rw [if_neg (by omega)]
  rw [if_neg (by omega)]
  rw [if_pos rfl]
theorem HS_8 : HSt f r R (r + 8) = aInt 2000 (fun j => (R.2.2.2.2.2.1 j).2.1) := by
  unfold HSt
  rw [if_neg (by omega)]
  rw [if_neg (by omega)]
  rw [if_neg (by omega)]
  rw [if_neg (by omega)]
  rw [if_neg (by omega)]
  rw [if_neg (by omega)]
  rw [if_neg (by omega)]
  rw [if_neg (by omega)]
  rw [if_pos rfl]
theorem HS_9 : HSt f r R (r + 9) = aLong 2000 (fun j => (R.2.2.2.2.2.1 j).2.2.1) := by
  unfold HSt
  rw [if_neg (by omega)]
  rw [if_neg (by omega)]
  rw [if_neg (by omega)]
  rw [if_neg (by omega)]
  rw [if_neg (by omega)]
  rw [if_neg (by omega)]
  rw [if_neg (by omega)]
  rw [if_neg (by omega)]
  rw [if_neg (by omega)]
  rw [if_pos rfl]
theorem HS_10 : HSt f r R (r + 10) = aLong 2000 (fun j => (R.2.2.2.2.2.1 j).2.2.2) := by
  unfold HSt
  rw [if_neg (by omega)]
  rw [if_neg (by omega)]
  rw [if_neg (by omega)]
  rw [if_neg (by omega)]
  rw [if_neg (by omega)]
  rw [if_neg (by omega)]
  rw [if_neg (by omega)]
  rw [if_neg (by omega)]
  rw [if_neg (by omega)]
  rw [if_neg (by omega)]
  rw [if_pos rfl]
theorem HS_11 : HSt f r R (r + 11) = .inr (11, [.ref (r + 12), .ref (r + 13), .ref (r + 14), .ref (r + 15)]) := by
  unfold HSt
  rw [if_neg (by omega)]
  rw [if_neg (by omega)]
  rw [if_neg (by omega)]
  rw [if_neg (by omega)]
  rw [if_neg (by omega)]
  rw [if_neg (by omega)]
  rw [if_neg (by omega)]
  rw [if_neg (by omega)]
  rw [if_neg (by omega)]
  rw [if_neg (by omega)]
  rw [if_neg (by omega)]
  rw [if_pos rfl]
theorem HS_12 : HSt f r R (r + 12) = aInt 12 (fun j => (R.2.2.2.2.2.2.1 j).1) := by
  unfold HSt
  rw [if_neg (by omega)]
  rw [if_neg (by omega)]
  rw [if_neg (by omega)]
  rw [if_neg (by omega)]
  rw [if_neg (by omega)]
  rw [if_neg (by omega)]
  rw [if_neg (by omega)]
  rw [if_neg (by omega)]
  rw [if_neg (by omega)]
  rw [if_neg (by omega)]
  rw [if_neg (by omega)]
  rw [if_neg (by omega)]
  rw [if_pos rfl]
theorem HS_13 : HSt f r R (r + 13) = aInt 12 (fun j => (R.2.2.2.2.2.2.1 j).2.1) := by
  unfold HSt
  rw [if_neg (by omega)]
  rw [if_neg (by omega)]
  rw [if_neg (by omega)]
  rw [if_neg (by omega)]
  rw [if_neg (by omega)]
  rw [if_neg (by omega)]
  rw [if_neg (by omega)]
  rw [if_neg (by omega)]
  rw [if_neg (by omega)]
  rw [if_neg (by omega)]
  rw [if_neg (by omega)]
  rw [if_neg (by omega)]
  rw [if_neg (by omega)]
  rw [if_pos rfl]
theorem HS_14 : HSt f r R (r + 14) = aLong 12 (fun j => (R.2.2.2.2.2.2.1 j).2.2.1) := by
  unfold HSt
  rw [if_neg (by omega)]
  rw [if_neg (by omega)]
  rw [if_neg (by omega)]
  rw [if_neg (by omega)]
  rw [if_neg (by omega)]
  rw [if_neg (by omega)]
  rw [if_neg (by omega)]
  rw [if_neg (by omega)]
  rw [if_neg (by omega)]
  rw [if_neg (by omega)]
  rw [if_neg (by omega)]
  rw [if_neg (by omega)]
  rw [if_neg (by omega)]
  rw [if_neg (by omega)]
  rw [if_pos rfl]
theorem HS_15 : HSt f r R (r + 15) = aLong 12 (fun j => (R.2.2.2.2.2.2.1 j).2.2.2) := by
  unfold HSt
  rw [if_neg (by omega)]
  rw [if_neg (by omega)]
  rw [if_neg (by omega)]
  rw [if_neg (by omega)]
  rw [if_neg (by omega)]
  rw [if_neg (by omega)]
  rw [if_neg (by omega)]
  rw [if_neg (by omega)]
  rw [if_neg (by omega)]
  rw [if_neg (by omega)]
  rw [if_neg (by omega)]
  rw [if_neg (by omega)]
  rw [if_neg (by omega)]
  rw [if_neg (by omega)]
  rw [if_neg (by omega)]
  rw [if_pos rfl]
theorem HS_16 : HSt f r R (r + 16) = .inl (.object "StowTongueModel$Code", 10, R.2.2.2.2.2.2.2.1) := by
  unfold HSt
  rw [if_neg (by omega)]
  rw [if_neg (by omega)]
  rw [if_neg (by omega)]
  rw [if_neg (by omega)]
  rw [if_neg (by omega)]
  rw [if_neg (by omega)]
  rw [if_neg (by omega)]
  rw [if_neg (by omega)]
  rw [if_neg (by omega)]
  rw [if_neg (by omega)]
  rw [if_neg (by omega)]
  rw [if_neg (by omega)]
  rw [if_neg (by omega)]
  rw [if_neg (by omega)]
  rw [if_neg (by omega)]
  rw [if_neg (by omega)]
  rw [if_pos rfl]
theorem HS_off {x : Nat} (h : x < r ∨ r + 16 < x) : HSt f r R x = f x := by
  unfold HSt
  rw [if_neg (by omega)]
  rw [if_neg (by omega)]
  rw [if_neg (by omega)]
  rw [if_neg (by omega)]
  rw [if_neg (by omega)]
  rw [if_neg (by omega)]
  rw [if_neg (by omega)]
  rw [if_neg (by omega)]
  rw [if_neg (by omega)]
  rw [if_neg (by omega)]
  rw [if_neg (by omega)]
  rw [if_neg (by omega)]
  rw [if_neg (by omega)]
  rw [if_neg (by omega)]
  rw [if_neg (by omega)]
  rw [if_neg (by omega)]
  rw [if_neg (by omega)]
theorem HS_in {x : Nat} (h : r ≤ x ∧ x ≤ r + 16) : HSt f r R x = HSt f' r R x := by
  have e : x = r ∨ x = r + 1 ∨ x = r + 2 ∨ x = r + 3 ∨ x = r + 4 ∨ x = r + 5 ∨ x = r + 6 ∨ x = r + 7 ∨ x = r + 8 ∨ x = r + 9 ∨ x = r + 10 ∨ x = r + 11 ∨ x = r + 12 ∨ x = r + 13 ∨ x = r + 14 ∨ x = r + 15 ∨ x = r + 16 := by omega
  rcases e with rfl | rfl | rfl | rfl | rfl | rfl | rfl | rfl | rfl | rfl | rfl | rfl | rfl | rfl | rfl | rfl | rfl
  · rw [HS_0, HS_0]
  · rw [HS_1, HS_1]
  · rw [HS_2, HS_2]
  · rw [HS_3, HS_3]
  · rw [HS_4, HS_4]
  · rw [HS_5, HS_5]
  · rw [HS_6, HS_6]
  · rw [HS_7, HS_7]
  · rw [HS_8, HS_8]
  · rw [HS_9, HS_9]
  · rw [HS_10, HS_10]
  · rw [HS_11, HS_11]
  · rw [HS_12, HS_12]
  · rw [HS_13, HS_13]
  · rw [HS_14, HS_14]
  · rw [HS_15, HS_15]
  · rw [HS_16, HS_16]
theorem HSu_0 {a b c e : Int32} : va_up (HSt f r R) (r) (.inr (13, [.ref (r + 1), .ref (r + 2), .ref (r + 3), .ref (r + 4), .ref (r + 5), .ref (r + 6), .ref (r + 11), .ref (r + 16), .int a, .int b, .int c, .int e])) = HSt f r (R.1, R.2.1, R.2.2.1, R.2.2.2.1, R.2.2.2.2.1, R.2.2.2.2.2.1, R.2.2.2.2.2.2.1, R.2.2.2.2.2.2.2.1, a, b, c, e) := by
  funext x
  by_cases hx : x = r
  · rw [hx, va_up_self, HS_0]
  · rw [va_up_ne _ _ hx]
    by_cases c : r ≤ x ∧ x ≤ r + 16
    · have e : x = r ∨ x = r + 1 ∨ x = r + 2 ∨ x = r + 3 ∨ x = r + 4 ∨ x = r + 5 ∨ x = r + 6 ∨ x = r + 7 ∨ x = r + 8 ∨ x = r + 9 ∨ x = r + 10 ∨ x = r + 11 ∨ x = r + 12 ∨ x = r + 13 ∨ x = r + 14 ∨ x = r + 15 ∨ x = r + 16 := by omega
      rcases e with rfl | rfl | rfl | rfl | rfl | rfl | rfl | rfl | rfl | rfl | rfl | rfl | rfl | rfl | rfl | rfl | rfl
      · exact absurd rfl hx
      · rw [HS_1, HS_1]
      · rw [HS_2, HS_2]
      · rw [HS_3, HS_3]
      · rw [HS_4, HS_4]
      · rw [HS_5, HS_5]
      · rw [HS_6, HS_6]
      · rw [HS_7, HS_7]
      · rw [HS_8, HS_8]
      · rw [HS_9, HS_9]
      · rw [HS_10, HS_10]
      · rw [HS_11, HS_11]
      · rw [HS_12, HS_12]
      · rw [HS_13, HS_13]
      · rw [HS_14, HS_14]
      · rw [HS_15, HS_15]
      · rw [HS_16, HS_16]
    · rw [HS_off (by omega), HS_off (by omega)]
theorem HSu_1 {g : Nat → Int32} : va_up (HSt f r R) (r + 1) (aInt 100 g) = HSt f r (g, R.2.1, R.2.2.1, R.2.2.2.1, R.2.2.2.2.1, R.2.2.2.2.2.1, R.2.2.2.2.2.2.1, R.2.2.2.2.2.2.2.1, R.2.2.2.2.2.2.2.2.1, R.2.2.2.2.2.2.2.2.2.1, R.2.2.2.2.2.2.2.2.2.2.1, R.2.2.2.2.2.2.2.2.2.2.2) := by
  funext x
  by_cases hx : x = r + 1
  · rw [hx, va_up_self, HS_1]
  · rw [va_up_ne _ _ hx]
    by_cases c : r ≤ x ∧ x ≤ r + 16
    · have e : x = r ∨ x = r + 1 ∨ x = r + 2 ∨ x = r + 3 ∨ x = r + 4 ∨ x = r + 5 ∨ x = r + 6 ∨ x = r + 7 ∨ x = r + 8 ∨ x = r + 9 ∨ x = r + 10 ∨ x = r + 11 ∨ x = r + 12 ∨ x = r + 13 ∨ x = r + 14 ∨ x = r + 15 ∨ x = r + 16 := by omega
      rcases e with rfl | rfl | rfl | rfl | rfl | rfl | rfl | rfl | rfl | rfl | rfl | rfl | rfl | rfl | rfl | rfl | rfl
      · rw [HS_0, HS_0]
      · exact absurd rfl hx
      · rw [HS_2, HS_2]
      · rw [HS_3, HS_3]
      · rw [HS_4, HS_4]
      · rw [HS_5, HS_5]
      · rw [HS_6, HS_6]
      · rw [HS_7, HS_7]
      · rw [HS_8, HS_8]
      · rw [HS_9, HS_9]
      · rw [HS_10, HS_10]
      · rw [HS_11, HS_11]
      · rw [HS_12, HS_12]
      · rw [HS_13, HS_13]
      · rw [HS_14, HS_14]
      · rw [HS_15, HS_15]
      · rw [HS_16, HS_16]
    · rw [HS_off (by omega), HS_off (by omega)]
theorem HSu_2 {g : Nat → Int32} : va_up (HSt f r R) (r + 2) (aInt 100 g) = HSt f r (R.1, g, R.2.2.1, R.2.2.2.1, R.2.2.2.2.1, R.2.2.2.2.2.1, R.2.2.2.2.2.2.1, R.2.2.2.2.2.2.2.1, R.2.2.2.2.2.2.2.2.1, R.2.2.2.2.2.2.2.2.2.1, R.2.2.2.2.2.2.2.2.2.2.1, R.2.2.2.2.2.2.2.2.2.2.2) := by
  funext x
  by_cases hx : x = r + 2
  · rw [hx, va_up_self, HS_2]
  · rw [va_up_ne _ _ hx]
    by_cases c : r ≤ x ∧ x ≤ r + 16
    · have e : x = r ∨ x = r + 1 ∨ x = r + 2 ∨ x = r + 3 ∨ x = r + 4 ∨ x = r + 5 ∨ x = r + 6 ∨ x = r + 7 ∨ x = r + 8 ∨ x = r + 9 ∨ x = r + 10 ∨ x = r + 11 ∨ x = r + 12 ∨ x = r + 13 ∨ x = r + 14 ∨ x = r + 15 ∨ x = r + 16 := by omega
      rcases e with rfl | rfl | rfl | rfl | rfl | rfl | rfl | rfl | rfl | rfl | rfl | rfl | rfl | rfl | rfl | rfl | rfl
      · rw [HS_0, HS_0]
      · rw [HS_1, HS_1]
      · exact absurd rfl hx
      · rw [HS_3, HS_3]
      · rw [HS_4, HS_4]
      · rw [HS_5, HS_5]
      · rw [HS_6, HS_6]
      · rw [HS_7, HS_7]
      · rw [HS_8, HS_8]
      · rw [HS_9, HS_9]
      · rw [HS_10, HS_10]
      · rw [HS_11, HS_11]
      · rw [HS_12, HS_12]
      · rw [HS_13, HS_13]
      · rw [HS_14, HS_14]
      · rw [HS_15, HS_15]
      · rw [HS_16, HS_16]
    · rw [HS_off (by omega), HS_off (by omega)]
theorem HSu_3 {g : Nat → Int64} : va_up (HSt f r R) (r + 3) (aLong 800 g) = HSt f r (R.1, R.2.1, g, R.2.2.2.1, R.2.2.2.2.1, R.2.2.2.2.2.1, R.2.2.2.2.2.2.1, R.2.2.2.2.2.2.2.1, R.2.2.2.2.2.2.2.2.1, R.2.2.2.2.2.2.2.2.2.1, R.2.2.2.2.2.2.2.2.2.2.1, R.2.2.2.2.2.2.2.2.2.2.2) := by
  funext x
  by_cases hx : x = r + 3
  · rw [hx, va_up_self, HS_3]
  · rw [va_up_ne _ _ hx]
    by_cases c : r ≤ x ∧ x ≤ r + 16
    · have e : x = r ∨ x = r + 1 ∨ x = r + 2 ∨ x = r + 3 ∨ x = r + 4 ∨ x = r + 5 ∨ x = r + 6 ∨ x = r + 7 ∨ x = r + 8 ∨ x = r + 9 ∨ x = r + 10 ∨ x = r + 11 ∨ x = r + 12 ∨ x = r + 13 ∨ x = r + 14 ∨ x = r + 15 ∨ x = r + 16 := by omega
      rcases e with rfl | rfl | rfl | rfl | rfl | rfl | rfl | rfl | rfl | rfl | rfl | rfl | rfl | rfl | rfl | rfl | rfl
      · rw [HS_0, HS_0]
      · rw [HS_1, HS_1]
      · rw [HS_2, HS_2]
      · exact absurd rfl hx
      · rw [HS_4, HS_4]
      · rw [HS_5, HS_5]
      · rw [HS_6, HS_6]
      · rw [HS_7, HS_7]
      · rw [HS_8, HS_8]
      · rw [HS_9, HS_9]
      · rw [HS_10, HS_10]
      · rw [HS_11, HS_11]
      · rw [HS_12, HS_12]
      · rw [HS_13, HS_13]
      · rw [HS_14, HS_14]
      · rw [HS_15, HS_15]
      · rw [HS_16, HS_16]
    · rw [HS_off (by omega), HS_off (by omega)]
theorem HSu_4 {g : Nat → Int64} : va_up (HSt f r R) (r + 4) (aLong 12 g) = HSt f r (R.1, R.2.1, R.2.2.1, g, R.2.2.2.2.1, R.2.2.2.2.2.1, R.2.2.2.2.2.2.1, R.2.2.2.2.2.2.2.1, R.2.2.2.2.2.2.2.2.1, R.2.2.2.2.2.2.2.2.2.1, R.2.2.2.2.2.2.2.2.2.2.1, R.2.2.2.2.2.2.2.2.2.2.2) := by
  funext x
  by_cases hx : x = r + 4
  · rw [hx, va_up_self, HS_4]
  · rw [va_up_ne _ _ hx]
    by_cases c : r ≤ x ∧ x ≤ r + 16
    · have e : x = r ∨ x = r + 1 ∨ x = r + 2 ∨ x = r + 3 ∨ x = r + 4 ∨ x = r + 5 ∨ x = r + 6 ∨ x = r + 7 ∨ x = r + 8 ∨ x = r + 9 ∨ x = r + 10 ∨ x = r + 11 ∨ x = r + 12 ∨ x = r + 13 ∨ x = r + 14 ∨ x = r + 15 ∨ x = r + 16 := by omega
      rcases e with rfl | rfl | rfl | rfl | rfl | rfl | rfl | rfl | rfl | rfl | rfl | rfl | rfl | rfl | rfl | rfl | rfl
      · rw [HS_0, HS_0]
      · rw [HS_1, HS_1]
      · rw [HS_2, HS_2]
      · rw [HS_3, HS_3]
      · exact absurd rfl hx
      · rw [HS_5, HS_5]
      · rw [HS_6, HS_6]
      · rw [HS_7, HS_7]
      · rw [HS_8, HS_8]
      · rw [HS_9, HS_9]
      · rw [HS_10, HS_10]
      · rw [HS_11, HS_11]
      · rw [HS_12, HS_12]
      · rw [HS_13, HS_13]
      · rw [HS_14, HS_14]
      · rw [HS_15, HS_15]
      · rw [HS_16, HS_16]
    · rw [HS_off (by omega), HS_off (by omega)]
theorem HSu_5 {g : Nat → Int64} : va_up (HSt f r R) (r + 5) (aLong 10 g) = HSt f r (R.1, R.2.1, R.2.2.1, R.2.2.2.1, g, R.2.2.2.2.2.1, R.2.2.2.2.2.2.1, R.2.2.2.2.2.2.2.1, R.2.2.2.2.2.2.2.2.1, R.2.2.2.2.2.2.2.2.2.1, R.2.2.2.2.2.2.2.2.2.2.1, R.2.2.2.2.2.2.2.2.2.2.2) := by
  funext x
  by_cases hx : x = r + 5
  · rw [hx, va_up_self, HS_5]
  · rw [va_up_ne _ _ hx]
    by_cases c : r ≤ x ∧ x ≤ r + 16
    · have e : x = r ∨ x = r + 1 ∨ x = r + 2 ∨ x = r + 3 ∨ x = r + 4 ∨ x = r + 5 ∨ x = r + 6 ∨ x = r + 7 ∨ x = r + 8 ∨ x = r + 9 ∨ x = r + 10 ∨ x = r + 11 ∨ x = r + 12 ∨ x = r + 13 ∨ x = r + 14 ∨ x = r + 15 ∨ x = r + 16 := by omega
      rcases e with rfl | rfl | rfl | rfl | rfl | rfl | rfl | rfl | rfl | rfl | rfl | rfl | rfl | rfl | rfl | rfl | rfl
      · rw [HS_0, HS_0]
      · rw [HS_1, HS_1]
      · rw [HS_2, HS_2]
      · rw [HS_3, HS_3]
      · rw [HS_4, HS_4]
      · exact absurd rfl hx
      · rw [HS_6, HS_6]
      · rw [HS_7, HS_7]
      · rw [HS_8, HS_8]
      · rw [HS_9, HS_9]
      · rw [HS_10, HS_10]
      · rw [HS_11, HS_11]
      · rw [HS_12, HS_12]
      · rw [HS_13, HS_13]
      · rw [HS_14, HS_14]
      · rw [HS_15, HS_15]
      · rw [HS_16, HS_16]
    · rw [HS_off (by omega), HS_off (by omega)]
theorem HSu_7 {g : Nat → Int32} : va_up (HSt f r R) (r + 7) (aInt 2000 g) = HSt f r (R.1, R.2.1, R.2.2.1, R.2.2.2.1, R.2.2.2.2.1, (fun j => (g j, (R.2.2.2.2.2.1 j).2)), R.2.2.2.2.2.2.1, R.2.2.2.2.2.2.2.1, R.2.2.2.2.2.2.2.2.1, R.2.2.2.2.2.2.2.2.2.1, R.2.2.2.2.2.2.2.2.2.2.1, R.2.2.2.2.2.2.2.2.2.2.2) := by
  funext x
  by_cases hx : x = r + 7
  · rw [hx, va_up_self, HS_7]
  · rw [va_up_ne _ _ hx]
    by_cases c : r ≤ x ∧ x ≤ r + 16
    · have e : x = r ∨ x = r + 1 ∨ x = r + 2 ∨ x = r + 3 ∨ x = r + 4 ∨ x = r + 5 ∨ x = r + 6 ∨ x = r + 7 ∨ x = r + 8 ∨ x = r + 9 ∨ x = r + 10 ∨ x = r + 11 ∨ x = r + 12 ∨ x = r + 13 ∨ x = r + 14 ∨ x = r + 15 ∨ x = r + 16 := by omega
      rcases e with rfl | rfl | rfl | rfl | rfl | rfl | rfl | rfl | rfl | rfl | rfl | rfl | rfl | rfl | rfl | rfl | rfl
      · rw [HS_0, HS_0]
      · rw [HS_1, HS_1]
      · rw [HS_2, HS_2]
      · rw [HS_3, HS_3]
      · rw [HS_4, HS_4]
      · rw [HS_5, HS_5]
      · rw [HS_6, HS_6]
      · exact absurd rfl hx
      · rw [HS_8, HS_8]
      · rw [HS_9, HS_9]
      · rw [HS_10, HS_10]
      · rw [HS_11, HS_11]
      · rw [HS_12, HS_12]
      · rw [HS_13, HS_13]
      · rw [HS_14, HS_14]
      · rw [HS_15, HS_15]
      · rw [HS_16, HS_16]
    · rw [HS_off (by omega), HS_off (by omega)]
theorem HSu_8 {g : Nat → Int32} : va_up (HSt f r R) (r + 8) (aInt 2000 g) = HSt f r (R.1, R.2.1, R.2.2.1, R.2.2.2.1, R.2.2.2.2.1, (fun j => ((R.2.2.2.2.2.1 j).1, g j, (R.2.2.2.2.2.1 j).2.2)), R.2.2.2.2.2.2.1, R.2.2.2.2.2.2.2.1, R.2.2.2.2.2.2.2.2.1, R.2.2.2.2.2.2.2.2.2.1, R.2.2.2.2.2.2.2.2.2.2.1, R.2.2.2.2.2.2.2.2.2.2.2) := by
  funext x
  by_cases hx : x = r + 8
  · rw [hx, va_up_self, HS_8]
  · rw [va_up_ne _ _ hx]
    by_cases c : r ≤ x ∧ x ≤ r + 16
    · have e : x = r ∨ x = r + 1 ∨ x = r + 2 ∨ x = r + 3 ∨ x = r + 4 ∨ x = r + 5 ∨ x = r + 6 ∨ x = r + 7 ∨ x = r + 8 ∨ x = r + 9 ∨ x = r + 10 ∨ x = r + 11 ∨ x = r + 12 ∨ x = r + 13 ∨ x = r + 14 ∨ x = r + 15 ∨ x = r + 16 := by omega
      rcases e with rfl | rfl | rfl | rfl | rfl | rfl | rfl | rfl | rfl | rfl | rfl | rfl | rfl | rfl | rfl | rfl | rfl
      · rw [HS_0, HS_0]
      · rw [HS_1, HS_1]
      · rw [HS_2, HS_2]
      · rw [HS_3, HS_3]
      · rw [HS_4, HS_4]
      · rw [HS_5, HS_5]
      · rw [HS_6, HS_6]
      · rw [HS_7, HS_7]
      · exact absurd rfl hx
      · rw [HS_9, HS_9]
      · rw [HS_10, HS_10]
      · rw [HS_11, HS_11]
      · rw [HS_12, HS_12]
      · rw [HS_13, HS_13]
      · rw [HS_14, HS_14]
      · rw [HS_15, HS_15]
      · rw [HS_16, HS_16]
    · rw [HS_off (by omega), HS_off (by omega)]
theorem HSu_9 {g : Nat → Int64} : va_up (HSt f r R) (r + 9) (aLong 2000 g) = HSt f r (R.1, R.2.1, R.2.2.1, R.2.2.2.1, R.2.2.2.2.1, (fun j => ((R.2.2.2.2.2.1 j).1, (R.2.2.2.2.2.1 j).2.1, g j, (R.2.2.2.2.2.1 j).2.2.2)), R.2.2.2.2.2.2.1, R.2.2.2.2.2.2.2.1, R.2.2.2.2.2.2.2.2.1, R.2.2.2.2.2.2.2.2.2.1, R.2.2.2.2.2.2.2.2.2.2.1, R.2.2.2.2.2.2.2.2.2.2.2) := by
  funext x
  by_cases hx : x = r + 9
  · rw [hx, va_up_self, HS_9]
  · rw [va_up_ne _ _ hx]
    by_cases c : r ≤ x ∧ x ≤ r + 16
    · have e : x = r ∨ x = r + 1 ∨ x = r + 2 ∨ x = r + 3 ∨ x = r + 4 ∨ x = r + 5 ∨ x = r + 6 ∨ x = r + 7 ∨ x = r + 8 ∨ x = r + 9 ∨ x = r + 10 ∨ x = r + 11 ∨ x = r + 12 ∨ x = r + 13 ∨ x = r + 14 ∨ x = r + 15 ∨ x = r + 16 := by omega
      rcases e with rfl | rfl | rfl | rfl | rfl | rfl | rfl | rfl | rfl | rfl | rfl | rfl | rfl | rfl | rfl | rfl | rfl
      · rw [HS_0, HS_0]
      · rw [HS_1, HS_1]
      · rw [HS_2, HS_2]
      · rw [HS_3, HS_3]
      · rw [HS_4, HS_4]
      · rw [HS_5, HS_5]
      · rw [HS_6, HS_6]
      · rw [HS_7, HS_7]
      · rw [HS_8, HS_8]
      · exact absurd rfl hx
      · rw [HS_10, HS_10]
      · rw [HS_11, HS_11]
      · rw [HS_12, HS_12]
      · rw [HS_13, HS_13]
      · rw [HS_14, HS_14]
      · rw [HS_15, HS_15]
      · rw [HS_16, HS_16]
    · rw [HS_off (by omega), HS_off (by omega)]
theorem HSu_10 {g : Nat → Int64} : va_up (HSt f r R) (r + 10) (aLong 2000 g) = HSt f r (R.1, R.2.1, R.2.2.1, R.2.2.2.1, R.2.2.2.2.1, (fun j => ((R.2.2.2.2.2.1 j).1, (R.2.2.2.2.2.1 j).2.1, (R.2.2.2.2.2.1 j).2.2.1, g j)), R.2.2.2.2.2.2.1, R.2.2.2.2.2.2.2.1, R.2.2.2.2.2.2.2.2.1, R.2.2.2.2.2.2.2.2.2.1, R.2.2.2.2.2.2.2.2.2.2.1, R.2.2.2.2.2.2.2.2.2.2.2) := by
  funext x
  by_cases hx : x = r + 10
  · rw [hx, va_up_self, HS_10]
  · rw [va_up_ne _ _ hx]
    by_cases c : r ≤ x ∧ x ≤ r + 16
    · have e : x = r ∨ x = r + 1 ∨ x = r + 2 ∨ x = r + 3 ∨ x = r + 4 ∨ x = r + 5 ∨ x = r + 6 ∨ x = r + 7 ∨ x = r + 8 ∨ x = r + 9 ∨ x = r + 10 ∨ x = r + 11 ∨ x = r + 12 ∨ x = r + 13 ∨ x = r + 14 ∨ x = r + 15 ∨ x = r + 16 := by omega
      rcases e with rfl | rfl | rfl | rfl | rfl | rfl | rfl | rfl | rfl | rfl | rfl | rfl | rfl | rfl | rfl | rfl | rfl
      · rw [HS_0, HS_0]
      · rw [HS_1, HS_1]
      · rw [HS_2, HS_2]
      · rw [HS_3, HS_3]
      · rw [HS_4, HS_4]
      · rw [HS_5, HS_5]
      · rw [HS_6, HS_6]
      · rw [HS_7, HS_7]
      · rw [HS_8, HS_8]
      · rw [HS_9, HS_9]
      · exact absurd rfl hx
      · rw [HS_11, HS_11]
      · rw [HS_12, HS_12]
      · rw [HS_13, HS_13]
      · rw [HS_14, HS_14]
      · rw [HS_15, HS_15]
      · rw [HS_16, HS_16]
    · rw [HS_off (by omega), HS_off (by omega)]
theorem HSu_16 {g : Nat → Value} : va_up (HSt f r R) (r + 16) (.inl (.object "StowTongueModel$Code", 10, g)) = HSt f r (R.1, R.2.1, R.2.2.1, R.2.2.2.1, R.2.2.2.2.1, R.2.2.2.2.2.1, R.2.2.2.2.2.2.1, g, R.2.2.2.2.2.2.2.2.1, R.2.2.2.2.2.2.2.2.2.1, R.2.2.2.2.2.2.2.2.2.2.1, R.2.2.2.2.2.2.2.2.2.2.2) := by
  funext x
  by_cases hx : x = r + 16
  · rw [hx, va_up_self, HS_16]
  · rw [va_up_ne _ _ hx]
    by_cases c : r ≤ x ∧ x ≤ r + 16
    · have e : x = r ∨ x = r + 1 ∨ x = r + 2 ∨ x = r + 3 ∨ x = r + 4 ∨ x = r + 5 ∨ x = r + 6 ∨ x = r + 7 ∨ x = r + 8 ∨ x = r + 9 ∨ x = r + 10 ∨ x = r + 11 ∨ x = r + 12 ∨ x = r + 13 ∨ x = r + 14 ∨ x = r + 15 ∨ x = r + 16 := by omega
      rcases e with rfl | rfl | rfl | rfl | rfl | rfl | rfl | rfl | rfl | rfl | rfl | rfl | rfl | rfl | rfl | rfl | rfl
      · rw [HS_0, HS_0]
      · rw [HS_1, HS_1]
      · rw [HS_2, HS_2]
      · rw [HS_3, HS_3]
      · rw [HS_4, HS_4]
      · rw [HS_5, HS_5]
      · rw [HS_6, HS_6]
      · rw [HS_7, HS_7]
      · rw [HS_8, HS_8]
      · rw [HS_9, HS_9]
      · rw [HS_10, HS_10]
      · rw [HS_11, HS_11]
      · rw [HS_12, HS_12]
      · rw [HS_13, HS_13]
      · rw [HS_14, HS_14]
      · rw [HS_15, HS_15]
      · exact absurd rfl hx
    · rw [HS_off (by omega), HS_off (by omega)]
theorem HSu_v {q : Nat → VQ} : vUp (HSt f r R) (r + 11) 12 q = HSt f r (R.1, R.2.1, R.2.2.1, R.2.2.2.1, R.2.2.2.2.1, R.2.2.2.2.2.1, q, R.2.2.2.2.2.2.2.1, R.2.2.2.2.2.2.2.2.1, R.2.2.2.2.2.2.2.2.2.1, R.2.2.2.2.2.2.2.2.2.2.1, R.2.2.2.2.2.2.2.2.2.2.2) := by
  funext x
  unfold vUp
  by_cases c : r ≤ x ∧ x ≤ r + 16
  · have e : x = r ∨ x = r + 1 ∨ x = r + 2 ∨ x = r + 3 ∨ x = r + 4 ∨ x = r + 5 ∨ x = r + 6 ∨ x = r + 7 ∨ x = r + 8 ∨ x = r + 9 ∨ x = r + 10 ∨ x = r + 11 ∨ x = r + 12 ∨ x = r + 13 ∨ x = r + 14 ∨ x = r + 15 ∨ x = r + 16 := by omega
    rcases e with rfl | rfl | rfl | rfl | rfl | rfl | rfl | rfl | rfl | rfl | rfl | rfl | rfl | rfl | rfl | rfl | rfl
    · rw [va_up_ne _ _ (by omega), va_up_ne _ _ (by omega), va_up_ne _ _ (by omega), va_up_ne _ _ (by omega), HS_0, HS_0]
    · rw [va_up_ne _ _ (by omega), va_up_ne _ _ (by omega), va_up_ne _ _ (by omega), va_up_ne _ _ (by omega), HS_1, HS_1]
    · rw [va_up_ne _ _ (by omega), va_up_ne _ _ (by omega), va_up_ne _ _ (by omega), va_up_ne _ _ (by omega), HS_2, HS_2]
    · rw [va_up_ne _ _ (by omega), va_up_ne _ _ (by omega), va_up_ne _ _ (by omega), va_up_ne _ _ (by omega), HS_3, HS_3]
    · rw [va_up_ne _ _ (by omega), va_up_ne _ _ (by omega), va_up_ne _ _ (by omega), va_up_ne _ _ (by omega), HS_4, HS_4]
    · rw [va_up_ne _ _ (by omega), va_up_ne _ _ (by omega), va_up_ne _ _ (by omega), va_up_ne _ _ (by omega), HS_5, HS_5]
    · rw [va_up_ne _ _ (by omega), va_up_ne _ _ (by omega), va_up_ne _ _ (by omega), va_up_ne _ _ (by omega), HS_6, HS_6]
    · rw [va_up_ne _ _ (by omega), va_up_ne _ _ (by omega), va_up_ne _ _ (by omega), va_up_ne _ _ (by omega), HS_7, HS_7]
    · rw [va_up_ne _ _ (by omega), va_up_ne _ _ (by omega), va_up_ne _ _ (by omega), va_up_ne _ _ (by omega), HS_8, HS_8]
    · rw [va_up_ne _ _ (by omega), va_up_ne _ _ (by omega), va_up_ne _ _ (by omega), va_up_ne _ _ (by omega), HS_9, HS_9]
    · rw [va_up_ne _ _ (by omega), va_up_ne _ _ (by omega), va_up_ne _ _ (by omega), va_up_ne _ _ (by omega), HS_10, HS_10]
    · rw [va_up_ne _ _ (by omega), va_up_ne _ _ (by omega), va_up_ne _ _ (by omega), va_up_ne _ _ (by omega), HS_11, HS_11]
    · rw [va_up_ne _ _ (by omega), va_up_ne _ _ (by omega), va_up_ne _ _ (by omega), va_up_self, HS_12]
    · rw [va_up_ne _ _ (by omega), va_up_ne _ _ (by omega), va_up_self, HS_13]
    · rw [va_up_ne _ _ (by omega), va_up_self, HS_14]
    · rw [va_up_self, HS_15]
    · rw [va_up_ne _ _ (by omega), va_up_ne _ _ (by omega), va_up_ne _ _ (by omega), va_up_ne _ _ (by omega), HS_16, HS_16]
  · rw [va_up_ne _ _ (by omega), va_up_ne _ _ (by omega), va_up_ne _ _ (by omega), va_up_ne _ _ (by omega), HS_off (by omega), HS_off (by omega)]
def RSt (f : Nat → am_C) (r : Nat) (R : RS) : Prop := HSt f r R = f
theorem RSt.eq (h : RSt f r R) : f = HSt f r R := Eq.symm h
theorem RSt.keep (h : RSt f r R) (hf : ∀ x, r ≤ x → x ≤ r + 16 → f' x = f x) : RSt f' r R := by
  funext x
  by_cases c : r ≤ x ∧ x ≤ r + 16
  · rw [HS_in (f' := f) c, show HSt f r R x = f x from congrFun h x, hf x c.1 c.2]
  · exact HS_off (by omega)
theorem RSt.mk : RSt (HSt f r R) r R := by
  funext x
  by_cases c : r ≤ x ∧ x ≤ r + 16
  · exact HS_in c
  · exact HS_off (by omega)
end
