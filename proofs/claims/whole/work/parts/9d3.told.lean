section
variable {cr cr' m v : Nat} {E : RE} {y : RA} {k : Int32 × Int32 × Int32 × Int32 × Int32 × Int32} {sp : Nat → Int32} {q : Nat → VQ} {w : Int32}
abbrev reTd (E : RE) (v : Int32) : RE := (E.1, (re_tm E, re_om E, v), E.2.2)
theorem y_20 (h : EOR cr E) : gI (pm cr E y) 160 14 20 = some (re_td E) := gI_of (s := pm cr E y) (P160 (cr := cr) (E := E) (y := y)) (by decide) (Nat.lt_of_lt_of_le (by decide) h.2.1) rfl
theorem y_12 (h : EOR cr E) : gR (pm cr E y) 160 14 12 = some 163 := gR_of (s := pm cr E y) (P160 (cr := cr) (E := E) (y := y)) (by decide) (Nat.lt_of_lt_of_le (by decide) h.2.1) rfl
theorem y_13 (h : EOR cr E) : gR (pm cr E y) 160 14 13 = some 170 := gR_of (s := pm cr E y) (P160 (cr := cr) (E := E) (y := y)) (by decide) (Nat.lt_of_lt_of_le (by decide) h.2.1) rfl
theorem y_14 (h : EOR cr E) : gR (pm cr E y) 160 14 14 = some 171 := gR_of (s := pm cr E y) (P160 (cr := cr) (E := E) (y := y)) (by decide) (Nat.lt_of_lt_of_le (by decide) h.2.1) rfl
theorem y_15 (h : EOR cr E) : gR (pm cr E y) 160 14 15 = some 172 := gR_of (s := pm cr E y) (P160 (cr := cr) (E := E) (y := y)) (by decide) (Nat.lt_of_lt_of_le (by decide) h.2.1) rfl
theorem y_16 (h : EOR cr E) : gR (pm cr E y) 160 14 16 = some 173 := gR_of (s := pm cr E y) (P160 (cr := cr) (E := E) (y := y)) (by decide) (Nat.lt_of_lt_of_le (by decide) h.2.1) rfl
theorem y_17 (h : EOR cr E) : gR (pm cr E y) 160 14 17 = some 174 := gR_of (s := pm cr E y) (P160 (cr := cr) (E := E) (y := y)) (by decide) (Nat.lt_of_lt_of_le (by decide) h.2.1) rfl
theorem y_18 (h : EOR cr E) : gR (pm cr E y) 160 14 18 = some 175 := gR_of (s := pm cr E y) (P160 (cr := cr) (E := E) (y := y)) (by decide) (Nat.lt_of_lt_of_le (by decide) h.2.1) rfl
theorem y_19 (h : EOR cr E) : gR (pm cr E y) 160 14 19 = some 176 := gR_of (s := pm cr E y) (P160 (cr := cr) (E := E) (y := y)) (by decide) (Nat.lt_of_lt_of_le (by decide) h.2.1) rfl
theorem y_21 (h : EOR cr E) : gR (pm cr E y) 160 14 21 = some 177 := gR_of (s := pm cr E y) (P160 (cr := cr) (E := E) (y := y)) (by decide) (Nat.lt_of_lt_of_le (by decide) h.2.1) rfl
theorem y_26 (h : EOR cr E) : gR (pm cr E y) 160 14 26 = some 185 := gR_of (s := pm cr E y) (P160 (cr := cr) (E := E) (y := y)) (by decide) (Nat.lt_of_lt_of_le (by decide) h.2.1) rfl
theorem y_p20 (h : EOR cr E) : pV (pm cr E y) 160 14 20 (.int w) = some (pm cr (reTd E w) y) := by
  rw [pV_of (s := pm cr E y) (P160 (cr := cr) (E := E) (y := y)) (by decide) (Nat.lt_of_lt_of_le (by decide) h.2.1) (by simp [rLs])]
  exact congrArg (fun F => some (re_n E, F, re_u E)) (HL_up rfl)
theorem y_turn (h : EOR cr E) (hc : (cr = 163 ∧ cr' = 177) ∨ (cr = 177 ∧ cr' = 163)) (R : CRest cr' E k m v sp q) : pV (pm cr E y) 160 14 22 (.ref cr') = some (pm cr' (reT cr E y k) (raT y m v sp q)) := by
  rw [pV_of (s := pm cr E y) (P160 (cr := cr) (E := E) (y := y)) (by decide) (Nat.lt_of_lt_of_le (by decide) h.2.1) (by simp [rLs])]
  refine congrArg (fun F => some (re_n E, F, re_u E)) ?_
  rw [← PM_turn hc R]
  rfl
theorem EOR.turn (h : EOR cr E) (hc : (cr = 163 ∧ cr' = 177) ∨ (cr = 177 ∧ cr' = 163)) : EOR cr' (reT cr E y k) := ⟨h.1, h.2.1, by omega, P161 h⟩
end
