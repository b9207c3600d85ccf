section
variable {cr n : Nat} {E : RE} {y : RA} {g : Nat → Int64}
/-- the LOCALS put by, and taken again -/
theorem y_save (h : EOR cr E) (e : re_f E 185 = aLong 1500 g) (ht : n ≤ 1500) : cpA (pm cr E y) 184 0 185 0 (nI n) = some (pm cr (reF E 185 (aLong 1500 fun j => if j < n then ra_l y j else g j)) y) := by
  have hn := h.2.1
  have hn' : 1311 ≤ (pm cr E y).1 := hn
  rw [cpL_of (s := pm cr E y) (P184 (cr := cr) (E := E) (y := y)) ((PM_at h (Or.inr rfl)).trans e) ⟨by decide, by omega⟩ ⟨by decide, by omega⟩ ht ht (by omega)]
  exact congrArg (fun F => some (re_n E, F, re_u E)) (PM_off h (Or.inr rfl))
theorem y_load (h : EOR cr E) (e : re_f E 185 = aLong 1500 g) (ht : n ≤ 1500) : cpA (pm cr E y) 185 0 184 0 (nI n) = some (pm cr E (y.1, y.2.1, (ra_t y, fun j => if j < n then g j else ra_l y j), y.2.2.2)) := by
  have hn := h.2.1
  have hn' : 1311 ≤ (pm cr E y).1 := hn
  rw [cpL_of (s := pm cr E y) ((PM_at h (Or.inr rfl)).trans e) (P184 (cr := cr) (E := E) (y := y)) ⟨by decide, by omega⟩ ⟨by decide, by omega⟩ ht ht (by omega)]
  exact congrArg (fun F => some (re_n E, F, re_u E)) (HL_up rfl)
end
