theorem HL_no {f : Nat → am_C} {k : Nat} : ∀ {l : List (Nat × am_C)}, lhas k l = false → HL l f k = f k
  | [], _ => rfl
  | (a, c) :: l, h => by
    rw [lhas_c] at h
    by_cases q : a = k
    · rw [if_pos q] at h
      exact absurd h (by decide)
    · rw [if_neg q] at h
      rw [HL_c, if_neg (fun w => q w.symm), HL_no h]
section
variable {cr z N j : Nat} {E : RE} {y : RA} {ty : FieldType} {g : Nat → Value} {v : Value}
theorem PM_at (h : EOR cr E) (hz : (170 ≤ z ∧ z ≤ 176) ∨ z = 185) : PM cr E y z = re_f E z := by
  obtain ⟨_, _, h3, _⟩ := h
  have key : lhas z ((160, mdS (re_tm E) (re_om E) (re_L E) (ra_b y) (rLs cr E y)) :: (184, aLong 1500 (ra_l y)) :: (186, aInt 1500 (ra_u y)) :: (cr, cdC cr E (ra_m y) (ra_v y)) :: (cr + 1, aInt 6000 (ra_s y)) :: vaL (cr + 2) 1500 (ra_q y)) = false := by
    rcases h3 with rfl | rfl <;> (rcases hz with ⟨h1, h2⟩ | rfl <;> (unfold vaL; simp only [lhas]; repeat rw [if_neg (by omega)]))
  exact HL_no key
/-- into an array of what is told -/
theorem y_tS (h : EOR cr E) (hz : (170 ≤ z ∧ z ≤ 176) ∨ z = 185) (e : re_f E z = .inl (ty, N, g)) (hj : j < N) (hN : N < 2 ^ 31) : sV (pm cr E y) ty z (nI j) v = some (pm cr (reF E z (.inl (ty, N, updV g j v))) y) := by
  have b := cl0 (show j < 2 ^ 31 by omega)
  have hn := h.2.1
  rw [sV_of (s := pm cr E y) ((PM_at h hz).trans e) (by omega) (by show z < re_n E; omega) b.1 (by rw [b.2]; exact hj), b.2]
  exact congrArg (fun F => some (re_n E, F, re_u E)) (PM_off h hz)
end
