/-! the reference's heap beside its parser: the arrays of what is told, and the other Code -/
theorem HL_off {f : Nat → am_C} {k : Nat} {v : am_C} : ∀ {l : List (Nat × am_C)}, lhas k l = false → va_up (HL l f) k v = HL l (va_up f k v)
  | [], _ => rfl
  | (a, c) :: l, h => by
    have hs : ¬ k = a ∧ lhas k l = false := by
      rw [lhas_c] at h
      by_cases q : a = k
      · rw [if_pos q] at h
        exact absurd h (by decide)
      · rw [if_neg q] at h
        exact ⟨fun w => q w.symm, h⟩
    funext w
    have ih := congrFun (HL_off (f := f) (k := k) (v := v) hs.2) w
    rw [HL_c]
    by_cases q : w = k
    · subst q
      rw [if_neg hs.1, ← ih, va_up_self, va_up_self]
    · rw [va_up_ne _ _ q, HL_c] 
      by_cases q2 : w = a
      · rw [if_pos q2, if_pos q2]
      · rw [if_neg q2, if_neg q2, ← ih, va_up_ne _ _ q]
section
variable {cr : Nat} {E : RE} {y : RA} {z : Nat} {C : am_C}
abbrev reF (E : RE) (z : Nat) (C : am_C) : RE := (E.1, E.2.1, (re_n E, re_u E, va_up (re_f E) z C), E.2.2.2)
/-- a cell of what is told, or of the LOCALS put by -/
theorem PM_off (h : EOR cr E) (hz : (170 ≤ z ∧ z ≤ 176) ∨ z = 185) : va_up (PM cr E y) z C = PM cr (reF E z C) y := by
  obtain ⟨_, _, h3, _⟩ := h
  have key : lhas z ((160, mdS (re_tm E) (re_om E) (re_L E) (ra_b y) (rLs cr E y)) :: (184, aLong 1500 (ra_l y)) :: (186, aInt 1500 (ra_u y)) :: (cr, cdC cr E (ra_m y) (ra_v y)) :: (cr + 1, aInt 6000 (ra_s y)) :: vaL (cr + 2) 1500 (ra_q y)) = false := by
    rcases h3 with rfl | rfl <;> (rcases hz with ⟨h1, h2⟩ | rfl <;> (unfold vaL; simp only [lhas]; repeat rw [if_neg (by omega)]))
  exact HL_off key
theorem EOR.off (h : EOR cr E) (hz : (170 ≤ z ∧ z ≤ 176) ∨ z = 185) : EOR cr (reF E z C) := ⟨h.1, h.2.1, h.2.2.1, (va_up_ne _ _ (by omega)).trans h.2.2.2⟩
end
