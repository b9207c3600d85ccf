/-! the reference's parser turns to the other Code -/
theorem HL_same {f : Nat → am_C} : ∀ {l : List (Nat × am_C)}, (∀ kc, kc ∈ l → f kc.1 = kc.2) → HL l f = f
  | [], _ => rfl
  | (a, c) :: l, h => by
    have ih := HL_same (f := f) (l := l) (fun kc hk => h kc (List.mem_cons_of_mem _ hk))
    have h0 : f a = c := h (a, c) List.mem_cons_self
    funext w
    rw [HL_c, ih]
    by_cases q : w = a
    · rw [if_pos q, q, h0]
    · rw [if_neg q]
section
variable {cr cr' m v : Nat} {E : RE} {y : RA} {k : Int32 × Int32 × Int32 × Int32 × Int32 × Int32} {sp : Nat → Int32} {q : Nat → VQ}
/-- all there is now as what was there, with the other Code's six numbers -/
abbrev reT (cr : Nat) (E : RE) (y : RA) (k : Int32 × Int32 × Int32 × Int32 × Int32 × Int32) : RE := (E.1, E.2.1, (re_n E, re_u E, PM cr E y), k, re_R E)
abbrev raT (y : RA) (m v : Nat) (sp : Nat → Int32) (q : Nat → VQ) : RA := (y.1, (m, v, sp, q), y.2.2)
/-- the other Code, at rest -/
def CRest (cr' : Nat) (E : RE) (k : Int32 × Int32 × Int32 × Int32 × Int32 × Int32) (m v : Nat) (sp : Nat → Int32) (q : Nat → VQ) : Prop := ∀ kc, kc ∈ (cr', cdC cr' (E.1, E.2.1, E.2.2.1, k, re_R E) m v) :: (cr' + 1, aInt 6000 sp) :: vaL (cr' + 2) 1500 q → re_f E kc.1 = kc.2
theorem PM_turn (hc : (cr = 163 ∧ cr' = 177) ∨ (cr = 177 ∧ cr' = 163)) (R : CRest cr' E k m v sp q) : va_up (PM cr E y) 160 (mdS (re_tm E) (re_om E) (re_L E) (ra_b y) (rLs cr' E y)) = PM cr' (reT cr E y k) (raT y m v sp q) := by
  have key : ∀ kc, kc ∈ (184, aLong 1500 (ra_l y)) :: (186, aInt 1500 (ra_u y)) :: (cr', cdC cr' (reT cr E y k) m v) :: (cr' + 1, aInt 6000 sp) :: vaL (cr' + 2) 1500 q → PM cr E y kc.1 = kc.2 := by
    intro kc hk
    rcases List.mem_cons.mp hk with rfl | hk
    · rfl
    · rcases List.mem_cons.mp hk with rfl | hk
      · rfl
      · have e := R kc hk
        rw [← e]
        have ids : kc.1 = cr' ∨ kc.1 = cr' + 1 ∨ kc.1 = cr' + 2 ∨ kc.1 = cr' + 2 + 1 ∨ kc.1 = cr' + 2 + 2 ∨ kc.1 = cr' + 2 + 3 ∨ kc.1 = cr' + 2 + 4 := by
          unfold vaL at hk
          simp only [List.mem_cons, List.not_mem_nil, or_false] at hk
          rcases hk with rfl | rfl | rfl | rfl | rfl | rfl | rfl
          · exact Or.inl rfl
          · exact Or.inr (Or.inl rfl)
          · exact Or.inr (Or.inr (Or.inl rfl))
          · exact Or.inr (Or.inr (Or.inr (Or.inl rfl)))
          · exact Or.inr (Or.inr (Or.inr (Or.inr (Or.inl rfl))))
          · exact Or.inr (Or.inr (Or.inr (Or.inr (Or.inr (Or.inl rfl)))))
          · exact Or.inr (Or.inr (Or.inr (Or.inr (Or.inr (Or.inr rfl)))))
        generalize kc.1 = w at ids
        rcases hc with ⟨rfl, rfl⟩ | ⟨rfl, rfl⟩ <;> (rcases ids with rfl | rfl | rfl | rfl | rfl | rfl | rfl <;> rfl)
  have e := HL_same key
  funext w
  show _ = HL ((160, _) :: (184, aLong 1500 (ra_l y)) :: (186, aInt 1500 (ra_u y)) :: (cr', cdC cr' (reT cr E y k) m v) :: (cr' + 1, aInt 6000 sp) :: vaL (cr' + 2) 1500 q) (PM cr E y) w
  rw [HL_c, e]
  by_cases q' : w = 160
  · rw [if_pos q', q', va_up_self]
    rfl
  · rw [if_neg q', va_up_ne _ _ q']
end
