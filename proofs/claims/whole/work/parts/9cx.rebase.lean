/-! the class's parser, begun anew where it is: for the Draft of a function, and back -/
section
variable {E1 : CE} {cr : Nat} {E2 : RE} {w0 : W2} {u q : Nat} {T : TKc} {t : TKr} {x : CA} {y : RA} {s : HS}
/-- the same state, with all there is now as what was there -/
theorem kc_rebase (e : EOK E1) (V : KC E1 s x) : ∃ E' : CE, EOK E' ∧ KC E' s x ∧ (ce_L E' = ce_L E1 ∧ ce_g E' = ce_g E1 ∧ ce_w E' = ce_w E1 ∧ ce_d E' = ce_d E1 ∧ ce_p E' = ce_p E1) ∧ ce_n E' = s.1 ∧ ce_u E' = s.2.2 ∧ ce_f E' = s.2.1 ∧ (ce_c0 E' = ce_c0 E1 ∨ ce_n E1 ≤ ce_c0 E') ∧ (ce_p0 E' = ce_p0 E1 ∨ ce_n E1 ≤ ce_p0 E') ∧ (ce_l0 E' = ce_l0 E1 ∨ ce_n E1 ≤ ce_l0 E') ∧ s.2.2 + 2 * ce_N E1 = ce_u E1 + 2 * ce_N E' ∧ 16 * s.1 + ce_N E1 ≤ 16 * ce_n E1 + ce_N E' := by
  obtain ⟨e1, e2, e3, e4, e5, e6, e7, e8, e9⟩ := e
  obtain ⟨c, p, l, Nc, Np, Nl, co, po, lo, h1, h2, h3, h4, h5, h6, h7, h8, h9, h10, h11⟩ := V
  refine ⟨(ce_L E1, ce_g E1, ce_w E1, (s.1, s.2.2, s.2.1), (ce_d E1, ce_p E1), (c, p, l), (Nc, Np, Nl)), ⟨e1, e2, e3, ?_, e5, ?_, ?_, ?_, ?_⟩, ⟨c, p, l, Nc, Np, Nl, co, po, lo, h1, h2, h3, h4, h5, ⟨Or.inl rfl, Or.inl rfl, Or.inl rfl⟩, Nat.le_refl _, fun z _ _ _ _ _ _ _ => rfl, ⟨rfl, Nat.le_refl _⟩, h10, h11⟩, ⟨rfl, rfl, rfl, rfl, rfl⟩, rfl, rfl, rfl, h6.1, h6.2.1, h6.2.2, h9.1, h9.2⟩
  · show 1311 ≤ s.1
    omega
  · show 134 < c
    omega
  · show 134 < p
    omega
  · show 134 < l
    omega
  · show ce_d E1 < s.1
    omega
theorem JJ.rebase {E' : CE} (J : JJ E1 cr E2 w0 u q T t x y) (e : EOK E') (hL : ce_L E' = ce_L E1) (hg : ce_g E' = ce_g E1) : JJ E' cr E2 w0 u q T t x y := by
  obtain ⟨⟨k1, k2, k3, k4⟩, k5⟩ := J
  refine ⟨⟨e, k2, k3.trans hL.symm, k4.trans hg.symm⟩, ?_⟩
  rw [hL, hg]
  exact k5
end
