/-! and back -/
section
variable {E' : CE} {d : Nat} {x' : CA} {s : HS}
abbrev caOld (x' : CA) (h kk tt : Nat) (co : Nat → Int32) (po lo : Nat → Int64) : CA := (ca_a x', ca_f x', ca_s x', h, kk, tt, co, po, lo)
theorem kc_back {k c p l h kk tt Nc Np Nl : Nat} {co : Nat → Int32} {po lo : Nat → Int64} (e : EOK E') (V : KC E' s x') (M : DR (ce_n E') (ce_f E') k c p l (2 * h) kk tt Nc Np Nl co po lo) (B2 : 16 ≤ Nc ∧ 16 ≤ Np ∧ 16 ≤ Nl) (B3 : Nc ≤ 65536 ∧ Np ≤ 65536 ∧ Nl ≤ 65536) (hd : ∀ z, z = k ∨ z = c ∨ z = p ∨ z = l → 134 < z ∧ z ≠ ce_d E' ∧ z ≠ ce_c0 E' ∧ z ≠ ce_p0 E' ∧ z ≠ ce_l0 E') : ∃ (s2 : HS) (E3 : CE) (cb pb lb Nb : Nat), pV s 132 5 3 (.ref k) = some s2 ∧ EOK E3 ∧ KC E3 s2 (caOld x' h kk tt co po lo) ∧ (ce_L E3 = ce_L E' ∧ ce_g E3 = ce_g E' ∧ ce_w E3 = ce_w E' ∧ ce_d E3 = k ∧ ce_p E3 = ce_p E') ∧ (ce_c0 E3 = c ∧ ce_p0 E3 = p ∧ ce_l0 E3 = l ∧ ce_N E3 = Nc + Np + Nl) ∧ (s2.1 = s.1 ∧ s2.2.2 = s.2.2 ∧ ∀ z, z ≠ 132 → s2.2.1 z = s.2.1 z) ∧ (ce_n E3 = s2.1 ∧ ce_u E3 = s2.2.2 ∧ ce_f E3 = s2.2.1) ∧ DRest s2 (ce_d E') cb pb lb Nb ∧ ((cb = ce_c0 E' ∨ ce_n E' ≤ cb) ∧ (pb = ce_p0 E' ∨ ce_n E' ≤ pb) ∧ (lb = ce_l0 E' ∨ ce_n E' ≤ lb)) ∧ s.2.2 + 2 * ce_N E' = ce_u E' + 2 * Nb ∧ 16 * s.1 + ce_N E' ≤ 16 * ce_n E' + Nb := by
  obtain ⟨n, f, us⟩ := s
  have P0 : PW n f (ce_L E') (ce_g E') (ce_w E') (ca_a x') (ce_d E') (ce_p E') (ca_f x') (ca_s x') := V.pw
  obtain ⟨f2, r2, P2, g2⟩ := p_turn (us := us) (k := k) P0
  obtain ⟨e1, e2, e3, e4, e5, e6, e7, e8, e9⟩ := e
  obtain ⟨cb, pb, lb, Nc', Np', Nl', co', po', lo', h1, h2, h3, h4, h5, h6, h7, h8, h9, h10, h11⟩ := V
  have h7' : ce_n E' ≤ n := h7
  have hn : 1311 ≤ n := P0.2.2.2.2.1
  have lt : ∀ z, z = k ∨ z = c ∨ z = p ∨ z = l → z < ce_n E' := fun z hz => by
    have := M.2.2.2.2.2.2.1
    rcases hz with rfl | rfl | rfl | rfl <;> omega
  have M2 : DR n f2 k c p l (2 * h) kk tt Nc Np Nl co po lo := M.kept h7' (fun z hz => by
    have q := hd z hz
    have q2 := lt z hz
    exact (g2 z (by omega)).trans (h8 z q2 (by omega) (by omega) q.2.1 q.2.2.1 q.2.2.2.1 q.2.2.2.2))
  have big : 134 < cb ∧ 134 < pb ∧ 134 < lb := by omega
  have D2 : DR n f2 (ce_d E') cb pb lb (2 * ca_h x') (ca_k x') (ca_t x') Nc' Np' Nl' co' po' lo' := h2.kept (Nat.le_refl _) (fun z hz => g2 z (by rcases hz with rfl | rfl | rfl | rfl <;> omega))
  refine ⟨(n, f2, us), (ce_L E', ce_g E', ce_w E', (n, us, f2), (k, ce_p E'), (c, p, l), (Nc, Np, Nl)), cb, pb, lb, Nc' + Np' + Nl', r2, ⟨e1, e2, e3, hn, (hd k (Or.inl rfl)).1, (hd c (Or.inr (Or.inl rfl))).1, (hd p (Or.inr (Or.inr (Or.inl rfl)))).1, (hd l (Or.inr (Or.inr (Or.inr rfl)))).1, M2.2.2.2.2.2.2.1.1⟩, ⟨c, p, l, Nc, Np, Nl, co, po, lo, P2, M2, fun _ _ => rfl, fun _ _ => rfl, fun _ _ => rfl, ⟨Or.inl rfl, Or.inl rfl, Or.inl rfl⟩, Nat.le_refl _, fun z _ _ _ _ _ _ _ => rfl, ⟨rfl, Nat.le_refl _⟩, B2, B3⟩, ⟨rfl, rfl, rfl, rfl, rfl⟩, ⟨rfl, rfl, rfl, rfl⟩, ⟨rfl, rfl, fun z hz => g2 z hz⟩, ⟨rfl, rfl, rfl⟩, ⟨_, _, _, Nc', Np', Nl', _, _, _, D2, h10, h11, ⟨e5, big⟩, rfl⟩, h6, h9.1, h9.2⟩
end
