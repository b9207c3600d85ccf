/-! the class in a function: what stays meanwhile, and the end behind a FAULT -/
abbrev ce_S (E : CE) : HS := (ce_n E, ce_f E, ce_u E)
def BS (E : CE) (x1 : CA) (I : ID) (N : N3) (k : Nat) (un : Nat → Nat) (TT : Nat → TI) : Prop := EOK E ∧ ce_d E = 140 ∧ (ce_c0 E = icb I ∧ ce_p0 E = ipb I ∧ ce_l0 E = ilb I ∧ ce_N E = N.2.1) ∧ (∃ (Nc Np Nl : Nat) (co : Nat → Int32) (po lo : Nat → Int64), DR (ce_n E) (ce_f E) 136 (ic I) (ip I) (il I) (2 * ca_h x1) (ca_k x1) (ca_t x1) Nc Np Nl co po lo ∧ ((∀ j, j < 2 * ca_h x1 → co j = ca_c x1 j) ∧ (∀ j, j < ca_k x1 → po j = ca_p x1 j) ∧ ∀ j, j < ca_t x1 → lo j = ca_l x1 j) ∧ (16 ≤ Nc ∧ 16 ≤ Np ∧ 16 ≤ Nl) ∧ (Nc ≤ 65536 ∧ Np ≤ 65536 ∧ Nl ≤ 65536) ∧ N.1 = Nc + Np + Nl) ∧ ALR (ce_S E) k N.2.2 (ia I) un ∧ (∀ i, i < k → TU (ce_f E) (ce_n E) (un i) (TT i)) ∧ (∀ i, i < k → ∀ z, un i ≤ z → z ≤ un i + 2 → ¬ PI I z) ∧ PX I ∧ ∀ z, PI I z → z < ce_n E
/-- the class's parser at rest; fa is its FAULT -/
def CZ (s : HS) (L : Nat) (g : Nat → Int32) (ws : Nat → Int64) (I : ID) (N : N3) (k : Nat) (un : Nat → Nat) (fa : Int32) : Prop := (∃ (a : LxS) (dr pg : Nat) (sg : Int32), PW s.1 s.2.1 L g ws a dr pg fa sg) ∧ DRest s 136 (ic I) (ip I) (il I) N.1 ∧ DRest s 140 (icb I) (ipb I) (ilb I) N.2.1 ∧ ALR s k N.2.2 (ia I) un ∧ PX I ∧ ∀ z, PI I z → z < s.1
section
variable {E1 E' : CE} {I : ID} {N : N3} {s s' : HS} {k d : Nat} {un : Nat → Nat} {TT : Nat → TI} {x x' x1 : CA}
theorem CS.main (h : CS E1 s x I N k un TT) : ∃ (Nc Np Nl : Nat) (co : Nat → Int32) (po lo : Nat → Int64), DR s.1 s.2.1 136 (ic I) (ip I) (il I) (2 * ca_h x) (ca_k x) (ca_t x) Nc Np Nl co po lo ∧ ((∀ j, j < 2 * ca_h x → co j = ca_c x j) ∧ (∀ j, j < ca_k x → po j = ca_p x j) ∧ ∀ j, j < ca_t x → lo j = ca_l x j) ∧ (16 ≤ Nc ∧ 16 ≤ Np ∧ 16 ≤ Nl) ∧ (Nc ≤ 65536 ∧ Np ≤ 65536 ∧ Nl ≤ 65536) ∧ N.1 = Nc + Np + Nl := by
  obtain ⟨h1, h2, h3, ⟨n1, n2, n3⟩, ⟨c1, c2, c3, c4⟩, h6, h7, h8, h9, h10, h11⟩ := h
  clear h6 h7 h8 h9 h10 h11 h2
  obtain ⟨c, p, l, Nc, Np, Nl, co, po, lo, g1, g2, g3, g4, g5, g6, g7, g8, g9, g10, g11⟩ := h1
  clear g1 g8
  have lt := g2.2.2.2.2.2.2.1
  have ec : c = ic I := by omega
  have ep : p = ip I := by omega
  have el : l = il I := by omega
  rw [h3, ec, ep, el] at g2
  exact ⟨Nc, Np, Nl, co, po, lo, g2, ⟨g3, g4, g5⟩, g10, g11, by omega⟩
theorem CS.rest (h : CS E1 s x I N k un TT) : CZ s (ce_L E1) (ce_g E1) (ce_w E1) I N k un (ca_f x) := by
  obtain ⟨Nc, Np, Nl, co, po, lo, m1, m2, m3, m4, m5⟩ := h.main
  obtain ⟨h1, h2, h3, ⟨n1, n2, n3⟩, ⟨c1, c2, c3, c4⟩, h6, h7, h8, h9, h10, h11⟩ := h
  exact ⟨⟨_, _, _, _, h1.pw⟩, ⟨_, _, _, Nc, Np, Nl, co, po, lo, m1, m3, m4, ⟨by decide, (h10.mn (Or.inr (Or.inl rfl))).1, (h10.mn (Or.inr (Or.inr (Or.inl rfl)))).1, (h10.mn (Or.inr (Or.inr (Or.inr rfl)))).1⟩, m5⟩, h6, h7, h10, h11⟩
theorem cs_fun (h : CS E1 s x I N k un TT) : ∃ (s1 s2 : HS) (E' : CE), gR s 132 5 2 = some 140 ∧ x_Draft_clear d 140 s = some ((), s1) ∧ gR s1 132 5 2 = some 140 ∧ pV s1 132 5 3 (.ref 140) = some s2 ∧ KC E' s2 (caNew x) ∧ BS E' x I N k un TT ∧ CEs E1 E' ∧ (ce_n E' = s.1 ∧ ce_u E' = s.2.2 ∧ ∀ z, z ≠ 132 → z ≠ 140 → ce_f E' z = s.2.1 z) := by
  obtain ⟨Nc, Np, Nl, co, po, lo, m1, m2, m3, m4, m5⟩ := h.main
  obtain ⟨h1, h2, h3, ⟨n1, n2, n3⟩, ⟨c1, c2, c3, c4⟩, h6, h7, h8, h9, h10, h11⟩ := h
  obtain ⟨s1, s2, E', t1, t2, t3, t4, t5, t6, t7, t8, t9, t10, t11⟩ := kc_turn (d := d) h2 h1 h6
  have g0 : gR s 132 5 2 = some 140 := p_body (us := s.2.2) h1.pw
  have fr : ∀ z, z ≠ 132 → z ≠ 140 → ce_f E' z = s.2.1 z := fun z z1 z2 => by rw [t11]; exact t8.2.2 z z1 z2
  have en : ce_n E' = s.1 := t9.trans t8.1
  have eu : ce_u E' = s.2.2 := t10.trans t8.2.1
  have wa := h10.al (Or.inl rfl)
  have wb := h10.al (Or.inr rfl)
  refine ⟨s1, s2, E', g0, t1, (t2 2 (Or.inr rfl)).trans g0, t3, t5, ⟨t4, t6.2.2.2.1, t7, ⟨Nc, Np, Nl, co, po, lo, ?_, m2, m3, m4, m5⟩, ?_, ?_, h9, h10, fun z hz => by rw [en]; exact h11 z hz⟩, ⟨t6.1, t6.2.1, t6.2.2.1, t6.2.2.2.2⟩, en, eu, fr⟩
  · exact m1.kept (Nat.le_of_eq en.symm) (fun z hz => by
      have w := h10.mn hz
      have w1 := w.1
      exact fr z (by omega) w.2.1)
  · exact h7.keep (s' := ce_S E') (Nat.le_of_eq en.symm) (fr 144 wa.1 wa.2.2.2.2.2.1) (fun q => fr _ wb.1 wb.2.2.2.2.2.1)
  · rw [en]
    exact TU.all h8 h9 (Nat.le_refl _) (fun z _ z2 => by
      have w := PI.no z2
      exact fr z w.1 w.2.2.2.1)
theorem bs_bad (B : BS E' x1 I N k un TT) (V : KC E' s' x') : ∃ (s2 : HS) (I' : ID) (N' : N3), gR s' 132 5 1 = some 136 ∧ pV s' 132 5 3 (.ref 136) = some s2 ∧ CZ s2 (ce_L E') (ce_g E') (ce_w E') I' N' k un (ca_f x') ∧ SF I N (ce_S E') I' N' s2 0 := by
  obtain ⟨h1, h2, ⟨c1, c2, c3, c4⟩, ⟨Nc, Np, Nl, co, po, lo, m1, m2, m3, m4, m5⟩, h5, h6, h7, h8, h9⟩ := B
  obtain ⟨s2, E3, cb, pb, lb, Nb, t1, t2, t3, t4, t5, t6, t7, t8, t9, t10, t11⟩ := kc_back h1 V m1 m3 m4 (fun z hz => by
    have w := h8.mn hz
    rw [c1, c2, c3, h2]
    exact ⟨w.1, w.2.1, w.2.2.1, w.2.2.2.1, w.2.2.2.2.1⟩)
  have g0 : gR s' 132 5 1 = some 136 := p_main (us := s'.2.2) V.pw
  have v7 : ce_n E' ≤ s'.1 := by
    obtain ⟨_, _, _, _, _, _, _, _, _, _, _, _, _, _, _, v7, _⟩ := V
    exact v7
  have fr : ∀ z, z < ce_n E' → z ≠ 132 → z ≠ 133 → z ≠ 140 → z ≠ icb I → z ≠ ipb I → z ≠ ilb I → s2.2.1 z = ce_f E' z := fun z z1 z2 z3 z4 z5 z6 z7 => by
    obtain ⟨_, _, _, _, _, _, _, _, _, _, _, _, _, _, _, _, v8, _⟩ := V
    rw [t6.2.2 z z2]
    exact v8 z z1 z2 z3 (by rw [h2]; exact z4) (by rw [c1]; exact z5) (by rw [c2]; exact z6) (by rw [c3]; exact z7)
  rw [h2] at t8
  rw [c1, c2, c3] at t9
  have blt := t8.lt
  have hn : ce_n E' ≤ s2.1 := by rw [t6.1]; exact v7
  have la := PI.all h9
  have wa := h8.al (Or.inl rfl)
  have wb := h8.al (Or.inr rfl)
  have A2 : ALR s2 k N.2.2 (ia I) un := h5.keep hn (fr 144 la.1 wa.1 wa.2.1 wa.2.2.2.2.2.1 wa.2.2.2.2.2.2.2.2.2.1 wa.2.2.2.2.2.2.2.2.2.2.1 wa.2.2.2.2.2.2.2.2.2.2.2) (fun q => fr _ la.2.2.2.2.2.2.2 wb.1 wb.2.1 wb.2.2.2.2.2.1 wb.2.2.2.2.2.2.2.2.2.1 wb.2.2.2.2.2.2.2.2.2.2.1 wb.2.2.2.2.2.2.2.2.2.2.2)
  have I3 : ∀ z, PI (ic I, ip I, il I, cb, pb, lb, ia I) z → PI I z ∨ ce_n E' ≤ z := fun z hz => PI.b' t9.1 t9.2.1 t9.2.2 (Or.inl rfl) hz
  have P3 := t3.pw
  rw [t4.1, t4.2.1, t4.2.2.1] at P3
  refine ⟨s2, (ic I, ip I, il I, cb, pb, lb, ia I), (N.1, Nb, N.2.2), g0, t1, ⟨⟨_, _, _, _, P3⟩, ⟨_, _, _, Nc, Np, Nl, co, po, lo, m1.kept hn (fun z hz => ?_), m3, m4, ⟨by decide, (h8.mn (Or.inr (Or.inl rfl))).1, (h8.mn (Or.inr (Or.inr (Or.inl rfl)))).1, (h8.mn (Or.inr (Or.inr (Or.inr rfl)))).1⟩, m5⟩, t8, A2, h8.b' h9 t9.1 t9.2.1 t9.2.2 (Or.inl rfl), fun z hz => ?_⟩, ⟨hn, fun z z1 z2 => ?_, I3, ?_, ?_⟩⟩
  · have w := h8.mn hz
    have w1 := w.1
    have zl : z < ce_n E' := by
      have := m1.2.2.2.2.2.2.1
      rcases hz with rfl | rfl | rfl | rfl
      · exact this.1
      · exact this.2.1
      · exact this.2.2.1
      · exact this.2.2.2
    exact fr z zl (by omega) (by omega) w.2.1 w.2.2.1 w.2.2.2.1 w.2.2.2.2.1
  · unfold PI at hz
    dsimp only [ic, ip, il, icb, ipb, ilb, ia] at hz la
    clear wa wb fr I3 A2 m1 m2 m3 m4 m5 t9 t10 t11 h5 h6 h7 h8 h9
    omega
  · have w := PI.no z2
    exact fr z z1 w.1 w.2.1 w.2.2.2.1 w.2.2.2.2.2.2.2.2.1 w.2.2.2.2.2.2.2.2.2.1 w.2.2.2.2.2.2.2.2.2.2.1
  · show s2.2.2 + 2 * (N.1 + N.2.1) + 4 * N.2.2 ≤ ce_u E' + 2 * (N.1 + Nb) + 4 * N.2.2 + 0
    clear wa wb la blt t9
    omega
  · show 16 * s2.1 + N.1 + N.2.1 + 16 * N.2.2 ≤ 16 * ce_n E' + N.1 + Nb + 16 * N.2.2 + 3 * 0
    clear wa wb la blt t9
    omega
end
