/-! what the class's parser holds: ids of both Drafts and of the list; what is told -/
abbrev ID : Type := Nat × Nat × Nat × Nat × Nat × Nat × Nat
abbrev ic (I : ID) : Nat := I.1
abbrev ip (I : ID) : Nat := I.2.1
abbrev il (I : ID) : Nat := I.2.2.1
abbrev icb (I : ID) : Nat := I.2.2.2.1
abbrev ipb (I : ID) : Nat := I.2.2.2.2.1
abbrev ilb (I : ID) : Nat := I.2.2.2.2.2.1
abbrev ia (I : ID) : Nat := I.2.2.2.2.2.2
def PI (I : ID) (z : Nat) : Prop := z = 132 ∨ z = 133 ∨ z = 136 ∨ z = 140 ∨ z = 144 ∨ z = ic I ∨ z = ip I ∨ z = il I ∨ z = icb I ∨ z = ipb I ∨ z = ilb I ∨ z = ia I
def PX (I : ID) : Prop := (∀ z, z = ic I ∨ z = ip I ∨ z = il I → 134 < z ∧ z ≠ 140 ∧ z ≠ 144 ∧ z ≠ icb I ∧ z ≠ ipb I ∧ z ≠ ilb I ∧ z ≠ ia I) ∧ (∀ z, z = icb I ∨ z = ipb I ∨ z = ilb I → 134 < z ∧ z ≠ 136 ∧ z ≠ 144 ∧ z ≠ ia I) ∧ (ia I = 1 ∨ 134 < ia I) ∧ ia I ≠ 136 ∧ ia I ≠ 140 ∧ ia I ≠ 144
abbrev N3 : Type := Nat × Nat × Nat
/-- what lies between two states of the parser: C is what Units took -/
def SF (I : ID) (N : N3) (s : HS) (I' : ID) (N' : N3) (s' : HS) (C : Nat) : Prop := s.1 ≤ s'.1 ∧ (∀ z, z < s.1 → ¬ PI I z → s'.2.1 z = s.2.1 z) ∧ (∀ z, PI I' z → PI I z ∨ s.1 ≤ z) ∧ s'.2.2 + 2 * (N.1 + N.2.1) + 4 * N.2.2 ≤ s.2.2 + 2 * (N'.1 + N'.2.1) + 4 * N'.2.2 + C ∧ 16 * s'.1 + N.1 + N.2.1 + 16 * N.2.2 ≤ 16 * s.1 + N'.1 + N'.2.1 + 16 * N'.2.2 + 3 * C
/-- of a function told: its NAME, how many NAMES, LOCALS, tokens, steps from .. to .., values from .. to .., what it does -/
abbrev TI : Type := List Nat × Nat × Nat × Nat × Nat × Nat × Nat × Nat × DSt
abbrev ti_w (i : TI) : List Nat := i.1
abbrev ti_n (i : TI) : Nat := i.2.1
abbrev ti_l (i : TI) : Nat := i.2.2.1
abbrev ti_t (i : TI) : Nat := i.2.2.2.1
abbrev ti_a (i : TI) : Nat := i.2.2.2.2.1
abbrev ti_b (i : TI) : Nat := i.2.2.2.2.2.1
abbrev ti_v (i : TI) : Nat := i.2.2.2.2.2.2.1
abbrev ti_k (i : TI) : Nat := i.2.2.2.2.2.2.2.1
abbrev ti_D (i : TI) : DSt := i.2.2.2.2.2.2.2.2
def TU (f : Nat → am_C) (n u : Nat) (i : TI) : Prop := ∃ (b k : Nat) (cu : Nat → Int32) (pu : Nat → Int64), f u = .inr (4, [.long (nC (ti_w i)), .int (nI (ti_n i)), .int (nI (ti_l i)), .int (nI (ti_t i)), .ref (u + 1), .ref (u + 2)]) ∧ f (u + 1) = .inl (.int, 2 * b + 4, fun j => .int (cu j)) ∧ f (u + 2) = .inl (.long, k, fun j => .long (pu j)) ∧ 1311 ≤ u ∧ u + 2 < n ∧ ImS 0 b (ti_l i) (ti_t i) k cu pu (ti_D i) ∧ cu (2 * b) = 10 ∧ cu (2 * (b + 1)) = 6 ∧ (b ≤ 2 * ti_t i ∧ k ≤ 2 * ti_t i ∧ ti_n i ≤ ti_l i ∧ ti_n i ≤ 4 ∧ 5 * ti_l i ≤ 20 + ti_t i ∧ 1 ≤ ti_t i ∧ ti_t i ≤ 1500) ∧ okN (ti_w i)
section
variable {I I' I'' : ID} {N N' N'' : N3} {s s' s'' : HS} {C C' k a Na c p l u n n' : Nat} {un : Nat → Nat} {i : TI} {f f' : Nat → am_C}
theorem SF.trans (h : SF I N s I' N' s' C) (g : SF I' N' s' I'' N'' s'' C') : SF I N s I'' N'' s'' (C + C') := by
  obtain ⟨h1, h2, h3, h4, h5⟩ := h
  obtain ⟨g1, g2, g3, g4, g5⟩ := g
  refine ⟨by omega, fun z z1 z2 => ?_, fun z z1 => ?_, by omega, by omega⟩
  · rw [g2 z (by omega) (fun q => by rcases h3 z q with q | q; exact z2 q; omega), h2 z z1 z2]
  · rcases g3 z z1 with q | q
    · exact h3 z q
    · exact Or.inr (by omega)
theorem SF.rfl' : SF I N s I N s 0 := ⟨Nat.le_refl _, fun _ _ _ => rfl, fun _ h => Or.inl h, by omega, by omega⟩
theorem SF.more (h : SF I N s I' N' s' C) (hC : C ≤ C') : SF I N s I' N' s' C' := ⟨h.1, h.2.1, h.2.2.1, by have := h.2.2.2.1; omega, by have := h.2.2.2.2; omega⟩
theorem DRest.keep {kd N : Nat} (h : DRest s kd c p l N) (hn : s.1 ≤ s'.1) (hf : ∀ z, z = kd ∨ z = c ∨ z = p ∨ z = l → s'.2.1 z = s.2.1 z) : DRest s' kd c p l N := by
  obtain ⟨a0, b0, t0, Nc, Np, Nl, co, po, lo, B1, B2⟩ := h
  exact ⟨a0, b0, t0, Nc, Np, Nl, co, po, lo, B1.kept hn hf, B2⟩
theorem DRest.lt {kd N : Nat} (h : DRest s kd c p l N) : kd < s.1 ∧ c < s.1 ∧ p < s.1 ∧ l < s.1 := by
  obtain ⟨a0, b0, t0, Nc, Np, Nl, co, po, lo, B1, B2⟩ := h
  exact B1.2.2.2.2.2.2.1
theorem ALR.keep (h : ALR s k Na a un) (hn : s.1 ≤ s'.1) (h1 : s'.2.1 144 = s.2.1 144) (h2 : ¬ a = 1 → s'.2.1 a = s.2.1 a) : ALR s' k Na a un := by
  obtain ⟨md, g, e1, e2, e3, e4, e5⟩ := h
  refine ⟨md, g, h1.trans e1, by omega, e3, e4, ?_⟩
  rcases e5 with q | ⟨q1, q2, q3, q4, q5⟩
  · exact Or.inl q
  · exact Or.inr ⟨q1, q2, by omega, (h2 (by omega)).trans q4, q5⟩
theorem TU.keep (h : TU f n u i) (hn : n ≤ n') (hf : ∀ z, u ≤ z → z ≤ u + 2 → f' z = f z) : TU f' n' u i := by
  obtain ⟨b, k, cu, pu, e1, e2, e3, e4, e5, e6⟩ := h
  exact ⟨b, k, cu, pu, (hf u (by omega) (by omega)).trans e1, (hf (u + 1) (by omega) (by omega)).trans e2, (hf (u + 2) (by omega) (by omega)).trans e3, e4, by omega, e6⟩
theorem TU.isO {s : HS} (h : TU s.2.1 s.1 u i) : isO s u 4 = true := by
  obtain ⟨b, k, cu, pu, e1, e2, e3, e4, e5, e6⟩ := h
  exact isO_of e1 (by omega) (by omega)
end
section
variable {I : ID} {n z c p l cb pb lb a : Nat}
theorem PX.mn (h : PX I) (hz : z = 136 ∨ z = ic I ∨ z = ip I ∨ z = il I) : 134 < z ∧ z ≠ 140 ∧ z ≠ icb I ∧ z ≠ ipb I ∧ z ≠ ilb I ∧ z ≠ 144 ∧ z ≠ ia I := by
  obtain ⟨h1, h2, h3, h4, h5, h6⟩ := h
  rcases hz with rfl | hz
  · have a1 := (h2 (icb I) (Or.inl rfl)).2.1
    have a2 := (h2 (ipb I) (Or.inr (Or.inl rfl))).2.1
    have a3 := (h2 (ilb I) (Or.inr (Or.inr rfl))).2.1
    exact ⟨by decide, by decide, a1.symm, a2.symm, a3.symm, by decide, h4.symm⟩
  · have a := h1 z hz
    exact ⟨a.1, a.2.1, a.2.2.2.1, a.2.2.2.2.1, a.2.2.2.2.2.1, a.2.2.1, a.2.2.2.2.2.2⟩
theorem PX.bd (h : PX I) (hz : z = 140 ∨ z = icb I ∨ z = ipb I ∨ z = ilb I) : 134 < z ∧ z ≠ 136 ∧ z ≠ ic I ∧ z ≠ ip I ∧ z ≠ il I ∧ z ≠ 144 ∧ z ≠ ia I := by
  obtain ⟨h1, h2, h3, h4, h5, h6⟩ := h
  have b1 := h1 (ic I) (Or.inl rfl)
  have b2 := h1 (ip I) (Or.inr (Or.inl rfl))
  have b3 := h1 (il I) (Or.inr (Or.inr rfl))
  rcases hz with rfl | rfl | rfl | rfl
  · exact ⟨by decide, by decide, b1.2.1.symm, b2.2.1.symm, b3.2.1.symm, by decide, h5.symm⟩
  · have a := h2 (icb I) (Or.inl rfl)
    exact ⟨a.1, a.2.1, b1.2.2.2.1.symm, b2.2.2.2.1.symm, b3.2.2.2.1.symm, a.2.2.1, a.2.2.2⟩
  · have a := h2 (ipb I) (Or.inr (Or.inl rfl))
    exact ⟨a.1, a.2.1, b1.2.2.2.2.1.symm, b2.2.2.2.2.1.symm, b3.2.2.2.2.1.symm, a.2.2.1, a.2.2.2⟩
  · have a := h2 (ilb I) (Or.inr (Or.inr rfl))
    exact ⟨a.1, a.2.1, b1.2.2.2.2.2.1.symm, b2.2.2.2.2.2.1.symm, b3.2.2.2.2.2.1.symm, a.2.2.1, a.2.2.2⟩
theorem PX.al (h : PX I) (hz : z = 144 ∨ z = ia I) : z ≠ 132 ∧ z ≠ 133 ∧ z ≠ 129 ∧ z ≠ 134 ∧ z ≠ 136 ∧ z ≠ 140 ∧ z ≠ ic I ∧ z ≠ ip I ∧ z ≠ il I ∧ z ≠ icb I ∧ z ≠ ipb I ∧ z ≠ ilb I := by
  have b1 := h.mn (Or.inr (Or.inl rfl))
  have b2 := h.mn (Or.inr (Or.inr (Or.inl rfl)))
  have b3 := h.mn (Or.inr (Or.inr (Or.inr rfl)))
  have c1 := h.bd (Or.inr (Or.inl rfl))
  have c2 := h.bd (Or.inr (Or.inr (Or.inl rfl)))
  have c3 := h.bd (Or.inr (Or.inr (Or.inr rfl)))
  obtain ⟨_, _, h3, h4, h5, h6⟩ := h
  rcases hz with rfl | rfl
  · exact ⟨by decide, by decide, by decide, by decide, by decide, by decide, b1.2.2.2.2.2.1.symm, b2.2.2.2.2.2.1.symm, b3.2.2.2.2.2.1.symm, c1.2.2.2.2.2.1.symm, c2.2.2.2.2.2.1.symm, c3.2.2.2.2.2.1.symm⟩
  · exact ⟨by omega, by omega, by omega, by omega, h4, h5, b1.2.2.2.2.2.2.symm, b2.2.2.2.2.2.2.symm, b3.2.2.2.2.2.2.symm, c1.2.2.2.2.2.2.symm, c2.2.2.2.2.2.2.symm, c3.2.2.2.2.2.2.symm⟩
theorem PI.all (L : ∀ z, PI I z → z < n) : 144 < n ∧ ic I < n ∧ ip I < n ∧ il I < n ∧ icb I < n ∧ ipb I < n ∧ ilb I < n ∧ ia I < n := by
  refine ⟨L _ ?_, L _ ?_, L _ ?_, L _ ?_, L _ ?_, L _ ?_, L _ ?_, L _ ?_⟩ <;> (unfold PI; simp only [true_or, or_true])
theorem PI.no (h : ¬ PI I z) : z ≠ 132 ∧ z ≠ 133 ∧ z ≠ 136 ∧ z ≠ 140 ∧ z ≠ 144 ∧ z ≠ ic I ∧ z ≠ ip I ∧ z ≠ il I ∧ z ≠ icb I ∧ z ≠ ipb I ∧ z ≠ ilb I ∧ z ≠ ia I := by
  unfold PI at h
  simp only [not_or] at h
  exact h
/-- the first Draft's arrays made anew -/
theorem PI.m' (hc : c = ic I ∨ n ≤ c) (hp : p = ip I ∨ n ≤ p) (hl : l = il I ∨ n ≤ l) (h : PI (c, p, l, icb I, ipb I, ilb I, ia I) z) : PI I z ∨ n ≤ z := by
  unfold PI at h ⊢
  dsimp only [ic, ip, il, icb, ipb, ilb, ia] at *
  omega
theorem PX.m' (h : PX I) (L : ∀ z, PI I z → z < n) (hc : c = ic I ∨ n ≤ c) (hp : p = ip I ∨ n ≤ p) (hl : l = il I ∨ n ≤ l) : PX (c, p, l, icb I, ipb I, ilb I, ia I) := by
  have A := PI.all L
  refine ⟨fun z hz => ?_, h.2⟩
  have key : (z = ic I ∨ z = ip I ∨ z = il I) ∨ n ≤ z := by
    dsimp only [ic, ip, il] at *
    omega
  rcases key with q | q
  · exact h.1 z q
  · clear hz hc hp hl L h
    dsimp only [ic, ip, il, icb, ipb, ilb, ia] at *
    omega
/-- the other's, and the list -/
theorem PI.b' (hc : cb = icb I ∨ n ≤ cb) (hp : pb = ipb I ∨ n ≤ pb) (hl : lb = ilb I ∨ n ≤ lb) (ha : a = ia I ∨ n ≤ a) (h : PI (ic I, ip I, il I, cb, pb, lb, a) z) : PI I z ∨ n ≤ z := by
  unfold PI at h ⊢
  dsimp only [ic, ip, il, icb, ipb, ilb, ia] at *
  omega
theorem PX.b' (h : PX I) (L : ∀ z, PI I z → z < n) (hc : cb = icb I ∨ n ≤ cb) (hp : pb = ipb I ∨ n ≤ pb) (hl : lb = ilb I ∨ n ≤ lb) (ha : a = ia I ∨ (n ≤ a ∧ a ≠ cb ∧ a ≠ pb ∧ a ≠ lb)) : PX (ic I, ip I, il I, cb, pb, lb, a) := by
  have A := PI.all L
  have e1 : ∀ z, z = cb ∨ z = pb ∨ z = lb → (z = icb I ∨ z = ipb I ∨ z = ilb I) ∨ n ≤ z := fun z hz => by
    clear h L A ha
    dsimp only [icb, ipb, ilb] at *
    omega
  refine ⟨fun z hz => ?_, fun z hz => ?_, ?_⟩
  · have b := h.1 z hz
    have zl : z < n := by
      clear h b e1 hc hp hl ha
      dsimp only [ic, ip, il] at *
      omega
    refine ⟨b.1, b.2.1, b.2.2.1, ?_, ?_, ?_, ?_⟩
    · rcases hc with q | q
      · exact fun w => b.2.2.2.1 (w.trans q)
      · exact fun w => absurd (w ▸ q : n ≤ z) (Nat.not_le.mpr zl)
    · rcases hp with q | q
      · exact fun w => b.2.2.2.2.1 (w.trans q)
      · exact fun w => absurd (w ▸ q : n ≤ z) (Nat.not_le.mpr zl)
    · rcases hl with q | q
      · exact fun w => b.2.2.2.2.2.1 (w.trans q)
      · exact fun w => absurd (w ▸ q : n ≤ z) (Nat.not_le.mpr zl)
    · rcases ha with q | q
      · exact fun w => b.2.2.2.2.2.2 (w.trans q)
      · exact fun w => absurd (w ▸ q.1 : n ≤ z) (Nat.not_le.mpr zl)
  · have hz' : z = cb ∨ z = pb ∨ z = lb := hz
    have ca : z ≠ a := by
      rcases ha with q | q
      · rcases e1 z hz' with w | w
        · exact fun v => (h.2.1 z w).2.2.2 (v.trans q)
        · exact fun v => absurd ((v.trans q) ▸ w : n ≤ ia I) (Nat.not_le.mpr A.2.2.2.2.2.2.2)
      · rcases hz' with rfl | rfl | rfl
        · exact q.2.1.symm
        · exact q.2.2.1.symm
        · exact q.2.2.2.symm
    rcases e1 z hz' with w | w
    · exact ⟨(h.2.1 z w).1, (h.2.1 z w).2.1, (h.2.1 z w).2.2.1, ca⟩
    · have := A.1
      exact ⟨by omega, by omega, by omega, ca⟩
  · rcases ha with q | q
    · show (a = 1 ∨ 134 < a) ∧ a ≠ 136 ∧ a ≠ 140 ∧ a ≠ 144
      rw [q]
      exact h.2.2
    · have := A.1
      have := q.1
      exact ⟨Or.inr (by show 134 < a; omega), by show a ≠ 136; omega, by show a ≠ 140; omega, by show a ≠ 144; omega⟩
end
/-- the class's parser between two STATEMENTS or functions -/
def CS (E1 : CE) (s : HS) (x : CA) (I : ID) (N : N3) (k : Nat) (un : Nat → Nat) (TT : Nat → TI) : Prop := KC E1 s x ∧ EOK E1 ∧ ce_d E1 = 136 ∧ (ce_n E1 = s.1 ∧ ce_u E1 = s.2.2 ∧ ce_f E1 = s.2.1) ∧ (ce_c0 E1 = ic I ∧ ce_p0 E1 = ip I ∧ ce_l0 E1 = il I ∧ ce_N E1 = N.1) ∧ DRest s 140 (icb I) (ipb I) (ilb I) N.2.1 ∧ ALR s k N.2.2 (ia I) un ∧ (∀ i, i < k → TU s.2.1 s.1 (un i) (TT i)) ∧ (∀ i, i < k → ∀ z, un i ≤ z → z ≤ un i + 2 → ¬ PI I z) ∧ PX I ∧ ∀ z, PI I z → z < s.1
abbrev CEs (E E' : CE) : Prop := ce_L E' = ce_L E ∧ ce_g E' = ce_g E ∧ ce_w E' = ce_w E ∧ ce_p E' = ce_p E
theorem TU.lt {f : Nat → am_C} {n u : Nat} {i : TI} (t : TU f n u i) : 1311 ≤ u ∧ u + 2 < n := by
  obtain ⟨_, _, _, _, _, _, _, t4, t5, _⟩ := t
  exact ⟨t4, t5⟩
/-- Units stay where the parser's own ids are not -/
theorem TU.all {I : ID} {f f' : Nat → am_C} {n n' k : Nat} {un : Nat → Nat} {TT : Nat → TI} (h : ∀ i, i < k → TU f n (un i) (TT i)) (d : ∀ i, i < k → ∀ z, un i ≤ z → z ≤ un i + 2 → ¬ PI I z) (hn : n ≤ n') (fr : ∀ z, z < n → ¬ PI I z → f' z = f z) : ∀ i, i < k → TU f' n' (un i) (TT i) := fun i hi => (h i hi).keep hn (fun z z1 z2 => fr z (by have := (h i hi).lt; omega) (d i hi z z1 z2))
theorem TU.off {I I' : ID} {f : Nat → am_C} {n k : Nat} {un : Nat → Nat} {TT : Nat → TI} (h : ∀ i, i < k → TU f n (un i) (TT i)) (d : ∀ i, i < k → ∀ z, un i ≤ z → z ≤ un i + 2 → ¬ PI I z) (I3 : ∀ z, PI I' z → PI I z ∨ n ≤ z) : ∀ i, i < k → ∀ z, un i ≤ z → z ≤ un i + 2 → ¬ PI I' z := fun i hi z z1 z2 q => by
  have := (h i hi).lt
  rcases I3 z q with q | q
  · exact d i hi z z1 z2 q
  · omega
section
variable {E1 : CE} {I : ID} {N : N3} {s s' : HS} {k : Nat} {un : Nat → Nat} {TT : Nat → TI} {x x' : CA}
/-- behind anything that the parser did at this Draft -/
theorem cs_phase (h : CS E1 s x I N k un TT) (V : KC E1 s' x') : ∃ E' I' N', CS E' s' x' I' N' k un TT ∧ SF I N s I' N' s' 0 ∧ CEs E1 E' ∧ (icb I' = icb I ∧ ipb I' = ipb I ∧ ilb I' = ilb I ∧ ia I' = ia I ∧ N'.2 = N.2) := by
  obtain ⟨h1, h2, h3, ⟨n1, n2, n3⟩, ⟨c1, c2, c3, c4⟩, h6, h7, h8, h9, h10, h11⟩ := h
  obtain ⟨E', e1, e2, e3, e4, e5, e6, e7, e8, e9, e10, e11⟩ := kc_rebase h2 V
  have g7 : s.1 ≤ s'.1 := by
    obtain ⟨_, _, _, _, _, _, _, _, _, _, _, _, _, _, _, g7, _⟩ := V
    rw [← n1]
    exact g7
  have fr : ∀ z, z < s.1 → z ≠ 132 → z ≠ 133 → z ≠ 136 → z ≠ ic I → z ≠ ip I → z ≠ il I → s'.2.1 z = s.2.1 z := fun z z1 z2 z3 z4 z5 z6 z7 => by
    obtain ⟨_, _, _, _, _, _, _, _, _, _, _, _, _, _, _, _, g8, _⟩ := V
    rw [← n3]
    exact g8 z (by rw [n1]; exact z1) z2 z3 (by rw [h3]; exact z4) (by rw [c1]; exact z5) (by rw [c2]; exact z6) (by rw [c3]; exact z7)
  have eb : ce_c0 E' < s'.1 ∧ ce_p0 E' < s'.1 ∧ ce_l0 E' < s'.1 := by
    obtain ⟨c', p', l', Nc', Np', Nl', co', po', lo', k1, k2, k3, k4, k5, k6, k7, k8, _⟩ := e2
    have klt := k2.2.2.2.2.2.2.1
    rw [e4] at k6
    clear k1 k2 k3 k4 k5 k8 h6 h7 h8 h9 h10 h11 fr e7 e8 e9
    omega
  rw [n1, c1] at e7
  rw [n1, c2] at e8
  rw [n1, c3] at e9
  have fr2 : ∀ z, z < s.1 → ¬ PI I z → s'.2.1 z = s.2.1 z := fun z z1 z2 => by
    have w := PI.no z2
    exact fr z z1 w.1 w.2.1 w.2.2.1 w.2.2.2.2.2.1 w.2.2.2.2.2.2.1 w.2.2.2.2.2.2.2.1
  have la := PI.all h11
  have lt := h6.lt
  have I3 : ∀ z, PI (ce_c0 E', ce_p0 E', ce_l0 E', icb I, ipb I, ilb I, ia I) z → PI I z ∨ s.1 ≤ z := fun z hz => PI.m' e7 e8 e9 hz
  refine ⟨E', (ce_c0 E', ce_p0 E', ce_l0 E', icb I, ipb I, ilb I, ia I), (ce_N E', N.2), ⟨e2, e1, e3.2.2.2.1.trans h3, ⟨e4, e5, e6⟩, ⟨rfl, rfl, rfl, rfl⟩, h6.keep g7 (fun z hz => ?_), h7.keep g7 ?_ (fun q => ?_), TU.all h8 h9 g7 fr2, TU.off h8 h9 I3, h10.m' h11 e7 e8 e9, fun z hz => ?_⟩, ⟨g7, fr2, I3, ?_, ?_⟩, ⟨e3.1, e3.2.1, e3.2.2.1, e3.2.2.2.2⟩, rfl, rfl, rfl, rfl, rfl⟩
  · have w := h10.bd hz
    have zl : z < s.1 := by
      rcases hz with rfl | rfl | rfl | rfl
      · exact lt.1
      · exact lt.2.1
      · exact lt.2.2.1
      · exact lt.2.2.2
    have b := w.1
    exact fr z zl (by omega) (by omega) w.2.1 w.2.2.1 w.2.2.2.1 w.2.2.2.2.1
  · have w := h10.al (Or.inl rfl)
    exact fr 144 la.1 w.1 w.2.1 w.2.2.2.2.1 w.2.2.2.2.2.2.1 w.2.2.2.2.2.2.2.1 w.2.2.2.2.2.2.2.2.1
  · have w := h10.al (Or.inr rfl)
    exact fr (ia I) la.2.2.2.2.2.2.2 w.1 w.2.1 w.2.2.2.2.1 w.2.2.2.2.2.2.1 w.2.2.2.2.2.2.2.1 w.2.2.2.2.2.2.2.2.1
  · unfold PI at hz
    dsimp only [ic, ip, il, icb, ipb, ilb, ia] at hz la
    clear h6 h7 h8 h9 h10 h11 fr fr2 I3 e7 e8 e9 e10 e11 lt
    omega
  · show s'.2.2 + 2 * (N.1 + N.2.1) + 4 * N.2.2 ≤ s.2.2 + 2 * (ce_N E' + N.2.1) + 4 * N.2.2 + 0
    clear la eb
    omega
  · show 16 * s'.1 + N.1 + N.2.1 + 16 * N.2.2 ≤ 16 * s.1 + ce_N E' + N.2.1 + 16 * N.2.2 + 3 * 0
    clear la eb
    omega
end
