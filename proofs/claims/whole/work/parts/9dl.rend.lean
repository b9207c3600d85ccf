/-! the end of read(), on both sides -/
def PU (f : Nat → am_C) (n u lc nd : Nat) (D : DSt) : Prop := ∃ (b k : Nat) (cu : Nat → Int32) (pu : Nat → Int64), f u = .inr (4, [.long 0, .int 0, .int (nI lc), .int 0, .ref (u + 1), .ref (u + 2)]) ∧ f (u + 1) = .inl (.int, 2 * b + 4, fun j => .int (cu j)) ∧ f (u + 2) = .inl (.long, k, fun j => .long (pu j)) ∧ 1311 ≤ u ∧ u + 2 < n ∧ ImS 0 b lc nd k cu pu D ∧ cu (2 * b) = 10 ∧ cu (2 * (b + 1)) = 6 ∧ (b ≤ 3000 ∧ k ≤ 3000 ∧ 5 * lc ≤ 1500 ∧ 1 ≤ nd ∧ nd ≤ 1501)
abbrev reK6 (E : RE) (v : Int32) : RE := (E.1, E.2.1, E.2.2.1, ((re_k E).1, (re_k E).2.1, v, (re_k E).2.2.2), re_R E)
section
variable {cr : Nat} {E E2 : RE} {y : RA} {v : Int32} {u : Nat} {TT : Nat → TI}
theorem y_pc6 (h : EOR cr E) : pV (pm cr E y) cr 12 6 (.int v) = some (pm cr (reK6 E v) y) := by
  rw [pV_of (s := pm cr E y) (P_c (y := y) h) (cr_lt h).1 (by have := (cr_lt h).2; show cr < re_n E; omega) (Nat.le_of_ble_eq_true rfl)]
  refine congrArg (fun F => some (re_n E, F, re_u E)) ?_
  obtain ⟨_, _, h3, _⟩ := h
  rcases h3 with rfl | rfl <;> exact HL_up rfl
theorem EOR.k6 (h : EOR cr E) : EOR cr (reK6 E v) := h
theorem RX.k6 : RX E (reK6 E v) := ⟨rfl, ⟨rfl, rfl⟩, ⟨rfl, rfl⟩, rfl, fun _ _ => rfl⟩
theorem RST.k6 {k : Nat} (R : RST E k TT u) : RST (reK6 E v) k TT u := R
theorem RST.more {k u' : Nat} (R : RST E k TT u) (h : u ≤ u') : RST E k TT u' := by
  obtain ⟨A, g, kk, m, v, sp, q, r1, r2, r3, r4, r5, r6⟩ := R
  exact ⟨A, g, kk, m, v, sp, q, r1, r2, r3, r4, r5, by omega⟩
end
section
variable {n us L dr pg : Nat} {f : Nat → am_C} {g : Nat → Int32} {ws : Nat → Int64} {a : LxS} {fa sg : Int32}
theorem p_prog (V : PW n f L g ws a dr pg fa sg) {k : Nat} : ∃ f', pV (n, f, us) 132 5 5 (.ref k) = some (n, f', us) ∧ PW n f' L g ws a dr k fa sg ∧ ∀ y, y ≠ 132 → f' y = f y := by
  obtain ⟨v0, v1, v2, v3, v4, v5⟩ := V
  rw [pV_of (s := (n, f, us)) v0 (by decide) (show 132 < n by omega) (Nat.le_of_ble_eq_true rfl)]
  exact ⟨_, rfl, ⟨va_up_self _ _ _, (va_up_ne _ _ (by decide)).trans v1, (va_up_ne _ _ (by decide)).trans v2, (va_up_ne _ _ (by decide)).trans v3, v4, v5⟩, fun y hy => va_up_ne _ _ hy⟩
theorem p_pg (V : PW n f L g ws a dr pg fa sg) : gR (n, f, us) 132 5 5 = some pg := gR_of (s := (n, f, us)) V.1 (by decide) (Nat.lt_of_lt_of_le (by decide) V.2.2.2.2.1) rfl
end
section
variable {E1 : CE} {I : ID} {N : N3} {s : HS} {k d nd : Nat} {un : Nat → Nat} {TT : Nat → TI} {x : CA} {D : DSt}
theorem cs_end (C : CS E1 s x I N k un TT) (hf : ca_f x = -1) (hD : ImS 0 (ca_h x) (ca_t x) nd (ca_k x) (ca_c x) (ca_p x) D) (hb : ca_h x ≤ 3000 ∧ ca_k x ≤ 3000 ∧ 5 * ca_t x ≤ 1500 ∧ 1 ≤ nd ∧ nd ≤ 1501) : ∃ (s' : HS) (I' : ID) (N' : N3) (pg : Nat), x_Pars_read_b91 (d + 3) 132 s = some (-1, s') ∧ CZ s' (ce_L E1) (ce_g E1) (ce_w E1) I' N' k un (-1) ∧ gR s' 132 5 5 = some pg ∧ SF I N s I' N' s' (16 + 2 * ca_h x + ca_k x) ∧ (∀ i, i < k → TU s'.2.1 s'.1 (un i) (TT i)) ∧ PU s'.2.1 s'.1 pg (ca_t x) nd D ∧ s.1 ≤ pg ∧ (∀ i, i < k → ∀ z, un i ≤ z → z ≤ un i + 2 → ¬ PI I' z) ∧ ∀ z, pg ≤ z → z ≤ pg + 2 → ¬ PI I' z := by
  obtain ⟨n, f, us⟩ := s
  obtain ⟨Nc, Np, Nl, co, po, lo, m1, m2, m3, m4, m5⟩ := C.main
  obtain ⟨h1, h2, h3, ⟨n1, n2, n3⟩, ⟨c1, c2, c3, c4⟩, h6, h7, h8, h9, h10, h11⟩ := C
  have P0 : PW n f (ce_L E1) (ce_g E1) (ce_w E1) (ca_a x) (ce_d E1) (ce_p E1) (ca_f x) (ca_s x) := h1.pw
  rw [hf] at P0
  have hn1 : 1311 ≤ n := P0.2.2.2.2.1
  have vlt : 136 < n ∧ ic I < n ∧ ip I < n ∧ il I < n := m1.2.2.2.2.2.2.1
  obtain ⟨n', us', c', Nc', f', co', cu, pu, r1, D1, d1, d2, d3, d4, d5, u1, u2, u3, u4, u5, u6, fr1⟩ := e_finish (d := d) (us := us) m1 (by omega) (by omega) (by omega) (y := 0) (x2 := 0) (x3 := 0)
  have L : ∀ z, PI I z → z < n := h11
  have la := PI.all L
  have wa := h10.al (Or.inl rfl)
  have wb := h10.al (Or.inr rfl)
  have p1 := (h10.mn (Or.inr (Or.inl rfl))).1
  have p2 := (h10.mn (Or.inr (Or.inr (Or.inl rfl)))).1
  have p3 := (h10.mn (Or.inr (Or.inr (Or.inr rfl)))).1
  have hn' : n ≤ n' := by
    clear wa wb la h6 h7 h8 h9 h10 h11 L m1
    rcases u6 with q | q <;> omega
  have cn1 : c' = ic I ∨ n ≤ c' := by
    rcases u6 with ⟨_, q, _⟩ | ⟨_, q, _⟩
    · exact Or.inl q
    · exact Or.inr (Nat.le_of_eq q.symm)
  have c134 : 134 < c' := by
    rcases cn1 with q | q
    · rw [q]
      exact p1
    · omega
  have P1 : PW (n' + 3) f' (ce_L E1) (ce_g E1) (ce_w E1) (ca_a x) (ce_d E1) (ce_p E1) (-1) (ca_s x) := P0.kept (Nat.le_trans hn' (Nat.le_add_right _ _)) (fun z hz => by
    clear wa wb la h6 h7 h8 h9 h10 h11 L m1 u6 cn1
    rcases hz with rfl | rfl | rfl | rfl <;> exact fr1 _ (by decide) (by omega) (by omega))
  obtain ⟨f2, r2, P2, fr2⟩ := p_prog (us := us' + 6 + (2 * ca_h x + 4) + ca_k x) (k := n') P1
  have D1lt : 136 < n' + 3 ∧ c' < n' + 3 ∧ ip I < n' + 3 ∧ il I < n' + 3 := D1.2.2.2.2.2.2.1
  have D2 : DR (n' + 3) f2 136 c' (ip I) (il I) (2 * ca_h x + 4) (ca_k x) (ca_t x) Nc' Np Nl co' po lo := D1.kept (Nat.le_refl _) (fun z hz => by
    clear wa wb la h6 h7 h8 h9 h10 h11 L m1 u6 cn1
    rcases hz with rfl | rfl | rfl | rfl <;> exact fr2 _ (by omega))
  have fr : ∀ z, z < n → z ≠ 132 → z ≠ 136 → z ≠ ic I → f2 z = f z := fun z z1 z2 z3 z4 => by rw [fr2 z z2, fr1 z z3 z4 z1]
  have I3 : ∀ z, PI (c', ip I, il I, icb I, ipb I, ilb I, ia I) z → PI I z ∨ n ≤ z := fun z hz => PI.m' cn1 (Or.inl rfl) (Or.inl rfl) hz
  have newI : ∀ z, PI (c', ip I, il I, icb I, ipb I, ilb I, ia I) z → z < n' + 3 ∧ ¬ (n' ≤ z ∧ z ≤ n' + 2) := fun z hz => by
    have hc2 : c' < n' := by
      clear wa wb la h6 h7 h8 h9 h10 h11 L m1
      rcases u6 with q | q <;> omega
    unfold PI at hz
    dsimp only [ic, ip, il, icb, ipb, ilb, ia] at hz la
    clear wa wb h6 h7 h8 h9 h10 h11 L m1 u6 cn1 I3 vlt
    omega
  have fr5 : ∀ z, z < n → ¬ PI I z → f2 z = f z := fun z z1 z2 => by
    have w := PI.no z2
    exact fr z z1 w.1 w.2.2.1 w.2.2.2.2.2.1
  have cost : us' + 6 + (2 * ca_h x + 4) + ca_k x + 2 * N.1 ≤ us + 2 * (Nc' + Np + Nl) + (16 + 2 * ca_h x + ca_k x) ∧ 16 * (n' + 3) + N.1 ≤ 16 * n + (Nc' + Np + Nl) + 3 * (16 + 2 * ca_h x + ca_k x) := by
    clear wa wb la h6 h7 h8 h9 h10 h11 L m1 cn1 I3 newI fr fr5 vlt
    rcases u6 with q | q <;> omega
  have hb16 : 16 ≤ Nc' ∧ Nc' ≤ 65536 := by
    clear wa wb la h6 h7 h8 h9 h10 h11 L m1 cn1 I3 newI fr fr5 vlt cost
    rcases u6 with q | q <;> omega
  have hn3 : n ≤ n' + 3 := Nat.le_trans hn' (Nat.le_add_right _ _)
  have n135 : 135 ≤ n' := by clear cost u6 wa wb la cn1 vlt; omega
  have b132 : ∀ z, 135 ≤ z → z ≠ 132 := fun z h q => by omega
  refine ⟨(n' + 3, f2, us' + 6 + (2 * ca_h x + 4) + ca_k x), (c', ip I, il I, icb I, ipb I, ilb I, ia I), (Nc' + Np + Nl, N.2), n', ?_, ⟨⟨_, _, _, _, P2⟩, ⟨_, _, _, Nc', Np, Nl, _, _, _, D2, ⟨hb16.1, m3.2⟩, ⟨hb16.2, m4.2⟩, ⟨by decide, c134, p2, p3⟩, rfl⟩, h6.keep hn3 (fun z hz => ?_), h7.keep hn3 (fr 144 la.1 wa.1 wa.2.2.2.2.1 wa.2.2.2.2.2.2.1) (fun q => fr _ la.2.2.2.2.2.2.2 wb.1 wb.2.2.2.2.1 wb.2.2.2.2.2.2.1), h10.m' L cn1 (Or.inl rfl) (Or.inl rfl), fun z hz => (newI z hz).1⟩, p_pg P2, ⟨hn3, fr5, I3, ?_, ?_⟩, TU.all h8 h9 hn3 fr5, ⟨ca_h x, ca_k x, cu, pu, (fr2 n' (b132 _ n135)).trans u1, (fr2 (n' + 1) (b132 _ (Nat.le_trans n135 (Nat.le_add_right _ _)))).trans u2, (fr2 (n' + 2) (b132 _ (Nat.le_trans n135 (Nat.le_add_right _ _)))).trans u3, Nat.le_trans hn1 hn', Nat.lt_succ_self _, hD.ext (Nat.le_refl _) (Nat.le_refl _) (Nat.le_refl _) (fun j _ j2 => by rw [u4 j (Nat.lt_of_lt_of_le j2 (Nat.le_add_right _ _)), d1 j j2, m2.1 j j2]) (fun j hj => by rw [u5 j hj, m2.2.1 j hj]), by rw [u4 _ (Nat.lt_add_of_pos_right (by decide)), d2], by rw [show 2 * (ca_h x + 1) = 2 * ca_h x + 2 from Nat.mul_add 2 _ 1, u4 _ (Nat.add_lt_add_left (by decide) _), d4], hb⟩, hn', TU.off h8 h9 I3, fun z z1 z2 q => (newI z q).2 ⟨z1, z2⟩⟩
  · unfold x_Pars_read_b91
    rw [p_fa P0, Option.bind_some, if_neg (by decide), p_main P0, Option.bind_some, r1, bnd_some, r2, Option.bind_some, p_fa P2, Option.bind_some]
  · have w := h10.bd hz
    have w1 := w.1
    have lt := h6.lt
    have zl : z < n := by
      rcases hz with rfl | rfl | rfl | rfl
      · exact lt.1
      · exact lt.2.1
      · exact lt.2.2.1
      · exact lt.2.2.2
    exact fr z zl (b132 z (by clear wa wb la u6 cn1 vlt; omega)) w.2.1 w.2.2.1
  · show us' + 6 + (2 * ca_h x + 4) + ca_k x + 2 * (N.1 + N.2.1) + 4 * N.2.2 ≤ us + 2 * (Nc' + Np + Nl + N.2.1) + 4 * N.2.2 + (16 + 2 * ca_h x + ca_k x)
    have c1 := cost.1
    clear cost u6 wa wb la cn1 vlt
    omega
  · show 16 * (n' + 3) + N.1 + N.2.1 + 16 * N.2.2 ≤ 16 * n + (Nc' + Np + Nl) + N.2.1 + 16 * N.2.2 + 3 * (16 + 2 * ca_h x + ca_k x)
    have c1 := cost.2
    clear cost u6 wa wb la cn1 vlt
    omega
end
