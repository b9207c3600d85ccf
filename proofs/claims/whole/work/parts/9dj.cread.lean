/-! the class's read(), up to its loop -/
def rdB (d : Nat) : (Int32 × HS → Option (Int32 × HS)) → Int32 × HS → Option (Int32 × HS) := (fun (again38 : Int32 × HS → Option (Int32 × HS)) (z38 : Int32 × HS) => (if 1500 < z38.1 then (x_Pars_read_b91 d 132 z38.2) else ((gI z38.2 132 5 6).bind fun v20 => (if 0 ≤ v20 then (x_Pars_read_b91 d 132 z38.2) else ((gR z38.2 132 5 0).bind fun v21 => (bnd (x_Lexer_kind d v21 z38.2) fun v23 s22 => (if v23 = 0 then (x_Pars_read_b91 d 132 s22) else ((gR s22 132 5 0).bind fun v24 => (bnd (x_Lexer_kind d v24 s22) fun v26 s25 => (if v26 = 5 then (bnd (x_Pars_function d 132 s25) fun v28 s27 => (again38 ((z38.1 + 1), s27))) else (bnd (x_Pars_statement d 132 0 s25) fun v30 s29 => (again38 ((z38.1 + 1), s29)))))))))))))
theorem rdB_eq {d : Nat} {z : Int32} {s : HS} {ag : Int32 × HS → Option (Int32 × HS)} : rdB d ag (z, s) = (if 1500 < z then (x_Pars_read_b91 d 132 s) else ((gI s 132 5 6).bind fun v20 => (if 0 ≤ v20 then (x_Pars_read_b91 d 132 s) else ((gR s 132 5 0).bind fun v21 => (bnd (x_Lexer_kind d v21 s) fun v23 s22 => (if v23 = 0 then (x_Pars_read_b91 d 132 s22) else ((gR s22 132 5 0).bind fun v24 => (bnd (x_Lexer_kind d v24 s22) fun v26 s25 => (if v26 = 5 then (bnd (x_Pars_function d 132 s25) fun v28 s27 => (ag ((z + 1), s27))) else (bnd (x_Pars_statement d 132 0 s25) fun v30 s29 => (ag ((z + 1), s29)))))))))))) := rfl
theorem rd_eq {d : Nat} {x2 : Int32} {s : HS} : x_Pars_read (d + 1) 132 129 x2 s = gd s 132 5 ((gR s 132 5 0).bind fun v1 => (bnd (x_Lexer_begin d v1 129 x2 s) fun v3 s2 => ((pV s2 132 5 6 (.int (-1))).bind fun s4 => ((gR s4 132 5 4).bind fun v5 => (bnd (x_AL_clear d v5 s4) fun v7 s6 => ((gR s6 132 5 1).bind fun v8 => (bnd (x_Draft_clear d v8 s6) fun v10 s9 => ((gR s9 132 5 1).bind fun v11 => ((pV s9 132 5 3 (.ref v11)).bind fun s12 => loopK (rdB d) FU (nI 0, s12)))))))))) := rfl
section
variable {s : HS} {g : Nat → Int32} {ws : Nat → Int64} {I : ID} {N : N3} {L d : Nat} {TT : Nat → TI}
theorem c_begin (Y : CY s g ws I N) (hL : L ≤ 1500) (hb : ∀ j, j < L → isBt (g j)) (hws : ∀ i, i < 12 → ws i = Int64.ofNat (C128 8 (RWL.getD i []))) : ∃ (s' : HS) (E1 : CE) (x : CA) (un : Nat → Nat) (a0 : LxS), x_Pars_read (d + 7) 132 129 (nI L) s = loopK (rdB (d + 6)) FU (nI 0, s') ∧ CS E1 s' x I N 0 un TT ∧ SF I N s I N s' 0 ∧ (ce_L E1 = L ∧ ce_g E1 = g ∧ ce_w E1 = ws) ∧ (ca_h x = 0 ∧ ca_k x = 0 ∧ ca_t x = 0 ∧ ca_f x = -1) ∧ ca_a x = advS g ws L 0 a0 ∧ a0.2.1 = -1 := by
  obtain ⟨n, f, us⟩ := s
  obtain ⟨⟨dr, pg, fa, sg, h1⟩, ⟨tx, ln, a, h2⟩, h3, h4, h5, h6, h7, ⟨k, un, h8⟩, h9, h10⟩ := Y
  have h1 : f 132 = .inr (5, [.ref 133, .ref 136, .ref 140, .ref dr, .ref 144, .ref pg, .int fa, .int sg]) := h1
  have h2 : f 133 = lxT tx ln a := h2
  have h3 : f 129 = .inl (.byte, 1500, fun j => .int (g j)) := h3
  have h4 : f 134 = .inl (.long, 12, fun j => .long (ws j)) := h4
  have h5 : 1311 ≤ n := h5
  have b := e_begin (d := d) (us := us) h2 h5 h3 h4 hL
  obtain ⟨A, hA⟩ : ∃ A, A = advS g ws L 0 (nI 0, -1, a.2.2) := ⟨_, rfl⟩
  rw [← hA] at b
  have wa := h9.al (Or.inl rfl)
  have wb := h9.al (Or.inr rfl)
  have p1 := (h9.mn (Or.inr (Or.inl rfl))).1
  have p2 := (h9.mn (Or.inr (Or.inr (Or.inl rfl)))).1
  have p3 := (h9.mn (Or.inr (Or.inr (Or.inr rfl)))).1
  obtain ⟨f2, hf2⟩ : ∃ f2, f2 = va_up (va_up f 133 (lxS L A)) 132 (.inr (5, [.ref 133, .ref 136, .ref 140, .ref dr, .ref 144, .ref pg, .int (-1), .int sg])) := ⟨_, rfl⟩
  have e1 : va_up f 133 (lxS L A) 132 = .inr (5, [.ref 133, .ref 136, .ref 140, .ref dr, .ref 144, .ref pg, .int fa, .int sg]) := (va_up_ne _ _ (by decide)).trans h1
  have b2 : pV (n, va_up f 133 (lxS L A), us) 132 5 6 (.int (-1)) = some (n, f2, us) := by
    rw [pV_of (s := (n, va_up f 133 (lxS L A), us)) e1 (by decide) (show 132 < n by omega) (by show 6 < 8; decide), hf2]
    rfl
  have P2 : PW n f2 L g ws A dr pg (-1) sg := by
    rw [hf2]
    exact ⟨va_up_self _ _ _, (va_up_ne _ _ (by decide)).trans (va_up_self _ _ _), (va_up_ne _ _ (by decide)).trans ((va_up_ne _ _ (by decide)).trans h3), (va_up_ne _ _ (by decide)).trans ((va_up_ne _ _ (by decide)).trans h4), h5, hL⟩
  have fr2 : ∀ z, z ≠ 132 → z ≠ 133 → f2 z = f z := fun z z1 z2 => by rw [hf2, va_up_ne _ _ z1, va_up_ne _ _ z2]
  clear hf2
  have A2 : ALR (n, f2, us) k N.2.2 (ia I) un := h8.keep (Nat.le_refl _) (fr2 144 (by decide) (by decide)) (fun q => fr2 _ wb.1 wb.2.1)
  obtain ⟨⟨n3, f3, us3⟩, b3, A3, en3, eu3, fr3⟩ := al_clear (d := d + 6) A2
  have en3 : n3 = n := en3
  have eu3 : us3 = us := eu3
  subst en3 eu3
  have fr3 : ∀ z, z ≠ 144 → z ≠ ia I → f3 z = f2 z := fr3
  have P3 : PW n3 f3 L g ws A dr pg (-1) sg := P2.kept (Nat.le_refl _) (fun z hz => by
    rcases hz with rfl | rfl | rfl | rfl
    · exact fr3 _ (by decide) wb.1.symm
    · exact fr3 _ (by decide) wb.2.1.symm
    · exact fr3 _ (by decide) wb.2.2.1.symm
    · exact fr3 _ (by decide) wb.2.2.2.1.symm)
  obtain ⟨a0, b0, t0, Nc, Np, Nl, co, po, lo, B1, B2, B3, B4, B5⟩ := h6
  have B1' : DR n3 f3 136 (ic I) (ip I) (il I) a0 b0 t0 Nc Np Nl co po lo := B1.kept (Nat.le_refl _) (fun z hz => by
    have w := h9.mn hz
    have w1 := w.1
    clear wa wb B1 B2 B3 B4 B5 h9 h10 h7 h8
    rw [fr3 z w.2.2.2.2.2.1 w.2.2.2.2.2.2]
    exact fr2 z (by omega) (by omega))
  obtain ⟨f4, b4, D4, fr4⟩ := e_clear (us := us3) (d := d + 6) B1'
  have P4 : PW n3 f4 L g ws A dr pg (-1) sg := P3.kept (Nat.le_refl _) (fun z hz => by
    rcases hz with rfl | rfl | rfl | rfl <;> exact fr4 _ (by decide))
  obtain ⟨f5, b5, P5, fr5⟩ := p_turn (us := us3) (k := 136) P4
  have D5 : DR n3 f5 136 (ic I) (ip I) (il I) 0 0 0 Nc Np Nl co po lo := D4.kept (Nat.le_refl _) (fun z hz => by
    have w := (h9.mn hz).1
    clear wa wb B1 B2 B3 B4 B5 h9 h10 h7 h8
    exact fr5 z (by omega))
  have fr : ∀ z, z ≠ 132 → z ≠ 133 → z ≠ 136 → z ≠ 144 → z ≠ ia I → f5 z = f z := fun z z1 z2 z3 z4 z5 => by
    rw [fr5 z z1, fr4 z z3, fr3 z z4 z5, fr2 z z1 z2]
  refine ⟨(n3, f5, us3), (L, g, ws, (n3, us3, f5), (136, pg), (ic I, ip I, il I), (Nc, Np, Nl)), (A, -1, sg, 0, 0, 0, co, po, lo), un, (nI 0, -1, a.2.2), ?_, ⟨⟨ic I, ip I, il I, Nc, Np, Nl, co, po, lo, P5, D5, fun _ _ => rfl, fun _ _ => rfl, fun _ _ => rfl, ⟨Or.inl rfl, Or.inl rfl, Or.inl rfl⟩, Nat.le_refl _, fun z _ _ _ _ _ _ _ => rfl, ⟨rfl, Nat.le_refl _⟩, B2, B3⟩, ⟨hL, hb, hws, h5, by show 134 < 136; decide, p1, p2, p3, D5.2.2.2.2.2.2.1.1⟩, rfl, ⟨rfl, rfl, rfl⟩, ⟨rfl, rfl, rfl, B5.symm⟩, h7.keep (Nat.le_refl _) (fun z hz => ?_), A3.keep (Nat.le_refl _) ?_ (fun q => ?_), fun i hi => absurd hi (Nat.not_lt_zero _), fun i hi => absurd hi (Nat.not_lt_zero _), h9, h10⟩, ⟨Nat.le_refl _, fun z z1 z2 => ?_, fun z hz => Or.inl hz, Nat.le_refl _, Nat.le_refl _⟩, ⟨rfl, rfl, rfl⟩, ⟨rfl, rfl, rfl, rfl⟩, hA, rfl⟩
  · rw [rd_eq, gd_of (s := (n3, f, us3)) h1 (by decide) (show 132 < n3 by omega), gR_of (s := (n3, f, us3)) (k := 0) (x := 133) h1 (by decide) (show 132 < n3 by omega) rfl, Option.bind_some, b, bnd_some, b2, Option.bind_some, p_told P2, Option.bind_some, b3, bnd_some, p_main P3, Option.bind_some, b4, bnd_some, p_main P4, Option.bind_some, b5, Option.bind_some]
  · have w := h9.bd hz
    have w1 := w.1
    clear wa wb B1 B2 B3 B4 B5 h9 h10 h7 h8
    exact fr z (by omega) (by omega) w.2.1 w.2.2.2.2.2.1 w.2.2.2.2.2.2
  · show f5 144 = f3 144
    rw [fr5 144 (by decide), fr4 144 (by decide)]
  · show f5 (ia I) = f3 (ia I)
    rw [fr5 _ wb.1, fr4 _ wb.2.2.2.2.1]
  · have w := PI.no z2
    exact fr z w.1 w.2.1 w.2.2.1 w.2.2.2.2.1 w.2.2.2.2.2.2.2.2.2.2.2
end
