/-! read(), by both -/
def MI (x : CA) (y : RA) (u : Nat) : Prop := (ca_h x ≤ 2 * u ∧ ca_k x ≤ 2 * u ∧ ra_m y ≤ 3 * u ∧ ra_v y ≤ u ∧ ra_p y = 0 ∧ 5 * ca_t x ≤ u) ∧ ∃ D : DSt, ImS 0 (ca_h x) (ca_t x) (u + 1) (ca_k x) (ca_c x) (ca_p x) D ∧ IrS 0 (ra_m y) 0 (ra_v y) (ca_t x) (u + 1) (ra_s y) (ra_q y) D
abbrev RS0 : Type := ID × N3 × HS × Nat × (Nat → Int32) × (Nat → Int64) × RE
/-- between two STATEMENTS or functions of a program; what came before read() is Q -/
def LI (Q : RS0) (s : HS) (E2 : RE) (y : RA) (u : Nat) : Prop := ∃ (E1 : CE) (x : CA) (I : ID) (N : N3) (k : Nat) (un : Nat → Nat) (TT : Nat → TI) (w0 : W2) (q : Nat) (T : TKc) (t : TKr), CS E1 s x I N k un TT ∧ JJ E1 163 E2 w0 u q T t x y ∧ RST E2 k TT u ∧ k00 (re_k E2) ∧ RX Q.2.2.2.2.2.2 E2 ∧ (ce_L E1 = Q.2.2.2.1 ∧ ce_g E1 = Q.2.2.2.2.1 ∧ ce_w E1 = Q.2.2.2.2.2.1) ∧ SF Q.1 Q.2.1 Q.2.2.1 I N s (16 * u) ∧ MI x y u ∧ ∀ i, i < k → Q.2.2.1.1 ≤ un i
/-- a program as both have read it -/
def RDok (Q : RS0) (s : HS) (E : RE) (y : RA) : Prop := ∃ (I : ID) (N : N3) (k : Nat) (un : Nat → Nat) (TT : Nat → TI) (pg lc nd : Nat) (D : DSt), CZ s Q.2.2.2.1 Q.2.2.2.2.1 Q.2.2.2.2.2.1 I N k un (-1) ∧ gR s 132 5 5 = some pg ∧ SF Q.1 Q.2.1 Q.2.2.1 I N s (24 * Q.2.2.2.1 + 16) ∧ (∀ i, i < k → TU s.2.1 s.1 (un i) (TT i)) ∧ PU s.2.1 s.1 pg lc nd D ∧ (Q.2.2.1.1 ≤ pg ∧ ∀ i, i < k → Q.2.2.1.1 ≤ un i) ∧ ((∀ i, i < k → ∀ z, un i ≤ z → z ≤ un i + 2 → ¬ PI I z) ∧ ∀ z, pg ≤ z → z ≤ pg + 2 → ¬ PI I z) ∧ EOR 163 E ∧ RST E k TT 1500 ∧ k00 (re_k E) ∧ (re_k E).2.2.1 = nI lc ∧ RX Q.2.2.2.2.2.2 E ∧ ∃ m, ra_m y = m + 1 ∧ m ≤ 4500 ∧ ra_v y ≤ 1500 ∧ ra_s y m = 28 ∧ IrS 0 m 0 (ra_v y) lc nd (ra_s y) (ra_q y) D
def RDno (Q : RS0) (s : HS) (cr : Nat) (E : RE) (y : RA) (qf : Nat) : Prop := ∃ (I : ID) (N : N3) (k : Nat) (un : Nat → Nat), CZ s Q.2.2.2.1 Q.2.2.2.2.1 Q.2.2.2.2.2.1 I N k un (nI qf) ∧ SF Q.1 Q.2.1 Q.2.2.1 I N s (24 * Q.2.2.2.1 + 16) ∧ RF y qf ∧ qf ≤ 1500 ∧ RZe cr E ∧ RX Q.2.2.2.2.2.2 E
def RDo (Q : RS0) (r1 r2 : Option (Int32 × HS)) : Prop := (∃ s' E y, r1 = some (-1, s') ∧ r2 = some (1, pm 163 E y) ∧ RDok Q s' E y) ∨ (∃ s' cr E y qf, r1 = some (nI qf, s') ∧ r2 = some (0, pm cr E y) ∧ RDno Q s' cr E y qf)
section
variable {Q : RS0} {E1 : CE} {E2 : RE} {w0 : W2} {u u' q d d1 d2 L k qf : Nat} {T : TKc} {t : TKr} {x x' : CA} {y y' : RA} {s s' : HS} {I : ID} {N : N3} {un : Nat → Nat} {TT : Nat → TI} {g : Nat → Int32} {ws : Nat → Int64}
theorem MI.seq (h : MI x y u) (g : QI 0 0 x y u x' y' u') : MI x' y' u' := by
  obtain ⟨h1, D, h2, h3⟩ := h
  obtain ⟨g1, g2, g3, g4, g5, g6, D', g7, g8⟩ := g
  refine ⟨by omega, sSeq D D', ImS_seq (Nat.zero_le _) g2.1 (h2.ext g5.1 (by omega) g2.2.2.1 (fun j _ hj => g2.2.1 j hj) (fun j hj => g2.2.2.2 j hj)) (g7.ext (Nat.le_refl _) (by omega) (Nat.le_refl _) (fun _ _ _ => rfl) (fun _ _ => rfl)), IrS_seq (Nat.zero_le _) g3.1 (h3.ext g5.1 (by omega) (Nat.le_refl _) g3.2.2.1 (fun j _ hj => g3.2.1 j hj) (fun j _ hj => g3.2.2.2.1 j hj)) (g8.ext (Nat.le_refl _) (by omega) (Nat.le_refl _) (Nat.le_refl _) (fun _ _ _ => rfl) (fun _ _ _ => rfl))⟩
theorem MI.same (h : MI x y u) (g : MX x x' y y') (hu : u < u') : MI x' y' u' := by
  obtain ⟨h1, D, h2, h3⟩ := h
  obtain ⟨⟨g1, g2, g3⟩, g4, g5, g6, g7⟩ := g
  have em : ra_m y' = ra_m y := congrArg (fun z => z.1) g6
  have ev : ra_v y' = ra_v y := congrArg (fun z => z.2.1) g6
  have es : ra_s y' = ra_s y := congrArg (fun z => z.2.2.1) g6
  have eq : ra_q y' = ra_q y := congrArg (fun z => z.2.2.2) g6
  refine ⟨by omega, D, ?_, ?_⟩
  · rw [g1, g2, g3]
    exact h2.ext (Nat.le_refl _) (by omega) (Nat.le_refl _) (fun j _ hj => g4 j hj) (fun j hj => g5 j hj)
  · rw [em, ev, g3, es, eq]
    exact h3.ext (Nat.le_refl _) (by omega) (Nat.le_refl _) (Nat.le_refl _) (fun _ _ _ => rfl) (fun _ _ _ => rfl)
/-- the class's loop ends behind a FAULT -/
theorem rd_bad {M : Nat} {z : Int32} (C : CZ s L g ws I N k un (nI qf)) (hq : qf ≤ 1500) : loopK (rdB d) (M + 1) (z, s) = some (nI qf, s) := by
  obtain ⟨⟨a, dr, pg, sg, P⟩, _⟩ := C
  have e : gI s 132 5 6 = some (nI qf) := p_fa (us := s.2.2) P
  have b : x_Pars_read_b91 d 132 s = some (nI qf, s) := by
    unfold x_Pars_read_b91
    rw [e, Option.bind_some, if_pos (nI_nlt0 (by omega)), Option.bind_some]
  rw [loopK_succ, rdB_eq, b, e, Option.bind_some, if_pos (nI_nlt0 (by omega))]
  by_cases c : 1500 < z
  · rw [if_pos c]
  · rw [if_neg c]
theorem LI.len (h : LI Q s E2 y u) : u ≤ Q.2.2.2.1 ∧ Q.2.2.2.1 ≤ 1500 := by
  obtain ⟨E1, x, I, N, k, un, TT, w0, q, T, t, C, J, R, h0, RXe, CEe, S, M, hun⟩ := h
  have h1 := J.tq.2.1
  have h2 := J.uq
  have h3 := J.er.1
  have h4 : re_L E2 = Q.2.2.2.1 := J.1.2.2.1.trans CEe.1
  omega
theorem j_rdL (hd1 : 260 ≤ d1) (hd2 : 260 ≤ d2) : ∀ j n M1 M2 s E2 y u, 1500 - u ≤ j → j + 2 ≤ M1 → j + 2 ≤ M2 → n ≤ u → LI Q s E2 y u → RDo Q (loopK (rdB d1) M1 (nI n, s)) (loopK (rrB d2) M2 (pm 163 E2 y)) := by
  obtain ⟨d1, rfl⟩ : ∃ k, d1 = k + 10 := ⟨d1 - 10, by omega⟩
  obtain ⟨d2, rfl⟩ : ∃ k, d2 = k + 10 := ⟨d2 - 10, by omega⟩
  intro j
  induction j using Nat.strongRecOn with
  | ind j ih =>
    intro n M1 M2 s E2 y u hj hM1 hM2 hn H
    have HL := H.len
    obtain ⟨E1, x, I, N, k, un, TT, w0, q, T, t, C, J, R, h0, RXe, CEe, S, M, hun⟩ := H
    obtain ⟨M1, rfl⟩ : ∃ k, M1 = k + 2 := ⟨M1 - 2, by omega⟩
    obtain ⟨M2, rfl⟩ : ∃ k, M2 = k + 1 := ⟨M2 - 1, by omega⟩
    have uq := J.uq
    have V := C.1
    have lw : ca_t x = ra_t y := J.2.2.2.2.1.1
    have mb := M.1
    rw [loopK_succ (k := M1 + 1), loopK_succ, rdB_eq, rrB_eq, if_neg (show ¬ (1500 : Int32) < nI n from Int32.not_lt.mpr (nI_le (a := n) (b := 1500) (by omega) (by omega))), kc_fa V, Option.bind_some, J.2.2.1, if_neg (show ¬ (0 : Int32) ≤ -1 by decide), kc_lx V, Option.bind_some, kc_kind V, bnd_some, J.kd, y_6 J.er, Option.bind_some, J.ar.2.1]
    by_cases c0 : T.2.1 = 0
    · rw [if_pos c0, if_pos (J.tq.fin.mpr c0), y_22 J.er, Option.bind_some, y_24 J.er, Option.bind_some, y_pc6 J.er, Option.bind_some, y_put (J.er.k6) (show ra_m y < 6000 by omega), bnd_some]
      obtain ⟨mb, D, m1, m2⟩ := M
      obtain ⟨s', I', N', pg, e1, e2, e3, e4, e5, e6, e7, e8, e9⟩ := cs_end (d := d1 + 7) C J.2.2.1 m1 ⟨by omega, by omega, by omega, by omega, by omega⟩
      rw [e1]
      rw [CEe.1, CEe.2.1, CEe.2.2] at e2
      have s1 : Q.2.2.1.1 ≤ s.1 := S.1
      refine Or.inl ⟨s', reK6 E2 (nI (ra_t y)), raPut y 28, rfl, rfl, I', N', k, un, TT, pg, ca_t x, u + 1, D, e2, e3, (S.trans e4).more (by omega), e5, e6, ⟨by omega, hun⟩, ⟨e8, e9⟩, J.er.k6, (R.more (by omega)).k6, h0, congrArg nI lw.symm, RXe.trans RX.k6, ra_m y, rfl, by omega, by show ra_v y ≤ 1500; omega, upA, m2.ext (Nat.le_refl _) (Nat.le_refl _) (Nat.le_refl _) (Nat.le_refl _) (fun i _ hi => upN (by omega)) (fun _ _ _ => rfl)⟩
    · rw [if_neg c0, if_neg (fun h => c0 (J.tq.fin.mp h)), kc_lx V, Option.bind_some, kc_kind V, bnd_some, J.kd, J.is (d := d2 + 6) (j := 12) (K := 5) 0 rfl (by decide) rfl, bnd_some, show nI n + 1 = nI (n + 1) from nI_add n 1]
      by_cases c5 : T.2.1 = 5
      · rw [if_pos c5, if_pos c5, if_neg (show ¬ (1 : Int32) = 0 by decide)]
        rcases j_fun (d1 := d1 + 10) (d2 := d2 + 10) (by omega) (by omega) C J c5 R h0 with ⟨s', E1', x', I', N', un', TT', E2', y', w0', u', q', T', t', e1, e2, C', J', R', h0', RX', CE', S', hu', MX', hun'⟩ | ⟨s2, I', N', cr, E, yy, qf, e1, e2, z2, f2, g2, q2, r2, x2⟩
        · have uq' := J'.uq
          have s1 : Q.2.2.1.1 ≤ s.1 := S.1
          rw [e1, e2, bnd_some, bnd_some, if_neg (show ¬ (1 : Int32) = 0 by decide)]
          refine ih (j - 1) (by omega) (n + 1) (M1 + 1) M2 s' E2' y' u' (by omega) (by omega) (by omega) (by omega) ⟨E1', x', I', N', k + 1, un', TT', w0', q', T', t', C', J', R', h0', RXe.trans RX', ⟨CE'.1.trans CEe.1, CE'.2.1.trans CEe.2.1, CE'.2.2.1.trans CEe.2.2⟩, (S.trans S').more (by omega), M.same MX' hu', fun i hi => ?_⟩
          rcases hun' i hi with ⟨a1, a2⟩ | a
          · rw [a2]
            exact hun i a1
          · omega
        · rw [CEe.1, CEe.2.1, CEe.2.2] at z2
          rw [e1, e2, bnd_some, bnd_some, if_pos rfl, rd_bad z2 q2]
          exact Or.inr ⟨s2, cr, E, yy, qf, rfl, rfl, I', N', k, un, z2, (S.trans f2).more (by omega), g2, q2, r2, RXe.trans x2⟩
      · rw [if_neg c5, if_neg c5, if_pos rfl]
        have O := (j_stm (E1 := E1) (cr := 163) (E2 := E2) (w0 := w0) (V0 := 0) (p := 0) (by decide) hb_0) (d1 + 9) (d2 + 9) (by omega) (by omega) s x y u q T t V J (Nat.zero_le _) (by omega) (by omega)
        dsimp only at O
        have cb : x_Pars_statement (d1 + 10) 132 0 s = x_Pars_statement_b (clP (d1 + 9)) (d1 + 9) 132 (nI 0) s := c_stm
        have rb : x_Mod_statement (d2 + 10) 160 0 (pm 163 E2 y) = x_Mod_statement_b (clM (d2 + 9)) (d2 + 9) 160 (nI 0) (pm 163 E2 y) := rfl
        rw [cb, rb]
        rcases O with ⟨s', x', y', u', q', T', t', e1, e2, V', J', Q'⟩ | ⟨s', x', y', qf, e1, e2, D', g2⟩
        · have uq' := J'.uq
          have hu' := Q'.1
          obtain ⟨E1', I', N', C', S', CE', _⟩ := cs_phase C V'
          rw [e1, e2, bnd_some, bnd_some, if_neg (show ¬ (1 : Int32) = 0 by decide)]
          exact ih (j - 1) (by omega) (n + 1) (M1 + 1) M2 s' E2 y' u' (by omega) (by omega) (by omega) (by omega) ⟨E1', x', I', N', k, un, TT, w0, q', T', t', C', J'.rebase C'.2.1 CE'.1 CE'.2.1, R.more (by omega), h0, RXe, ⟨CE'.1.trans CEe.1, CE'.2.1.trans CEe.2.1, CE'.2.2.1.trans CEe.2.2⟩, (S.trans S').more (by omega), M.seq Q', hun⟩
        · obtain ⟨E1', I', N', C', S', CE', _⟩ := cs_phase C D'.1
          have z2 := C'.rest
          rw [CE'.1, CE'.2.1, CE'.2.2.1, CEe.1, CEe.2.1, CEe.2.2, D'.2.2.1] at z2
          rw [e1, e2, bnd_some, bnd_some, if_pos rfl, rd_bad z2 D'.2.2.2.1]
          exact Or.inr ⟨s', 163, E2, y', qf, rfl, rfl, I', N', k, un, z2, (S.trans S').more (by omega), g2, D'.2.2.2.1, R.rz J.er h0, RXe⟩
/-- read() of both, from what lay between two runs -/
theorem j_read {s1 s2 : HS} {tm om : Int32} {Rl : List Value} (hd1 : 270 ≤ d1) (hd2 : 270 ≤ d2) (Y : CY s1 g ws I N) (Z : RY s2 g (nI L) om Rl) (hL : L ≤ 1500) (hb : ∀ j, j < L → isBt (g j)) (hws : ∀ i, i < 12 → ws i = Int64.ofNat (C128 8 (RWL.getD i []))) : ∃ E0 : RE, RDo (I, N, s1, L, g, ws, E0) (x_Pars_read d1 132 129 (nI L) s1) (x_Mod_read d2 160 s2) ∧ (re_L E0 = L ∧ re_g E0 = g ∧ re_tm E0 = 0 ∧ re_om E0 = om ∧ re_R E0 = Rl ∧ re_n E0 = s2.1 ∧ re_u E0 = s2.2.2) ∧ ∀ z, (z < 160 ∨ z = 161 ∨ z = 162 ∨ 186 < z) → re_f E0 z = s2.2.1 z := by
  obtain ⟨d1, rfl⟩ : ∃ k, d1 = k + 7 := ⟨d1 - 7, by omega⟩
  obtain ⟨d2, rfl⟩ : ∃ k, d2 = k + 6 := ⟨d2 - 6, by omega⟩
  obtain ⟨s', E1, x, un, a0, e1, C, S, ⟨l1, l2, l3⟩, ⟨x1, x2, x3, x4⟩, x5, x6⟩ := c_begin (d := d1) (TT := fun _ => ([], 0, 0, 0, 0, 0, 0, 0, sNop)) Y hL hb hws
  obtain ⟨E, y, b0, e2, er, ⟨r1, r2, r3, r4, r5, r6, r7⟩, rf, R, h0, ⟨y1, y2⟩, y3, y4, y5, y6⟩ := r_begin (d := d2) (TT := fun _ => ([], 0, 0, 0, 0, 0, 0, 0, sNop)) Z hL
  obtain ⟨q, T, t, JJx⟩ := JX.first (g := g) (ws := ws) (L := L) (a0 := a0) (b0 := b0) hL hb hws
  refine ⟨E, ?_, ⟨r1, r2, r3, r4, r5, r6, r7⟩, rf⟩
  rw [e1, e2]
  refine j_rdL (by omega) (by omega) 1500 0 FU FU s' E y 0 (by omega) (by rw [FU_eq]; omega) (by rw [FU_eq]; omega) (Nat.le_refl _) ⟨E1, x, I, N, 0, un, _, (a0.2.1 + 1, b0.2.2.2.2.2.1 + 1), q, T, t, C, ⟨⟨C.2.1, er, r1.trans l1.symm, r2.trans l2.symm⟩, ?_, x4, ?_, ⟨by omega, fun _ => [], fun i hi => by omega, fun i j hi => by omega⟩, by omega⟩, R, h0, RX.rfl', ⟨l1, l2, l3⟩, S.more (by omega), ⟨by omega, sNop, ?_, ?_⟩, fun i hi => absurd hi (Nat.not_lt_zero _)⟩
  · rw [l1, l2, x5, y1]
    exact JJx
  · rw [y1]
    exact y2
  · rw [x1]
    exact ImS_nop
  · rw [y3]
    exact IrS_nop
end
