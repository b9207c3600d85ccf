/-! a function, by both parsers -/
def k00 (kk : KQ) : Prop := kk.2.1 = 0 ∧ kk.2.2.2.1 = 0 ∧ kk.2.2.2.2.1 = 0
/-- the reference's parser at rest -/
def RZe (cr : Nat) (E : RE) : Prop := EOR cr E ∧ (∃ A, TA (re_f E) A) ∧ (∃ g, re_f E 185 = aLong 1500 g) ∧ ((cr = 163 ∧ k00 (re_k E) ∧ ∃ kk m v sp q, CRest 177 E kk m v sp q) ∨ (cr = 177 ∧ ∃ kk m v sp q, CRest 163 E kk m v sp q ∧ k00 kk))
/-- a FAULT of both, at one place -/
def FZ (I : ID) (N : N3) (s : HS) (k : Nat) (un : Nat → Nat) (L : Nat) (g : Nat → Int32) (ws : Nat → Int64) (E2 : RE) (r1 : Option (Unit × HS)) (r2 : Option (Int32 × HS)) : Prop := ∃ (s2 : HS) (I' : ID) (N' : N3) (cr : Nat) (E : RE) (y : RA) (qf : Nat), r1 = some ((), s2) ∧ r2 = some (0, pm cr E y) ∧ CZ s2 L g ws I' N' k un (nI qf) ∧ SF I N s I' N' s2 0 ∧ RF y qf ∧ qf ≤ 1500 ∧ RZe cr E ∧ RX E2 E
/-- the program's own code is as it was -/
def MX (x x' : CA) (y y' : RA) : Prop := (ca_h x' = ca_h x ∧ ca_k x' = ca_k x ∧ ca_t x' = ca_t x) ∧ (∀ j, j < 2 * ca_h x → ca_c x' j = ca_c x j) ∧ (∀ j, j < ca_k x → ca_p x' j = ca_p x j) ∧ y'.2.1 = y.2.1 ∧ ra_p y' = ra_p y
theorem sub_w {w : Int32} {a b : Nat} (h : b ≤ a) : w + nI a - (w + nI b) = nI (a - b) := by
  have e : nI a = nI b + nI (a - b) := by rw [nI_ad2]; congr 1; omega
  rw [e, ← Int32.add_assoc, Int32.add_comm (w + nI b), Int32.add_sub_cancel]
section
variable {E1 E' : CE} {cr : Nat} {E2 E : RE} {w0 : W2} {u q d d1 d2 V0 A B qf m v : Nat} {T : TKc} {t : TKr} {x x' x1 : CA} {y y1 : RA} {s s' : HS} {I : ID} {N : N3} {k : Nat} {un : Nat → Nat} {TT : Nat → TI} {w : List Nat} {k0 : KQ} {sp : Nat → Int32} {qq : Nat → VQ} {P : TAr → Prop}
theorem JJ.new (J : JJ E1 cr E2 w0 u q T t x y) : JJ E1 cr E2 w0 u q T t (caNew x) (raZ y) := by
  obtain ⟨k1, k2, k3, k4, k5, k6⟩ := J
  exact ⟨k1, k2, k3, k4, ⟨rfl, fun _ => [], fun i hi => absurd hi (Nat.not_lt_zero _), fun i j hi => absurd hi (Nat.not_lt_zero _)⟩, Nat.zero_le _, Nat.zero_le _, Nat.zero_le _, k6.2.2.2⟩
theorem RST.rz (R : RST E k TT u) (h : EOR 163 E) (h0 : k00 (re_k E)) : RZe 163 E := by
  obtain ⟨A, g, kk, m, v, sp, q, r1, r2, r3, r4, r5, r6⟩ := R
  exact ⟨h, ⟨A, r2⟩, ⟨g, r3⟩, Or.inl ⟨rfl, h0, kk, m, v, sp, q, r4⟩⟩
theorem RB.rz (R : RB E k TT w k0 y1 m v sp qq P) (h : EOR 177 E) (h0 : k00 k0) : RZe 177 E := by
  obtain ⟨A, g, b1, b2, b3, b4, b5, b6, b7, b8⟩ := R
  exact ⟨h, ⟨A, b2⟩, ⟨g, b3⟩, Or.inr ⟨rfl, k0, _, _, _, _, b6, h0⟩⟩
theorem j_fun (hd1 : 250 ≤ d1) (hd2 : 250 ≤ d2) (C : CS E1 s x I N k un TT) (J : JJ E1 163 E2 w0 u q T t x y) (hk : T.2.1 = 5) (R : RST E2 k TT u) (h0 : k00 (re_k E2)) : (∃ s' E1' x' I' N' un' TT' E2' y' w0' u' q' T' t', x_Pars_function d1 132 s = some ((), s') ∧ x_Mod_function d2 160 (pm 163 E2 y) = some (1, pm 163 E2' y') ∧ CS E1' s' x' I' N' (k + 1) un' TT' ∧ JJ E1' 163 E2' w0' u' q' T' t' x' y' ∧ RST E2' (k + 1) TT' u' ∧ k00 (re_k E2') ∧ RX E2 E2' ∧ CEs E1 E1' ∧ SF I N s I' N' s' (16 * (u' - u)) ∧ u < u' ∧ MX x x' y y' ∧ ∀ i, i < k + 1 → (i < k ∧ un' i = un i) ∨ s.1 ≤ un' i) ∨ FZ I N s k un (ce_L E1) (ce_g E1) (ce_w E1) E2 (x_Pars_function d1 132 s) (x_Mod_function d2 160 (pm 163 E2 y)) := by
  obtain ⟨d1, rfl⟩ : ∃ k, d1 = k + 11 := ⟨d1 - 11, by omega⟩
  obtain ⟨d2, rfl⟩ : ∃ k, d2 = k + 10 := ⟨d2 - 10, by omega⟩
  have n0 : ¬ T.2.1 = 0 := by rw [hk]; decide
  have n1 : ¬ T.2.1 = 1 := by rw [hk]; decide
  have uq := J.uq
  have bJ := J.2.2.2.2.2
  have f3 := J.tq.fun3 hk
  have k8 : 8 * k ≤ u := by
    obtain ⟨A, g, kk, m, v, sp, q, r1, r2, r3, r4, r5, r6⟩ := R
    exact r6.2.2
  have k2 : k < 190 := by omega
  obtain ⟨s1, e1, V1⟩ := jj_take (d := d1 + 4) C.1 J hk (by decide) (by decide)
  obtain ⟨q1, T1, t1, J1, hq1⟩ := J.adv n0 n1
  have stp := jj_step (d := d2 + 4) J
  obtain ⟨X1, hX1⟩ : ∃ X1, X1 = cav E1 t x := ⟨_, rfl⟩
  obtain ⟨Y1, hY1⟩ : ∃ Y1, Y1 = rav E2 t y := ⟨_, rfl⟩
  have hx1 : ca_h X1 = ca_h x ∧ ca_k X1 = ca_k x ∧ ca_t X1 = ca_t x ∧ ca_c X1 = ca_c x ∧ ca_p X1 = ca_p x ∧ ca_l X1 = ca_l x := by rw [hX1]; exact ⟨rfl, rfl, rfl, rfl, rfl, rfl⟩
  have hy1 : Y1.2 = y.2 := by rw [hY1]
  rw [← hX1] at V1 J1
  rw [← hY1] at J1 stp
  clear hX1 hY1
  obtain ⟨Ea, Ia, Na, Ca, SFa, CEa, _⟩ := cs_phase C V1
  obtain ⟨s2, s3, E', a1, a2, a3, a4, V3, Bs, CEb, b1, b2, b3⟩ := cs_fun (d := d1 + 10) Ca
  have SFb : SF Ia Na s1 Ia Na (ce_S E') 0 := ⟨by show s1.1 ≤ ce_n E'; omega, fun z z1 z2 => b3 z (fun q => z2 (by unfold PI; omega)) (fun q => z2 (by unfold PI; omega)), fun z h => Or.inl h, by show ce_u E' + _ + _ ≤ _; omega, by show 16 * ce_n E' + _ + _ + _ ≤ _; omega⟩
  have SFab := SFa.trans SFb
  have CEe : CEs E1 E' := ⟨CEb.1.trans CEa.1, CEb.2.1.trans CEa.2.1, CEb.2.2.1.trans CEa.2.2.1, CEb.2.2.2.trans CEa.2.2.2⟩
  have cz : ∀ {s2 : HS} {I' : ID} {N' : N3} {qf : Nat}, CZ s2 (ce_L E') (ce_g E') (ce_w E') I' N' k un (nI qf) → CZ s2 (ce_L E1) (ce_g E1) (ce_w E1) I' N' k un (nI qf) := fun h => by
    rw [← CEe.1, ← CEe.2.1, ← CEe.2.2.1]
    exact h
  have lw1 := J1.2.2.2.2.1
  have Jz : JJ E' 163 E2 (w0.1 - 2, w0.2 - 2) (u + 1 + 2) q1 T1 t1 (caNew X1) (raZ Y1) := ((J1.shift (by omega)).rebase Bs.1 CEe.1 CEe.2.1).new
  generalize (w0.1 - 2, w0.2 - 2) = w1 at Jz
  have ty1 : ra_t Y1 ≤ 1500 := by
    have : ca_t X1 = ra_t Y1 := lw1.1
    omega
  have eF : x_Pars_function (d1 + 11) 132 s = bnd (x_Pars_takeName (d1 + 10) 132 s3) fun v9 s8 => (bnd (x_Pars_names (d1 + 10) 132 s8) fun v11 s10 => fcT (d1 + 10) v9 v11 s10) := by
    rw [fc_eq (d := d1 + 10), kc_gd C.1, e1, bnd_some, a1, Option.bind_some, a2, bnd_some, a3, Option.bind_some, a4, Option.bind_some]
  rw [eF]
  by_cases c2 : T1.2.1 = 2
  · have m0 : ¬ T1.2.1 = 0 := by rw [c2]; decide
    have m1 : ¬ T1.2.1 = 1 := by rw [c2]; decide
    obtain ⟨Ec, m, v, sp, qq, g1, g2, g3, g4, g5⟩ := r_fbeg (d := d2) J.er R (by omega) ty1 stp J1.ar J1.tq c2
    obtain ⟨s4, e4, V4⟩ := jj_takeName (d := d1 + 3) V3 Jz c2
    obtain ⟨q2, T2, t2, J2, _⟩ := Jz.adv m0 m1
    have okw : okN (nmL (re_g E2) q1 (t1.1 - q1)) := (J1.tq.nm c2).1
    rw [g1, e4, bnd_some]
    have J3 : JJ E' 177 Ec w1 (u + 1 + 2 + 1) q2 T2 t2 (cav E' t1 (caNew X1)) (raT (raZ (rav E2 t1 Y1)) m v sp qq) := (J2.chg (x' := cav E' t1 (caNew X1)) (y' := raT (raZ (rav E2 t1 Y1)) m v sp qq) ⟨rfl, rfl, rfl, rfl⟩ ⟨rfl, rfl⟩ ⟨Nat.zero_le _, Nat.zero_le _, by show m ≤ _; omega, by show v ≤ _; omega, by show ra_p Y1 ≤ _; have := J1.2.2.2.2.2; omega⟩).turnR g2 (congrArg (fun z => z.1) g3.1) (congrArg (fun z => z.2) g3.1)
    obtain ⟨X2, hX2⟩ : ∃ X2, X2 = cav E' t1 (caNew X1) := ⟨_, rfl⟩
    obtain ⟨Y2, hY2⟩ : ∃ Y2, Y2 = raT (raZ (rav E2 t1 Y1)) m v sp qq := ⟨_, rfl⟩
    have hx2 : ca_h X2 = 0 ∧ ca_k X2 = 0 ∧ ca_t X2 = 0 := by rw [hX2]; exact ⟨rfl, rfl, rfl⟩
    have hy2 : Y2.2.1 = (m, v, sp, qq) ∧ Y2.2.2.2 = Y1.2.2.2 := by rw [hY2]; exact ⟨rfl, rfl⟩
    rw [← hX2] at J3 V4
    rw [← hY2] at J3 ⊢
    clear hX2 hY2 J2
    generalize hnm : nmL (re_g E2) q1 (t1.1 - q1) = nm at g5 okw ⊢
    rcases j_names (d1 := d1) (d2 := d2) (l1 := nI (ra_t Y1)) V4 J3 hx2.2.2 with ⟨s5, x5, y5, u5, q5, T5, t5, n, r1e, r2e, V5, J5, ht5, hn4, SC, SR', hu5⟩ | ⟨s5, x5, y5, qf, z5, r1e, r2e, D5, gf⟩
    · rw [r1e, r2e, f167_eq]
      by_cases c41 : T5.2.1 = 41
      · have p0 : ¬ T5.2.1 = 0 := by rw [c41]; decide
        have p1 : ¬ T5.2.1 = 1 := by rw [c41]; decide
        obtain ⟨s6, e6, V6⟩ := jj_take (d := d1 + 3) V5 J5 c41 (by decide) (by decide)
        obtain ⟨q6, T6, t6, J6, _⟩ := J5.adv p0 p1
        have lt5 := J5.lt p0 p1
        have lw5 : ca_t x5 = ra_t y5 := J5.2.2.2.2.1.1
        rw [e6, bnd_some, bnd_some, jj_rtake (d := d2 + 3) (j := 16) J5 2 rfl (by decide) c41, bnd_some, if_neg (show ¬ (1 : Int32) = 0 by decide)]
        obtain ⟨X6, hX6⟩ : ∃ X6, X6 = cav E' t5 x5 := ⟨_, rfl⟩
        obtain ⟨Y6, hY6⟩ : ∃ Y6, Y6 = rav Ec t5 y5 := ⟨_, rfl⟩
        have hx6 : ca_h X6 = 0 ∧ ca_k X6 = 0 ∧ ca_t X6 = n := by rw [hX6]; exact ⟨SC.1.trans hx2.1, SC.2.1.trans hx2.2.1, ht5⟩
        have hy6 : Y6.2.1 = (m, v, sp, qq) ∧ Y6.2.2.2 = Y1.2.2.2 ∧ ra_t Y6 = n := by rw [hY6]; exact ⟨SR'.1.trans hy2.1, SR'.2.trans hy2.2, lw5.symm.trans ht5⟩
        rw [← hX6] at V6 J6
        rw [← hY6] at J6 ⊢
        clear hX6 hY6
        have em : ra_m Y6 = m := congrArg (fun z => z.1) hy6.1
        have ev : ra_v Y6 = v := congrArg (fun z => z.2.1) hy6.1
        have es : ra_s Y6 = sp := congrArg (fun z => z.2.2.1) hy6.1
        have eq : ra_q Y6 = qq := congrArg (fun z => z.2.2.2) hy6.1
        obtain ⟨Ed, h1, h2, h3⟩ := r_f1 (d := d2 + 9) (l1 := nI (ra_t Y1)) (y5 := Y6) g2 g5 (by omega)
        have hEd := h2.eor g2
        have J6' : JJ E' 177 Ed w1 (u5 + 1) q6 T6 t6 X6 Y6 := J6.turnR hEd (congrArg (fun z => z.1) h2.1) (congrArg (fun z => z.2) h2.1)
        have tk6 : (ca_a X6).2.1 = w1.1 + nI (u5 + 1) := J6.2.1.2.2.2.1
        have tr6 : (ra_b Y6).2.2.2.2.2.1 = w1.2 + nI (u5 + 1) := J6.2.1.2.2.2.2.1
        rw [h1]
        unfold fcT
        have O := j_blk0 (V0 := ra_v Y6) (d1 := d1 + 9) (d2 := d2 + 8) (by omega) (by omega) V6 J6' (Nat.le_refl _) (by omega) (by omega)
        have cb : x_Pars_block (d1 + 10) 132 0 s6 = x_Pars_block_b (clP (d1 + 9)) (d1 + 9) 132 (nI 0) s6 := c_blk
        have rb : x_Mod_block (d2 + 9) 160 0 (pm 177 Ed Y6) = x_Mod_block_b (clM (d2 + 8)) (d2 + 8) 160 (nI 0) (pm 177 Ed Y6) := r_blk
        rw [kc_lx V6, Option.bind_some, kc_taken V6, bnd_some, cb, rb]
        rcases O with ⟨s7, x7, y7, u7, q7, T7, t7, o1, o2, V7, J7, Q7, hu7⟩ | ⟨s7, x7, y7, qf, o1, o2, D7, gf⟩
        · rw [o1, o2, bnd_some, bnd_some, if_neg (show ¬ (1 : Int32) = 0 by decide)]
          obtain ⟨z1, z2, z3, z4, ⟨z5, z6⟩, ⟨z7, z8, z9, z10⟩, D, z11, z12⟩ := Q7
          have uq7 := J7.uq
          have lw7 : ca_t x7 = ra_t y7 := J7.2.2.2.2.1.1
          have tk7 : (ca_a x7).2.1 = w1.1 + nI u7 := J7.2.1.2.2.2.1
          have tr7 : (ra_b y7).2.2.2.2.2.1 = w1.2 + nI u7 := J7.2.1.2.2.2.2.1
          have b7 := J7.2.2.2.2.2
          rw [hx6.1] at z11 z7
          rw [hx6.2.1] at z8
          rw [hx6.2.2] at z5 z6
          obtain ⟨vv, s8, s9, s10, E3, I', N', co, po, lo, y1', y2', y3', y4', y5', y6', y7', y8', y9'⟩ := bs_ok (d := d1 + 7) (d' := d1 + 4) (np := n) (w := nm) (ma := m) (mb := ra_m y7) (va := v) (vb := ra_v y7) Bs V7 (by omega) okw z11 ⟨by omega, by omega, by omega, hn4, by omega, by omega, by omega⟩
          rw [hy6.2.2, em, ev] at h3
          have m7 : m ≤ ra_m y7 ∧ ∀ j, j < m → ra_s y7 j = sp j := by
            have := z3.1
            have h := z3.2.1
            rw [em] at this h
            rw [es] at h
            exact ⟨this, h⟩
          have v7 : v ≤ ra_v y7 ∧ ∀ j, j < v → ra_q y7 j = qq j := by
            have := z3.2.2.1
            have h := z3.2.2.2.1
            rw [ev] at this h
            rw [eq] at h
            exact ⟨this, h⟩
          rw [em, ev, lw7] at z12
          obtain ⟨Ez, l, x1', x2', x3', x4', x5', x6'⟩ := r_f2 (d := d2 + 9) (u := u7) (tn := u7 - (u5 + 1)) (v79 := (ra_b Y6).2.2.2.2.2.1) (y6 := y7) hEd h3 (by omega) ty1 (by omega) ⟨Nat.le_refl _, m7.1, by omega⟩ m7.2 ⟨v7.1, by omega⟩ v7.2 z12 (by rw [tr7, tr6]; exact sub_w (by omega)) (by omega)
          rw [lw7] at y5'
          refine Or.inl ⟨s10, E3, _, I', N', _, _, Ez, _, w1, u7, q7, T7, t7, ?_, x1', y5', ?_, x6', ?_, g3.trans (h2.rx.trans x5'), ?_, (SFab.trans y8').more (by omega), by omega, ?_, fun i hi => ?_⟩
          · unfold fcE
            rw [kc_fa V7, Option.bind_some, J7.2.2.1, if_neg (by decide), show gR s7 132 5 4 = some 144 from p_told (us := s7.2.2) V7.pw, Option.bind_some, show gR s7 132 5 2 = some 140 from p_body (us := s7.2.2) V7.pw, Option.bind_some, kc_lx V7, Option.bind_some, kc_taken V7, bnd_some, tk7, tk6, sub_w (by omega), y1', bnd_some, y2', bnd_some, y3', Option.bind_some, y4', Option.bind_some]
          · obtain ⟨⟨i1, i2, i3, i4⟩, i5, i6, i7, i8, i9⟩ := J7
            obtain ⟨lt, lwf, l1, l2⟩ := lw1
            have bJ1 := J1.2.2.2.2.2
            exact ⟨⟨y5'.2.1, x2', (congrArg (fun z => z.1) x5'.1).trans (i3.trans y7'.1.symm), (congrArg (fun z => z.2) x5'.1).trans (i4.trans y7'.2.1.symm)⟩, by rw [y7'.1, y7'.2.1]; exact i5, i6, i7, ⟨lt, lwf, fun i hi => ⟨(l1 i hi).1, (y6'.2.2 i hi).trans (l1 i hi).2.1, (x3' i (Nat.lt_of_lt_of_eq hi lt)).trans (l1 i hi).2.2⟩, l2⟩, by show ca_h X1 ≤ _; omega, by show ca_k X1 ≤ _; omega, by show ca_t X1 ≤ _; omega, by show ra_m Y1 ≤ _; omega, by show ra_v Y1 ≤ _; omega, by show ra_p y7 ≤ _; omega⟩
          · rw [x4']
            exact h0
          · exact ⟨y7'.1.trans CEe.1, y7'.2.1.trans CEe.2.1, y7'.2.2.1.trans CEe.2.2.1, y7'.2.2.2.trans CEe.2.2.2⟩
          · refine ⟨⟨hx1.1, hx1.2.1, hx1.2.2.1⟩, fun j hj => (y6'.1 j (by rw [hx1.1]; exact hj)).trans (by rw [hx1.2.2.2.1]), fun j hj => (y6'.2.1 j (by rw [hx1.2.1]; exact hj)).trans (by rw [hx1.2.2.2.2.1]), congrArg (fun z => z.1) hy1, ?_⟩
            show ra_p y7 = ra_p y
            rw [z4, show ra_p Y6 = ra_p Y1 from congrArg (fun z => z.1.1) hy6.2.1]
            exact congrArg (fun z => z.2.2.1.1) hy1
          · unfold upU
            by_cases c : i = k
            · rw [if_pos c]
              have : s.1 ≤ ce_n E' := SFab.1
              exact Or.inr (by omega)
            · rw [if_neg c]
              exact Or.inl ⟨by omega, rfl⟩
        · obtain ⟨s8, I', N', e8, c8, f8⟩ := fc_badE (d := d1 + 10) (v9 := nC nm) (v11 := nI n) (v14 := (ca_a X6).2.1) Bs D7
          rw [o1, o2, bnd_some, bnd_some, if_pos rfl, e8]
          exact Or.inr ⟨s8, I', N', 177, Ed, y7, qf, rfl, rfl, cz c8, (SFab.trans f8).more (by omega), gf, D7.2.2.2.1, h3.rz hEd h0, g3.trans h2.rx⟩
      · obtain ⟨s6, e6, D6⟩ := jj_takeNo (d := d1 + 7) V5 J5 c41
        obtain ⟨s8, I', N', e8, c8, f8⟩ := fc_badT (d := d1 + 7) (v9 := nC nm) (v11 := nI n) Bs D6
        rw [e6, bnd_some, bnd_some, e8, jj_rtakeNo (d := d2 + 3) (j := 16) J5 2 rfl (by decide) c41, bnd_some, if_pos rfl]
        exact Or.inr ⟨s8, I', N', 177, Ec, _, q5, rfl, rfl, cz c8, (SFab.trans f8).more (by omega), J5.rf, D6.2.2.2.1, g5.rz g2 h0, g3⟩
    · obtain ⟨s8, I', N', e8, c8, f8⟩ := fc_badT (d := d1 + 7) (v9 := nC nm) (v11 := z5) Bs D5
      rw [r1e, r2e, bnd_some, e8]
      exact Or.inr ⟨s8, I', N', 177, Ec, y5, qf, rfl, rfl, cz c8, (SFab.trans f8).more (by omega), gf, D5.2.2.2.1, g5.rz g2 h0, g3⟩
  · obtain ⟨s4, n4, e4, D4⟩ := jj_takeNameNo (d := d1 + 7) V3 Jz c2
    obtain ⟨s5, x5, v5, e5, D5⟩ := d_names (d1 := d1) D4 (by decide)
    obtain ⟨s8, I', N', e8, c8, f8⟩ := fc_badT (d := d1 + 7) (v9 := n4) (v11 := v5) Bs D5
    rw [e4, bnd_some, e5, bnd_some, e8, fn_eq (d := d2 + 9), y_gd J.er, stp, bnd_some, y_6 J.er, Option.bind_some, J1.ar.2.1, if_neg (fun h => c2 (J1.tq.name.mp h)), jj_bad J1, bnd_some, okB_of (Or.inl rfl)]
    exact Or.inr ⟨s8, I', N', 163, E2, _, q1, rfl, rfl, cz c8, (SFab.trans f8).more (by omega), J1.rf, D5.2.2.2.1, R.rz J.er h0, RX.rfl'⟩
end
