/-! run on both sides -/
section
variable {s : HS} {b b' : Nat → Value} {c n us d k m v : Nat} {f f' : Nat → am_C} {x : Int32} {A : TAr} {TT : Nat → TI} {sp : Nat → Int32} {q : Nat → VQ} {Q : RS0} {E : RE} {y : RA}
theorem TPc.keep2 (h : TPc f b A k TT sp q m v) (hb : ∀ i, 13 ≤ i → i ≤ 21 → b' i = b i) (hf : ∀ x, 161 ≤ x → x < 187 → f' x = f x) : TPc f' b' A k TT sp q m v := by
  obtain ⟨⟨p1, p2, p3, p4, p5, p6, p7, p8, p9⟩, h2, h3, ⟨rest, h4⟩, h5, h6, h7⟩ := h
  exact ⟨⟨(hb _ (by decide) (by decide)).trans p1, (hb _ (by decide) (by decide)).trans p2, (hb _ (by decide) (by decide)).trans p3, (hb _ (by decide) (by decide)).trans p4, (hb _ (by decide) (by decide)).trans p5, (hb _ (by decide) (by decide)).trans p6, (hb _ (by decide) (by decide)).trans p7, (hb _ (by decide) (by decide)).trans p8, (hb _ (by decide) (by decide)).trans p9⟩, h2, ⟨(hf 170 (by omega) (by omega)).trans h3.1, fun x x1 x2 => (hf x (by omega) (by omega)).trans (h3.2 x x1 x2)⟩, ⟨rest, (hf 177 (by omega) (by omega)).trans h4⟩, (hf 178 (by omega) (by omega)).trans h5, h6.kept (fun x x1 x2 => hf x (by omega) (by omega)), h7⟩
/-- what the reference holds of a program that was read -/
theorem rd_ok {s' : HS} (K : RDok Q s' E y) : RZe 163 E ∧ ∃ (I : ID) (N : N3) (k : Nat) (un : Nat → Nat) (TT : Nat → TI) (pg lc nd : Nat) (D : DSt) (ci : CI) (A : TAr) (sp : Nat → Int32) (q : Nat → VQ) (m v : Nat), (CZ s' Q.2.2.2.1 Q.2.2.2.2.1 Q.2.2.2.2.2.1 I N k un (-1) ∧ gR s' 132 5 5 = some pg ∧ SF Q.1 Q.2.1 Q.2.2.1 I N s' (24 * Q.2.2.2.1 + 16) ∧ (∀ i, i < k → TU s'.2.1 s'.1 (un i) (TT i)) ∧ PU s'.2.1 s'.1 pg lc nd D ∧ (Q.2.2.1.1 ≤ pg ∧ ∀ i, i < k → Q.2.2.1.1 ≤ un i) ∧ ((∀ i, i < k → ∀ z, un i ≤ z → z ≤ un i + 2 → ¬ PI I z) ∧ ∀ z, pg ≤ z → z ≤ pg + 2 → ¬ PI I z)) ∧ k ≤ 187 ∧ (∀ b, TPc (PM 163 E y) (b30 163 E y b) A k TT sp q m v) ∧ CDi (PM 163 E y) ci ∧ ci.1 = 163 ∧ RCode ci D 1500 1501 ∧ RX Q.2.2.2.2.2.2 E := by
  obtain ⟨I, N, k, un, TT, pg, lc, nd, D, a1, a2, a3, a4, a5, a6, a7, a8, a9, a10, a11, a12, m', b1, b2, b3, b4, b5⟩ := K
  obtain ⟨A, g', kk, m, v, sp, q, c1, c2, c3, c4, c5, c6⟩ := a9
  refine ⟨⟨a8, ⟨A, c2⟩, ⟨g', c3⟩, Or.inl ⟨rfl, a10, kk, m, v, sp, q, c4⟩⟩, I, N, k, un, TT, pg, lc, nd, D, (163, 6000, 1500, ra_s y, ra_q y, 0, lc, 0, 0), A, sp, q, m, v, ⟨a1, a2, a3, a4, a5, a6, a7⟩, by omega, fun b => ⟨⟨rfl, rfl, rfl, rfl, rfl, rfl, rfl, ?_, rfl⟩, by omega, ⟨?_, fun z z1 z2 => ?_⟩, ⟨[.int kk.1, .int kk.2.1, .int kk.2.2.1, .int kk.2.2.2.1, .int kk.2.2.2.2.1, .int kk.2.2.2.2.2], ?_⟩, ?_, ?_, c5, by omega, by omega, fun j hj => ?_⟩, ?_, rfl, ?_, a12⟩
  · show Value.int (re_td E) = .int (nI k)
    rw [c1]
  · exact (PM_ne (by decide) (by decide) (by decide) (by decide)).trans c2.1
  · exact (PM_ne (by omega) (by omega) (by omega) (by omega)).trans (c2.2 z z1 z2)
  · exact (PM_ne (by decide) (by decide) (by decide) (by decide)).trans (c4 _ List.mem_cons_self)
  · exact (PM_ne (by decide) (by decide) (by decide) (by decide)).trans (c4 (177 + 1, _) (List.mem_cons_of_mem _ List.mem_cons_self))
  · have hv : vQ (PM 163 E y) 179 1500 q := vQ_pm (r := 179) (fun kc hk => c4 kc (List.mem_cons_of_mem _ (List.mem_cons_of_mem _ hk))) (by decide) (by decide) (by decide)
    exact (vQ.va (n := 1311) (us := 0) (N := (1500, 0, 0)) hv (by decide) (by decide) (by decide)).1
  · obtain ⟨_, _, _, _, _, _, _, _, _, _, _, _, t9, t10⟩ := a4 j hj
    exact ⟨t10, t9.2.2.1, t9.2.2.2.2.1, t9.2.2.2.2.2.1, t9.2.2.2.2.2.2⟩
  · refine ⟨nI (ra_m y), nI (ra_v y), (re_k E).1, (re_k E).2.2.2.2.2, ?_, rfl, ?_, by show 6000 < 2 ^ 31; decide, by show 1500 < 2 ^ 31; decide, Or.inl rfl⟩
    · show cdC 163 E (ra_m y) (ra_v y) = _
      unfold cdC
      rw [a10.1, a10.2.1, a10.2.2, a11]
      rfl
    · have hv : vQ (PM 163 E y) 165 1500 (ra_q y) := PM_own (cr := 163) (Or.inl rfl)
      exact (vQ.va (n := 1311) (us := 0) (N := (1500, 0, 0)) hv (by decide) (by decide) (by decide)).1
  · obtain ⟨_, _, _, _, _, _, _, _, _, _, _, _, p9⟩ := a5
    exact ⟨m', ra_v y, lc, nd, ra_s y, ra_q y, b5, Nat.zero_le _, fun j _ _ => rfl, by show m' + 1 ≤ 6000 + 0; omega, fun j _ _ => rfl, by show ra_v y ≤ 1500 + 0; omega, Nat.le_refl _, Nat.zero_le _, by show lc ≤ 1500; omega, by omega, by omega, b4, by show m' - 0 + 2 ≤ 8192; omega⟩
theorem J_run (H : INV c s) : JM c s (x_Stow_run (d + 270 + 1) 128 x) (x_Mod_run (d + 270 + 1) 160 x) := by
  have H0 := H
  obtain ⟨L, g, O, w, sb, bys, SS, FF, v, fu, om, ob, lg, Rn, Rs, WR, q0, ⟨I, N, hh, tt, Nm, st, rs, un, X, own, C, B⟩, ⟨b, nw, wr, pn, ps, pp, X', R⟩, Q⟩ := H
  obtain ⟨n, f, us⟩ := s
  have hn : 1311 ≤ n := C.nn
  have c1 : c128 f L v fu := C.1.1
  have e2k : (2000 : Int64) = (2000 : Int32).toInt64 := by decide
  have bad : (x < 0 ∨ 2000 < x) → JM c (n, f, us) (x_Stow_run (d + 270 + 1) 128 x) (x_Mod_run (d + 270 + 1) 160 x) := fun hx => by
    refine ⟨-1, (n, f, us), (n, f, us), ?_, ?_, H0.mono (by omega)⟩
    · unfold x_Stow_run
      dsimp only
      rw [c1.lk hn]
      by_cases h0 : x < 0
      · rw [if_pos h0]
      · rw [if_neg h0, if_neg (Int32.not_le.mpr (hx.resolve_left h0))]
    · unfold x_Mod_run
      dsimp only
      rw [mo_gd R.1.1 hn, e_Mod_in, bnd_some, e2k, show (0 : Int64) = (0 : Int32).toInt64 from rfl, in_32, if_pos hx, if_pos rfl]
  by_cases hx : x < 0 ∨ 2000 < x
  · exact bad hx
  have hx0 : ¬ x < 0 := fun q => hx (Or.inl q)
  have hx1 : ¬ 2000 < x := fun q => hx (Or.inr q)
  have ek := nI_back hx0
  have hb31 := cl_lt x
  generalize x.toNatClampNeg = F at ek hb31
  have hF : F ≤ 2000 := by
    by_cases q : F ≤ 2000
    · exact q
    · exact absurd (show 2000 < x by rw [← ek]; exact nI_lt (a := 2000) (by omega) hb31) hx1
  subst ek
  clear bad
  obtain ⟨ws, Y, W⟩ := C.2.1
  have hL := C.1.2.1
  have hb := C.1.2.2
  have mh : ∀ (s2 : HS) (b2 : Nat → Value) (r : Int32) (s3 : HS), 1311 ≤ s2.1 → OM s2.2.1 b2 → x_Mod_read (d + 270) 160 s2 = some (r, s3) → x_Mod_run (d + 270 + 1) 160 (nI F) s2 = if r = 0 then ((gI s3 160 14 9).bind fun v5 => (some ((v5 + 100), s3))) else mrP (d + 270) (nI F) s3 := fun s2 b2 r s3 h1 h2 h3 => by
    unfold x_Mod_run
    dsimp only
    rw [mo_gd (n := s2.1) (f := s2.2.1) (us := s2.2.2) h2 h1, e_Mod_in, bnd_some, e2k, show (0 : Int64) = (0 : Int32).toInt64 from rfl, in_32, if_neg hx, if_neg (by decide), h3, bnd_some]
    rfl
  obtain ⟨E0, r0, _, _⟩ := j_read (tm := 0) (d1 := d + 270) (d2 := d + 270) (by omega) (by omega) Y R.ry hL (fun j hj => hb j (by omega)) W
  rcases r0 with ⟨s1, E, y, r1, r2, K⟩ | ⟨s1, cr, E, y, qf, r1, r2, K⟩
  · -- both have read a program
    obtain ⟨_, I1, N1, k1, un1, TT1, pg1, lc1, nd1, D1, ci1, A1, sp1, q1, m1, v1, ⟨z1, z2, z3, z4, z5, z6, z7⟩, z8, _⟩ := rd_ok K
    obtain ⟨va, sc, u1, u2, u3, _⟩ := c_run (d := d) C B hF Q.1 r1 z1 W z2 z3 z4 z5 z6 z7 z8
    have Rc : RKx sc b L g om ob nw w lg Rn Rs wr WR pn ps pp FF q0 fu X' := R.keep u2 u3
    obtain ⟨E0', r0', ⟨ea, eb, ec, ed, ee, ef, eg⟩, eh⟩ := j_read (tm := 0) (d1 := d + 270) (d2 := d + 270) (by omega) (by omega) Y Rc.ry hL (fun j hj => hb j (by omega)) W
    rcases r0' with ⟨s1', E2, y2, r1', r2', K'⟩ | ⟨s1', cr, E2, y2, qf, r1', r2', K'⟩
    · obtain ⟨Z2, I2, N2, kt, un2, TT2, pg2, lc2, nd2, D2, ci2, A2, sp2, q2, m2, v2, ⟨y1, y3, y4, y5, y6, y7, y8⟩, y9, y10, y11, y12, y13, y14⟩ := rd_ok K'
      obtain ⟨va', sc', u1', _, _, u4⟩ := c_run (d := d) C B hF Q.1 r1' y1 W y3 y4 y5 y6 y7 y8 y9
      have eu := u1'.symm.trans u1
      obtain ⟨rfl, rfl⟩ : va' = va ∧ sc' = sc := by
        have := Option.some.inj eu
        exact ⟨congrArg Prod.fst this, congrArg Prod.snd this⟩
      obtain ⟨nc, fc, uc⟩ := sc'
      have hnc : 1311 ≤ nc := Rc.1.2.1
      have u2 : n ≤ nc := u2
      obtain ⟨X1, ⟨X2, X3⟩, ⟨X4, X5⟩, X6, X7⟩ := y14
      have X4 : re_n E2 = nc := X4.trans ef
      have X5 : re_u E2 = uc := X5.trans eg
      obtain ⟨R1, fr1⟩ := Rc.rd (y := y2) Z2 (X2.trans ec) (X3.trans ed) ((show re_g E2 = re_g E0' from congrArg Prod.snd X1).trans eb) (X6.trans ee) (fun z hz => (X7 z hz).trans (eh z hz))
      have hM := mh (nc, fc, uc) b 1 (pm 163 E2 y2) hnc Rc.1.1 r2'
      rw [if_neg (by decide), show pm 163 E2 y2 = (nc, PM 163 E2 y2, uc) by rw [← X4, ← X5]] at hM
      obtain ⟨f5, b5, Rw, p1, R5, p2, p3, p4, p5⟩ := r_prep (d := d + 268) (x := nI F) R1 Q.1.2.2.1 Q.1.2.2.2.1
      replace p1 : mrP (d + 270) (nI F) (nc, PM 163 E2 y2, uc) = mrQ (d + 270) (nc, f5, uc) := p1
      have hnw := R5.1.2.2.2.2
      have T5 := (y10 b).keep2 (b' := b5) (f' := f5) (fun i i1 i2 => p4 i (by omega) (by omega) (by omega)) (fun z z1 z2 => p5 z (by omega) (by omega) (by omega))
      have C5 : CDi f5 ci2 := by
        obtain ⟨m', v', tk, ud, g1, g2, g3, g4⟩ := y11
        have lo : ∀ z, 163 ≤ z → z ≤ 169 → f5 z = PM 163 E2 y2 z := fun z z1 z2 => p5 z (by omega) (by omega) (by omega)
        exact ⟨m', v', tk, ud, (lo _ (by omega) (by omega)).trans g1, (lo _ (by omega) (by omega)).trans g2, g3.kept (fun z z1 z2 => lo z (by omega) (by omega)), g4⟩
      have s400 := (C.2.2.2.2.2.1 w (Nat.le_refl w)).2.1
      have fr5 : ∀ z, z < 160 ∨ 1310 < z → f5 z = fc z := fun z hz => (p5 z (by omega) (by omega) (by omega)).trans (fr1 z hz)
      rcases r_run (d := d + 261) R5 p2 p3 hF T5 s400 C5 y12 y13 Q.1 rfl with ⟨t1, f9, t2, t3, t4⟩ | ⟨Ft, t1, t2⟩
      · rcases u4 with ⟨k1, k2, SS', k3, k4⟩ | ⟨Ft', S0, k1, _⟩
        · obtain ⟨I6, N6, hh6, tt6, Nm6, st6, rs6, un6, X6', own6, C6, B6⟩ := k4
          refine ⟨va', (nc, fc, uc), (nc, f9, uc), u1, ?_, 0, g, _, w, sb, bys, SS', FF, (0, 0), 0, 0, ob, lg, Rn, Rs, WR, (0, 0, 0, 0), ⟨I6, N6, hh6, tt6, Nm6, st6, rs6, un6, X6', own6, C6.keep (Nat.le_refl _) (fun z _ hz => (t4 z hz).trans (fr5 z hz)), B6⟩, ⟨b5, nw, wr, pn, ps, pp, X', t3⟩, RL.up ⟨Q.1, Q.2.1, Q.2.2.1, Q.2.2.2.1, ⟨rfl, Nat.zero_le 600, fun j hj => absurd hj (Nat.not_lt_zero _)⟩, fun _ => 0, VR.nil⟩ k3⟩
          rw [hM, p1, k2]
          exact t2
        · rw [t1] at k1
          cases k1
      · rcases u4 with ⟨k1, _⟩ | ⟨Ft', S0, k1, k2, k3, k4, k5, k6⟩
        · rw [t1] at k1
          cases k1
        · rw [t1] at k1
          cases k1
          obtain ⟨g1, g2⟩ := t2 _ S0 O.2.2 k2 k3 k4
          generalize EV F D2 Ft S0 (0, 0, O.2.2) = EE at k5 k6 g1 g2
          rcases k6 with ⟨k7, SS', k8, k9⟩ | ⟨k7, k8⟩
          · obtain ⟨f9, b9, om9, ob9, j1, j2, j3, j4⟩ := g1 (by rw [← k5]; exact k7)
            obtain ⟨I6, N6, hh6, tt6, Nm6, st6, rs6, un6, X6', own6, C6, B6⟩ := k9
            refine ⟨va', (nc, fc, uc), (nc, f9, uc), u1, ?_, 0, g, _, w, sb, bys, SS', FF, (0, 0), _, om9, ob9, lg, Rn, Rs, WR, (0, 0, 0, 0), ⟨I6, N6, hh6, tt6, Nm6, st6, rs6, un6, X6', own6, C6.keep (Nat.le_refl _) (fun z _ hz => (j4 z hz).trans (fr5 z hz)), B6⟩, ⟨b9, nw, wr, pn, ps, pp, X', j2⟩, RL.up ⟨Q.1, Q.2.1, Q.2.2.1, Q.2.2.2.1, j3, fun _ => 0, VR.nil⟩ k8⟩
            rw [hM, p1, k5]
            exact j1
          · obtain ⟨f8, b8, om8, ob8, R8, pw, q8, j1, j2, j3, j4, j5, j6⟩ := g2 (by rw [← k5]; exact k7)
            obtain ⟨s4, w1, w2⟩ := k8 (nc, f8, uc) (d + 267) (391 - nw) b8 om8 lg ob8 R8 Rs wr WR pw ps pp q8 X' rfl rfl (fun z hz => (j6 z hz).trans (fr5 z hz)) j2 j3 Q.2.1 Q.2.2.1 Q.2.2.2.1 j4 ⟨R8.1, j5⟩
            replace w1 : x_Mod_wait (d + 270) 160 (nI (cmB EE.2.1.1 (SS w) (tkS TT2 kt))) (nc, f8, uc) = some ((), s4) := w1
            refine ⟨va', (nc, fc, uc), s4, u1, ?_, w2⟩
            rw [hM, p1, k7]
            refine j1.trans ?_
            show (bnd (x_Mod_wait (d + 270) 160 (nI (cmB EE.2.1.1 (SS w) (tkS TT2 kt))) (nc, f8, uc)) fun _ s29 => some ((0 : Int32), s29)) = _
            rw [w1, bnd_some]
    · exfalso
      have := Option.some.inj (r1.symm.trans r1')
      have e := congrArg Prod.fst this
      exact absurd e.symm (nI_m1 (by have := K'.choose_spec; obtain ⟨_, _, _, _, _, _, q, _⟩ := K'; omega))
  · -- both have found a FAULT
    obtain ⟨I1, N1, k1, un1, z1, z2, z3, z4, z5, z6⟩ := K
    obtain ⟨sc, u1, u2, u3, u4⟩ := c_bad (d := d) C B hF z4 r1 z1 W z2
    have Rc : RKx sc b L g om ob nw w lg Rn Rs wr WR pn ps pp FF q0 fu X' := R.keep u2 u3
    obtain ⟨E0', r0', ⟨ea, eb, ec, ed, ee, ef, eg⟩, eh⟩ := j_read (tm := 0) (d1 := d + 270) (d2 := d + 270) (by omega) (by omega) Y Rc.ry hL (fun j hj => hb j (by omega)) W
    rcases r0' with ⟨s1', E2, y2, r1', r2', K'⟩ | ⟨s1', cr', E2, y2, qf', r1', r2', K'⟩
    · exfalso
      have := Option.some.inj (r1.symm.trans r1')
      have e := congrArg Prod.fst this
      exact absurd e (nI_m1 (by omega))
    · have e0 := congrArg Prod.fst (Option.some.inj (r1.symm.trans r1'))
      obtain ⟨I2, N2, k2, un2, y1', y3, y4, y5, y6, y7⟩ := K'
      have eq : qf' = qf := (nI_inj (by omega) (by omega) e0).symm
      rw [eq] at y4
      obtain ⟨nc, fc, uc⟩ := sc
      have hnc : 1311 ≤ nc := Rc.1.2.1
      obtain ⟨X1, ⟨X2, X3⟩, ⟨X4, X5⟩, X6, X7⟩ := y7
      have X4 : re_n E2 = nc := X4.trans ef
      have X5 : re_u E2 = uc := X5.trans eg
      obtain ⟨R1, fr1⟩ := Rc.rd (y := y2) y6 (X2.trans ec) (X3.trans ed) ((show re_g E2 = re_g E0' from congrArg Prod.snd X1).trans eb) (X6.trans ee) (fun z hz => (X7 z hz).trans (eh z hz))
      have hM := mh (nc, fc, uc) b 0 (pm cr' E2 y2) hnc Rc.1.1 r2'
      rw [if_pos rfl, show pm cr' E2 y2 = (nc, PM cr' E2 y2, uc) by rw [← X4, ← X5]] at hM
      have b9 : b30 cr' E2 y2 b 9 = .int (nI qf) := by
        show Value.int (ra_b y2).2.2.2.2.1 = _
        rw [show (ra_b y2).2.2.2.2.1 = nI qf from y4]
      obtain ⟨I6, N6, hh6, tt6, Nm6, st6, rs6, un6, X6', own6, C6, B6⟩ := u4
      refine ⟨100 + nI qf, (nc, fc, uc), (nc, PM cr' E2 y2, uc), u1, ?_, 0, g, O, w, sb, bys, SS, FF, v, fu, om, ob, lg, Rn, Rs, WR, q0, ⟨I6, N6, hh6, tt6, Nm6, st6, rs6, un6, X6', own6, C6.keep (Nat.le_refl _) (fun z _ hz => fr1 z hz), B6⟩, ⟨_, nw, wr, pn, ps, pp, X', R1⟩, Q⟩
      rw [hM, mo_gI R1.1.1 hnc (by decide) b9, Option.bind_some, Int32.add_comm]
end
