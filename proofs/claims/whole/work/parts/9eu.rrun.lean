/-! the reference's run, from tellFunctions on -/
section
variable {b : Nat → Value} {nw w n us d k kk m v F sw L : Nat} {g ob : Nat → Int32} {om lg fu : Int32} {R R' Rn Rs Rw : RS} {wr pn ps pw pc : Nat → Nat} {WR : Nat → RS} {pp : Nat → Nat → Nat} {FF : Nat → FTb} {q0 : VQ} {X : SWs} {f f' : Nat → am_C} {A : TAr} {TT : Nat → TI} {sp : Nat → Int32} {q : Nat → VQ} {ci : CI} {D : DSt} {S S0 S1 : SC} {Ft : FTb}
theorem RBf.swp (h : RBf b L om nw w lg fu sw) (hw : nw = 187 ∨ nw = 204) : RBf (updV (updV b 30 (.ref (391 - nw))) 31 (.ref nw)) L om (391 - nw) w lg fu sw := by
  refine ⟨fun p hp => (ub_ne (rf_ne p hp).2.2.2.2.2.2.2.2).trans ((ub_ne (rf_ne p hp).2.2.2.2.2.2.2.1).trans (h.1 p hp)), fun k hk => ⟨(h.2.1 k hk).choose, (ub_ne (in_ne k hk).2.2.2.2.2.2.2).trans ((ub_ne (in_ne k hk).2.2.2.2.2.2.1).trans (h.2.1 k hk).choose_spec)⟩, h.2.2.1, h.2.2.2.1, h.2.2.2.2.1, rfl, ?_, h.2.2.2.2.2.2.2⟩
  rw [show 391 - (391 - nw) = nw by omega]
  rfl
theorem RTb.kg (h : RTb f R pc Ft) (K : KG R R') : RTb f R' pc Ft := by
  obtain ⟨_, k1, k2, k3⟩ := K
  exact ⟨⟨h.1.1, k3.trans h.1.2.1, fun j hj => ⟨(congrFun k2 j).trans (h.1.2.2 j hj).1, (h.1.2.2 j hj).2⟩⟩, fun j hj => ⟨(congrFun k1 j).trans (h.2 j hj).1, (h.2 j hj).2⟩⟩
theorem CDq.kg (h : CDq R) (K : KG R R') : CDq R' := fun i hi => by
  rw [K.2.2.1]
  exact h i hi
theorem RKx.tl (h : RKx (n, f, us) b L g om ob nw w lg Rn Rs wr WR pn ps pp FF q0 fu X) (T : TXc f' b nw w Rn Rs pn ps (FF w) (FF 0) wr WR pp (fun t => FF (t + 1))) (hR : RSt f' (391 - nw) R) (hf : ∀ x, x < 187 ∨ (220 < x ∧ x < 401) ∨ 1310 < x → f' x = f x) : RKx (n, f', us) b L g om ob nw w lg Rn Rs wr WR pn ps pp FF q0 fu X := by
  obtain ⟨⟨a1, a2, a3, a4, a5⟩, b1, c1, d1, _, ⟨f1, f2⟩, g1, h1⟩ := h
  obtain ⟨⟨t1, _⟩, t2, t3, t4, t5⟩ := T
  exact ⟨⟨t1, a2, a3, a4, a5⟩, b1.keep (fun z z1 z2 z3 => hf z (by omega)), ⟨t2.1, t2.2, c1.2.2⟩, ⟨t3.1, t3.2, d1.2.2⟩, ⟨R, hR⟩, ⟨t4.1, fun t ht => ⟨t4.2 t ht, (f2 t ht).2⟩⟩, t5, h1.keep (fun z z1 z2 => hf z (by omega))⟩
theorem SR.tl (h : SR S Rn) (hk : k = S.2.2.2.2.2.2.1) (q1 : SQt (cpS S1 S) S0) (q2 : S0.2.2.2.2.2.2.2.2 = Ft.1) (q3 : Ft.1 ≤ 10) (t : TLr (cpR Rw Rn k) R) (T : RTb f R pc Ft) : SR S0 R := by
  obtain ⟨s1, s2, s3, s4, s5, s6, s7⟩ := q1
  obtain ⟨_, r1, r2, r3, r4, r5, r6, r7, r8⟩ := t
  have h12 := h.2.2.1
  refine h.cg (fun i hi => ⟨?_, ?_, ?_⟩) (fun i hi => ⟨?_, ?_, ?_⟩) (fun i hi => ?_) (fun i hi => ⟨?_, ?_, ?_, ?_, ?_⟩) ⟨s7, r7, r8⟩ ⟨by omega, by rw [T.1.2.1, q2]⟩
  · rw [s1]
    exact mx_in hi
  · rw [s2]
    exact mx_in hi
  · exact (congrFun r5 i).trans (mx_in hi)
  · rw [s3]
    exact mx_in hi
  · rw [r1]
    exact mx_in hi
  · rw [r2]
    exact mx_in hi
  · rw [r3]
    exact mx_in hi
  · rw [s4]
    exact mx_in (by omega)
  · rw [s5]
    exact mx_in (by omega)
  · rw [s6]
    exact mx_in (by omega)
  · rw [r4]
    exact mx_in (by omega)
  · exact (congrFun r6 i).trans (mx_in (by omega))
theorem fgr_def : ∃ c : CI, FGR c ([97], 0, sNop) := ⟨(401, 1600, 400, fun _ => 28, fun _ => (0, 0, 0, 0), 0, 0, 0, 0), rfl, 0, 0, 0, 1, fun _ => 28, fun _ => (0, 0, 0, 0), IrS_nop, Nat.le_refl _, fun _ _ _ => rfl, by decide, fun j _ hj => absurd hj (Nat.not_lt_zero _), by decide, Nat.le_refl _, Nat.le_refl _, by decide, by decide, by decide, rfl, by decide⟩
theorem r_run (h : RKx (n, f, us) b 0 g 0 ob nw w lg Rn Rs wr WR pn ps pp FF (0, 0, 0, 0) 0 X) (hW : RSt f (391 - nw) (cpR Rw Rn k)) (b43 : b 43 = .int (nI F)) (hF : F ≤ 2000) (T : TPc f b A kk TT sp q m v) (s4 : tkS (FF w).2 (FF w).1 ≤ 400) (C : CDi f ci) (c0 : ci.1 = 163) (P : RCode ci D 1500 1501) (Q : SR S Rn) (hk : k = S.2.2.2.2.2.2.1) : (ftL TT kk 0 (FF w) = none ∧ ∃ f9, mrQ (d + 9) (n, f, us) = some (8, (n, f9, us)) ∧ RKx (n, f9, us) b 0 g 0 ob nw w lg Rn Rs wr WR pn ps pp FF (0, 0, 0, 0) 0 X ∧ ∀ z, z < 160 ∨ 1310 < z → f9 z = f z) ∨ ∃ Ft, ftL TT kk 0 (FF w) = some Ft ∧ ∀ (S1 S0 : SC) (Oz : Nat → Int32), SQt (cpS S1 S) S0 → S0.2.2.2.2.2.2.2.2 = Ft.1 → Ft.1 ≤ 10 → (¬ (fEnd (EV F D Ft S0 (0, 0, Oz))).2.1 = 0 → ∃ f9 b9 om9 ob9, mrQ (d + 9) (n, f, us) = some ((fEnd (EV F D Ft S0 (0, 0, Oz))).2.1, (n, f9, us)) ∧ RKx (n, f9, us) b9 0 g om9 ob9 nw w lg Rn Rs wr WR pn ps pp FF (0, 0, 0, 0) (nI (EV F D Ft S0 (0, 0, Oz)).2.1.2.2) X ∧ OR (EV F D Ft S0 (0, 0, Oz)).2.1.2.1 om9 ob9 ∧ ∀ z, z < 160 ∨ 1310 < z → f9 z = f z) ∧ ((fEnd (EV F D Ft S0 (0, 0, Oz))).2.1 = 0 → ∃ f8 b8 om8 ob8 R8 pw q8, mrQ (d + 9) (n, f, us) = (bnd (x_Mod_wait (d + 9) 160 (nI (cmB (EV F D Ft S0 (0, 0, Oz)).2.1.1 S (tkS TT kk))) (n, f8, us)) fun _ s29 => some (0, s29)) ∧ RKw (n, f8, us) b8 0 g om8 ob8 (391 - nw) w lg R8 Ft Rs wr WR pw ps pp FF q8 (nI (EV F D Ft S0 (0, 0, Oz)).2.1.2.2) X ∧ SR (EV F D Ft S0 (0, 0, Oz)).2.1.1 R8 ∧ OR (EV F D Ft S0 (0, 0, Oz)).2.1.2.1 om8 ob8 ∧ VR R8.1 (fEnd (EV F D Ft S0 (0, 0, Oz))).2.2 q8 ∧ ∀ z, z < 160 ∨ 1310 < z → f8 z = f z) := by
  have hn : 1311 ≤ n := h.1.2.1
  have hnw := h.1.2.2.2.2
  have B := h.1.2.2.1
  have TX : TXc f b nw w Rn Rs pn ps (FF w) (FF 0) wr WR pp (fun t => FF (t + 1)) := ⟨⟨h.1.1, B.2.2.2.2.2.1, B.2.2.2.2.2.2.1, h.rf (by decide), h.rf (by decide), B.2.2.2.2.2.2.2.1, h.rf (by decide), h.1.2.2.2.1, hnw⟩, ⟨h.2.2.1.1, h.2.2.1.2.1⟩, ⟨h.2.2.2.1.1, h.2.2.2.1.2.1⟩, ⟨h.2.2.2.2.2.1.1, fun t ht => (h.2.2.2.2.2.1.2 t ht).1⟩, h.2.2.2.2.2.2.1⟩
  rcases e_tellF (d := d + 6) (us := us) hn TX hW (pw := pn) (F := FF w) h.2.2.1.2.1.cp s4 T with ⟨Ft, f6, R6, pw, t1, t2, t3, t4, t5, t6, t7, t8⟩ | ⟨t1, f6, R6, t2, t3, t4, t7⟩
  · refine Or.inr ⟨Ft, t1, fun S1 S0 Oz q1 q2 q3 => ?_⟩
    have h6 := h.tl t3 t4 t7
    have M := MM_id h6 t4 b43
    obtain ⟨sk, pk, g0, hk', cu, bk, bs, Tt, Pp, fr, pcc, m1, m2⟩ := M
    have Q6 : SR S0 R6 := Q.tl hk q1 q2 q3 t8 t5
    have fex : ∀ i, ∃ c : CI, FGR c (ftT Ft i) ∧ (i < Ft.1 → c.1 = pC (pw i) ∧ CDi f6 c) := fun i => by
      unfold ftT
      by_cases cI : i < Ft.1
      · rw [if_pos cI]
        have pl := (t5.1.2.2 i cI).2
        obtain ⟨m', v', ud, sp', q', y1, y2, y3, y4⟩ := (t5.2 i cI).2.2
        exact ⟨_, y4, fun _ => ⟨rfl, m', v', _, ud, y1, y2, y3, by show 1600 < 2 ^ 31; decide, by show 400 < 2 ^ 31; decide, Or.inr ⟨by show 401 ≤ 401 + 7 * pw i; omega, by show 401 + 7 * pw i + 6 < 1311; omega⟩⟩⟩
      · rw [if_neg cI]
        obtain ⟨c, hc⟩ := fgr_def
        exact ⟨c, hc, fun w => absurd w cI⟩
    obtain ⟨FC, hFC⟩ := Classical.axiomOfChoice fex
    have C6 : CDi f6 ci := by
      obtain ⟨m', v', tk, ud, y1, y2, y3, y4⟩ := C
      have lo : ∀ z, 163 ≤ z → z ≤ 169 → f6 z = f z := fun z z1 z2 => t7 z (by omega)
      exact ⟨m', v', tk, ud, (lo _ (by omega) (by omega)).trans y1, (lo _ (by omega) (by omega)).trans y2, y3.kept (fun z z1 z2 => lo z (by omega) (by omega)), y4⟩
    have hrun := r_go2 (d := d) (g := (n, us, f6, b, 391 - nw)) (F0 := F) (FC := FC) (FT := ftT Ft) (ci := ci) (Z := (sk, pk, g0, hk', cu, bk, bs, ob)) (R := R6) (om := 0) (T := Tt) (P := Pp) (fr := fr) (pc := pcc) (D := D) (S := S0) (O := (0, 0, Oz)) hF ⟨hn, show 391 - nw = 187 ∨ 391 - nw = 204 by omega⟩ (fun i => (hFC i).1) Q6 ⟨rfl, Nat.zero_le 600, fun j hj => absurd hj (Nat.not_lt_zero _)⟩ rfl (fun i hi => by
      have cI : i < Ft.1 := by
        rw [← q2]
        exact hi
      obtain ⟨w1, w2⟩ := (hFC i).2 cI
      have e : (ftT Ft i).1 = ti_w (Ft.2 i) := by
        unfold ftT
        rw [if_pos cI]
      exact ⟨by show _ = nV (ftT Ft i).1; rw [e]; exact (t5.2 i cI).1, by show okN (ftT Ft i).1; rw [e]; exact (t5.2 i cI).2.1, by rw [w1]; exact (t5.1.2.2 i cI).1, w2⟩) C6 c0 P
    obtain ⟨s7, j1, j2, j3⟩ := hrun
    replace j1 : x_Mod_go_ (d + 9) 160 (n, MM f6 b sk pk g0 hk' cu bk bs ob (391 - nw) R6 0 Tt Pp (nI F) 0 fr pcc, us) = some ((fEnd (EV F D Ft S0 (0, 0, Oz))).2.1, s7) := j1
    rw [m1] at j1
    have j2 : (fEnd (EV F D Ft S0 (0, 0, Oz))).2.1 = 0 → ∃ (Z' : RZ) (R' : RS) (om' T' P' pc' : Int32), s7 = (n, MM f6 b Z'.1 Z'.2.1 Z'.2.2.1 Z'.2.2.2.1 Z'.2.2.2.2.1 Z'.2.2.2.2.2.1 Z'.2.2.2.2.2.2.1 Z'.2.2.2.2.2.2.2 (391 - nw) R' om' T' P' (nI F) (nI (EV F D Ft S0 (0, 0, Oz)).2.1.2.2) (nI 0) pc', us) ∧ KG R6 R' ∧ SR (EV F D Ft S0 (0, 0, Oz)).2.1.1 R' ∧ OR (EV F D Ft S0 (0, 0, Oz)).2.1.2.1 om' Z'.2.2.2.2.2.2.2 ∧ VR R'.1 (fEnd (EV F D Ft S0 (0, 0, Oz))).2.2 (Z'.2.2.1 0) := j2
    have j3 : ¬ (fEnd (EV F D Ft S0 (0, 0, Oz))).2.1 = 0 → RHt (n, us, f6, b, 391 - nw) F s7 (EV F D Ft S0 (0, 0, Oz)).2.1.2.1 (EV F D Ft S0 (0, 0, Oz)).2.1.2.2 := j3
    generalize EV F D Ft S0 (0, 0, Oz) = E at j1 j2 j3
    have hd : mrQ (d + 9) (n, f, us) = x_Mod_run_b81 (d + 9) 160 (fEnd E).2.1 s7 := by
      unfold mrQ
      rw [t2, bnd_some, if_pos rfl, j1, bnd_some]
    refine ⟨fun e0 => ?_, fun e0 => ?_⟩
    · obtain ⟨Z, R7, om7, T7', P7, fr7, pc7, es, o7⟩ := j3 e0
      obtain ⟨h7, st7, of7⟩ := MM_RK (R := R7) (sk := Z.1) (pk := Z.2.1) (g0 := Z.2.2.1) (hk := Z.2.2.2.1) (cu := Z.2.2.2.2.1) (bk := Z.2.2.2.2.2.1) (bs := Z.2.2.2.2.2.2.1) (ob' := Z.2.2.2.2.2.2.2) (om' := om7) (T := T7') (P := P7) (x := nI F) (u := nI E.2.1.2.2) (fr := fr7) (pc := pc7) h6
      obtain ⟨f9, n1, n2, n3⟩ := e_nil (d := d + 9) h7
      refine ⟨f9, _, _, _, ?_, n2, o7, fun z hz => (n3 z (by omega)).trans ((of7 z (by omega) (by omega) (by omega) (by omega)).trans (t7 z (by omega)))⟩
      rw [hd, es]
      unfold x_Mod_run_b81
      rw [if_neg e0]
      show (gR (n, MM f6 b Z.1 Z.2.1 Z.2.2.1 Z.2.2.2.1 Z.2.2.2.2.1 Z.2.2.2.2.2.1 Z.2.2.2.2.2.2.1 Z.2.2.2.2.2.2.2 (391 - nw) R7 om7 T7' P7 (nI F) (nI E.2.1.2.2) fr7 pc7, us) 160 14 39).bind _ = _
      rw [mo_gR h7.1.1 hn (by decide) (h7.rf (show (39, 250) ∈ rfL by decide)), Option.bind_some, n1, bnd_some]
    · obtain ⟨Z, R7, om7, T7', P7, pc7, es, kg, sr7, o7, vr7⟩ := j2 e0
      obtain ⟨h7, st7, of7⟩ := MM_RK (R := R7) (sk := Z.1) (pk := Z.2.1) (g0 := Z.2.2.1) (hk := Z.2.2.2.1) (cu := Z.2.2.2.2.1) (bk := Z.2.2.2.2.2.1) (bs := Z.2.2.2.2.2.2.1) (ob' := Z.2.2.2.2.2.2.2) (om' := om7) (T := T7') (P := P7) (x := nI F) (u := nI E.2.1.2.2) (fr := nI 0) (pc := pc7) h6
      have A7 : TA (MM f6 b Z.1 Z.2.1 Z.2.2.1 Z.2.2.2.1 Z.2.2.2.2.1 Z.2.2.2.2.2.1 Z.2.2.2.2.2.2.1 Z.2.2.2.2.2.2.2 (391 - nw) R7 om7 T7' P7 (nI F) (nI E.2.1.2.2) (nI 0) pc7) A := T.2.2.1.keep (fun z z1 z2 => (of7 z (by omega) (by omega) (by omega) (by omega)).trans (t7 z (by omega)))
      have km : KM Rn.1 R7.1 := fun o ho hne => by
        have e6 : R6.1 o = Rn.1 o := (congrFun t8.2.1 o).trans (mx_in ho)
        rw [← e6] at hne ⊢
        exact kg.1 o ho hne
      have po : ∀ z, 401 ≤ z → z ≤ 1310 → MM f6 b Z.1 Z.2.1 Z.2.2.1 Z.2.2.2.1 Z.2.2.2.2.1 Z.2.2.2.2.2.1 Z.2.2.2.2.2.2.1 Z.2.2.2.2.2.2.2 (391 - nw) R7 om7 T7' P7 (nI F) (nI E.2.1.2.2) (nI 0) pc7 z = f6 z := fun z z1 z2 => of7 z (by omega) (by omega) (by omega) (by omega)
      have b20 : b7 b om7 (391 - nw) T7' P7 (nI F) (nI E.2.1.2.2) (nI 0) pc7 20 = .int (nI kk) := T.1.2.2.2.2.2.2.2.1
      have b17 : b7 b om7 (391 - nw) T7' P7 (nI F) (nI E.2.1.2.2) (nI 0) pc7 17 = .ref 174 := rfl
      have b30 : b7 b om7 (391 - nw) T7' P7 (nI F) (nI E.2.1.2.2) (nI 0) pc7 30 = .ref nw := h7.1.2.2.1.2.2.2.2.2.1
      have b31 : b7 b om7 (391 - nw) T7' P7 (nI F) (nI E.2.1.2.2) (nI 0) pc7 31 = .ref (391 - nw) := rfl
      generalize b7 b om7 (391 - nw) T7' P7 (nI F) (nI E.2.1.2.2) (nI 0) pc7 = bb at h7 b20 b17 b30 b31
      have fr7 : ∀ z, z < 160 ∨ 1310 < z → MM f6 b Z.1 Z.2.1 Z.2.2.1 Z.2.2.2.1 Z.2.2.2.2.1 Z.2.2.2.2.2.1 Z.2.2.2.2.2.2.1 Z.2.2.2.2.2.2.2 (391 - nw) R7 om7 T7' P7 (nI F) (nI E.2.1.2.2) (nI 0) pc7 z = f z := fun z hz => (of7 z (by omega) (by omega) (by omega) (by omega)).trans (t7 z (by omega))
      generalize MM f6 b Z.1 Z.2.1 Z.2.2.1 Z.2.2.2.1 Z.2.2.2.2.1 Z.2.2.2.2.2.1 Z.2.2.2.2.2.2.1 Z.2.2.2.2.2.2.2 (391 - nw) R7 om7 T7' P7 (nI F) (nI E.2.1.2.2) (nI 0) pc7 = f7 at es h7 st7 of7 A7 po fr7
      have RB := e_rBytes (d := d + 8) (us := us) (S := E.2.1.1) (T := S) hn h7.1.1 b17 b20 T.2.1 A7 (TT := TT) (fun j hj => (T.2.2.2.2.2.2.1 j hj).1.1.2.2.2.2.1) b30 b31 st7 (by omega) (by omega) h7.2.2.1.1 (by omega) (by omega) sr7 Q km
      replace RB : x_Mod_run_b81 (d + 9) 160 0 (n, f7, us) = rTl (d + 9) (nI (cmB E.2.1.1 S (tkS TT kk))) (n, f7, us) := RB
      obtain ⟨fa, a1, a2, a3⟩ := mo_p (us := us) (v := .ref (391 - nw)) h7.1.1 hn (show 30 < 53 by decide)
      obtain ⟨fb, c1, c2, c3⟩ := mo_p (us := us) (v := .ref nw) a2 hn (show 31 < 53 by decide)
      have frb : ∀ z, ¬ z = 160 → fb z = f7 z := fun z hz => (c3 z hz).trans (a3 z hz)
      refine ⟨fb, updV (updV bb 30 (.ref (391 - nw))) 31 (.ref nw), om7, Z.2.2.2.2.2.2.2, R7, pw, Z.2.2.1 0, ?_, ?_, sr7, o7, vr7, fun z hz => (frb z (by omega)).trans (fr7 z hz)⟩
      · rw [hd, es, e0, RB]
        unfold rTl
        rw [mo_gR h7.1.1 hn (by decide) b30, Option.bind_some, mo_gR h7.1.1 hn (by decide) b31, Option.bind_some, a1, Option.bind_some, c1, Option.bind_some]
      · obtain ⟨⟨x1, x2, x3, x4, x5⟩, y1, z1, w1, _, ⟨v1, v2⟩, g1, k1⟩ := h7
        have pb : ∀ z, 401 ≤ z → z ≤ 1310 → fb z = f7 z := fun z z1 z2 => frb z (by omega)
        have pb6 : ∀ z, 401 ≤ z → z ≤ 1310 → fb z = f6 z := fun z z1 z2 => (pb z z1 z2).trans (po z z1 z2)
        refine ⟨⟨c2, x2, x3.swp x5, x4, by omega⟩, y1.keep (fun z z1 z2 _ => frb z (by omega)), ⟨st7.keep (fun z z1 z2 => frb z (by omega)), (t5.keep2 pb6).kg kg, (t8.1 z1.2.2.cp).kg kg⟩, w1.keep (fun z z1 z2 => frb z (by omega)) pb, ⟨Rn, ?_⟩, ⟨v1.keep (fun z z1 z2 => frb z (by omega)), fun t ht => ⟨(v2 t ht).1.keep2 pb, (v2 t ht).2⟩⟩, g1.keep (frb 239 (by decide)) pb, k1.keep (fun z z1 z2 => frb z (by omega))⟩
        rw [show 391 - (391 - nw) = nw by omega]
        exact z1.1.keep (fun z z1 z2 => frb z (by omega))
  · have h6 := h.tl t3 t4 t7
    obtain ⟨f9, n1, n2, n3⟩ := e_nil (d := d + 9) h6
    refine Or.inl ⟨t1, f9, ?_, n2, fun z hz => (n3 z (by omega)).trans (t7 z (by omega))⟩
    unfold mrQ
    rw [t2, bnd_some, if_neg (by decide)]
    unfold x_Mod_run_b81
    rw [if_neg (by decide), mo_gR h6.1.1 hn (by decide) (h6.rf (show (39, 250) ∈ rfL by decide)), Option.bind_some, n1, bnd_some]
end
