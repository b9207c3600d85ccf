/-! sweep and count on both sides -/
section
variable {s s' : HS} {b b' : Nat → Value} {c K L nw w q n us d k r r' hh tt Nm : Nat} {g ob bys : Nat → Int32} {om lg fu sb x : Int32} {R Rn Rs Q : RS} {wr pn ps uq : Nat → Nat} {WR : Nat → RS} {pp : Nat → Nat → Nat} {FF : Nat → FTb} {F : FTb} {q0 : VQ} {X X' Y : SWs} {f f' : Nat → am_C} {O : oS} {I : ID} {N : N3} {G : LGS} {rs : Nat → Nat} {st : Nat → Value} {SS SS' : Nat → SC} {un : Nat → Nat → Nat} {v : V2} {own : Nat → Nat} {S T : SC}
theorem rQs_J (Q : SR S R) : ∀ m i (X : SWs), SWJ R X → SWJ R (rQs R m i X)
  | 0, _, _, I => I
  | m + 1, i, X, I => by
    rw [rQs]
    by_cases g : i < X.2.2
    · obtain ⟨o, ho, eo, ko⟩ := I.2 i g
      rw [if_pos g, eo, nI_clamp (by omega)]
      exact rQs_J Q m (i + 1) _ (rO_J Q ho ko I)
    · rw [if_neg g]
      exact I
theorem rAll_01 (Q : SR S R) (h : ∀ o, X.1 o = 0 ∨ X.1 o = 1) (hY : Y = rAll R S.2.2.2.2.2.2.1 (X0w X)) : ∀ o, Y.1 o = 0 ∨ Y.1 o = 1 := by
  rw [hY]
  exact (rQs_J Q 100 0 _ (rRs_J Q S.2.2.2.2.2.2.1 0 (X0w X) (by omega) (x0_swj h))).1.2.1
theorem cntB_z {a : Nat → Bool} : ∀ n, cntB a n = 0 → ∀ i, i < n → a i = false
  | 0, _, i, hi => absurd hi (Nat.not_lt_zero _)
  | n + 1, h, i, hi => by
    rw [cntB] at h
    by_cases e : i = n
    · rw [e]
      cases ha : a n with
      | false => rfl
      | true =>
        rw [if_pos ha] at h
        omega
    · exact cntB_z n (by omega) i (by omega)
theorem UPl.cp (h : UPl s own r T uq F) (r1 : 1311 ≤ r') (ho : ∀ z, r' ≤ z → z ≤ r' + 7 → own z = r') (e1 : S.2.2.2.2.2.2.2.2 = T.2.2.2.2.2.2.2.2) (e2 : ∀ i, i < 10 → S.2.2.2.2.2.2.2.1 i = T.2.2.2.2.2.2.2.1 i) : UPl s own r' S uq F := by
  have h10 := h.1.2.1
  refine ⟨⟨e1.trans h.1.1, h10, fun j hj => ⟨(e2 j (by omega)).trans (h.1.2.2 j hj).1, (h.1.2.2 j hj).2.1, ?_⟩⟩, h.2.1, fun i hi => ?_⟩
  · by_cases c1 : uq j + 2 < r'
    · exact Or.inl c1
    · by_cases c2 : r' + 7 < uq j
      · exact Or.inr c2
      · exfalso
        by_cases c3 : uq j ≤ r'
        · have a1 := ho r' (Nat.le_refl _) (by omega)
          have a2 := h.tag hj (z := r') c3 (by omega)
          omega
        · have a1 := ho (uq j) (by omega) (by omega)
          have a2 := h.tag hj (z := uq j) (Nat.le_refl _) (by omega)
          omega
  · rw [e2 i hi]
    exact h.2.2 i hi
theorem RL.up {v : V2} (h : RL w sb bys lg SS Rn Rs WR O om ob v q0) (e : ∀ p, p ≤ w → SS' p = SS p) : RL w sb bys lg SS' Rn Rs WR O om ob v q0 := ⟨by rw [e w (Nat.le_refl _)]; exact h.1, by rw [e 0 (Nat.zero_le _)]; exact h.2.1, fun t ht => by rw [e (t + 1) (by omega)]; exact h.2.2.1 t ht, h.2.2.2⟩
theorem RKx.sweep (h : RKx (n, f, us) b L g om ob nw w lg Rn Rs wr WR pn ps pp FF q0 fu X) (hY : ∀ o, Y.1 o = 0 ∨ Y.1 o = 1) : RKx (n, HSt (HRp f b Y) nw (mwR Rn Y 100), us) (updV b 52 (.int (nI Y.2.2))) L g om ob nw w lg (mwR Rn Y 100) Rs wr WR pn ps pp FF q0 fu Y := by
  obtain ⟨⟨a1, a2, a3, a4, a5⟩, b1, c1, d1, ⟨Rw, e1⟩, ⟨f1, f2⟩, g1, h1⟩ := h
  have of : ∀ z, ¬ z = 160 → ¬ z = 263 → ¬ z = 264 → (z < nw ∨ nw + 16 < z) → HSt (HRp f b Y) nw (mwR Rn Y 100) z = f z := fun z z1 z2 z3 z4 => (HS_off z4).trans (HR_off z1 z2 z3)
  have po : ∀ z, 401 ≤ z → z ≤ 1310 → HSt (HRp f b Y) nw (mwR Rn Y 100) z = f z := fun z z1 z2 => of z (by omega) (by omega) (by omega) (by omega)
  refine ⟨⟨(HS_off (by omega)).trans HR_0, a2, a3.u52, a4, a5⟩, b1.keep (fun z z1 z2 z3 => of z (by omega) (by omega) (by omega) (by omega)), ⟨RSt.mk, c1.2.1.keep2 po, c1.2.2⟩, d1.keep (fun z z1 z2 => of z (by omega) (by omega) (by omega) (by omega)) po, ⟨Rw, e1.keep (fun z z1 z2 => of z (by omega) (by omega) (by omega) (by omega))⟩, ⟨?_, fun t ht => ⟨(f2 t ht).1.keep2 po, (f2 t ht).2⟩⟩, g1.keep (of _ (by decide) (by decide) (by decide) (by omega)) po, (HS_off (by omega)).trans (HR_8 _ _ _), (HS_off (by omega)).trans (HR_9 _ _ _), hY⟩
  exact ⟨(of 238 (by decide) (by decide) (by decide) (by omega)).trans f1.1, fun k hk => ⟨(f1.2.1 k hk).1.keep (fun x h1 h2 => of x (by have := (f1.2.1 k hk).2; omega) (by have := (f1.2.1 k hk).2; omega) (by have := (f1.2.1 k hk).2; omega) (by have := (f1.2.1 k hk).2; omega)), (f1.2.1 k hk).2⟩, f1.2.2⟩
theorem J_sweep (H : INV c s) : JM c s (x_Stow_sweep (d + 6 + 1) 128) (x_Mod_sweep (d + 6 + 1) 160) := by
  obtain ⟨L, g, O, w, sb, bys, SS, FF, v, fu, om, ob, lg, Rn, Rs, WR, q0, ⟨I, N, hh, tt, Nm, st, rs, un, X, own, C, B⟩, ⟨b, nw, wr, pn, ps, pp, X', R⟩, Q⟩ := H
  obtain ⟨n, f, us⟩ := s
  have hn : 1311 ≤ n := C.nn
  have c1 : c128 f L v fu := C.1.1
  have hw8 : w ≤ 8 := C.2.2.2.2.1.2.2.1
  have hU := (C.2.2.2.2.2.1 w (Nat.le_refl w)).2.2
  obtain ⟨⟨n2, f2, us2⟩, ⟨w', sb', st', bys'⟩, rs', l1, l2, l3, l3', l4, l5⟩ := e_workCopy (d := d + 2) C.2.2.2.2.1 (fun i hi => by
    rcases hU i hi with a | ⟨u, a1, a2, _⟩
    · exact Or.inl a
    · exact Or.inr ⟨u, a1, a2⟩)
  have hs2 : ∀ p, p ≤ w → upSS SS (w + 1) (cpS (SS (w + 1)) (SS w)) p = SS p := fun p hp => if_neg (by omega)
  obtain ⟨own', ho, C2⟩ := C.lg l2 l5 hs2 (p0 := w + 1) (by omega) l3 l4
  have B2 : BG (c + 18) (n2, f2, us2) L N Nm := B.lg l5 (by decide)
  have n12 : n ≤ n2 := l5.2.2.1
  have hn2 : 1311 ≤ n2 := by omega
  obtain ⟨rfl, rfl, rfl⟩ : w' = w ∧ sb' = sb ∧ bys' = bys := l5.1
  replace l1 : x_Log_workCopy (d + 6) 154 (n, f, us) = some (rs' (w' + 1), (n2, f2, us2)) := l1
  replace l3 : st' (w' + 1) = .ref (rs' (w' + 1)) := l3
  replace l3' : st' w' = .ref (rs' w') := l3'
  replace l4 : ∀ z, z < n → ¬ z = 155 → (z < rs' (w' + 1) ∨ rs' (w' + 1) + 7 < z) → f2 z = f z := l4
  have sw1 : upSS SS (w' + 1) (cpS (SS (w' + 1)) (SS w')) (w' + 1) = cpS (SS (w' + 1)) (SS w') := if_pos rfl
  obtain ⟨S1, r1, r2⟩ : ST f2 (rs' (w' + 1)) (cpS (SS (w' + 1)) (SS w')) ∧ 1311 ≤ rs' (w' + 1) ∧ rs' (w' + 1) + 7 < n2 := by
    rcases l2.2.2.2.1 (w' + 1) (by omega) with ⟨a, _⟩ | ⟨_, a1, a2, a3⟩
    · exact absurd (l3.symm.trans a) rf_nn
    · rw [sw1] at a1
      exact ⟨a1, a2, a3⟩
  have Q1 : SR (cpS (SS (w' + 1)) (SS w')) Rn := Q.1.ccS
  have eX := C2.2.2.2.2.2.2.1.1.eq
  have hX := C2.2.2.2.2.2.2.1.2
  obtain ⟨Y, hYe⟩ : ∃ Y, Y = rAll Rn (cpS (SS (w' + 1)) (SS w')).2.2.2.2.2.2.1 (X0w X) := ⟨_, rfl⟩
  have e3 := e_clean (d := d + 2) (us := us2) (n := n2) (f := f2) Q1 S1 r1 r2 hX hYe
  rw [eX] at e3
  have hY01 := rAll_01 Q1 hX hYe
  have hn1 : ¬ st' (w' + 1) = .null := by
    rw [l3]
    exact rf_nn
  have hn0 : ¬ st' w' = .null := by
    rw [l3']
    exact rf_nn
  have C5 := (C2.sw (Y := Y) hY01).st (p0 := w' + 1) (S' := unS (cpS (SS (w' + 1)) (SS w')) Rn Y 100) (Nat.lt_succ_self w') (by omega) hn1
  have hs5 : ∀ p, p ≤ w' → upSS (upSS SS (w' + 1) (cpS (SS (w' + 1)) (SS w'))) (w' + 1) (unS (cpS (SS (w' + 1)) (SS w')) Rn Y 100) p = SS p := fun p hp => (if_neg (by omega)).trans (hs2 p hp)
  have s51 : upSS (upSS SS (w' + 1) (cpS (SS (w' + 1)) (SS w'))) (w' + 1) (unS (cpS (SS (w' + 1)) (SS w')) Rn Y 100) (w' + 1) = unS (cpS (SS (w' + 1)) (SS w')) Rn Y 100 := if_pos rfl
  have of5 : ∀ z, (z < 157 ∨ 159 < z) → (z < rs' (w' + 1) ∨ rs' (w' + 1) + 7 < z) → HT (HWp f2 Y) (rs' (w' + 1)) (unS (cpS (SS (w' + 1)) (SS w')) Rn Y 100) z = f2 z := fun z z1 z2 => by
    rw [HT_off z2]
    unfold HWp
    rw [if_neg (by omega), if_neg (by omega), if_neg (by omega)]
  replace C5 : CKx (n2, HT (HWp f2 Y) (rs' (w' + 1)) (unS (cpS (SS (w' + 1)) (SS w')) Rn Y 100), us2) L g I N hh tt Nm O (w', sb', st', bys') rs' (upSS (upSS SS (w' + 1) (cpS (SS (w' + 1)) (SS w'))) (w' + 1) (unS (cpS (SS (w' + 1)) (SS w')) Rn Y 100)) un FF v fu Y own' := C5
  generalize hf5 : HT (HWp f2 Y) (rs' (w' + 1)) (unS (cpS (SS (w' + 1)) (SS w')) Rn Y 100) = f5 at e3 C5 of5
  generalize hSS5 : upSS (upSS SS (w' + 1) (cpS (SS (w' + 1)) (SS w'))) (w' + 1) (unS (cpS (SS (w' + 1)) (SS w')) Rn Y 100) = SS5 at C5 hs5 s51
  have R5 : RKx (n2, f5, us2) b L g om ob nw w' lg Rn Rs wr WR pn ps pp FF q0 fu X' := R.keep n12 (fun z z1 z2 => (of5 z (by omega) (by omega)).trans (l4 z (by omega) (by omega) (by omega)))
  obtain ⟨Y', hYe'⟩ : ∃ Y', Y' = rAll Rn (SS w').2.2.2.2.2.2.1 (X0w X') := ⟨_, rfl⟩
  have hX' := R5.2.2.2.2.2.2.2.2.2
  have hY01' := rAll_01 Q.1 hX' hYe'
  have eE := rAll_E Q1 hX hYe (Y' := Y') (X' := X') hYe'
  have ec : cntB (swG Rn Y) 100 = cntB (swG Rn Y') 100 := cntB_eq 100 eE
  have c100 := cntB_le (swG Rn Y) 100
  have c2 : c128 f2 L v fu := C2.1.1
  have c5 : c128 f5 L v fu := C5.1.1
  have hnw := R5.1.2.2.2.2
  have hc : x_Stow_sweep (d + 6 + 1) 128 (n, f, us) = (if nI (cntB (swG Rn Y) 100) ≤ 0 then (some (nI (cntB (swG Rn Y) 100), (n2, f5, us2))) else bnd (x_Log_append (d + 6) 154 8 (n2, f5, us2)) fun _ s8 => some (nI (cntB (swG Rn Y) 100), s8)) := by
    unfold x_Stow_sweep
    dsimp only
    rw [c1.lk hn, c1.gr hn (k := 5) rfl, Option.bind_some, l1, bnd_some, c2.gr hn2 (k := 6) rfl, Option.bind_some, e3, bnd_some, c5.gr hn2 (k := 5) rfl, Option.bind_some]
  have sp := rAll_sp Q.1 hX' hYe'
  have sp1 := SR.sw (S := cpS (SS (w' + 1)) (SS w')) Q1 sp.1 sp.2
  have R6 := R5.sweep hY01'
  have fr6 : ∀ z, z < 160 ∨ 1310 < z → HSt (HRp f5 b Y') nw (mwR Rn Y' 100) z = f5 z := fun z hz => (HS_off (by omega)).trans (HR_off (by omega) (by omega) (by omega))
  by_cases c0 : cntB (swG Rn Y) 100 = 0
  · have e6 := e_sweepR (d := d + 6) (us := us2) hn2 R5.1.1 R5.2.2.2.2.2.2.2.1 R5.2.2.2.2.2.2.2.2.1 R5.1.2.2.1.2.2.2.2.2.1 (R5.rf (by decide)) (R5.rf (by decide)) R5.1.2.2.1.2.2.2.2.2.2.2.2.2.2 hnw R5.2.2.1.1 Q.1 hX' hYe'
    have fn := cntB_z 100 (ec.symm.trans c0)
    have sr2 := SR.sw (S := SS w') Q.1 sp.1 sp.2
    have eU : unS (SS w') Rn Y' 100 = SS w' := by
      unfold unS
      refine Prod.ext rfl (Prod.ext rfl (Prod.ext ?_ rfl))
      funext o
      show (if o < 100 ∧ swG Rn Y' o = true then -1 else (SS w').2.2.1 o) = (SS w').2.2.1 o
      rw [if_neg (fun q => by rw [fn o q.1] at q; exact absurd q.2 (by decide))]
    rw [eU] at sr2
    refine ⟨nI 0, (n2, f5, us2), (n2, HSt (HRp f5 b Y') nw (mwR Rn Y' 100), us2), ?_, ?_, L, g, O, w', sb', bys', SS5, FF, v, fu, om, ob, lg, _, Rs, WR, q0, ⟨I, N, hh, tt, Nm, st', rs', un, Y, own', C5.keep (Nat.le_refl _) (fun z _ z2 => fr6 z z2), (show BG (c + 18) (n2, _, us2) L N Nm from B2).mono (by omega)⟩, ⟨_, nw, wr, pn, ps, pp, Y', R6⟩, RL.up ⟨sr2, Q.2⟩ hs5⟩
    · rw [hc, c0, if_pos (by decide)]
    · refine e6.trans ?_
      unfold swE
      rw [← ec, c0, if_pos (by decide)]
  · have p1 := C5.2.2.2.2.2.2.2.2.2.2 (w' + 1) (show w' + 1 < 10 by omega) hn1
    have U5 : UPl (n2, f5, us2) own' (rs' (w' + 1)) (SS5 (w' + 1)) (un w') (FF w') := by
      refine (C5.2.2.2.2.2.1 w' (Nat.le_refl w')).cp r1 p1 ?_ (fun i hi => ?_)
      · rw [s51, hs5 w' (Nat.le_refl _)]
        rfl
      · rw [s51, hs5 w' (Nat.le_refl _)]
        exact mx_in hi
    obtain ⟨f6, a1, a2, a3⟩ := app_fin (d := d + 4) (xx := 8) C5 hn0 hn1 U5 (by decide)
    replace a1 : x_Log_append (d + 6) 154 8 (n2, f5, us2) = some ((), (n2, f6, us2)) := a1
    have R5' : RKx (n2, f6, us2) b L g om ob nw w' lg Rn Rs wr WR pn ps pp FF q0 fu X' := R5.keep (Nat.le_refl _) (fun z z1 z2 => a2 z (by omega))
    have e6 := e_sweepR (d := d + 6) (us := us2) hn2 R5'.1.1 R5'.2.2.2.2.2.2.2.1 R5'.2.2.2.2.2.2.2.2.1 R5'.1.2.2.1.2.2.2.2.2.1 (R5'.rf (by decide)) (R5'.rf (by decide)) R5'.1.2.2.1.2.2.2.2.2.2.2.2.2.2 hnw R5'.2.2.1.1 Q.1 hX' hYe'
    have R6' := (R5'.sweep hY01').tw
    have fr6' : ∀ z, z < 160 ∨ 1310 < z → HSt (HRp f6 b Y') nw (mwR Rn Y' 100) z = f6 z := fun z hz => (HS_off (by omega)).trans (HR_off (by omega) (by omega) (by omega))
    obtain ⟨s4, t1, t2⟩ := a3 (n2, HSt (HRp f6 b Y') nw (mwR Rn Y' 100), us2) (c + 18) (d + 3) nw _ om lg ob _ Rs wr WR pn ps pp q0 Y' (Nat.le_refl _) (fun z _ z2 => fr6' z z2) B2 R6' (by rw [s51, unS_E eE]; exact sp1) (by rw [hs5 0 (Nat.zero_le _)]; exact Q.2.1) (fun t ht => by rw [hs5 (t + 1) (by omega)]; exact Q.2.2.1 t ht) Q.2.2.2.1 Q.2.2.2.2.1 Q.2.2.2.2.2
    replace t1 : x_Mod_wait (d + 6) 160 8 (n2, HSt (HRp f6 b Y') nw (mwR Rn Y' 100), us2) = some ((), s4) := t1
    have np : ¬ nI (cntB (swG Rn Y) 100) ≤ 0 := nI_nle (by omega) (by omega)
    refine ⟨nI (cntB (swG Rn Y) 100), (n2, f6, us2), s4, ?_, ?_, t2.mono (by omega)⟩
    · rw [hc, if_neg np, a1, bnd_some]
    · refine e6.trans ?_
      unfold swE
      rw [← ec, if_neg np, t1, bnd_some]
theorem cnt_CK (h : SR S R) : ∀ n, n ≤ 100 → cntC S.2.2.1 n = cntK R.1 n
  | 0, _ => rfl
  | n + 1, hn => by
    rw [cntC, cntK, cnt_CK h n (by omega)]
    congr 1
    rcases h.1 n (by omega) with ⟨a, a'⟩ | ⟨m, m1, a', a, _⟩ | ⟨m, m1, a', a, _⟩
    · rw [if_pos a, if_pos a']
    · rw [if_neg (by rw [a]; exact nI_m1 (by omega)), if_neg (by rw [a']; decide)]
    · rw [if_neg (by rw [a]; exact nI_m1 (by omega)), if_neg (by rw [a']; decide)]
theorem mkW_L (hn : 1311 ≤ n) (M : OM f b) (b33 : b 33 = .ref 238) (b34 : b 34 = .int (nI w)) (hw : w ≤ 8) (W : W8 f wr WR) (hB : ∀ t, t < w → ∃ y, y ≤ 1000000 ∧ bys (t + 1) = nI y ∧ rBy (WR t) = nI y) : ∀ m i K (a : Int32), i + m = w → m < K → loopK mkW K (a, nI i, (n, f, us)) = some (a + byS bys m (i + 1), (n, f, us))
  | _, _, 0, _, _, h => by omega
  | 0, i, K + 1, a, e, _ => by
    rw [loopK_succ, mkW_eq, mo_gI M hn (by decide) b34, Option.bind_some, if_pos (nI_le (by omega) (by omega)), byS, Int32.add_zero]
  | m + 1, i, K + 1, a, e, hK => by
    obtain ⟨y, y1, y2, y3⟩ := hB i (by omega)
    obtain ⟨w1, w2, w3⟩ := W.2.1 i (by omega)
    rw [loopK_succ, mkW_eq, mo_gI M hn (by decide) b34, Option.bind_some, if_neg (nI_ge (by omega) (by omega)), mo_gR M hn (by decide) b33, Option.bind_some, W.ar hn (by omega), Option.bind_some, w1.gB (n := n) (us := us) (by omega) (by omega), Option.bind_some, ← nI_succ, mkW_L hn M b33 b34 hw W hB m (i + 1) K _ (by omega) (by omega), byS, y2, y3, Int32.add_assoc]
theorem J_count (H : INV c s) : JM c s (x_Stow_count (d + 4 + 1) 128 x) (x_Mod_count (d + 4 + 1) 160 x) := by
  obtain ⟨L, g, O, w, sb, bys, SS, FF, v, fu, om, ob, lg, Rn, Rs, WR, q0, ⟨I, N, hh, tt, Nm, st, rs, un, X, own, C, B⟩, ⟨b, nw, wr, pn, ps, pp, X', R⟩, Q⟩ := H
  obtain ⟨n, f, us⟩ := s
  have hn : 1311 ≤ n := C.nn
  have c1 : c128 f L v fu := C.1.1
  have hw8 : w ≤ 8 := C.2.2.2.2.1.2.2.1
  obtain ⟨⟨n2, f2, us2⟩, ⟨w', sb', st', bys'⟩, rs', l1, l2, l3, l4, l5⟩ := e_latest (d := d + 1) C.2.2.2.2.1
  obtain ⟨own', ho, C2⟩ := C.lg l2 l5 (fun _ _ => rfl) (p0 := w) (by omega) l3 (fun z z1 z2 _ => l4 z z1 z2)
  have B2 : BG (c + 18) (n2, f2, us2) L N Nm := B.lg l5 (by decide)
  have n12 : n ≤ n2 := l5.2.2.1
  have hn2 : 1311 ≤ n2 := by omega
  obtain ⟨rfl, rfl, rfl⟩ : w' = w ∧ sb' = sb ∧ bys' = bys := l5.1
  replace l1 : x_Log_latest (d + 4) 154 (n, f, us) = some (rs' w', (n2, f2, us2)) := l1
  have R2 : RKx (n2, f2, us2) b L g om ob nw w' lg Rn Rs wr WR pn ps pp FF q0 fu X' := R.keep n12 (fun z z1 z2 => l4 z (by show z < n; omega) (by omega))
  have fin : INV (c + 19) (n2, f2, us2) := ⟨L, g, O, w', sb', bys', SS, FF, v, fu, om, ob, lg, Rn, Rs, WR, q0, ⟨I, N, hh, tt, Nm, st', rs', un, X, own', C2, B2.mono (by omega)⟩, ⟨b, nw, wr, pn, ps, pp, X', R2⟩, Q⟩
  obtain ⟨S1, r1, r2⟩ : ST f2 (rs' w') (SS w') ∧ 1311 ≤ rs' w' ∧ rs' w' + 7 < n2 := by
    rcases l2.2.2.2.1 w' (by omega) with ⟨a, _⟩ | ⟨_, a⟩
    · exact absurd (l3.symm.trans a) rf_nn
    · exact a
  have c2 : c128 f2 L v fu := C2.1.1
  have M := R2.1.1
  have b30 : b 30 = .ref nw := R2.1.2.2.1.2.2.2.2.2.1
  have b34 : b 34 = .int (nI w') := R2.1.2.2.1.2.2.2.2.2.2.2.1
  have b35 : b 35 = .int lg := R2.1.2.2.1.2.2.2.2.2.2.2.2.1
  have b44 : b 44 = .int fu := R2.1.2.2.1.2.2.2.2.2.2.2.2.2.1
  have hnw := R2.1.2.2.2.2
  have P := R2.2.2.1
  have c0 : f2 nw = _ := (congrFun P.1.eq nw).trans HS_0
  have UP := C2.2.2.2.2.2.1 w' (Nat.le_refl w')
  have l2' : CL (n2, f2, us2) (w', sb', st', bys') rs' SS := l2
  have eb : x_Log_waitingBytes (d + 4) 154 (n2, f2, us2) = some (byS bys' w' 1, (n2, f2, us2)) := by
    have e := e_wBytes (d := d + 4) (us := us2) (f := f2) (G := (w', sb', st', bys')) hn2 (show w' ≤ 9 by omega)
    have hg : HG f2 (w', sb', st', bys') = f2 := l2'.1
    rw [hg] at e
    exact e
  have c4 : f2 154 = _ := (congrFun l2'.1 154).symm.trans (HG_4 _ _)
  have es : x_Log_safeBytes (d + 4) 154 (n2, f2, us2) = some (sb', (n2, f2, us2)) := by
    unfold x_Log_safeBytes
    rw [l2'.gd, gI_of (s := (n2, f2, us2)) (k := 3) (x := sb') c4 (by decide) (show 154 < n2 by omega) rfl, Option.bind_some]
  have ew : x_Log_waiting (d + 4) 154 (n2, f2, us2) = some (nI w', (n2, f2, us2)) := l2'.wt (d := d + 4)
  have eT := e_fTokens (d := d + 3) (us := us2) (un := un w') (TT := (FF w').2) S1 (by omega) r2 (by rw [UP.1.1]; exact UP.1.2.1) (fun j hj => ⟨(UP.1.2.2 j (by rw [← UP.1.1]; exact hj)).1, (UP.1.2.2 j (by rw [← UP.1.1]; exact hj)).2.1⟩)
  rw [UP.1.1] at eT
  have eR := e_tokensOf (d := d + 4) (us := us2) (n := n2) (k := (FF w').1) (cc := fun j => pC (pn j)) (TT := (FF w').2) P.1 (by omega) (by omega) UP.1.2.1 P.2.1.1.2.1 (fun j hj => ⟨(P.2.1.1.2.2 j hj).1, by
    obtain ⟨m, vv, ud, sp, qq, y1, _⟩ := (P.2.1.2 j hj).2.2
    exact gI_of (s := (n2, f2, us2)) (k := 4) y1 (by show 128 ≤ 401 + 7 * pn j; omega) (by have := (P.2.1.1.2.2 j hj).2; show 401 + 7 * pn j < n2; omega) rfl⟩)
  have hd : x_Stow_count (d + 4 + 1) 128 x (n, f, us) = (if x = 0 then (bnd (x_Store_objects (d + 4) (rs' w') (n2, f2, us2)) fun v5 s4 => (some (v5, s4))) else (if x = 1 then (bnd (x_Store_roots (d + 4) (rs' w') (n2, f2, us2)) fun v7 s6 => (some (v7, s6))) else (if x = 2 then (bnd (x_Store_functions (d + 4) (rs' w') (n2, f2, us2)) fun v9 s8 => (some (v9, s8))) else (if x = 3 then (bnd (x_Store_functionTokens (d + 4) (rs' w') (n2, f2, us2)) fun v11 s10 => (some (v11, s10))) else (if x = 4 then (some (sb' + byS bys' w' 1, (n2, f2, us2))) else (if x = 5 then (some (byS bys' w' 1, (n2, f2, us2))) else (if x = 6 then (some (nI w', (n2, f2, us2))) else (if x = 7 then (some (fu, (n2, f2, us2))) else (some (-1, (n2, f2, us2))))))))))) := by
    unfold x_Stow_count
    dsimp only
    rw [c1.lk hn, c1.gr hn (k := 5) rfl, Option.bind_some, l1, bnd_some]
    simp only [c2.gr hn2 (k := 5) rfl, Option.bind_some, es, bnd_some, eb, ew, c2.gf hn2]
  unfold JM
  rw [hd]
  unfold x_Mod_count
  dsimp only
  by_cases x0 : x = 0
  · refine ⟨nI (cntC (SS w').2.2.1 100), (n2, f2, us2), (n2, f2, us2), ?_, ?_, fin⟩
    · rw [if_pos x0, e_objects (d := d + 3) S1 (by omega) r2, bnd_some]
    · rw [mo_gd M hn2, if_pos x0, mo_gR M hn2 (by decide) b30, Option.bind_some, gI_of (s := (n2, f2, us2)) (k := 8) c0 (by omega) (show nw < n2 by omega) rfl, Option.bind_some, Q.1.2.1, cnt_CK Q.1 100 (Nat.le_refl _)]
  by_cases x1 : x = 1
  · refine ⟨nI (SS w').2.2.2.2.2.2.1, (n2, f2, us2), (n2, f2, us2), ?_, ?_, fin⟩
    · unfold x_Store_roots
      rw [if_neg x0, if_pos x1, u_gd S1 (by omega) r2, u_gk S1 (by omega) r2, Option.bind_some, bnd_some]
    · rw [mo_gd M hn2, if_neg x0, if_pos x1, mo_gR M hn2 (by decide) b30, Option.bind_some, gI_of (s := (n2, f2, us2)) (k := 9) c0 (by omega) (show nw < n2 by omega) rfl, Option.bind_some, Q.1.2.2.2.1]
  by_cases x2 : x = 2
  · refine ⟨nI (SS w').2.2.2.2.2.2.2.2, (n2, f2, us2), (n2, f2, us2), ?_, ?_, fin⟩
    · unfold x_Store_functions
      rw [if_neg x0, if_neg x1, if_pos x2, u_gd S1 (by omega) r2, u_gf S1 (by omega) r2, Option.bind_some, bnd_some]
    · rw [mo_gd M hn2, if_neg x0, if_neg x1, if_pos x2, mo_gR M hn2 (by decide) b30, Option.bind_some, gI_of (s := (n2, f2, us2)) (k := 10) c0 (by omega) (show nw < n2 by omega) rfl, Option.bind_some, Q.1.2.2.2.2.2.2]
  by_cases x3 : x = 3
  · refine ⟨nI (tkS (FF w').2 (FF w').1), (n2, f2, us2), (n2, f2, us2), ?_, ?_, fin⟩
    · rw [if_neg x0, if_neg x1, if_neg x2, if_pos x3, eT, bnd_some]
    · rw [mo_gd M hn2, if_neg x0, if_neg x1, if_neg x2, if_pos x3, mo_gR M hn2 (by decide) b30, Option.bind_some, eR, bnd_some]
  by_cases x4 : x = 4
  · refine ⟨sb' + byS bys' w' 1, (n2, f2, us2), (n2, f2, us2), ?_, ?_, fin⟩
    · rw [if_neg x0, if_neg x1, if_neg x2, if_neg x3, if_pos x4]
    · rw [mo_gd M hn2, if_neg x0, if_neg x1, if_neg x2, if_neg x3, if_pos x4, mo_gI M hn2 (by decide) b35, Option.bind_some, Q.2.2.2.1]
  by_cases x5 : x = 5
  · refine ⟨byS bys' w' 1, (n2, f2, us2), (n2, f2, us2), ?_, ?_, fin⟩
    · rw [if_neg x0, if_neg x1, if_neg x2, if_neg x3, if_neg x4, if_pos x5]
    · rw [mo_gd M hn2, if_neg x0, if_neg x1, if_neg x2, if_neg x3, if_neg x4, if_pos x5]
      refine (mkW_L (us := us2) hn2 M (R2.rf (by decide)) b34 hw8 R2.2.2.2.2.2.1.1 (fun t ht => (Q.2.2.1 t ht).2) w' 0 FU 0 (by omega) (by rw [FU_eq]; omega)).trans ?_
      rw [Int32.zero_add]
  by_cases x6 : x = 6
  · refine ⟨nI w', (n2, f2, us2), (n2, f2, us2), ?_, ?_, fin⟩
    · rw [if_neg x0, if_neg x1, if_neg x2, if_neg x3, if_neg x4, if_neg x5, if_pos x6]
    · rw [mo_gd M hn2, if_neg x0, if_neg x1, if_neg x2, if_neg x3, if_neg x4, if_neg x5, if_pos x6, mo_gI M hn2 (by decide) b34, Option.bind_some]
  by_cases x7 : x = 7
  · refine ⟨fu, (n2, f2, us2), (n2, f2, us2), ?_, ?_, fin⟩
    · rw [if_neg x0, if_neg x1, if_neg x2, if_neg x3, if_neg x4, if_neg x5, if_neg x6, if_pos x7]
    · rw [mo_gd M hn2, if_neg x0, if_neg x1, if_neg x2, if_neg x3, if_neg x4, if_neg x5, if_neg x6, if_pos x7, mo_gI M hn2 (by decide) b44, Option.bind_some]
  refine ⟨-1, (n2, f2, us2), (n2, f2, us2), ?_, ?_, fin⟩
  · rw [if_neg x0, if_neg x1, if_neg x2, if_neg x3, if_neg x4, if_neg x5, if_neg x6, if_neg x7]
  · rw [mo_gd M hn2, if_neg x0, if_neg x1, if_neg x2, if_neg x3, if_neg x4, if_neg x5, if_neg x6, if_neg x7]
end
