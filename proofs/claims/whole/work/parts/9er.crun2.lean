/-! the class's run, all of it -/
def crC (d r : Nat) (v24 : Int32) (s28 : HS) : Option (Int32 × HS) := (if v24 = 0 then ((gR s28 128 9 4).bind fun v29 => (bnd (x_Mach_resultHead d v29 s28) fun v31 s30 => ((pV s30 128 9 7 (.long v31)).bind fun s32 => ((gR s32 128 9 4).bind fun v33 => (bnd (x_Mach_resultTail d v33 s32) fun v35 s34 => ((pV s34 128 9 8 (.long v35)).bind fun s36 => ((gR s36 128 9 5).bind fun v37 => ((gR s36 128 9 5).bind fun v38 => (bnd (x_Log_latest d v38 s36) fun v40 s39 => ((gR s39 128 9 3).bind fun v41 => (bnd (x_Pars_toldTokens d v41 s39) fun v43 s42 => (bnd (x_Log_commitBytes d v40 r v43 s42) fun v45 s44 => (bnd (x_Log_append d v37 v45 s44) fun v47 s46 => (some (v24, s46))))))))))))))) else (some (v24, s28)))
def crB (d r : Nat) (v24 : Int32) (s23 : HS) : Option (Int32 × HS) := ((gR s23 128 9 4).bind fun v25 => (bnd (x_Mach_taken d v25 s23) fun v27 s26 => ((pV s26 128 9 9 (.int v27)).bind fun s28 => (crC d r v24 s28))))
def crA (d r : Nat) (x1 v17 : Int32) (s16 : HS) : Option (Int32 × HS) := (if v17 = 0 then (some (8, s16)) else ((gR s16 128 9 4).bind fun v18 => ((gR s16 128 9 3).bind fun v19 => (bnd (x_Pars_program d v19 s16) fun v21 s20 => ((gR s20 128 9 2).bind fun v22 => (bnd (x_Mach_perform d v18 v21 r v22 x1 s20) fun v24 s23 => (crB d r v24 s23)))))))
def EV (F : Nat) (D : DSt) (Ft : FTb) (S : SC) (O : oS) : (Nat → V2) × DV := D (F, callN (ftT Ft) F 8) (fun _ => (0, 0)) (S, O, 0)
/-- how many bytes a COMMIT has -/
def cmB (S T : SC) (tk : Nat) : Nat := 8 + 16 * cntB (chO S T) 100 + 6 * (cntB (chR S T) S.2.2.2.2.2.2.1 + cntB (gnR S T) T.2.2.2.2.2.2.1) + 3 * tk
/-- what the class's run leaves when nothing is committed -/
def CRf (c : Nat) (s : HS) (g : Nat → Int32) (O : oS) (w : Nat) (sb : Int32) (bys : Nat → Int32) (SS : Nat → SC) (FF : Nat → FTb) (fu : Int32) : Prop := ∃ SS', (∀ p, p ≤ w → SS' p = SS p) ∧ CKk c s 0 g O w sb bys SS' FF (0, 0) fu
/-- what it leaves when there is a COMMIT -/
def CRw (c : Nat) (s : HS) (g : Nat → Int32) (O : oS) (w : Nat) (sb : Int32) (bys : Nat → Int32) (SS : Nat → SC) (FF : Nat → FTb) (v : V2) (fu : Int32) (S : SC) (Fn : FTb) (xx : Nat) : Prop := ∀ (s3 : HS) (d' nw : Nat) (b : Nat → Value) (om lg : Int32) (ob : Nat → Int32) (Rn Rs : RS) (wr : Nat → Nat) (WR : Nat → RS) (pn ps : Nat → Nat) (pp : Nat → Nat → Nat) (q0 : VQ) (X' : SWs), s3.1 = s.1 → s3.2.2 = s.2.2 → (∀ z, z < 160 ∨ 1310 < z → s3.2.1 z = s.2.1 z) → RKw s3 b 0 g om ob nw w lg Rn Fn Rs wr WR pn ps pp FF q0 fu X' → SR S Rn → SR (SS 0) Rs → (∀ t, t < w → SR (SS (t + 1)) (WR t) ∧ ∃ x, x ≤ 1000000 ∧ bys (t + 1) = nI x ∧ rBy (WR t) = nI x) → lg = sb + byS bys w 1 → OR O om ob → (∃ kd, VR kd v q0) → ∃ s4, x_Mod_wait (d' + 3) 160 (nI xx) s3 = some ((), s4) ∧ INV c s4
section
variable {s s1 : HS} {c L hh tt Nm w n us d k pg lc nd F : Nat} {g bys : Nat → Int32} {ws : Nat → Int64} {I I' : ID} {N N' : N3} {O : oS} {rs ul : Nat → Nat} {st : Nat → Value} {SS : Nat → SC} {un : Nat → Nat → Nat} {FF : Nat → FTb} {v : V2} {fu sb : Int32} {X : SWs} {own : Nat → Nat} {f : Nat → am_C} {TT : Nat → TI} {D : DSt} {R : RS}
theorem hh_ne {h : Nat} (q : h = 149 ∨ 1311 ≤ h) : 128 ≤ h ∧ h ≠ 130 ∧ h ≠ 131 ∧ h ≠ 148 ∧ h ≠ 151 ∧ h ≠ 152 ∧ h ≠ 153 := by omega
theorem tt_ne {h : Nat} (q : h = 150 ∨ 1311 ≤ h) : 128 ≤ h ∧ h ≠ 130 ∧ h ≠ 131 ∧ h ≠ 148 ∧ h ≠ 151 ∧ h ≠ 152 ∧ h ≠ 153 := by omega
theorem c128.fgt (h : c128 f L v fu) (hn : 1311 ≤ n) : ∃ f', x_Stow_forgetLatestRun d 128 (n, f, us) = some ((), (n, f', us)) ∧ c128 f' L (0, 0) 0 ∧ ∀ z, ¬ z = 128 → f' z = f z := by
  have e1 := pV_of (s := (n, f, us)) (k := 9) (v := .int 0) h (by decide) (show 128 < n by omega) (by show _ < 10; decide)
  have e2 := pV_of (s := (n, va_up f 128 (.inr (9, [.ref 129, .int (nI L), .ref 130, .ref 132, .ref 148, .ref 154, .ref 157, .long v.1, .long v.2, .int 0])), us)) (k := 7) (v := .long 0) (va_up_self _ _ _) (by decide) (show 128 < n by omega) (by show _ < 10; decide)
  have e3 := pV_of (s := (n, va_up (va_up f 128 (.inr (9, [.ref 129, .int (nI L), .ref 130, .ref 132, .ref 148, .ref 154, .ref 157, .long v.1, .long v.2, .int 0]))) 128 (.inr (9, [.ref 129, .int (nI L), .ref 130, .ref 132, .ref 148, .ref 154, .ref 157, .long 0, .long v.2, .int 0])), us)) (k := 8) (v := .long 0) (va_up_self _ _ _) (by decide) (show 128 < n by omega) (by show _ < 10; decide)
  refine ⟨va_up (va_up (va_up f 128 (.inr (9, [.ref 129, .int (nI L), .ref 130, .ref 132, .ref 148, .ref 154, .ref 157, .long v.1, .long v.2, .int 0]))) 128 (.inr (9, [.ref 129, .int (nI L), .ref 130, .ref 132, .ref 148, .ref 154, .ref 157, .long 0, .long v.2, .int 0]))) 128 (.inr (9, [.ref 129, .int (nI L), .ref 130, .ref 132, .ref 148, .ref 154, .ref 157, .long 0, .long 0, .int 0])), ?_, va_up_self _ _ _, fun z hz => ?_⟩
  · unfold x_Stow_forgetLatestRun
    rw [h.lk hn, e1, Option.bind_some]
    show (pV (n, va_up f 128 (.inr (9, [.ref 129, .int (nI L), .ref 130, .ref 132, .ref 148, .ref 154, .ref 157, .long v.1, .long v.2, .int 0])), us) 128 9 7 (.long 0)).bind _ = _
    rw [e2, Option.bind_some]
    show (pV (n, va_up (va_up f 128 (.inr (9, [.ref 129, .int (nI L), .ref 130, .ref 132, .ref 148, .ref 154, .ref 157, .long v.1, .long v.2, .int 0]))) 128 (.inr (9, [.ref 129, .int (nI L), .ref 130, .ref 132, .ref 148, .ref 154, .ref 157, .long 0, .long v.2, .int 0])), us) 128 9 8 (.long 0)).bind _ = _
    rw [e3, Option.bind_some]
    rfl
  · rw [va_up_ne _ _ hz, va_up_ne _ _ hz, va_up_ne _ _ hz]
theorem c128.pf {y : Int32} (h : c128 f L v fu) (hn : 1311 ≤ n) : ∃ f', pV (n, f, us) 128 9 9 (.int y) = some (n, f', us) ∧ c128 f' L v y ∧ ∀ z, ¬ z = 128 → f' z = f z := ⟨_, pV_of (s := (n, f, us)) h (by decide) (show 128 < n by omega) (by show _ < 10; decide), va_up_self _ _ _, fun z hz => va_up_ne _ _ hz⟩
theorem c128.ph {y : Int64} (h : c128 f L v fu) (hn : 1311 ≤ n) : ∃ f', pV (n, f, us) 128 9 7 (.long y) = some (n, f', us) ∧ c128 f' L (y, v.2) fu ∧ ∀ z, ¬ z = 128 → f' z = f z := ⟨_, pV_of (s := (n, f, us)) h (by decide) (show 128 < n by omega) (by show _ < 10; decide), va_up_self _ _ _, fun z hz => va_up_ne _ _ hz⟩
theorem c128.pt {y : Int64} (h : c128 f L v fu) (hn : 1311 ≤ n) : ∃ f', pV (n, f, us) 128 9 8 (.long y) = some (n, f', us) ∧ c128 f' L (v.1, y) fu ∧ ∀ z, ¬ z = 128 → f' z = f z := ⟨_, pV_of (s := (n, f, us)) h (by decide) (show 128 < n by omega) (by show _ < 10; decide), va_up_self _ _ _, fun z hz => va_up_ne _ _ hz⟩
theorem cm_le {S T : SC} {tk : Nat} (h : SI S) (h' : SI T) (ht : tk ≤ 300000) : cmB S T tk ≤ 1000000 := by
  have a1 := cntB_le (chO S T) 100
  have a2 := cntB_le (chR S T) S.2.2.2.2.2.2.1
  have a3 := cntB_le (gnR S T) T.2.2.2.2.2.2.1
  have a4 := h.1
  have a5 := h'.1
  unfold cmB
  omega
/-- read told a FAULT -/
theorem c_bad {qf : Nat} (C : CKx (n, f, us) L g I N hh tt Nm O (w, sb, st, bys) rs SS un FF v fu X own) (B : BG c (n, f, us) L N Nm) (hF : F ≤ 2000) (hq : qf ≤ 1500) (e : x_Pars_read (d + 270) 132 129 (nI L) (n, f, us) = some (nI qf, s1)) (Z : CZ s1 L g ws I' N' k ul (nI qf)) (W : WSP ws) (T : SF I N (n, f, us) I' N' s1 (24 * L + 16)) : ∃ sc, x_Stow_run (d + 270 + 1) 128 (nI F) (n, f, us) = some (100 + nI qf, sc) ∧ n ≤ sc.1 ∧ (∀ z, 160 ≤ z → z ≤ 1310 → sc.2.1 z = f z) ∧ CKk (c + 19) sc 0 g O w sb bys SS FF v fu := by
  have hn : 1311 ≤ n := C.nn
  have c1 : c128 f L v fu := C.1.1
  obtain ⟨own1, h1, _, C1⟩ := C.rd Z.cy W T
  obtain ⟨n1, f1, us1⟩ := s1
  have hn1 : 1311 ≤ n1 := C1.nn
  have c2 : c128 f1 L v fu := C1.1.1
  obtain ⟨f2, e2, e3, e4⟩ := c2.p1 (us := us1) (L' := 0) hn1
  have e2' : pV (n1, f1, us1) 128 9 1 (.int 0) = some (n1, f2, us1) := e2
  have C2 := C1.top (s' := (n1, f2, us1)) (Nat.le_refl _) (fun z _ z1 _ _ _ => e4 z z1) e3 (Nat.zero_le _) ((e4 _ (by decide)).trans C1.tape) C1.1.2.2 (C1.2.2.1.1.keep (e4 _ (by decide)) (e4 _ (by decide))) C1.2.2.1.2
  have pi := fun z (hz : PI I z) => (C.pi hz).2.2.2.2.2
  refine ⟨(n1, f2, us1), ?_, T.1, fun z z1 z2 => (e4 z (by omega)).trans (T.2.1 z (show z < n by omega) (fun q => by have := pi z q; omega)), I', N', hh, tt, Nm, st, rs, un, X, own1, C2, (B.rd T).mono (by omega)⟩
  unfold x_Stow_run
  dsimp only
  rw [c1.lk hn, if_neg (nI_pos (by omega)), if_pos (show nI F ≤ 2000 from nI_le (b := 2000) hF (by decide)), c1.gr hn (k := 3) rfl, Option.bind_some, c1.gr hn (k := 0) rfl, Option.bind_some, c1.gi hn, Option.bind_some, e, bnd_some, e2', Option.bind_some, if_neg (nI_pos (by omega))]
theorem c_run (C : CKx (n, f, us) L g I N hh tt Nm O (w, sb, st, bys) rs SS un FF v fu X own) (B : BG c (n, f, us) L N Nm) (hF : F ≤ 2000) (Q : SR (SS w) R) (e : x_Pars_read (d + 270) 132 129 (nI L) (n, f, us) = some (-1, s1)) (Z : CZ s1 L g ws I' N' k ul (-1)) (W : WSP ws) (gp : gR s1 132 5 5 = some pg) (T : SF I N (n, f, us) I' N' s1 (24 * L + 16)) (U : ∀ i, i < k → TU s1.2.1 s1.1 (ul i) (TT i)) (P : PU s1.2.1 s1.1 pg lc nd D) (hn2 : n ≤ pg ∧ ∀ i, i < k → n ≤ ul i) (hp : (∀ i, i < k → ∀ z, ul i ≤ z → z ≤ ul i + 2 → ¬ PI I' z) ∧ ∀ z, pg ≤ z → z ≤ pg + 2 → ¬ PI I' z) (hk : k ≤ 187) : ∃ va sc, x_Stow_run (d + 270 + 1) 128 (nI F) (n, f, us) = some (va, sc) ∧ n ≤ sc.1 ∧ (∀ z, 160 ≤ z → z ≤ 1310 → sc.2.1 z = f z) ∧ ((ftL TT k 0 (FF w) = none ∧ va = 8 ∧ CRf (c + 19) sc g (0, 0, O.2.2) w sb bys SS FF 0) ∨ ∃ (Ft : FTb) (S0 : SC), ftL TT k 0 (FF w) = some Ft ∧ SQt (cpS (SS (w + 1)) (SS w)) S0 ∧ S0.2.2.2.2.2.2.2.2 = Ft.1 ∧ Ft.1 ≤ 10 ∧ va = (fEnd (EV F D Ft S0 (0, 0, O.2.2))).2.1 ∧ ((¬ va = 0 ∧ CRf (c + 19) sc g (EV F D Ft S0 (0, 0, O.2.2)).2.1.2.1 w sb bys SS FF (nI (EV F D Ft S0 (0, 0, O.2.2)).2.1.2.2)) ∨ (va = 0 ∧ CRw (c + 19) sc g (EV F D Ft S0 (0, 0, O.2.2)).2.1.2.1 w sb bys SS FF (fEnd (EV F D Ft S0 (0, 0, O.2.2))).2.2 (nI (EV F D Ft S0 (0, 0, O.2.2)).2.1.2.2) (EV F D Ft S0 (0, 0, O.2.2)).2.1.1 Ft (cmB (EV F D Ft S0 (0, 0, O.2.2)).2.1.1 (SS w) (tkS TT k))))) := by
  have hn : 1311 ≤ n := C.nn
  have c1 : c128 f L v fu := C.1.1
  have hw8 : w ≤ 8 := C.2.2.2.2.1.2.2.1
  have pi := fun z (hz : PI I z) => (C.pi hz).2.2.2.2.2
  obtain ⟨own1, h1, h1', C1⟩ := C.rd Z.cy W T
  have B1 := B.rd T
  have T1 := T.1
  have T2 := T.2.1
  obtain ⟨n1, f1, us1⟩ := s1
  have T1 : n ≤ n1 := T1
  have hn1 : 1311 ≤ n1 := C1.nn
  have c2 : c128 f1 L v fu := C1.1.1
  obtain ⟨f2, e2, e3, e4⟩ := c2.p1 (us := us1) (L' := 0) hn1
  have e2' : pV (n1, f1, us1) 128 9 1 (.int 0) = some (n1, f2, us1) := e2
  obtain ⟨f3, e5, e6, e7⟩ := OCc.clr (d := d + 270) (us := us1) (C1.2.2.1.1.keep (e4 _ (by decide)) (e4 _ (by decide))) hn1
  have c3 : c128 f3 0 v fu := (e7 _ (by decide)).trans e3
  obtain ⟨f4, e8, e9, e10⟩ := c3.fgt (d := d + 270) (us := us1) hn1
  have fr4 : ∀ z, ¬ z = 128 → ¬ z = 130 → f4 z = f1 z := fun z z1 z2 => (e10 z z1).trans ((e7 z z2).trans (e4 z z1))
  have C4 : CKx (n1, f4, us1) 0 g I' N' hh tt Nm (0, 0, O.2.2) (w, sb, st, bys) rs SS un FF (0, 0) 0 X own1 := C1.top (Nat.le_refl _) (fun z _ z1 _ z3 _ => fr4 z z1 z3) e9 (Nat.zero_le _) ((fr4 _ (by decide) (by decide)).trans C1.tape) C1.1.2.2 (e6.keep (e10 _ (by decide)) (e10 _ (by decide))) ⟨Nat.zero_le _, Or.inl rfl⟩
  have hU := (C4.2.2.2.2.2.1 w (Nat.le_refl w)).2.2
  obtain ⟨⟨n5, f5, us5⟩, ⟨w', sb', st5, bys'⟩, rs5, l1, l2, l3, l3', l4, l5⟩ := e_workCopy (d := d + 266) C4.2.2.2.2.1 (fun i hi => by
    rcases hU i hi with a | ⟨u, a1, a2, _⟩
    · exact Or.inl a
    · exact Or.inr ⟨u, a1, a2⟩)
  have hs5 : ∀ p, p ≤ w → upSS SS (w + 1) (cpS (SS (w + 1)) (SS w)) p = SS p := fun p hp => if_neg (by omega)
  obtain ⟨own5, h5, C5⟩ := C4.lg l2 l5 hs5 (p0 := w + 1) (by omega) l3 l4
  have B5 : BG (c + 1 + 18) (n5, f5, us5) 0 N' Nm := (show BG (c + 1) (n1, f4, us1) 0 N' Nm from B1).lg l5 (by decide)
  have n15 : n1 ≤ n5 := l5.2.2.1
  have hn5 : 1311 ≤ n5 := by omega
  obtain ⟨rfl, rfl, rfl⟩ : w' = w ∧ sb' = sb ∧ bys' = bys := l5.1
  replace l1 : x_Log_workCopy (d + 270) 154 (n1, f4, us1) = some (rs5 (w' + 1), (n5, f5, us5)) := l1
  replace l3 : st5 (w' + 1) = .ref (rs5 (w' + 1)) := l3
  replace l3' : st5 w' = .ref (rs5 w') := l3'
  replace l4 : ∀ z, z < n1 → ¬ z = 155 → (z < rs5 (w' + 1) ∨ rs5 (w' + 1) + 7 < z) → f5 z = f4 z := l4
  have sw1 : upSS SS (w' + 1) (cpS (SS (w' + 1)) (SS w')) (w' + 1) = cpS (SS (w' + 1)) (SS w') := if_pos rfl
  have hnn1 : ¬ st5 (w' + 1) = .null := by
    rw [l3]
    exact rf_nn
  have hnn0 : ¬ st5 w' = .null := by
    rw [l3']
    exact rf_nn
  obtain ⟨S1, r1, r2⟩ : ST f5 (rs5 (w' + 1)) (cpS (SS (w' + 1)) (SS w')) ∧ 1311 ≤ rs5 (w' + 1) ∧ rs5 (w' + 1) + 7 < n5 := by
    rcases l2.2.2.2.1 (w' + 1) (by omega) with ⟨a, _⟩ | ⟨_, a1, a2, a3⟩
    · exact absurd (l3.symm.trans a) rf_nn
    · rw [sw1] at a1
      exact ⟨a1, a2, a3⟩
  have p1 := C5.2.2.2.2.2.2.2.2.2.2 (w' + 1) (show w' + 1 < 10 by omega) hnn1
  have ob : ∀ z, own5 z < 1311 → z < rs5 (w' + 1) ∨ rs5 (w' + 1) + 7 < z := fun z hz => by
    by_cases y1 : z < rs5 (w' + 1)
    · exact Or.inl y1
    · by_cases y2 : rs5 (w' + 1) + 7 < z
      · exact Or.inr y2
      · have := p1 z (by omega) (by omega)
        omega
  have fr5 : ∀ z, z < n1 → own1 z = 1 ∨ own1 z = 3 → f5 z = f1 z ∧ own5 z = own1 z := fun z z1 z2 => by
    have q0 := h5 z z1
    have q1 : ¬ z = 155 := fun q => by
      have := C4.2.2.2.2.2.2.2.1 155 (by decide)
      rw [q, this] at z2
      exact absurd z2 (by decide)
    have q2 : ¬ z = 128 := fun q => by
      have := C4.2.2.2.2.2.2.2.1 128 (by decide)
      rw [q, this] at z2
      exact absurd z2 (by decide)
    have q3 : ¬ z = 130 := fun q => by
      have := C4.2.2.2.2.2.2.2.1 130 (by decide)
      rw [q, this] at z2
      exact absurd z2 (by decide)
    exact ⟨(l4 z z1 q1 (ob z (by rw [q0]; omega))).trans (fr4 z q2 q3), q0⟩
  have PIo : ∀ z, PI I' z → own1 z = 1 := fun z hz => C1.2.2.2.2.2.2.2.2.1 z hz
  obtain ⟨y1, y2, y3, y4, y5, y6⟩ := Z
  have hia : PI I' (ia I') := Or.inr (Or.inr (Or.inr (Or.inr (Or.inr (Or.inr (Or.inr (Or.inr (Or.inr (Or.inr (Or.inr rfl))))))))))
  have h144 : PI I' 144 := Or.inr (Or.inr (Or.inr (Or.inr (Or.inl rfl))))
  have A5 : ALR (n5, f5, us5) k N'.2.2 (ia I') ul := y4.keep n15 (fr5 144 (show 144 < n1 by omega) (Or.inl (PIo _ h144))).1 (fun _ => (fr5 _ (y6 _ hia) (Or.inl (PIo _ hia))).1)
  have ut : ∀ i, i < k → ∀ z, ul i ≤ z → z ≤ ul i + 2 → z < n1 ∧ own1 z = 3 := fun i hi z z1 z2 => ⟨by have : ul i + 2 < n1 := (U i hi).lt.2; omega, h1' z (by have := hn2.2 i hi; show n ≤ z; omega) (hp.1 i hi z z1 z2)⟩
  have pt : ∀ z, pg ≤ z → z ≤ pg + 2 → z < n1 ∧ own1 z = 3 := fun z z1 z2 => ⟨by
    obtain ⟨_, _, _, _, _, _, _, _, q, _⟩ := P
    have q : pg + 2 < n1 := q
    omega, h1' z (by have := hn2.1; show n ≤ z; omega) (hp.2 z z1 z2)⟩
  have U5 : ∀ i, i < k → TU f5 n5 (ul i) (TT i) ∧ (ul i + 2 < rs5 (w' + 1) ∨ rs5 (w' + 1) + 7 < ul i) := fun i hi => ⟨(U i hi).keep n15 (fun z z1 z2 => (fr5 z (ut i hi z z1 z2).1 (Or.inr (ut i hi z z1 z2).2)).1), by
    have o1 : ∀ z, ul i ≤ z → z ≤ ul i + 2 → z < rs5 (w' + 1) ∨ rs5 (w' + 1) + 7 < z := fun z z1 z2 => ob z (by rw [(fr5 z (ut i hi z z1 z2).1 (Or.inr (ut i hi z z1 z2).2)).2, (ut i hi z z1 z2).2]; decide)
    have a0 := o1 (ul i) (by omega) (by omega)
    have a1 := o1 (ul i + 1) (by omega) (by omega)
    have a2 := o1 (ul i + 2) (by omega) (by omega)
    omega⟩
  have UP5 : UPl (n5, f5, us5) own5 (rs5 (w' + 1)) (cpS (SS (w' + 1)) (SS w')) (un w') (FF w') := by
    have u0 := C5.2.2.2.2.2.1 w' (Nat.le_refl w')
    rw [hs5 w' (Nat.le_refl _)] at u0
    exact u0.cp r1 p1 rfl (fun i hi => mx_in hi)
  obtain ⟨dr, pg', fa, sg, c132⟩ := C5.2.1.choose_spec.1.1
  have g132 : ∃ fs, f5 132 = .inr (5, fs) ∧ fs[4]? = some (.ref 144) := ⟨_, c132, rfl⟩
  have aa : ia I' < rs5 (w' + 1) ∨ rs5 (w' + 1) + 7 < ia I' := by
    exact ob _ (by rw [(fr5 _ (y6 _ hia) (Or.inl (PIo _ hia))).2, PIo _ hia]; decide)
  have c5 : c128 f5 0 (0, 0) 0 := C5.1.1
  have hd : x_Stow_run (d + 270 + 1) 128 (nI F) (n, f, us) = bnd (x_Pars_tellInto (d + 270) 132 (rs5 (w' + 1)) (n5, f5, us5)) fun v17 s16 => crA (d + 270) (rs5 (w' + 1)) (nI F) v17 s16 := by
    unfold x_Stow_run
    dsimp only
    rw [c1.lk hn, if_neg (nI_pos (by omega)), if_pos (show nI F ≤ 2000 from nI_le (b := 2000) hF (by decide)), c1.gr hn (k := 3) rfl, Option.bind_some, c1.gr hn (k := 0) rfl, Option.bind_some, c1.gi hn, Option.bind_some, e, bnd_some, e2', Option.bind_some, if_pos (by decide), e3.gr hn1 (k := 2) rfl, Option.bind_some, e5, bnd_some, e8, bnd_some, e9.gr hn1 (k := 5) rfl, Option.bind_some, l1, bnd_some, c5.gr hn5 (k := 3) rfl, Option.bind_some]
    rfl
  have hlow : ∀ z, 160 ≤ z → z ≤ 1310 → f5 z = f z := fun z z1 z2 => (l4 z (by omega) (by omega) (by omega)).trans ((fr4 z (by omega) (by omega)).trans (T2 z (show z < n by omega) (fun q => by have := pi z q; omega)))
  rcases Or.symm (e_tellInto (d := d + 267) (us := us5) r1 r2 S1 g132 A5 aa U5 UP5.1) with ⟨t1, S6, t2, t4⟩ | ⟨Ft, S6, un6, t1, t2, t3, t4⟩
  · have C6 := C5.st (p0 := w' + 1) (S' := S6) (Nat.lt_succ_self w') (by omega) hnn1
    replace t2 : x_Pars_tellInto (d + 270) 132 (rs5 (w' + 1)) (n5, f5, us5) = some (0, (n5, HT f5 (rs5 (w' + 1)) S6, us5)) := t2
    refine ⟨8, (n5, HT f5 (rs5 (w' + 1)) S6, us5), ?_, Nat.le_trans T1 n15, fun z z1 z2 => (HT_off (by omega)).trans (hlow z z1 z2), Or.inl ⟨t1, rfl, _, fun p hp => (if_neg (by omega)).trans (hs5 p hp), I', N', hh, tt, Nm, st5, rs5, un, X, own5, C6, (show BG (c + 1 + 18) (n5, _, us5) 0 N' Nm from B5).mono (by omega)⟩⟩
    rw [hd, t2, bnd_some]
    rfl
  · replace t2 : x_Pars_tellInto (d + 270) 132 (rs5 (w' + 1)) (n5, f5, us5) = some (1, (n5, HT f5 (rs5 (w' + 1)) S6, us5)) := t2
    have C6 := C5.st (p0 := w' + 1) (S' := S6) (Nat.lt_succ_self w') (by omega) hnn1
    have of6 : ∀ z, z < rs5 (w' + 1) ∨ rs5 (w' + 1) + 7 < z → HT f5 (rs5 (w' + 1)) S6 z = f5 z := fun z hz => HT_off hz
    have S6s : ST (HT f5 (rs5 (w' + 1)) S6) (rs5 (w' + 1)) S6 := ST.mk
    replace C6 : CKx (n5, HT f5 (rs5 (w' + 1)) S6, us5) 0 g I' N' hh tt Nm (0, 0, O.2.2) (w', sb', st5, bys') rs5 (upSS (upSS SS (w' + 1) (cpS (SS (w' + 1)) (SS w'))) (w' + 1) S6) un FF (0, 0) 0 X own5 := C6
    have hs6 : ∀ p, p ≤ w' → upSS (upSS SS (w' + 1) (cpS (SS (w' + 1)) (SS w'))) (w' + 1) S6 p = SS p := fun p hp => (if_neg (by omega)).trans (hs5 p hp)
    generalize HT f5 (rs5 (w' + 1)) S6 = f6 at t2 t3 C6 of6 S6s
    generalize upSS (upSS SS (w' + 1) (cpS (SS (w' + 1)) (SS w'))) (w' + 1) S6 = SS6 at C6 hs6
    have fr6 : ∀ z, z < n1 → own1 z = 1 ∨ own1 z = 3 → f6 z = f1 z ∧ own5 z = own1 z := fun z z1 z2 => by
      obtain ⟨q1, q2⟩ := fr5 z z1 z2
      exact ⟨(of6 z (ob z (by rw [q2]; omega))).trans q1, q2⟩
    have h400 := ftL_400 TT k 0 (FF w') Ft UP5.2.1 t1
    have UP6 : UPl (n5, f6, us5) own5 (rs5 (w' + 1)) S6 un6 Ft := by
      refine ⟨t3, h400, fun i hi => ?_⟩
      rcases t4.2 i with q | ⟨u, ⟨j, j1, j2⟩, q⟩
      · rw [q]
        rcases UP5.2.2 i hi with a | ⟨u, a1, a2, a3, a4, a5⟩
        · exact Or.inl a
        · exact Or.inr ⟨u, a1, isO_keep a2 (of6 u (ob u (by rw [a5 u (Nat.le_refl _) (Nat.le_add_right _ _)]; decide))) (Nat.le_refl _), a3, a4, a5⟩
      · rw [q, j2]
        have tl := (U5 j j1).1
        exact Or.inr ⟨ul j, rfl, isO_keep (s := (n5, f5, us5)) tl.isO (of6 _ (ob _ (by rw [(fr5 (ul j) (ut j j1 _ (Nat.le_refl _) (Nat.le_add_right _ _)).1 (Or.inr (ut j j1 _ (Nat.le_refl _) (Nat.le_add_right _ _)).2)).2, (ut j j1 (ul j) (Nat.le_refl _) (Nat.le_add_right _ _)).2]; decide))) (Nat.le_refl _), tl.lt.1, tl.lt.2, fun z z1 z2 => by rw [(fr5 z (ut j j1 z z1 z2).1 (Or.inr (ut j j1 z z1 z2).2)).2, (ut j j1 z z1 z2).2]⟩
    have c6 : c128 f6 0 (0, 0) 0 := C6.1.1
    have gp6 : gR (n5, f6, us5) 132 5 5 = some pg := by
      obtain ⟨a, dr', pg0, sg', w1, _⟩ := y1
      have q1 := gR_of (s := (n1, f1, us1)) (k := 5) (x := pg0) w1 (by decide) (show 132 < n1 by omega) rfl
      have q2 : pg0 = pg := by
        rw [q1] at gp
        exact Option.some.inj gp
      have q3 : f6 132 = _ := (fr6 132 (by omega) (Or.inl (PIo _ (Or.inl rfl)))).1.trans w1
      rw [← q2]
      exact gR_of (s := (n5, f6, us5)) (k := 5) q3 (by decide) (show 132 < n5 by omega) rfl
    have MK := C6.2.2.2.1
    obtain ⟨⟨v2, v3, v4, v5, v9, v10, v11, v12, v13, v14, v15, rh, rt, m1⟩, ⟨hd0, m2⟩, ⟨tl0, m3⟩, ⟨cu0, m4⟩, ⟨cn0, m5⟩, ⟨cb0, m6⟩, m7, m8, m9, m10, m11, m12, m13⟩ := MK
    have OC6 := C6.2.2.1.1
    have wk := WK_id (f := f6) (r := rs5 (w' + 1)) (S := S6) m1 m2 m3 m4 m5 m6 OC6 S6s
    have oh := C6.2.2.2.2.2.2.2.2.2.1
    have bh : hh < rs5 (w' + 1) ∨ rs5 (w' + 1) + 7 < hh := ob hh (by rw [oh.1]; decide)
    have bt : tt < rs5 (w' + 1) ∨ rs5 (w' + 1) + 7 < tt := ob tt (by rw [oh.2]; decide)
    have m10 : hh < n5 := m10
    have m11 : tt < n5 := m11
    have DWy : DW n5 hh tt (rs5 (w' + 1)) := by
      obtain ⟨z0, z1, z2, z3, z4, z5, z6⟩ := hh_ne m7
      obtain ⟨y0, y1, y2, y3, y4, y5, y6⟩ := tt_ne m8
      exact ⟨z0, m10, y0, m11, m9, r1, r2, bh, bt, z1, z2, z3, z4, z5, z6, y1, y2, y3, y4, y5, y6⟩
    let Y : MY := (n5, us5, f6, hh, tt, Nm, hd0, tl0, cu0, cn0, cb0, rh, rt)
    have yo : ∀ z, z < n1 → own1 z = 3 → 1311 ≤ z → yO (rs5 (w' + 1)) Y z := fun z z1 z2 z3 => by
      have q := (fr6 z z1 (Or.inr z2)).2
      refine ⟨z3, by show z < n5; omega, fun e => ?_, fun e => ?_, ob z (by rw [q, z2]; decide)⟩
      · have e : z = hh := e
        rw [e] at q z2
        rw [oh.1, z2] at q
        exact absurd q (by decide)
      · have e : z = tt := e
        rw [e] at q z2
        rw [oh.2, z2] at q
        exact absurd q (by decide)
    have P6 : PU Y.2.2.1 Y.1 pg lc nd D := by
      obtain ⟨b, k', cu, pu, q1, q2, q3, q4, q5, q6⟩ := P
      have fp : ∀ z, pg ≤ z → z ≤ pg + 2 → f6 z = f1 z := fun z z1 z2 => (fr6 z (pt z z1 z2).1 (Or.inr (pt z z1 z2).2)).1
      exact ⟨b, k', cu, pu, (fp _ (by omega) (by omega)).trans q1, (fp _ (by omega) (by omega)).trans q2, (fp _ (by omega) (by omega)).trans q3, q4, Nat.lt_of_lt_of_le q5 n15, q6⟩
    have p13 : 1311 ≤ pg := by
      obtain ⟨_, _, _, _, _, _, _, q, _⟩ := P
      exact q
    obtain ⟨ui, u1, u2, u3⟩ := pg_pu (r := rs5 (w' + 1)) P6 (fun z z1 z2 => yo z (pt z z1 z2).1 (pt z z1 z2).2 (by omega))
    have fex : ∀ i, ∃ vi : UI, FG vi (ftT Ft i) ∧ (i < Ft.1 → vi.1 = un6 i ∧ UV (rs5 (w' + 1)) Y vi) := fun i => by
      unfold ftT
      by_cases ci : i < Ft.1
      · rw [if_pos ci]
        have tl := (t3.2.2 i ci).2.1
        have tg := fun z z1 z2 => UP6.tag ci (z := z) z1 z2
        obtain ⟨vi, w1, w2, w3⟩ := fg_tu (Y := Y) (r := rs5 (w' + 1)) tl (Nat.le_trans (tkS_lj Ft.2 Ft.1 i ci) h400) (fun z z1 z2 => by
          have q := tg z z1 z2
          have lt := tl.lt
          refine ⟨by omega, by show z < n5; omega, fun e => ?_, fun e => ?_, ob z (by rw [q]; decide)⟩
          · have e : z = hh := e
            rw [e, oh.1] at q
            exact absurd q (by decide)
          · have e : z = tt := e
            rw [e, oh.2] at q
            exact absurd q (by decide))
        exact ⟨vi, w1, fun _ => ⟨w2, w3⟩⟩
      · rw [if_neg ci]
        obtain ⟨vi, w1⟩ := fg_def
        exact ⟨vi, w1, fun w => absurd w ci⟩
    obtain ⟨FI, hFI⟩ := Classical.axiomOfChoice fex
    have SI6 : SI S6 := by
      obtain ⟨q1, q2, q3, q4, q5, q6, q7⟩ := t4.1
      have s0 := (Q.ccS (S := SS (w' + 1))).si
      exact ⟨by rw [q7]; exact s0.1, by rw [t3.1]; exact t3.2.1, fun o ho => by rw [q3]; exact s0.2.2 o ho⟩
    have hrun := y_perf (d := d + 261) (r := rs5 (w' + 1)) (FI := FI) (FT := ftT Ft) (Y := Y) (ui := ui) (D := D) (S := S6) (O := (0, 0, O.2.2)) (v2 := v2) (v3 := v3) (v4 := v4) (v5 := v5) (v9 := v9) (v10 := v10) (v11 := v11) (v12 := v12) (v13 := v13) (v14 := v14) (v15 := v15) hF (fun i => (hFI i).1) ⟨DWy, m12, m13, Nat.zero_le _⟩ SI6 ⟨Nat.zero_le _, Or.inl rfl⟩ (fun i hi => by
      have ci : i < Ft.1 := by
        rw [← t3.1]
        exact hi
      obtain ⟨w1, w2⟩ := (hFI i).2 ci
      exact ⟨by rw [w1]; exact (t3.2.2 i ci).1, w2⟩) u3 u1
    obtain ⟨s7, j1, j2, j3, j4⟩ := hrun
    replace j1 : x_Mach_perform (d + 270) 148 ui.1 (rs5 (w' + 1)) 130 (nI F) (n5, WK f6 [.ref hh, .ref tt, v2, v3, v4, v5, .ref 151, .ref 152, .ref 153, v9, v10, v11, v12, v13, v14, v15, .long rh, .long rt] hh tt Nm hd0 tl0 cu0 cn0 cb0 (rs5 (w' + 1)) S6 (0, 0, O.2.2), us5) = some ((fEnd (EV F D Ft S6 (0, 0, O.2.2))).2.1, s7) := j1
    rw [wk, u2] at j1
    have j2 : GS F (S6, (0, 0, O.2.2), 0) (EV F D Ft S6 (0, 0, O.2.2)).2.1 := j2
    have j3 : (fEnd (EV F D Ft S6 (0, 0, O.2.2))).2.1 = 0 → ∃ Z T B pc, s7 = mh (rs5 (w' + 1)) (nI F) Z T B ui.1 pc 0 (EV F D Ft S6 (0, 0, O.2.2)).2.1.1 (EV F D Ft S6 (0, 0, O.2.2)).2.1.2.1 (EV F D Ft S6 (0, 0, O.2.2)).2.1.2.2 0 1 ∧ yG (rs5 (w' + 1)) Y Z ∧ (Z.2.2.2.2.2.2.2.2.2.2.2.1, Z.2.2.2.2.2.2.2.2.2.2.2.2) = (fEnd (EV F D Ft S6 (0, 0, O.2.2))).2.2 ∧ yW (rs5 (w' + 1)) T Z := j3
    have j4 : ¬ (fEnd (EV F D Ft S6 (0, 0, O.2.2))).2.1 = 0 → yH (rs5 (w' + 1)) (nI F) Y s7 (fEnd (EV F D Ft S6 (0, 0, O.2.2))).2.1 (EV F D Ft S6 (0, 0, O.2.2)).2.1.2.1 (EV F D Ft S6 (0, 0, O.2.2)).2.1.2.2 := j4
    refine ⟨(fEnd (EV F D Ft S6 (0, 0, O.2.2))).2.1, ?_⟩
    generalize hE : EV F D Ft S6 (0, 0, O.2.2) = E at j1 j2 j3 j4
    have hd2 : x_Stow_run (d + 270 + 1) 128 (nI F) (n, f, us) = crB (d + 270) (rs5 (w' + 1)) (fEnd E).2.1 s7 := by
      rw [hd, t2, bnd_some]
      unfold crA
      rw [if_neg (by decide), c6.gr hn5 (k := 4) rfl, Option.bind_some, c6.gr hn5 (k := 3) rfl, Option.bind_some]
      unfold x_Pars_program
      obtain ⟨dr6, pg6, fa6, sg6, c1326⟩ := C6.2.1.choose_spec.1.1
      rw [gd_of (s := (n5, f6, us5)) c1326 (by decide) (show 132 < n5 by omega), gp6, Option.bind_some, bnd_some, c6.gr hn5 (k := 2) rfl, Option.bind_some, j1, bnd_some]
    have hlow6 : ∀ z, 160 ≤ z → z ≤ 1310 → f6 z = f z := fun z z1 z2 => (of6 z (by omega)).trans (hlow z z1 z2)
    have hlo2 : ∀ z, 160 ≤ z → z ≤ 1310 → own5 z = 9 := fun z z1 z2 => by
      rw [C6.2.2.2.2.2.2.2.1 z (by omega)]
      unfold fxT
      rw [if_neg (by omega), if_neg (by omega), if_neg (by omega), if_neg (by omega), if_neg (by omega), if_neg (by omega), if_neg (by omega), if_neg (by omega)]
    have after : ∀ (Zz : MY) (S7 : SC) (tp bs pc cl er dn : Int32) (u : Nat) (rh rt : Int64), s7 = (Zz.1, WW Zz.2.2.1 Zz.2.2.2.1 Zz.2.2.2.2.1 Zz.2.2.2.2.2.1 Zz.2.2.2.2.2.2.1 Zz.2.2.2.2.2.2.2.1 Zz.2.2.2.2.2.2.2.2.1 Zz.2.2.2.2.2.2.2.2.2.1 Zz.2.2.2.2.2.2.2.2.2.2.1 (rs5 (w' + 1)) S7 E.2.1.2.1 (nI F) tp bs u pc cl (nI E.2.1.2.2) er dn rh rt, Zz.2.1) → yG (rs5 (w' + 1)) Y Zz → ∃ own7 hh7 tt7 Nm7 f8, (∀ z, z < n5 → own7 z = own5 z) ∧ x_Stow_run (d + 270 + 1) 128 (nI F) (n, f, us) = crC (d + 270) (rs5 (w' + 1)) (fEnd E).2.1 (s7.1, f8, s7.2.2) ∧ CKx (s7.1, f8, s7.2.2) 0 g I' N' hh7 tt7 Nm7 E.2.1.2.1 (w', sb', st5, bys') rs5 (upSS SS6 (w' + 1) S7) un FF (0, 0) (nI E.2.1.2.2) X own7 ∧ BG (c + 1 + 18) (s7.1, f8, s7.2.2) 0 N' Nm7 ∧ n5 ≤ s7.1 ∧ (∀ z, z < n5 → own5 z = 1 ∨ own5 z = 3 ∨ own5 z = 9 → f8 z = f6 z) ∧ (∃ q2 q3 q4 q5 q9 q10 q11 q12 q13 q14 q15 : Value, f8 148 = .inr (6, [.ref hh7, .ref tt7, q2, q3, q4, q5, .ref 151, .ref 152, .ref 153, q9, q10, q11, q12, q13, q14, q15, .long rh, .long rt])) := fun Zz S7 tp bs pc cl er dn u rh rt es gz => by
      obtain ⟨own7, a1, a2, a3, a4, a5⟩ := C6.perf (p0 := w' + 1) (Nat.lt_succ_self w') (by omega) hnn1 (Z := Zz) gz j2.2.1 es
      have B7 : BG (c + 1 + 18) s7 0 N' Zz.2.2.2.2.2.1 := by
        refine BG.gm (s := (n5, f6, us5)) (Nm := Nm) (r := rs5 (w' + 1)) (f := f6) (hh := hh) (tt := tt) (f' := Zz.2.2.1) (u := Zz.2.2.2.1) (k := Zz.2.2.2.2.1) B5 ?_
        rw [es]
        exact gz
      obtain ⟨n7, f7, us7⟩ := s7
      have hn7 : 1311 ≤ n7 := a2.nn
      have c7 : c128 f7 0 (0, 0) 0 := a2.1.1
      have tk : x_Mach_taken (d + 270) 148 (n7, f7, us7) = some (nI E.2.1.2.2, (n7, f7, us7)) := by
        unfold x_Mach_taken
        rw [gd_of (s := (n7, f7, us7)) a4 (by decide) (show 148 < n7 by omega), gI_of (s := (n7, f7, us7)) (k := 13) (x := nI E.2.1.2.2) a4 (by decide) (show 148 < n7 by omega) rfl, Option.bind_some]
      obtain ⟨f8, b1, b2, b3⟩ := c7.pf (us := us7) (y := nI E.2.1.2.2) hn7
      refine ⟨own7, _, _, _, f8, a1, ?_, a2.top (s' := (n7, f8, us7)) (Nat.le_refl _) (fun z _ z1 _ _ _ => b3 z z1) b2 (Nat.zero_le _) ((b3 _ (by decide)).trans a2.tape) a2.1.2.2 (a2.2.2.1.1.keep (b3 _ (by decide)) (b3 _ (by decide))) a2.2.2.1.2, B7, a5, fun z z1 z2 => ?_, ⟨_, _, _, _, _, _, _, _, _, _, _, (b3 _ (by decide)).trans a4⟩⟩
      · rw [hd2]
        unfold crB
        rw [c7.gr hn7 (k := 4) rfl, Option.bind_some, tk, bnd_some, b1, Option.bind_some]
      · have q : ¬ z = 128 := fun e => by
          have o := C6.2.2.2.2.2.2.2.1 128 (by decide)
          rw [e, o] at z2
          exact absurd z2 (by decide)
        exact (b3 z q).trans (a3 z z1 (by omega) (by omega) (by omega))
    by_cases c0 : (fEnd E).2.1 = 0
    · obtain ⟨Zz, Tt, Bb, pc, es, gz, ev, _⟩ := j3 c0
      obtain ⟨own7, hh7, tt7, Nm7, f8, a0, a1, a2, a3, a4, a5, q2, q3, q4, q5, q9, q10, q11, q12, q13, q14, q15, a6⟩ := after Zz E.2.1.1 (nI Tt) (nI Bb) (nI pc) (nI 0) 0 1 ui.1 _ _ es gz
      unfold crC at a1
      rw [if_pos c0] at a1
      generalize s7.1 = n7 at *
      generalize s7.2.2 = us7 at *
      have hn7 : 1311 ≤ n7 := by omega
      have c8 : c128 f8 0 (0, 0) (nI E.2.1.2.2) := a2.1.1
      obtain ⟨f9, b1, b2, b3⟩ := c8.ph (us := us7) (y := Zz.2.2.2.2.2.2.2.2.2.2.2.1) hn7
      have a6' : f9 148 = _ := (b3 _ (by decide)).trans a6
      obtain ⟨fa', d1, d2, d3⟩ := b2.pt (us := us7) (y := Zz.2.2.2.2.2.2.2.2.2.2.2.2) hn7
      have frA : ∀ z, ¬ z = 128 → fa' z = f8 z := fun z hz => (d3 z hz).trans (b3 z hz)
      have CA := a2.top (s' := (n7, fa', us7)) (Nat.le_refl _) (fun z _ z1 _ _ _ => frA z z1) d2 (Nat.zero_le _) ((frA _ (by decide)).trans a2.tape) a2.1.2.2 (a2.2.2.1.1.keep (frA _ (by decide)) (frA _ (by decide))) a2.2.2.1.2
      have frB : ∀ z, z < n1 → own1 z = 1 ∨ own1 z = 3 → fa' z = f1 z := fun z z1 z2 => by
        obtain ⟨x1, x2⟩ := fr6 z z1 z2
        have q : ¬ z = 128 := fun e => by
          have o := C4.2.2.2.2.2.2.2.1 128 (by decide)
          rw [e, o] at z2
          exact absurd z2 (by decide)
        exact (frA z q).trans ((a5 z (by omega) (by rw [x2]; omega)).trans x1)
      have sw8 : upSS SS6 (w' + 1) E.2.1.1 (w' + 1) = E.2.1.1 := if_pos rfl
      have hs8 : ∀ p, p ≤ w' → upSS SS6 (w' + 1) E.2.1.1 p = SS p := fun p hp => (if_neg (by omega)).trans (hs6 p hp)
      have LA := e_latI (d := d + 267) CA.2.2.2.2.1 hnn0
      replace LA : x_Log_latest (d + 270) 154 (n7, fa', us7) = some (rs5 w', (n7, fa', us7)) := LA
      have n17 : n1 ≤ n7 := by omega
      have AA : ALR (n7, fa', us7) k N'.2.2 (ia I') ul := y4.keep n17 (frB 144 (show 144 < n1 by omega) (Or.inl (PIo _ h144))) (fun _ => frB _ (y6 _ hia) (Or.inl (PIo _ hia)))
      obtain ⟨drA, pgA, faA, sgA, c132A⟩ := CA.2.1.choose_spec.1.1
      have TA := e_toldTokens (d := d + 267) (us := us7) (f := fa') (n := n7) ⟨_, c132A, rfl⟩ hn7 AA (fun j hj => (U j hj).keep n17 (fun z z1 z2 => frB z (ut j hj z z1 z2).1 (Or.inr (ut j hj z z1 z2).2)))
      replace TA : x_Pars_toldTokens (d + 270) 132 (n7, fa', us7) = some (nI (tkS TT k), (n7, fa', us7)) := TA
      obtain ⟨SA, x1, x2⟩ : ST fa' (rs5 (w' + 1)) E.2.1.1 ∧ 1311 ≤ rs5 (w' + 1) ∧ rs5 (w' + 1) + 7 < n7 := by
        rcases CA.2.2.2.2.1.2.2.2.1 (w' + 1) (by omega) with ⟨a, _⟩ | ⟨_, a1, a2, a3⟩
        · exact absurd a hnn1
        · rw [sw8] at a1
          exact ⟨a1, a2, a3⟩
      obtain ⟨SB, x3, x4⟩ : ST fa' (rs5 w') (SS w') ∧ 1311 ≤ rs5 w' ∧ rs5 w' + 7 < n7 := by
        rcases CA.2.2.2.2.1.2.2.2.1 w' (by omega) with ⟨a, _⟩ | ⟨_, a1, a2, a3⟩
        · exact absurd a hnn0
        · rw [hs8 w' (Nat.le_refl _)] at a1
          exact ⟨a1, a2, a3⟩
      have SI7 : SI E.2.1.1 := j2.1.1
      have CB := e_cBytes (d := d + 267) (us := us7) (tk := tkS TT k) SA (by omega) x2 SB (by omega) x4 SI7 Q.si
      replace CB : x_Log_commitBytes (d + 270) (rs5 w') (rs5 (w' + 1)) (nI (tkS TT k)) (n7, fa', us7) = some (nI (cmB E.2.1.1 (SS w') (tkS TT k)), (n7, fa', us7)) := CB
      have t5 : tkS TT k ≤ 300000 := by
        have := tkS_1500 TT k (fun j hj => by
          obtain ⟨_, _, _, _, _, _, _, _, _, _, _, _, q, _⟩ := U j hj
          exact q.2.2.2.2.2.2)
        omega
      have hcm := cm_le SI7 Q.si t5
      have UA8 : UPl (n7, fa', us7) own7 (rs5 (w' + 1)) (upSS SS6 (w' + 1) E.2.1.1 (w' + 1)) un6 Ft := by
        rw [sw8]
        have k1 := UP6.keep (s' := (n7, fa', us7)) (own' := own7) a4 (fun z z1 z2 z3 => (frA z (by omega)).trans (a5 z z2 (Or.inr (Or.inl z3)))) a0
        have e8 := j2.1.2
        exact k1.cp x1 (fun z z1 z2 => by rw [a0 z (by omega)]; exact p1 z z1 z2) (congrArg (fun x => x.2) e8) (fun i _ => congrFun (congrArg (fun x => x.1) e8) i)
      obtain ⟨fb, k1, k2, k3⟩ := app_fin (d := d + 268) (xx := cmB E.2.1.1 (SS w') (tkS TT k)) CA hnn0 hnn1 UA8 hcm
      replace k1 : x_Log_append (d + 270) 154 (nI (cmB E.2.1.1 (SS w') (tkS TT k))) (n7, fa', us7) = some ((), (n7, fb, us7)) := k1
      refine ⟨(n7, fb, us7), ?_, by show n ≤ n7; omega, fun z z1 z2 => (k2 z (by omega)).trans ((frA z (by omega)).trans ((a5 z (by omega) (Or.inr (Or.inr (hlo2 z z1 z2)))).trans (hlow6 z z1 z2))), Or.inr ⟨Ft, S6, t1, t4.1, t3.1, t3.2.1, by rw [hE], Or.inr ⟨c0, ?_⟩⟩⟩
      · rw [a1, c8.gr hn7 (k := 4) rfl, Option.bind_some]
        unfold x_Mach_resultHead x_Mach_resultTail
        rw [gd_of (s := (n7, f8, us7)) a6 (by decide) (show 148 < n7 by omega), gL_of (s := (n7, f8, us7)) (k := 16) a6 (by decide) (show 148 < n7 by omega) rfl, Option.bind_some, bnd_some, b1, Option.bind_some, b2.gr hn7 (k := 4) rfl, Option.bind_some, gd_of (s := (n7, f9, us7)) a6' (by decide) (show 148 < n7 by omega), gL_of (s := (n7, f9, us7)) (k := 17) a6' (by decide) (show 148 < n7 by omega) rfl, Option.bind_some, bnd_some, d1, Option.bind_some, d2.gr hn7 (k := 5) rfl, Option.bind_some, Option.bind_some, LA, bnd_some, d2.gr hn7 (k := 3) rfl, Option.bind_some, TA, bnd_some, CB, bnd_some, k1, bnd_some]
      · rw [hE]
        intro s3 d' nw b om lg ob' Rn Rs wr WR pn ps pp q0 X' z1 z2 z3 z4 z5 z6 z7 z8 z9 z10
        have BZ : BG (c + 19) s3 0 N' Nm7 := by
          have h1 := a3.1
          have h2 := a3.2
          constructor
          · rw [z2]
            have h1 : us7 + 24 * 0 ≤ 500 * (c + 1 + 18) + 2 * (N'.1 + N'.2.1) + 4 * N'.2.2 + 4 * Nm7 := h1
            show us7 + 24 * 0 ≤ _
            omega
          · rw [z1]
            have h2 : 32 * n7 + 144 * 0 ≤ 41952 + 160 * (c + 1 + 18) + 2 * (N'.1 + N'.2.1) + 32 * N'.2.2 + Nm7 := h2
            show 32 * n7 + 144 * 0 ≤ _
            omega
        have ev' : ((((0, 0) : V2).2, ((0, 0) : V2).2) : V2) = (0, 0) := rfl
        refine k3 s3 (c + 19) d' nw b om lg ob' Rn Rs wr WR pn ps pp q0 X' (by rw [z1]; exact Nat.le_refl _) (fun z _ q => z3 z q) BZ z4 (by rw [sw8]; exact z5) (by rw [hs8 0 (Nat.zero_le _)]; exact z6) (fun t ht => by rw [hs8 (t + 1) (by omega)]; exact z7 t ht) z8 z9 ?_
        rw [← ev] at z10
        exact z10
    · obtain ⟨Zz, tp, bs, u, pc, cl, S7, es, gz⟩ := j4 c0
      obtain ⟨own7, hh7, tt7, Nm7, f8, a0, a1, a2, a3, a4, a5, _⟩ := after Zz S7 tp bs pc cl _ 1 u _ _ es gz
      unfold crC at a1
      rw [if_neg c0] at a1
      exact ⟨(s7.1, f8, s7.2.2), a1, by show n ≤ s7.1; omega, fun z z1 z2 => (a5 z (by omega) (Or.inr (Or.inr (hlo2 z z1 z2)))).trans (hlow6 z z1 z2), Or.inr ⟨Ft, S6, t1, t4.1, t3.1, t3.2.1, by rw [hE], Or.inl ⟨c0, by rw [hE]; exact ⟨_, fun p hp => (if_neg (by omega)).trans (hs6 p hp), I', N', hh7, tt7, Nm7, st5, rs5, un, X, own7, a2, a3.mono (by omega)⟩⟩⟩⟩
end
