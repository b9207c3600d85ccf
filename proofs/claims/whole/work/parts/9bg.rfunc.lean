/-! the reference's FUNCTIONS: a call does what the body's denotation says -/
/-- a Code of the reference, cut from the steps co and the values vo, does that -/
def RCode (ci : CI) (D : DSt) (Lm Nm : Nat) : Prop := ∃ (b kv lcl need : Nat) (co : Nat → Int32) (vo : Nat → VQ), IrS (cBa ci) b (cVb ci) kv lcl need co vo D ∧ cBa ci ≤ b ∧ (∀ j, cBa ci ≤ j → j < b → cSp ci (j - cBa ci) = co j) ∧ b + 1 ≤ cNs ci + cBa ci ∧ (∀ j, cVb ci ≤ j → j < kv → cCq ci (j - cVb ci) = vo j) ∧ kv ≤ cNv ci + cVb ci ∧ lcl ≤ cLo ci ∧ cPa ci ≤ cLo ci ∧ cLo ci ≤ Lm ∧ need ≤ Nm ∧ 1 ≤ need ∧ cSp ci (b - cBa ci) = 28 ∧ b - cBa ci + 2 ≤ 8192
def FGR (ci : CI) (fd : FD) : Prop := cPa ci = fd.2.1 ∧ RCode ci fd.2.2 128 511
section
variable {d F0 T P Pb F lt p x u m Q pc : Nat} {g : RG} {ci : CI} {Z : RZ} {R : RS} {om : Int32} {v : V2} {kd : Nat → Int32}
/-- RETURN or CLEAR in a call goes back behind it -/
theorem rg_back {pb q : Nat} (D : RD g.1 g.2.2.2.2) (C : CDi g.2.2.1 ci) (hF : F + 1 < 9) (hc : Z.2.2.2.2.1 (F + 1) = .ref ci.1) (hp : p < cNs ci) (ho : cSp ci p = 26) (ht : T < 8000) (hb : Z.2.2.2.2.2.2.1 (F + 1) = nI pb) (hq : Z.2.2.2.2.2.1 (F + 1) = nI q) : GoR d 1 (rm g F0 Z R om (T + 1) P u (F + 2) p) (rm g F0 (upQ Z.1 T (Z.1 T), Z.2.1, Z.2.2.1, upQ Z.2.2.2.1 0 (Z.1 T), Z.2.2.2.2) R om (T + 1) pb u (F + 1) q) := goR_1 ((one_26 (d := d + 7) D C hF hc hp ho).trans (e_leave (d := d + 5) D ht hF hb hq))
theorem rg_clear {pb q : Nat} (D : RD g.1 g.2.2.2.2) (C : CDi g.2.2.1 ci) (hF : F + 1 < 9) (hc : Z.2.2.2.2.1 (F + 1) = .ref ci.1) (hp : p < cNs ci) (ho : cSp ci p = 28) (ht : T < 8000) (hb : Z.2.2.2.2.2.2.1 (F + 1) = nI pb) (hq : Z.2.2.2.2.2.1 (F + 1) = nI q) : GoR d 1 (rm g F0 Z R om T P u (F + 2) p) (rm g F0 (upQ (upQ Z.1 T (0, 0, 0, 0)) T (upQ Z.1 T (0, 0, 0, 0) T), Z.2.1, Z.2.2.1, upQ Z.2.2.2.1 0 (upQ Z.1 T (0, 0, 0, 0) T), Z.2.2.2.2) R om (T + 1) pb u (F + 1) q) := goR_1 ((one_28 (d := d + 6) D C hF hc hp ho ht).trans (e_leave (d := d + 5) D ht hF hb hq))
end
theorem fX_find {FT : Nat → FD} {sg : Sg} {R : RS} {f : Nat → am_C} {FC : Nat → CI} {w : List Nat} (FF : FRR f sg.1 R FC (fun i => (FT i).1)) (hw : okN w) : s_find R.2.2.2.2.1 sg.1.2.2.2.2.2.2.2.2 (nV w) = fX FT sg w := by
  unfold fX
  refine (find_eq fun j hj => ?_).symm
  obtain ⟨h1, h2, _, _⟩ := FF j hj
  rw [h1, nV_same h2 hw]
  exact nC_same h2 hw
theorem CKR_of {d : Nat} {g : RG} {F0 : Nat} {FC : Nat → CI} {FT : Nat → FD} (hF0 : F0 ≤ 2000) (D : RD g.1 g.2.2.2.2) (G : ∀ i, FGR (FC i) (FT i)) : ∀ rem, CKR d g F0 FC (fun i => (FT i).1) (F0, callN FT F0 rem) rem := by
  intro rem
  induction rem with
  | zero =>
    intro ci Z R om Q m P F pc sg w vs C hc hF X O o0 hu FF hw hm h8 hQ hP hvs
    have fx := fX_find FF hw
    have hn := X.2.2.2.2.2.1
    have hR := X.2.2.2.2.2.2
    show ∃ cd s1, _ ∧ ((_ ∧ RunR d g F0 Z R Q P F pc s1 0 1 sg (callN FT F0 0 w m vs sg).1 (callN FT F0 0 w m vs sg).2.1 (fun z => z 0 = (callN FT F0 0 w m vs sg).2.2)) ∨ (¬ (callN FT F0 0 w m vs sg).2.1 = 0 ∧ cd = (callN FT F0 0 w m vs sg).2.1 ∧ 0 ≤ cd ∧ GR F0 sg (callN FT F0 0 w m vs sg).1 (callN FT F0 0 w m vs sg).2.1 ∧ RHt g F0 s1 (callN FT F0 0 w m vs sg).1.2.1 (callN FT F0 0 w m vs sg).1.2.2))
    unfold callN
    by_cases q : sg.2.2 < F0
    · rw [if_pos q]
      rcases find_or (g := R.2.2.2.2.1) (k := sg.1.2.2.2.2.2.2.2.2) (y := nV w) (by omega) with h | ⟨j, h1, h2, h3⟩
      · rw [if_pos (Or.inl (by rw [← fx]; exact h))]
        refine ⟨_, _, e_call6 (d := d + 6) D (by omega) q hn hR h, Or.inr ⟨by show ¬ (6 : Int32) = 0; decide, rfl, by decide, ⟨Nat.le_succ _, q, by show ¬ (6 : Int32) = 11; decide⟩, ?_⟩⟩
        exact RHt_rm (T := Q + m) (P := P) (fr := F + 1) (pc := pc) O
      · have ej : (fX FT sg w).toNatClampNeg = j := by
          rw [← fx, h2]
          exact nI_clamp (by omega)
        have en : ¬ fX FT sg w < 0 := by
          rw [← fx, h2]
          exact nI_pos (by omega)
        obtain ⟨f1, f2, f3, f4⟩ := FF j h1
        obtain ⟨g1, b, kv, lcl, need, co, vo, g2, g3, g4, g5, g6, g7, g8, g9, g10, g11⟩ := G j
        rw [ej]
        by_cases qm : (FT j).2.1 = m
        · rw [if_neg (not_or.mpr ⟨en, fun hh => hh qm⟩)]
          have e8 : F = 8 := by omega
          subst e8
          refine ⟨_, _, e_call7 (d := d + 6) D (by omega) q hn hR h2 h1 f3 f4 (by rw [g1]; exact qm), Or.inr ⟨by show ¬ (7 : Int32) = 0; decide, rfl, by decide, ⟨Nat.le_succ _, q, by show ¬ (7 : Int32) = 11; decide⟩, ?_⟩⟩
          exact RHt_rm (T := Q + m) (P := P) (fr := 9) (pc := pc) O
        · rw [if_pos (Or.inr qm)]
          refine ⟨_, _, e_call6' (d := d + 6) D (by omega) q hn hR h2 h1 f3 f4 (by omega) (by omega) (by rw [g1]; exact qm), Or.inr ⟨by show ¬ (6 : Int32) = 0; decide, rfl, by decide, ⟨Nat.le_succ _, q, by show ¬ (6 : Int32) = 11; decide⟩, ?_⟩⟩
          exact RHt_rm (T := Q + m) (P := P) (fr := F + 1) (pc := pc) O
    · rw [if_neg q]
      have e0 : sg.2.2 = F0 := by omega
      refine ⟨1, rm g F0 Z R om (Q + m) P sg.2.2 (F + 1) pc, ?_, Or.inr ⟨by show ¬ (1 : Int32) = 0; decide, rfl, by decide, ⟨Nat.le_refl _, hu, by show ¬ (1 : Int32) = 11; decide⟩, RHt_rm (T := Q + m) (P := P) (fr := F + 1) (pc := pc) O⟩⟩
      rw [e0]
      exact e_call1 (d := d + 6) D (by omega)
  | succ n ih =>
    intro ci Z R om Q m P F pc sg w vs C hc hF X O o0 hu FF hw hm h8 hQ hP hvs
    have fx := fX_find FF hw
    have hn := X.2.2.2.2.2.1
    have hR := X.2.2.2.2.2.2
    show ∃ cd s1, _ ∧ ((_ ∧ RunR d g F0 Z R Q P F pc s1 0 1 sg (callN FT F0 (n + 1) w m vs sg).1 (callN FT F0 (n + 1) w m vs sg).2.1 (fun z => z 0 = (callN FT F0 (n + 1) w m vs sg).2.2)) ∨ (¬ (callN FT F0 (n + 1) w m vs sg).2.1 = 0 ∧ cd = (callN FT F0 (n + 1) w m vs sg).2.1 ∧ 0 ≤ cd ∧ GR F0 sg (callN FT F0 (n + 1) w m vs sg).1 (callN FT F0 (n + 1) w m vs sg).2.1 ∧ RHt g F0 s1 (callN FT F0 (n + 1) w m vs sg).1.2.1 (callN FT F0 (n + 1) w m vs sg).1.2.2))
    unfold callN
    by_cases q : sg.2.2 < F0
    · rw [if_pos q]
      rcases find_or (g := R.2.2.2.2.1) (k := sg.1.2.2.2.2.2.2.2.2) (y := nV w) (by omega) with h | ⟨j, h1, h2, h3⟩
      · rw [if_pos (Or.inl (by rw [← fx]; exact h))]
        refine ⟨_, _, e_call6 (d := d + 6) D (by omega) q hn hR h, Or.inr ⟨by show ¬ (6 : Int32) = 0; decide, rfl, by decide, ⟨Nat.le_succ _, q, by show ¬ (6 : Int32) = 11; decide⟩, ?_⟩⟩
        exact RHt_rm (T := Q + m) (P := P) (fr := F + 1) (pc := pc) O
      · have ej : (fX FT sg w).toNatClampNeg = j := by
          rw [← fx, h2]
          exact nI_clamp (by omega)
        have en : ¬ fX FT sg w < 0 := by
          rw [← fx, h2]
          exact nI_pos (by omega)
        obtain ⟨f1, f2, f3, f4⟩ := FF j h1
        obtain ⟨g1, b, kv, lcl, need, co, vo, g2, g3, g4, g5, g6, g7, g8, g9, g10, g11, g12, g13, g14⟩ := G j
        rw [ej]
        by_cases qm : (FT j).2.1 = m
        · rw [if_neg (not_or.mpr ⟨en, fun hh => hh qm⟩)]
          have epa : cPa (FC j) = m := g1.trans qm
          have ec := e_callR (d := d + 4) (us := g.2.1) (f := g.2.2.1) (b := g.2.2.2.1) (sk := Z.1) (pk := Z.2.1) (g0 := Z.2.2.1) (hk := Z.2.2.2.1) (cu := Z.2.2.2.2.1) (bk := Z.2.2.2.2.2.1) (bs := Z.2.2.2.2.2.2.1) (ob := Z.2.2.2.2.2.2.2) (R := R) (om := om) (t := Q) (pl := P) (p := pc) (F := F) (m := m) (mx := F0) (k := sg.2.2) D (by omega) q hn hR h2 h1 f3 f4 epa (by omega) (by omega) (show P + cLo (FC j) < 4000 by omega) (by omega)
          refine ⟨_, _, ec, Or.inl ⟨rfl, ?_⟩⟩
          generalize hpl : plC (plN Z.2.1 P (cLo (FC j))) P (fun k => Z.1 (Q + k)) m = pl1
          have hpl2 : ∀ j', pl1 j' = if P ≤ j' ∧ j' < P + m then Z.1 (Q + (j' - P)) else if P ≤ j' ∧ j' < P + cLo (FC j) then (0, 0, 0, 0) else Z.2.1 j' := fun j' => by rw [← hpl, plC_at, plN_at]
          let Z1 : RZ := (Z.1, pl1, Z.2.2.1, Z.2.2.2.1, updV Z.2.2.2.2.1 (F + 1) (.ref (FC j).1), upI Z.2.2.2.2.2.1 (F + 1) (nI pc), upI Z.2.2.2.2.2.2.1 (F + 1) (nI P), Z.2.2.2.2.2.2.2)
          have u1 : Z1.2.2.2.2.1 (F + 1) = .ref (FC j).1 := by show updV _ _ _ _ = _; unfold updV; rw [if_pos rfl]
          have u2 : Z1.2.2.2.2.2.1 (F + 1) = nI pc := by show upI _ _ _ _ = _; unfold upI; rw [if_pos rfl]
          have u3 : Z1.2.2.2.2.2.2.1 (F + 1) = nI P := by show upI _ _ _ _ = _; unfold upI; rw [if_pos rfl]
          have ZX : RZX Q P F Z Z1 := by
            refine ⟨fun _ _ => rfl, fun i hi => ?_, fun i hi => ⟨?_, ?_, ?_⟩⟩
            · show pl1 i = _
              rw [hpl2, if_neg (by omega), if_neg (by omega)]
            · show updV _ _ _ _ = _
              unfold updV
              rw [if_neg (by omega)]
            · show upI _ _ _ _ = _
              unfold upI
              rw [if_neg (by omega)]
            · show upI _ _ _ _ = _
              unfold upI
              rw [if_neg (by omega)]
          have X1 : RCX d g F0 (FC j) Z1 R om Q (P + cLo (FC j)) P (F + 1) (bS sg) (F0, callN FT F0 n) n (cLo (FC j)) (l0 m vs) need FC (fun i => (FT i).1) := by
            refine ⟨D, hF0, rfl, f4, u1, u3, by omega, X, O, o0, q, FF, ih, Nat.le_refl _, fun i hi => ?_, by omega, by omega⟩
            show VR R.1 (l0 m vs i) (pl1 (P + i))
            unfold l0
            rw [hpl2]
            by_cases c : i < m
            · rw [if_pos c, if_pos (by omega), Nat.add_sub_cancel_left]
              exact hvs i c
            · rw [if_neg c, if_neg (by omega), if_pos (by omega)]
              exact VR.nil
          have Rn := g2 d g F0 (FC j) Z1 R om Q P (cLo (FC j)) (F + 1) (bS sg) (F0, callN FT F0 n) n (l0 m vs) FC (fun i => (FT i).1) (Nat.le_refl _) (Nat.le_refl _) g4 (by omega) g6 g7 g8 X1
          generalize hres : (FT j).2.2 (F0, callN FT F0 n) (l0 m vs) (bS sg) = res at Rn
          rw [Nat.sub_self] at Rn
          have gs := Rn.1
          have tk1 : sg.2.2 + 1 ≤ res.2.1.2.2 := gs.1
          have GG : ∀ e : Int32, ¬ e = 11 → GR F0 sg res.2.1 e := fun e he => ⟨by omega, gs.2, he⟩
          unfold fEnd
          dsimp only
          by_cases e11 : res.2.2.1 = 11
          · rw [if_pos e11, if_pos e11]
            obtain ⟨k, Z2, R2, om2, pc', a1, a2, a3, a4, a5, a6, a7, a8, a9, a10⟩ := Rn.2.2.1 e11
            have a2' : k ≤ b - cBa (FC j) + 8192 * (res.2.1.2.2 - (sg.2.2 + 1)) := a2
            have b1 := rg_back (d := d) (F0 := F0) (R := R2) (om := om2) (P := P + cLo (FC j)) (u := res.2.1.2.2) D f4 (show F + 1 < 9 by omega) ((a3.2.2 (F + 1) (Nat.le_refl _)).1.trans u1) a10 a9 (show Q < 8000 by omega) ((a3.2.2 (F + 1) (Nat.le_refl _)).2.2.trans u3) ((a3.2.2 (F + 1) (Nat.le_refl _)).2.1.trans u2)
            refine ⟨GG 0 (by decide), fun _ => ⟨k + 1, _, R2, om2, a1.trans b1, by omega, ?_, a4, a5, a6, a7, fun _ => res.2.2.2, rfl, fun i hi => ?_⟩, fun h => absurd rfl h⟩
            · refine ZX.trans (T' := Q) (P' := P) (F' := F) ?_ (Nat.le_refl _) (Nat.le_refl _) (Nat.le_refl _)
              exact ⟨fun i hi => (upQ_lt hi).trans (a3.1 i hi), fun i hi => a3.2.1 i hi, fun i hi => a3.2.2 i (by omega)⟩
            · obtain rfl : i = 0 := by omega
              show VR R2.1 res.2.2.2 (upQ Z2.1 Q (Z2.1 Q) (Q + 0))
              rw [Nat.add_zero, upQ_at]
              exact a8
          · rw [if_neg e11, if_neg e11]
            by_cases e0 : res.2.2.1 = 0
            · obtain ⟨k, Z2, R2, om2, a1, a2, a3, a4, a5, a6, a7, a8⟩ := Rn.2.1 e0
              have a2' : k ≤ b - cBa (FC j) + 8192 * (res.2.1.2.2 - (sg.2.2 + 1)) := a2
              have b1 := rg_clear (d := d) (F0 := F0) (R := R2) (om := om2) (P := P + cLo (FC j)) (u := res.2.1.2.2) D f4 (show F + 1 < 9 by omega) ((a3.2.2 (F + 1) (Nat.le_refl _)).1.trans u1) (show b - cBa (FC j) < cNs (FC j) by omega) g13 (show Q < 8000 by omega) ((a3.2.2 (F + 1) (Nat.le_refl _)).2.2.trans u3) ((a3.2.2 (F + 1) (Nat.le_refl _)).2.1.trans u2)
              rw [e0]
              refine ⟨GG 0 (by decide), fun _ => ⟨k + 1, _, R2, om2, a1.trans b1, by omega, ?_, a4, a5, a6, a7, fun _ => (0, 0), rfl, fun i hi => ?_⟩, fun h => absurd rfl h⟩
              · refine ZX.trans (T' := Q) (P' := P) (F' := F) ?_ (Nat.le_refl _) (Nat.le_refl _) (Nat.le_refl _)
                exact ⟨fun i hi => (upQ_lt hi).trans ((upQ_lt hi).trans (a3.1 i hi)), fun i hi => a3.2.1 i hi, fun i hi => a3.2.2 i (by omega)⟩
              · obtain rfl : i = 0 := by omega
                show VR R2.1 (0, 0) (upQ (upQ Z2.1 Q (0, 0, 0, 0)) Q (upQ Z2.1 Q (0, 0, 0, 0) Q) (Q + 0))
                rw [Nat.add_zero, upQ_at, upQ_at]
                exact VR.nil
            · obtain ⟨k, s', a1, a2, a3⟩ := Rn.2.2.2 e0 e11
              have a2' : k ≤ b - cBa (FC j) + 8192 * (res.2.1.2.2 - (sg.2.2 + 1)) := a2
              exact ⟨GG _ e11, fun h => absurd h e0, fun _ => ⟨k, s', a1, by omega, a3⟩⟩
        · rw [if_pos (Or.inr qm)]
          refine ⟨_, _, e_call6' (d := d + 6) D (by omega) q hn hR h2 h1 f3 f4 (by omega) (by omega) (by rw [g1]; exact qm), Or.inr ⟨by show ¬ (6 : Int32) = 0; decide, rfl, by decide, ⟨Nat.le_succ _, q, by show ¬ (6 : Int32) = 11; decide⟩, ?_⟩⟩
          exact RHt_rm (T := Q + m) (P := P) (fr := F + 1) (pc := pc) O
    · rw [if_neg q]
      have e0 : sg.2.2 = F0 := by omega
      refine ⟨1, rm g F0 Z R om (Q + m) P sg.2.2 (F + 1) pc, ?_, Or.inr ⟨by show ¬ (1 : Int32) = 0; decide, rfl, by decide, ⟨Nat.le_refl _, hu, by show ¬ (1 : Int32) = 11; decide⟩, RHt_rm (T := Q + m) (P := P) (fr := F + 1) (pc := pc) O⟩⟩
      rw [e0]
      exact e_call1 (d := d + 6) D (by omega)
