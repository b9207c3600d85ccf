/-! go, of a program that wants 1501 places -/
theorem r_go2 {d : Nat} {g : RG} {F0 : Nat} {FC : Nat → CI} {FT : Nat → FD} {ci : CI} {Z : RZ} {R : RS} {om T P fr pc : Int32} {D : DSt} {S : SC} {O : oS} (hF0 : F0 ≤ 2000) (RDg : RD g.1 g.2.2.2.2) (G : ∀ i, FGR (FC i) (FT i)) (X : SR S R) (hO : OR O om Z.2.2.2.2.2.2.2) (o0 : O.2.1 = 0) (FF : FRR g.2.2.1 S R FC (fun i => (FT i).1)) (C : CDi g.2.2.1 ci) (c0 : ci.1 = 163) (PGR : RCode ci D 1500 1501) : ∃ s', x_Mod_go_ (d + 9) 160 (g.1, MM g.2.2.1 g.2.2.2.1 Z.1 Z.2.1 Z.2.2.1 Z.2.2.2.1 Z.2.2.2.2.1 Z.2.2.2.2.2.1 Z.2.2.2.2.2.2.1 Z.2.2.2.2.2.2.2 g.2.2.2.2 R om T P (nI F0) (nI 0) fr pc, g.2.1) = some ((fEnd (D (F0, callN FT F0 8) (fun _ => (0, 0)) (S, O, 0))).2.1, s') ∧ ((fEnd (D (F0, callN FT F0 8) (fun _ => (0, 0)) (S, O, 0))).2.1 = 0 → ∃ (Z' : RZ) (R' : RS) (om' T' P' pc' : Int32), s' = (g.1, MM g.2.2.1 g.2.2.2.1 Z'.1 Z'.2.1 Z'.2.2.1 Z'.2.2.2.1 Z'.2.2.2.2.1 Z'.2.2.2.2.2.1 Z'.2.2.2.2.2.2.1 Z'.2.2.2.2.2.2.2 g.2.2.2.2 R' om' T' P' (nI F0) (nI (D (F0, callN FT F0 8) (fun _ => (0, 0)) (S, O, 0)).2.1.2.2) (nI 0) pc', g.2.1) ∧ KG R R' ∧ SR (D (F0, callN FT F0 8) (fun _ => (0, 0)) (S, O, 0)).2.1.1 R' ∧ OR (D (F0, callN FT F0 8) (fun _ => (0, 0)) (S, O, 0)).2.1.2.1 om' Z'.2.2.2.2.2.2.2 ∧ VR R'.1 (fEnd (D (F0, callN FT F0 8) (fun _ => (0, 0)) (S, O, 0))).2.2 (Z'.2.2.1 0)) ∧ (¬ (fEnd (D (F0, callN FT F0 8) (fun _ => (0, 0)) (S, O, 0))).2.1 = 0 → RHt g F0 s' (D (F0, callN FT F0 8) (fun _ => (0, 0)) (S, O, 0)).2.1.2.1 (D (F0, callN FT F0 8) (fun _ => (0, 0)) (S, O, 0)).2.1.2.2) := by
  obtain ⟨b, kv, lcl, need, co, vo, g2, g3, g4, g5, g6, g7, g8, g9, g10, g11, g12, g13, g14⟩ := PGR
  obtain ⟨p, hp⟩ := i32_nI pc
  have ee := e_enter (d := d + 6) (us := g.2.1) (f := g.2.2.1) (b := g.2.2.2.1) (sk := Z.1) (pk := Z.2.1) (g0 := Z.2.2.1) (hk := Z.2.2.2.1) (cu := Z.2.2.2.2.1) (bk := Z.2.2.2.2.2.1) (bs := Z.2.2.2.2.2.2.1) (ob := Z.2.2.2.2.2.2.2) (R := R) (om := om) (fu := nI F0) (u := nI 0) (t := 0) (pl := 0) (p := p) (F := 0) (m := 0) RDg C (by decide) (by decide) (show 0 + cLo ci < 4000 by omega) (Nat.zero_le _)
  have eg : x_Mod_go_ (d + 9) 160 (g.1, MM g.2.2.1 g.2.2.2.1 Z.1 Z.2.1 Z.2.2.1 Z.2.2.2.1 Z.2.2.2.2.1 Z.2.2.2.2.2.1 Z.2.2.2.2.2.2.1 Z.2.2.2.2.2.2.2 g.2.2.2.2 R om T P (nI F0) (nI 0) fr pc, g.2.1) = loopK (goB (d + 8)) FU (-1, (g.1, MM g.2.2.1 g.2.2.2.1 Z.1 (plC (plN Z.2.1 0 (cLo ci)) 0 (fun k => Z.1 (0 + k)) 0) Z.2.2.1 Z.2.2.2.1 (updV Z.2.2.2.2.1 0 (.ref ci.1)) (upI Z.2.2.2.2.2.1 0 (nI p)) (upI Z.2.2.2.2.2.2.1 0 (nI 0)) Z.2.2.2.2.2.2.2 g.2.2.2.2 R om (nI 0) (nI (0 + cLo ci)) (nI F0) (nI 0) (nI (0 + 1)) (nI 0), g.2.1)) := by
    unfold x_Mod_go_
    dsimp only
    rw [r_gd RDg, r_p41 RDg, Option.bind_some, r_p42 RDg, Option.bind_some, r_p45 RDg, Option.bind_some, r_g12 RDg, Option.bind_some, ← c0, hp]
    refine (congrArg (fun q => bnd q _) ee).trans ?_
    rw [bnd_some]
    rfl
  rw [eg]
  generalize hpl : plC (plN Z.2.1 0 (cLo ci)) 0 (fun k => Z.1 (0 + k)) 0 = pl1
  have hpl2 : ∀ j', j' < cLo ci → pl1 j' = (0, 0, 0, 0) := fun j' hj => by rw [← hpl, plC_at, plN_at, if_neg (by omega), if_pos (by omega)]
  let Z1 : RZ := (Z.1, pl1, Z.2.2.1, Z.2.2.2.1, updV Z.2.2.2.2.1 0 (.ref ci.1), upI Z.2.2.2.2.2.1 0 (nI p), upI Z.2.2.2.2.2.2.1 0 (nI 0), Z.2.2.2.2.2.2.2)
  have u1 : Z1.2.2.2.2.1 0 = .ref ci.1 := rfl
  have u3 : Z1.2.2.2.2.2.2.1 0 = nI 0 := rfl
  have X1 : RCX d g F0 ci Z1 R om 0 (0 + cLo ci) 0 0 (S, O, 0) (F0, callN FT F0 8) 8 (cLo ci) (fun _ => (0, 0)) need FC (fun i => (FT i).1) := by
    refine ⟨RDg, hF0, rfl, C, u1, u3, rfl, X, hO, o0, Nat.zero_le _, FF, CKR_of hF0 RDg G 8, Nat.le_refl _, fun i hi => ?_, by omega, by omega⟩
    show VR R.1 (0, 0) (pl1 (0 + i))
    rw [hpl2 _ (by omega)]
    exact VR.nil
  have Rn := g2 d g F0 ci Z1 R om 0 0 (cLo ci) 0 (S, O, 0) (F0, callN FT F0 8) 8 (fun _ => (0, 0)) FC (fun i => (FT i).1) (Nat.le_refl _) (Nat.le_refl _) g4 (by omega) g6 g7 g8 X1
  generalize hres : D (F0, callN FT F0 8) (fun _ => (0, 0)) (S, O, 0) = res at Rn ⊢
  rw [Nat.sub_self] at Rn
  have gs := Rn.1
  have hk0 : res.2.1.2.2 ≤ 2000 := Nat.le_trans gs.2 hF0
  have fu0 : 100000000 ≤ FU := by rw [FU_eq]; decide
  unfold fEnd
  dsimp only
  by_cases e11 : res.2.2.1 = 11
  · rw [if_pos e11, if_pos e11]
    obtain ⟨k, Z2, R2, om2, pc', a1, a2, a3, a4, a5, a6, a7, a8, a9, a10⟩ := Rn.2.2.1 e11
    have a2' : k ≤ b - cBa ci + 8192 * (res.2.1.2.2 - 0) := a2
    have b1 := (one_26 (d := d + 7) (us := g.2.1) (b := g.2.2.2.1) (sk := Z2.1) (pk := Z2.2.1) (g0 := Z2.2.2.1) (hk := Z2.2.2.2.1) (cu := Z2.2.2.2.2.1) (bk := Z2.2.2.2.2.2.1) (bs := Z2.2.2.2.2.2.2.1) (ob := Z2.2.2.2.2.2.2.2) (R := R2) (om := om2) (T := nI (0 + 1)) (P := nI (0 + cLo ci)) (fu := nI F0) (u := nI res.2.1.2.2) (F := 0) RDg C (by decide) ((a3.2.2 0 (Nat.le_refl _)).1.trans u1) a10 a9).trans (e_leave0 (d := d + 5) (t := 0) RDg (by decide))
    refine ⟨_, en_fu (a1.en (enR_1 b1 (by decide))) (by omega), fun _ => ⟨(Z2.1, Z2.2.1, upQ Z2.2.2.1 0 (Z2.1 0), upQ Z2.2.2.2.1 0 (Z2.1 0), Z2.2.2.2.2), R2, om2, _, _, _, rfl, a4, a5, a6, ?_⟩, fun h => absurd rfl h⟩
    show VR R2.1 res.2.2.2 (upQ Z2.2.2.1 0 (Z2.1 0) 0)
    rw [upQ_at]
    exact a8
  · rw [if_neg e11, if_neg e11]
    by_cases e0 : res.2.2.1 = 0
    · obtain ⟨k, Z2, R2, om2, a1, a2, a3, a4, a5, a6, a7, a8⟩ := Rn.2.1 e0
      have a2' : k ≤ b - cBa ci + 8192 * (res.2.1.2.2 - 0) := a2
      have b1 := (one_28 (d := d + 6) (us := g.2.1) (b := g.2.2.2.1) (sk := Z2.1) (pk := Z2.2.1) (g0 := Z2.2.2.1) (hk := Z2.2.2.2.1) (cu := Z2.2.2.2.2.1) (bk := Z2.2.2.2.2.2.1) (bs := Z2.2.2.2.2.2.2.1) (ob := Z2.2.2.2.2.2.2.2) (R := R2) (om := om2) (t := 0) (P := nI (0 + cLo ci)) (fu := nI F0) (u := nI res.2.1.2.2) (F := 0) RDg C (by decide) ((a3.2.2 0 (Nat.le_refl _)).1.trans u1) (show b - cBa ci < cNs ci by omega) g13 (by decide)).trans (e_leave0 (d := d + 5) (t := 0) RDg (by decide))
      rw [e0]
      refine ⟨_, en_fu (a1.en (enR_1 b1 (by decide))) (by omega), fun _ => ⟨(upQ Z2.1 0 (0, 0, 0, 0), Z2.2.1, upQ Z2.2.2.1 0 (upQ Z2.1 0 (0, 0, 0, 0) 0), upQ Z2.2.2.2.1 0 (upQ Z2.1 0 (0, 0, 0, 0) 0), Z2.2.2.2.2), R2, om2, _, _, _, rfl, a4, a5, a6, ?_⟩, fun h => absurd rfl h⟩
      show VR R2.1 (0, 0) (upQ Z2.2.2.1 0 (upQ Z2.1 0 (0, 0, 0, 0) 0) 0)
      rw [upQ_at, upQ_at]
      exact VR.nil
    · obtain ⟨k, s', a1, a2, a3⟩ := Rn.2.2.2 e0 e11
      have a2' : k ≤ b - cBa ci + 8192 * (res.2.1.2.2 - 0) := a2
      exact ⟨s', en_fu a1 (by omega), fun h => absurd h e0, fun _ => a3⟩
