/-! PERFORM: a program from its first command to its end -/
section
variable {n us d hh tt N r u : Nat} {f : Nat → am_C} {hd tl : Nat → Int64} {cu : Nat → Value} {cn cb : Nat → Int32} {S : SC} {O : oS} {mf mg : List Value}
theorem en_of (D : DW n hh tt r) {x t : Int32} (h1 : mf[2]? = some (.int t)) (h2 : mg[2]? = some (.int t)) (l1 : 5 < mf.length) (l2 : 5 < mg.length) (hs : ∀ v, ((mf.set 3 v).set 4 (.ref u)).set 5 (.int 0) = ((mg.set 3 v).set 4 (.ref u)).set 5 (.int 0)) : x_Mach_enter (d + 2) 148 u x (n, WK f mf hh tt N hd tl cu cn cb r S O, us) = x_Mach_enter (d + 2) 148 u x (n, WK f mg hh tt N hd tl cu cn cb r S O, us) := by
  have b : ∀ mf : List Value, mf[2]? = some (.int t) → x_Mach_below (d + 1) 148 x (n, WK f mf hh tt N hd tl cu cn cb r S O, us) = some (if 0 < t - x then t - x else 0, (n, WK f mf hh tt N hd tl cu cn cb r S O, us)) := by
    intro mf h
    unfold x_Mach_below
    dsimp only
    rw [w_gd D]
    unfold gI
    rw [w_gV D, h]
    rfl
  unfold x_Mach_enter
  dsimp only
  rw [w_gd (mf := mf) D, b mf h1, bnd_some, w_pV (mf := mf) D (by omega), Option.bind_some, w_pV D (by rw [List.length_set]; omega), Option.bind_some, w_pV D (by rw [List.length_set, List.length_set]; omega), Option.bind_some]
  rw [w_gd (mf := mg) D, b mg h2, bnd_some, w_pV (mf := mg) D (by omega), Option.bind_some, w_pV D (by rw [List.length_set]; omega), Option.bind_some, w_pV D (by rw [List.length_set, List.length_set]; omega), Option.bind_some, hs]
end
theorem go_end {d k : Nat} {s0 : HS} {n us hh tt N r u : Nat} {f : Nat → am_C} {hd tl : Nat → Int64} {cu : Nat → Value} {cn cb : Nat → Int32} {S : SC} {O : oS} {fu tp bs pc cl tk er : Int32} {rh rt : Int64} (D : DW n hh tt r) (g : Go d k s0 (n, WW f hh tt N hd tl cu cn cb r S O fu tp bs u pc cl tk er 1 rh rt, us)) (hk : k < 100000000) : loopK (pfB (d + 8)) FU (0, s0) = some (er, (n, WW f hh tt N hd tl cu cn cb r S O fu tp bs u pc cl tk er 1 rh rt, us)) := by
  have e := g (FU - k - 1 + 1) 0 (by omega)
  have h : FU - k - 1 + 1 + k = FU := by rw [FU_eq]; omega
  rw [h] at e
  have e0 : nI 0 = 0 := rfl
  rw [e0] at e
  rw [e, loopK_succ, Nat.zero_add]
  generalize loopK (pfB (d + 8)) (FU - k - 1) = again
  unfold pfB
  dsimp only
  rw [if_neg (show ¬ (100000000 : Int32) ≤ nI k from nI_ge (b := 100000000) hk (by decide)), m_g15 D, Option.bind_some, if_neg (show ¬ (1 : Int32) = 0 by decide), m_g14 D, Option.bind_some]
/-- the program's unit and what it does -/
def PG (ui : UI) (D : DSt) : Prop := uPs ui = 0 ∧ ∃ b lcl need kp, ImS 0 b lcl need kp ui.2.2.1 ui.2.2.2.2.1 D ∧ lcl ≤ uLc ui ∧ uLc ui + need ≤ 4096 ∧ 1 ≤ need ∧ kp ≤ ui.2.2.2.1 ∧ ui.2.1 = 2 * b + 4 ∧ ui.2.2.1 (2 * b) = 10 ∧ ui.2.2.1 (2 * (b + 1)) = 6 ∧ b + 2 ≤ 8192
theorem y_perf {d r F : Nat} {FI : Nat → UI} {FT : Nat → FD} {Y : MY} {ui : UI} {D : DSt} {S : SC} {O : oS} {v2 v3 v4 v5 v9 v10 v11 v12 v13 v14 v15 : Value} (hF : F ≤ 2000) (G : ∀ i, FG (FI i) (FT i)) (W : yW r 0 Y) (I : SI S) (hO : oW O) (FF : FS r Y S FI) (U : UV r Y ui) (PGD : PG ui D) : ∃ s', x_Mach_perform (d + 9) 148 ui.1 r 130 (nI F) (Y.1, WK Y.2.2.1 [.ref Y.2.2.2.1, .ref Y.2.2.2.2.1, v2, v3, v4, v5, .ref 151, .ref 152, .ref 153, v9, v10, v11, v12, v13, v14, v15, .long Y.2.2.2.2.2.2.2.2.2.2.2.1, .long Y.2.2.2.2.2.2.2.2.2.2.2.2] Y.2.2.2.1 Y.2.2.2.2.1 Y.2.2.2.2.2.1 Y.2.2.2.2.2.2.1 Y.2.2.2.2.2.2.2.1 Y.2.2.2.2.2.2.2.2.1 Y.2.2.2.2.2.2.2.2.2.1 Y.2.2.2.2.2.2.2.2.2.2.1 r S O, Y.2.1) = some ((fEnd (D (F, callN FT F 8) (fun _ => (0, 0)) (S, O, 0))).2.1, s') ∧ GS F (S, O, 0) (D (F, callN FT F 8) (fun _ => (0, 0)) (S, O, 0)).2.1 ∧ ((fEnd (D (F, callN FT F 8) (fun _ => (0, 0)) (S, O, 0))).2.1 = 0 → ∃ Z T B pc, s' = mh r (nI F) Z T B ui.1 pc 0 (D (F, callN FT F 8) (fun _ => (0, 0)) (S, O, 0)).2.1.1 (D (F, callN FT F 8) (fun _ => (0, 0)) (S, O, 0)).2.1.2.1 (D (F, callN FT F 8) (fun _ => (0, 0)) (S, O, 0)).2.1.2.2 0 1 ∧ yG r Y Z ∧ (Z.2.2.2.2.2.2.2.2.2.2.2.1, Z.2.2.2.2.2.2.2.2.2.2.2.2) = (fEnd (D (F, callN FT F 8) (fun _ => (0, 0)) (S, O, 0))).2.2 ∧ yW r T Z) ∧ (¬ (fEnd (D (F, callN FT F 8) (fun _ => (0, 0)) (S, O, 0))).2.1 = 0 → yH r (nI F) Y s' (fEnd (D (F, callN FT F 8) (fun _ => (0, 0)) (S, O, 0))).2.1 (D (F, callN FT F 8) (fun _ => (0, 0)) (S, O, 0)).2.1.2.1 (D (F, callN FT F 8) (fun _ => (0, 0)) (S, O, 0)).2.1.2.2) := by
  obtain ⟨p1, b, lcl, need, kp, f3, f4, f6, f7, f8, f9, f10, f11, f12⟩ := PGD
  obtain ⟨Z, z1, z2, z3, z4, z5⟩ := y_enter (d := d + 4) (r := r) (fu := nI F) (m := 0) (Q := 0) (B := 0) (pc := 0) (cl := 0) (S := S) (O := O) (tk := 0) (u0 := 0) W U (Nat.zero_le _) (by omega)
  have en : x_Mach_perform (d + 9) 148 ui.1 r 130 (nI F) (Y.1, WK Y.2.2.1 [.ref Y.2.2.2.1, .ref Y.2.2.2.2.1, v2, v3, v4, v5, .ref 151, .ref 152, .ref 153, v9, v10, v11, v12, v13, v14, v15, .long Y.2.2.2.2.2.2.2.2.2.2.2.1, .long Y.2.2.2.2.2.2.2.2.2.2.2.2] Y.2.2.2.1 Y.2.2.2.2.1 Y.2.2.2.2.2.1 Y.2.2.2.2.2.2.1 Y.2.2.2.2.2.2.2.1 Y.2.2.2.2.2.2.2.2.1 Y.2.2.2.2.2.2.2.2.2.1 Y.2.2.2.2.2.2.2.2.2.2.1 r S O, Y.2.1) = loopK (pfB (d + 8)) FU (0, mh r (nI F) Z (0 + uLc ui) 0 ui.1 0 0 S O 0 0 0) := by
    unfold x_Mach_perform
    dsimp only
    rw [w_gd W.1, w_pV W.1 (Nat.le_of_ble_eq_true rfl), Option.bind_some, w_pV W.1 (Nat.le_of_ble_eq_true rfl), Option.bind_some, w_pV W.1 (Nat.le_of_ble_eq_true rfl), Option.bind_some, w_pV W.1 (Nat.le_of_ble_eq_true rfl), Option.bind_some, w_pV W.1 (Nat.le_of_ble_eq_true rfl), Option.bind_some, w_pV W.1 (Nat.le_of_ble_eq_true rfl), Option.bind_some, w_pV W.1 (Nat.le_of_ble_eq_true rfl), Option.bind_some, w_pV W.1 (Nat.le_of_ble_eq_true rfl), Option.bind_some]
    refine Eq.trans (congrArg (fun q => bnd q _) (en_of (d := d + 6) (t := 0) (mg := mF Y.2.2.2.1 Y.2.2.2.2.1 r (nI F) 0 0 0 0 0 0 0 0 Y.2.2.2.2.2.2.2.2.2.2.2.1 Y.2.2.2.2.2.2.2.2.2.2.2.2) W.1 (by rfl) (by rfl) (by exact Nat.le_of_ble_eq_true rfl) (by exact Nat.le_of_ble_eq_true rfl) (by intro v; rfl))) ?_
    have z1' : x_Mach_enter (d + 8) 148 ui.1 0 (Y.1, WK Y.2.2.1 (mF Y.2.2.2.1 Y.2.2.2.2.1 r (nI F) 0 0 0 0 0 0 0 0 Y.2.2.2.2.2.2.2.2.2.2.2.1 Y.2.2.2.2.2.2.2.2.2.2.2.2) Y.2.2.2.1 Y.2.2.2.2.1 Y.2.2.2.2.2.1 Y.2.2.2.2.2.2.1 Y.2.2.2.2.2.2.2.1 Y.2.2.2.2.2.2.2.2.1 Y.2.2.2.2.2.2.2.2.2.1 Y.2.2.2.2.2.2.2.2.2.2.1 r S O, Y.2.1) = _ := z1
    rw [z1', bnd_some]
    rfl
  rw [en]
  have X : CX d r F Z (0 + uLc ui) 0 0 (S, O, 0) FI (F, callN FT F 8) 8 (uLc ui) (fun _ => (0, 0)) need := by
    refine ⟨hF, rfl, z4, I, hO, FF.grow z2.1, Nat.zero_le _, rfl, CK_of hF G 8, Nat.le_refl _, fun i hi => ?_, by omega⟩
    exact (z3 _ (by omega) (by omega)).symm
  have UZ : UV r Z ui := U.grow z2.1
  have Rn := f3 ui.2.2.1 ui.2.2.2.2.1 (fun _ _ _ => rfl) (fun _ _ => rfl) d r F Z 0 (uLc ui) ui.1 ui.2.1 ui.2.2.2.1 (uNm ui) (uPs ui) (uLc ui) ui.2.2.2.2.2.2.2.2 0 (S, O, 0) FI (F, callN FT F 8) 8 (fun _ => (0, 0)) UZ (by omega) f8 f4 X
  generalize D (F, callN FT F 8) (fun _ => (0, 0)) (S, O, 0) = res at Rn ⊢
  have gs := Rn.1
  have hk : res.2.1.2.2 ≤ 2000 := Nat.le_trans gs.2.2.2 hF
  have fin : ∀ (k pc' : Nat) (A : MY), Go d k (mh r (nI F) Z (0 + uLc ui) 0 ui.1 0 0 S O 0 0 0) (mh r (nI F) A (0 + uLc ui + 1) 0 ui.1 pc' 0 res.2.1.1 res.2.1.2.1 res.2.1.2.2 0 0) → k ≤ b + 1 + 8192 * (res.2.1.2.2 - 0) → yX r 0 0 Z A → yW r (0 + uLc ui + 1) A → ui.2.2.1 (2 * pc') = 6 → 2 * pc' + 1 < ui.2.1 → ∃ s', loopK (pfB (d + 8)) FU (0, mh r (nI F) Z (0 + uLc ui) 0 ui.1 0 0 S O 0 0 0) = some (0, s') ∧ ∃ A' T B pc, s' = mh r (nI F) A' T B ui.1 pc 0 res.2.1.1 res.2.1.2.1 res.2.1.2.2 0 1 ∧ yG r Y A' ∧ (A'.2.2.2.2.2.2.2.2.2.2.2.1, A'.2.2.2.2.2.2.2.2.2.2.2.2) = yV A (0 + uLc ui) ∧ yW r T A' := by
    intro k pc' A a1 a2 a3 a4 a5 a6
    have lv := y_leave0 (d := d + 5) (r := r) (fu := nI F) (B := 0) (u := ui.1) (pc := pc' + 1) (S := res.2.1.1) (O := res.2.1.2.1) (tk := res.2.1.2.2) a4
    have g1 := go_flow a4.1 (UZ.grow a3.1) a6 a5 rfl (by decide) (g_leaveF (x := ui.2.2.1 (2 * pc' + 1)) a4 lv)
    have g2 := a1.trans g1
    refine ⟨_, go_end a4.1 g2 (by omega), (A.1, A.2.1, A.2.2.1, A.2.2.2.1, A.2.2.2.2.1, A.2.2.2.2.2.1, A.2.2.2.2.2.2.1, A.2.2.2.2.2.2.2.1, A.2.2.2.2.2.2.2.2.1, A.2.2.2.2.2.2.2.2.2.1, A.2.2.2.2.2.2.2.2.2.2.1, A.2.2.2.2.2.2.1 (0 + uLc ui), A.2.2.2.2.2.2.2.1 (0 + uLc ui)), 0 + uLc ui + 1, 0, pc' + 1, rfl, ?_, rfl, a4⟩
    exact z2.1.trans (a3.1.trans (GM.rfl' a4.1))
  by_cases e11 : res.2.2.1 = 11
  · have fe : fEnd res = (res.2.1, 0, res.2.2.2) := by
      unfold fEnd
      rw [if_pos e11, if_pos e11]
    rw [fe]
    obtain ⟨k, A, pc', a1, a2, a3, a4, a5, a6, a7⟩ := Rn.2.2.1 e11
    have a2' : k ≤ b - 0 + 8192 * (res.2.1.2.2 - 0) := a2
    obtain ⟨s', q1, q2⟩ := fin k pc' A a1 (by omega) a3 a5 a6 a7
    rw [a4] at q2
    exact ⟨s', q1, gs, fun _ => q2, fun q => absurd rfl q⟩
  · have fe : fEnd res = (res.2.1, res.2.2.1, (0, 0)) := by
      unfold fEnd
      rw [if_neg e11, if_neg e11]
    rw [fe]
    by_cases e0 : res.2.2.1 = 0
    · obtain ⟨k, A, a1, a2, a3, a4, a5⟩ := Rn.2.1 e0
      have a2' : k ≤ b - 0 + 8192 * (res.2.1.2.2 - 0) := a2
      obtain ⟨out, b1, b2, _⟩ := cm_nil (K := ui.2.2.2.1) (x := ui.2.2.1 (2 * b + 1)) d r (nI F) A (0 + uLc ui) 0 ui.1 b ui.2.1 ui.2.2.1 (uNm ui) (uPs ui) (uLc ui) ui.2.2.2.2.2.2.2.2 0 res.2.1.1 res.2.1.2.1 res.2.1.2.2 (UZ.grow a3.1) (by omega) f10 rfl a5 gs.1.1 (by omega)
      obtain ⟨A', c1, c2, c3, c4⟩ := b2 rfl
      obtain ⟨s', q1, q2⟩ := fin (k + 1) (b + 1) A' (a1.trans (b1 _ c1)) (by omega) (a3.trans c2 (by omega) (Nat.le_refl _)) c4 f11 (by omega)
      rw [c3] at q2
      dsimp only
      rw [e0]
      exact ⟨s', q1, gs, fun _ => q2, fun q => absurd rfl q⟩
    · obtain ⟨k, s', a1, a2, a3⟩ := Rn.2.2.2 e0 e11
      have a2' : k ≤ b - 0 + 8192 * (res.2.1.2.2 - 0) := a2
      refine ⟨s', ?_, gs, fun q => absurd q e0, fun _ => a3.grow z2.1⟩
      obtain ⟨A, tp, bs, u', pc', cl', S', e1, e2⟩ := a3
      subst e1
      have DA : DW A.1 A.2.2.2.1 A.2.2.2.2.1 r := e2.1
      exact go_end DA a1 (by omega)
