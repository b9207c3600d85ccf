/-! the reference's STATEMENTS -/
section
variable {d F0 T P Pb F lt p x u : Nat} {g : RG} {ci : CI} {Z : RZ} {R : RS} {om : Int32} {v : V2} {kd : Nat → Int32}
theorem rg_jump (D : RD g.1 g.2.2.2.2) (C : CDi g.2.2.1 ci) (hF : F < 9) (hc : Z.2.2.2.2.1 F = .ref ci.1) (hp : p + 1 < cNs ci) (ho : cSp ci p = 14) (hx : cSp ci (p + 1) = nI x) (hx1 : cBa ci ≤ x) : GoR d 1 (rm g F0 Z R om T P u (F + 1) p) (rm g F0 Z R om T P u (F + 1) (x - cBa ci)) := goR_1 (one_14 (d := d + 7) D C hF hc hp ho hx hx1)
theorem rg_unless (D : RD g.1 g.2.2.2.2) (C : CDi g.2.2.1 ci) (hF : F < 9) (hc : Z.2.2.2.2.1 F = .ref ci.1) (hp : p + 1 < cNs ci) (ho : cSp ci p = 15) (hx : cSp ci (p + 1) = nI x) (hx1 : cBa ci ≤ x) (ht : T < 8000) (hv : VR kd v (Z.1 T)) : (s_Cell_isTrue v.1 v.2 = 0 → GoR d 1 (rm g F0 Z R om (T + 1) P u (F + 1) p) (rm g F0 Z R om T P u (F + 1) (x - cBa ci))) ∧ (¬ s_Cell_isTrue v.1 v.2 = 0 → GoR d 1 (rm g F0 Z R om (T + 1) P u (F + 1) p) (rm g F0 Z R om T P u (F + 1) (p + 2))) := by
  have e := one_15 (d := d + 7) (us := g.2.1) (b := g.2.2.2.1) (sk := Z.1) (pk := Z.2.1) (g0 := Z.2.2.1) (hk := Z.2.2.2.1) (cu := Z.2.2.2.2.1) (bk := Z.2.2.2.2.2.1) (bs := Z.2.2.2.2.2.2.1) (ob := Z.2.2.2.2.2.2.2) (R := R) (om := om) (P := nI P) (fu := nI F0) (u := nI u) (t := T) D C hF hc hp ho hx hx1 ht
  exact ⟨fun q => goR_1 (e.trans (if_pos (hv.true.mp q))), fun q => goR_1 (e.trans (if_neg (fun h => q (hv.true.mpr h))))⟩
theorem rg_burnY (D : RD g.1 g.2.2.2.2) (C : CDi g.2.2.1 ci) (hF : F < 9) (hc : Z.2.2.2.2.1 F = .ref ci.1) (hp : p < cNs ci) (ho : cSp ci p = 23) (h2 : F0 ≤ 2000) (hu : u < F0) : GoR d 1 (rm g F0 Z R om T P u (F + 1) p) (rm g F0 Z R om T P (u + 1) (F + 1) (p + 1)) := goR_1 ((one_23 (d := d + 7) D C hF hc hp ho (by omega) (by omega)).trans (if_pos hu))
theorem rg_burnN (D : RD g.1 g.2.2.2.2) (C : CDi g.2.2.1 ci) (hF : F < 9) (hc : Z.2.2.2.2.1 F = .ref ci.1) (hp : p < cNs ci) (ho : cSp ci p = 23) (h2 : F0 ≤ 2000) (hu : u ≤ F0) (hn : ¬ u < F0) : EnR d 1 (rm g F0 Z R om T P u (F + 1) p) 1 (rm g F0 Z R om T P u (F + 1) (p + 1)) := enR_1 ((one_23 (d := d + 7) D C hF hc hp ho (by omega) hu).trans (if_neg hn)) (by decide)
end
def RunT (d : Nat) (g : RG) (F0 : Nat) (ci : CI) (Z : RZ) (R : RS) (T Pb lt F pE : Nat) (s0 : HS) (k0 : Nat) (sg : Sg) (res : (Nat → V2) × DV) : Prop := (sg.2.2 ≤ res.2.1.2.2 ∧ res.2.1.2.2 ≤ F0) ∧ (res.2.2.1 = 0 → ∃ k Z' R' om', GoR d k s0 (rm g F0 Z' R' om' T (Pb + lt) res.2.1.2.2 (F + 1) pE) ∧ k ≤ k0 + 8192 * (res.2.1.2.2 - sg.2.2) ∧ RZX T Pb F Z Z' ∧ KG R R' ∧ SR res.2.1.1 R' ∧ OR res.2.1.2.1 om' Z'.2.2.2.2.2.2.2 ∧ res.2.1.2.1.2.1 = 0 ∧ ∀ i, i < lt → VR R'.1 (res.1 i) (Z'.2.1 (Pb + i))) ∧ (res.2.2.1 = 11 → ∃ k Z' R' om' pc, GoR d k s0 (rm g F0 Z' R' om' (T + 1) (Pb + lt) res.2.1.2.2 (F + 1) pc) ∧ k ≤ k0 + 8192 * (res.2.1.2.2 - sg.2.2) ∧ RZX T Pb F Z Z' ∧ KG R R' ∧ SR res.2.1.1 R' ∧ OR res.2.1.2.1 om' Z'.2.2.2.2.2.2.2 ∧ res.2.1.2.1.2.1 = 0 ∧ VR R'.1 res.2.2.2 (Z'.1 T) ∧ cSp ci pc = 26 ∧ pc < cNs ci) ∧ (¬ res.2.2.1 = 0 → ¬ res.2.2.1 = 11 → ∃ k s', EnR d k s0 res.2.2.1 s' ∧ k ≤ k0 + 8192 * (res.2.1.2.2 - sg.2.2) ∧ RHt g F0 s' res.2.1.2.1 res.2.1.2.2)
def IrS (a b va kv lcl need : Nat) (co : Nat → Int32) (vo : Nat → VQ) (D : DSt) : Prop := ∀ (d : Nat) (g : RG) (F0 : Nat) (ci : CI) (Z : RZ) (R : RS) (om : Int32) (T Pb lt F : Nat) (sg : Sg) (env : Env) (rem : Nat) (loc : Nat → V2) (FC : Nat → CI) (FN : Nat → List Nat), cBa ci ≤ a → cVb ci ≤ va → (∀ j, a ≤ j → j < b → cSp ci (j - cBa ci) = co j) → b ≤ cNs ci + cBa ci → (∀ j, va ≤ j → j < kv → cCq ci (j - cVb ci) = vo j) → kv ≤ cNv ci + cVb ci → lcl ≤ lt → RCX d g F0 ci Z R om T (Pb + lt) Pb F sg env rem lt loc need FC FN → RunT d g F0 ci Z R T Pb lt F (b - cBa ci) (rm g F0 Z R om T (Pb + lt) sg.2.2 (F + 1) (a - cBa ci)) (b - a) sg (D env loc sg)
/-- one command of wd steps that takes m VALUES away -/
def CmT (wd m : Nat) (K : CI → Nat → Prop) (Fo : SC → (Nat → V2) → SC × Int32) : Prop := ∀ (d : Nat) (g : RG) (F0 : Nat) (ci : CI) (Z : RZ) (R : RS) (om : Int32) (T P F u p : Nat) (S : SC) (vs : Nat → V2), RD g.1 g.2.2.2.2 → CDi g.2.2.1 ci → Z.2.2.2.2.1 F = .ref ci.1 → F < 9 → p + wd ≤ cNs ci → K ci p → SR S R → T + m < 8000 → (∀ i, i < m → VR R.1 (vs i) (Z.1 (T + i))) → RO0 (rmk g F0 Z om P u (F + 1)) T Z.1 R (nI (p + wd)) (x_Mod_one (d + 8) 160 (rm g F0 Z R om (T + m) P u (F + 1) p)) (Fo S vs)
theorem ct_drop : CmT 1 1 (K1 27) (fun S _ => (S, 0)) := fun d g F0 ci Z R om T P F u p S vs D C hc hF hp K X h1 hv => by
  have e := one_27 (d := d + 7) (us := g.2.1) (b := g.2.2.2.1) (sk := Z.1) (pk := Z.2.1) (g0 := Z.2.2.1) (hk := Z.2.2.2.1) (cu := Z.2.2.2.2.1) (bk := Z.2.2.2.2.2.1) (bs := Z.2.2.2.2.2.2.1) (ob := Z.2.2.2.2.2.2.2) (R := R) (om := om) (P := nI P) (fu := nI F0) (u := nI u) (t := T) D C hF hc (show p < cNs ci by omega) K
  show RO0 _ _ _ _ _ (x_Mod_one (d + 7 + 1) 160 _) _
  rw [e]
  exact RO0.ok (fun _ _ => rfl) X KG.rfl'
theorem ct_root {w : List Nat} (hw : okN w) : CmT 2 1 (KN 4 w) (fun S vs => d_stR S (nC w) (vs 0)) := fun d g F0 ci Z R om T P F u p S vs D C hc hF hp K X h1 hv => by
  obtain ⟨k1, x, k2, k3, k4, k5⟩ := K
  show RO0 _ _ _ _ _ (x_Mod_one (d + 7 + 1) 160 _) _
  rw [one_4 D C hF hc (by omega) k1 k2 k3 k4, k5]
  exact q_stR D hw X (by omega) (hv 0 (by decide))
theorem ct_field {w : List Nat} (hw : okN w) : CmT 2 2 (KN 6 w) (fun S vs => d_stF S (nF w) (vs 0) (vs 1)) := fun d g F0 ci Z R om T P F u p S vs D C hc hF hp K X h1 hv => by
  obtain ⟨k1, x, k2, k3, k4, k5⟩ := K
  show RO0 _ _ _ _ _ (x_Mod_one (d + 7 + 1) 160 _) _
  rw [one_6 D C hF hc (by omega) k1]
  exact q_stF D C hF hc (by omega) k2 k3 k4 hw k5 X (by omega) (hv 0 (by decide)) (hv 1 (by decide))
theorem ct_item : CmT 1 3 (K1 8) (fun S vs => d_stI S (vs 0) (vs 1) (vs 2)) := fun d g F0 ci Z R om T P F u p S vs D C hc hF hp K X h1 hv => by
  show RO0 _ _ _ _ _ (x_Mod_one (d + 7 + 1) 160 _) _
  rw [one_8 D C hF hc (by omega) K]
  exact q_stI D X (by omega) (hv 0 (by decide)) (hv 1 (by decide)) (hv 2 (by decide))
section
variable {d F0 T P Pb F lt a b c k0 k1 k2 m m1 m2 rem lcl lcl' need need' va kv kv' wd pE pE' : Nat} {g : RG} {ci : CI} {Z Z' : RZ} {R R' : RS} {om : Int32} {s0 s1 : HS} {sg sg1 sg2 : Sg} {e e1 : Int32} {env : Env} {loc loc' : Nat → V2} {FC : Nat → CI} {FN : Nat → List Nat} {co co' : Nat → Int32} {vo vo' : Nat → VQ} {PV PW PX : (Nat → V2) → Prop} {res res2 : (Nat → V2) × DV}
theorem RCX.nextS {om' : Int32} (h : RCX d g F0 ci Z R om T (Pb + lt) Pb F sg env rem lt loc need FC FN) (hF : sg1.2.2 ≤ F0) (x : RZX T Pb F Z Z') (k : KG R R') (s : SR sg1.1 R') (o : OR sg1.2.1 om' Z'.2.2.2.2.2.2.2) (z : sg1.2.1.2.1 = 0) (hv : ∀ i, i < lt → VR R'.1 (loc' i) (Z'.2.1 (Pb + i))) : RCX d g F0 ci Z' R' om' T (Pb + lt) Pb F sg1 env rem lt loc' need FC FN := by
  obtain ⟨h1, h2, h3, h4, h5, h6, h7, h8, h9, h10, h11, h12, h13, h14, h15, h16, h17⟩ := h
  exact ⟨h1, h2, h3, h4, (x.2.2 F (Nat.le_refl _)).1.trans h5, (x.2.2 F (Nat.le_refl _)).2.2.trans h6, h7, s, o, z, hF, h12.next h8 s k, h13, h14, hv, h16, h17⟩
theorem RunT.stop (h : RunT d g F0 ci Z R T Pb lt F pE s0 k0 sg res) (he : ¬ res.2.2.1 = 0) (hk : k0 ≤ k1) : RunT d g F0 ci Z R T Pb lt F pE' s0 k1 sg res := by
  refine ⟨h.1, fun q => absurd q he, fun q => ?_, fun q q' => ?_⟩
  · obtain ⟨k, Z, R, om, pc, a1, a2, a3⟩ := h.2.2.1 q
    exact ⟨k, Z, R, om, pc, a1, by omega, a3⟩
  · obtain ⟨k, s', a1, a2, a3⟩ := h.2.2.2 q q'
    exact ⟨k, s', a1, by omega, a3⟩
theorem RunT.pre (x : GoR d k1 s0 s1) (h : RunT d g F0 ci Z R T Pb lt F pE s1 k0 sg res) (hk : k1 + k0 ≤ k2) : RunT d g F0 ci Z R T Pb lt F pE s0 k2 sg res := by
  refine ⟨h.1, fun q => ?_, fun q => ?_, fun q q' => ?_⟩
  · obtain ⟨k, Z', R', om', a1, a2, a3⟩ := h.2.1 q
    exact ⟨k1 + k, Z', R', om', x.trans a1, by omega, a3⟩
  · obtain ⟨k, Z', R', om', pc, a1, a2, a3⟩ := h.2.2.1 q
    exact ⟨k1 + k, Z', R', om', pc, x.trans a1, by omega, a3⟩
  · obtain ⟨k, s', a1, a2, a3⟩ := h.2.2.2 q q'
    exact ⟨k1 + k, s', x.en a1, by omega, a3⟩
theorem RunT.then' (h : RunT d g F0 ci Z R T Pb lt F pE s0 k1 sg res) (he : res.2.2.1 = 0) (h2 : ∀ Z' R' om', RZX T Pb F Z Z' → KG R R' → SR res.2.1.1 R' → OR res.2.1.2.1 om' Z'.2.2.2.2.2.2.2 → res.2.1.2.1.2.1 = 0 → (∀ i, i < lt → VR R'.1 (res.1 i) (Z'.2.1 (Pb + i))) → RunT d g F0 ci Z' R' T Pb lt F pE' (rm g F0 Z' R' om' T (Pb + lt) res.2.1.2.2 (F + 1) pE) k2 res.2.1 res2) : RunT d g F0 ci Z R T Pb lt F pE' s0 (k1 + k2) sg res2 := by
  obtain ⟨k, Z', R', om', a1, a2, a3, a4, a5, a6, a7, a8⟩ := h.2.1 he
  have h3 := h2 Z' R' om' a3 a4 a5 a6 a7 a8
  have g1 := h.1.1
  have g2 := h3.1.1
  refine ⟨⟨Nat.le_trans g1 g2, h3.1.2⟩, fun q => ?_, fun q => ?_, fun q q' => ?_⟩
  · obtain ⟨k', Z2, R2, om2, b1, b2, b3, b4, b5⟩ := h3.2.1 q
    exact ⟨k + k', Z2, R2, om2, a1.trans b1, by omega, a3.trans b3 (Nat.le_refl _) (Nat.le_refl _) (Nat.le_refl _), a4.trans b4, b5⟩
  · obtain ⟨k', Z2, R2, om2, pc, b1, b2, b3, b4, b5⟩ := h3.2.2.1 q
    exact ⟨k + k', Z2, R2, om2, pc, a1.trans b1, by omega, a3.trans b3 (Nat.le_refl _) (Nat.le_refl _) (Nat.le_refl _), a4.trans b4, b5⟩
  · obtain ⟨k', s', b1, b2, b3⟩ := h3.2.2.2 q q'
    exact ⟨k + k', s', a1.en b1, by omega, b3⟩
theorem RunR.thenT (h : RunR d g F0 Z R T (Pb + lt) F pE s0 k1 m sg sg1 e PV) (he : e = 0) (h2 : ∀ Z' R' om', RZX T (Pb + lt) F Z Z' → KG R R' → SR sg1.1 R' → OR sg1.2.1 om' Z'.2.2.2.2.2.2.2 → sg1.2.1.2.1 = 0 → ∀ vs, PV vs → (∀ i, i < m → VR R'.1 (vs i) (Z'.1 (T + i))) → RunT d g F0 ci Z' R' T Pb lt F pE' (rm g F0 Z' R' om' (T + m) (Pb + lt) sg1.2.2 (F + 1) pE) k2 sg1 res) : RunT d g F0 ci Z R T Pb lt F pE' s0 (k1 + k2) sg res := by
  obtain ⟨k, Z', R', om', a1, a2, a3, a4, a5, a6, a7, vs, a8, a9⟩ := h.2.1 he
  have h3 := h2 Z' R' om' a3 a4 a5 a6 a7 vs a8 a9
  have g1 := h.1.1
  have g2 := h3.1.1
  have a3' := a3.less (Nat.le_refl T) (show Pb ≤ Pb + lt by omega) (Nat.le_refl F)
  refine ⟨⟨Nat.le_trans g1 g2, h3.1.2⟩, fun q => ?_, fun q => ?_, fun q q' => ?_⟩
  · obtain ⟨k', Z2, R2, om2, b1, b2, b3, b4, b5⟩ := h3.2.1 q
    exact ⟨k + k', Z2, R2, om2, a1.trans b1, by omega, a3'.trans b3 (Nat.le_refl _) (Nat.le_refl _) (Nat.le_refl _), a4.trans b4, b5⟩
  · obtain ⟨k', Z2, R2, om2, pc, b1, b2, b3, b4, b5⟩ := h3.2.2.1 q
    exact ⟨k + k', Z2, R2, om2, pc, a1.trans b1, by omega, a3'.trans b3 (Nat.le_refl _) (Nat.le_refl _) (Nat.le_refl _), a4.trans b4, b5⟩
  · obtain ⟨k', s', b1, b2, b3⟩ := h3.2.2.2 q q'
    exact ⟨k + k', s', a1.en b1, by omega, b3⟩
theorem RunR.errT {v : V2} (h : RunR d g F0 Z R T P F pE s0 k0 m sg sg1 e PV) (he : ¬ e = 0) (hk : k0 ≤ k1) : RunT d g F0 ci Z R T Pb lt F pE' s0 k1 sg (loc, sg1, e, v) := by
  refine ⟨⟨h.1.1, h.1.2.1⟩, fun q => absurd q he, fun q => absurd q h.1.2.2, fun _ _ => ?_⟩
  obtain ⟨k, s', a1, a2, a3⟩ := h.2.2 he
  exact ⟨k, s', a1, by show k ≤ k1 + 8192 * (sg1.2.2 - sg.2.2); omega, a3⟩
theorem RunT.go {v : V2} {om' : Int32} (x : GoR d k1 s0 (rm g F0 Z' R' om' T (Pb + lt) sg.2.2 (F + 1) pE)) (z : RZX T Pb F Z Z') (k : KG R R') (s : SR sg.1 R') (o : OR sg.2.1 om' Z'.2.2.2.2.2.2.2) (o0 : sg.2.1.2.1 = 0) (hF : sg.2.2 ≤ F0) (p : ∀ i, i < lt → VR R'.1 (loc i) (Z'.2.1 (Pb + i))) (hk : k1 ≤ k2) : RunT d g F0 ci Z R T Pb lt F pE s0 k2 sg (loc, sg, 0, v) := ⟨⟨Nat.le_refl _, hF⟩, fun _ => ⟨k1, Z', R', om', x, Nat.le_trans hk (Nat.le_add_right _ _), z, k, s, o, o0, p⟩, fun q => absurd q (by show ¬ (0 : Int32) = 11; decide), fun q => absurd rfl q⟩
theorem RunT.halt {v : V2} (x : EnR d k1 s0 e s1) (h : RHt g F0 s1 sg1.2.1 sg1.2.2) (h1 : sg.2.2 ≤ sg1.2.2) (h2 : sg1.2.2 ≤ F0) (h0 : ¬ e = 0) (h11 : ¬ e = 11) (hk : k1 ≤ k2) : RunT d g F0 ci Z R T Pb lt F pE s0 k2 sg (loc, sg1, e, v) := ⟨⟨h1, h2⟩, fun q => absurd q h0, fun q => absurd q h11, fun _ _ => ⟨k1, s1, x, Nat.le_trans hk (Nat.le_add_right _ _), h⟩⟩
theorem RHt_rm {O : oS} {u fr pc : Nat} (o : OR O om Z.2.2.2.2.2.2.2) : RHt g F0 (rm g F0 Z R om T P u fr pc) O u := ⟨Z, R, om, nI T, nI P, nI fr, nI pc, rfl, o⟩
theorem IrS.ext {D : DSt} {va' : Nat} (h : IrS a b va kv lcl need co vo D) (hl' : lcl ≤ lcl') (hn : need ≤ need') (hva : va' ≤ va) (hk : kv ≤ kv') (hc : ∀ j, a ≤ j → j < b → co' j = co j) (hp : ∀ j, va ≤ j → j < kv → vo' j = vo j) : IrS a b va' kv' lcl' need' co' vo' D := fun d g F0 ci Z R om T Pb lt F sg env rem loc FC FN ha hv gc hN gv hNv hl X => h d g F0 ci Z R om T Pb lt F sg env rem loc FC FN ha (by omega) (fun j h1 h2 => (gc j h1 h2).trans (hc j h1 h2)) hN (fun j h1 h2 => (gv j (by omega) (by omega)).trans (hp j h1 h2)) (by omega) (by omega) (X.less (Nat.le_refl _) hn)
theorem IrS_nop : IrS a a va kv lcl need co vo sNop := fun d g F0 ci Z R om T Pb lt F sg env rem loc FC FN ha hv gc hN gv hNv hl X => by
  obtain ⟨h1, h2, h3, h4, h5, h6, h7, h8, h9, h10, h11, h12, h13, h14, h15, h16, h17⟩ := X
  exact RunT.go GoR.rfl' RZX.rfl' KG.rfl' h8 h9 h10 h11 h15 (Nat.zero_le _)
theorem IrS_seq {s t : DSt} (hab : a ≤ b) (hbc : b ≤ c) (h1 : IrS a b va kv lcl need co vo s) (h2 : IrS b c va kv lcl need co vo t) : IrS a c va kv lcl need co vo (sSeq s t) := fun d g F0 ci Z R om T Pb lt F sg env rem loc FC FN ha hv gc hN gv hNv hl X => by
  have R1 := h1 d g F0 ci Z R om T Pb lt F sg env rem loc FC FN ha hv (fun j q1 q2 => gc j q1 (by omega)) (by omega) gv hNv hl X
  unfold sSeq
  by_cases q : (s env loc sg).2.2.1 = 0
  · rw [if_pos q, show c - a = (b - a) + (c - b) by omega]
    exact R1.then' q fun Z' R' om' x1 x2 x3 x4 x5 x6 => h2 d g F0 ci Z' R' om' T Pb lt F (s env loc sg).2.1 env rem (s env loc sg).1 FC FN (by omega) hv (fun j q1 q2 => gc j (by omega) q2) hN gv hNv hl (X.nextS R1.1.2 x1 x2 x3 x4 x5 x6)
  · rw [if_neg q]
    exact R1.stop q (by omega)
theorem IrS_burn (c1 : co a = 23) : IrS a (a + 1) va kv lcl need co vo sBurn := fun d g F0 ci Z R om T Pb lt F sg env rem loc FC FN ha hv gc hN gv hNv hl X => by
  obtain ⟨h1, h2, h3, h4, h5, h6, h7, h8, h9, h10, h11, h12, h13, h14, h15, h16, h17⟩ := X
  have k1 : cSp ci (a - cBa ci) = 23 := (gc a (Nat.le_refl _) (by omega)).trans c1
  rw [show a + 1 - a = 1 by omega]
  unfold sBurn
  rw [h3]
  by_cases q : sg.2.2 < F0
  · rw [if_pos q]
    have e := rg_burnY (d := d) (T := T) (P := Pb + lt) (R := R) (om := om) (F0 := F0) (u := sg.2.2) h1 h4 (by omega) h5 (by omega) k1 h2 q
    rw [show a - cBa ci + 1 = a + 1 - cBa ci by omega] at e
    exact ⟨⟨Nat.le_succ _, q⟩, fun _ => ⟨1, Z, R, om, e, Nat.le_add_right _ _, RZX.rfl', KG.rfl', h8, h9, h10, h15⟩, fun q => absurd q (by show ¬ (0 : Int32) = 11; decide), fun q => absurd rfl q⟩
  · rw [if_neg q]
    exact RunT.halt (rg_burnN h1 h4 (by omega) h5 (by omega) k1 h2 h11 q) (RHt_rm h9) (Nat.le_refl _) h11 (by decide) (by decide) (Nat.le_refl _)
theorem IrS_let {D : DE} {i : Nat} (hab : a ≤ b) (h : IrE a b va kv lcl need co vo D) (hi : i < lcl) (hn : 1 ≤ need) (c1 : co b = 2) (c2 : co (b + 1) = nI i) : IrS a (b + 2) va kv lcl need co vo (sLet i D) := fun d g F0 ci Z R om T Pb lt F sg env rem loc FC FN ha hv gc hN gv hNv hl X => by
  have R1 := h d g F0 ci Z R om T (Pb + lt) Pb F sg env rem loc FC FN ha hv (fun j q1 q2 => gc j q1 (by omega)) (by omega) gv hNv (X.less hl (Nat.le_refl _))
  have k1 : cSp ci (b - cBa ci) = 2 := (gc b hab (by omega)).trans c1
  have k2 : cSp ci (b - cBa ci + 1) = nI i := by rw [show b - cBa ci + 1 = b + 1 - cBa ci by omega]; exact (gc (b + 1) (by omega) (by omega)).trans c2
  unfold sLet
  by_cases q : (D env loc sg).2.1 = 0
  · rw [if_pos q, show b + 2 - a = (b - a) + 2 by omega]
    refine R1.thenT q fun Z' R' om' y1 y2 y3 y4 y5 vs y6 y7 => ?_
    have y6' : vs 0 = (D env loc sg).2.2 := y6
    have y8 := y7 0 (by decide)
    rw [y6', Nat.add_zero] at y8
    obtain ⟨h1, h2, h3, h4, h5, h6, h7, h8, h9, h10, h11, h12, h13, h14, h15, h16, h17⟩ := X
    have ec := one_2 (d := d + 6) (us := g.2.1) (b := g.2.2.2.1) (sk := Z'.1) (pk := Z'.2.1) (g0 := Z'.2.2.1) (hk := Z'.2.2.2.1) (cu := Z'.2.2.2.2.1) (bk := Z'.2.2.2.2.2.1) (bs := Z'.2.2.2.2.2.2.1) (ob := Z'.2.2.2.2.2.2.2) (R := R') (om := om') (P := nI (Pb + lt)) (fu := nI F0) (u := nI (D env loc sg).1.2.2) (t := T) h1 h4 (show F < 9 by omega) ((y1.2.2 F (Nat.le_refl _)).1.trans h5) (show b - cBa ci + 1 < cNs ci by omega) k1 k2 ((y1.2.2 F (Nat.le_refl _)).2.2.trans h6) (by omega) (by omega)
    rw [show b - cBa ci + 2 = b + 2 - cBa ci by omega] at ec
    refine RunT.go (Z' := (Z'.1, upQ Z'.2.1 (Pb + i) (Z'.1 T), Z'.2.2)) (goR_1 ec) ⟨fun _ _ => rfl, fun j hj => ?_, fun _ _ => ⟨rfl, rfl, rfl⟩⟩ KG.rfl' y3 y4 y5 R1.1.2.1 (fun j hj => ?_) (by decide)
    · show upQ Z'.2.1 (Pb + i) (Z'.1 T) j = Z'.2.1 j
      unfold upQ
      rw [if_neg (by omega)]
    · show VR R'.1 (if j = i then (D env loc sg).2.2 else loc j) (upQ Z'.2.1 (Pb + i) (Z'.1 T) (Pb + j))
      unfold upQ
      by_cases c : j = i
      · rw [if_pos c, if_pos (by omega)]
        exact y8
      · rw [if_neg c, if_neg (by omega), y1.2.1 _ (by omega)]
        exact (h15 j hj).mono y2.1
  · rw [if_neg q]
    exact R1.errT q (by omega)
theorem IrS_do {D0 : Env → (Nat → V2) → Sg → Sg × Int32 × ((Nat → V2) → Prop)} {K : CI → Nat → Prop} {Fo : SC → (Nat → V2) → SC × Int32} {l : DL} (hab : a ≤ b) (h : ImR a b va kv lcl need co vo m D0) (hD : ∀ env loc sg, (D0 env loc sg).1 = (l env loc sg).1 ∧ (D0 env loc sg).2.1 = (l env loc sg).2.1 ∧ ∀ z S, (D0 env loc sg).2.2 z → Fo S z = Fo S (l env loc sg).2.2) (hm : m ≤ need) (hK : ∀ ci, cBa ci ≤ a → cVb ci ≤ va → (∀ j, a ≤ j → j < b + wd → cSp ci (j - cBa ci) = co j) → (∀ j, va ≤ j → j < kv → cCq ci (j - cVb ci) = vo j) → kv ≤ cNv ci + cVb ci → K ci (b - cBa ci)) (hC : CmT wd m K Fo) (h11 : ∀ S vs, ¬ (Fo S vs).2 = 11) (hnn : ∀ S vs, 0 ≤ (Fo S vs).2) (hw : 1 ≤ wd) : IrS a (b + wd) va kv lcl need co vo (sDo Fo l) := fun d g F0 ci Z R om T Pb lt F sg env rem loc FC FN ha hv gc hN gv hNv hl X => by
  have R1 := h d g F0 ci Z R om T (Pb + lt) Pb F sg env rem loc FC FN ha hv (fun j q1 q2 => gc j q1 (by omega)) (by omega) gv hNv (X.less hl (Nat.le_refl _))
  obtain ⟨d1, d2, d3⟩ := hD env loc sg
  unfold sDo
  by_cases q : (l env loc sg).2.1 = 0
  · rw [if_pos q, show b + wd - a = (b - a) + wd by omega]
    refine R1.thenT (d2.trans q) fun Z' R' om' w1 w2 w3 w4 w5 vs w6 w7 => ?_
    obtain ⟨x1, x2, x3, x4, x5, x6, x7, x8, x9, x10, x11, x12, x13, x14, x15, x16, x17⟩ := X
    have k1 := hC d g F0 ci Z' R' om' T (Pb + lt) F (D0 env loc sg).1.2.2 (b - cBa ci) (D0 env loc sg).1.1 vs x1 x4 ((w1.2.2 F (Nat.le_refl _)).1.trans x5) (by omega) (by omega) (hK ci ha hv gc gv hNv) w3 (by omega) w7
    have R11 := R1.1
    rw [d3 _ _ w6, show b - cBa ci + wd = b + wd - cBa ci by omega] at k1
    rw [d1] at k1 w4 w5 R11 ⊢
    refine ⟨⟨Nat.le_refl _, R11.2.1⟩, fun q => ?_, fun q => absurd q (h11 _ _), fun q _ => ?_⟩
    · obtain ⟨sk', R2, y1, y2, y3, y4⟩ := k1.1 q
      exact ⟨1, (sk', Z'.2), R2, om', goR_1 y1, Nat.le_trans hw (Nat.le_add_right _ _), ⟨y2, fun _ _ => rfl, fun _ _ => ⟨rfl, rfl, rfl⟩⟩, y4, y3, w4, w5, fun i hi => by
        show VR R2.1 (loc i) (Z'.2.1 (Pb + i))
        rw [w1.2.1 _ (by omega)]
        exact ((x15 i hi).mono w2.1).mono y4.1⟩
    · obtain ⟨sk', R2, T', pc', y1⟩ := k1.2 q
      exact ⟨1, _, enR_1 y1 (hnn _ _), Nat.le_trans hw (Nat.le_add_right _ _), (sk', Z'.2), R2, om', T', _, _, pc', rfl, w4⟩
  · rw [if_neg q]
    have := R1.errT (ci := ci) (Pb := Pb) (lt := lt) (pE' := b + wd - cBa ci) (loc := loc) (v := (0, 0)) (by rw [d2]; exact q) (show b - a ≤ b + wd - a by omega)
    rw [d1, d2] at this
    exact this
theorem IrS_ret {D : DE} (hab : a ≤ b) (h : IrE a b va kv lcl need co vo D) (c1 : co b = 26) : IrS a (b + 1) va kv lcl need co vo (sRet D) := fun d g F0 ci Z R om T Pb lt F sg env rem loc FC FN ha hv gc hN gv hNv hl X => by
  have R1 := h d g F0 ci Z R om T (Pb + lt) Pb F sg env rem loc FC FN ha hv (fun j q1 q2 => gc j q1 (by omega)) (by omega) gv hNv (X.less hl (Nat.le_refl _))
  unfold sRet
  by_cases q : (D env loc sg).2.1 = 0
  · rw [if_pos q]
    obtain ⟨k, Z', R', om', a1, a2, a3, a4, a5, a6, a7, vs, a8, a9⟩ := R1.2.1 q
    have a8' : vs 0 = (D env loc sg).2.2 := a8
    have a10 := a9 0 (by decide)
    rw [a8', Nat.add_zero] at a10
    refine ⟨⟨R1.1.1, R1.1.2.1⟩, fun q => absurd q (by show ¬ (11 : Int32) = 0; decide), fun _ => ⟨k, Z', R', om', b - cBa ci, a1, ?_, a3.less (Nat.le_refl _) (by omega) (Nat.le_refl _), a4, a5, a6, a7, a10, (gc b hab (by omega)).trans c1, by omega⟩, fun _ q => absurd rfl q⟩
    have a2' : k ≤ b - a + 8192 * ((D env loc sg).1.2.2 - sg.2.2) := a2
    show k ≤ b + 1 - a + 8192 * ((D env loc sg).1.2.2 - sg.2.2)
    omega
  · rw [if_neg q]
    exact R1.errT q (by omega)
theorem IrS_abort (c1 : co a = 25) : IrS a (a + 1) va kv lcl need co vo sAbort := fun d g F0 ci Z R om T Pb lt F sg env rem loc FC FN ha hv gc hN gv hNv hl X => by
  obtain ⟨h1, h2, h3, h4, h5, h6, h7, h8, h9, h10, h11, h12, h13, h14, h15, h16, h17⟩ := X
  have k1 : cSp ci (a - cBa ci) = 25 := (gc a (Nat.le_refl _) (by omega)).trans c1
  exact RunT.halt (enR_1 (one_25 (d := d + 7) h1 h4 (by omega) h5 (by omega) k1) (by decide)) (RHt_rm (pc := a - cBa ci + 1) h9) (Nat.le_refl _) h11 (by decide) (by decide) (by omega)
theorem IrS_print {D : DE} (hab : a ≤ b) (hn : 1 ≤ need) (h : IrE a b va kv lcl need co vo D) (c1 : co b = 24) : IrS a (b + 1) va kv lcl need co vo (sPrint D) := fun d g F0 ci Z R om T Pb lt F sg env rem loc FC FN ha hv gc hN gv hNv hl X => by
  have R1 := h d g F0 ci Z R om T (Pb + lt) Pb F sg env rem loc FC FN ha hv (fun j q1 q2 => gc j q1 (by omega)) (by omega) gv hNv (X.less hl (Nat.le_refl _))
  have k1 : cSp ci (b - cBa ci) = 24 := (gc b hab (by omega)).trans c1
  unfold sPrint
  by_cases q : (D env loc sg).2.1 = 0
  · rw [if_pos q, show b + 1 - a = (b - a) + 1 by omega]
    refine R1.thenT q fun Z' R' om' y1 y2 y3 y4 y5 vs y6 y7 => ?_
    have y6' : vs 0 = (D env loc sg).2.2 := y6
    have y8 := y7 0 (by decide)
    rw [y6', Nat.add_zero] at y8
    obtain ⟨h1, h2, h3, h4, h5, h6, h7, h8, h9, h10, h11, h12, h13, h14, h15, h16, h17⟩ := X
    have e1 := one_24 (d := d + 7) (us := g.2.1) (b := g.2.2.2.1) (sk := Z'.1) (pk := Z'.2.1) (g0 := Z'.2.2.1) (hk := Z'.2.2.2.1) (cu := Z'.2.2.2.2.1) (bk := Z'.2.2.2.2.2.1) (bs := Z'.2.2.2.2.2.2.1) (ob := Z'.2.2.2.2.2.2.2) (R := R') (om := om') (T := nI (T + 1)) (P := nI (Pb + lt)) (fu := nI F0) (u := nI (D env loc sg).1.2.2) h1 h4 (show F < 9 by omega) ((y1.2.2 F (Nat.le_refl _)).1.trans h5) (show b - cBa ci < cNs ci by omega) k1
    obtain ⟨om2, ob2, e2, e3⟩ := q_print (d := d + 6) (O := (D env loc sg).1.2.1) (us := g.2.1) (f := g.2.2.1) (b := g.2.2.2.1) (sk := Z'.1) (pk := Z'.2.1) (g0 := Z'.2.2.1) (hk := Z'.2.2.2.1) (cu := Z'.2.2.2.2.1) (bk := Z'.2.2.2.2.2.1) (bs := Z'.2.2.2.2.2.2.1) (ob := Z'.2.2.2.2.2.2.2) (R := R') (om := om') (P := nI (Pb + lt)) (fu := nI F0) (u := nI (D env loc sg).1.2.2) (fr := nI (F + 1)) (pc := nI (b - cBa ci + 1)) (t := T) h1 (by omega) y8 y4
    have e4 := e1.trans e2
    have os := out_sp (v := (D env loc sg).2.2) (show SpI (D env loc sg).1.2.1 from ⟨y4.2.1, Or.inl y5⟩)
    by_cases q2 : (d_out (D env loc sg).1.2.1 (D env loc sg).2.2).2.1 = 0
    · rw [if_pos q2]
      rw [if_neg (os.mp q2), show b - cBa ci + 1 = b + 1 - cBa ci by omega] at e4
      refine ⟨⟨Nat.le_refl _, R1.1.2.1⟩, fun _ => ⟨1, (Z'.1, Z'.2.1, Z'.2.2.1, Z'.2.2.2.1, Z'.2.2.2.2.1, Z'.2.2.2.2.2.1, Z'.2.2.2.2.2.2.1, ob2), R', om2, goR_1 e4, Nat.le_add_right _ _, ⟨fun _ _ => rfl, fun _ _ => rfl, fun _ _ => ⟨rfl, rfl, rfl⟩⟩, KG.rfl', y3, e3, q2, fun i hi => ?_⟩, fun q => absurd q (by show ¬ (0 : Int32) = 11; decide), fun q => absurd rfl q⟩
      show VR R'.1 (loc i) (Z'.2.1 (Pb + i))
      rw [y1.2.1 _ (by omega)]
      exact (h15 i hi).mono y2.1
    · rw [if_neg q2]
      rw [if_pos (Decidable.not_not.mp (fun h => q2 (os.mpr h)))] at e4
      exact RunT.halt (enR_1 e4 (by decide)) (sg1 := ((D env loc sg).1.1, d_out (D env loc sg).1.2.1 (D env loc sg).2.2, (D env loc sg).1.2.2)) ⟨(Z'.1, Z'.2.1, Z'.2.2.1, Z'.2.2.2.1, Z'.2.2.2.2.1, Z'.2.2.2.2.2.1, Z'.2.2.2.2.2.2.1, ob2), R', om2, _, _, _, _, rfl, e3⟩ (Nat.le_refl _) R1.1.2.1 (by decide) (by decide) (Nat.le_refl _)
  · rw [if_neg q]
    exact R1.errT q (by omega)
/-- a condition, then one of two ways -/
theorem RunT_if {D : DE} {s t : DSt} {x : Nat} (R1 : RunR d g F0 Z R T (Pb + lt) F (b - cBa ci) s0 k1 1 sg (asEx D env loc sg).1 (asEx D env loc sg).2.1 (asEx D env loc sg).2.2) (X : RCX d g F0 ci Z R om T (Pb + lt) Pb F sg env rem lt loc need FC FN) (hba : cBa ci ≤ b) (hn : 1 ≤ need) (hb : b + 1 < cNs ci + cBa ci) (c1 : cSp ci (b - cBa ci) = 15) (c2 : cSp ci (b + 1 - cBa ci) = nI x) (hx : cBa ci ≤ x) (hk : k1 + 1 + k2 ≤ k0) (hs : (D env loc sg).2.1 = 0 → ∀ Z' R' om', RCX d g F0 ci Z' R' om' T (Pb + lt) Pb F (D env loc sg).1 env rem lt loc need FC FN → RunT d g F0 ci Z' R' T Pb lt F pE (rm g F0 Z' R' om' T (Pb + lt) (D env loc sg).1.2.2 (F + 1) (b + 2 - cBa ci)) k2 (D env loc sg).1 (s env loc (D env loc sg).1)) (ht : (D env loc sg).2.1 = 0 → ∀ Z' R' om', RCX d g F0 ci Z' R' om' T (Pb + lt) Pb F (D env loc sg).1 env rem lt loc need FC FN → RunT d g F0 ci Z' R' T Pb lt F pE (rm g F0 Z' R' om' T (Pb + lt) (D env loc sg).1.2.2 (F + 1) (x - cBa ci)) k2 (D env loc sg).1 (t env loc (D env loc sg).1)) : RunT d g F0 ci Z R T Pb lt F pE s0 k0 sg (sIf D s t env loc sg) := by
  unfold sIf
  by_cases q : (D env loc sg).2.1 = 0
  · rw [if_pos q, show k0 = k1 + (k0 - k1) by omega]
    refine R1.thenT q fun Z' R' om' y1 y2 y3 y4 y5 vs y6 y7 => ?_
    have y6' : vs 0 = (D env loc sg).2.2 := y6
    have y8 := y7 0 (by decide)
    rw [y6', Nat.add_zero] at y8
    have X' : RCX d g F0 ci Z' R' om' T (Pb + lt) Pb F (D env loc sg).1 env rem lt loc need FC FN := X.next (m := 0) R1.1 y1 y2 y3 y4 y5 (Nat.zero_le _)
    obtain ⟨h1, h2, h3, h4, h5, h6, h7, h8, h9, h10, h11, h12, h13, h14, h15, h16, h17⟩ := X
    have G := rg_unless (d := d) (F0 := F0) (R := R') (om := om') (P := Pb + lt) (u := (D env loc sg).1.2.2) h1 h4 (show F < 9 by omega) ((y1.2.2 F (Nat.le_refl _)).1.trans h5) (show b - cBa ci + 1 < cNs ci by omega) c1 (by rw [show b - cBa ci + 1 = b + 1 - cBa ci by omega]; exact c2) hx (by omega) y8
    by_cases q2 : s_Cell_isTrue (D env loc sg).2.2.1 (D env loc sg).2.2.2 = 0
    · rw [if_pos q2]
      exact RunT.pre (G.1 q2) (ht q Z' R' om' X') (by omega)
    · rw [if_neg q2]
      have G2 := G.2 q2
      rw [show b - cBa ci + 2 = b + 2 - cBa ci by omega] at G2
      exact RunT.pre G2 (hs q Z' R' om' X') (by omega)
  · rw [if_neg q]
    exact R1.errT q (by omega)
theorem RunT.stay {v : V2} (X : RCX d g F0 ci Z R om T (Pb + lt) Pb F sg env rem lt loc need FC FN) : RunT d g F0 ci Z R T Pb lt F pE (rm g F0 Z R om T (Pb + lt) sg.2.2 (F + 1) pE) k0 sg (loc, sg, 0, v) := by
  obtain ⟨h1, h2, h3, h4, h5, h6, h7, h8, h9, h10, h11, h12, h13, h14, h15, h16, h17⟩ := X
  exact RunT.go GoR.rfl' RZX.rfl' KG.rfl' h8 h9 h10 h11 h15 (Nat.zero_le _)
theorem IrS_if {D : DE} {s : DSt} (hab : a ≤ b) (hbc : b + 2 ≤ c) (hn : 1 ≤ need) (h : IrE a b va kv lcl need co vo D) (h1 : IrS (b + 2) c va kv lcl need co vo s) (c1 : co b = 15) (c2 : co (b + 1) = nI c) : IrS a c va kv lcl need co vo (sIf D s sNop) := fun d g F0 ci Z R om T Pb lt F sg env rem loc FC FN ha hv gc hN gv hNv hl X => by
  have R1 := h d g F0 ci Z R om T (Pb + lt) Pb F sg env rem loc FC FN ha hv (fun j q1 q2 => gc j q1 (by omega)) (by omega) gv hNv (X.less hl (Nat.le_refl _))
  refine RunT_if (k2 := c - (b + 2)) R1 X (by omega) hn (by omega) ((gc b hab (by omega)).trans c1) ((gc (b + 1) (by omega) (by omega)).trans c2) (by omega) (by omega) (fun q Z' R' om' X' => ?_) (fun q Z' R' om' X' => ?_)
  · exact h1 d g F0 ci Z' R' om' T Pb lt F (D env loc sg).1 env rem loc FC FN (by omega) hv (fun j q1 q2 => gc j (by omega) q2) hN gv hNv hl X'
  · exact RunT.stay X'
theorem IrS_ifelse {D : DE} {s t : DSt} {f : Nat} (hab : a ≤ b) (hbc : b + 2 ≤ c) (hcf : c + 2 ≤ f) (hn : 1 ≤ need) (h : IrE a b va kv lcl need co vo D) (h1 : IrS (b + 2) c va kv lcl need co vo s) (h2 : IrS (c + 2) f va kv lcl need co vo t) (c1 : co b = 15) (c2 : co (b + 1) = nI (c + 2)) (c3 : co c = 14) (c4 : co (c + 1) = nI f) : IrS a f va kv lcl need co vo (sIf D s t) := fun d g F0 ci Z R om T Pb lt F sg env rem loc FC FN ha hv gc hN gv hNv hl X => by
  have R1 := h d g F0 ci Z R om T (Pb + lt) Pb F sg env rem loc FC FN ha hv (fun j q1 q2 => gc j q1 (by omega)) (by omega) gv hNv (X.less hl (Nat.le_refl _))
  refine RunT_if (k2 := f - (b + 2)) R1 X (by omega) hn (by omega) ((gc b hab (by omega)).trans c1) ((gc (b + 1) (by omega) (by omega)).trans c2) (by omega) (by omega) (fun q Z' R' om' X' => ?_) (fun q Z' R' om' X' => ?_)
  · have R2 := h1 d g F0 ci Z' R' om' T Pb lt F (D env loc sg).1 env rem loc FC FN (by omega) hv (fun j q1 q2 => gc j (by omega) (by omega)) (by omega) gv hNv hl X'
    generalize s env loc (D env loc sg).1 = res at R2 ⊢
    by_cases q2 : res.2.2.1 = 0
    · rw [show f - (b + 2) = c - (b + 2) + (f - c) by omega]
      refine R2.then' q2 fun Z2 R2' om2 z1 z2 z3 z4 z5 z6 => ?_
      obtain ⟨rl, rs, re, rv⟩ := res
      dsimp only at q2
      subst q2
      have X2 := X'.nextS R2.1.2 z1 z2 z3 z4 z5 z6
      have Jm := rg_jump (d := d) (F0 := F0) (R := R2') (om := om2) (T := T) (P := Pb + lt) (u := rs.2.2) (p := c - cBa ci) (x := f) X2.1 X2.2.2.2.1 (by have := X2.2.2.2.2.2.2.1; omega) X2.2.2.2.2.1 (by omega) ((gc c (by omega) (by omega)).trans c3) (by rw [show c - cBa ci + 1 = c + 1 - cBa ci by omega]; exact (gc (c + 1) (by omega) (by omega)).trans c4) (by omega)
      exact RunT.go Jm RZX.rfl' KG.rfl' z3 z4 z5 R2.1.2 z6 (by omega)
    · exact R2.stop q2 (by omega)
  · have R2 := h2 d g F0 ci Z' R' om' T Pb lt F (D env loc sg).1 env rem loc FC FN (by omega) hv (fun j q1 q2 => gc j (by omega) (by omega)) hN gv hNv hl X'
    exact RunT.pre GoR.rfl' R2 (by omega)
theorem IrS_while {D : DE} {s : DSt} (hab : a ≤ b) (hbc : b + 3 ≤ c) (h8 : c + 2 - a ≤ 8192) (hn : 1 ≤ need) (h : IrE a b va kv lcl need co vo D) (h1 : IrS (b + 3) c va kv lcl need co vo s) (c1 : co b = 15) (c2 : co (b + 1) = nI (c + 2)) (c3 : co (b + 2) = 23) (c4 : co c = 14) (c5 : co (c + 1) = nI a) : IrS a (c + 2) va kv lcl need co vo (sWhile D s) := fun d g F0 ci Z R om T Pb lt F sg env rem loc FC FN ha hv gc hN gv hNv hl X => by
  have hF := X.2.2.1
  have key : ∀ (n : Nat) (Z : RZ) (R : RS) (om : Int32) (sg : Sg) (loc : Nat → V2), RCX d g F0 ci Z R om T (Pb + lt) Pb F sg env rem lt loc need FC FN → F0 < sg.2.2 + n → RunT d g F0 ci Z R T Pb lt F (c + 2 - cBa ci) (rm g F0 Z R om T (Pb + lt) sg.2.2 (F + 1) (a - cBa ci)) (c + 2 - a) sg (sWh D s n env loc sg) := by
    intro n
    induction n with
    | zero =>
      intro Z R om sg loc X hn
      have := X.2.2.2.2.2.2.2.2.2.2.1
      omega
    | succ n ih =>
      intro Z R om sg loc X hn'
      have R1 := h d g F0 ci Z R om T (Pb + lt) Pb F sg env rem loc FC FN ha hv (fun j q1 q2 => gc j q1 (by omega)) (by omega) gv hNv (X.less hl (Nat.le_refl _))
      unfold sWh
      refine RunT_if (k2 := c + 1 - b) R1 X (by omega) hn (by omega) ((gc b hab (by omega)).trans c1) ((gc (b + 1) (by omega) (by omega)).trans c2) (by omega) (by omega) (fun q Z' R' om' X' => ?_) (fun q Z' R' om' X' => ?_)
      · have tk0 : sg.2.2 ≤ (D env loc sg).1.2.2 := R1.1.1
        generalize (D env loc sg).1 = sg1 at X' tk0 ⊢
        obtain ⟨x1, x2, x3, x4, x5, x6, x7, x8, x9, x10, x11, x12, x13, x14, x15, x16, x17⟩ := X'
        have X' : RCX d g F0 ci Z' R' om' T (Pb + lt) Pb F sg1 env rem lt loc need FC FN := ⟨x1, x2, x3, x4, x5, x6, x7, x8, x9, x10, x11, x12, x13, x14, x15, x16, x17⟩
        have k3 : cSp ci (b + 2 - cBa ci) = 23 := (gc (b + 2) (by omega) (by omega)).trans c3
        unfold sSeq
        have e0 : sBurn env loc sg1 = if sg1.2.2 < F0 then (loc, (sg1.1, sg1.2.1, sg1.2.2 + 1), 0, (0, 0)) else (loc, sg1, 1, (0, 0)) := by
          unfold sBurn
          rw [hF]
        rw [e0]
        by_cases q1 : sg1.2.2 < F0
        · rw [if_pos q1, if_pos (show ((loc, (sg1.1, sg1.2.1, sg1.2.2 + 1), 0, (0, 0)) : (Nat → V2) × DV).2.2.1 = 0 from rfl)]
          dsimp only
          have G1 := rg_burnY (d := d) (F0 := F0) (R := R') (om := om') (T := T) (P := Pb + lt) (u := sg1.2.2) (p := b + 2 - cBa ci) x1 x4 (by omega) x5 (by omega) k3 x2 q1
          rw [show b + 2 - cBa ci + 1 = b + 3 - cBa ci by omega] at G1
          have X2 : RCX d g F0 ci Z' R' om' T (Pb + lt) Pb F (sg1.1, sg1.2.1, sg1.2.2 + 1) env rem lt loc need FC FN := X'.nextS (sg1 := (sg1.1, sg1.2.1, sg1.2.2 + 1)) q1 RZX.rfl' KG.rfl' x8 x9 x10 x15
          have R2 := h1 d g F0 ci Z' R' om' T Pb lt F (sg1.1, sg1.2.1, sg1.2.2 + 1) env rem loc FC FN (by omega) hv (fun j q1 q2 => gc j (by omega) (by omega)) (by omega) gv hNv hl X2
          generalize hres : s env loc (sg1.1, sg1.2.1, sg1.2.2 + 1) = res at R2
          have tk1 : sg1.2.2 + 1 ≤ res.2.1.2.2 := R2.1.1
          by_cases q2 : res.2.2.1 = 0
          · rw [if_pos q2]
            have R3 : RunT d g F0 ci Z' R' T Pb lt F (c + 2 - cBa ci) (rm g F0 Z' R' om' T (Pb + lt) (sg1.2.2 + 1) (F + 1) (b + 3 - cBa ci)) (c - (b + 3) + (1 + (c + 2 - a))) (sg1.1, sg1.2.1, sg1.2.2 + 1) (sWh D s n env res.1 res.2.1) := by
              refine R2.then' q2 fun Z2 R2' om2 z1 z2 z3 z4 z5 z6 => ?_
              have X3 := X2.nextS R2.1.2 z1 z2 z3 z4 z5 z6
              have Jm := rg_jump (d := d) (F0 := F0) (R := R2') (om := om2) (T := T) (P := Pb + lt) (u := res.2.1.2.2) (p := c - cBa ci) (x := a) X3.1 X3.2.2.2.1 (by have := X3.2.2.2.2.2.2.1; omega) X3.2.2.2.2.1 (by omega) ((gc c (by omega) (by omega)).trans c4) (by rw [show c - cBa ci + 1 = c + 1 - cBa ci by omega]; exact (gc (c + 1) (by omega) (by omega)).trans c5) (by omega)
              exact RunT.pre Jm (ih Z2 R2' om2 res.2.1 res.1 X3 (by omega)) (Nat.le_refl _)
            generalize sWh D s n env res.1 res.2.1 = res2 at R3
            have tk2 : sg1.2.2 + 1 ≤ res2.2.1.2.2 := R3.1.1
            refine ⟨⟨Nat.le_trans (Nat.le_succ _) R3.1.1, R3.1.2⟩, fun q => ?_, fun q => ?_, fun q q' => ?_⟩
            · obtain ⟨k, Z2, R2', om2, a1, a2, a3⟩ := R3.2.1 q
              dsimp only at a2
              exact ⟨1 + k, Z2, R2', om2, G1.trans a1, by omega, a3⟩
            · obtain ⟨k, Z2, R2', om2, pc, a1, a2, a3⟩ := R3.2.2.1 q
              dsimp only at a2
              exact ⟨1 + k, Z2, R2', om2, pc, G1.trans a1, by omega, a3⟩
            · obtain ⟨k, s', a1, a2, a3⟩ := R3.2.2.2 q q'
              dsimp only at a2
              exact ⟨1 + k, s', G1.en a1, by omega, a3⟩
          · rw [if_neg q2]
            refine ⟨⟨Nat.le_trans (Nat.le_succ _) R2.1.1, R2.1.2⟩, fun q => absurd q q2, fun q => ?_, fun q q' => ?_⟩
            · obtain ⟨k, Z2, R2', om2, pc, a1, a2, a3⟩ := R2.2.2.1 q
              dsimp only at a2
              exact ⟨1 + k, Z2, R2', om2, pc, G1.trans a1, by omega, a3⟩
            · obtain ⟨k, s', a1, a2, a3⟩ := R2.2.2.2 q q'
              dsimp only at a2
              exact ⟨1 + k, s', G1.en a1, by omega, a3⟩
        · rw [if_neg q1, if_neg (show ¬ ((loc, sg1, 1, (0, 0)) : (Nat → V2) × DV).2.2.1 = 0 by show ¬ (1 : Int32) = 0; decide)]
          exact RunT.halt (rg_burnN x1 x4 (by omega) x5 (by omega) k3 x2 x11 q1) (RHt_rm x9) (Nat.le_refl _) x11 (by decide) (by decide) (by omega)
      · exact RunT.stay X'
  have e : sWhile D s env loc sg = sWh D s (env.1 + 1) env loc sg := rfl
  rw [e]
  exact key _ Z R om sg loc X (by rw [hF]; omega)
end
