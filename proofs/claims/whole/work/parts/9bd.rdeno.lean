/-! the reference follows the denotations -/
abbrev RZ : Type := (Nat → VQ) × (Nat → VQ) × (Nat → VQ) × (Nat → VQ) × (Nat → Value) × (Nat → Int32) × (Nat → Int32) × (Nat → Int32)
abbrev RG : Type := Nat × Nat × (Nat → am_C) × (Nat → Value) × Nat
abbrev rm (g : RG) (F0 : Nat) (Z : RZ) (R : RS) (om : Int32) (T P u fr pc : Nat) : HS := (g.1, MM g.2.2.1 g.2.2.2.1 Z.1 Z.2.1 Z.2.2.1 Z.2.2.2.1 Z.2.2.2.2.1 Z.2.2.2.2.2.1 Z.2.2.2.2.2.2.1 Z.2.2.2.2.2.2.2 g.2.2.2.2 R om (nI T) (nI P) (nI F0) (nI u) (nI fr) (nI pc), g.2.1)
abbrev rmk (g : RG) (F0 : Nat) (Z : RZ) (om : Int32) (P u fr : Nat) : RK := RKm g.1 g.2.1 g.2.2.1 g.2.2.2.1 Z.2.1 Z.2.2.1 Z.2.2.2.1 Z.2.2.2.2.1 Z.2.2.2.2.2.1 Z.2.2.2.2.2.2.1 Z.2.2.2.2.2.2.2 g.2.2.2.2 om (nI P) (nI F0) (nI u) (nI fr)
/-- a Code: where, how many steps and values, those, NAMES, LOCALS, base and valueBase -/
abbrev CI : Type := Nat × Nat × Nat × (Nat → Int32) × (Nat → VQ) × Nat × Nat × Nat × Nat
abbrev cNs (i : CI) : Nat := i.2.1
abbrev cNv (i : CI) : Nat := i.2.2.1
abbrev cSp (i : CI) : Nat → Int32 := i.2.2.2.1
abbrev cCq (i : CI) : Nat → VQ := i.2.2.2.2.1
abbrev cPa (i : CI) : Nat := i.2.2.2.2.2.1
abbrev cLo (i : CI) : Nat := i.2.2.2.2.2.2.1
abbrev cBa (i : CI) : Nat := i.2.2.2.2.2.2.2.1
abbrev cVb (i : CI) : Nat := i.2.2.2.2.2.2.2.2
def CDi (f : Nat → am_C) (i : CI) : Prop := CD f i.1 (cNs i) (cNv i) (cSp i) (cCq i) (cPa i) (cLo i) (cBa i) (cVb i)
def goB (d : Nat) : (Int32 × HS → Option (Int32 × HS)) → Int32 × HS → Option (Int32 × HS) := (fun (again26 : Int32 × HS → Option (Int32 × HS)) (z26 : Int32 × HS) => (if 0 ≤ z26.1 then (some (z26.1, z26.2)) else (bnd (x_Mod_one d 160 z26.2) fun v8 s7 => (again26 (v8, s7)))))
def GoR (d k : Nat) (s s' : HS) : Prop := ∀ M, loopK (goB (d + 8)) (M + k) (-1, s) = loopK (goB (d + 8)) M (-1, s')
def EnR (d k : Nat) (s : HS) (e : Int32) (s' : HS) : Prop := ∀ M, loopK (goB (d + 8)) (M + 1 + k) (-1, s) = some (e, s')
def RHt (g : RG) (F0 : Nat) (s : HS) (O : oS) (tk : Nat) : Prop := ∃ (Z : RZ) (R : RS) (om T P fr pc : Int32), s = (g.1, MM g.2.2.1 g.2.2.2.1 Z.1 Z.2.1 Z.2.2.1 Z.2.2.2.1 Z.2.2.2.2.1 Z.2.2.2.2.2.1 Z.2.2.2.2.2.2.1 Z.2.2.2.2.2.2.2 g.2.2.2.2 R om T P (nI F0) (nI tk) fr pc, g.2.1) ∧ OR O om Z.2.2.2.2.2.2.2
def RZX (T P F : Nat) (Z Z' : RZ) : Prop := (∀ j, j < T → Z'.1 j = Z.1 j) ∧ (∀ j, j < P → Z'.2.1 j = Z.2.1 j) ∧ ∀ j, j ≤ F → Z'.2.2.2.2.1 j = Z.2.2.2.2.1 j ∧ Z'.2.2.2.2.2.1 j = Z.2.2.2.2.2.1 j ∧ Z'.2.2.2.2.2.2.1 j = Z.2.2.2.2.2.2.1 j
def GR (F0 : Nat) (sg sg' : Sg) (e : Int32) : Prop := sg.2.2 ≤ sg'.2.2 ∧ sg'.2.2 ≤ F0 ∧ ¬ e = 11
def RunR (d : Nat) (g : RG) (F0 : Nat) (Z : RZ) (R : RS) (T P F pE : Nat) (s0 : HS) (k0 m : Nat) (sg sg' : Sg) (e : Int32) (PV : (Nat → V2) → Prop) : Prop := GR F0 sg sg' e ∧ (e = 0 → ∃ k Z' R' om', GoR d k s0 (rm g F0 Z' R' om' (T + m) P sg'.2.2 (F + 1) pE) ∧ k ≤ k0 + 8192 * (sg'.2.2 - sg.2.2) ∧ RZX T P F Z Z' ∧ KG R R' ∧ SR sg'.1 R' ∧ OR sg'.2.1 om' Z'.2.2.2.2.2.2.2 ∧ sg'.2.1.2.1 = 0 ∧ ∃ vs, PV vs ∧ ∀ i, i < m → VR R'.1 (vs i) (Z'.1 (T + i))) ∧ (¬ e = 0 → ∃ k s', EnR d k s0 e s' ∧ k ≤ k0 + 8192 * (sg'.2.2 - sg.2.2) ∧ RHt g F0 s' sg'.2.1 sg'.2.2)
def FRR (f : Nat → am_C) (S : SC) (R : RS) (FC : Nat → CI) (FN : Nat → List Nat) : Prop := ∀ i, i < S.2.2.2.2.2.2.2.2 → R.2.2.2.2.1 i = nV (FN i) ∧ okN (FN i) ∧ R.2.2.2.2.2.2.2.1 i = .ref (FC i).1 ∧ CDi f (FC i)
def CKR (d : Nat) (g : RG) (F0 : Nat) (FC : Nat → CI) (FN : Nat → List Nat) (env : Env) (rem : Nat) : Prop := ∀ (ci : CI) (Z : RZ) (R : RS) (om : Int32) (Q m P F pc : Nat) (sg : Sg) (w : List Nat) (vs : Nat → V2), CDi g.2.2.1 ci → Z.2.2.2.2.1 F = .ref ci.1 → F + rem = 8 → SR sg.1 R → OR sg.2.1 om Z.2.2.2.2.2.2.2 → sg.2.1.2.1 = 0 → sg.2.2 ≤ F0 → FRR g.2.2.1 sg.1 R FC FN → okN w → m < 2 ^ 20 → Q + m + rem * 512 < 8000 → Q + 1 < 8000 → P + rem * 128 < 4000 → (∀ i, i < m → VR R.1 (vs i) (Z.1 (Q + i))) → ∃ cd s1, x_Mod_call (d + 7) 160 (nV w) (nI m) (rm g F0 Z R om (Q + m) P sg.2.2 (F + 1) pc) = some (cd, s1) ∧ ((cd = -1 ∧ RunR d g F0 Z R Q P F pc s1 0 1 sg (env.2 w m vs sg).1 (env.2 w m vs sg).2.1 (fun z => z 0 = (env.2 w m vs sg).2.2)) ∨ (¬ (env.2 w m vs sg).2.1 = 0 ∧ cd = (env.2 w m vs sg).2.1 ∧ 0 ≤ cd ∧ GR F0 sg (env.2 w m vs sg).1 (env.2 w m vs sg).2.1 ∧ RHt g F0 s1 (env.2 w m vs sg).1.2.1 (env.2 w m vs sg).1.2.2))
def RCX (d : Nat) (g : RG) (F0 : Nat) (ci : CI) (Z : RZ) (R : RS) (om : Int32) (T P Pb F : Nat) (sg : Sg) (env : Env) (rem lcl : Nat) (loc : Nat → V2) (need : Nat) (FC : Nat → CI) (FN : Nat → List Nat) : Prop := RD g.1 g.2.2.2.2 ∧ F0 ≤ 2000 ∧ env.1 = F0 ∧ CDi g.2.2.1 ci ∧ Z.2.2.2.2.1 F = .ref ci.1 ∧ Z.2.2.2.2.2.2.1 F = nI Pb ∧ F + rem = 8 ∧ SR sg.1 R ∧ OR sg.2.1 om Z.2.2.2.2.2.2.2 ∧ sg.2.1.2.1 = 0 ∧ sg.2.2 ≤ F0 ∧ FRR g.2.2.1 sg.1 R FC FN ∧ CKR d g F0 FC FN env rem ∧ Pb + lcl ≤ P ∧ (∀ i, i < lcl → VR R.1 (loc i) (Z.2.1 (Pb + i))) ∧ T + need + rem * 512 < 8000 ∧ P + rem * 128 < 4000
/-- the steps from a to b, with the values from va to kv, leave over any T m VALUES as PV says -/
def ImR (a b va kv lcl need : Nat) (co : Nat → Int32) (vo : Nat → VQ) (m : Nat) (D : Env → (Nat → V2) → Sg → Sg × Int32 × ((Nat → V2) → Prop)) : Prop := ∀ (d : Nat) (g : RG) (F0 : Nat) (ci : CI) (Z : RZ) (R : RS) (om : Int32) (T P Pb F : Nat) (sg : Sg) (env : Env) (rem : Nat) (loc : Nat → V2) (FC : Nat → CI) (FN : Nat → List Nat), cBa ci ≤ a → cVb ci ≤ va → (∀ j, a ≤ j → j < b → cSp ci (j - cBa ci) = co j) → b ≤ cNs ci + cBa ci → (∀ j, va ≤ j → j < kv → cCq ci (j - cVb ci) = vo j) → kv ≤ cNv ci + cVb ci → RCX d g F0 ci Z R om T P Pb F sg env rem lcl loc need FC FN → RunR d g F0 Z R T P F (b - cBa ci) (rm g F0 Z R om T P sg.2.2 (F + 1) (a - cBa ci)) (b - a) m sg (D env loc sg).1 (D env loc sg).2.1 (D env loc sg).2.2
abbrev IrE (a b va kv lcl need : Nat) (co : Nat → Int32) (vo : Nat → VQ) (D : DE) : Prop := ImR a b va kv lcl need co vo 1 (asEx D)
abbrev IrL (a b va kv lcl need : Nat) (co : Nat → Int32) (vo : Nat → VQ) (m : Nat) (D : DL) : Prop := ImR a b va kv lcl need co vo m (asLi m D)
section
variable {d F0 T P Pb F a b c k0 k1 k2 m m1 m2 rem lcl lcl' need need' va kv kv' wd pE pE' : Nat} {g : RG} {ci : CI} {Z Z' : RZ} {R R' : RS} {om : Int32} {s0 s1 : HS} {sg sg1 sg2 : Sg} {e e1 : Int32} {env : Env} {loc : Nat → V2} {FC : Nat → CI} {FN : Nat → List Nat} {co co' : Nat → Int32} {vo vo' : Nat → VQ} {PV PW PX : (Nat → V2) → Prop}
theorem GoR.rfl' : GoR d 0 s0 s0 := fun _ => rfl
theorem GoR.trans {s2 : HS} (x : GoR d k1 s0 s1) (y : GoR d k2 s1 s2) : GoR d (k1 + k2) s0 s2 := fun M => by
  have e1 := x (M + k2)
  have e2 := y M
  rw [show M + (k1 + k2) = M + k2 + k1 by omega, e1, e2]
theorem GoR.en {s2 : HS} (x : GoR d k1 s0 s1) (y : EnR d k2 s1 e s2) : EnR d (k1 + k2) s0 e s2 := fun M => by
  have e1 := x (M + 1 + k2)
  have e2 := y M
  rw [show M + 1 + (k1 + k2) = M + 1 + k2 + k1 by omega, e1, e2]
theorem goR_1 (h : x_Mod_one (d + 8) 160 s0 = some (-1, s1)) : GoR d 1 s0 s1 := fun M => by
  rw [loopK_succ]
  show (if (0 : Int32) ≤ -1 then _ else _) = _
  rw [if_neg (by decide), h, bnd_some]
theorem enR_1 (h : x_Mod_one (d + 8) 160 s0 = some (e, s1)) (he : 0 ≤ e) : EnR d 1 s0 e s1 := fun M => by
  rw [loopK_succ]
  show (if (0 : Int32) ≤ -1 then _ else _) = _
  rw [if_neg (by decide), h, bnd_some, loopK_succ]
  show (if (0 : Int32) ≤ e then _ else _) = _
  rw [if_pos he]
theorem RZX.rfl' : RZX T P F Z Z := ⟨fun _ _ => rfl, fun _ _ => rfl, fun _ _ => ⟨rfl, rfl, rfl⟩⟩
theorem RZX.trans {Z'' : RZ} {T' P' F' : Nat} (x : RZX T P F Z Z') (y : RZX T' P' F' Z' Z'') (h1 : T ≤ T') (h2 : P ≤ P') (h3 : F ≤ F') : RZX T P F Z Z'' := ⟨fun j h => (y.1 j (by omega)).trans (x.1 j h), fun j h => (y.2.1 j (by omega)).trans (x.2.1 j h), fun j h => ⟨(y.2.2 j (by omega)).1.trans (x.2.2 j h).1, (y.2.2 j (by omega)).2.1.trans (x.2.2 j h).2.1, (y.2.2 j (by omega)).2.2.trans (x.2.2 j h).2.2⟩⟩
theorem RZX.less {T' P' F' : Nat} (x : RZX T P F Z Z') (h1 : T' ≤ T) (h2 : P' ≤ P) (h3 : F' ≤ F) : RZX T' P' F' Z Z' := ⟨fun j h => x.1 j (by omega), fun j h => x.2.1 j (by omega), fun j h => x.2.2 j (by omega)⟩
theorem GR.trans (x : GR F0 sg sg1 e) (y : GR F0 sg1 sg2 e1) : GR F0 sg sg2 e1 := ⟨Nat.le_trans x.1 y.1, y.2⟩
theorem RunR.weak (h : RunR d g F0 Z R T P F pE s0 k0 m sg sg1 e PV) (hp : ∀ vs, PV vs → PW vs) (hk : k0 ≤ k1) : RunR d g F0 Z R T P F pE s0 k1 m sg sg1 e PW := by
  refine ⟨h.1, fun q => ?_, fun q => ?_⟩
  · obtain ⟨k, Z', R', om', a1, a2, a3, a4, a5, a6, a7, vs, a8, a9⟩ := h.2.1 q
    exact ⟨k, Z', R', om', a1, by omega, a3, a4, a5, a6, a7, vs, hp _ a8, a9⟩
  · obtain ⟨k, s', a1, a2, a3⟩ := h.2.2 q
    exact ⟨k, s', a1, by omega, a3⟩
theorem RunR.err (h : RunR d g F0 Z R T P F pE s0 k0 m sg sg1 e PV) (he : ¬ e = 0) (hk : k0 ≤ k1) : RunR d g F0 Z R T P F pE' s0 k1 m1 sg sg1 e PW := by
  refine ⟨h.1, fun q => absurd q he, fun q => ?_⟩
  obtain ⟨k, s', a1, a2, a3⟩ := h.2.2 q
  exact ⟨k, s', a1, by omega, a3⟩
theorem RunR.then' (h : RunR d g F0 Z R T P F pE s0 k1 m1 sg sg1 e PV) (he : e = 0) (h2 : ∀ Z' R' om', RZX T P F Z Z' → KG R R' → SR sg1.1 R' → OR sg1.2.1 om' Z'.2.2.2.2.2.2.2 → sg1.2.1.2.1 = 0 → ∀ vs, PV vs → (∀ i, i < m1 → VR R'.1 (vs i) (Z'.1 (T + i))) → RunR d g F0 Z' R' T P F pE' (rm g F0 Z' R' om' (T + m1) P sg1.2.2 (F + 1) pE) k2 m2 sg1 sg2 e1 PW) : RunR d g F0 Z R T P F pE' s0 (k1 + k2) m2 sg sg2 e1 PW := by
  obtain ⟨k, Z', R', om', a1, a2, a3, a4, a5, a6, a7, vs, a8, a9⟩ := h.2.1 he
  have h3 := h2 Z' R' om' a3 a4 a5 a6 a7 vs a8 a9
  have g1 := h.1.1
  have g2 := h3.1.1
  refine ⟨h.1.trans h3.1, fun q => ?_, fun q => ?_⟩
  · obtain ⟨k', Z2, R2, om2, b1, b2, b3, b4, b5⟩ := h3.2.1 q
    exact ⟨k + k', Z2, R2, om2, a1.trans b1, by omega, a3.trans b3 (Nat.le_refl _) (Nat.le_refl _) (Nat.le_refl _), a4.trans b4, b5⟩
  · obtain ⟨k', s', b1, b2, b3⟩ := h3.2.2 q
    exact ⟨k + k', s', a1.en b1, by omega, b3⟩
theorem RunR.pre (x : GoR d k1 s0 s1) (h : RunR d g F0 Z R T P F pE s1 k0 m sg sg1 e PV) : RunR d g F0 Z R T P F pE s0 (k1 + k0) m sg sg1 e PV := by
  refine ⟨h.1, fun q => ?_, fun q => ?_⟩
  · obtain ⟨k, Z', R', om', a1, a2, a3⟩ := h.2.1 q
    exact ⟨k1 + k, Z', R', om', x.trans a1, by omega, a3⟩
  · obtain ⟨k, s', a1, a2, a3⟩ := h.2.2 q
    exact ⟨k1 + k, s', x.en a1, by omega, a3⟩
/-- the same run seen from further below -/
theorem RunR.base {zs : Nat → V2} (h : RunR d g F0 Z R (T + m1) P F pE s0 k1 m2 sg sg1 e PV) (hz : ∀ i, i < m1 → VR R.1 (zs i) (Z.1 (T + i))) : RunR d g F0 Z R T P F pE s0 k1 (m1 + m2) sg sg1 e (fun vs => PV (fun i => vs (m1 + i)) ∧ ∀ i, i < m1 → vs i = zs i) := by
  refine ⟨h.1, fun q => ?_, h.2.2⟩
  obtain ⟨k, Z', R', om', a1, a2, a3, a4, a5, a6, a7, vs, a8, a9⟩ := h.2.1 q
  refine ⟨k, Z', R', om', by rw [← Nat.add_assoc]; exact a1, a2, a3.less (by omega) (Nat.le_refl _) (Nat.le_refl _), a4, a5, a6, a7, fun i => if i < m1 then zs i else vs (i - m1), ⟨?_, fun i hi => if_pos hi⟩, fun i hi => ?_⟩
  · have e : (fun i => (fun i => if i < m1 then zs i else vs (i - m1)) (m1 + i)) = vs := by
      funext i
      show (if m1 + i < m1 then zs (m1 + i) else vs (m1 + i - m1)) = vs i
      rw [if_neg (by omega), Nat.add_sub_cancel_left]
    rw [e]
    exact a8
  · dsimp only
    by_cases c : i < m1
    · rw [if_pos c, a3.1 _ (by omega)]
      exact (hz i c).mono a4.1
    · rw [if_neg c]
      have := a9 (i - m1) (by omega)
      rw [show T + m1 + (i - m1) = T + i by omega] at this
      exact this
theorem FRR.next {f : Nat → am_C} {S S' : SC} (h : FRR f S R FC FN) (x : SR S R) (y : SR S' R') (k : KG R R') : FRR f S' R' FC FN := by
  have e : S'.2.2.2.2.2.2.2.2 = S.2.2.2.2.2.2.2.2 := nI_inj (by have := y.2.2.2.2.2.1; omega) (by have := x.2.2.2.2.2.1; omega) (y.2.2.2.2.2.2.symm.trans (k.2.2.2.trans x.2.2.2.2.2.2))
  intro i hi
  rw [e] at hi
  obtain ⟨h1, h2, h3, h4⟩ := h i hi
  exact ⟨by rw [k.2.1]; exact h1, h2, by rw [k.2.2.1]; exact h3, h4⟩
theorem RCX.less (h : RCX d g F0 ci Z R om T P Pb F sg env rem lcl loc need FC FN) (hl : lcl' ≤ lcl) (hn : need' ≤ need) : RCX d g F0 ci Z R om T P Pb F sg env rem lcl' loc need' FC FN := by
  obtain ⟨h1, h2, h3, h4, h5, h6, h7, h8, h9, h10, h11, h12, h13, h14, h15, h16, h17⟩ := h
  exact ⟨h1, h2, h3, h4, h5, h6, h7, h8, h9, h10, h11, h12, h13, by omega, fun i hi => h15 i (by omega), by omega, h17⟩
theorem RCX.next {om' : Int32} (h : RCX d g F0 ci Z R om T P Pb F sg env rem lcl loc need FC FN) (G : GR F0 sg sg1 e) (x : RZX T P F Z Z') (k : KG R R') (s : SR sg1.1 R') (o : OR sg1.2.1 om' Z'.2.2.2.2.2.2.2) (z : sg1.2.1.2.1 = 0) (hm : m ≤ need) : RCX d g F0 ci Z' R' om' (T + m) P Pb F sg1 env rem lcl loc (need - m) FC FN := by
  obtain ⟨h1, h2, h3, h4, h5, h6, h7, h8, h9, h10, h11, h12, h13, h14, h15, h16, h17⟩ := h
  refine ⟨h1, h2, h3, h4, (x.2.2 F (Nat.le_refl _)).1.trans h5, (x.2.2 F (Nat.le_refl _)).2.2.trans h6, h7, s, o, z, G.2.1, h12.next h8 s k, h13, h14, fun i hi => ?_, by omega, h17⟩
  rw [x.2.1 _ (by omega)]
  exact (h15 i hi).mono k.1
theorem ImR.ext {D : Env → (Nat → V2) → Sg → Sg × Int32 × ((Nat → V2) → Prop)} {va' : Nat} (h : ImR a b va kv lcl need co vo m D) (hl : lcl ≤ lcl') (hn : need ≤ need') (hva : va' ≤ va) (hk : kv ≤ kv') (hc : ∀ j, a ≤ j → j < b → co' j = co j) (hp : ∀ j, va ≤ j → j < kv → vo' j = vo j) : ImR a b va' kv' lcl' need' co' vo' m D := fun d g F0 ci Z R om T P Pb F sg env rem loc FC FN ha hv gc hN gv hNv X => by
  exact h d g F0 ci Z R om T P Pb F sg env rem loc FC FN ha (by omega) (fun j h1 h2 => (gc j h1 h2).trans (hc j h1 h2)) hN (fun j h1 h2 => (gv j (by omega) (by omega)).trans (hp j h1 h2)) (by omega) (X.less hl hn)
theorem ImR.seq {D1 D2 D3 : Env → (Nat → V2) → Sg → Sg × Int32 × ((Nat → V2) → Prop)} (hab : a ≤ b) (hbc : b ≤ c) (h1 : ImR a b va kv lcl need co vo m1 D1) (h2 : ImR b c va kv lcl (need - m1) co vo m2 D2) (hm : m1 ≤ need) (e0 : ∀ env loc sg, ¬ (D1 env loc sg).2.1 = 0 → (D3 env loc sg).1 = (D1 env loc sg).1 ∧ (D3 env loc sg).2.1 = (D1 env loc sg).2.1) (e1 : ∀ env loc sg, (D1 env loc sg).2.1 = 0 → (D3 env loc sg).1 = (D2 env loc (D1 env loc sg).1).1 ∧ (D3 env loc sg).2.1 = (D2 env loc (D1 env loc sg).1).2.1 ∧ ∀ z zs, (D1 env loc sg).2.2 zs → (∀ i, i < m1 → z i = zs i) → (D2 env loc (D1 env loc sg).1).2.2 (fun i => z (m1 + i)) → (D3 env loc sg).2.2 z) : ImR a c va kv lcl need co vo (m1 + m2) D3 := fun d g F0 ci Z R om T P Pb F sg env rem loc FC FN ha hv gc hN gv hNv X => by
  have R1 := h1 d g F0 ci Z R om T P Pb F sg env rem loc FC FN (by omega) (by omega) (fun j q1 q2 => gc j q1 (by omega)) (by omega) gv hNv X
  by_cases q : (D1 env loc sg).2.1 = 0
  · obtain ⟨k1, k2, k3⟩ := e1 env loc sg q
    rw [k1, k2, show c - a = (b - a) + (c - b) by omega]
    refine R1.then' q fun Z' R' om' x1 x2 x3 x4 x5 vs x6 x7 => ?_
    have R2 := h2 d g F0 ci Z' R' om' (T + m1) P Pb F (D1 env loc sg).1 env rem loc FC FN (by omega) (by omega) (fun j q1 q2 => gc j (by omega) q2) hN gv hNv (X.next R1.1 x1 x2 x3 x4 x5 hm)
    exact (R2.base x7).weak (fun z hz => k3 z _ x6 (fun i hi => hz.2 i hi) hz.1) (Nat.le_refl _)
  · obtain ⟨k1, k2⟩ := e0 env loc sg q
    rw [k1, k2]
    exact R1.err q (by omega)
theorem RunR.here {vs : Nat → V2} (X : RCX d g F0 ci Z R om T P Pb F sg env rem lcl loc need FC FN) (p : PV vs) : RunR d g F0 Z R T P F pE (rm g F0 Z R om T P sg.2.2 (F + 1) pE) 0 0 sg sg 0 PV := by
  obtain ⟨h1, h2, h3, h4, h5, h6, h7, h8, h9, h10, h11, h12, h13, h14, h15, h16, h17⟩ := X
  exact ⟨⟨Nat.le_refl _, h11, by decide⟩, fun _ => ⟨0, Z, R, om, GoR.rfl', by omega, RZX.rfl', KG.rfl', h8, h9, h10, vs, p, fun i hi => absurd hi (Nat.not_lt_zero _)⟩, fun q => absurd rfl q⟩
theorem IrL_nil : IrL a a va kv lcl need co vo 0 dNil := fun d g F0 ci Z R om T P Pb F sg env rem loc FC FN ha hv gc hN gv hNv X => by
  exact (RunR.here (vs := fun _ => (0, 0)) X (fun i hi => absurd hi (Nat.not_lt_zero _))).weak (fun _ h => h) (Nat.zero_le _)
theorem IrL_snoc {l : DL} {D : DE} (hab : a ≤ b) (hbc : b ≤ c) (h1 : IrL a b va kv lcl need co vo m l) (h2 : IrE b c va kv lcl (need - m) co vo D) (hm : m ≤ need) : IrL a c va kv lcl need co vo (m + 1) (dSnoc m l D) := by
  refine ImR.seq hab hbc h1 h2 hm (fun env loc sg q => ?_) (fun env loc sg q => ?_)
  · have q' : ¬ (l env loc sg).2.1 = 0 := q
    unfold asLi dSnoc
    dsimp only
    rw [if_neg q']
    exact ⟨rfl, rfl⟩
  · have q' : (l env loc sg).2.1 = 0 := q
    unfold asLi asEx dSnoc
    dsimp only
    rw [if_pos q']
    refine ⟨rfl, rfl, fun z zs h3 h4 h5 i hi => ?_⟩
    dsimp only
    by_cases c : i = m
    · rw [if_pos c, c]
      exact h5
    · rw [if_neg c, h4 i (by omega)]
      exact h3 i (by omega)
/-- one command of wd steps: m VALUES into one -/
def CmR (wd m : Nat) (K : CI → Nat → Prop) (Fo : SC → (Nat → V2) → RV) : Prop := ∀ (d : Nat) (g : RG) (F0 : Nat) (ci : CI) (Z : RZ) (R : RS) (om : Int32) (T P F u p : Nat) (S : SC) (vs : Nat → V2), RD g.1 g.2.2.2.2 → CDi g.2.2.1 ci → Z.2.2.2.2.1 F = .ref ci.1 → F < 9 → p + wd ≤ cNs ci → K ci p → SR S R → T + m < 8000 → T + 1 < 8000 → (∀ i, i < m → VR R.1 (vs i) (Z.1 (T + i))) → RO1 (rmk g F0 Z om P u (F + 1)) T Z.1 R (nI (p + wd)) (x_Mod_one (d + 8) 160 (rm g F0 Z R om (T + m) P u (F + 1) p)) (Fo S vs)
theorem RunR.ro {res : RV} {out : Option (Int32 × HS)} {zs : Nat → V2} {p u : Nat} (h : RO1 (rmk g F0 Z om P sg.2.2 (F + 1)) T Z.1 R (nI pE) out res) (hs : out = x_Mod_one (d + 8) 160 s0) (X : RCX d g F0 ci Z R om u P Pb F sg env rem lcl loc need FC FN) (h11 : ¬ res.2.1 = 11) (hnn : 0 ≤ res.2.1) : RunR d g F0 Z R T P F pE s0 1 1 sg (res.1, sg.2) res.2.1 (fun z => z 0 = res.2.2) := by
  obtain ⟨h1, h2, h3, h4, h5, h6, h7, h8, h9, h10, x11, h12, h13, h14, h15, h16, h17⟩ := X
  refine ⟨⟨Nat.le_refl _, x11, h11⟩, fun q => ?_, fun q => ?_⟩
  · obtain ⟨sk', R', y1, y2, y3, y4, y5⟩ := h.1 q
    rw [hs] at y1
    exact ⟨1, (sk', Z.2), R', om, goR_1 y1, by omega, ⟨y2, fun _ _ => rfl, fun _ _ => ⟨rfl, rfl, rfl⟩⟩, y4, y3, h9, h10, fun _ => res.2.2, rfl, fun i hi => by
      obtain rfl : i = 0 := by omega
      exact y5⟩
  · obtain ⟨sk', R', T', pc', y1⟩ := h.2 q
    rw [hs] at y1
    exact ⟨1, _, enR_1 y1 hnn, by omega, (sk', Z.2), R', om, T', _, _, pc', rfl, h9⟩
theorem IrE_op {D0 : Env → (Nat → V2) → Sg → Sg × Int32 × ((Nat → V2) → Prop)} {K : CI → Nat → Prop} {Fo : SC → (Nat → V2) → RV} {l : DL} (hab : a ≤ b) (h1 : ImR a b va kv lcl need co vo m D0) (hD : ∀ env loc sg, (D0 env loc sg).1 = (l env loc sg).1 ∧ (D0 env loc sg).2.1 = (l env loc sg).2.1 ∧ ∀ z S, (D0 env loc sg).2.2 z → Fo S z = Fo S (l env loc sg).2.2) (hm : m ≤ need) (h1n : 1 ≤ need) (hK : ∀ ci, cBa ci ≤ a → cVb ci ≤ va → (∀ j, a ≤ j → j < b + wd → cSp ci (j - cBa ci) = co j) → (∀ j, va ≤ j → j < kv → cCq ci (j - cVb ci) = vo j) → kv ≤ cNv ci + cVb ci → K ci (b - cBa ci)) (hC : CmR wd m K Fo) (h11 : ∀ S vs, ¬ (Fo S vs).2.1 = 11) (hnn : ∀ S vs, 0 ≤ (Fo S vs).2.1) (hw : 1 ≤ wd) : IrE a (b + wd) va kv lcl need co vo (dOp Fo l) := fun d g F0 ci Z R om T P Pb F sg env rem loc FC FN ha hv gc hN gv hNv X => by
  have R1 := h1 d g F0 ci Z R om T P Pb F sg env rem loc FC FN (by omega) (by omega) (fun j q1 q2 => gc j q1 (by omega)) (by omega) gv hNv X
  obtain ⟨d1, d2, d3⟩ := hD env loc sg
  have X' := X
  obtain ⟨x1, x2, x3, x4, x5, x6, x7, x8, x9, x10, x11, x12, x13, x14, x15, x16, x17⟩ := X
  by_cases q : (l env loc sg).2.1 = 0
  · have e : asEx (dOp Fo l) env loc sg = (((Fo (l env loc sg).1.1 (l env loc sg).2.2).1, (l env loc sg).1.2), (Fo (l env loc sg).1.1 (l env loc sg).2.2).2.1, fun z => z 0 = (Fo (l env loc sg).1.1 (l env loc sg).2.2).2.2) := by
      unfold asEx dOp lift
      rw [if_pos q]
    rw [e, show b + wd - a = (b - a) + wd by omega]
    refine R1.then' (d2.trans q) fun Z' R' om' w1 w2 w3 w4 w5 vs w6 w7 => ?_
    have N := X'.next (m := 0) R1.1 w1 w2 w3 w4 w5 (Nat.zero_le _)
    have k1 := hC d g F0 ci Z' R' om' T P F (D0 env loc sg).1.2.2 (b - cBa ci) (D0 env loc sg).1.1 vs x1 x4 N.2.2.2.2.1 (by omega) (by omega) (hK ci ha hv gc gv hNv) w3 (by omega) (by omega) w7
    rw [d3 _ _ w6, show b - cBa ci + wd = b + wd - cBa ci by omega] at k1
    have R2 := RunR.ro (zs := vs) (p := 0) k1 rfl N (h11 _ _) (hnn _ _)
    rw [d1] at R2 ⊢
    exact R2.weak (fun _ h => h) hw
  · have e : asEx (dOp Fo l) env loc sg = ((l env loc sg).1, (l env loc sg).2.1, fun z => z 0 = (0, 0)) := by
      unfold asEx dOp
      rw [if_neg q]
    rw [e]
    have := R1.err (pE' := b + wd - cBa ci) (m1 := 1) (PW := fun z => z 0 = (0, 0)) (by rw [d2]; exact q) (show b - a ≤ b + wd - a by omega)
    rw [d1, d2] at this
    exact this
end
