/-! DENOTATIONS: what a phrase does, as a function; both sides are shown to follow it -/
abbrev Sg : Type := SC × oS × Nat
abbrev DV : Type := Sg × Int32 × V2
abbrev CIt : Type := List Nat → Nat → (Nat → V2) → Sg → DV
abbrev Env : Type := Nat × CIt
abbrev DE : Type := Env → (Nat → V2) → Sg → DV
abbrev DL : Type := Env → (Nat → V2) → Sg → Sg × Int32 × (Nat → V2)
abbrev DSt : Type := Env → (Nat → V2) → Sg → (Nat → V2) × DV
/-- a NAME as the class's long -/
def nC (w : List Nat) : Int64 := Int64.ofNat (C128 8 w)
def lift (z : RV) (o : oS × Nat) : DV := ((z.1, o), z.2.1, z.2.2)
def dNil : DL := fun _ _ sg => (sg, 0, fun _ => (0, 0))
def dSnoc (m : Nat) (l : DL) (e : DE) : DL := fun env loc sg => if (l env loc sg).2.1 = 0 then ((e env loc (l env loc sg).1).1, (e env loc (l env loc sg).1).2.1, fun i => if i = m then (e env loc (l env loc sg).1).2.2 else (l env loc sg).2.2 i) else l env loc sg
def dOp (Fo : SC → (Nat → V2) → RV) (l : DL) : DE := fun env loc sg => if (l env loc sg).2.1 = 0 then lift (Fo (l env loc sg).1.1 (l env loc sg).2.2) (l env loc sg).1.2 else ((l env loc sg).1, (l env loc sg).2.1, (0, 0))
def dCall (w : List Nat) (m : Nat) (l : DL) : DE := fun env loc sg => if (l env loc sg).2.1 = 0 then env.2 w m (l env loc sg).2.2 (l env loc sg).1 else ((l env loc sg).1, (l env loc sg).2.1, (0, 0))
def dLoc (i : Nat) : DE := fun _ loc sg => (sg, 0, loc i)
/-- || (w = false) and && (w = true) -/
def dEi (w : Bool) (a b : DE) : DE := fun env loc sg => if (a env loc sg).2.1 = 0 then (if (decide (s_Cell_isTrue (a env loc sg).2.2.1 (a env loc sg).2.2.2 = 0)) = w then a env loc sg else b env loc (a env loc sg).1) else a env loc sg
/-- what every result keeps -/
def GD (F : Nat) (sg sg' : Sg) (e : Int32) : Prop := SJ sg.1 sg'.1 ∧ oW sg'.2.1 ∧ sg.2.2 ≤ sg'.2.2 ∧ sg'.2.2 ≤ F ∧ ¬ e = 11
def RunP (d r F : Nat) (Y : MY) (T B u b cl : Nat) (s0 : HS) (k0 m : Nat) (sg sg' : Sg) (e : Int32) (PV : (Nat → V2) → Prop) : Prop := GD F sg sg' e ∧ (e = 0 → ∃ k Z, Go d k s0 (mh r (nI F) Z (T + m) B u b cl sg'.1 sg'.2.1 sg'.2.2 0 0) ∧ k ≤ k0 + 8192 * (sg'.2.2 - sg.2.2) ∧ yX r T cl Y Z ∧ PV (fun i => yV Z (T + i)) ∧ yW r (T + m) Z) ∧ (¬ e = 0 → ∃ k s', Go d k s0 s' ∧ k ≤ k0 + 8192 * (sg'.2.2 - sg.2.2) ∧ yH r (nI F) Y s' e sg'.2.1 sg'.2.2)
section
variable {d r F T B u b c cl k0 k1 k2 m m1 m2 : Nat} {Y Z : MY} {s0 s1 : HS} {sg sg1 sg2 : Sg} {e e1 : Int32} {PV PW PX : (Nat → V2) → Prop} {fu : Int32} {O : oS} {tk : Nat}
theorem GD.trans (a : GD F sg sg1 e) (b : GD F sg1 sg2 e1) : GD F sg sg2 e1 := ⟨a.1.trans b.1, b.2.1, Nat.le_trans a.2.2.1 b.2.2.1, b.2.2.2.1, b.2.2.2.2⟩
theorem yH.grow (g : yG r Y Z) (h : yH r fu Z s0 e O tk) : yH r fu Y s0 e O tk := by
  obtain ⟨A, tp, bs, u, pc, cl, S, h1, h2⟩ := h
  exact ⟨A, tp, bs, u, pc, cl, S, h1, GM.trans g h2⟩
theorem RunP.weak (h : RunP d r F Y T B u b cl s0 k0 m sg sg1 e PV) (hp : ∀ vs, PV vs → PW vs) (hk : k0 ≤ k1) : RunP d r F Y T B u b cl s0 k1 m sg sg1 e PW := by
  refine ⟨h.1, fun q => ?_, fun q => ?_⟩
  · obtain ⟨k, Z, a1, a2, a3, a4, a5⟩ := h.2.1 q
    exact ⟨k, Z, a1, by omega, a3, hp _ a4, a5⟩
  · obtain ⟨k, s', a1, a2, a3⟩ := h.2.2 q
    exact ⟨k, s', a1, by omega, a3⟩
/-- an ERROR stays -/
theorem RunP.err (h : RunP d r F Y T B u b cl s0 k0 m sg sg1 e PV) (he : ¬ e = 0) (hk : k0 ≤ k1) : RunP d r F Y T B u c cl s0 k1 m1 sg sg1 e PW := by
  refine ⟨h.1, fun q => absurd q he, fun q => ?_⟩
  obtain ⟨k, s', a1, a2, a3⟩ := h.2.2 q
  exact ⟨k, s', a1, by omega, a3⟩
theorem RunP.then' (h : RunP d r F Y T B u b cl s0 k1 m1 sg sg1 e PV) (he : e = 0) (h2 : ∀ Z, yX r T cl Y Z → PV (fun i => yV Z (T + i)) → yW r (T + m1) Z → RunP d r F Z T B u c cl (mh r (nI F) Z (T + m1) B u b cl sg1.1 sg1.2.1 sg1.2.2 0 0) k2 m2 sg1 sg2 e1 PW) : RunP d r F Y T B u c cl s0 (k1 + k2) m2 sg sg2 e1 PW := by
  obtain ⟨k, Z, a1, a2, a3, a4, a5⟩ := h.2.1 he
  have h3 := h2 Z a3 a4 a5
  have g1 := h.1.2.2.1
  have g2 := h3.1.2.2.1
  refine ⟨h.1.trans h3.1, fun q => ?_, fun q => ?_⟩
  · obtain ⟨k', A, b1, b2, b3, b4, b5⟩ := h3.2.1 q
    exact ⟨k + k', A, a1.trans b1, by omega, a3.trans b3 (Nat.le_refl _) (Nat.le_refl _), b4, b5⟩
  · obtain ⟨k', s', b1, b2, b3⟩ := h3.2.2 q
    exact ⟨k + k', s', a1.trans b1, by omega, b3.grow a3.1⟩
/-- the same run seen from further below -/
theorem RunP.base (h : RunP d r F Y (T + m1) B u b cl s0 k1 m2 sg sg1 e PV) : RunP d r F Y T B u b cl s0 k1 (m1 + m2) sg sg1 e (fun vs => PV (fun i => vs (m1 + i)) ∧ ∀ i, i < m1 → vs i = yV Y (T + i)) := by
  refine ⟨h.1, fun q => ?_, h.2.2⟩
  obtain ⟨k, Z, a1, a2, a3, a4, a5⟩ := h.2.1 q
  refine ⟨k, Z, by rw [← Nat.add_assoc]; exact a1, a2, a3.less (by omega) (Nat.le_refl _), ⟨?_, fun i hi => a3.2.1 _ (by omega)⟩, by rw [← Nat.add_assoc]; exact a5⟩
  have e : (fun i => yV Z (T + m1 + i)) = fun i => yV Z (T + (m1 + i)) := by
    funext i
    rw [Nat.add_assoc]
  rw [← e]
  exact a4
end
/-- a call from any place does as the environment says -/
def CK (d r F : Nat) (FI : Nat → UI) (env : Env) (rem : Nat) : Prop := ∀ (Y : MY) (Q m B pc cl : Nat) (sg : Sg) (w : List Nat) (ui : UI) (vs : Nat → V2), UV r Y ui → yW r (Q + m) Y → SI sg.1 → oW sg.2.1 → FS r Y sg.1 FI → sg.2.2 ≤ F → cl + rem = 8 → okL w → w.length ≤ 8 → m < 2 ^ 20 → Q + m + rem * 512 ≤ 8192 → Q < 8192 → (∀ i, i < m → vs i = yV Y (Q + i)) → ∃ s1, x_Mach_call (d + 7) 148 (nC w) (nI m) (mh r (nI F) Y (Q + m) B ui.1 pc cl sg.1 sg.2.1 sg.2.2 0 0) = some ((), s1) ∧ RunP d r F Y Q B ui.1 pc cl s1 0 1 sg (env.2 w m vs sg).1 (env.2 w m vs sg).2.1 (fun z => z 0 = (env.2 w m vs sg).2.2)
/-- what surrounds a phrase that runs -/
def CX (d r F : Nat) (Y : MY) (T B cl : Nat) (sg : Sg) (FI : Nat → UI) (env : Env) (rem lcl : Nat) (loc : Nat → V2) (need : Nat) : Prop := F ≤ 2000 ∧ env.1 = F ∧ yW r T Y ∧ SI sg.1 ∧ oW sg.2.1 ∧ FS r Y sg.1 FI ∧ sg.2.2 ≤ F ∧ cl + rem = 8 ∧ CK d r F FI env rem ∧ B + lcl ≤ T ∧ (∀ i, i < lcl → loc i = yV Y (B + i)) ∧ T + need + rem * 512 ≤ 8192
/-- the code from a to b leaves, over any T, m VALUES as PV says -/
def ImP (a b lcl need kp : Nat) (co : Nat → Int32) (po : Nat → Int64) (m : Nat) (D : Env → (Nat → V2) → Sg → Sg × Int32 × ((Nat → V2) → Prop)) : Prop := ∀ (cu : Nat → Int32) (pu : Nat → Int64), (∀ j, 2 * a ≤ j → j < 2 * b → cu j = co j) → (∀ j, j < kp → pu j = po j) → ∀ (d r F : Nat) (Y : MY) (T B u L K : Nat) (nm : Int64) (ps lc tn cl : Nat) (sg : Sg) (FI : Nat → UI) (env : Env) (rem : Nat) (loc : Nat → V2), UU r Y u L cu K pu nm ps lc tn → 2 * b ≤ L → kp ≤ K → CX d r F Y T B cl sg FI env rem lcl loc need → RunP d r F Y T B u b cl (mh r (nI F) Y T B u a cl sg.1 sg.2.1 sg.2.2 0 0) (b - a) m sg (D env loc sg).1 (D env loc sg).2.1 (D env loc sg).2.2
def asEx (D : DE) : Env → (Nat → V2) → Sg → Sg × Int32 × ((Nat → V2) → Prop) := fun env loc sg => ((D env loc sg).1, (D env loc sg).2.1, fun z => z 0 = (D env loc sg).2.2)
def asLi (m : Nat) (D : DL) : Env → (Nat → V2) → Sg → Sg × Int32 × ((Nat → V2) → Prop) := fun env loc sg => ((D env loc sg).1, (D env loc sg).2.1, fun z => ∀ i, i < m → z i = (D env loc sg).2.2 i)
abbrev ImE (a b lcl need kp : Nat) (co : Nat → Int32) (po : Nat → Int64) (D : DE) : Prop := ImP a b lcl need kp co po 1 (asEx D)
abbrev ImL (a b lcl need kp : Nat) (co : Nat → Int32) (po : Nat → Int64) (m : Nat) (D : DL) : Prop := ImP a b lcl need kp co po m (asLi m D)
section
variable {d r F T B u b c cl k0 k1 k2 m m1 m2 rem lcl need need' lcl' a kp kp' : Nat} {Y Z : MY} {s0 s1 : HS} {sg sg1 sg2 : Sg} {e e1 : Int32} {FI : Nat → UI} {env : Env} {loc : Nat → V2} {co co' : Nat → Int32} {po po' : Nat → Int64}
theorem CX.less (h : CX d r F Y T B cl sg FI env rem lcl loc need) (hl : lcl' ≤ lcl) (hn : need' ≤ need) : CX d r F Y T B cl sg FI env rem lcl' loc need' := by
  obtain ⟨h1, h2, h3, h4, h5, h6, h7, h8, h9, h10, h11, h12⟩ := h
  exact ⟨h1, h2, h3, h4, h5, h6, h7, h8, h9, by omega, fun i hi => h11 i (by omega), by omega⟩
theorem CX.next (h : CX d r F Y T B cl sg FI env rem lcl loc need) (g : GD F sg sg1 e) (x : yX r T cl Y Z) (w : yW r (T + m) Z) (hm : m ≤ need) : CX d r F Z (T + m) B cl sg1 FI env rem lcl loc (need - m) := by
  obtain ⟨h1, h2, h3, h4, h5, h6, h7, h8, h9, h10, h11, h12⟩ := h
  refine ⟨h1, h2, w, g.1.1, g.2.1, fun i hi => ?_, g.2.2.2.1, h8, h9, by omega, fun i hi => (h11 i hi).trans (x.2.1 _ (by omega)).symm, by omega⟩
  have q := g.1.2
  have e1 : sg1.1.2.2.2.2.2.2.2.1 = sg.1.2.2.2.2.2.2.2.1 := congrArg (·.1) q
  have e2 : sg1.1.2.2.2.2.2.2.2.2 = sg.1.2.2.2.2.2.2.2.2 := congrArg (·.2) q
  rw [e2] at hi
  rw [e1]
  exact ⟨(h6 i hi).1, (h6 i hi).2.grow x.1⟩
theorem ImP.ext {D : Env → (Nat → V2) → Sg → Sg × Int32 × ((Nat → V2) → Prop)} (h : ImP a b lcl need kp co po m D) (hl : lcl ≤ lcl') (hn : need ≤ need') (hk : kp ≤ kp') (hc : ∀ j, 2 * a ≤ j → j < 2 * b → co' j = co j) (hp : ∀ j, j < kp → po' j = po j) : ImP a b lcl' need' kp' co' po' m D := fun cu pu g1 g2 d r F Y T B u L K nm ps lc tn cl sg FI env rem loc U hL hK X => h cu pu (fun j h1 h2 => (g1 j h1 h2).trans (hc j h1 h2)) (fun j h1 => (g2 j (by omega)).trans (hp j h1)) d r F Y T B u L K nm ps lc tn cl sg FI env rem loc U hL (by omega) (X.less hl hn)
/-- one after the other -/
theorem ImP.seq {D1 D2 D3 : Env → (Nat → V2) → Sg → Sg × Int32 × ((Nat → V2) → Prop)} (ha : a ≤ b) (hb : b ≤ c) (h1 : ImP a b lcl need kp co po m1 D1) (h2 : ImP b c lcl (need - m1) kp co po m2 D2) (hm : m1 ≤ need) (e0 : ∀ env loc sg, ¬ (D1 env loc sg).2.1 = 0 → (D3 env loc sg).1 = (D1 env loc sg).1 ∧ (D3 env loc sg).2.1 = (D1 env loc sg).2.1) (e1 : ∀ env loc sg, (D1 env loc sg).2.1 = 0 → (D3 env loc sg).1 = (D2 env loc (D1 env loc sg).1).1 ∧ (D3 env loc sg).2.1 = (D2 env loc (D1 env loc sg).1).2.1 ∧ ∀ z zs, (D1 env loc sg).2.2 zs → (∀ i, i < m1 → z i = zs i) → (D2 env loc (D1 env loc sg).1).2.2 (fun i => z (m1 + i)) → (D3 env loc sg).2.2 z) : ImP a c lcl need kp co po (m1 + m2) D3 := fun cu pu g1 g2 d r F Y T B u L K nm ps lc tn cl sg FI env rem loc U hL hK X => by
  have R1 := h1 cu pu (fun j q1 q2 => g1 j q1 (by omega)) g2 d r F Y T B u L K nm ps lc tn cl sg FI env rem loc U (by omega) hK X
  by_cases q : (D1 env loc sg).2.1 = 0
  · obtain ⟨k1, k2, k3⟩ := e1 env loc sg q
    rw [k1, k2, show c - a = (b - a) + (c - b) by omega]
    refine R1.then' q fun Z x1 x2 x3 => ?_
    have R2 := h2 cu pu (fun j q1 q2 => g1 j (by omega) q2) g2 d r F Z (T + m1) B u L K nm ps lc tn cl (D1 env loc sg).1 FI env rem loc (U.grow x1.1) hL hK (X.next R1.1 x1 x3 hm)
    exact R2.base.weak (fun vs hv => k3 vs _ x2 (fun i hi => hv.2 i hi) hv.1) (Nat.le_refl _)
  · obtain ⟨k1, k2⟩ := e0 env loc sg q
    rw [k1, k2]
    exact R1.err q (by omega)
theorem ImL_nil : ImL a a lcl need kp co po 0 dNil := fun cu pu g1 g2 d r F Y T B u L K nm ps lc tn cl sg FI env rem loc U hL hK X => by
  obtain ⟨h1, h2, h3, h4, h5, h6, h7, h8, h9, h10, h11, h12⟩ := X
  exact ⟨⟨SJ.rfl' h4, h5, Nat.le_refl _, h7, by show ¬ (0 : Int32) = 11; decide⟩, fun _ => ⟨0, Y, Go.rfl', by omega, yX.rfl' h3.1, fun i hi => absurd hi (Nat.not_lt_zero _), h3⟩, fun q => absurd rfl q⟩
theorem ImL_snoc {l : DL} {D : DE} (ha : a ≤ b) (hb : b ≤ c) (h1 : ImL a b lcl need kp co po m l) (h2 : ImE b c lcl (need - m) kp co po D) (hm : m ≤ need) : ImL a c lcl need kp co po (m + 1) (dSnoc m l D) := by
  refine ImP.seq ha hb h1 h2 hm (fun env loc sg q => ?_) (fun env loc sg q => ?_)
  · have q' : ¬ (l env loc sg).2.1 = 0 := q
    unfold asLi dSnoc
    dsimp only
    rw [if_neg q']
    exact ⟨rfl, rfl⟩
  · have q' : (l env loc sg).2.1 = 0 := q
    unfold asLi asEx dSnoc
    dsimp only
    rw [if_pos q']
    refine ⟨rfl, rfl, fun z zs h3 h4 h5 i hi => ?_⟩
    dsimp only
    by_cases c : i = m
    · rw [if_pos c, c]
      exact h5
    · rw [if_neg c, h4 i (by omega)]
      exact h3 i (by omega)
/-- a list, then a command -/
theorem ImE_op {D0 : Env → (Nat → V2) → Sg → Sg × Int32 × ((Nat → V2) → Prop)} {Fo : SC → (Nat → V2) → RV} {Go : SC → (Nat → V2) → RV} {l : DL} {op x : Int32} (ha : a ≤ b) (h1 : ImP a b lcl need kp co po m D0) (hD : ∀ env loc sg, (D0 env loc sg).1 = (l env loc sg).1 ∧ (D0 env loc sg).2.1 = (l env loc sg).2.1 ∧ ∀ z S, (D0 env loc sg).2.2 z → Fo S z = Go S (l env loc sg).2.2) (hm : m ≤ need) (h1n : 1 ≤ need) (c1 : co (2 * b) = op) (c2 : co (2 * b + 1) = x) (hC : ∀ pu K, (∀ j, j < kp → pu j = po j) → kp ≤ K → CmO op x m pu K Fo) (hJ : ∀ S vs, SI S → SJ S (Go S vs).1) (h11 : ∀ S vs, ¬ (Go S vs).2.1 = 11) : ImE a (b + 1) lcl need kp co po (dOp Go l) := fun cu pu g1 g2 d r F Y T B u L K nm ps lc tn cl sg FI env rem loc U hL hK X => by
  have R1 := h1 cu pu (fun j q1 q2 => g1 j q1 (by omega)) g2 d r F Y T B u L K nm ps lc tn cl sg FI env rem loc U (by omega) hK X
  obtain ⟨d1, d2, d3⟩ := hD env loc sg
  have X' := X
  obtain ⟨x1, x2, x3, x4, x5, x6, x7, x8, x9, x10, x11, x12⟩ := X
  by_cases q : (l env loc sg).2.1 = 0
  · have e : asEx (dOp Go l) env loc sg = (((Go (l env loc sg).1.1 (l env loc sg).2.2).1, (l env loc sg).1.2), (Go (l env loc sg).1.1 (l env loc sg).2.2).2.1, fun z => z 0 = (Go (l env loc sg).1.1 (l env loc sg).2.2).2.2) := by
      unfold asEx dOp lift
      rw [if_pos q]
    rw [e, show b + 1 - a = (b - a) + 1 by omega]
    refine R1.then' (d2.trans q) fun Z w1 w2 w3 => ?_
    have N := X'.next R1.1 w1 w3 hm
    obtain ⟨out, k1, k2, k3⟩ := hC pu K g2 hK d r (nI F) Z T B u b L cu nm ps lc tn cl (D0 env loc sg).1.1 (D0 env loc sg).1.2.1 (D0 env loc sg).1.2.2 (U.grow w1.1) (by omega) ((g1 _ (by omega) (by omega)).trans c1) ((g1 _ (by omega) (by omega)).trans c2) w3 N.2.2.2.1 (by omega)
    rw [d3 _ _ w2] at k2 k3
    rw [d1] at k1 k2 k3 ⊢
    have G : GD F (l env loc sg).1 ((Go (l env loc sg).1.1 (l env loc sg).2.2).1, (l env loc sg).1.2) (Go (l env loc sg).1.1 (l env loc sg).2.2).2.1 := by
      have R11 := R1.1
      rw [d1] at R11
      exact ⟨hJ _ _ R11.1.1, R11.2.1, Nat.le_refl _, R11.2.2.2.1, h11 _ _⟩
    refine ⟨G, fun q => ?_, fun q => ?_⟩
    · obtain ⟨A, y1, y2, y3, y4⟩ := k2 q
      exact ⟨1, A, k1 _ y1, by omega, y2, y3, y4⟩
    · obtain ⟨s', y1, y2⟩ := k3 q
      exact ⟨1, s', k1 _ y1, by omega, y2⟩
  · have e : asEx (dOp Go l) env loc sg = ((l env loc sg).1, (l env loc sg).2.1, fun z => z 0 = (0, 0)) := by
      unfold asEx dOp
      rw [if_neg q]
    rw [e]
    have := R1.err (c := b + 1) (m1 := 1) (PW := fun z => z 0 = (0, 0)) (by rw [d2]; exact q) (show b - a ≤ b + 1 - a by omega)
    rw [d1, d2] at this
    exact this
end
