/-! the reference's phrases of an expression -/
theorem nn_in {v : V2} {k : Int32} : 0 ≤ c_in v k := by
  unfold c_in
  repeat' split
  all_goals decide
theorem nn_size {S : SC} {v : V2} : 0 ≤ (d_size S v).2.1 := by
  unfold d_size
  repeat' split
  all_goals (dsimp only; decide)
theorem nn_pop {S : SC} {v : V2} : 0 ≤ (d_pop S v).2.1 := by
  unfold d_pop
  repeat' split
  all_goals (dsimp only; decide)
theorem nn_minus {S : SC} {v : V2} : 0 ≤ (d_minus S v).2.1 := by
  unfold d_minus
  repeat' split
  all_goals (dsimp only; decide)
theorem nn_field {S : SC} {y : Int64} {v : V2} : 0 ≤ (d_field S y v).2.1 := by
  unfold d_field
  repeat' split
  all_goals (dsimp only; decide)
theorem nn_item {S : SC} {a i : V2} : 0 ≤ (d_item S a i).2.1 := by
  unfold d_item
  repeat' split
  all_goals first | (show (0 : Int32) ≤ 0; decide) | (show (0 : Int32) ≤ 2; decide) | (show 0 ≤ c_in _ _; exact nn_in)
theorem nn_push {S : SC} {a b : V2} : 0 ≤ (d_push S a b).2.1 := by
  unfold d_push
  split
  · dsimp only
    split <;> decide
  · dsimp only
    decide
theorem nn_cmp {S : SC} {w : Bool} {a b : V2} : 0 ≤ (d_cmp S w a b).2.1 := by
  unfold d_cmp
  split
  all_goals (dsimp only; decide)
theorem nn_reck {S : SC} {x : Int32} {a b : V2} : 0 ≤ (d_reck S x a b).2.1 := by
  unfold d_reck d_join
  repeat' split
  all_goals (dsimp only; decide)
theorem nn_rwL {o : Int32} {vs : Nat → V2} : ∀ m i S, 0 ≤ (d_rwL o vs m i S).2
  | 0, _, _ => by show (0 : Int32) ≤ 0; decide
  | m + 1, i, S => by
    unfold d_rwL
    split
    · exact nn_rwL m _ _
    · show (0 : Int32) ≤ 4
      decide
theorem nn_rcL {o : Int32} {ns : Nat → Int64} {vs : Nat → V2} : ∀ m i S, 0 ≤ (d_rcL o ns vs m i S).2
  | 0, _, _ => by show (0 : Int32) ≤ 0; decide
  | m + 1, i, S => by
    unfold d_rcL
    split
    · exact nn_rcL m _ _
    · show (0 : Int32) ≤ 4
      decide
theorem nn_row {S : SC} {m : Nat} {vs : Nat → V2} : 0 ≤ (d_row S m vs).2.1 := by
  unfold d_row
  split
  · show (0 : Int32) ≤ 8
    decide
  · exact nn_rwL _ _ _
theorem nn_rec {S : SC} {m : Nat} {ns : Nat → Int64} {vs : Nat → V2} : 0 ≤ (d_rec S m ns vs).2.1 := by
  unfold d_rec
  split
  · show (0 : Int32) ≤ 8
    decide
  · exact nn_rcL _ _ _
theorem nn_bin {op : Int32} {S : SC} {a b : V2} : 0 ≤ (d_bin op S a b).2.1 := by
  unfold d_bin
  repeat' split
  · show (0 : Int32) ≤ 0
    decide
  · show (0 : Int32) ≤ 0
    decide
  · exact nn_cmp
  · exact nn_cmp
  · exact nn_reck
theorem n11_bin {op : Int32} {S : SC} {a b : V2} : ¬ (d_bin op S a b).2.1 = 11 := by
  unfold d_bin
  repeat' split
  · show ¬ (0 : Int32) = 11
    decide
  · show ¬ (0 : Int32) = 11
    decide
  · exact n11_cmp
  · exact n11_cmp
  · exact n11_reck

def K1 (op : Int32) : CI → Nat → Prop := fun ci p => cSp ci p = op
def K2 (op x : Int32) : CI → Nat → Prop := fun ci p => cSp ci p = op ∧ cSp ci (p + 1) = x
def KN (op : Int32) (w : List Nat) : CI → Nat → Prop := fun ci p => cSp ci p = op ∧ ∃ x, cSp ci (p + 1) = nI x ∧ cVb ci ≤ x ∧ x - cVb ci < cNv ci ∧ (cCq ci (x - cVb ci)).2.2.1 = nV w
def KV (v : V2) : CI → Nat → Prop := fun ci p => cSp ci p = 0 ∧ ∃ x, cSp ci (p + 1) = nI x ∧ cVb ci ≤ x ∧ x - cVb ci < cNv ci ∧ ∀ kd, VR kd v (cCq ci (x - cVb ci))
def KR (m : Nat) (ws : Nat → List Nat) : CI → Nat → Prop := fun ci p => cSp ci p = 20 ∧ cSp ci (p + 1) = nI m ∧ ∀ k, k < m → okN (ws k) ∧ ∃ x, cSp ci (p + 2 + k) = nI x ∧ cVb ci ≤ x ∧ x - cVb ci < cNv ci ∧ (cCq ci (x - cVb ci)).2.2.1 = nV (ws k)
theorem cr_const {v : V2} : CmR 2 0 (KV v) (fun S _ => (S, 0, v)) := fun d g F0 ci Z R om T P F u p S vs D C hc hF hp K X h1 h2 hv => by
  obtain ⟨k1, x, k2, k3, k4, k5⟩ := K
  have e := one_0 (d := d + 6) (us := g.2.1) (b := g.2.2.2.1) (sk := Z.1) (pk := Z.2.1) (g0 := Z.2.2.1) (hk := Z.2.2.2.1) (cu := Z.2.2.2.2.1) (bk := Z.2.2.2.2.2.1) (bs := Z.2.2.2.2.2.2.1) (ob := Z.2.2.2.2.2.2.2) (R := R) (om := om) (P := nI P) (fu := nI F0) (u := nI u) (t := T) D C hF hc (show p + 1 < cNs ci by omega) k1 k2 k3 k4 (by omega)
  show RO1 _ _ _ _ _ (x_Mod_one (d + 6 + 2) 160 (rm g F0 Z R om T P u (F + 1) p)) _
  rw [e]
  exact RO1.ok (fun j hj => upQ_lt hj) X KG.rfl' (by rw [upQ_at]; exact k5 _)
theorem cr_root {w : List Nat} (hw : okN w) : CmR 2 0 (KN 3 w) (fun S _ => d_root S (nC w)) := fun d g F0 ci Z R om T P F u p S vs D C hc hF hp K X h1 h2 hv => by
  obtain ⟨k1, x, k2, k3, k4, k5⟩ := K
  have e := one_3 (d := d + 6) (us := g.2.1) (b := g.2.2.2.1) (sk := Z.1) (pk := Z.2.1) (g0 := Z.2.2.1) (hk := Z.2.2.2.1) (cu := Z.2.2.2.2.1) (bk := Z.2.2.2.2.2.1) (bs := Z.2.2.2.2.2.2.1) (ob := Z.2.2.2.2.2.2.2) (R := R) (om := om) (P := nI P) (fu := nI F0) (u := nI u) (t := T) D C hF hc (show p + 1 < cNs ci by omega) k1 k2 k3 k4 (by omega) X.2.2.1 X.2.2.2.1
  show RO1 _ _ _ _ _ (x_Mod_one (d + 6 + 2) 160 (rm g F0 Z R om T P u (F + 1) p)) _
  rw [e, k5]
  show RO1 _ _ _ _ _ _ (d_root S (nC w))
  unfold d_root
  rw [SR_fr X hw]
  refine RO1.ok (fun j hj => upQ_lt hj) X KG.rfl' ?_
  rw [upQ_at]
  rcases find_or (g := R.2.2.2.1) (k := S.2.2.2.2.2.2.1) (y := nV w) (by have := X.2.2.1; omega) with h | ⟨j, j1, j2, j3⟩
  · rw [if_pos h, if_pos h]
    exact VR.nil
  · have := X.2.2.1
    rw [j2, if_neg (nI_pos (show j < 2 ^ 31 by omega)), if_neg (nI_pos (show j < 2 ^ 31 by omega)), nI_clamp (show j < 2 ^ 31 by omega)]
    obtain ⟨_, _, _, _, h4, _⟩ := X.2.2.2.2.1 j j1
    exact h4
theorem cr_size : CmR 1 1 (K1 17) (fun S vs => d_size S (vs 0)) := fun d g F0 ci Z R om T P F u p S vs D C hc hF hp K X h1 h2 hv => by
  show RO1 _ _ _ _ _ (x_Mod_one (d + 7 + 1) 160 _) _
  rw [one_17 D C hF hc (by omega) K]
  exact q_size D X (by omega) (hv 0 (by decide))
theorem cr_pop : CmR 1 1 (K1 19) (fun S vs => d_pop S (vs 0)) := fun d g F0 ci Z R om T P F u p S vs D C hc hF hp K X h1 h2 hv => by
  show RO1 _ _ _ _ _ (x_Mod_one (d + 7 + 1) 160 _) _
  rw [one_19 D C hF hc (by omega) K]
  exact q_pop D X (by omega) (hv 0 (by decide))
theorem cr_minus : CmR 1 1 (K1 10) (fun S vs => d_minus S (vs 0)) := fun d g F0 ci Z R om T P F u p S vs D C hc hF hp K X h1 h2 hv => by
  show RO1 _ _ _ _ _ (x_Mod_one (d + 7 + 1) 160 _) _
  rw [one_10 D C hF hc (by omega) K]
  exact q_minus D X (by omega) (hv 0 (by decide))
theorem cr_not : CmR 1 1 (K1 11) (fun S vs => d_not S (vs 0)) := fun d g F0 ci Z R om T P F u p S vs D C hc hF hp K X h1 h2 hv => by
  show RO1 _ _ _ _ _ (x_Mod_one (d + 7 + 1) 160 _) _
  rw [one_11 D C hF hc (by omega) K]
  exact q_not D X (by omega) (hv 0 (by decide))
theorem cr_push : CmR 1 2 (K1 18) (fun S vs => d_push S (vs 0) (vs 1)) := fun d g F0 ci Z R om T P F u p S vs D C hc hF hp K X h1 h2 hv => by
  show RO1 _ _ _ _ _ (x_Mod_one (d + 7 + 1) 160 _) _
  rw [one_18 D C hF hc (by omega) K]
  exact q_push D X (by omega) (hv 0 (by decide)) (hv 1 (by decide))
theorem cr_item : CmR 1 2 (K1 7) (fun S vs => d_item S (vs 0) (vs 1)) := fun d g F0 ci Z R om T P F u p S vs D C hc hF hp K X h1 h2 hv => by
  show RO1 _ _ _ _ _ (x_Mod_one (d + 7 + 1) 160 _) _
  rw [one_7 D C hF hc (by omega) K]
  exact q_item D X (by omega) (hv 0 (by decide)) (hv 1 (by decide))
theorem cr_field {w : List Nat} (hw : okN w) : CmR 2 1 (KN 5 w) (fun S vs => d_field S (nF w) (vs 0)) := fun d g F0 ci Z R om T P F u p S vs D C hc hF hp K X h1 h2 hv => by
  obtain ⟨k1, x, k2, k3, k4, k5⟩ := K
  show RO1 _ _ _ _ _ (x_Mod_one (d + 7 + 1) 160 _) _
  rw [one_5 D C hF hc (by omega) k1]
  exact q_field D C hF hc (by omega) k2 k3 k4 hw k5 X (by omega) (hv 0 (by decide))
theorem cr_same {w : Bool} : CmR 2 2 (K2 12 (if w = true then 0 else 1)) (fun S vs => d_same S w (vs 0) (vs 1)) := fun d g F0 ci Z R om T P F u p S vs D C hc hF hp K X h1 h2 hv => by
  show RO1 _ _ _ _ _ (x_Mod_one (d + 7 + 1) 160 _) _
  rw [one_12 D C hF hc (by omega) K.1]
  exact q_same D C hF hc (by omega) K.2 X (by omega) (hv 0 (by decide)) (hv 1 (by decide))
theorem cr_cmp {w : Bool} : CmR 2 2 (K2 13 (if w = true then 1 else 0)) (fun S vs => d_cmp S w (vs 0) (vs 1)) := fun d g F0 ci Z R om T P F u p S vs D C hc hF hp K X h1 h2 hv => by
  show RO1 _ _ _ _ _ (x_Mod_one (d + 7 + 1) 160 _) _
  rw [one_13 D C hF hc (by omega) K.1]
  exact q_cmp D C hF hc (by omega) K.2 X (by omega) (hv 0 (by decide)) (hv 1 (by decide))
theorem cr_reck {op : Int32} (ho : op = 32 ∨ op = 33 ∨ op = 34 ∨ op = 35 ∨ op = 36) : CmR 2 2 (K2 9 (rSg op)) (fun S vs => d_reck S op (vs 0) (vs 1)) := fun d g F0 ci Z R om T P F u p S vs D C hc hF hp K X h1 h2 hv => by
  show RO1 _ _ _ _ _ (x_Mod_one (d + 7 + 1) 160 _) _
  rw [one_9 D C hF hc (by omega) K.1]
  exact q_reck D C hF hc (by omega) ho K.2 X (by omega) (hv 0 (by decide)) (hv 1 (by decide))
theorem cr_row {m : Nat} (hm : m < 2 ^ 20) : CmR 2 m (K2 21 (nI m)) (fun S vs => d_row S m vs) := fun d g F0 ci Z R om T P F u p S vs D C hc hF hp K X h1 h2 hv => by
  show RO1 _ _ _ _ _ (x_Mod_one (d + 7 + 1) 160 _) _
  rw [one_21 D C hF hc (by omega) K.1]
  exact q_row D C hF hc (by omega) K.2 hm X (by omega) (by omega) hv
theorem cr_rec {m : Nat} {ws : Nat → List Nat} (hm : m < 2 ^ 20) : CmR (2 + m) m (KR m ws) (fun S vs => d_rec S m (fun k => nF (ws k)) vs) := fun d g F0 ci Z R om T P F u p S vs D C hc hF hp K X h1 h2 hv => by
  obtain ⟨k1, k2, k3⟩ := K
  show RO1 _ _ _ _ _ (x_Mod_one (d + 7 + 1) 160 _) _
  rw [one_20 D C hF hc (by omega) k1]
  have h := q_rec (d := d + 4) (p := p + 1) (ws := ws) (us := g.2.1) (b := g.2.2.2.1) (pk := Z.2.1) (g0 := Z.2.2.1) (hk := Z.2.2.2.1) (bk := Z.2.2.2.2.2.1) (bs := Z.2.2.2.2.2.2.1) (ob := Z.2.2.2.2.2.2.2) (om := om) (P := nI P) (fu := nI F0) (u := nI u) D C hF hc (by omega) k2 hm (fun k hk => ⟨(k3 k hk).1, by rw [show p + 1 + 1 + k = p + 2 + k by omega]; exact (k3 k hk).2⟩) X (by omega) (by omega) hv
  rw [show p + 1 + 1 + m = p + (2 + m) by omega] at h
  exact h
/-- the reference's two ints of a command of two VALUES -/
def rB (op : Int32) : Int32 × Int32 := if op = 28 then (12, 0) else if op = 29 then (12, 1) else if op = 30 then (13, 0) else if op = 31 then (13, 1) else (9, rSg op)
theorem cr_bin {op : Int32} (ho : op = 28 ∨ op = 29 ∨ op = 30 ∨ op = 31 ∨ op = 32 ∨ op = 33 ∨ op = 34 ∨ op = 35 ∨ op = 36) : CmR 2 2 (K2 (rB op).1 (rB op).2) (fun S vs => d_bin op S (vs 0) (vs 1)) := by
  rcases ho with e | e | e | e | e
  · subst e; exact cr_same (w := true)
  · subst e; exact cr_same (w := false)
  · subst e; exact cr_cmp (w := false)
  · subst e; exact cr_cmp (w := true)
  · have k : (fun (S : SC) (vs : Nat → V2) => d_bin op S (vs 0) (vs 1)) = fun S vs => d_reck S op (vs 0) (vs 1) := by
      rcases e with e | e | e | e | e <;> (subst e; rfl)
    have k2 : rB op = (9, rSg op) := by
      rcases e with e | e | e | e | e <;> (subst e; rfl)
    rw [k, k2]
    exact cr_reck e
section
variable {d F0 T P Pb F a b c k0 k1 k2 m m1 m2 rem lcl lcl' need need' va kv kv' wd pE pE' : Nat} {g : RG} {ci : CI} {Z Z' : RZ} {R R' : RS} {om : Int32} {s0 s1 : HS} {sg sg1 sg2 : Sg} {e e1 : Int32} {env : Env} {loc : Nat → V2} {FC : Nat → CI} {FN : Nat → List Nat} {co co' : Nat → Int32} {vo vo' : Nat → VQ} {PV PW PX : (Nat → V2) → Prop}
theorem IrE_op0 {K : CI → Nat → Prop} {Fo : SC → RV} (hn : 1 ≤ need) (hK : ∀ ci, cBa ci ≤ a → cVb ci ≤ va → (∀ j, a ≤ j → j < a + wd → cSp ci (j - cBa ci) = co j) → (∀ j, va ≤ j → j < kv → cCq ci (j - cVb ci) = vo j) → kv ≤ cNv ci + cVb ci → K ci (a - cBa ci)) (hC : CmR wd 0 K (fun S _ => Fo S)) (h11 : ∀ S, ¬ (Fo S).2.1 = 11) (hnn : ∀ S, 0 ≤ (Fo S).2.1) (hw : 1 ≤ wd) : IrE a (a + wd) va kv lcl need co vo (dOp (fun S _ => Fo S) dNil) := IrE_op (D0 := asLi 0 dNil) (Nat.le_refl _) IrL_nil (fun _ _ _ => ⟨rfl, rfl, fun _ _ _ => rfl⟩) (by omega) hn hK hC (fun S _ => h11 S) (fun S _ => hnn S) hw
theorem hK_1 {op : Int32} (hab : a ≤ b) (c1 : co b = op) : ∀ ci, cBa ci ≤ a → cVb ci ≤ va → (∀ j, a ≤ j → j < b + 1 → cSp ci (j - cBa ci) = co j) → (∀ j, va ≤ j → j < kv → cCq ci (j - cVb ci) = vo j) → kv ≤ cNv ci + cVb ci → K1 op ci (b - cBa ci) := fun ci h1 h2 h3 h4 h5 => (h3 b hab (by omega)).trans c1
theorem hK_2 {op x : Int32} (hab : a ≤ b) (c1 : co b = op) (c2 : co (b + 1) = x) : ∀ ci, cBa ci ≤ a → cVb ci ≤ va → (∀ j, a ≤ j → j < b + 2 → cSp ci (j - cBa ci) = co j) → (∀ j, va ≤ j → j < kv → cCq ci (j - cVb ci) = vo j) → kv ≤ cNv ci + cVb ci → K2 op x ci (b - cBa ci) := fun ci h1 h2 h3 h4 h5 => ⟨(h3 b hab (by omega)).trans c1, by rw [show b - cBa ci + 1 = b + 1 - cBa ci by omega]; exact (h3 (b + 1) (by omega) (by omega)).trans c2⟩
theorem hK_N {op : Int32} {x : Nat} {w : List Nat} (hab : a ≤ b) (c1 : co b = op) (c2 : co (b + 1) = nI x) (hx : va ≤ x) (hx2 : x < kv) (hw : (vo x).2.2.1 = nV w) : ∀ ci, cBa ci ≤ a → cVb ci ≤ va → (∀ j, a ≤ j → j < b + 2 → cSp ci (j - cBa ci) = co j) → (∀ j, va ≤ j → j < kv → cCq ci (j - cVb ci) = vo j) → kv ≤ cNv ci + cVb ci → KN op w ci (b - cBa ci) := fun ci h1 h2 h3 h4 h5 => ⟨(hK_2 (vo := vo) hab c1 c2 ci h1 h2 h3 h4 h5).1, x, (hK_2 (vo := vo) hab c1 c2 ci h1 h2 h3 h4 h5).2, by omega, by omega, by rw [h4 x hx hx2]; exact hw⟩
theorem hK_V {x : Nat} {v : V2} (hab : a ≤ b) (c1 : co b = 0) (c2 : co (b + 1) = nI x) (hx : va ≤ x) (hx2 : x < kv) (hw : ∀ kd, VR kd v (vo x)) : ∀ ci, cBa ci ≤ a → cVb ci ≤ va → (∀ j, a ≤ j → j < b + 2 → cSp ci (j - cBa ci) = co j) → (∀ j, va ≤ j → j < kv → cCq ci (j - cVb ci) = vo j) → kv ≤ cNv ci + cVb ci → KV v ci (b - cBa ci) := fun ci h1 h2 h3 h4 h5 => ⟨(hK_2 (vo := vo) hab c1 c2 ci h1 h2 h3 h4 h5).1, x, (hK_2 (vo := vo) hab c1 c2 ci h1 h2 h3 h4 h5).2, by omega, by omega, by rw [h4 x hx hx2]; exact hw⟩
theorem hK_R {ws : Nat → List Nat} (hab : a ≤ b) (c1 : co b = 20) (c2 : co (b + 1) = nI m) (hx : ∀ k, k < m → okN (ws k) ∧ ∃ x, co (b + 2 + k) = nI x ∧ va ≤ x ∧ x < kv ∧ (vo x).2.2.1 = nV (ws k)) : ∀ ci, cBa ci ≤ a → cVb ci ≤ va → (∀ j, a ≤ j → j < b + (2 + m) → cSp ci (j - cBa ci) = co j) → (∀ j, va ≤ j → j < kv → cCq ci (j - cVb ci) = vo j) → kv ≤ cNv ci + cVb ci → KR m ws ci (b - cBa ci) := fun ci h1 h2 h3 h4 h5 => by
  refine ⟨(h3 b hab (by omega)).trans c1, by rw [show b - cBa ci + 1 = b + 1 - cBa ci by omega]; exact (h3 (b + 1) (by omega) (by omega)).trans c2, fun k hk => ?_⟩
  obtain ⟨w1, x, x1, x2, x3, x4⟩ := hx k hk
  exact ⟨w1, x, by rw [show b - cBa ci + 2 + k = b + 2 + k - cBa ci by omega]; exact (h3 _ (by omega) (by omega)).trans x1, by omega, by omega, by rw [h4 x x2 x3]; exact x4⟩
theorem IrE_const {x : Nat} {v : V2} (hn : 1 ≤ need) (c1 : co a = 0) (c2 : co (a + 1) = nI x) (hx : va ≤ x) (hx2 : x < kv) (hw : ∀ kd, VR kd v (vo x)) : IrE a (a + 2) va kv lcl need co vo (dK v) := by
  have h := IrE_op0 (lcl := lcl) (wd := 2) (Fo := fun S => (S, 0, v)) hn (hK_V (Nat.le_refl _) c1 c2 hx hx2 hw) cr_const (fun S => by show ¬ (0 : Int32) = 11; decide) (fun S => by show (0 : Int32) ≤ 0; decide) (by decide)
  rw [dOp_nil] at h
  exact h
theorem IrE_root {x : Nat} {w : List Nat} (hw : okN w) (hn : 1 ≤ need) (c1 : co a = 3) (c2 : co (a + 1) = nI x) (hx : va ≤ x) (hx2 : x < kv) (hxw : (vo x).2.2.1 = nV w) : IrE a (a + 2) va kv lcl need co vo (dRt w) := IrE_op0 (wd := 2) hn (hK_N (Nat.le_refl _) c1 c2 hx hx2 hxw) (cr_root hw) (fun S => by show ¬ (0 : Int32) = 11; decide) (fun S => by show (0 : Int32) ≤ 0; decide) (by decide)
theorem IrE_1 {K : CI → Nat → Prop} {Fo : SC → V2 → RV} {D : DE} (hab : a ≤ b) (hn : 1 ≤ need) (h : IrE a b va kv lcl need co vo D) (hK : ∀ ci, cBa ci ≤ a → cVb ci ≤ va → (∀ j, a ≤ j → j < b + wd → cSp ci (j - cBa ci) = co j) → (∀ j, va ≤ j → j < kv → cCq ci (j - cVb ci) = vo j) → kv ≤ cNv ci + cVb ci → K ci (b - cBa ci)) (hC : CmR wd 1 K (fun S vs => Fo S (vs 0))) (h11 : ∀ S v, ¬ (Fo S v).2.1 = 11) (hnn : ∀ S v, 0 ≤ (Fo S v).2.1) (hw : 1 ≤ wd) : IrE a (b + wd) va kv lcl need co vo (d1 Fo D) := IrE_op (D0 := asLi 1 (dSnoc 0 dNil D)) hab (IrL_snoc (Nat.le_refl _) hab IrL_nil h (by omega)) (fun env loc sg => ⟨rfl, rfl, fun z S hz => by show Fo S (z 0) = _; rw [hz 0 (by decide)]⟩) hn hn hK hC (fun S vs => h11 S (vs 0)) (fun S vs => hnn S (vs 0)) hw
theorem IrE_2 {K : CI → Nat → Prop} {Fo : SC → V2 → V2 → RV} {D E : DE} (hab : a ≤ b) (hbc : b ≤ c) (hn : 2 ≤ need) (h : IrE a b va kv lcl need co vo D) (h' : IrE b c va kv lcl (need - 1) co vo E) (hK : ∀ ci, cBa ci ≤ a → cVb ci ≤ va → (∀ j, a ≤ j → j < c + wd → cSp ci (j - cBa ci) = co j) → (∀ j, va ≤ j → j < kv → cCq ci (j - cVb ci) = vo j) → kv ≤ cNv ci + cVb ci → K ci (c - cBa ci)) (hC : CmR wd 2 K (fun S vs => Fo S (vs 0) (vs 1))) (h11 : ∀ S v v', ¬ (Fo S v v').2.1 = 11) (hnn : ∀ S v v', 0 ≤ (Fo S v v').2.1) (hw : 1 ≤ wd) : IrE a (c + wd) va kv lcl need co vo (d2 Fo D E) := IrE_op (D0 := asLi 2 (dSnoc 1 (dSnoc 0 dNil D) E)) (by omega) (IrL_snoc hab hbc (IrL_snoc (Nat.le_refl _) hab IrL_nil h (by omega)) h' (by omega)) (fun env loc sg => ⟨rfl, rfl, fun z S hz => by show Fo S (z 0) (z 1) = _; rw [hz 0 (by decide), hz 1 (by decide)]⟩) hn (by omega) hK hC (fun S vs => h11 S (vs 0) (vs 1)) (fun S vs => hnn S (vs 0) (vs 1)) hw
theorem IrE_size {D : DE} (hab : a ≤ b) (hn : 1 ≤ need) (h : IrE a b va kv lcl need co vo D) (c1 : co b = 17) : IrE a (b + 1) va kv lcl need co vo (d1 d_size D) := IrE_1 hab hn h (hK_1 hab c1) cr_size (fun S v => n11_size) (fun S v => nn_size) (by decide)
theorem IrE_pop {D : DE} (hab : a ≤ b) (hn : 1 ≤ need) (h : IrE a b va kv lcl need co vo D) (c1 : co b = 19) : IrE a (b + 1) va kv lcl need co vo (d1 d_pop D) := IrE_1 hab hn h (hK_1 hab c1) cr_pop (fun S v => n11_pop) (fun S v => nn_pop) (by decide)
theorem IrE_minus {D : DE} (hab : a ≤ b) (hn : 1 ≤ need) (h : IrE a b va kv lcl need co vo D) (c1 : co b = 10) : IrE a (b + 1) va kv lcl need co vo (d1 d_minus D) := IrE_1 hab hn h (hK_1 hab c1) cr_minus (fun S v => n11_minus) (fun S v => nn_minus) (by decide)
theorem IrE_not {D : DE} (hab : a ≤ b) (hn : 1 ≤ need) (h : IrE a b va kv lcl need co vo D) (c1 : co b = 11) : IrE a (b + 1) va kv lcl need co vo (d1 d_not D) := IrE_1 hab hn h (hK_1 hab c1) cr_not (fun S v => by show ¬ (0 : Int32) = 11; decide) (fun S v => by show (0 : Int32) ≤ 0; decide) (by decide)
theorem IrE_field {D : DE} {x : Nat} {w : List Nat} (hw : okN w) (hab : a ≤ b) (hn : 1 ≤ need) (h : IrE a b va kv lcl need co vo D) (c1 : co b = 5) (c2 : co (b + 1) = nI x) (hx : va ≤ x) (hx2 : x < kv) (hxw : (vo x).2.2.1 = nV w) : IrE a (b + 2) va kv lcl need co vo (d1 (fun S v => d_field S (nF w) v) D) := IrE_1 hab hn h (hK_N hab c1 c2 hx hx2 hxw) (cr_field hw) (fun S v => n11_field) (fun S v => nn_field) (by decide)
theorem IrE_item {D E : DE} (hab : a ≤ b) (hbc : b ≤ c) (hn : 2 ≤ need) (h : IrE a b va kv lcl need co vo D) (h' : IrE b c va kv lcl (need - 1) co vo E) (c1 : co c = 7) : IrE a (c + 1) va kv lcl need co vo (d2 d_item D E) := IrE_2 hab hbc hn h h' (hK_1 (by omega) c1) cr_item (fun S v v' => n11_item) (fun S v v' => nn_item) (by decide)
theorem IrE_push {D E : DE} (hab : a ≤ b) (hbc : b ≤ c) (hn : 2 ≤ need) (h : IrE a b va kv lcl need co vo D) (h' : IrE b c va kv lcl (need - 1) co vo E) (c1 : co c = 18) : IrE a (c + 1) va kv lcl need co vo (d2 d_push D E) := IrE_2 hab hbc hn h h' (hK_1 (by omega) c1) cr_push (fun S v v' => n11_push) (fun S v v' => nn_push) (by decide)
theorem IrE_bin {D E : DE} {op : Int32} (ho : op = 28 ∨ op = 29 ∨ op = 30 ∨ op = 31 ∨ op = 32 ∨ op = 33 ∨ op = 34 ∨ op = 35 ∨ op = 36) (hab : a ≤ b) (hbc : b ≤ c) (hn : 2 ≤ need) (h : IrE a b va kv lcl need co vo D) (h' : IrE b c va kv lcl (need - 1) co vo E) (c1 : co c = (rB op).1) (c2 : co (c + 1) = (rB op).2) : IrE a (c + 2) va kv lcl need co vo (d2 (d_bin op) D E) := IrE_2 hab hbc hn h h' (hK_2 (by omega) c1 c2) (cr_bin ho) (fun S v v' => n11_bin) (fun S v v' => nn_bin) (by decide)
theorem IrE_row {l : DL} (hab : a ≤ b) (hm : m ≤ need) (hn : 1 ≤ need) (hm2 : m < 2 ^ 20) (h : IrL a b va kv lcl need co vo m l) (c1 : co b = 21) (c2 : co (b + 1) = nI m) : IrE a (b + 2) va kv lcl need co vo (dRow m l) := IrE_op (Fo := fun S vs => d_row S m vs) hab h (fun env loc sg => ⟨rfl, rfl, fun z S hz => row_eq hz⟩) hm hn (hK_2 hab c1 c2) (cr_row hm2) (fun S vs => n11_row) (fun S vs => nn_row) (by decide)
theorem IrE_rec {l : DL} {ws : Nat → List Nat} (hab : a ≤ b) (hm : m ≤ need) (hn : 1 ≤ need) (hm2 : m < 2 ^ 20) (h : IrL a b va kv lcl need co vo m l) (c1 : co b = 20) (c2 : co (b + 1) = nI m) (hx : ∀ k, k < m → okN (ws k) ∧ ∃ x, co (b + 2 + k) = nI x ∧ va ≤ x ∧ x < kv ∧ (vo x).2.2.1 = nV (ws k)) : IrE a (b + (2 + m)) va kv lcl need co vo (dRec m (fun k => nF (ws k)) l) := IrE_op (Fo := fun S vs => d_rec S m (fun k => nF (ws k)) vs) hab h (fun env loc sg => ⟨rfl, rfl, fun z S hz => rec_eq (fun j hj => ⟨rfl, hz j hj⟩)⟩) hm hn (hK_R hab c1 c2 hx) (cr_rec hm2) (fun S vs => n11_rec) (fun S vs => nn_rec) (by omega)
theorem IrE_loc {i : Nat} (hi : i < lcl) (hn : 1 ≤ need) (c1 : co a = 1) (c2 : co (a + 1) = nI i) : IrE a (a + 2) va kv lcl need co vo (dLoc i) := fun d g F0 ci Z R om T P Pb F sg env rem loc FC FN ha hv gc hN gv hNv X => by
  obtain ⟨x1, x2, x3, x4, x5, x6, x7, x8, x9, x10, x11, x12, x13, x14, x15, x16, x17⟩ := X
  have k1 : cSp ci (a - cBa ci) = 1 := (gc a (Nat.le_refl _) (by omega)).trans c1
  have k2 : cSp ci (a - cBa ci + 1) = nI i := by rw [show a - cBa ci + 1 = a + 1 - cBa ci by omega]; exact (gc (a + 1) (by omega) (by omega)).trans c2
  have e := one_1 (d := d + 6) (us := g.2.1) (b := g.2.2.2.1) (sk := Z.1) (pk := Z.2.1) (g0 := Z.2.2.1) (hk := Z.2.2.2.1) (cu := Z.2.2.2.2.1) (bk := Z.2.2.2.2.2.1) (bs := Z.2.2.2.2.2.2.1) (ob := Z.2.2.2.2.2.2.2) (R := R) (om := om) (P := nI P) (fu := nI F0) (u := nI sg.2.2) (t := T) x1 x4 (by omega) x5 (show a - cBa ci + 1 < cNs ci by omega) k1 k2 x6 (by omega) (by omega)
  rw [show a - cBa ci + 2 = a + 2 - cBa ci by omega] at e
  refine ⟨⟨Nat.le_refl _, x11, by show ¬ (0 : Int32) = 11; decide⟩, fun _ => ⟨1, (upQ Z.1 T (Z.2.1 (Pb + i)), Z.2), R, om, goR_1 e, by omega, ⟨fun j hj => upQ_lt hj, fun _ _ => rfl, fun _ _ => ⟨rfl, rfl, rfl⟩⟩, KG.rfl', x8, x9, x10, fun _ => loc i, rfl, fun j hj => ?_⟩, fun q => absurd rfl q⟩
  obtain rfl : j = 0 := by omega
  show VR R.1 (loc i) (upQ Z.1 T (Z.2.1 (Pb + i)) T)
  rw [upQ_at]
  exact x15 i hi
theorem IrE_call {l : DL} {w : List Nat} {x : Nat} (hw : okN w) (hab : a ≤ b) (h1 : IrL a b va kv lcl need co vo m l) (hm : m ≤ need) (hn : 1 ≤ need) (hm2 : m < 2 ^ 20) (c1 : co b = 22) (c2 : co (b + 1) = nI x) (c3 : co (b + 2) = nI m) (hx : va ≤ x) (hx2 : x < kv) (hxw : (vo x).2.2.1 = nV w) : IrE a (b + 3) va kv lcl need co vo (dCall w m l) := fun d g F0 ci Z R om T P Pb F sg env rem loc FC FN ha hv gc hN gv hNv X => by
  have R1 := h1 d g F0 ci Z R om T P Pb F sg env rem loc FC FN (by omega) (by omega) (fun j q1 q2 => gc j q1 (by omega)) (by omega) gv hNv X
  by_cases q : (l env loc sg).2.1 = 0
  · have e : asEx (dCall w m l) env loc sg = ((env.2 w m (l env loc sg).2.2 (l env loc sg).1).1, (env.2 w m (l env loc sg).2.2 (l env loc sg).1).2.1, fun z => z 0 = (env.2 w m (l env loc sg).2.2 (l env loc sg).1).2.2) := by
      unfold asEx dCall
      rw [if_pos q]
    rw [e, show b + 3 - a = (b - a) + 3 by omega]
    refine R1.then' q fun Z' R' om' w1 w2 w3 w4 w5 vs w6 w7 => ?_
    have x16' := X.2.2.2.2.2.2.2.2.2.2.2.2.2.2.2.1
    obtain ⟨x1, x2, x3, x4, x5, x6, x7, x8, x9, x10, x11, x12, x13, x14, x15, x16, x17⟩ := X.next R1.1 w1 w2 w3 w4 w5 hm
    have k1 : cSp ci (b - cBa ci) = 22 := (gc b hab (by omega)).trans c1
    have k2 : cSp ci (b - cBa ci + 1) = nI x := by rw [show b - cBa ci + 1 = b + 1 - cBa ci by omega]; exact (gc (b + 1) (by omega) (by omega)).trans c2
    have k3 : cSp ci (b - cBa ci + 2) = nI m := by rw [show b - cBa ci + 2 = b + 2 - cBa ci by omega]; exact (gc (b + 2) (by omega) (by omega)).trans c3
    have ec := one_22 (d := d + 7) (us := g.2.1) (b := g.2.2.2.1) (sk := Z'.1) (pk := Z'.2.1) (g0 := Z'.2.2.1) (hk := Z'.2.2.2.1) (cu := Z'.2.2.2.2.1) (bk := Z'.2.2.2.2.2.1) (bs := Z'.2.2.2.2.2.2.1) (ob := Z'.2.2.2.2.2.2.2) (R := R') (om := om') (T := nI (T + m)) (P := nI P) (fu := nI F0) (u := nI (l env loc sg).1.2.2) x1 x4 (by omega) x5 (show b - cBa ci + 2 < cNs ci by omega) k1 k2 (by omega) (show x - cVb ci < cNv ci by omega) k3
    rw [gv x hx hx2, hxw, show b - cBa ci + 3 = b + 3 - cBa ci by omega] at ec
    obtain ⟨cd, s1, y1, y2⟩ := x13 ci Z' R' om' T m P F (b + 3 - cBa ci) (l env loc sg).1 w (l env loc sg).2.2 x4 x5 x7 x8 x9 x10 x11 x12 hw hm2 (by omega) (by omega) x17 (fun i hi => by rw [← w6 i hi]; exact w7 i hi)
    rcases y2 with ⟨rfl, y3⟩ | ⟨y3, y4, y5, y6, y7⟩
    · exact (RunR.pre (goR_1 (ec.trans y1)) y3).weak (fun _ h => h) (by omega)
    · subst y4
      exact ⟨y6, fun h => absurd h y3, fun _ => ⟨1, s1, enR_1 (ec.trans y1) y5, by omega, y7⟩⟩
  · have e : asEx (dCall w m l) env loc sg = ((l env loc sg).1, (l env loc sg).2.1, fun z => z 0 = (0, 0)) := by
      unfold asEx dCall
      rw [if_neg q]
    rw [e]
    exact R1.err q (by omega)
/-- a chain of || or of &&: it may go to its end X before -/
def RunX (d : Nat) (g : RG) (F0 : Nat) (Z : RZ) (R : RS) (T P F pE pX : Nat) (w : Bool) (s0 : HS) (k0 : Nat) (sg : Sg) (res : DV) : Prop := GR F0 sg res.1 res.2.1 ∧ (res.2.1 = 0 → ∃ k Z' R' om' pc, (pc = pE ∨ (pc = pX ∧ decide (s_Cell_isTrue res.2.2.1 res.2.2.2 = 0) = w)) ∧ GoR d k s0 (rm g F0 Z' R' om' (T + 1) P res.1.2.2 (F + 1) pc) ∧ k ≤ k0 + 8192 * (res.1.2.2 - sg.2.2) ∧ RZX T P F Z Z' ∧ KG R R' ∧ SR res.1.1 R' ∧ OR res.1.2.1 om' Z'.2.2.2.2.2.2.2 ∧ res.1.2.1.2.1 = 0 ∧ VR R'.1 res.2.2 (Z'.1 T)) ∧ (¬ res.2.1 = 0 → ∃ k s', EnR d k s0 res.2.1 s' ∧ k ≤ k0 + 8192 * (res.1.2.2 - sg.2.2) ∧ RHt g F0 s' res.1.2.1 res.1.2.2)
def IrC (w : Bool) (a b c va kv lcl need : Nat) (co : Nat → Int32) (vo : Nat → VQ) (D : DE) : Prop := ∀ (d : Nat) (g : RG) (F0 : Nat) (ci : CI) (Z : RZ) (R : RS) (om : Int32) (T P Pb F : Nat) (sg : Sg) (env : Env) (rem : Nat) (loc : Nat → V2) (FC : Nat → CI) (FN : Nat → List Nat), cBa ci ≤ a → cVb ci ≤ va → (∀ j, a ≤ j → j < b → cSp ci (j - cBa ci) = co j) → b ≤ cNs ci + cBa ci → (∀ j, va ≤ j → j < kv → cCq ci (j - cVb ci) = vo j) → kv ≤ cNv ci + cVb ci → RCX d g F0 ci Z R om T P Pb F sg env rem lcl loc need FC FN → RunX d g F0 Z R T P F (b - cBa ci) (c - cBa ci) w (rm g F0 Z R om T P sg.2.2 (F + 1) (a - cBa ci)) (b - a) sg (D env loc sg)
theorem IrC_1 {w : Bool} {D : DE} (h : IrE a b va kv lcl need co vo D) : IrC w a b c va kv lcl need co vo D := fun d g F0 ci Z R om T P Pb F sg env rem loc FC FN ha hv gc hN gv hNv X => by
  have R1 := h d g F0 ci Z R om T P Pb F sg env rem loc FC FN ha hv gc hN gv hNv X
  refine ⟨R1.1, fun q => ?_, R1.2.2⟩
  obtain ⟨k, Z', R', om', a1, a2, a3, a4, a5, a6, a7, vs, a8, a9⟩ := R1.2.1 q
  have h0 := a9 0 (by decide)
  have a8' : vs 0 = (D env loc sg).2.2 := a8
  rw [a8'] at h0
  exact ⟨k, Z', R', om', _, Or.inl rfl, a1, a2, a3, a4, a5, a6, a7, h0⟩
theorem IrC_2 {w : Bool} {D : DE} (h : IrC w a c c va kv lcl need co vo D) : IrE a c va kv lcl need co vo D := fun d g F0 ci Z R om T P Pb F sg env rem loc FC FN ha hv gc hN gv hNv X => by
  have R1 := h d g F0 ci Z R om T P Pb F sg env rem loc FC FN ha hv gc hN gv hNv X
  refine ⟨R1.1, fun q => ?_, R1.2.2⟩
  obtain ⟨k, Z', R', om', pc, h0, a1, a2, a3, a4, a5, a6, a7, a8⟩ := R1.2.1 q
  have e : pc = c - cBa ci := h0.elim id (fun h => h.1)
  subst e
  exact ⟨k, Z', R', om', a1, a2, a3, a4, a5, a6, a7, fun _ => (D env loc sg).2.2, rfl, fun i hi => by
    obtain rfl : i = 0 := by omega
    exact a8⟩
theorem IrC_3 {w : Bool} {D E : DE} {x : Nat} (hab : a ≤ b) (hbx : b + 3 ≤ x) (hxc : x ≤ c) (hn : 1 ≤ need) (h1 : IrC w a b c va kv lcl need co vo D) (h2 : IrE (b + 3) x va kv lcl need co vo E) (c1 : co b = 16) (c2 : co (b + 1) = if w = true then 1 else 0) (c3 : co (b + 2) = nI c) : IrC w a x c va kv lcl need co vo (dEi w D E) := fun d g F0 ci Z R om T P Pb F sg env rem loc FC FN ha hv gc hN gv hNv X => by
  have R1 := h1 d g F0 ci Z R om T P Pb F sg env rem loc FC FN (by omega) (by omega) (fun j q1 q2 => gc j q1 (by omega)) (by omega) gv hNv X
  have k1 : cSp ci (b - cBa ci) = 16 := (gc b hab (by omega)).trans c1
  have k2 : cSp ci (b - cBa ci + 1) = if w = true then 1 else 0 := by rw [show b - cBa ci + 1 = b + 1 - cBa ci by omega]; exact (gc (b + 1) (by omega) (by omega)).trans c2
  have k3 : cSp ci (b - cBa ci + 2) = nI c := by rw [show b - cBa ci + 2 = b + 2 - cBa ci by omega]; exact (gc (b + 2) (by omega) (by omega)).trans c3
  by_cases q : (D env loc sg).2.1 = 0
  · obtain ⟨k, Z', R', om', pc, h0, a1, a2, a3, a4, a5, a6, a7, a8⟩ := R1.2.1 q
    have N := X.next (m := 0) R1.1 a3 a4 a5 a6 a7 (Nat.zero_le _)
    obtain ⟨x1, x2, x3, x4, x5, x6, x7, x8, x9, x10, x11, x12, x13, x14, x15, x16, x17⟩ := N
    by_cases q2 : decide (s_Cell_isTrue (D env loc sg).2.2.1 (D env loc sg).2.2.2 = 0) = w
    · have e : dEi w D E env loc sg = D env loc sg := by
        unfold dEi
        rw [if_pos q, if_pos q2]
      rw [e]
      refine ⟨R1.1, fun _ => ?_, fun h => absurd q h⟩
      rcases h0 with h0 | h0
      · subst h0
        have ec := one_16 (d := d + 7) (us := g.2.1) (b := g.2.2.2.1) (sk := Z'.1) (pk := Z'.2.1) (g0 := Z'.2.2.1) (hk := Z'.2.2.2.1) (cu := Z'.2.2.2.2.1) (bk := Z'.2.2.2.2.2.1) (bs := Z'.2.2.2.2.2.2.1) (ob := Z'.2.2.2.2.2.2.2) (R := R') (om := om') (P := nI P) (fu := nI F0) (u := nI (D env loc sg).1.2.2) (t := T) x1 x4 (by omega) x5 (show b - cBa ci + 2 < cNs ci by omega) k1 k2 k3 (by omega) (by omega)
        rw [if_pos ((decide_eq_decide.mpr a8.true).symm.trans q2)] at ec
        exact ⟨k + 1, Z', R', om', _, Or.inr ⟨rfl, q2⟩, a1.trans (goR_1 ec), by omega, a3, a4, a5, a6, a7, a8⟩
      · exact ⟨k, Z', R', om', pc, Or.inr h0, a1, by omega, a3, a4, a5, a6, a7, a8⟩
    · have e : dEi w D E env loc sg = E env loc (D env loc sg).1 := by
        unfold dEi
        rw [if_pos q, if_neg q2]
      rw [e]
      have h0' : pc = b - cBa ci := h0.resolve_right (fun h => q2 h.2)
      subst h0'
      have ec := one_16 (d := d + 7) (us := g.2.1) (b := g.2.2.2.1) (sk := Z'.1) (pk := Z'.2.1) (g0 := Z'.2.2.1) (hk := Z'.2.2.2.1) (cu := Z'.2.2.2.2.1) (bk := Z'.2.2.2.2.2.1) (bs := Z'.2.2.2.2.2.2.1) (ob := Z'.2.2.2.2.2.2.2) (R := R') (om := om') (P := nI P) (fu := nI F0) (u := nI (D env loc sg).1.2.2) (t := T) x1 x4 (by omega) x5 (show b - cBa ci + 2 < cNs ci by omega) k1 k2 k3 (by omega) (by omega)
      rw [if_neg (fun h => q2 ((decide_eq_decide.mpr a8.true).trans h)), show b - cBa ci + 3 = b + 3 - cBa ci by omega] at ec
      have R2 := h2 d g F0 ci Z' R' om' T P Pb F (D env loc sg).1 env rem loc FC FN (by omega) (by omega) (fun j q1 q2 => gc j (by omega) q2) hN gv hNv (X.next (m := 0) R1.1 a3 a4 a5 a6 a7 (Nat.zero_le _))
      have g1 := R1.1.1
      have g2 : (D env loc sg).1.2.2 ≤ (E env loc (D env loc sg).1).1.2.2 := R2.1.1
      refine ⟨R1.1.trans R2.1, fun h => ?_, fun h => ?_⟩
      · obtain ⟨k', Z2, R2', om2, b1, b2, b3, b4, b5, b6, b7, vs, b8, b9⟩ := R2.2.1 h
        have b2' : k' ≤ x - (b + 3) + 8192 * ((E env loc (D env loc sg).1).1.2.2 - (D env loc sg).1.2.2) := b2
        have h9 := b9 0 (by decide)
        have b8' : vs 0 = (E env loc (D env loc sg).1).2.2 := b8
        rw [b8'] at h9
        exact ⟨k + 1 + k', Z2, R2', om2, _, Or.inl rfl, (a1.trans (goR_1 ec)).trans b1, by omega, a3.trans b3 (Nat.le_refl _) (Nat.le_refl _) (Nat.le_refl _), a4.trans b4, b5, b6, b7, h9⟩
      · obtain ⟨k', s', b1, b2, b3⟩ := R2.2.2 h
        have b2' : k' ≤ x - (b + 3) + 8192 * ((E env loc (D env loc sg).1).1.2.2 - (D env loc sg).1.2.2) := b2
        exact ⟨k + 1 + k', s', (a1.trans (goR_1 ec)).en b1, by omega, b3⟩
  · have e : dEi w D E env loc sg = D env loc sg := by
      unfold dEi
      rw [if_neg q]
    rw [e]
    refine ⟨R1.1, fun h => absurd h q, fun h => ?_⟩
    obtain ⟨k, s', a1, a2, a3⟩ := R1.2.2 h
    exact ⟨k, s', a1, by omega, a3⟩
end
