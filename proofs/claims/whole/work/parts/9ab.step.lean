/-! the Machine's memory as one tuple -/
abbrev MY : Type := Nat × Nat × (Nat → am_C) × Nat × Nat × Nat × (Nat → Int64) × (Nat → Int64) × (Nat → Value) × (Nat → Int32) × (Nat → Int32) × Int64 × Int64
abbrev yN (Y : MY) : Nat := Y.2.2.2.2.2.1
abbrev yV (Y : MY) (j : Nat) : V2 := (Y.2.2.2.2.2.2.1 j, Y.2.2.2.2.2.2.2.1 j)
abbrev mh (r : Nat) (fu : Int32) (Y : MY) (T B u pc cl : Nat) (S : SC) (O : oS) (tk : Nat) (er dn : Int32) : HS := (Y.1, WW Y.2.2.1 Y.2.2.2.1 Y.2.2.2.2.1 Y.2.2.2.2.2.1 Y.2.2.2.2.2.2.1 Y.2.2.2.2.2.2.2.1 Y.2.2.2.2.2.2.2.2.1 Y.2.2.2.2.2.2.2.2.2.1 Y.2.2.2.2.2.2.2.2.2.2.1 r S O fu (nI T) (nI B) u (nI pc) (nI cl) (nI tk) er dn Y.2.2.2.2.2.2.2.2.2.2.2.1 Y.2.2.2.2.2.2.2.2.2.2.2.2, Y.2.1)
def yG (r : Nat) (Y Z : MY) : Prop := GM r Y.1 Y.2.1 Y.2.2.1 Y.2.2.2.1 Y.2.2.2.2.1 Y.2.2.2.2.2.1 Z.1 Z.2.1 Z.2.2.1 Z.2.2.2.1 Z.2.2.2.2.1 Z.2.2.2.2.2.1
/-- Z is Y grown, with what lies below T and below call c as it was -/
def yX (r T c : Nat) (Y Z : MY) : Prop := yG r Y Z ∧ (∀ j, j < T → yV Z j = yV Y j) ∧ (∀ j, j < c → Z.2.2.2.2.2.2.2.2.1 j = Y.2.2.2.2.2.2.2.2.1 j ∧ Z.2.2.2.2.2.2.2.2.2.1 j = Y.2.2.2.2.2.2.2.2.2.1 j ∧ Z.2.2.2.2.2.2.2.2.2.2.1 j = Y.2.2.2.2.2.2.2.2.2.2.1 j)
def yW (r T : Nat) (Y : MY) : Prop := DW Y.1 Y.2.2.2.1 Y.2.2.2.2.1 r ∧ 64 ≤ Y.2.2.2.2.2.1 ∧ Y.2.2.2.2.2.1 ≤ 16384 ∧ T ≤ Y.2.2.2.2.2.1
def yO (r : Nat) (Y : MY) (x : Nat) : Prop := 1311 ≤ x ∧ x < Y.1 ∧ x ≠ Y.2.2.2.1 ∧ x ≠ Y.2.2.2.2.1 ∧ (x < r ∨ r + 7 < x)
def UU (r : Nat) (Y : MY) (u L : Nat) (co : Nat → Int32) (K : Nat) (po : Nat → Int64) (nm : Int64) (ps lc tn : Nat) : Prop := ∃ c p : Nat, Y.2.2.1 u = .inr (4, [.long nm, .int (nI ps), .int (nI lc), .int (nI tn), .ref c, .ref p]) ∧ Y.2.2.1 c = .inl (.int, L, fun j => .int (co j)) ∧ Y.2.2.1 p = .inl (.long, K, fun j => .long (po j)) ∧ yO r Y u ∧ yO r Y c ∧ yO r Y p ∧ L < 2 ^ 20 ∧ K < 2 ^ 20
section
variable {r T c c' T' d u L K : Nat} {Y Z A : MY} {co : Nat → Int32} {po : Nat → Int64} {nm : Int64} {ps lc tn : Nat} {fu er dn : Int32} {B pc cl tk : Nat} {S : SC} {O : oS} {u' : Nat}
theorem yX.rfl' (h : DW Y.1 Y.2.2.2.1 Y.2.2.2.2.1 r) : yX r T c Y Y := ⟨GM.rfl' h, fun _ _ => rfl, fun _ _ => ⟨rfl, rfl, rfl⟩⟩
theorem yX.trans (h : yX r T c Y Z) (g : yX r T' c' Z A) (ht : T ≤ T') (hc : c ≤ c') : yX r T c Y A := ⟨h.1.trans g.1, fun j hj => (g.2.1 j (by omega)).trans (h.2.1 j hj), fun j hj => ⟨(g.2.2 j (by omega)).1.trans (h.2.2 j hj).1, (g.2.2 j (by omega)).2.1.trans (h.2.2 j hj).2.1, (g.2.2 j (by omega)).2.2.trans (h.2.2 j hj).2.2⟩⟩
theorem yX.less (h : yX r T c Y Z) (ht : T' ≤ T) (hc : c' ≤ c) : yX r T' c' Y Z := ⟨h.1, fun j hj => h.2.1 j (by omega), fun j hj => h.2.2 j (by omega)⟩
theorem yO.grow {x : Nat} (h : yO r Y x) (g : yG r Y Z) : yO r Z x := by
  obtain ⟨g1, g2, g3, g4, _⟩ := g
  obtain ⟨h1, h2, h3, h4, h5⟩ := h
  exact ⟨h1, by omega, by omega, by omega, h5⟩
theorem yO.same {x : Nat} (h : yO r Y x) (g : yG r Y Z) : Z.2.2.1 x = Y.2.2.1 x := g.2.2.2.2.1 x h.2.1 h.2.2.1 h.2.2.2.1
theorem UU.grow (h : UU r Y u L co K po nm ps lc tn) (g : yG r Y Z) : UU r Z u L co K po nm ps lc tn := by
  obtain ⟨c, p, h1, h2, h3, h4, h5, h6, h7⟩ := h
  exact ⟨c, p, (h4.same g).trans h1, (h5.same g).trans h2, (h6.same g).trans h3, h4.grow g, h5.grow g, h6.grow g, h7⟩
theorem yO.at_ {x : Nat} (D : DW Y.1 Y.2.2.2.1 Y.2.2.2.2.1 r) (h : yO r Y x) {mf : List Value} {hd tl : Nat → Int64} {cu : Nat → Value} {cn cb : Nat → Int32} : WK Y.2.2.1 mf Y.2.2.2.1 Y.2.2.2.2.1 Y.2.2.2.2.2.1 hd tl cu cn cb r S O x = Y.2.2.1 x := by
  obtain ⟨h1, h2, h3, h4, h5⟩ := h
  exact W_off D (by omega) h3 h4 (by omega) (by omega) (by omega) (by omega) (by omega) h5
theorem u_op (D : DW Y.1 Y.2.2.2.1 Y.2.2.2.2.1 r) (U : UU r Y u L co K po nm ps lc tn) {x : Nat} (hx : 2 * x < L) : x_Unit_op d u (nI x) (mh r fu Y T B u' pc cl S O tk er dn) = some (co (2 * x), mh r fu Y T B u' pc cl S O tk er dn) := by
  obtain ⟨c, p, h1, h2, h3, h4, h5, h6, h7, h8⟩ := U
  have e2 : (2 : Int32) * nI x = nI (2 * x) := nI_mul 2 x
  have b := cl0 (show 2 * x < 2 ^ 31 by omega)
  have k1 := (show (mh r fu Y T B u' pc cl S O tk er dn).2.1 u = Y.2.2.1 u from yO.at_ D h4).trans h1
  have k2 := (show (mh r fu Y T B u' pc cl S O tk er dn).2.1 c = Y.2.2.1 c from yO.at_ D h5).trans h2
  have m1 : 128 ≤ u := by have := h4.1; omega
  have m2 : 128 ≤ c := by have := h5.1; omega
  unfold x_Unit_op
  rw [e2, gd_of (s := mh r fu Y T B u' pc cl S O tk er dn) k1 m1 h4.2.1, if_neg b.1, gR_of (s := mh r fu Y T B u' pc cl S O tk er dn) (k := 4) (x := c) k1 m1 h4.2.1 rfl, Option.bind_some, lenA_of (s := mh r fu Y T B u' pc cl S O tk er dn) k2 (by decide) m2 h5.2.1, Option.bind_some, if_neg (nI_ge hx (by omega)), Option.bind_some, aI_of (s := mh r fu Y T B u' pc cl S O tk er dn) k2 m2 h5.2.1 b.1 (by rw [b.2]; exact hx), Option.bind_some, b.2]
theorem u_ar (D : DW Y.1 Y.2.2.2.1 Y.2.2.2.2.1 r) (U : UU r Y u L co K po nm ps lc tn) {x : Nat} (hx : 2 * x + 1 < L) : x_Unit_argument d u (nI x) (mh r fu Y T B u' pc cl S O tk er dn) = some (co (2 * x + 1), mh r fu Y T B u' pc cl S O tk er dn) := by
  obtain ⟨c, p, h1, h2, h3, h4, h5, h6, h7, h8⟩ := U
  have e2 : (2 : Int32) * nI x + 1 = nI (2 * x + 1) := by rw [nI_succ]; exact congrArg (· + 1) (nI_mul 2 x)
  have b := cl0 (show 2 * x + 1 < 2 ^ 31 by omega)
  have k1 := (show (mh r fu Y T B u' pc cl S O tk er dn).2.1 u = Y.2.2.1 u from yO.at_ D h4).trans h1
  have k2 := (show (mh r fu Y T B u' pc cl S O tk er dn).2.1 c = Y.2.2.1 c from yO.at_ D h5).trans h2
  have m1 : 128 ≤ u := by have := h4.1; omega
  have m2 : 128 ≤ c := by have := h5.1; omega
  unfold x_Unit_argument
  rw [e2, gd_of (s := mh r fu Y T B u' pc cl S O tk er dn) k1 m1 h4.2.1, if_neg (show ¬ nI (2 * x + 1) < 1 from nI_nlt (b := 1) (by omega) (by omega)), gR_of (s := mh r fu Y T B u' pc cl S O tk er dn) (k := 4) (x := c) k1 m1 h4.2.1 rfl, Option.bind_some, lenA_of (s := mh r fu Y T B u' pc cl S O tk er dn) k2 (by decide) m2 h5.2.1, Option.bind_some, if_neg (nI_ge hx (by omega)), Option.bind_some, aI_of (s := mh r fu Y T B u' pc cl S O tk er dn) k2 m2 h5.2.1 b.1 (by rw [b.2]; exact hx), Option.bind_some, b.2]
theorem u_ct (D : DW Y.1 Y.2.2.2.1 Y.2.2.2.2.1 r) (U : UU r Y u L co K po nm ps lc tn) {x : Nat} (hx : x < K) : x_Unit_constant d u (nI x) (mh r fu Y T B u' pc cl S O tk er dn) = some (po x, mh r fu Y T B u' pc cl S O tk er dn) := by
  obtain ⟨c, p, h1, h2, h3, h4, h5, h6, h7, h8⟩ := U
  have b := cl0 (show x < 2 ^ 31 by omega)
  have k1 := (show (mh r fu Y T B u' pc cl S O tk er dn).2.1 u = Y.2.2.1 u from yO.at_ D h4).trans h1
  have k2 := (show (mh r fu Y T B u' pc cl S O tk er dn).2.1 p = Y.2.2.1 p from yO.at_ D h6).trans h3
  have m1 : 128 ≤ u := by have := h4.1; omega
  have m2 : 128 ≤ p := by have := h6.1; omega
  unfold x_Unit_constant
  rw [gd_of (s := mh r fu Y T B u' pc cl S O tk er dn) k1 m1 h4.2.1, if_neg b.1, gR_of (s := mh r fu Y T B u' pc cl S O tk er dn) (k := 5) (x := p) k1 m1 h4.2.1 rfl, Option.bind_some, lenA_of (s := mh r fu Y T B u' pc cl S O tk er dn) k2 (by decide) m2 h6.2.1, Option.bind_some, if_neg (nI_ge hx (by omega)), Option.bind_some, aL_of (s := mh r fu Y T B u' pc cl S O tk er dn) k2 m2 h6.2.1 b.1 (by rw [b.2]; exact hx), Option.bind_some, b.2]
theorem u_nm (D : DW Y.1 Y.2.2.2.1 Y.2.2.2.2.1 r) (U : UU r Y u L co K po nm ps lc tn) : x_Unit_names d u (mh r fu Y T B u' pc cl S O tk er dn) = some (nI ps, mh r fu Y T B u' pc cl S O tk er dn) := by
  obtain ⟨c, p, h1, h2, h3, h4, h5, h6, h7, h8⟩ := U
  have k1 := (show (mh r fu Y T B u' pc cl S O tk er dn).2.1 u = Y.2.2.1 u from yO.at_ D h4).trans h1
  have m1 : 128 ≤ u := by have := h4.1; omega
  unfold x_Unit_names
  rw [gd_of (s := mh r fu Y T B u' pc cl S O tk er dn) k1 m1 h4.2.1, gI_of (s := mh r fu Y T B u' pc cl S O tk er dn) (k := 1) (x := nI ps) k1 m1 h4.2.1 rfl, Option.bind_some]
theorem u_lc (D : DW Y.1 Y.2.2.2.1 Y.2.2.2.2.1 r) (U : UU r Y u L co K po nm ps lc tn) : x_Unit_locals d u (mh r fu Y T B u' pc cl S O tk er dn) = some (nI lc, mh r fu Y T B u' pc cl S O tk er dn) := by
  obtain ⟨c, p, h1, h2, h3, h4, h5, h6, h7, h8⟩ := U
  have k1 := (show (mh r fu Y T B u' pc cl S O tk er dn).2.1 u = Y.2.2.1 u from yO.at_ D h4).trans h1
  have m1 : 128 ≤ u := by have := h4.1; omega
  unfold x_Unit_locals
  rw [gd_of (s := mh r fu Y T B u' pc cl S O tk er dn) k1 m1 h4.2.1, gI_of (s := mh r fu Y T B u' pc cl S O tk er dn) (k := 2) (x := nI lc) k1 m1 h4.2.1 rfl, Option.bind_some]
theorem u_na (D : DW Y.1 Y.2.2.2.1 Y.2.2.2.2.1 r) (U : UU r Y u L co K po nm ps lc tn) : x_Unit_name d u (mh r fu Y T B u' pc cl S O tk er dn) = some (nm, mh r fu Y T B u' pc cl S O tk er dn) := by
  obtain ⟨c, p, h1, h2, h3, h4, h5, h6, h7, h8⟩ := U
  have k1 := (show (mh r fu Y T B u' pc cl S O tk er dn).2.1 u = Y.2.2.1 u from yO.at_ D h4).trans h1
  have m1 : 128 ≤ u := by have := h4.1; omega
  unfold x_Unit_name
  rw [gd_of (s := mh r fu Y T B u' pc cl S O tk er dn) k1 m1 h4.2.1, gL_of (s := mh r fu Y T B u' pc cl S O tk er dn) (k := 0) (x := nm) k1 m1 h4.2.1 rfl, Option.bind_some]
theorem u_io (D : DW Y.1 Y.2.2.2.1 Y.2.2.2.2.1 r) (U : UU r Y u L co K po nm ps lc tn) : isO (mh r fu Y T B u' pc cl S O tk er dn) u 4 = true := by
  obtain ⟨c, p, h1, h2, h3, h4, h5, h6, h7, h8⟩ := U
  have k1 := (show (mh r fu Y T B u' pc cl S O tk er dn).2.1 u = Y.2.2.1 u from yO.at_ D h4).trans h1
  have m1 : 128 ≤ u := by have := h4.1; omega
  exact isO_of (s := mh r fu Y T B u' pc cl S O tk er dn) k1 m1 h4.2.1
end
/-! steps of the loop -/
def pfB (d : Nat) : (Int32 × HS → Option (Int32 × HS)) → Int32 × HS → Option (Int32 × HS) := (fun (again50 : Int32 × HS → Option (Int32 × HS)) (z50 : Int32 × HS) => (if 100000000 ≤ z50.1 then ((gI z50.2 148 6 14).bind fun v11 => (some (v11, z50.2))) else ((gI z50.2 148 6 15).bind fun v12 => (if v12 = 0 then ((gR z50.2 148 6 4).bind fun v13 => ((gR z50.2 148 6 4).bind fun v14 => ((gI z50.2 148 6 5).bind fun v15 => (bnd (x_Unit_op d v14 v15 z50.2) fun v17 s16 => ((gR s16 148 6 4).bind fun v18 => ((gI s16 148 6 5).bind fun v19 => (bnd (x_Unit_argument d v18 v19 s16) fun v21 s20 => ((gI s20 148 6 5).bind fun v22 => ((pV s20 148 6 5 (.int (v22 + 1))).bind fun s23 => (if 9 < v17 then (if 12 < v17 then (if 20 < v17 then (if 25 < v17 then (bnd (x_Mach_doReckoning d 148 v17 s23) fun v25 s24 => (again50 ((z50.1 + 1), s24))) else (bnd (x_Mach_doObject d 148 v17 v21 s23) fun v27 s26 => (again50 ((z50.1 + 1), s26)))) else (bnd (x_Mach_doPlace d 148 v17 v21 s23) fun v29 s28 => (again50 ((z50.1 + 1), s28)))) else (bnd (x_Mach_doConstant d 148 v17 v21 s23) fun v31 s30 => (again50 ((z50.1 + 1), s30)))) else (bnd (x_Mach_doFlow d 148 v17 v21 s23) fun v33 s32 => (again50 ((z50.1 + 1), s32))))))))))))) else ((gI z50.2 148 6 14).bind fun v34 => (some (v34, z50.2)))))))
def Go (d k : Nat) (s s' : HS) : Prop := ∀ M i : Nat, i + k ≤ 100000000 → loopK (pfB (d + 8)) (M + k) (nI i, s) = loopK (pfB (d + 8)) M (nI (i + k), s')
section
variable {d k k' : Nat} {s s1 s2 : HS}
theorem Go.rfl' : Go d 0 s s := fun _ _ _ => rfl
theorem Go.trans (a : Go d k s s1) (b : Go d k' s1 s2) : Go d (k + k') s s2 := fun M i h => by
  have e1 := a (M + k') i (by omega)
  have e2 := b M (i + k) (by omega)
  rw [show M + (k + k') = M + k' + k by omega, e1, e2, show i + k + k' = i + (k + k') by omega]
end
section
variable {r T c c' T' d u L K : Nat} {Y Z A : MY} {co : Nat → Int32} {po : Nat → Int64} {nm : Int64} {ps lc tn : Nat} {fu er dn : Int32} {B pc cl tk : Nat} {S : SC} {O : oS} {u' : Nat} {s' : HS}
theorem go_run (D : DW Y.1 Y.2.2.2.1 Y.2.2.2.2.1 r) (U : UU r Y u L co K po nm ps lc tn) (hp : 2 * pc + 1 < L) (again : Int32 × HS → Option (Int32 × HS)) {i : Nat} (hi : i < 100000000) : pfB d again (nI i, mh r fu Y T B u pc cl S O tk er 0) = (if 9 < co (2 * pc) then (if 12 < co (2 * pc) then (if 20 < co (2 * pc) then (if 25 < co (2 * pc) then (bnd (x_Mach_doReckoning d 148 (co (2 * pc)) (mh r fu Y T B u (pc + 1) cl S O tk er 0)) fun _ s24 => (again ((nI i + 1), s24))) else (bnd (x_Mach_doObject d 148 (co (2 * pc)) (co (2 * pc + 1)) (mh r fu Y T B u (pc + 1) cl S O tk er 0)) fun _ s26 => (again ((nI i + 1), s26)))) else (bnd (x_Mach_doPlace d 148 (co (2 * pc)) (co (2 * pc + 1)) (mh r fu Y T B u (pc + 1) cl S O tk er 0)) fun _ s28 => (again ((nI i + 1), s28)))) else (bnd (x_Mach_doConstant d 148 (co (2 * pc)) (co (2 * pc + 1)) (mh r fu Y T B u (pc + 1) cl S O tk er 0)) fun _ s30 => (again ((nI i + 1), s30)))) else (bnd (x_Mach_doFlow d 148 (co (2 * pc)) (co (2 * pc + 1)) (mh r fu Y T B u (pc + 1) cl S O tk er 0)) fun _ s32 => (again ((nI i + 1), s32)))) := by
  unfold pfB
  dsimp only
  rw [if_neg (show ¬ (100000000 : Int32) ≤ nI i from nI_ge (b := 100000000) hi (by decide)), m_g15 D, Option.bind_some, if_pos rfl, m_g4 D, Option.bind_some, Option.bind_some, m_g5 D, Option.bind_some, u_op D U (by omega), bnd_some, m_g4 D, Option.bind_some, m_g5 D, Option.bind_some, u_ar D U hp, bnd_some, m_g5 D, Option.bind_some, m_p5 D, Option.bind_some, ← nI_succ]
theorem go_flow (D : DW Y.1 Y.2.2.2.1 Y.2.2.2.2.1 r) (U : UU r Y u L co K po nm ps lc tn) (hp : 2 * pc + 1 < L) {op x : Int32} (h1 : co (2 * pc) = op) (h2 : co (2 * pc + 1) = x) (q9 : ¬ 9 < op) (h : x_Mach_doFlow (d + 8) 148 op x (mh r fu Y T B u (pc + 1) cl S O tk er 0) = some ((), s')) : Go d 1 (mh r fu Y T B u pc cl S O tk er 0) s' := fun M i hi => by
  rw [loopK_succ, go_run D U hp _ (by omega), h1, h2, if_neg q9, h, bnd_some, ← nI_succ]
theorem go_const (D : DW Y.1 Y.2.2.2.1 Y.2.2.2.2.1 r) (U : UU r Y u L co K po nm ps lc tn) (hp : 2 * pc + 1 < L) {op x : Int32} (h1 : co (2 * pc) = op) (h2 : co (2 * pc + 1) = x) (q9 : 9 < op) (q12 : ¬ 12 < op) (h : x_Mach_doConstant (d + 8) 148 op x (mh r fu Y T B u (pc + 1) cl S O tk er 0) = some ((), s')) : Go d 1 (mh r fu Y T B u pc cl S O tk er 0) s' := fun M i hi => by
  rw [loopK_succ, go_run D U hp _ (by omega), h1, h2, if_pos q9, if_neg q12, h, bnd_some, ← nI_succ]
theorem go_place (D : DW Y.1 Y.2.2.2.1 Y.2.2.2.2.1 r) (U : UU r Y u L co K po nm ps lc tn) (hp : 2 * pc + 1 < L) {op x : Int32} (h1 : co (2 * pc) = op) (h2 : co (2 * pc + 1) = x) (q9 : 9 < op) (q12 : 12 < op) (q20 : ¬ 20 < op) (h : x_Mach_doPlace (d + 8) 148 op x (mh r fu Y T B u (pc + 1) cl S O tk er 0) = some ((), s')) : Go d 1 (mh r fu Y T B u pc cl S O tk er 0) s' := fun M i hi => by
  rw [loopK_succ, go_run D U hp _ (by omega), h1, h2, if_pos q9, if_pos q12, if_neg q20, h, bnd_some, ← nI_succ]
theorem go_object (D : DW Y.1 Y.2.2.2.1 Y.2.2.2.2.1 r) (U : UU r Y u L co K po nm ps lc tn) (hp : 2 * pc + 1 < L) {op x : Int32} (h1 : co (2 * pc) = op) (h2 : co (2 * pc + 1) = x) (q9 : 9 < op) (q12 : 12 < op) (q20 : 20 < op) (q25 : ¬ 25 < op) (h : x_Mach_doObject (d + 8) 148 op x (mh r fu Y T B u (pc + 1) cl S O tk er 0) = some ((), s')) : Go d 1 (mh r fu Y T B u pc cl S O tk er 0) s' := fun M i hi => by
  rw [loopK_succ, go_run D U hp _ (by omega), h1, h2, if_pos q9, if_pos q12, if_pos q20, if_neg q25, h, bnd_some, ← nI_succ]
theorem go_reck (D : DW Y.1 Y.2.2.2.1 Y.2.2.2.2.1 r) (U : UU r Y u L co K po nm ps lc tn) (hp : 2 * pc + 1 < L) {op x : Int32} (h1 : co (2 * pc) = op) (h2 : co (2 * pc + 1) = x) (q9 : 9 < op) (q12 : 12 < op) (q20 : 20 < op) (q25 : 25 < op) (h : x_Mach_doReckoning (d + 8) 148 op (mh r fu Y T B u (pc + 1) cl S O tk er 0) = some ((), s')) : Go d 1 (mh r fu Y T B u pc cl S O tk er 0) s' := fun M i hi => by
  rw [loopK_succ, go_run D U hp _ (by omega), h1, h2, if_pos q9, if_pos q12, if_pos q20, if_pos q25, h, bnd_some, ← nI_succ]
end
