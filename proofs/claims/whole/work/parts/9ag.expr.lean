/-! the other phrases of an expression -/
section
variable {r T d u L K : Nat} {Y Z : MY} {co : Nat → Int32} {po : Nat → Int64} {nm : Int64} {ps lc tn : Nat} {fu : Int32} {B pc cl tk : Nat} {S : SC} {O : oS}
theorem g_keep {w : Bool} {c : Nat} (W : yW r (T + 1) Y) (U : UU r Y u L co K po nm ps lc tn) (hp : 2 * pc + 1 < L) (h1 : co (2 * pc) = if w = true then 4 else 3) (h2 : co (2 * pc + 1) = nI c) : (decide (s_Cell_isTrue (yV Y T).1 (yV Y T).2 = 0) = w → Go d 1 (mh r fu Y (T + 1) B u pc cl S O tk 0 0) (mh r fu Y (T + 1) B u c cl S O tk 0 0)) ∧ (¬ decide (s_Cell_isTrue (yV Y T).1 (yV Y T).2 = 0) = w → Go d 1 (mh r fu Y (T + 1) B u pc cl S O tk 0 0) (mh r fu Y T B u (pc + 1) cl S O tk 0 0)) := by
  have hN := W.2.2.1
  have hN0 := W.2.1
  have hT := W.2.2.2
  cases w
  · have k : x_Mach_doFlow (d + 8) 148 3 (nI c) (mh r fu Y (T + 1) B u (pc + 1) cl S O tk 0 0) = _ := o_keepIf W.1 hN (by omega) hT
    have h1' := h1.trans (if_neg Bool.false_ne_true)
    refine ⟨fun q => go_flow W.1 U hp h1' h2 (by decide) (k.trans (if_neg (of_decide_eq_false q))), fun q => go_flow W.1 U hp h1' h2 (by decide) (k.trans (if_pos ?_))⟩
    by_cases c : s_Cell_isTrue (yV Y T).1 (yV Y T).2 = 0
    · exact c
    · exact absurd (decide_eq_false c) q
  · have k : x_Mach_doFlow (d + 8) 148 4 (nI c) (mh r fu Y (T + 1) B u (pc + 1) cl S O tk 0 0) = _ := o_keepUn W.1 hN (by omega) hT
    have h1' := h1.trans (if_pos rfl)
    refine ⟨fun q => go_flow W.1 U hp h1' h2 (by decide) (k.trans (if_pos (of_decide_eq_true q))), fun q => go_flow W.1 U hp h1' h2 (by decide) (k.trans (if_neg ?_))⟩
    intro c
    exact q (decide_eq_true c)
theorem g_call {p m : Nat} {y : Int64} {s' : HS} (W : yW r T Y) (U : UU r Y u L co K po nm ps lc tn) (hp : p + 1 < K) (p1 : po p = y) (p2 : po (p + 1) = (nI m).toInt64) (h : x_Mach_call (d + 7) 148 y (nI m) (mh r fu Y T B u pc cl S O tk 0 0) = some ((), s')) : x_Mach_doFlow (d + 8) 148 5 (nI p) (mh r fu Y T B u pc cl S O tk 0 0) = some ((), s') := by
  have hN := W.2.2.1
  have hN0 := W.2.1
  have hT := W.2.2.2
  have hT1 : T - 1 < Y.2.2.2.2.2.1 := by omega
  have hNN : Y.2.2.2.2.2.1 < 2 ^ 31 := by omega
  unfold x_Mach_doFlow
  dsimp only
  rw [m_gd0 W.1, k_bY1 W, bnd_some, m_g0 W.1, Option.bind_some, w_aH W.1 hNN hT1, Option.bind_some, m_g1 W.1, Option.bind_some, w_aT W.1 hNN hT1, Option.bind_some, e_Cell_isTrue, bnd_some, if_neg (show ¬ (5 : Int32) = 0 by decide), if_neg (show ¬ (5 : Int32) = 1 by decide), if_neg (show ¬ (5 : Int32) = 2 by decide), if_neg (show ¬ (5 : Int32) = 3 by decide), if_neg (show ¬ (5 : Int32) = 4 by decide), if_pos rfl]
  rw [m_g4 W.1, Option.bind_some, u_ct W.1 U (by omega), bnd_some, m_g4 W.1, Option.bind_some, ← nI_succ, u_ct W.1 U hp, bnd_some, p1, p2, Int32.toInt32_toInt64, h, bnd_some]
end
section
variable {d r F T B u b c cl k0 k1 k2 m m1 m2 rem lcl need need' lcl' a kp kp' : Nat} {Y Z : MY} {s0 s1 : HS} {sg sg1 sg2 : Sg} {e e1 : Int32} {FI : Nat → UI} {env : Env} {loc : Nat → V2} {co co' : Nat → Int32} {po po' : Nat → Int64} {PV PW : (Nat → V2) → Prop}
theorem RunP.pre (g : Go d k1 s0 s1) (h : RunP d r F Y T B u b cl s1 k0 m sg sg1 e PV) : RunP d r F Y T B u b cl s0 (k1 + k0) m sg sg1 e PV := by
  refine ⟨h.1, fun q => ?_, fun q => ?_⟩
  · obtain ⟨k, Z, a1, a2, a3, a4, a5⟩ := h.2.1 q
    exact ⟨k1 + k, Z, g.trans a1, by omega, a3, a4, a5⟩
  · obtain ⟨k, s', a1, a2, a3⟩ := h.2.2 q
    exact ⟨k1 + k, s', g.trans a1, by omega, a3⟩
theorem RunP.go (g : Go d k1 s0 (mh r (nI F) Z (T + m) B u b cl sg.1 sg.2.1 sg.2.2 0 0)) (x : yX r T cl Y Z) (I : SI sg.1) (O : oW sg.2.1) (hF : sg.2.2 ≤ F) (p : PV (fun i => yV Z (T + i))) (W : yW r (T + m) Z) : RunP d r F Y T B u b cl s0 k1 m sg sg 0 PV := ⟨⟨SJ.rfl' I, O, Nat.le_refl _, hF, by decide⟩, fun _ => ⟨k1, Z, g, by omega, x, p, W⟩, fun q => absurd rfl q⟩
theorem RunP.yS {out : Option (Unit × HS)} {res : RV} (g : ∀ s', out = some ((), s') → Go d 1 s0 s') (y : yS1 r (nI F) Y T B u b cl sg.2.1 sg.2.2 out res) (J : SJ sg.1 res.1) (O : oW sg.2.1) (hF : sg.2.2 ≤ F) (h11 : ¬ res.2.1 = 11) : RunP d r F Y T B u b cl s0 1 1 sg (res.1, sg.2) res.2.1 (fun z => z 0 = res.2.2) := by
  refine ⟨⟨J, O, Nat.le_refl _, hF, h11⟩, fun q => ?_, fun q => ?_⟩
  · obtain ⟨A, y1, y2, y3, y4⟩ := y.1 q
    exact ⟨1, A, g _ y1, by omega, y2, y3, y4⟩
  · obtain ⟨s', y1, y2⟩ := y.2 q
    exact ⟨1, s', g _ y1, by omega, y2⟩
theorem ImE_loc {i : Nat} (hi : i < lcl) (hn : 1 ≤ need) (c1 : co (2 * a) = 13) (c2 : co (2 * a + 1) = nI i) : ImE a (a + 1) lcl need kp co po (dLoc i) := fun cu pu g1 g2 d r F Y T B u L K nm ps lc tn cl sg FI env rem loc U hL hK X => by
  obtain ⟨x1, x2, x3, x4, x5, x6, x7, x8, x9, x10, x11, x12⟩ := X
  rw [show a + 1 - a = 1 by omega]
  have y := c_loadL (d := d) (r := r) (fu := nI F) (u := u) (pc := a + 1) (cl := cl) (O := sg.2.1) (tk := sg.2.2) (S := sg.1) x3 (by omega) (show B + i < T by omega)
  have R := RunP.yS (fun s' hs => go_place x3.1 U (by omega) ((g1 _ (by omega) (by omega)).trans c1) ((g1 _ (by omega) (by omega)).trans c2) (by decide) (by decide) (by decide) hs) y (SJ.rfl' x4) x5 x7 (by show ¬ (0 : Int32) = 11; decide)
  rw [← x11 i hi] at R
  exact R
theorem dOp_nil {G : SC → (Nat → V2) → RV} : dOp G dNil = fun _ _ sg => lift (G sg.1 (fun _ => (0, 0))) sg.2 := by
  funext env loc sg
  exact if_pos rfl
def dK (v : V2) : DE := fun _ _ sg => (sg, 0, v)
def dRt (w : List Nat) : DE := dOp (fun S _ => d_root S (nC w)) dNil
theorem ImE_op0 {Fo : SC → RV} {op x : Int32} (hn : 1 ≤ need) (c1 : co (2 * a) = op) (c2 : co (2 * a + 1) = x) (hC : ∀ pu K, (∀ j, j < kp → pu j = po j) → kp ≤ K → CmO op x 0 pu K (fun S _ => Fo S)) (hJ : ∀ S, SI S → SJ S (Fo S).1) (h11 : ∀ S, ¬ (Fo S).2.1 = 11) : ImE a (a + 1) lcl need kp co po (dOp (fun S _ => Fo S) dNil) := ImE_op (D0 := asLi 0 dNil) (Nat.le_refl _) ImL_nil (fun _ _ _ => ⟨rfl, rfl, fun _ _ _ => rfl⟩) (by omega) hn c1 c2 hC (fun S _ => hJ S) (fun S _ => h11 S)
theorem ImE_const {v : V2} {op x : Int32} (hn : 1 ≤ need) (c1 : co (2 * a) = op) (c2 : co (2 * a + 1) = x) (hC : ∀ pu K, (∀ j, j < kp → pu j = po j) → kp ≤ K → CmO op x 0 pu K (fun S _ => (S, 0, v))) : ImE a (a + 1) lcl need kp co po (dK v) := by
  have h := ImE_op0 (lcl := lcl) (Fo := fun S => (S, 0, v)) hn c1 c2 hC (fun S I => SJ.rfl' I) (fun S => by show ¬ (0 : Int32) = 11; decide)
  rw [dOp_nil] at h
  exact h
theorem ImE_number {x : Int32} (hn : 1 ≤ need) (c1 : co (2 * a) = 11) (c2 : co (2 * a + 1) = x) : ImE a (a + 1) lcl need kp co po (dK (s_Cell_headOf 1, x.toInt64)) := ImE_const hn c1 c2 (fun pu K _ _ => cm_number)
theorem ImE_nil {x : Int32} (hn : 1 ≤ need) (c1 : co (2 * a) = 10) (c2 : co (2 * a + 1) = x) : ImE a (a + 1) lcl need kp co po (dK (0, 0)) := ImE_const hn c1 c2 (fun pu K _ _ => cm_nil)
theorem ImE_text {p : Nat} {v : V2} (hn : 1 ≤ need) (c1 : co (2 * a) = 12) (c2 : co (2 * a + 1) = nI p) (hp : p + 1 < kp) (p1 : po p = v.1) (p2 : po (p + 1) = v.2) : ImE a (a + 1) lcl need kp co po (dK v) := ImE_const hn c1 c2 (fun pu K g h => by
  have e1 := (g p (by omega)).trans p1
  have e2 := (g (p + 1) (by omega)).trans p2
  have q := cm_text (pu := pu) (K := K) (a := p) (by omega)
  rw [e1, e2] at q
  exact q)
theorem ImE_root {p : Nat} {w : List Nat} (hn : 1 ≤ need) (c1 : co (2 * a) = 15) (c2 : co (2 * a + 1) = nI p) (hp : p < kp) (p1 : po p = nC w) : ImE a (a + 1) lcl need kp co po (dRt w) := ImE_op0 hn c1 c2 (fun pu K g h => by
  have e1 := (g p (by omega)).trans p1
  have q := cm_root (pu := pu) (K := K) (a := p) (by omega)
  rw [e1] at q
  exact q) (fun S I => SJ.rfl' I) (fun S => by show ¬ (0 : Int32) = 11; decide)
def d1 (Fo : SC → V2 → RV) (D : DE) : DE := dOp (fun S vs => Fo S (vs 0)) (dSnoc 0 dNil D)
def d2 (Fo : SC → V2 → V2 → RV) (D E : DE) : DE := dOp (fun S vs => Fo S (vs 0) (vs 1)) (dSnoc 1 (dSnoc 0 dNil D) E)
theorem ImE_1 {Fo : SC → V2 → RV} {D : DE} {op x : Int32} (ha : a ≤ b) (hn : 1 ≤ need) (h : ImE a b lcl need kp co po D) (c1 : co (2 * b) = op) (c2 : co (2 * b + 1) = x) (hC : ∀ pu K, (∀ j, j < kp → pu j = po j) → kp ≤ K → CmO op x 1 pu K (fun S vs => Fo S (vs 0))) (hJ : ∀ S v, SI S → SJ S (Fo S v).1) (h11 : ∀ S v, ¬ (Fo S v).2.1 = 11) : ImE a (b + 1) lcl need kp co po (d1 Fo D) := ImE_op (D0 := asLi 1 (dSnoc 0 dNil D)) ha (ImL_snoc (Nat.le_refl _) ha ImL_nil h (by omega)) (fun env loc sg => ⟨rfl, rfl, fun z S hz => by show Fo S (z 0) = _; rw [hz 0 (by decide)]⟩) hn hn c1 c2 hC (fun S vs => hJ S (vs 0)) (fun S vs => h11 S (vs 0))
theorem ImE_2 {Fo : SC → V2 → V2 → RV} {D E : DE} {op x : Int32} (ha : a ≤ b) (hb : b ≤ c) (hn : 2 ≤ need) (h : ImE a b lcl need kp co po D) (h' : ImE b c lcl (need - 1) kp co po E) (c1 : co (2 * c) = op) (c2 : co (2 * c + 1) = x) (hC : ∀ pu K, (∀ j, j < kp → pu j = po j) → kp ≤ K → CmO op x 2 pu K (fun S vs => Fo S (vs 0) (vs 1))) (hJ : ∀ S v v', SI S → SJ S (Fo S v v').1) (h11 : ∀ S v v', ¬ (Fo S v v').2.1 = 11) : ImE a (c + 1) lcl need kp co po (d2 Fo D E) := ImE_op (D0 := asLi 2 (dSnoc 1 (dSnoc 0 dNil D) E)) (by omega) (ImL_snoc ha hb (ImL_snoc (Nat.le_refl _) ha ImL_nil h (by omega)) h' (by omega)) (fun env loc sg => ⟨rfl, rfl, fun z S hz => by show Fo S (z 0) (z 1) = _; rw [hz 0 (by decide), hz 1 (by decide)]⟩) hn (by omega) c1 c2 hC (fun S vs => hJ S (vs 0) (vs 1)) (fun S vs => h11 S (vs 0) (vs 1))
end
theorem n11_in {v : V2} {k : Int32} : ¬ c_in v k = 11 := by
  unfold c_in
  repeat' split
  all_goals decide
theorem n11_size {S : SC} {v : V2} : ¬ (d_size S v).2.1 = 11 := by
  unfold d_size
  repeat' split
  all_goals (dsimp only; decide)
theorem n11_pop {S : SC} {v : V2} : ¬ (d_pop S v).2.1 = 11 := by
  unfold d_pop
  repeat' split
  all_goals (dsimp only; decide)
theorem n11_minus {S : SC} {v : V2} : ¬ (d_minus S v).2.1 = 11 := by
  unfold d_minus
  repeat' split
  all_goals (dsimp only; decide)
theorem n11_field {S : SC} {y : Int64} {v : V2} : ¬ (d_field S y v).2.1 = 11 := by
  unfold d_field
  repeat' split
  all_goals (dsimp only; decide)
theorem n11_item {S : SC} {a i : V2} : ¬ (d_item S a i).2.1 = 11 := by
  unfold d_item
  repeat' split
  all_goals first | exact n11_in | (dsimp only; decide)
theorem n11_push {S : SC} {a b : V2} : ¬ (d_push S a b).2.1 = 11 := by
  unfold d_push
  split
  · show ¬ (if _ then (0 : Int32) else 4) = 11
    split <;> decide
  · show ¬ (2 : Int32) = 11
    decide
theorem n11_cmp {S : SC} {w : Bool} {a b : V2} : ¬ (d_cmp S w a b).2.1 = 11 := by
  unfold d_cmp
  split
  all_goals (dsimp only; decide)
theorem n11_reck {S : SC} {x : Int32} {a b : V2} : ¬ (d_reck S x a b).2.1 = 11 := by
  unfold d_reck d_join
  repeat' split
  all_goals (dsimp only; decide)
theorem n11_rwL {o : Int32} {vs : Nat → V2} : ∀ m i S, ¬ (d_rwL o vs m i S).2 = 11
  | 0, _, _ => by show ¬ (0 : Int32) = 11; decide
  | m + 1, i, S => by
    unfold d_rwL
    split
    · exact n11_rwL m _ _
    · show ¬ (4 : Int32) = 11
      decide
theorem n11_rcL {o : Int32} {ns : Nat → Int64} {vs : Nat → V2} : ∀ m i S, ¬ (d_rcL o ns vs m i S).2 = 11
  | 0, _, _ => by show ¬ (0 : Int32) = 11; decide
  | m + 1, i, S => by
    unfold d_rcL
    split
    · exact n11_rcL m _ _
    · show ¬ (4 : Int32) = 11
      decide
theorem n11_row {S : SC} {m : Nat} {vs : Nat → V2} : ¬ (d_row S m vs).2.1 = 11 := by
  unfold d_row
  split
  · show ¬ (8 : Int32) = 11
    decide
  · exact n11_rwL _ _ _
theorem n11_rec {S : SC} {m : Nat} {ns : Nat → Int64} {vs : Nat → V2} : ¬ (d_rec S m ns vs).2.1 = 11 := by
  unfold d_rec
  split
  · show ¬ (8 : Int32) = 11
    decide
  · exact n11_rcL _ _ _
theorem rwL_eq {o : Int32} {vs ws : Nat → V2} : ∀ m i S, (∀ j, i ≤ j → j < i + m → vs j = ws j) → d_rwL o vs m i S = d_rwL o ws m i S
  | 0, _, _, _ => rfl
  | m + 1, i, S, h => by
    unfold d_rwL
    rw [h i (by omega) (by omega), rwL_eq m (i + 1) _ (fun j h1 h2 => h j (by omega) (by omega))]
theorem rcL_eq {o : Int32} {ns ms : Nat → Int64} {vs ws : Nat → V2} : ∀ m i S, (∀ j, i ≤ j → j < i + m → ns j = ms j ∧ vs j = ws j) → d_rcL o ns vs m i S = d_rcL o ms ws m i S
  | 0, _, _, _ => rfl
  | m + 1, i, S, h => by
    unfold d_rcL
    rw [(h i (by omega) (by omega)).1, (h i (by omega) (by omega)).2, rcL_eq m (i + 1) _ (fun j h1 h2 => h j (by omega) (by omega))]
theorem row_eq {S : SC} {m : Nat} {vs ws : Nat → V2} (h : ∀ j, j < m → vs j = ws j) : d_row S m vs = d_row S m ws := by
  unfold d_row
  cases (c_make S).1 with
  | none => rfl
  | some o => 
    dsimp only
    rw [rwL_eq m 0 _ (fun j _ h2 => h j (by omega))]
theorem rec_eq {S : SC} {m : Nat} {ns ms : Nat → Int64} {vs ws : Nat → V2} (h : ∀ j, j < m → ns j = ms j ∧ vs j = ws j) : d_rec S m ns vs = d_rec S m ms ws := by
  unfold d_rec
  cases (c_make S).1 with
  | none => rfl
  | some o => 
    dsimp only
    rw [rcL_eq m 0 _ (fun j _ h2 => h j (by omega))]
section
variable {d r F T B u b c cl k0 k1 k2 m m1 m2 rem lcl need need' lcl' a kp kp' : Nat} {Y Z : MY} {s0 s1 : HS} {sg sg1 sg2 : Sg} {e e1 : Int32} {FI : Nat → UI} {env : Env} {loc : Nat → V2} {co co' : Nat → Int32} {po po' : Nat → Int64} {PV PW : (Nat → V2) → Prop}
theorem ImE_size {D : DE} {x : Int32} (ha : a ≤ b) (hn : 1 ≤ need) (h : ImE a b lcl need kp co po D) (c1 : co (2 * b) = 23) (c2 : co (2 * b + 1) = x) : ImE a (b + 1) lcl need kp co po (d1 d_size D) := ImE_1 ha hn h c1 c2 (fun _ _ _ _ => cm_size) (fun S v I => SJ_size I) (fun S v => n11_size)
theorem ImE_pop {D : DE} {x : Int32} (ha : a ≤ b) (hn : 1 ≤ need) (h : ImE a b lcl need kp co po D) (c1 : co (2 * b) = 25) (c2 : co (2 * b + 1) = x) : ImE a (b + 1) lcl need kp co po (d1 d_pop D) := ImE_1 ha hn h c1 c2 (fun _ _ _ _ => cm_pop) (fun S v I => SJ_pop I) (fun S v => n11_pop)
theorem ImE_minus {D : DE} {x : Int32} (ha : a ≤ b) (hn : 1 ≤ need) (h : ImE a b lcl need kp co po D) (c1 : co (2 * b) = 26) (c2 : co (2 * b + 1) = x) : ImE a (b + 1) lcl need kp co po (d1 d_minus D) := ImE_1 ha hn h c1 c2 (fun _ _ _ _ => cm_minus) (fun S v I => SJ_minus I) (fun S v => n11_minus)
theorem ImE_not {D : DE} {x : Int32} (ha : a ≤ b) (hn : 1 ≤ need) (h : ImE a b lcl need kp co po D) (c1 : co (2 * b) = 27) (c2 : co (2 * b + 1) = x) : ImE a (b + 1) lcl need kp co po (d1 d_not D) := ImE_1 ha hn h c1 c2 (fun _ _ _ _ => cm_not) (fun S v I => SJ.rfl' I) (fun S v => by show ¬ (0 : Int32) = 11; decide)
def nF (w : List Nat) : Int64 := s_Cell_headOf 2 ||| nC w
theorem ImE_field {D : DE} {p : Nat} {w : List Nat} (ha : a ≤ b) (hn : 1 ≤ need) (h : ImE a b lcl need kp co po D) (c1 : co (2 * b) = 17) (c2 : co (2 * b + 1) = nI p) (hp : p < kp) (p1 : po p = nF w) : ImE a (b + 1) lcl need kp co po (d1 (fun S v => d_field S (nF w) v) D) := ImE_1 ha hn h c1 c2 (fun pu K g hk => by
  have e1 := (g p (by omega)).trans p1
  have q := cm_field (pu := pu) (K := K) (a := p) (by omega)
  rw [e1] at q
  exact q) (fun S v I => SJ_field I) (fun S v => n11_field)
theorem ImE_item {D E : DE} {x : Int32} (ha : a ≤ b) (hb : b ≤ c) (hn : 2 ≤ need) (h : ImE a b lcl need kp co po D) (h' : ImE b c lcl (need - 1) kp co po E) (c1 : co (2 * c) = 19) (c2 : co (2 * c + 1) = x) : ImE a (c + 1) lcl need kp co po (d2 d_item D E) := ImE_2 ha hb hn h h' c1 c2 (fun _ _ _ _ => cm_item) (fun S v v' I => SJ_item I) (fun S v v' => n11_item)
theorem ImE_push {D E : DE} {x : Int32} (ha : a ≤ b) (hb : b ≤ c) (hn : 2 ≤ need) (h : ImE a b lcl need kp co po D) (h' : ImE b c lcl (need - 1) kp co po E) (c1 : co (2 * c) = 24) (c2 : co (2 * c + 1) = x) : ImE a (c + 1) lcl need kp co po (d2 d_push D E) := ImE_2 ha hb hn h h' c1 c2 (fun _ _ _ _ => cm_push) (fun S v v' I => SJ_push I) (fun S v v' => n11_push)
/-- the commands of two VALUES, by their number -/
def d_bin (op : Int32) (S : SC) (a b : V2) : RV := if op = 28 then d_same S true a b else if op = 29 then d_same S false a b else if op = 30 then d_cmp S false a b else if op = 31 then d_cmp S true a b else d_reck S op a b
theorem ImE_bin {D E : DE} {op x : Int32} (ho : op = 28 ∨ op = 29 ∨ op = 30 ∨ op = 31 ∨ op = 32 ∨ op = 33 ∨ op = 34 ∨ op = 35 ∨ op = 36) (ha : a ≤ b) (hb : b ≤ c) (hn : 2 ≤ need) (h : ImE a b lcl need kp co po D) (h' : ImE b c lcl (need - 1) kp co po E) (c1 : co (2 * c) = op) (c2 : co (2 * c + 1) = x) : ImE a (c + 1) lcl need kp co po (d2 (d_bin op) D E) := by
  refine ImE_2 ha hb hn h h' c1 c2 (fun pu K _ _ => ?_) (fun S v v' I => ?_) (fun S v v' => ?_)
  · rcases ho with e | e | e | e | e
    · subst e; exact cm_same
    · subst e; exact cm_unlike
    · subst e; exact cm_less
    · subst e; exact cm_atMost
    · have k : (fun (S : SC) (vs : Nat → V2) => d_bin op S (vs 0) (vs 1)) = fun S vs => d_reck S op (vs 0) (vs 1) := by
        rcases e with e | e | e | e | e <;> (subst e; rfl)
      rw [k]
      exact cm_reck e
  · unfold d_bin
    repeat' split
    · exact SJ.rfl' I
    · exact SJ.rfl' I
    · exact SJ_cmp I
    · exact SJ_cmp I
    · exact SJ_reck I
  · unfold d_bin
    repeat' split
    · show ¬ (0 : Int32) = 11
      decide
    · show ¬ (0 : Int32) = 11
      decide
    · exact n11_cmp
    · exact n11_cmp
    · exact n11_reck
def dRow (m : Nat) (l : DL) : DE := dOp (fun S vs => d_row S m vs) l
def dRec (m : Nat) (ns : Nat → Int64) (l : DL) : DE := dOp (fun S vs => d_rec S m ns vs) l
theorem ImE_row {l : DL} (ha : a ≤ b) (hm : m ≤ need) (hn : 1 ≤ need) (h : ImL a b lcl need kp co po m l) (c1 : co (2 * b) = 22) (c2 : co (2 * b + 1) = nI m) : ImE a (b + 1) lcl need kp co po (dRow m l) := ImE_op (Fo := fun S vs => d_row S m vs) ha h (fun env loc sg => ⟨rfl, rfl, fun z S hz => row_eq hz⟩) hm hn c1 c2 (fun _ _ _ _ => cm_row) (fun S vs I => SJ_row I) (fun S vs => n11_row)
/-- NAMES and VALUES in turn -/
def asRc (m : Nat) (ns : Nat → Int64) (D : DL) : Env → (Nat → V2) → Sg → Sg × Int32 × ((Nat → V2) → Prop) := fun env loc sg => ((D env loc sg).1, (D env loc sg).2.1, fun z => ∀ i, i < m → (z (2 * i)).1 = ns i ∧ z (2 * i + 1) = (D env loc sg).2.2 i)
theorem ImE_rec {l : DL} {ns : Nat → Int64} (ha : a ≤ b) (hm : 2 * m ≤ need) (hn : 1 ≤ need) (h : ImP a b lcl need kp co po (2 * m) (asRc m ns l)) (c1 : co (2 * b) = 21) (c2 : co (2 * b + 1) = nI m) : ImE a (b + 1) lcl need kp co po (dRec m ns l) := ImE_op (Fo := fun S vs => d_rec S m (fun i => (vs (2 * i)).1) (fun i => vs (2 * i + 1))) ha h (fun env loc sg => ⟨rfl, rfl, fun z S hz => rec_eq hz⟩) hm hn c1 c2 (fun _ _ _ _ => cm_rec) (fun S vs I => SJ_rec I) (fun S vs => n11_rec)
theorem ImP_rc0 {ns : Nat → Int64} : ImP a a lcl need kp co po 0 (asRc 0 ns dNil) := fun cu pu g1 g2 d r F Y T B u L K nm ps lc tn cl sg FI env rem loc U hL hK X => by
  obtain ⟨h1, h2, h3, h4, h5, h6, h7, h8, h9, h10, h11, h12⟩ := X
  exact RunP.weak (RunP.go (PV := fun _ => True) Go.rfl' (yX.rfl' h3.1) h4 h5 h7 trivial h3) (fun vs _ i hi => absurd hi (Nat.not_lt_zero _)) (Nat.zero_le _)
def asR1 (m : Nat) (ns : Nat → Int64) (D : DL) (y : Int64) : Env → (Nat → V2) → Sg → Sg × Int32 × ((Nat → V2) → Prop) := fun env loc sg => ((D env loc sg).1, (D env loc sg).2.1, fun z => (∀ i, i < m → (z (2 * i)).1 = ns i ∧ z (2 * i + 1) = (D env loc sg).2.2 i) ∧ (z (2 * m)).1 = y)
theorem ImP_rcS {l : DL} {ns : Nat → Int64} {D : DE} {p : Nat} {y : Int64} (ha : a ≤ b) (hb : b + 1 ≤ c) (hm : 2 * m + 2 ≤ need) (h1 : ImP a b lcl need kp co po (2 * m) (asRc m ns l)) (c1 : co (2 * b) = 12) (c2 : co (2 * b + 1) = nI p) (hp : p + 1 < kp) (p1 : po p = y) (h2 : ImE (b + 1) c lcl (need - (2 * m + 1)) kp co po D) : ImP a c lcl need kp co po (2 * (m + 1)) (asRc (m + 1) (fun i => if i = m then y else ns i) (dSnoc m l D)) := by
  have t1 : ImE b (b + 1) lcl (need - 2 * m) kp co po (dK (y, po (p + 1))) := ImE_text (by omega) c1 c2 hp p1 rfl
  have t2 : ImP a (b + 1) lcl need kp co po (2 * m + 1) (asR1 m ns l y) := by
    refine ImP.seq ha (by omega) h1 t1 (by omega) (fun env loc sg q => ⟨rfl, rfl⟩) (fun env loc sg q => ⟨rfl, ?_, fun z zs h3 h4 h5 => ⟨fun i hi => ?_, ?_⟩⟩)
    · exact q
    · rw [h4 (2 * i) (by omega), h4 (2 * i + 1) (by omega)]
      exact h3 i hi
    · have h6 : z (2 * m + 0) = (y, po (p + 1)) := h5
      rw [Nat.add_zero] at h6
      rw [h6]
  rw [show 2 * (m + 1) = 2 * m + 1 + 1 by omega]
  refine ImP.seq (by omega) hb t2 h2 (by omega) (fun env loc sg q => ?_) (fun env loc sg q => ?_)
  · have q' : ¬ (l env loc sg).2.1 = 0 := q
    unfold asRc dSnoc
    dsimp only
    rw [if_neg q']
    exact ⟨rfl, rfl⟩
  · have q' : (l env loc sg).2.1 = 0 := q
    unfold asRc dSnoc
    dsimp only
    rw [if_pos q']
    refine ⟨rfl, rfl, fun z zs h3 h4 h5 i hi => ?_⟩
    have h5' : z (2 * m + 1 + 0) = (D env loc (l env loc sg).1).2.2 := h5
    rw [Nat.add_zero] at h5'
    dsimp only
    by_cases c : i = m
    · rw [if_pos c, if_pos c, c, h4 (2 * m) (by omega)]
      exact ⟨h3.2, h5'⟩
    · rw [if_neg c, if_neg c, h4 (2 * i) (by omega), h4 (2 * i + 1) (by omega)]
      exact h3.1 i (by omega)
theorem ImE_ei {D1 D2 : DE} {w : Bool} (ha : a ≤ b) (hb : b + 1 ≤ c) (hn : 1 ≤ need) (h1 : ImE a b lcl need kp co po D1) (h2 : ImE (b + 1) c lcl need kp co po D2) (c1 : co (2 * b) = if w = true then 4 else 3) (c2 : co (2 * b + 1) = nI c) : ImE a c lcl need kp co po (dEi w D1 D2) := fun cu pu g1 g2 d r F Y T B u L K nm ps lc tn cl sg FI env rem loc U hL hK X => by
  have R1 := h1 cu pu (fun j q1 q2 => g1 j q1 (by omega)) g2 d r F Y T B u L K nm ps lc tn cl sg FI env rem loc U (by omega) hK X
  by_cases q : (D1 env loc sg).2.1 = 0
  · rw [show c - a = (b - a) + (c - b) by omega]
    by_cases q2 : decide (s_Cell_isTrue (D1 env loc sg).2.2.1 (D1 env loc sg).2.2.2 = 0) = w
    · have e : asEx (dEi w D1 D2) env loc sg = asEx D1 env loc sg := by
        unfold asEx dEi
        rw [if_pos q, if_pos q2]
      rw [e]
      refine R1.then' q fun Z w1 w2 w3 => ?_
      have w2' : yV Z T = (D1 env loc sg).2.2 := w2
      have G := (g_keep (d := d) (w := w) (c := c) (B := B) (cl := cl) (S := (D1 env loc sg).1.1) (O := (D1 env loc sg).1.2.1) (tk := (D1 env loc sg).1.2.2) (fu := nI F) w3 (U.grow w1.1) (pc := b) (by omega) ((g1 _ (by omega) (by omega)).trans c1) ((g1 _ (by omega) (by omega)).trans c2)).1 (by rw [w2']; exact q2)
      have e0 : (asEx D1 env loc sg).2.1 = 0 := q
      rw [e0]
      exact (RunP.go G (yX.rfl' w3.1) R1.1.1.1 R1.1.2.1 R1.1.2.2.2.1 w2 w3).weak (fun _ h => h) (by omega)
    · have e : asEx (dEi w D1 D2) env loc sg = asEx D2 env loc (D1 env loc sg).1 := by
        unfold asEx dEi
        rw [if_pos q, if_neg q2]
      rw [e]
      refine R1.then' q fun Z w1 w2 w3 => ?_
      have w2' : yV Z T = (D1 env loc sg).2.2 := w2
      have G := (g_keep (d := d) (w := w) (c := c) (B := B) (cl := cl) (S := (D1 env loc sg).1.1) (O := (D1 env loc sg).1.2.1) (tk := (D1 env loc sg).1.2.2) (fu := nI F) w3 (U.grow w1.1) (pc := b) (by omega) ((g1 _ (by omega) (by omega)).trans c1) ((g1 _ (by omega) (by omega)).trans c2)).2 (by rw [w2']; exact q2)
      have R2 := h2 cu pu (fun j q1 q2 => g1 j (by omega) q2) g2 d r F Z T B u L K nm ps lc tn cl (D1 env loc sg).1 FI env rem loc (U.grow w1.1) hL hK (X.next (m := 0) R1.1 w1 (w3.le (by omega)) (by omega))
      exact (RunP.pre G R2).weak (fun _ h => h) (by omega)
  · have e : (asEx (dEi w D1 D2) env loc sg) = asEx D1 env loc sg := by
      unfold asEx dEi
      rw [if_neg q]
    rw [e]
    exact R1.err q (by omega)
theorem ImE_call {l : DL} {w : List Nat} {p : Nat} (ha : a ≤ b) (h1 : ImL a b lcl need kp co po m l) (hm : m ≤ need) (hn : 1 ≤ need) (hm2 : m < 2 ^ 20) (c1 : co (2 * b) = 5) (c2 : co (2 * b + 1) = nI p) (hp : p + 1 < kp) (p1 : po p = nC w) (p2 : po (p + 1) = (nI m).toInt64) (ow : okL w) (wl : w.length ≤ 8) : ImE a (b + 1) lcl need kp co po (dCall w m l) := fun cu pu g1 g2 d r F Y T B u L K nm ps lc tn cl sg FI env rem loc U hL hK X => by
  have R1 := h1 cu pu (fun j q1 q2 => g1 j q1 (by omega)) g2 d r F Y T B u L K nm ps lc tn cl sg FI env rem loc U (by omega) hK X
  by_cases q : (l env loc sg).2.1 = 0
  · have e : asEx (dCall w m l) env loc sg = ((env.2 w m (l env loc sg).2.2 (l env loc sg).1).1, (env.2 w m (l env loc sg).2.2 (l env loc sg).1).2.1, fun z => z 0 = (env.2 w m (l env loc sg).2.2 (l env loc sg).1).2.2) := by
      unfold asEx dCall
      rw [if_pos q]
    rw [e, show b + 1 - a = (b - a) + (1 + 0) by omega]
    refine R1.then' q fun Z w1 w2 w3 => ?_
    have N := X.next R1.1 w1 w3 hm
    obtain ⟨x1, x2, x3, x4, x5, x6, x7, x8, x9, x10, x11, x12⟩ := N
    have x12' := X.2.2.2.2.2.2.2.2.2.2.2
    obtain ⟨s1, y1, y2⟩ := x9 Z T m B (b + 1) cl (l env loc sg).1 w (u, L, cu, K, pu, nm, ps, lc, tn) (l env loc sg).2.2 (U.grow w1.1) w3 x4 x5 x6 x7 x8 ow wl hm2 (by omega) (by omega) (fun i hi => (w2 i hi).symm)
    have G : Go d 1 (mh r (nI F) Z (T + m) B u b cl (l env loc sg).1.1 (l env loc sg).1.2.1 (l env loc sg).1.2.2 0 0) s1 := go_flow w3.1 (U.grow w1.1) (by omega) ((g1 _ (by omega) (by omega)).trans c1) ((g1 _ (by omega) (by omega)).trans c2) (by decide) (g_call w3 (U.grow w1.1) (by omega) ((g2 p (by omega)).trans p1) ((g2 (p + 1) hp).trans p2) y1)
    exact RunP.pre G y2
  · have e : asEx (dCall w m l) env loc sg = ((l env loc sg).1, (l env loc sg).2.1, fun z => z 0 = (0, 0)) := by
      unfold asEx dCall
      rw [if_neg q]
    rw [e]
    exact R1.err q (by omega)
end
