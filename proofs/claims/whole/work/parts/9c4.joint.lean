/-! both parsers at one token -/
theorem loopFU {σ ρ : Type} {b : (σ → Option ρ) → σ → Option ρ} {x : σ} : loopK b FU x = b (loopK b (FU - 1)) x := by
  have h : FU = FU - 1 + 1 := by rw [FU_eq]
  conv => lhs; rw [h]
  exact loopK_succ
def Lw (x : CA) (y : RA) : Prop := ca_t x = ra_t y ∧ ∃ lw : Nat → List Nat, (∀ i, i < ca_t x → okN (lw i) ∧ ca_l x i = nC (lw i) ∧ ra_l y i = nV (lw i)) ∧ ∀ i j, i < ca_t x → j < ca_t x → lw i = lw j → i = j
def JJ (E1 : CE) (cr : Nat) (E2 : RE) (w0 : W2) (u q : Nat) (T : TKc) (t : TKr) (x : CA) (y : RA) : Prop := (EOK E1 ∧ EOR cr E2 ∧ re_L E2 = ce_L E1 ∧ re_g E2 = ce_g E1) ∧ JX (ce_g E1) (ce_L E1) w0 u q T t (ca_a x) (ra_b y) ∧ ca_f x = -1 ∧ (ra_b y).2.2.2.2.1 = -1 ∧ Lw x y ∧ (ca_h x ≤ 2 * u + 2 ∧ ca_k x ≤ 2 * u + 2 ∧ ca_t x ≤ u ∧ ra_m y ≤ 3 * u + 2 ∧ ra_v y ≤ u ∧ ra_p y ≤ u)
def RF (y : RA) (qf : Nat) : Prop := (ra_b y).2.2.2.2.1 = nI qf
/-- behind the first FAULT, at qf -/
def DD (E : CE) (s : HS) (x : CA) (qf A B : Nat) : Prop := KC E s x ∧ EOK E ∧ ca_f x = nI qf ∧ qf ≤ 1500 ∧ (ca_a x).2.2.1 = 1 ∧ A ≤ ca_h x ∧ (ca_h x ≤ B ∧ ca_k x ≤ B ∧ ca_t x ≤ B)
abbrev cav (E : CE) (t : TKr) (x : CA) : CA := caLex x (advS (ce_g E) (ce_w E) (ce_L E) t.1 (ca_a x))
abbrev rav (E : RE) (t : TKr) (y : RA) : RA := raLex y (advR (re_g E) (re_L E) t.1 (ra_b y))
abbrev rbd (y : RA) : RA := raLex y (badR (ra_b y))
section
variable {E : CE} {s : HS} {x : CA} {qf A B A' B' d a : Nat} {k op ar v : Int32}
theorem DD.mono (h : DD E s x qf A B) (h1 : A' ≤ A) (h2 : B ≤ B') : DD E s x qf A' B' := ⟨h.1, h.2.1, h.2.2.1, h.2.2.2.1, h.2.2.2.2.1, Nat.le_trans h1 h.2.2.2.2.2.1, Nat.le_trans h.2.2.2.2.2.2.1 h2, Nat.le_trans h.2.2.2.2.2.2.2.1 h2, Nat.le_trans h.2.2.2.2.2.2.2.2 h2⟩
theorem DD.failed {s' : HS} (h : DD E s x qf A B) (V : KC E s' (caFail x)) : DD E s' (caFail x) qf A B := by
  obtain ⟨h1, h2, h3, h4, h5, h6, h7⟩ := h
  refine ⟨V, h2, ?_, h4, rfl, h6, h7⟩
  show (if x.2.1 < 0 then x.1.2.2.2.1 else x.2.1) = nI qf
  rw [if_neg (by rw [show x.2.1 = nI qf from h3]; exact nI_pos (by omega))]
  exact h3
theorem dd_fail (h : DD E s x qf A B) : ∃ s' x', x_Pars_fail (d + 1) 132 s = some ((), s') ∧ DD E s' x' qf A B := by
  obtain ⟨s', e1, e2⟩ := kc_fail (d := d) h.2.1 h.1
  exact ⟨s', _, e1, h.failed e2⟩
theorem dd_take (h : DD E s x qf A B) (hk : ¬ k = 1) : ∃ s' x', x_Pars_take (d + 2) 132 k s = some ((), s') ∧ DD E s' x' qf A B := by
  obtain ⟨s', e1, e2⟩ := kc_takeNo (d := d) (k := k) h.2.1 h.1 (by rw [h.2.2.2.2.1]; exact fun e => hk e.symm)
  exact ⟨s', _, e1, h.failed e2⟩
theorem dd_open {dp : Int32} (h : DD E s x qf A B) (hk : ¬ k = 1) : ∃ s' x', x_Pars_open (d + 2) 132 k dp s = some (0, s') ∧ DD E s' x' qf A B := by
  obtain ⟨s', e1, e2⟩ := kc_openNo (d := d) (k := k) (dp := dp) h.2.1 h.1 (by rw [h.2.2.2.2.1]; exact fun e => hk e.1.symm)
  exact ⟨s', _, e1, h.failed e2⟩
theorem dd_takeName (h : DD E s x qf A B) : ∃ s' x' n, x_Pars_takeName (d + 3) 132 s = some (n, s') ∧ DD E s' x' qf A B := by
  obtain ⟨s', e1, e2⟩ := kc_takeNameNo (d := d) h.2.1 h.1 (by rw [h.2.2.2.2.1]; decide)
  exact ⟨s', _, _, e1, h.failed e2⟩
theorem dd_add (h : DD E s x qf A B) (hB : B + 1 ≤ 16000) : ∃ s' x', x_Draft_add (d + 2) (ce_d E) op ar s = some ((), s') ∧ DD E s' x' qf A (B + 1) := by
  obtain ⟨h1, h2, h3, h4, h5, h6, h7⟩ := h
  obtain ⟨s', e1, e2⟩ := kc_add (d := d) (op := op) (ar := ar) h2 h1 (by omega)
  exact ⟨s', _, e1, e2, h2, h3, h4, h5, by show A ≤ ca_h x + 1; omega, by show ca_h x + 1 ≤ B + 1; omega, by show ca_k x ≤ B + 1; omega, by show ca_t x ≤ B + 1; omega⟩
theorem dd_keep {y z : Int64} (h : DD E s x qf A B) (hB : B + 2 ≤ 16000) : ∃ s' x' n, x_Draft_keep (d + 2) (ce_d E) y z s = some (n, s') ∧ DD E s' x' qf A (B + 2) := by
  obtain ⟨h1, h2, h3, h4, h5, h6, h7⟩ := h
  obtain ⟨s', e1, e2⟩ := kc_keep (d := d) (y := y) (z := z) h2 h1 (by omega)
  exact ⟨s', _, _, e1, e2, h2, h3, h4, h5, h6, by show ca_h x ≤ B + 2; omega, by show ca_k x + 2 ≤ B + 2; omega, by show ca_t x ≤ B + 2; omega⟩
theorem dd_keepName {y : Int64} (h : DD E s x qf A B) (hB : B + 2 ≤ 16000) : ∃ s' x' n, x_Pars_keepName (d + 3) 132 y s = some (n, s') ∧ DD E s' x' qf A (B + 2) := by
  obtain ⟨h1, h2, h3, h4, h5, h6, h7⟩ := h
  obtain ⟨s', e1, e2⟩ := kc_keepName (d := d) (y := y) h2 h1 (by omega)
  exact ⟨s', _, _, e1, e2, h2, h3, h4, h5, h6, by show ca_h x ≤ B + 2; omega, by show ca_k x + 2 ≤ B + 2; omega, by show ca_t x ≤ B + 2; omega⟩
theorem dd_aim (h : DD E s x qf A B) (ha : a < A) : ∃ s' x', x_Draft_aimHere (d + 1) (ce_d E) (nI a) s = some ((), s') ∧ DD E s' x' qf A B := by
  obtain ⟨h1, h2, h3, h4, h5, h6, h7⟩ := h
  obtain ⟨s', e1, e2⟩ := kc_aim (d := d) (a := a) h2 h1 (by omega)
  exact ⟨s', _, e1, e2, h2, h3, h4, h5, h6, h7⟩
theorem dd_asg (h : DD E s x qf A B) : ∃ s' x', pV s 132 5 7 (.int v) = some s' ∧ DD E s' x' qf A B := by
  obtain ⟨h1, h2, h3, h4, h5, h6, h7⟩ := h
  obtain ⟨s', e1, e2⟩ := kc_asg (v := v) h2 h1
  exact ⟨s', _, e1, e2, h2, h3, h4, h5, h6, h7⟩
theorem dd_asgZ (h : DD E s x qf A B) (hv : v = 0 ∨ v = 1) : ∃ s' x', pZ s 132 5 7 v = some s' ∧ DD E s' x' qf A B := by
  obtain ⟨h1, h2, h3, h4, h5, h6, h7⟩ := h
  obtain ⟨s', e1, e2⟩ := kc_asgZ (v := v) h2 h1 hv
  exact ⟨s', _, e1, e2, h2, h3, h4, h5, h6, h7⟩
theorem dd_local {y : Int64} (h : DD E s x qf A B) (hB : B + 1 ≤ 16000) : ∃ s' x' n, x_Draft_makeLocal (d + 2) (ce_d E) y s = some (n, s') ∧ DD E s' x' qf A (B + 1) := by
  by_cases c : s_find (ca_l x) (ca_t x) y < 0
  · obtain ⟨h1, h2, h3, h4, h5, h6, h7⟩ := h
    obtain ⟨s', e1, e2⟩ := kc_makeNew (d := d) (y := y) h2 h1 (by omega) c
    exact ⟨s', _, _, e1, e2, h2, h3, h4, h5, h6, by show ca_h x ≤ B + 1; omega, by show ca_k x ≤ B + 1; omega, by show ca_t x + 1 ≤ B + 1; omega⟩
  · exact ⟨s, x, _, kc_makeOld (d := d + 1) h.1 c, h.mono (Nat.le_refl _) (Nat.le_succ _)⟩
theorem dd_kind (h : DD E s x qf A B) : x_Lexer_kind d 133 s = some (1, s) := by
  rw [kc_kind h.1, h.2.2.2.2.1]
theorem c_blk {r : Nat} {i j z : Int32} : cU (clP (d + 1) 0 r i j z s) = x_Pars_block_b (clP d) d r i s := cU_uC _
theorem c_stm {r : Nat} {i j z : Int32} : cU (clP (d + 1) 1 r i j z s) = x_Pars_statement_b (clP d) d r i s := cU_uC _
theorem c_let {r : Nat} {i j z : Int32} : cU (clP (d + 1) 2 r i j z s) = x_Pars_letStatement_b (clP d) d r i s := cU_uC _
theorem c_if {r : Nat} {i j z : Int32} : cU (clP (d + 1) 3 r i j z s) = x_Pars_ifStatement_b (clP d) d r i s := cU_uC _
theorem c_whl {r : Nat} {i j z : Int32} : cU (clP (d + 1) 4 r i j z s) = x_Pars_whileStatement_b (clP d) d r i s := cU_uC _
theorem c_cnd {r : Nat} {i j z : Int32} : clP (d + 1) 5 r i j z s = x_Pars_condition_b (clP d) d r i s := rfl
theorem c_ret {r : Nat} {i j z : Int32} : cU (clP (d + 1) 6 r i j z s) = x_Pars_returnStatement_b (clP d) d r i s := cU_uC _
theorem c_pln {r : Nat} {i j z : Int32} : cU (clP (d + 1) 7 r i j z s) = x_Pars_plainStatement_b (clP d) d r i s := cU_uC _
theorem c_exp {r : Nat} {i j z : Int32} : cU (clP (d + 1) 8 r i j z s) = x_Pars_expression_b (clP d) d r i s := cU_uC _
theorem c_lev {r : Nat} {i j z : Int32} : cU (clP (d + 1) 9 r i j z s) = x_Pars_level_b (clP d) d r i j s := cU_uC _
theorem c_sgn {r : Nat} {i j z : Int32} : cU (clP (d + 1) 10 r i j z s) = x_Pars_signed_b (clP d) d r i s := cU_uC _
theorem c_prt {r : Nat} {i j z : Int32} : cU (clP (d + 1) 11 r i j z s) = x_Pars_parts_b (clP d) d r i s := cU_uC _
theorem c_atm {r : Nat} {i j z : Int32} : cU (clP (d + 1) 12 r i j z s) = x_Pars_atom_b (clP d) d r i s := cU_uC _
theorem c_var {r : Nat} {i j z : Int32} : clP (d + 1) 13 r i j z s = x_Pars_variableOrCall_b (clP d) d r i s := rfl
theorem c_one {r : Nat} {i j z : Int32} : cU (clP (d + 1) 14 r i j z s) = x_Pars_withOne_b (clP d) d r i j s := cU_uC _
theorem c_brk {r : Nat} {i j z : Int32} : cU (clP (d + 1) 15 r i j z s) = x_Pars_inBrackets_b (clP d) d r i s := cU_uC _
theorem c_psh {r : Nat} {i j z : Int32} : cU (clP (d + 1) 16 r i j z s) = x_Pars_pushAtom_b (clP d) d r i s := cU_uC _
theorem c_lst {r : Nat} {i j z : Int32} : clP (d + 1) 17 r i j z s = x_Pars_list_b (clP d) d r i j z s := rfl
theorem c_fds {r : Nat} {i j z : Int32} : clP (d + 1) 18 r i j z s = x_Pars_fields_b (clP d) d r i s := rfl
theorem c_fld {r : Nat} {i j z : Int32} : cU (clP (d + 1) 19 r i j z s) = x_Pars_field_b (clP d) d r i s := cU_uC _
/-- an E behind a FAULT -/
theorem dd_atom {dp : Int32} (h : DD E s x qf A B) : ∃ s' x', x_Pars_atom_b (clP (d + 1)) (d + 1) 132 dp s = some ((), s') ∧ DD E s' x' qf A B := by
  obtain ⟨s1, x1, e1, h1⟩ := dd_fail (d := d) h
  obtain ⟨s2, x2, e2, h2⟩ := dd_asg (v := 0) h1
  refine ⟨s2, x2, ?_, h2⟩
  unfold x_Pars_atom_b
  rw [kc_gd h.1, kc_lx h.1, Option.bind_some, dd_kind h, bnd_some, if_neg (by decide), if_neg (by decide), if_neg (by decide), if_neg (by decide), if_neg (by decide), if_neg (by decide), if_neg (by decide), if_neg (by decide), if_neg (by decide), if_neg (by decide), e1, bnd_some, e2, Option.bind_some]
theorem dd_parts {dp : Int32} (h : DD E s x qf A B) : ∃ s' x', x_Pars_parts_b (clP (d + 2)) (d + 2) 132 dp s = some ((), s') ∧ DD E s' x' qf A B := by
  obtain ⟨s1, x1, e1, h1⟩ := dd_atom (d := d) (dp := dp) h
  refine ⟨s1, x1, ?_, h1⟩
  unfold x_Pars_parts_b
  rw [kc_gd h.1, c_atm, e1, bnd_some, loopFU]
  dsimp only
  rw [if_neg (by decide), kc_lx h1.1, Option.bind_some, dd_kind h1, bnd_some, if_neg (by decide), kc_lx h1.1, Option.bind_some, dd_kind h1, bnd_some, if_neg (by decide)]
theorem dd_signed {dp : Int32} (h : DD E s x qf A B) : ∃ s' x', x_Pars_signed_b (clP (d + 3)) (d + 3) 132 dp s = some ((), s') ∧ DD E s' x' qf A B := by
  obtain ⟨s1, x1, e1, h1⟩ := dd_parts (d := d) (dp := dp) h
  refine ⟨s1, x1, ?_, h1⟩
  unfold x_Pars_signed_b
  rw [kc_gd h.1, kc_lx h.1, Option.bind_some, dd_kind h, bnd_some, if_neg (by decide), if_neg (by decide), c_prt, e1, bnd_some]
theorem dd_level5 {dp : Int32} (h : DD E s x qf A B) : ∃ s' x', x_Pars_level_b (clP (d + 4)) (d + 4) 132 5 dp s = some ((), s') ∧ DD E s' x' qf A B := by
  obtain ⟨s1, x1, e1, h1⟩ := dd_signed (d := d) (dp := dp) h
  refine ⟨s1, x1, ?_, h1⟩
  unfold x_Pars_level_b
  rw [kc_gd h.1, if_neg (by decide), c_sgn, e1, bnd_some]
theorem dd_levelS {dp l l' t0 : Int32} {s1 : HS} {x1 : CA} (h : DD E s x qf A B) (hl : l ≤ 4) (hl' : l + 1 = l') (hn : ¬ -1 = l) (e1 : x_Pars_level_b (clP d) d 132 l' dp s = some ((), s1)) (h1 : DD E s1 x1 qf A B) : x_Pars_level_b (clP (d + 1)) (d + 1) 132 l dp s = some ((), s1) := by
  have key : ∀ t0 : Int32, ¬ t0 ≤ 0 → x_Pars_level_b31 (clP (d + 1)) (d + 1) 132 l dp t0 s1 = some ((), s1) := fun t0 ht => by
    unfold x_Pars_level_b31
    rw [loopFU]
    dsimp only
    rw [if_neg ht, kc_lx h1.1, Option.bind_some, dd_kind h1, bnd_some, show x_Pars_levelOf (d + 1) 1 s1 = some (-1, s1) from rfl, bnd_some, if_neg hn]
  unfold x_Pars_level_b
  rw [kc_gd h.1, if_pos hl, hl', c_lev, e1, bnd_some, key 1 (by decide), key 1500 (by decide)]
  split <;> rfl
theorem dd_expr {dp : Int32} (h : DD E s x qf A B) : ∃ s' x', cU (clP (d + 11) 8 132 dp 0 0 s) = some ((), s') ∧ DD E s' x' qf A B := by
  obtain ⟨s1, x1, e1, h1⟩ := dd_level5 (d := d) (dp := dp) h
  refine ⟨s1, x1, ?_, h1⟩
  have e4 := dd_levelS (t0 := 0) (l := 4) h (by decide) rfl (by decide) e1 h1
  have e3 := dd_levelS (t0 := 0) (l := 3) h (by decide) rfl (by decide) e4 h1
  have e2 := dd_levelS (t0 := 0) (l := 2) h (by decide) rfl (by decide) e3 h1
  have e1' := dd_levelS (t0 := 0) (l := 1) h (by decide) rfl (by decide) e2 h1
  have e0 := dd_levelS (t0 := 0) (l := 0) h (by decide) rfl (by decide) e1' h1
  rw [c_exp]
  unfold x_Pars_expression_b
  rw [kc_gd h.1, c_lev, e0, bnd_some]
theorem dd_block {dp : Int32} (h : DD E s x qf A B) : ∃ s' x', cU (clP (d + 3) 0 132 dp 0 0 s) = some ((), s') ∧ DD E s' x' qf A B := by
  obtain ⟨s1, x1, e1, h1⟩ := dd_open (d := d) (k := 123) (dp := dp) h (by decide)
  refine ⟨s1, x1, ?_, h1⟩
  rw [c_blk]
  unfold x_Pars_block_b
  rw [kc_gd h.1, e1, bnd_some, if_pos rfl]
end
section
variable {E1 : CE} {cr : Nat} {E2 : RE} {w0 : W2} {u q d j : Nat} {T : TKc} {t : TKr} {x : CA} {y : RA} {s : HS} {K : Int32}
theorem JJ.kd (J : JJ E1 cr E2 w0 u q T t x y) : (ca_a x).2.2.1 = T.2.1 := J.2.1.2.1.2.1
theorem JJ.ar (J : JJ E1 cr E2 w0 u q T t x y) : AtR q t (ra_b y) := J.2.1.2.2.1
theorem JJ.tq (J : JJ E1 cr E2 w0 u q T t x y) : TQ (re_g E2) (re_L E2) q T t := by
  rw [J.1.2.2.1, J.1.2.2.2]
  exact J.2.1.1
theorem JJ.eo (J : JJ E1 cr E2 w0 u q T t x y) : EOK E1 := J.1.1
theorem JJ.er (J : JJ E1 cr E2 w0 u q T t x y) : EOR cr E2 := J.1.2.1
theorem JJ.uq (J : JJ E1 cr E2 w0 u q T t x y) : u ≤ q ∧ q ≤ 1500 := ⟨J.2.1.2.2.2.2.2, Nat.le_trans J.2.1.1.2.1 J.1.1.1⟩
/-- a token that can be taken is no end: there is room -/
theorem JJ.lt (J : JJ E1 cr E2 w0 u q T t x y) (h0 : ¬ T.2.1 = 0) (h1 : ¬ T.2.1 = 1) : u < 1500 := by
  have := (J.2.1.1.go h0 h1).2
  have := J.2.1.1.2.2.2
  have := J.1.1.1
  have := J.uq
  omega
theorem JJ.is (J : JJ E1 cr E2 w0 u q T t x y) (i : Nat) (hj : j = 2 * i + 12) (hi : i < 35) (hK : (kS.getD i (0, [])).1 = K) : x_Mod_is (d + 4) 160 j (pm cr E2 y) = some (if T.2.1 = K then 1 else 0, pm cr E2 y) := y_is J.er J.ar J.tq i hj hi hK
theorem JJ.adv (J : JJ E1 cr E2 w0 u q T t x y) (h0 : ¬ T.2.1 = 0) (h1 : ¬ T.2.1 = 1) : ∃ q' T' t', JJ E1 cr E2 w0 (u + 1) q' T' t' (cav E1 t x) (rav E2 t y) ∧ t.1 ≤ q' := by
  obtain ⟨⟨e1, e2, e3, e4⟩, k1, k2, k3, k4, k5⟩ := J
  obtain ⟨q', T', t', a1, a2⟩ := k1.adv h0 h1 e1.1 e1.2.1 e1.2.2.1
  refine ⟨q', T', t', ⟨⟨e1, e2, e3, e4⟩, ?_, k2, k3, k4, ?_⟩, a2⟩
  · show JX _ _ _ _ _ _ _ (advS _ _ _ _ _) (advR (re_g E2) (re_L E2) _ _)
    rw [e3, e4]
    exact a1
  · show ca_h x ≤ _ ∧ ca_k x ≤ _ ∧ ca_t x ≤ _ ∧ ra_m y ≤ _ ∧ ra_v y ≤ _ ∧ ra_p y ≤ _
    omega
theorem JJ.pos (J : JJ E1 cr E2 w0 u q T t x y) (h0 : ¬ T.2.1 = 0) (h1 : ¬ T.2.1 = 1) : (ca_a x).1 = nI t.1 ∧ t.1 ≤ ce_L E1 := by
  have g := J.2.1.1.go h0 h1
  exact ⟨by rw [← g.1]; exact J.2.1.2.1.1, J.2.1.1.2.2.2⟩
theorem jj_take (V : KC E1 s x) (J : JJ E1 cr E2 w0 u q T t x y) (hk : T.2.1 = K) (h0 : ¬ K = 0) (h1 : ¬ K = 1) : ∃ s', x_Pars_take (d + 6) 132 K s = some ((), s') ∧ KC E1 s' (cav E1 t x) := by
  have p := J.pos (by rw [hk]; exact h0) (by rw [hk]; exact h1)
  exact kc_take J.eo V (J.kd.trans hk) p.1 p.2
theorem jj_open {dp : Int32} (V : KC E1 s x) (J : JJ E1 cr E2 w0 u q T t x y) (hk : T.2.1 = K) (h0 : ¬ K = 0) (h1 : ¬ K = 1) (hd : dp < 16) : ∃ s', x_Pars_open (d + 6) 132 K dp s = some (1, s') ∧ KC E1 s' (cav E1 t x) := by
  have p := J.pos (by rw [hk]; exact h0) (by rw [hk]; exact h1)
  exact kc_open J.eo V (J.kd.trans hk) hd p.1 p.2
theorem jj_takeName (V : KC E1 s x) (J : JJ E1 cr E2 w0 u q T t x y) (hk : T.2.1 = 2) : ∃ s', x_Pars_takeName (d + 7) 132 s = some (nC (nmL (re_g E2) q (t.1 - q)), s') ∧ KC E1 s' (cav E1 t x) := by
  have p := J.pos (by rw [hk]; decide) (by rw [hk]; decide)
  obtain ⟨s', e1, e2⟩ := kc_takeName (d := d) J.eo V (J.kd.trans hk) p.1 p.2
  refine ⟨s', ?_, e2⟩
  rw [e1, J.1.2.2.2, ← (J.2.1.1.nm hk).2.1]
  exact congrArg (fun z : Int32 × Int64 × Int64 => some (z.2.1, s')) J.2.1.2.1.2.2.2
theorem jj_step (J : JJ E1 cr E2 w0 u q T t x y) : x_Mod_step (d + 5) 160 (pm cr E2 y) = some ((), pm cr E2 (rav E2 t y)) := y_step J.er J.ar.1 J.tq.2.2.2
theorem jj_rtake (J : JJ E1 cr E2 w0 u q T t x y) (i : Nat) (hj : j = 2 * i + 12) (hi : i < 35) (hK : T.2.1 = (kS.getD i (0, [])).1) : x_Mod_take (d + 6) 160 j (pm cr E2 y) = some (1, pm cr E2 (rav E2 t y)) := y_take J.er J.ar J.tq i hj hi hK
theorem JJ.fneg (J : JJ E1 cr E2 w0 u q T t x y) : (ra_b y).2.2.2.2.1 < 0 := by rw [J.2.2.2.1]; decide
theorem jj_rtakeNo (J : JJ E1 cr E2 w0 u q T t x y) (i : Nat) (hj : j = 2 * i + 12) (hi : i < 35) (hK : ¬ T.2.1 = (kS.getD i (0, [])).1) : x_Mod_take (d + 6) 160 j (pm cr E2 y) = some (0, pm cr E2 (rbd y)) := y_takeNo J.er J.ar J.tq J.fneg i hj hi hK
theorem jj_bad (J : JJ E1 cr E2 w0 u q T t x y) : x_Mod_bad d 160 (pm cr E2 y) = some (0, pm cr E2 (rbd y)) := y_bad J.er J.fneg
theorem JJ.rf (J : JJ E1 cr E2 w0 u q T t x y) : RF (rbd y) q := J.ar.2.2.1
theorem JJ.dd {s' : HS} (J : JJ E1 cr E2 w0 u q T t x y) (V : KC E1 s' (caFail x)) : DD E1 s' (caFail x) q (ca_h x) 3100 := by
  have hu := J.uq
  obtain ⟨_, k1, k2, k3, k4, k5⟩ := J
  refine ⟨V, ‹_ ∧ _›.1, ?_, hu.2, rfl, Nat.le_refl _, ?_⟩
  · show (if x.2.1 < 0 then x.1.2.2.2.1 else x.2.1) = nI q
    rw [if_pos (by rw [show x.2.1 = -1 from k2]; decide)]
    exact k1.2.1.2.2.1
  · show ca_h x ≤ _ ∧ ca_k x ≤ _ ∧ ca_t x ≤ _
    omega
theorem jj_takeNo (V : KC E1 s x) (J : JJ E1 cr E2 w0 u q T t x y) (hk : ¬ T.2.1 = K) : ∃ s', x_Pars_take (d + 2) 132 K s = some ((), s') ∧ DD E1 s' (caFail x) q (ca_h x) 3100 := by
  obtain ⟨s', e1, e2⟩ := kc_takeNo (d := d) (k := K) J.eo V (by rw [J.kd]; exact hk)
  exact ⟨s', e1, J.dd e2⟩
theorem jj_openNo {dp : Int32} (V : KC E1 s x) (J : JJ E1 cr E2 w0 u q T t x y) (hk : ¬ (T.2.1 = K ∧ dp < 16)) : ∃ s', x_Pars_open (d + 2) 132 K dp s = some (0, s') ∧ DD E1 s' (caFail x) q (ca_h x) 3100 := by
  obtain ⟨s', e1, e2⟩ := kc_openNo (d := d) (k := K) (dp := dp) J.eo V (by rw [J.kd]; exact hk)
  exact ⟨s', e1, J.dd e2⟩
theorem jj_takeNameNo (V : KC E1 s x) (J : JJ E1 cr E2 w0 u q T t x y) (hk : ¬ T.2.1 = 2) : ∃ s' n, x_Pars_takeName (d + 3) 132 s = some (n, s') ∧ DD E1 s' (caFail x) q (ca_h x) 3100 := by
  obtain ⟨s', e1, e2⟩ := kc_takeNameNo (d := d) J.eo V (by rw [J.kd]; exact hk)
  exact ⟨s', _, e1, J.dd e2⟩
theorem jj_fail (V : KC E1 s x) (J : JJ E1 cr E2 w0 u q T t x y) : ∃ s', x_Pars_fail (d + 1) 132 s = some ((), s') ∧ DD E1 s' (caFail x) q (ca_h x) 3100 := by
  obtain ⟨s', e1, e2⟩ := kc_fail (d := d) J.eo V
  exact ⟨s', e1, J.dd e2⟩
end
