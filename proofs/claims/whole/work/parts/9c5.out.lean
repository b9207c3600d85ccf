/-! what a phrase leaves, on both sides -/
def AGc (x x' : CA) : Prop := ca_h x ≤ ca_h x' ∧ (∀ j, j < 2 * ca_h x → ca_c x' j = ca_c x j) ∧ ca_k x ≤ ca_k x' ∧ (∀ j, j < ca_k x → ca_p x' j = ca_p x j)
def AGr (y y' : RA) : Prop := ra_m y ≤ ra_m y' ∧ (∀ j, j < ra_m y → ra_s y' j = ra_s y j) ∧ ra_v y ≤ ra_v y' ∧ (∀ j, j < ra_v y → ra_q y' j = ra_q y j) ∧ ra_p y ≤ ra_p y' ∧ (∀ j, j < ra_p y → ra_u y' j = ra_u y j)
/-- sizes and LOCALS of an E -/
def XE (x : CA) (y : RA) (u : Nat) (x' : CA) (y' : RA) (u' : Nat) : Prop := u < u' ∧ AGc x x' ∧ AGr y y' ∧ ra_p y' = ra_p y ∧ (ca_t x' = ca_t x ∧ ca_l x' = ca_l x ∧ y'.2.2.1 = y.2.2.1) ∧ (ca_h x' + 2 * u ≤ ca_h x + 2 * u' ∧ ca_k x' + 2 * u ≤ ca_k x + 2 * u' ∧ ra_m y' + 3 * u ≤ ra_m y + 3 * u' ∧ ra_v y' + u ≤ ra_v y + u')
def SE (V0 : Nat) (x : CA) (y : RA) (u : Nat) (x' : CA) (y' : RA) (u' : Nat) : Prop := ∃ D : DE, ImE (ca_h x) (ca_h x') (ca_t x) (u' - u) (ca_k x') (ca_c x') (ca_p x') D ∧ IrE (ra_m y) (ra_m y') V0 (ra_v y') (ca_t x) (u' - u) (ra_s y') (ra_q y') D
/-- the E may stand before "=" -/
def ASG (V0 : Nat) (x : CA) (y : RA) (u : Nat) (x' : CA) (y' : RA) (u' : Nat) : Prop := (∃ i, i < ca_t x ∧ ca_h x' = ca_h x + 1 ∧ ra_m y' = ra_m y + 2 ∧ ra_e y' = nI (ra_m y) ∧ ca_c x' (2 * ca_h x) = 13 ∧ ca_c x' (2 * ca_h x + 1) = nI i ∧ ra_s y' (ra_m y) = 1 ∧ ra_s y' (ra_m y + 1) = nI i) ∨ (∃ w p z, okN w ∧ ca_h x' = ca_h x + 1 ∧ ra_m y' = ra_m y + 2 ∧ ra_e y' = nI (ra_m y) ∧ ca_c x' (2 * ca_h x) = 15 ∧ ca_c x' (2 * ca_h x + 1) = nI p ∧ p < ca_k x' ∧ ca_p x' p = nC w ∧ ra_s y' (ra_m y) = 3 ∧ ra_s y' (ra_m y + 1) = nI z ∧ V0 ≤ z ∧ z < ra_v y' ∧ (ra_q y' z).2.2.1 = nV w) ∨ (∃ w p z b b' D, okN w ∧ (ca_h x ≤ b ∧ ca_h x' = b + 1 ∧ ra_m y ≤ b' ∧ ra_m y' = b' + 2 ∧ ra_e y' = nI b') ∧ ca_c x' (2 * b) = 17 ∧ ca_c x' (2 * b + 1) = nI p ∧ p < ca_k x' ∧ ca_p x' p = nF w ∧ ra_s y' b' = 5 ∧ ra_s y' (b' + 1) = nI z ∧ V0 ≤ z ∧ z < ra_v y' ∧ (ra_q y' z).2.2.1 = nV w ∧ ImE (ca_h x) b (ca_t x) (u' - u) (ca_k x') (ca_c x') (ca_p x') D ∧ IrE (ra_m y) b' V0 (ra_v y') (ca_t x) (u' - u) (ra_s y') (ra_q y') D) ∨ (∃ b b' l, (ca_h x ≤ b ∧ ca_h x' = b + 1 ∧ ra_m y ≤ b' ∧ ra_m y' = b' + 1 ∧ ra_e y' = nI b' ∧ 2 ≤ u' - u) ∧ ca_c x' (2 * b) = 19 ∧ ra_s y' b' = 7 ∧ ImL (ca_h x) b (ca_t x) (u' - u) (ca_k x') (ca_c x') (ca_p x') 2 l ∧ IrL (ra_m y) b' V0 (ra_v y') (ca_t x) (u' - u) (ra_s y') (ra_q y') 2 l)
def AS (V0 : Nat) (x : CA) (y : RA) (u : Nat) (x' : CA) (y' : RA) (u' : Nat) : Prop := ca_s x' = ra_g y' ∧ (ca_s x' = 0 ∨ (ca_s x' = 1 ∧ ASG V0 x y u x' y' u'))
def QE (V0 : Nat) (x : CA) (y : RA) (u : Nat) (x' : CA) (y' : RA) (u' : Nat) : Prop := XE x y u x' y' u' ∧ SE V0 x y u x' y' u' ∧ AS V0 x y u x' y' u'
/-- both come through, or both have a FAULT at one place -/
def OUT (E1 : CE) (cr : Nat) (E2 : RE) (w0 : W2) (A B : Nat) (Q : CA → RA → Nat → Prop) (r1 : Option (Unit × HS)) (r2 : Option (Int32 × HS)) : Prop := (∃ s' x' y' u' q' T' t', r1 = some ((), s') ∧ r2 = some (1, pm cr E2 y') ∧ KC E1 s' x' ∧ JJ E1 cr E2 w0 u' q' T' t' x' y' ∧ Q x' y' u') ∨ (∃ s' x' y' qf, r1 = some ((), s') ∧ r2 = some (0, pm cr E2 y') ∧ DD E1 s' x' qf A B ∧ RF y' qf)
def JE (E1 : CE) (cr : Nat) (E2 : RE) (w0 : W2) (V0 B : Nat) (F : HS → Option (Unit × HS)) (G : HS → Option (Int32 × HS)) : Prop := ∀ s x y u q T t, KC E1 s x → JJ E1 cr E2 w0 u q T t x y → V0 ≤ ra_v y → OUT E1 cr E2 w0 (ca_h x) B (QE V0 x y u) (F s) (G (pm cr E2 y))
section
variable {x x' x'' : CA} {y y' y'' : RA} {op ar v : Int32} {a j : Nat}
theorem AGc.rfl' : AGc x x := ⟨Nat.le_refl _, fun _ _ => rfl, Nat.le_refl _, fun _ _ => rfl⟩
theorem AGc.trans (h : AGc x x') (g : AGc x' x'') : AGc x x'' := ⟨Nat.le_trans h.1 g.1, fun j hj => (g.2.1 j (by have := h.1; omega)).trans (h.2.1 j hj), Nat.le_trans h.2.2.1 g.2.2.1, fun j hj => (g.2.2.2 j (by have := h.2.2.1; omega)).trans (h.2.2.2 j hj)⟩
theorem AGc.add (h : AGc x x') : AGc x (caAdd x' op ar) := h.trans ⟨Nat.le_succ _, fun j hj => by
  show upI (upI _ _ _) _ _ j = _
  unfold upI
  rw [if_neg (by omega), if_neg (by omega)], Nat.le_refl _, fun _ _ => rfl⟩
theorem AGc.keep {z1 z2 : Int64} (h : AGc x x') : AGc x (caKeep x' z1 z2) := h.trans ⟨Nat.le_refl _, fun _ _ => rfl, Nat.le_add_right _ 2, fun j hj => by
  show upL (upL _ _ _) _ _ j = _
  unfold upL
  rw [if_neg (by omega), if_neg (by omega)]⟩
theorem AGc.aim (h : AGc x x') (ha : ca_h x ≤ a) : AGc x (caAim x' a) := ⟨h.1, fun j hj => by
  show upI _ _ _ j = _
  unfold upI
  rw [if_neg (by omega)]
  exact h.2.1 j hj, h.2.2⟩
theorem AGr.rfl' : AGr y y := ⟨Nat.le_refl _, fun _ _ => rfl, Nat.le_refl _, fun _ _ => rfl, Nat.le_refl _, fun _ _ => rfl⟩
theorem AGr.trans (h : AGr y y') (g : AGr y' y'') : AGr y y'' := ⟨Nat.le_trans h.1 g.1, fun j hj => (g.2.1 j (by have := h.1; omega)).trans (h.2.1 j hj), Nat.le_trans h.2.2.1 g.2.2.1, fun j hj => (g.2.2.2.1 j (by have := h.2.2.1; omega)).trans (h.2.2.2.1 j hj), Nat.le_trans h.2.2.2.2.1 g.2.2.2.2.1, fun j hj => (g.2.2.2.2.2 j (by have := h.2.2.2.2.1; omega)).trans (h.2.2.2.2.2 j hj)⟩
theorem AGr.put (h : AGr y y') : AGr y (raPut y' v) := h.trans ⟨Nat.le_succ _, fun j hj => by
  show upI _ _ _ j = _
  unfold upI
  rw [if_neg (by omega)], Nat.le_refl _, fun _ _ => rfl, Nat.le_refl _, fun _ _ => rfl⟩
theorem AGr.val {z : VQ} (h : AGr y y') : AGr y (raVal y' z) := h.trans ⟨Nat.le_refl _, fun _ _ => rfl, Nat.le_succ _, fun j hj => by
  show upQ _ _ _ j = _
  unfold upQ
  rw [if_neg (by omega)], Nat.le_refl _, fun _ _ => rfl⟩
theorem AGr.set (h : AGr y y') (ha : ra_m y ≤ a) : AGr y (raSet y' a v) := ⟨h.1, fun j hj => by
  show upI _ _ _ j = _
  unfold upI
  rw [if_neg (by omega)]
  exact h.2.1 j hj, h.2.2⟩
theorem up20 {c : Nat → Int32} {h : Nat} {a b : Int32} : upI (upI c (2 * h) a) (2 * h + 1) b (2 * h) = a := by
  unfold upI
  rw [if_neg (by omega), if_pos rfl]
theorem up21 {c : Nat → Int32} {h : Nat} {a b : Int32} : upI (upI c (2 * h) a) (2 * h + 1) b (2 * h + 1) = b := by
  unfold upI
  rw [if_pos rfl]
theorem up10 {c : Nat → Int32} {h : Nat} {a b : Int32} : upI (upI c h a) (h + 1) b h = a := by
  unfold upI
  rw [if_neg (by omega), if_pos rfl]
theorem up11 {c : Nat → Int32} {h : Nat} {a b : Int32} : upI (upI c h a) (h + 1) b (h + 1) = b := by
  unfold upI
  rw [if_pos rfl]
theorem upQ_up {g : Nat → VQ} {i : Nat} {a b : VQ} : upQ (upQ g i a) i b = upQ g i b := by
  funext j
  unfold upQ
  by_cases c : j = i
  · rw [if_pos c, if_pos c]
  · rw [if_neg c, if_neg c, if_neg c]
theorem upA {c : Nat → Int32} {h : Nat} {a : Int32} : upI c h a h = a := if_pos rfl
theorem upN {c : Nat → Int32} {h j : Nat} {a : Int32} (hj : ¬ j = h) : upI c h a j = c j := if_neg hj
theorem upl0 {c : Nat → Int64} {h : Nat} {a b : Int64} : upL (upL c h a) (h + 1) b h = a := by
  unfold upL
  rw [if_neg (by omega), if_pos rfl]
theorem upl1 {c : Nat → Int64} {h : Nat} {a b : Int64} : upL (upL c h a) (h + 1) b (h + 1) = b := by
  unfold upL
  rw [if_pos rfl]
end
section
variable {E1 : CE} {cr : Nat} {E2 : RE} {w0 : W2} {u q d d1 d2 j V0 A B A' B' p : Nat} {T : TKc} {t : TKr} {x x' : CA} {y y' : RA} {s s' : HS} {K dp : Int32} {Q Q' : CA → RA → Nat → Prop} {r1 : Option (Unit × HS)} {r2 : Option (Int32 × HS)}
/-- what leaves lexer and LOCALS alone -/
theorem JJ.chg (J : JJ E1 cr E2 w0 u q T t x y) (h1 : x'.1 = x.1 ∧ x'.2.1 = x.2.1 ∧ ca_t x' = ca_t x ∧ ca_l x' = ca_l x) (h2 : y'.1 = y.1 ∧ y'.2.2.1 = y.2.2.1) (hb : ca_h x' ≤ 2 * u + 2 ∧ ca_k x' ≤ 2 * u + 2 ∧ ra_m y' ≤ 3 * u + 2 ∧ ra_v y' ≤ u ∧ ra_p y' ≤ u) : JJ E1 cr E2 w0 u q T t x' y' := by
  obtain ⟨k1, k2, k3, k4, k5, k6⟩ := J
  refine ⟨k1, ?_, ?_, ?_, ?_, hb.1, hb.2.1, by rw [h1.2.2.1]; exact k6.2.2.1, hb.2.2.1, hb.2.2.2.1, hb.2.2.2.2⟩
  · show JX _ _ _ _ _ _ _ x'.1 y'.1
    rw [h1.1, h2.1]
    exact k2
  · show x'.2.1 = -1
    rw [h1.2.1]
    exact k3
  · show y'.1.2.2.2.2.1 = -1
    rw [h2.1]
    exact k4
  · unfold Lw
    rw [h1.2.2.1, h1.2.2.2, show ra_t y' = ra_t y from congrArg (·.1) h2.2, show ra_l y' = ra_l y from congrArg (·.2) h2.2]
    exact k5
theorem OUT.ok {u' q' : Nat} {T' : TKc} {t' : TKr} (V : KC E1 s' x') (J : JJ E1 cr E2 w0 u' q' T' t' x' y') (h : Q x' y' u') : OUT E1 cr E2 w0 A B Q (some ((), s')) (some (1, pm cr E2 y')) := Or.inl ⟨s', x', y', u', q', T', t', rfl, rfl, V, J, h⟩
theorem OUT.no {qf : Nat} (h : DD E1 s' x' qf A B) (g : RF y' qf) : OUT E1 cr E2 w0 A B Q (some ((), s')) (some (0, pm cr E2 y')) := Or.inr ⟨s', x', y', qf, rfl, rfl, h, g⟩
theorem OUT.no' {qf : Nat} (h : DD E1 s' x' qf A B) (g : RF y' qf) (hA : A' ≤ A) (hB : B ≤ B') : OUT E1 cr E2 w0 A' B' Q (some ((), s')) (some (0, pm cr E2 y')) := OUT.no (h.mono hA hB) g
theorem OUT.bind {k1 : Unit → HS → Option (Unit × HS)} {k2 : Int32 → HS → Option (Int32 × HS)} (h : OUT E1 cr E2 w0 A B Q r1 r2) (ok : ∀ s' x' y' u' q' T' t', KC E1 s' x' → JJ E1 cr E2 w0 u' q' T' t' x' y' → Q x' y' u' → OUT E1 cr E2 w0 A' B' Q' (k1 () s') (k2 1 (pm cr E2 y'))) (bad : ∀ s' x' qf, DD E1 s' x' qf A B → ∃ s'' x'', k1 () s' = some ((), s'') ∧ DD E1 s'' x'' qf A' B') (h0 : ∀ s, k2 0 s = some (0, s)) : OUT E1 cr E2 w0 A' B' Q' (bnd r1 k1) (bnd r2 k2) := by
  rcases h with ⟨s', x', y', u', q', T', t', e1, e2, V, J, hq⟩ | ⟨s', x', y', qf, e1, e2, D, g⟩
  · rw [e1, e2, bnd_some, bnd_some]
    exact ok s' x' y' u' q' T' t' V J hq
  · rw [e1, e2, bnd_some, bnd_some, h0]
    obtain ⟨s'', x'', e3, D'⟩ := bad s' x' qf D
    rw [e3]
    exact OUT.no D' g
/-- the same at the end of both -/
theorem OUT.tail {k2 : Int32 → HS → Option (Int32 × HS)} (h : OUT E1 cr E2 w0 A B Q r1 r2) (hQ : ∀ x' y' u', Q x' y' u' → Q' x' y' u') (hA : A' ≤ A) (hB : B ≤ B') (hk : ∀ v s, v = 0 ∨ v = 1 → k2 v s = some (v, s)) : OUT E1 cr E2 w0 A' B' Q' (bnd r1 fun _ s => some ((), s)) (bnd r2 k2) := by
  rcases h with ⟨s', x', y', u', q', T', t', e1, e2, V, J, hq⟩ | ⟨s', x', y', qf, e1, e2, D, g⟩
  · rw [e1, e2, bnd_some, bnd_some, hk 1 _ (Or.inr rfl)]
    exact OUT.ok V J (hQ _ _ _ hq)
  · rw [e1, e2, bnd_some, bnd_some, hk 0 _ (Or.inl rfl)]
    exact OUT.no' D g hA hB
theorem OUT.mono (h : OUT E1 cr E2 w0 A B Q r1 r2) (hQ : ∀ x' y' u', Q x' y' u' → Q' x' y' u') (hA : A' ≤ A) (hB : B ≤ B') : OUT E1 cr E2 w0 A' B' Q' r1 r2 := by
  rcases h with ⟨s', x', y', u', q', T', t', e1, e2, V, J, hq⟩ | ⟨s', x', y', qf, e1, e2, D, g⟩
  · exact Or.inl ⟨s', x', y', u', q', T', t', e1, e2, V, J, hQ _ _ _ hq⟩
  · exact Or.inr ⟨s', x', y', qf, e1, e2, D.mono hA hB, g⟩
theorem okB_tail : ∀ (v : Int32) (s : HS), v = 0 ∨ v = 1 → okB v (some (v, s)) = some (v, s) := fun _ _ h => okB_of h
/-- a constant: one command and one value -/
theorem QE_const {v : V2} {x' : CA} {y' : RA} (hV : V0 ≤ ra_v y) (hx : AGc x x' ∧ ca_t x' = ca_t x ∧ ca_l x' = ca_l x ∧ ca_h x' = ca_h x + 1 ∧ ca_k x' ≤ ca_k x + 2 ∧ ca_s x' = 0) (hy : AGr y y' ∧ y'.2.2.1 = y.2.2.1 ∧ ra_p y' = ra_p y ∧ ra_m y' = ra_m y + 2 ∧ ra_v y' = ra_v y + 1 ∧ ra_g y' = 0) (hI : ImE (ca_h x) (ca_h x + 1) (ca_t x) 1 (ca_k x') (ca_c x') (ca_p x') (dK v)) (c1 : ra_s y' (ra_m y) = 0) (c2 : ra_s y' (ra_m y + 1) = nI (ra_v y)) (c3 : ∀ kd, VR kd v (ra_q y' (ra_v y))) : QE V0 x y u x' y' (u + 1) := by
  obtain ⟨x1, x2, x3, x4, x5, x6⟩ := hx
  obtain ⟨y1, y2, y3, y4, y5, y6⟩ := hy
  refine ⟨⟨Nat.lt_succ_self _, x1, y1, y3, ⟨x2, x3, y2⟩, by omega, by omega, by omega, by omega⟩, ⟨dK v, ?_, ?_⟩, ⟨by rw [x6, y6], Or.inl x6⟩⟩
  · rw [x4, Nat.add_sub_cancel_left]
    exact hI
  · rw [y4, Nat.add_sub_cancel_left]
    exact IrE_const (Nat.le_refl _) c1 c2 hV (by omega) c3
theorem ja_num (V : KC E1 s x) (J : JJ E1 cr E2 w0 u q T t x y) (hV : V0 ≤ ra_v y) (hk : T.2.1 = 3) : OUT E1 cr E2 w0 (ca_h x) B (QE V0 x y u) (x_Pars_atom_b (clP (d1 + 8)) (d1 + 8) 132 dp s) (x_Mod_simple_b (clM (d2 + 8)) (d2 + 8) 160 dp (pm cr E2 y)) := by
  have hb := J.2.2.2.2.2
  have n0 : ¬ T.2.1 = 0 := by rw [hk]; decide
  have n1 : ¬ T.2.1 = 1 := by rw [hk]; decide
  have hu := J.lt n0 n1
  have hp := J.pos n0 n1
  obtain ⟨q', T', t', Ja, _⟩ := J.adv n0 n1
  obtain ⟨s1, e1, V1⟩ := kc_add (d := d1 + 6) (op := 11) (ar := (ca_a x).2.2.2.2.1) J.eo V (by omega)
  obtain ⟨s2, e2, V2⟩ := kc_take (d := d1 + 2) (k := 3) J.eo V1 (J.kd.trans hk) hp.1 hp.2
  obtain ⟨s3, e3, V3⟩ := kc_asg (v := 0) J.eo V2
  have c : x_Pars_atom_b (clP (d1 + 8)) (d1 + 8) 132 dp s = some ((), s3) := by
    unfold x_Pars_atom_b
    rw [kc_gd V, kc_lx V, Option.bind_some, kc_kind V, bnd_some, J.kd, hk, if_neg (by decide), if_pos rfl, kc_dr V, Option.bind_some, kc_lx V, Option.bind_some, kc_number V, bnd_some, e1, bnd_some, e2, bnd_some, e3, Option.bind_some]
  have r : x_Mod_simple_b (clM (d2 + 8)) (d2 + 8) 160 dp (pm cr E2 y) = some (1, pm cr E2 (rav E2 t (raPut (raPut (raVal (raGiven y 0) (1, 0, (ra_b y).2.2.2.2.2.2, 0)) 0) (nI (ra_v y))))) := by
    unfold x_Mod_simple_b
    rw [y_gd J.er, y_p25 J.er, Option.bind_some, y_6 J.er, Option.bind_some, if_pos (J.ar.2.1.trans (J.tq.num.mpr hk)), y_11 J.er, Option.bind_some, y_value J.er (by show ra_v y < 1500; omega) (by show ra_m y + 1 < 6000; omega), bnd_some, y_step (p := t.1) J.er (by exact J.ar.1) J.tq.2.2.2, bnd_some]
  rw [c, r]
  refine OUT.ok V3 (Ja.chg ⟨rfl, rfl, rfl, rfl⟩ ⟨rfl, rfl⟩ ?_) (QE_const hV ⟨AGc.rfl'.add, rfl, rfl, rfl, Nat.le_add_right _ 2, rfl⟩ ⟨AGr.rfl'.val.put.put, rfl, rfl, rfl, rfl, rfl⟩ (ImE_number (Nat.le_refl _) up20 up21) up10 up11 (fun kd => ?_))
  · show ca_h x + 1 ≤ _ ∧ ca_k x ≤ _ ∧ ra_m y + 1 + 1 ≤ _ ∧ ra_v y + 1 ≤ _ ∧ ra_p y ≤ _
    omega
  · show VR kd (s_Cell_headOf 1, (ca_a x).2.2.2.2.1.toInt64) (upQ (ra_q y) (ra_v y) (1, 0, (ra_b y).2.2.2.2.2.2, 0) (ra_v y))
    rw [upQ_at, J.ar.2.2.2.2, J.tq.nu hk, show (ca_a x).2.2.2.2.1 = T.2.2.1 from congrArg (·.1) J.2.1.2.1.2.2.2]
    exact VR.int
theorem ja_nil (V : KC E1 s x) (J : JJ E1 cr E2 w0 u q T t x y) (hV : V0 ≤ ra_v y) (hk : T.2.1 = 13) : OUT E1 cr E2 w0 (ca_h x) B (QE V0 x y u) (x_Pars_atom_b (clP (d1 + 8)) (d1 + 8) 132 dp s) (x_Mod_simple_b (clM (d2 + 8)) (d2 + 8) 160 dp (pm cr E2 y)) := by
  have hb := J.2.2.2.2.2
  have n0 : ¬ T.2.1 = 0 := by rw [hk]; decide
  have n1 : ¬ T.2.1 = 1 := by rw [hk]; decide
  have hu := J.lt n0 n1
  have hp := J.pos n0 n1
  obtain ⟨q', T', t', Ja, _⟩ := J.adv n0 n1
  obtain ⟨s1, e1, V1⟩ := kc_add (d := d1 + 6) (op := 10) (ar := 0) J.eo V (by omega)
  obtain ⟨s2, e2, V2⟩ := kc_take (d := d1 + 2) (k := 13) J.eo V1 (J.kd.trans hk) hp.1 hp.2
  obtain ⟨s3, e3, V3⟩ := kc_asg (v := 0) J.eo V2
  have c : x_Pars_atom_b (clP (d1 + 8)) (d1 + 8) 132 dp s = some ((), s3) := by
    unfold x_Pars_atom_b
    rw [kc_gd V, kc_lx V, Option.bind_some, kc_kind V, bnd_some, J.kd, hk, if_neg (by decide), if_neg (by decide), if_neg (by decide), if_pos rfl, kc_dr V, Option.bind_some, e1, bnd_some, e2, bnd_some, e3, Option.bind_some]
  have Jg : JJ E1 cr E2 w0 u q T t x (raGiven y 0) := J.chg ⟨rfl, rfl, rfl, rfl⟩ ⟨rfl, rfl⟩ (by show ca_h x ≤ _ ∧ ca_k x ≤ _ ∧ ra_m y ≤ _ ∧ ra_v y ≤ _ ∧ ra_p y ≤ _; omega)
  have r : x_Mod_simple_b (clM (d2 + 8)) (d2 + 8) 160 dp (pm cr E2 y) = some (1, pm cr E2 (rav E2 t (raPut (raPut (raVal (raGiven y 0) (0, 0, 0, 0)) 0) (nI (ra_v y))))) := by
    unfold x_Mod_simple_b
    rw [y_gd J.er, y_p25 J.er, Option.bind_some, y_6 J.er, Option.bind_some, if_neg (by show ¬ (ra_b y).2.1 = 3; rw [J.ar.2.1, J.tq.num, hk]; decide), Option.bind_some, if_neg (by show ¬ (ra_b y).2.1 = 4; rw [J.ar.2.1, J.tq.text, hk]; decide), Jg.is (d := d2 + 4) (K := 13) 10 rfl (by decide) rfl, bnd_some, if_pos hk, if_neg (by decide), y_value J.er (by show ra_v y < 1500; omega) (by show ra_m y + 1 < 6000; omega), bnd_some, y_step (p := t.1) J.er (by exact J.ar.1) J.tq.2.2.2, bnd_some]
  rw [c, r]
  refine OUT.ok V3 (Ja.chg ⟨rfl, rfl, rfl, rfl⟩ ⟨rfl, rfl⟩ ?_) (QE_const hV ⟨AGc.rfl'.add, rfl, rfl, rfl, Nat.le_add_right _ 2, rfl⟩ ⟨AGr.rfl'.val.put.put, rfl, rfl, rfl, rfl, rfl⟩ (ImE_nil (Nat.le_refl _) up20 up21) up10 up11 (fun kd => ?_))
  · show ca_h x + 1 ≤ _ ∧ ca_k x ≤ _ ∧ ra_m y + 1 + 1 ≤ _ ∧ ra_v y + 1 ≤ _ ∧ ra_p y ≤ _
    omega
  · show VR kd (0, 0) (upQ (ra_q y) (ra_v y) (0, 0, 0, 0) (ra_v y))
    rw [upQ_at]
    exact VR.nil
theorem y_aB {cr : Nat} {E : RE} {y : RA} {j : Nat} (h : EOR cr E) (hj : j < 1500) : aB (pm cr E y) 161 (nI j) = some (re_g E j) := by
  have b := cl0 (show j < 2 ^ 31 by omega)
  have e := aB_of (s := pm cr E y) (a := 161) (P161 (y := y) h) (by decide) (Nat.lt_of_lt_of_le (by decide) h.2.1) b.1 (by rw [b.2]; exact hj)
  rw [b.2] at e
  exact e
theorem r_txt {n : Nat} (J : JJ E1 cr E2 w0 u q T t x y) (hk : T.2.1 = 4) (hn : n ≤ 16) (ht : t.1 = q + n + 2) (htx : txB (re_g E2) (q + 1) n) (hm : ra_m y + 1 < 6000) (hv : ra_v y < 1500) : x_Mod_simple_b (clM (d2 + 8)) (d2 + 8) 160 dp (pm cr E2 y) = some (1, pm cr E2 (rav E2 t (raPut (raPut (raVal (raGiven y 0) (T8 (nmL (re_g E2) (q + 1) n))) 0) (nI (ra_v y))))) := by
  have hL := J.er.1
  have htL := J.tq.2.2.2
  unfold x_Mod_simple_b
  rw [y_gd J.er, y_p25 J.er, Option.bind_some, y_6 J.er, Option.bind_some, if_neg (by show ¬ (ra_b y).2.1 = 3; rw [J.ar.2.1, J.tq.num, hk]; decide), Option.bind_some, if_pos (by show (ra_b y).2.1 = 4; rw [J.ar.2.1, J.tq.text, hk]), y_22 J.er, Option.bind_some, y_c1 J.er, Option.bind_some, Option.bind_some, y_c3 J.er, Option.bind_some, e_set (P_va J.er) hv, bnd_some]
  show ((gI (re_n E2, vUp (PM cr E2 (raGiven y 0)) _ _ _, re_u E2) 160 14 7).bind _) = _
  rw [P_vu J.er, y_7 J.er, Option.bind_some]
  have f0 : (ra_b (raQ (raGiven y 0) (upQ (ra_q (raGiven y 0)) (ra_v (raGiven y 0)) (2, 0, 0, 0)))).2.2.1 + 1 = nI (q + 1 + 0) := by
    show (ra_b y).2.2.1 + 1 = _
    rw [J.ar.2.2.1, nI_succ]
  rw [f0]
  refine loop_ind (fun z r => ∀ i, i ≤ n → z = (nI (q + 1 + i), pm cr E2 (raQ (raGiven y 0) (upQ (ra_q y) (ra_v y) (T8 (nmL (re_g E2) (q + 1) i))))) → r = some (1, pm cr E2 (rav E2 t (raPut (raPut (raVal (raGiven y 0) (T8 (nmL (re_g E2) (q + 1) n))) 0) (nI (ra_v y)))))) (fun z => t.1 - z.1.toNatClampNeg) (fun again z ih i hi hz => ?_) FU _ (by rw [FU_eq]; omega) 0 (Nat.zero_le _) (by rw [show nmL (re_g E2) (q + 1) 0 = [] from rfl, t8_nil])
  subst hz
  dsimp only
  rw [y_8 J.er, Option.bind_some]
  have e8 : (ra_b (raQ (raGiven y 0) (upQ (ra_q y) (ra_v y) (T8 (nmL (re_g E2) (q + 1) i))))).2.2.2.1 - 1 = nI (q + 1 + n) := by
    show (ra_b y).2.2.2.1 - 1 = _
    rw [J.ar.2.2.2.1, ht, show q + n + 2 = q + 1 + n + 1 by omega, nI_succ, Int32.add_sub_cancel]
  rw [e8]
  by_cases c : n ≤ i
  · have : i = n := by omega
    subst this
    rw [if_pos (Int32.le_refl _), y_22 J.er, Option.bind_some, y_c3 J.er, Option.bind_some, y_put2 J.er (by exact hm), bnd_some, y_22 J.er, Option.bind_some, y_c3 J.er, Option.bind_some]
    show ((pV _ _ _ _ (.int (nI (ra_v y) + 1))).bind _) = _
    rw [← nI_succ, y_pc3 J.er, Option.bind_some, y_step (p := t.1) J.er (by exact J.ar.1) htL, bnd_some]
  · rw [if_neg (nI_ge (b := q + 1 + n) (show q + 1 + i < q + 1 + n by omega) (by omega)), y_22 J.er, Option.bind_some, y_c1 J.er, Option.bind_some, Option.bind_some, y_c3 J.er, Option.bind_some, y_0 J.er, Option.bind_some, y_aB J.er (by omega), Option.bind_some, e_ad (P_va J.er) hv, bnd_some]
    show again (_, (re_n E2, vUp (PM cr E2 _) _ _ _, re_u E2)) = _
    rw [P_vu J.er]
    refine ih _ ?_ (i + 1) (by omega) ?_
    · dsimp only
      rw [← nI_succ, nI_clamp (by omega), nI_clamp (by omega)]
      omega
    · have h1 : txB (re_g E2) (q + 1) i := fun j hj => htx j (by omega)
      have e9 := t8_app (w := nmL (re_g E2) (q + 1) i) (x := (re_g E2 (q + 1 + i)).toNatClampNeg) (txB_ok h1) (by
        have := htx i (by omega)
        have e : (re_g E2 (q + 1 + i)).toNatClampNeg = (re_g E2 (q + 1 + i)).toInt.toNat := rfl
        rw [e]
        omega) (by rw [nmL_len]; omega)
      rw [← nmL_snoc, ← txB_nI htx (by omega)] at e9
      rw [← nI_succ]
      show (nI (q + 1 + i + 1), pm cr E2 (raQ (raGiven y 0) (upQ (upQ (ra_q y) (ra_v y) (T8 (nmL (re_g E2) (q + 1) i))) (ra_v y) (vAd (upQ (ra_q y) (ra_v y) (T8 (nmL (re_g E2) (q + 1) i)) (ra_v y)) (re_g E2 (q + 1 + i)))))) = _
      rw [upQ_at, upQ_up, ← e9]
      rfl
theorem ja_text (V : KC E1 s x) (J : JJ E1 cr E2 w0 u q T t x y) (hV : V0 ≤ ra_v y) (hk : T.2.1 = 4) : OUT E1 cr E2 w0 (ca_h x) B (QE V0 x y u) (x_Pars_atom_b (clP (d1 + 8)) (d1 + 8) 132 dp s) (x_Mod_simple_b (clM (d2 + 8)) (d2 + 8) 160 dp (pm cr E2 y)) := by
  have hb := J.2.2.2.2.2
  have n0 : ¬ T.2.1 = 0 := by rw [hk]; decide
  have n1 : ¬ T.2.1 = 1 := by rw [hk]; decide
  have hu := J.lt n0 n1
  have hp := J.pos n0 n1
  obtain ⟨n, hn, ht, htx, hT⟩ := J.tq.tx hk
  have ea : (ca_a x).2.2.2.2.2.1 = T.2.2.2.1 ∧ (ca_a x).2.2.2.2.2.2 = T.2.2.2.2 := ⟨congrArg (·.2.1) J.2.1.2.1.2.2.2, congrArg (·.2.2) J.2.1.2.1.2.2.2⟩
  obtain ⟨q', T', t', Ja, _⟩ := J.adv n0 n1
  obtain ⟨s0, e0, V0'⟩ := kc_keep (d := d1 + 6) (y := (ca_a x).2.2.2.2.2.1) (z := (ca_a x).2.2.2.2.2.2) J.eo V (by omega)
  obtain ⟨s1, e1, V1⟩ := kc_add (d := d1 + 6) (op := 12) (ar := nI (ca_k x)) J.eo V0' (by show ca_h x + 1 ≤ _; omega)
  obtain ⟨s2, e2, V2⟩ := kc_take (d := d1 + 2) (k := 4) J.eo V1 (J.kd.trans hk) hp.1 hp.2
  obtain ⟨s3, e3, V3⟩ := kc_asg (v := 0) J.eo V2
  have c : x_Pars_atom_b (clP (d1 + 8)) (d1 + 8) 132 dp s = some ((), s3) := by
    unfold x_Pars_atom_b
    rw [kc_gd V, kc_lx V, Option.bind_some, kc_kind V, bnd_some, J.kd, hk, if_neg (by decide), if_neg (by decide), if_pos rfl, kc_dr V, Option.bind_some, Option.bind_some, kc_lx V, Option.bind_some, kc_head V, bnd_some, kc_lx V, Option.bind_some, kc_tail V, bnd_some, e0, bnd_some, e1, bnd_some, e2, bnd_some, e3, Option.bind_some]
  rw [c, r_txt J hk hn ht htx (by omega) (by omega)]
  refine OUT.ok V3 (Ja.chg ⟨rfl, rfl, rfl, rfl⟩ ⟨rfl, rfl⟩ ?_) (QE_const hV ⟨AGc.rfl'.keep.add, rfl, rfl, rfl, Nat.le_refl _, rfl⟩ ⟨AGr.rfl'.val.put.put, rfl, rfl, rfl, rfl, rfl⟩ (ImE_text (p := ca_k x) (v := T7 (nmL (re_g E2) (q + 1) n)) (Nat.le_refl _) up20 up21 (Nat.lt_succ_self _) (upl0.trans (by rw [ea.1, ← hT])) (upl1.trans (by rw [ea.2, ← hT]))) up10 up11 (fun kd => ?_))
  · show ca_h x + 1 ≤ _ ∧ ca_k x + 2 ≤ _ ∧ ra_m y + 1 + 1 ≤ _ ∧ ra_v y + 1 ≤ _ ∧ ra_p y ≤ _
    omega
  · show VR kd _ (upQ (ra_q y) (ra_v y) (T8 (nmL (re_g E2) (q + 1) n)) (ra_v y))
    rw [upQ_at]
    exact VR.text (txB_ok htx) (by rw [nmL_len]; exact hn)
end
