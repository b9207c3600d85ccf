/-! RECORDS -/
def fldR (d : Nat) (el : HS → Option (Int32 × HS)) (k : HS → Option (Int32 × HS)) (s : HS) : Option (Int32 × HS) := (gI s 160 14 6).bind fun v6 => (if v6 = 1 then ((gR s 160 14 28).bind fun v7 => ((gI s 160 14 29).bind fun v8 => (bnd (x_Mod_name d 160 s) fun v10 s9 => (bnd (x_Mod_nameValue d 160 v10 s9) fun v12 s11 => ((sV s11 .int v7 v8 (.int v12)).bind fun s13 => ((gI s13 160 14 29).bind fun v14 => ((pV s13 160 14 29 (.int (v14 + 1))).bind fun s15 => (bnd (x_Mod_step d 160 s15) fun v17 s16 => (bnd (x_Mod_take d 160 42 s16) fun v19 s18 => (if v19 = 0 then (some (0, s18)) else (bnd (el s18) fun v21 s20 => (if v21 = 0 then (some (0, s20)) else (k s20))))))))))))) else (bnd (x_Mod_bad d 160 s) fun v23 s22 => (okB v23 (some (v23, s22)))))
def rcR (d : Nat) (el : HS → Option (Int32 × HS)) (fin : Int32 → HS → Option (Int32 × HS)) : (Int32 × HS → Option (Int32 × HS)) → Int32 × HS → Option (Int32 × HS) := fun again z => if z.1 = 0 then (bnd (x_Mod_is d 160 22 z.2) fun v s => (if v = 0 then (if z.1 ≤ 0 then fldR d el (fun s' => again (z.1 + 1, s')) s else (bnd (x_Mod_step d 160 s) fun _ s1 => fldR d el (fun s' => again (z.1 + 1, s')) s1)) else fin z.1 s)) else (bnd (x_Mod_is d 160 18 z.2) fun v s => (if v = 0 then fin z.1 s else (if z.1 ≤ 0 then fldR d el (fun s' => again (z.1 + 1, s')) s else (bnd (x_Mod_step d 160 s) fun _ s1 => fldR d el (fun s' => again (z.1 + 1, s')) s1))))
/-- one FIELD -/
def QF (V0 : Nat) (x : CA) (y : RA) (u : Nat) (x' : CA) (y' : RA) (u' : Nat) : Prop := u + 3 ≤ u' ∧ AGc x x' ∧ AGr y y' ∧ ra_p y' = ra_p y + 1 ∧ (ca_t x' = ca_t x ∧ ca_l x' = ca_l x ∧ y'.2.2.1 = y.2.2.1) ∧ (ca_h x' + 2 * u ≤ ca_h x + 2 * u' ∧ ca_k x' + 2 * u ≤ ca_k x + 2 * u' ∧ ra_m y' + 1 + 3 * u ≤ ra_m y + 3 * u' ∧ ra_v y' + u ≤ ra_v y + u') ∧ ∃ w p z D, okN w ∧ ca_h x + 1 ≤ ca_h x' ∧ ca_c x' (2 * ca_h x) = 12 ∧ ca_c x' (2 * ca_h x + 1) = nI p ∧ p + 1 < ca_k x' ∧ ca_p x' p = nF w ∧ ra_u y' (ra_p y) = nI z ∧ V0 ≤ z ∧ z < ra_v y' ∧ (ra_q y' z).2.2.1 = nV w ∧ ImE (ca_h x + 1) (ca_h x') (ca_t x) (u' - (u + 2)) (ca_k x') (ca_c x') (ca_p x') D ∧ IrE (ra_m y) (ra_m y') V0 (ra_v y') (ca_t x) (u' - (u + 2)) (ra_s y') (ra_q y') D
def QR (V0 m : Nat) (x : CA) (y : RA) (u : Nat) (x' : CA) (y' : RA) (u' : Nat) : Prop := (u ≤ u' ∧ 4 * m ≤ u' - u + 1 ∧ 3 * m ≤ u' - u) ∧ AGc x x' ∧ AGr y y' ∧ ra_p y' = ra_p y + m ∧ (ca_t x' = ca_t x ∧ ca_l x' = ca_l x ∧ y'.2.2.1 = y.2.2.1) ∧ (ca_h x' + 2 * u ≤ ca_h x + 2 * u' ∧ ca_k x' + 2 * u ≤ ca_k x + 2 * u' ∧ ra_m y' + m + 3 * u ≤ ra_m y + 3 * u' ∧ ra_v y' + u ≤ ra_v y + u') ∧ ∃ (ws : Nat → List Nat) (l : DL), ImP (ca_h x) (ca_h x') (ca_t x) (u' - u) (ca_k x') (ca_c x') (ca_p x') (2 * m) (asRc m (fun k => nF (ws k)) l) ∧ IrL (ra_m y) (ra_m y') V0 (ra_v y') (ca_t x) (u' - u) (ra_s y') (ra_q y') m l ∧ ∀ k, k < m → okN (ws k) ∧ ∃ z, ra_u y' (ra_p y + k) = nI z ∧ V0 ≤ z ∧ z < ra_v y' ∧ (ra_q y' z).2.2.1 = nV (ws k)
section
variable {E1 : CE} {cr : Nat} {E2 : RE} {w0 : W2} {u u1 u2 v1 q d d1 d2 j V0 A B A' B' p m CL i : Nat} {T : TKc} {t : TKr} {x x' x'' x1 x2 : CA} {y y' y'' y1 y2 : RA} {s s' : HS} {K dp op opr ar : Int32} {w : List Nat} {ex : HS → Option (Unit × HS)} {el : HS → Option (Int32 × HS)} {fin : Int32 → HS → Option (Int32 × HS)}
theorem QE.lex {a : LxS} {b : RLx} {u' : Nat} (h : QE V0 (caLex x a) (raLex y b) u x' y' u') : QE V0 x y u x' y' u' := h
theorem DD.lex {a : LxS} {qf : Nat} (h : DD E1 s x' qf (ca_h (caLex x a)) B) : DD E1 s x' qf (ca_h x) B := h
theorem QR.nil : QR V0 0 x y u x y u := ⟨⟨Nat.le_refl _, by omega, Nat.zero_le _⟩, AGc.rfl', AGr.rfl', rfl, ⟨rfl, rfl, rfl⟩, ⟨Nat.le_refl _, Nat.le_refl _, Nat.le_refl _, Nat.le_refl _⟩, fun _ => [], dNil, ImP_rc0, IrL_nil, fun k hk => absurd hk (Nat.not_lt_zero _)⟩
theorem QR.snoc (h : QR V0 m x y u x1 y1 u1) (g : QF V0 x1 y1 v1 x2 y2 u2) (hv : (m = 0 ∧ v1 = u1) ∨ (1 ≤ m ∧ v1 = u1 + 1)) : QR V0 (m + 1) x y u x2 y2 u2 := by
  obtain ⟨h1, h2, h3, h4, h5, h6, ws, l, h7, h8, h9⟩ := h
  obtain ⟨g1, g2, g3, g4, g5, g6, w, p, z, D, g7, g8, g9, g10, g11, g12, g13, g14, g15, g16, g17, g18⟩ := g
  refine ⟨⟨by omega, by omega, by omega⟩, h2.trans g2, h3.trans g3, by omega, ⟨g5.1.trans h5.1, g5.2.1.trans h5.2.1, g5.2.2.trans h5.2.2⟩, ⟨by omega, by omega, by omega, by omega⟩, fun i => if i = m then w else ws i, dSnoc m l D, ?_, ?_, fun k hk => ?_⟩
  · have e : (fun k => nF (if k = m then w else ws k)) = fun i => if i = m then nF w else nF (ws i) := by
      funext k
      by_cases c : k = m
      · rw [if_pos c, if_pos c]
      · rw [if_neg c, if_neg c]
    rw [e]
    rw [h5.1] at g17
    refine ImP_rcS (p := p) h2.1 g8 (by omega) (h7.ext (Nat.le_refl _) (by omega) g2.2.2.1 (fun j _ hj => g2.2.1 j hj) (fun j hj => g2.2.2.2 j hj)) g9 g10 g11 g12 ?_
    exact g17.ext (Nat.le_refl _) (by omega) (Nat.le_refl _) (fun _ _ _ => rfl) (fun _ _ => rfl)
  · refine IrL_snoc h3.1 g3.1 (h8.ext (Nat.le_refl _) (by omega) (Nat.le_refl _) g3.2.2.1 (fun j _ hj => g3.2.1 j hj) (fun j _ hj => g3.2.2.2.1 j hj)) ?_ (by omega)
    rw [h5.1] at g18
    exact g18.ext (Nat.le_refl _) (by omega) (Nat.le_refl _) (Nat.le_refl _) (fun _ _ _ => rfl) (fun _ _ _ => rfl)
  · dsimp only
    by_cases c : k = m
    · rw [if_pos c]
      exact ⟨g7, z, by rw [c, ← h4]; exact g13, g14, g15, g16⟩
    · rw [if_neg c]
      obtain ⟨a1, z', a2, a3, a4, a5⟩ := h9 k (by omega)
      exact ⟨a1, z', (g3.2.2.2.2.2 _ (by omega)).trans a2, a3, by have := g3.2.2.1; omega, by rw [g3.2.2.2.1 z' a4]; exact a5⟩
/-- a FIELD on both sides -/
def FEnd (E1 : CE) (cr : Nat) (E2 : RE) (w0 : W2) (V0 A B : Nat) (k : HS → Option (Int32 × HS)) (x : CA) (y : RA) (u : Nat) (r1 : Option (Unit × HS)) (r2 : Option (Int32 × HS)) : Prop := (∃ s' x' y' u' q' T' t', r1 = some ((), s') ∧ r2 = k (pm cr E2 y') ∧ KC E1 s' x' ∧ JJ E1 cr E2 w0 u' q' T' t' x' y' ∧ QF V0 x y u x' y' u') ∨ (∃ s' x' y' qf, r1 = some ((), s') ∧ r2 = some (0, pm cr E2 y') ∧ DD E1 s' x' qf A B ∧ RF y' qf)
theorem j_field {k : HS → Option (Int32 × HS)} {ex : HS → Option (Unit × HS)} (hB : 3104 ≤ B) (hB2 : B + 2 ≤ 15000) (hd : 11 ≤ d1 + 8) (hE : JE E1 cr E2 w0 V0 B (fun s => cU (clP (d1 + 8) 8 132 dp 0 0 s)) el) (V : KC E1 s x) (J : JJ E1 cr E2 w0 u q T t x y) (hV : V0 ≤ ra_v y) (hP : ra_p y ≤ u) : FEnd E1 cr E2 w0 V0 (ca_h x) (B + 2) k x y u (x_Pars_field_b (clP (d1 + 8)) (d1 + 8) 132 dp s) (fldR (d2 + 8) el k (pm cr E2 y)) := by
  have hb := J.2.2.2.2.2
  have hu := J.uq
  unfold x_Pars_field_b fldR
  rw [kc_gd V, kc_dr V, Option.bind_some, y_6 J.er, Option.bind_some, J.ar.2.1]
  by_cases c : T.2.1 = 2
  · have n0 : ¬ T.2.1 = 0 := by rw [c]; decide
    have n1 : ¬ T.2.1 = 1 := by rw [c]; decide
    have hlt := J.lt n0 n1
    have hw := (J.tq.nm c).1
    have nm := y_name (d := d2 + 8) J.er J.ar J.tq c
    obtain ⟨s1, e1, V1⟩ := jj_takeName (d := d1 + 1) V J c
    generalize nmL (re_g E2) q (t.1 - q) = w at hw e1 nm
    obtain ⟨s2, e2, V2⟩ := kc_keepName (d := d1 + 5) (y := nC w) J.eo V1 (by show ca_k x + 2 ≤ _; omega)
    obtain ⟨s3, e3, V3⟩ := kc_add (d := d1 + 6) (op := 12) (ar := nI (ca_k x)) J.eo V2 (by show ca_h x + 1 ≤ _; omega)
    rw [if_pos (J.tq.name.mpr c), y_28 J.er, Option.bind_some, y_29 J.er, Option.bind_some, nm, bnd_some, y_nv J.er (by omega), bnd_some, y_sU J.er (by omega), Option.bind_some, y_29 J.er, Option.bind_some]
    show FEnd _ _ _ _ _ _ _ _ _ _ _ _ ((pV _ _ _ _ (.int (nI (ra_p y) + 1))).bind _)
    rw [← nI_succ, y_p29 J.er, Option.bind_some]
    obtain ⟨q1, T1, t1, J1, _⟩ := J.adv n0 n1
    have J1' : JJ E1 cr E2 w0 (u + 1) q1 T1 t1 (caAdd (caKeep (cav E1 t x) (s_Cell_headOf 2 ||| nC w) 0) 12 (nI (ca_k x))) (rav E2 t (raPile (raPset (raVal y (1, 0, nV w, 0)) (ra_p y) (nI (ra_v y))) (ra_p y + 1))) := J1.chg ⟨rfl, rfl, rfl, rfl⟩ ⟨rfl, rfl⟩ (by
      show ca_h x + 1 ≤ _ ∧ ca_k x + 2 ≤ _ ∧ ra_m y ≤ _ ∧ ra_v y + 1 ≤ _ ∧ ra_p y + 1 ≤ _
      omega)
    rw [y_step (p := t.1) J.er (by exact J.ar.1) J.tq.2.2.2, bnd_some, e1, bnd_some, e2, bnd_some, show ca_k (cav E1 t x) = ca_k x from rfl, e3, bnd_some]
    have agr : AGr y (rav E2 t (raPile (raPset (raVal y (1, 0, nV w, 0)) (ra_p y) (nI (ra_v y))) (ra_p y + 1))) := (AGr.rfl'.val (z := (1, 0, nV w, 0))).trans ⟨Nat.le_refl _, fun _ _ => rfl, Nat.le_refl _, fun _ _ => rfl, Nat.le_succ _, fun j hj => by
      have hj' : j < ra_p y := hj
      show upI (ra_u y) (ra_p y) (nI (ra_v y)) j = ra_u y j
      exact upN (by omega)⟩
    have agc : AGc x (caAdd (caKeep (cav E1 t x) (s_Cell_headOf 2 ||| nC w) 0) 12 (nI (ca_k x))) := (AGc.rfl'.keep (z1 := s_Cell_headOf 2 ||| nC w) (z2 := 0)).add (op := 12) (ar := nI (ca_k x))
    by_cases c1 : T1.2.1 = 58
    · have m0 : ¬ T1.2.1 = 0 := by rw [c1]; decide
      have m1 : ¬ T1.2.1 = 1 := by rw [c1]; decide
      obtain ⟨s4, e4, V4⟩ := jj_take (d := d1 + 2) V3 J1' c1 (by decide) (by decide)
      obtain ⟨q2, T2, t2, J2, _⟩ := J1'.adv m0 m1
      rw [e4, bnd_some, jj_rtake (d := d2 + 2) (j := 42) J1' 15 rfl (by decide) c1, bnd_some, if_neg (by decide)]
      rcases hE s4 _ _ _ _ _ _ V4 J2 (by show V0 ≤ ra_v y + 1; omega) with ⟨s', x', y', u', q', T', t', r1, r2, V', J', hq⟩ | ⟨s', x', y', qf, r1, r2, D, g⟩
      · dsimp only at r1
        rw [r1, r2, bnd_some, bnd_some, if_neg (by decide)]
        obtain ⟨⟨g1, g2, g3, g4, g5, g6⟩, ⟨D, g7, g8⟩, _⟩ := hq.lex
        have g2' : AGc (caAdd (caKeep (cav E1 t x) (s_Cell_headOf 2 ||| nC w) 0) 12 (nI (ca_k x))) x' := g2
        have g3' : AGr (rav E2 t (raPile (raPset (raVal y (1, 0, nV w, 0)) (ra_p y) (nI (ra_v y))) (ra_p y + 1))) y' := g3
        have g4' : ra_p y' = ra_p y + 1 := g4
        have g6' : ca_h x' + 2 * (u + 1 + 1) ≤ ca_h x + 1 + 2 * u' ∧ ca_k x' + 2 * (u + 1 + 1) ≤ ca_k x + 2 + 2 * u' ∧ ra_m y' + 3 * (u + 1 + 1) ≤ ra_m y + 3 * u' ∧ ra_v y' + (u + 1 + 1) ≤ ra_v y + 1 + u' := g6
        have k1 : ca_k x + 2 ≤ ca_k x' := g2'.2.2.1
        have k2 : ra_v y + 1 ≤ ra_v y' := g3'.2.2.1
        have k3 : ca_h x + 1 ≤ ca_h x' := g2'.1
        refine Or.inl ⟨s', x', y', u', q', T', t', rfl, rfl, V', J', by omega, agc.trans g2', agr.trans g3', g4', g5, ⟨by omega, by omega, by omega, by omega⟩, w, ca_k x, ra_v y, D, hw, k3, ?_, ?_, by omega, ?_, ?_, hV, by omega, ?_, g7, g8⟩
        · exact (g2'.2.1 (2 * ca_h x) (by show _ < 2 * (ca_h x + 1); omega)).trans up20
        · exact (g2'.2.1 (2 * ca_h x + 1) (by show _ < 2 * (ca_h x + 1); omega)).trans up21
        · exact (g2'.2.2.2 (ca_k x) (by show _ < ca_k x + 2; omega)).trans upl0
        · exact (g3'.2.2.2.2.2 (ra_p y) (by show _ < ra_p y + 1; omega)).trans upA
        · rw [g3'.2.2.2.1 (ra_v y) (by show _ < ra_v y + 1; omega)]
          show (upQ (ra_q y) (ra_v y) _ (ra_v y)).2.2.1 = _
          rw [upQ_at]
      · dsimp only at r1
        rw [r1, r2, bnd_some, bnd_some, if_pos rfl]
        exact Or.inr ⟨s', x', y', qf, rfl, rfl, D.lex.mono (by show ca_h x ≤ ca_h x + 1; omega) (by omega), g⟩
    · obtain ⟨s4, e4, D4⟩ := jj_takeNo (d := d1 + 6) V3 J1' c1
      obtain ⟨s5, x5, e5, D5⟩ := dd_expr (d := d1 - 3) (dp := dp) D4
      rw [show d1 - 3 + 11 = d1 + 8 by omega] at e5
      rw [e4, bnd_some, e5, bnd_some, jj_rtakeNo (d := d2 + 2) (j := 42) J1' 15 rfl (by decide) c1, bnd_some, if_pos rfl]
      exact Or.inr ⟨s5, x5, _, _, rfl, rfl, D5.mono (by show ca_h x ≤ ca_h x + 1; omega) (by omega), J1'.rf⟩
  · obtain ⟨s1, n1, e1, D1⟩ := jj_takeNameNo (d := d1 + 5) V J c
    obtain ⟨s2, x2, n2, e2, D2⟩ := dd_keepName (d := d1 + 5) (y := n1) (D1.mono (Nat.le_refl _) (show 3100 ≤ B - 3 by omega)) (by omega)
    obtain ⟨s3, x3, e3, D3⟩ := dd_add (d := d1 + 6) (op := 12) (ar := n2) D2 (by omega)
    obtain ⟨s4, x4, e4, D4⟩ := dd_take (d := d1 + 6) (k := 58) D3 (by decide)
    obtain ⟨s5, x5, e5, D5⟩ := dd_expr (d := d1 - 3) (dp := dp) D4
    rw [show d1 - 3 + 11 = d1 + 8 by omega] at e5
    rw [if_neg (fun h => c (J.tq.name.mp h)), e1, bnd_some, e2, bnd_some, e3, bnd_some, e4, bnd_some, e5, bnd_some, jj_bad J, bnd_some, okB_of (Or.inl rfl)]
    exact Or.inr ⟨s5, x5, _, _, rfl, rfl, D5.mono (Nat.le_refl _) (by omega), J.rf⟩
end
