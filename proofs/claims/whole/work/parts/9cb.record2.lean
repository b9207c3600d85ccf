section
variable {E1 : CE} {cr : Nat} {E2 : RE} {w0 : W2} {u u1 u2 v1 q d d1 d2 j V0 A B A' B' p m CL i : Nat} {T : TKc} {t : TKr} {x x' x'' x1 x2 : CA} {y y' y'' y1 y2 : RA} {s s' : HS} {K dp op opr ar : Int32} {w : List Nat} {ex : HS → Option (Unit × HS)} {el : HS → Option (Int32 × HS)} {fin : Int32 → HS → Option (Int32 × HS)}
def REnd (E1 : CE) (cr : Nat) (E2 : RE) (w0 : W2) (V0 B d1 : Nat) (fin : Int32 → HS → Option (Int32 × HS)) (x : CA) (y : RA) (u : Nat) (r1 r2 : Option (Int32 × HS)) : Prop := (∃ m s' x' y' u' q' T' t', KC E1 s' x' ∧ JJ E1 cr E2 w0 u' q' T' t' x' y' ∧ QR V0 m x y u x' y' u' ∧ r1 = (bnd (x_Pars_take d1 132 125 s') fun _ s => some (nI m, s)) ∧ r2 = fin (nI m) (pm cr E2 y')) ∨ (∃ s' x' y' qf v, r1 = some (v, s') ∧ r2 = some (0, pm cr E2 y') ∧ DD E1 s' x' qf (ca_h x) B ∧ RF y' qf)
theorem j_rloop (hF : ∀ (k : HS → Option (Int32 × HS)) s x y u q T t, KC E1 s x → JJ E1 cr E2 w0 u q T t x y → V0 ≤ ra_v y → FEnd E1 cr E2 w0 V0 (ca_h x) B k x y u (ex s) (fldR (d2 + 8) el k (pm cr E2 y))) : ∀ n m s1 x1 y1 u1 q1 T1 t1 M1 M2, 1500 - u1 < n → 1500 - u1 < M1 → 1500 - u1 < M2 → 1 ≤ m → KC E1 s1 x1 → JJ E1 cr E2 w0 u1 q1 T1 t1 x1 y1 → V0 ≤ ra_v y1 → QR V0 m x y u x1 y1 u1 → REnd E1 cr E2 w0 V0 B (d1 + 8) fin x y u (loopK (clB (d1 + 8) 125 ex) (M1 + 1) (nI m, s1)) (loopK (rcR (d2 + 8) el fin) (M2 + 1) (nI m, pm cr E2 y1)) := by
  intro n
  induction n with
  | zero => intro m s1 x1 y1 u1 q1 T1 t1 M1 M2 h; omega
  | succ n ih =>
    intro m s1 x1 y1 u1 q1 T1 t1 M1 M2 hn hM1 hM2 hm V J hV Q
    have hu := J.uq
    have hm2 : m ≤ 751 := by have := Q.1; omega
    rw [loopK_succ, loopK_succ]
    unfold clB rcR
    dsimp only
    rw [if_neg (show ¬ (1500 : Int32) ≤ nI m from nI_ge (b := 1500) (by omega) (by decide)), kc_lx V, Option.bind_some, kc_kind V, bnd_some, if_neg (nI_nz hm (by omega)), J.is (d := d2 + 4) (K := 44) 3 rfl (by decide) rfl, bnd_some, J.kd]
    by_cases c : T1.2.1 = 44
    · have n0 : ¬ T1.2.1 = 0 := by rw [c]; decide
      have n1 : ¬ T1.2.1 = 1 := by rw [c]; decide
      obtain ⟨s2, e2, V2⟩ := jj_take (d := d1 + 2) V J c (by decide) (by decide)
      obtain ⟨q2, T2, t2, J2, _⟩ := J.adv n0 n1
      have hu2 := J.lt n0 n1
      rw [if_pos c, e2, bnd_some, if_pos c, if_neg (by decide), if_neg (show ¬ nI m ≤ 0 from nI_ge (a := 0) (b := m) (by omega) (by omega)), jj_step (d := d2 + 3) J, bnd_some]
      rcases hF _ s2 _ _ _ _ _ _ V2 J2 hV with ⟨s', x', y', u', q', T', t', r1, r2, V', J', hq⟩ | ⟨s', x', y', qf, r1, r2, D, g⟩
      · rw [r1, r2, bnd_some, ← nI_succ]
        obtain ⟨M1, rfl⟩ : ∃ k, M1 = k + 1 := ⟨M1 - 1, by omega⟩
        obtain ⟨M2, rfl⟩ : ∃ k, M2 = k + 1 := ⟨M2 - 1, by omega⟩
        have hq' : QF V0 x1 y1 (u1 + 1) x' y' u' := hq
        have hlt := hq'.1
        have hle := J'.uq
        exact ih (m + 1) s' x' y' u' q' T' t' M1 M2 (by omega) (by omega) (by omega) (by omega) V' J' (by have := hq'.2.2.1.2.2.1; omega) (Q.snoc hq' (Or.inr ⟨hm, rfl⟩))
      · rw [r1, r2, bnd_some]
        obtain ⟨M1, rfl⟩ : ∃ k, M1 = k + 1 := ⟨M1 - 1, by omega⟩
        obtain ⟨s3, x3, e3, D3⟩ := dd_take (d := d1 + 6) (k := 125) D (by decide)
        rw [loopK_succ]
        refine Or.inr ⟨s3, x3, y', qf, nI m + 1, ?_, rfl, D3.mono (by have := Q.2.1.1; exact this) (Nat.le_refl _), g⟩
        dsimp only
        rw [← nI_succ, if_neg (show ¬ (1500 : Int32) ≤ nI (m + 1) from nI_ge (b := 1500) (by omega) (by decide)), kc_lx D.1, Option.bind_some, dd_kind D, bnd_some, if_neg (by decide), e3, bnd_some]
    · rw [if_neg c, if_neg c, if_pos rfl]
      exact Or.inl ⟨m, s1, x1, y1, u1, q1, T1, t1, V, J, Q, rfl, rfl⟩
theorem j_rlist (hF : ∀ (k : HS → Option (Int32 × HS)) s x y u q T t, KC E1 s x → JJ E1 cr E2 w0 u q T t x y → V0 ≤ ra_v y → FEnd E1 cr E2 w0 V0 (ca_h x) B k x y u (ex s) (fldR (d2 + 8) el k (pm cr E2 y))) (V : KC E1 s x) (J : JJ E1 cr E2 w0 u q T t x y) (hV : V0 ≤ ra_v y) : REnd E1 cr E2 w0 V0 B (d1 + 8) fin x y u (lsC (d1 + 8) 125 ex s) (loopK (rcR (d2 + 8) el fin) FU (0, pm cr E2 y)) := by
  have hu := J.uq
  rw [loopFU]
  unfold lsC
  have hR : rcR (d2 + 8) el fin (loopK (rcR (d2 + 8) el fin) (FU - 1)) (0, pm cr E2 y) = (if T.2.1 = 125 then fin 0 (pm cr E2 y) else fldR (d2 + 8) el (fun s' => loopK (rcR (d2 + 8) el fin) (FU - 1) (1, s')) (pm cr E2 y)) := by
    generalize loopK (rcR (d2 + 8) el fin) (FU - 1) = again
    unfold rcR
    dsimp only
    rw [if_pos rfl, J.is (d := d2 + 4) (K := 125) 5 rfl (by decide) rfl, bnd_some]
    by_cases c : T.2.1 = 125
    · rw [if_pos c, if_pos c, if_neg (by decide)]
    · rw [if_neg c, if_neg c, if_pos rfl, if_pos (by decide)]
      rfl
  rw [hR, kc_lx V, Option.bind_some, kc_kind V, bnd_some, J.kd]
  by_cases c : T.2.1 = 125
  · rw [if_pos c, if_pos c]
    exact Or.inl ⟨0, s, x, y, u, q, T, t, V, J, QR.nil, rfl, rfl⟩
  · rw [if_neg c, if_neg c]
    rcases hF (fun s' => loopK (rcR (d2 + 8) el fin) (FU - 1) (1, s')) s _ _ _ _ _ _ V J hV with ⟨s', x', y', u', q', T', t', r1, r2, V', J', hq⟩ | ⟨s', x', y', qf, r1, r2, D, g⟩
    · rw [r1, r2, bnd_some]
      have e1 : loopK (clB (d1 + 8) 125 ex) FU (1, s') = loopK (clB (d1 + 8) 125 ex) (FU - 1 + 1) (nI 1, s') := by
        rw [show FU - 1 + 1 = FU by rw [FU_eq]]
        rfl
      have e2 : loopK (rcR (d2 + 8) el fin) (FU - 1) (1, pm cr E2 y') = loopK (rcR (d2 + 8) el fin) (FU - 2 + 1) (nI 1, pm cr E2 y') := by
        rw [show FU - 2 + 1 = FU - 1 by rw [FU_eq]]
        rfl
      rw [e1]
      show REnd _ _ _ _ _ _ _ _ _ _ _ _ (loopK (rcR (d2 + 8) el fin) (FU - 1) (1, pm cr E2 y'))
      rw [e2]
      have f : 3000 ≤ FU := by rw [FU_eq]; decide
      have hu' := J'.uq
      exact j_rloop hF 2000 1 s' x' y' u' q' T' t' (FU - 1) (FU - 2) (by omega) (by omega) (by omega) (by omega) V' J' (by have := hq.2.2.1.2.2.1; omega) (QR.nil.snoc hq (Or.inl ⟨rfl, rfl⟩))
    · rw [r1, r2, bnd_some]
      obtain ⟨s3, x3, e3, D3⟩ := dd_take (d := d1 + 6) (k := 125) D (by decide)
      refine Or.inr ⟨s3, x3, y', qf, 1, ?_, rfl, D3, g⟩
      rw [loopFU]
      unfold clB
      dsimp only
      rw [if_neg (by decide), kc_lx D.1, Option.bind_some, dd_kind D, bnd_some, if_neg (by decide), e3, bnd_some]
/-- several steps, one after the other -/
def raPuts (y : RA) (f : Nat → Int32) : Nat → RA
  | 0 => y
  | k + 1 => raPut (raPuts y f k) (f k)
theorem raPuts_eq {f : Nat → Int32} : ∀ k, (raPuts y f k).1 = y.1 ∧ (raPuts y f k).2.2 = y.2.2 ∧ ra_m (raPuts y f k) = ra_m y + k ∧ ra_v (raPuts y f k) = ra_v y ∧ ra_q (raPuts y f k) = ra_q y ∧ (∀ j, j < ra_m y → ra_s (raPuts y f k) j = ra_s y j) ∧ ∀ j, j < k → ra_s (raPuts y f k) (ra_m y + j) = f j
  | 0 => ⟨rfl, rfl, rfl, rfl, rfl, fun _ _ => rfl, fun j hj => absurd hj (Nat.not_lt_zero _)⟩
  | k + 1 => by
    obtain ⟨h1, h2, h3, h4, h5, h6, h7⟩ := raPuts_eq (f := f) k
    refine ⟨h1, h2, ?_, h4, h5, fun j hj => ?_, fun j hj => ?_⟩
    · show ra_m (raPuts y f k) + 1 = _
      omega
    · show upI (ra_s (raPuts y f k)) (ra_m (raPuts y f k)) (f k) j = _
      rw [upN (by omega)]
      exact h6 j hj
    · show upI (ra_s (raPuts y f k)) (ra_m (raPuts y f k)) (f k) (ra_m y + j) = _
      by_cases c : j = k
      · rw [c, ← h3, upA]
      · rw [upN (by omega)]
        exact h7 j (by omega)
theorem r_114 {b : Nat} (h : EOR cr E2) (hm : ra_m y + 2 + m < 6000) (hm2 : m < 2 ^ 20) (hb : b + m ≤ 1500) : x_Mod_record_b114 (clM (d2 + 8)) (d2 + 8) 160 (nI b) (nI m) (pm cr E2 y) = bnd (x_Mod_take (d2 + 8) 160 22 (pm cr E2 (raGiven (raPile (raPuts (raPut (raPut y 20) (nI m)) (fun k => ra_u y (b + k)) m) b) 0))) fun v s => okB v (some (v, s)) := by
  unfold x_Mod_record_b114
  rw [y_put2 h (by omega), bnd_some]
  refine loop_ind (fun z r => ∀ k, k ≤ m → z = (nI k, pm cr E2 (raPuts (raPut (raPut y 20) (nI m)) (fun k => ra_u y (b + k)) k)) → r = _) (fun z => m - z.1.toNatClampNeg) (fun again z ih k hk hz => ?_) FU _ (by rw [FU_eq]; omega) 0 (Nat.zero_le _) rfl
  subst hz
  dsimp only
  obtain ⟨h1, h2, h3, h4, h5, h6, h7⟩ := raPuts_eq (y := raPut (raPut y 20) (nI m)) (f := fun k => ra_u y (b + k)) k
  have h3' : ra_m (raPuts (raPut (raPut y 20) (nI m)) (fun k => ra_u y (b + k)) k) = ra_m y + 1 + 1 + k := h3
  by_cases c : m ≤ k
  · have : k = m := by omega
    subst this
    rw [if_pos (Int32.le_refl _), y_p29 h, Option.bind_some, y_p25 h, Option.bind_some]
  · have e : ra_u (raPuts (raPut (raPut y 20) (nI m)) (fun k => ra_u y (b + k)) k) = ra_u y := congrArg (fun z => z.2.1.2) h2
    rw [if_neg (nI_ge (b := m) (show k < m by omega) (by omega)), y_28 h, Option.bind_some, nI_add, y_aU h (by omega), Option.bind_some, y_put h (by omega), bnd_some, e]
    refine ih _ ?_ (k + 1) (by omega) (by rw [← nI_succ]; rfl)
    dsimp only
    rw [← nI_succ, nI_clamp (by omega), nI_clamp (by omega)]
    omega
theorem ja_rec (hp : p ≤ 16) (HE : p < 16 → HX E1 cr E2 w0 V0 (p + 1)) (hd1 : 12 * (16 - p) + 12 ≤ d1) (hd2 : 12 * (16 - p) + 12 ≤ d2) (V : KC E1 s x) (J : JJ E1 cr E2 w0 u q T t x y) (hV : V0 ≤ ra_v y) (hk : T.2.1 = 123) : OUT E1 cr E2 w0 (ca_h x) (4000 + 4 * (12 * (16 - p) + 23)) (QE V0 x y u) (x_Pars_atom_b (clP (d1 + 10)) (d1 + 10) 132 (nI p) s) (x_Mod_simple_b (clM (d2 + 9)) (d2 + 9) 160 (nI p) (pm cr E2 y)) := by
  have Jg := J.gv 0
  have n0 : ¬ T.2.1 = 0 := by rw [hk]; decide
  have n1 : ¬ T.2.1 = 1 := by rw [hk]; decide
  have hu := J.lt n0 n1
  have c0 : x_Pars_atom_b (clP (d1 + 10)) (d1 + 10) 132 (nI p) s = bnd (x_Pars_fields_b (clP (d1 + 9)) (d1 + 9) 132 (nI p) s) fun v51 s50 => (bnd (x_Draft_add (d1 + 10) (ce_d E1) 21 v51 s50) fun v53 s52 => ((pV s52 132 5 7 (.int 0)).bind fun s54 => (some ((), s54)))) := by
    unfold x_Pars_atom_b
    rw [kc_gd V, kc_lx V, Option.bind_some, kc_kind V, bnd_some, J.kd, hk, if_neg (by decide), if_neg (by decide), if_neg (by decide), if_neg (by decide), if_neg (by decide), if_neg (by decide), if_neg (by decide), if_neg (by decide), if_neg (by decide), if_pos rfl, kc_dr V, Option.bind_some, c_fds]
  have dead : ∀ s' x' qf v, DD E1 s' x' qf (ca_h x) (4000 + 4 * (12 * (16 - p) + 20) + 2) → ∃ s'' x'', (bnd (some (v, s')) fun v51 s50 => (bnd (x_Draft_add (d1 + 10) (ce_d E1) 21 v51 s50) fun v53 s52 => ((pV s52 132 5 7 (.int 0)).bind fun s54 => (some ((), s54))))) = some ((), s'') ∧ DD E1 s'' x'' qf (ca_h x) (4000 + 4 * (12 * (16 - p) + 23)) := fun s' x' qf v D => by
    obtain ⟨s3, x3, e3, D3⟩ := dd_add (d := d1 + 8) (op := 21) (ar := v) D (by omega)
    obtain ⟨s4, x4, e4, D4⟩ := dd_asg (v := 0) D3
    refine ⟨s4, x4, ?_, D4.mono (Nat.le_refl _) (by omega)⟩
    rw [bnd_some, e3, bnd_some, e4, Option.bind_some]
  rw [c0, r_sim J (by rw [hk]; decide) (by rw [hk]; decide) (by rw [hk]; decide) (by rw [hk]; decide), if_neg (by rw [hk]; decide), if_pos (Or.inr (Or.inl hk))]
  unfold x_Pars_fields_b x_Mod_simple_b243
  rw [kc_gd V]
  by_cases c16 : p = 16
  · subst c16
    obtain ⟨s2, e2, D2⟩ := jj_openNo (d := d1 + 7) (dp := nI 16) V J (K := 123) (fun h => absurd h.2 (by decide))
    obtain ⟨s3, x3, e3, D3⟩ := dd_take (d := d1 + 7) (k := 125) D2 (by decide)
    obtain ⟨s4, x4, e4, D4⟩ := dead s3 x3 _ 0 (D3.mono (Nat.le_refl _) (by omega))
    rw [e2, bnd_some, if_pos rfl, e3, bnd_some, e4, if_pos (show nI 16 = 16 from rfl), jj_bad Jg, bnd_some, okB_of (Or.inl rfl)]
    exact OUT.no D4 Jg.rf
  · have hE := HE (by omega) (d1 + 8) (d2 + 8) (by omega) (by omega)
    have e16 : 16 - p = (16 - (p + 1)) + 1 := by omega
    obtain ⟨s2, e2, V2⟩ := jj_open (d := d1 + 3) (dp := nI p) V J hk (by decide) (by decide) (lt16 hp c16)
    obtain ⟨q2, T2, t2, J2, _⟩ := Jg.adv n0 n1
    rw [e2, bnd_some, if_neg (by decide), if_neg (en16 hp c16), Jg.is (d := d2 + 5) (K := 123) 4 rfl (by decide) rfl, bnd_some, if_pos hk, if_neg (by decide)]
    show OUT _ _ _ _ _ _ _ _ (bnd (x_Mod_record_b (clM (d2 + 8)) (d2 + 8) 160 (nI p + 1) (pm cr E2 (raGiven y 0))) _)
    unfold x_Mod_record_b
    rw [y_gd J.er, y_29 J.er, Option.bind_some, jj_step (d := d2 + 3) Jg, bnd_some, ← nI_succ]
    have LE := j_rlist (d1 := d1 + 1) (d2 := d2) (ex := fun s => cU (clP (d1 + 9) 19 132 (nI (p + 1)) 0 0 s)) (el := fun s => clM (d2 + 8) 6 160 (nI (p + 1)) 0 0 s) (fin := fun v s => x_Mod_record_b114 (clM (d2 + 8)) (d2 + 8) 160 (nI (ra_p y)) v s) (B := 4000 + 4 * (12 * (16 - (p + 1)) + 32) + 2) (fun k s x y u q T t V J hV => by
      rw [c_fld]
      exact j_field (d1 := d1) (d2 := d2) (ex := fun _ => none) (by omega) (by omega) (by omega) hE V J hV J.2.2.2.2.2.2.2.2.2.2) V2 J2 hV
    rcases LE with ⟨m, s', x', y', u', q', T', t', V', J', Q, k1, k2⟩ | ⟨s', x', y', qf, v, k1, k2, D, g⟩
    · have hQ := Q.1
      have hu' := J'.uq
      have hb' := J'.2.2.2.2.2
      have hb := J.2.2.2.2.2
      refine Eq.mpr (congrArg (fun z => OUT _ _ _ _ _ _ _ (bnd z _) _) k1) ?_
      refine Eq.mpr (congrArg (fun z => OUT _ _ _ _ _ _ _ _ (bnd z _)) k2) ?_
      obtain ⟨Q1, Q2, Q3, Q4, Q5, Q6, ws, l, Q7, Q8, Q9⟩ := Q
      have Q2' : AGc x x' := Q2
      have Q3' : AGr y y' := Q3
      have Q4' : ra_p y' = ra_p y + m := Q4
      have Q5' : ca_t x' = ca_t x ∧ ca_l x' = ca_l x ∧ y'.2.2.1 = y.2.2.1 := Q5
      have Q6' : ca_h x' + 2 * (u + 1) ≤ ca_h x + 2 * u' ∧ ca_k x' + 2 * (u + 1) ≤ ca_k x + 2 * u' ∧ ra_m y' + m + 3 * (u + 1) ≤ ra_m y + 3 * u' ∧ ra_v y' + (u + 1) ≤ ra_v y + u' := Q6
      have Q7' : ImP (ca_h x) (ca_h x') (ca_t x) (u' - (u + 1)) (ca_k x') (ca_c x') (ca_p x') (2 * m) (asRc m (fun k => nF (ws k)) l) := Q7
      have Q8' : IrL (ra_m y) (ra_m y') V0 (ra_v y') (ca_t x) (u' - (u + 1)) (ra_s y') (ra_q y') m l := Q8
      have Q9' : ∀ k, k < m → okN (ws k) ∧ ∃ z, ra_u y' (ra_p y + k) = nI z ∧ V0 ≤ z ∧ z < ra_v y' ∧ (ra_q y' z).2.2.1 = nV (ws k) := Q9
      dsimp only
      rw [r_114 (b := ra_p y) J.er (by omega) (by omega) (by omega)]
      obtain ⟨p1, p2, p3, p4, p5, p6, p7⟩ := raPuts_eq (y := raPut (raPut y' 20) (nI m)) (f := fun k => ra_u y' (ra_p y + k)) m
      generalize hyP : raPuts (raPut (raPut y' 20) (nI m)) (fun k => ra_u y' (ra_p y + k)) m = yP at p1 p2 p3 p4 p5 p6 p7 ⊢
      have p1' : yP.1 = y'.1 := p1
      have p2' : yP.2.2 = y'.2.2 := p2
      have p3' : ra_m yP = ra_m y' + 1 + 1 + m := p3
      have p4' : ra_v yP = ra_v y' := p4
      have p5' : ra_q yP = ra_q y' := p5
      have p6' : ∀ j, j < ra_m y' + 2 → ra_s yP j = upI (upI (ra_s y') (ra_m y') 20) (ra_m y' + 1) (nI m) j := p6
      have p7' : ∀ j, j < m → ra_s yP (ra_m y' + 2 + j) = ra_u y' (ra_p y + j) := p7
      have JP : TQ (re_g E2) (re_L E2) q' T' t' ∧ AtR q' t' (ra_b (raGiven (raPile yP (ra_p y)) 0)) ∧ (ra_b (raGiven (raPile yP (ra_p y)) 0)).2.2.2.2.1 < 0 := by
        show _ ∧ AtR q' t' yP.1 ∧ yP.1.2.2.2.2.1 < 0
        rw [p1']
        exact ⟨J'.tq, J'.ar, J'.fneg⟩
      by_cases c : T'.2.1 = 125
      · have m0 : ¬ T'.2.1 = 0 := by rw [c]; decide
        have m1 : ¬ T'.2.1 = 1 := by rw [c]; decide
        obtain ⟨s3, e3, V3⟩ := jj_take (d := d1 + 3) V' J' c (by decide) (by decide)
        obtain ⟨q3, T3, t3, J3, _⟩ := J'.adv m0 m1
        obtain ⟨s5, e5, V5⟩ := kc_add (d := d1 + 8) (op := 21) (ar := nI m) J.eo V3 (by show ca_h x' + 1 ≤ _; omega)
        obtain ⟨s6, e6, V6⟩ := kc_asg (v := 0) J.eo V5
        rw [e3, bnd_some, bnd_some, e5, bnd_some, e6, Option.bind_some, y_take (d := d2 + 2) (j := 22) J.er JP.2.1 JP.1 5 rfl (by decide) c, bnd_some, okB_of (Or.inr rfl), bnd_some, okB_of (Or.inr rfl)]
        have py : y'.2.2.1 = yP.2.2.1 := congrArg (·.1) p2'.symm
        have agr : AGr y (rav E2 t' (raGiven (raPile yP (ra_p y)) 0)) := by
          refine ⟨?_, fun j hj => ?_, ?_, fun j hj => ?_, Nat.le_refl _, fun j hj => ?_⟩
          · show ra_m y ≤ ra_m yP
            have := Q3'.1
            omega
          · show ra_s yP j = _
            have := Q3'.1
            rw [p6' j (by omega), upN (by omega), upN (by omega)]
            exact Q3'.2.1 j hj
          · show ra_v y ≤ ra_v yP
            rw [p4']
            exact Q3'.2.2.1
          · show ra_q yP j = _
            rw [p5']
            exact Q3'.2.2.2.1 j hj
          · show ra_u yP j = _
            rw [show ra_u yP = ra_u y' from congrArg (fun z => z.2.1.2) p2']
            exact Q3'.2.2.2.2.2 j hj
        refine OUT.ok V6 (J3.chg ⟨rfl, rfl, rfl, rfl⟩ ⟨?_, ?_⟩ ?_) ⟨⟨by omega, Q2'.add, agr, rfl, ⟨Q5'.1, Q5'.2.1, ?_⟩, ?_⟩, ⟨dRec m (fun k => nF (ws k)) l, ?_, ?_⟩, rfl, Or.inl rfl⟩
        · show advR (re_g E2) (re_L E2) t'.1 yP.1 = advR (re_g E2) (re_L E2) t'.1 y'.1
          rw [p1']
        · exact py.symm
        · show ca_h x' + 1 ≤ _ ∧ ca_k x' ≤ _ ∧ ra_m yP ≤ _ ∧ ra_v yP ≤ _ ∧ ra_p y ≤ _
          omega
        · show yP.2.2.1 = _
          exact py.symm.trans Q5'.2.2
        · show ca_h x' + 1 + 2 * u ≤ _ ∧ ca_k x' + 2 * u ≤ _ ∧ ra_m yP + 3 * u ≤ _ ∧ ra_v yP + u ≤ _
          omega
        · exact ImE_rec Q2'.1 (by omega) (by omega) (Q7'.ext (Nat.le_refl _) (by omega) (Nat.le_refl _) (fun j _ hj => (AGc.rfl'.add (op := 21) (ar := nI m)).2.1 j hj) (fun _ _ => rfl)) up20 up21
        · have := IrE_rec (ws := ws) (co := ra_s yP) (vo := ra_q yP) (va := V0) (kv := ra_v yP) (a := ra_m y) (b := ra_m y') (lcl := ca_t x) (need := u' + 1 - u) (l := l) Q3'.1 (by omega) (by omega) (by omega) (Q8'.ext (Nat.le_refl _) (by omega) (Nat.le_refl _) (by omega) (fun j _ hj => by rw [p6' j (by omega), upN (by omega), upN (by omega)]) (fun j _ _ => by rw [p5'])) ((p6' _ (by omega)).trans up10) ((p6' _ (by omega)).trans up11) (fun k hk => by
            obtain ⟨a1, z, a2, a3, a4, a5⟩ := Q9' k hk
            exact ⟨a1, z, (p7' k hk).trans a2, a3, by omega, by rw [p5']; exact a5⟩)
          rw [show ra_m y' + (2 + m) = ra_m yP by omega] at this
          exact this
      · obtain ⟨s3, e3, D3⟩ := jj_takeNo (d := d1 + 7) V' J' c
        obtain ⟨s4, x4, e4, D4⟩ := dead s3 _ _ (nI m) (D3.mono Q2'.1 (by omega))
        rw [e3, bnd_some, e4, y_takeNo (d := d2 + 2) (j := 22) J.er JP.2.1 JP.1 JP.2.2 5 rfl (by decide) c, bnd_some, okB_of (Or.inl rfl), bnd_some, okB_of (Or.inl rfl)]
        refine OUT.no D4 ?_
        show yP.1.2.2.1 = _
        rw [p1']
        exact J'.rf
    · refine Eq.mpr (congrArg (fun z => OUT _ _ _ _ _ _ _ (bnd z _) _) k1) ?_
      refine Eq.mpr (congrArg (fun z => OUT _ _ _ _ _ _ _ _ (bnd z _)) k2) ?_
      obtain ⟨s4, x4, e4, D4⟩ := dead s' x' qf v (D.mono (Nat.le_refl _) (by omega))
      rw [e4, bnd_some, okB_of (Or.inl rfl)]
      exact OUT.no D4 g
end
