/-! E in a list -/
def clB (d : Nat) (x2 : Int32) (ex : HS → Option (Unit × HS)) : (Int32 × HS → Option (Int32 × HS)) → Int32 × HS → Option (Int32 × HS) := fun again z => if 1500 ≤ z.1 then (bnd (x_Pars_take d 132 x2 z.2) fun _ s => some (z.1, s)) else ((gR z.2 132 5 0).bind fun v => (bnd (x_Lexer_kind d v z.2) fun v16 s15 => (if v16 = 44 then (bnd (x_Pars_take d 132 44 s15) fun _ s17 => (bnd (ex s17) fun _ s19 => again (z.1 + 1, s19))) else (bnd (x_Pars_take d 132 x2 s15) fun _ s21 => some (z.1, s21)))))
def lsC (d : Nat) (x2 : Int32) (ex : HS → Option (Unit × HS)) (s : HS) : Option (Int32 × HS) := (gR s 132 5 0).bind fun v5 => (bnd (x_Lexer_kind d v5 s) fun v7 s6 => (if v7 = x2 then (bnd (x_Pars_take d 132 x2 s6) fun _ s8 => some (0, s8)) else (bnd (ex s6) fun _ s10 => loopK (clB d x2 ex) FU (1, s10))))
def lsR (d CL : Nat) (el : HS → Option (Int32 × HS)) (fin : Int32 → HS → Option (Int32 × HS)) : (Int32 × HS → Option (Int32 × HS)) → Int32 × HS → Option (Int32 × HS) := fun again z => if z.1 = 0 then (bnd (x_Mod_is d 160 CL z.2) fun v s => (if v = 0 then (if z.1 ≤ 0 then (bnd (el s) fun v s' => (if v = 0 then some (0, s') else again (z.1 + 1, s'))) else (bnd (x_Mod_step d 160 s) fun _ s1 => (bnd (el s1) fun v s' => (if v = 0 then some (0, s') else again (z.1 + 1, s'))))) else fin z.1 s)) else (bnd (x_Mod_is d 160 18 z.2) fun v s => (if v = 0 then fin z.1 s else (if z.1 ≤ 0 then (bnd (el s) fun v s' => (if v = 0 then some (0, s') else again (z.1 + 1, s'))) else (bnd (x_Mod_step d 160 s) fun _ s1 => (bnd (el s1) fun v s' => (if v = 0 then some (0, s') else again (z.1 + 1, s')))))))
def QL (V0 m : Nat) (x : CA) (y : RA) (u : Nat) (x' : CA) (y' : RA) (u' : Nat) : Prop := (u ≤ u' ∧ 2 * m ≤ u' - u + 1 ∧ m ≤ u' - u) ∧ AGc x x' ∧ AGr y y' ∧ ra_p y' = ra_p y ∧ (ca_t x' = ca_t x ∧ ca_l x' = ca_l x ∧ y'.2.2.1 = y.2.2.1) ∧ (ca_h x' + 2 * u ≤ ca_h x + 2 * u' ∧ ca_k x' + 2 * u ≤ ca_k x + 2 * u' ∧ ra_m y' + 3 * u ≤ ra_m y + 3 * u' ∧ ra_v y' + u ≤ ra_v y + u') ∧ ∃ l : DL, ImL (ca_h x) (ca_h x') (ca_t x) (u' - u) (ca_k x') (ca_c x') (ca_p x') m l ∧ IrL (ra_m y) (ra_m y') V0 (ra_v y') (ca_t x) (u' - u) (ra_s y') (ra_q y') m l
section
variable {E1 : CE} {cr : Nat} {E2 : RE} {w0 : W2} {u q d d1 d2 j V0 A B A' B' p m CL i : Nat} {T : TKc} {t : TKr} {x x' x1 x2 : CA} {y y' y1 y2 : RA} {s s' : HS} {K dp : Int32} {ex : HS → Option (Unit × HS)} {el : HS → Option (Int32 × HS)} {fin : Int32 → HS → Option (Int32 × HS)}
theorem QL.nil : QL V0 0 x y u x y u := ⟨⟨Nat.le_refl _, Nat.zero_le _, Nat.zero_le _⟩, AGc.rfl', AGr.rfl', rfl, ⟨rfl, rfl, rfl⟩, ⟨Nat.le_refl _, Nat.le_refl _, Nat.le_refl _, Nat.le_refl _⟩, dNil, ImL_nil, IrL_nil⟩
/-- one more E; u1 is u1 or one more for the "," -/
theorem QL.snoc {u1 u2 v1 : Nat} (h : QL V0 m x y u x1 y1 u1) (g : QE V0 x1 y1 v1 x2 y2 u2) (hv : (m = 0 ∧ v1 = u1) ∨ (1 ≤ m ∧ v1 = u1 + 1)) : QL V0 (m + 1) x y u x2 y2 u2 := by
  obtain ⟨h1, h2, h3, h4, h5, h6, l, h7, h8⟩ := h
  obtain ⟨⟨g1, g2, g3, g4, g5, g6⟩, ⟨D, g7, g8⟩, _⟩ := g
  refine ⟨⟨by omega, by omega, by omega⟩, h2.trans g2, h3.trans g3, g4.trans h4, ⟨g5.1.trans h5.1, g5.2.1.trans h5.2.1, g5.2.2.trans h5.2.2⟩, ⟨by omega, by omega, by omega, by omega⟩, dSnoc m l D, ?_, ?_⟩
  · refine ImL_snoc h2.1 g2.1 (h7.ext (Nat.le_refl _) (by omega) g2.2.2.1 (fun j _ hj => g2.2.1 j hj) (fun j hj => g2.2.2.2 j hj)) ?_ (by omega)
    rw [h5.1] at g7
    exact g7.ext (Nat.le_refl _) (by omega) (Nat.le_refl _) (fun _ _ _ => rfl) (fun _ _ => rfl)
  · refine IrL_snoc h3.1 g3.1 (h8.ext (Nat.le_refl _) (by omega) (Nat.le_refl _) g3.2.2.1 (fun j _ hj => g3.2.1 j hj) (fun j _ hj => g3.2.2.2.1 j hj)) ?_ (by omega)
    rw [h5.1] at g8
    exact g8.ext (Nat.le_refl _) (by omega) (Nat.le_refl _) (Nat.le_refl _) (fun _ _ _ => rfl) (fun _ _ _ => rfl)
/-- where a list stops -/
def LEnd (E1 : CE) (cr : Nat) (E2 : RE) (w0 : W2) (V0 B d1 : Nat) (K : Int32) (fin : Int32 → HS → Option (Int32 × HS)) (x : CA) (y : RA) (u : Nat) (r1 r2 : Option (Int32 × HS)) : Prop := (∃ m s' x' y' u' q' T' t', KC E1 s' x' ∧ JJ E1 cr E2 w0 u' q' T' t' x' y' ∧ QL V0 m x y u x' y' u' ∧ r1 = (bnd (x_Pars_take d1 132 K s') fun _ s => some (nI m, s)) ∧ r2 = fin (nI m) (pm cr E2 y')) ∨ (∃ s' x' y' qf v, r1 = some (v, s') ∧ r2 = some (0, pm cr E2 y') ∧ DD E1 s' x' qf (ca_h x) B ∧ RF y' qf)
theorem nI_nz {m : Nat} (h1 : 1 ≤ m) (h2 : m < 2 ^ 31) : ¬ nI m = 0 := fun e => by
  have := nI_inj h2 (by decide : 0 < 2 ^ 31) (e.trans (show (0 : Int32) = nI 0 from rfl))
  omega
theorem j_loop (hE : JE E1 cr E2 w0 V0 B ex el) (hK0 : ¬ K = 0) (hK1 : ¬ K = 1) (hK4 : ¬ K = 44) : ∀ n m s1 x1 y1 u1 q1 T1 t1 M1 M2, 1500 - u1 < n → 1500 - u1 < M1 → 1500 - u1 < M2 → 1 ≤ m → KC E1 s1 x1 → JJ E1 cr E2 w0 u1 q1 T1 t1 x1 y1 → V0 ≤ ra_v y1 → QL V0 m x y u x1 y1 u1 → LEnd E1 cr E2 w0 V0 B (d1 + 8) K fin x y u (loopK (clB (d1 + 8) K ex) (M1 + 1) (nI m, s1)) (loopK (lsR (d2 + 8) CL el fin) (M2 + 1) (nI m, pm cr E2 y1)) := by
  intro n
  induction n with
  | zero => intro m s1 x1 y1 u1 q1 T1 t1 M1 M2 h; omega
  | succ n ih =>
    intro m s1 x1 y1 u1 q1 T1 t1 M1 M2 hn hM1 hM2 hm V J hV Q
    have hu := J.uq
    have hm2 : m ≤ 751 := by have := Q.1; omega
    rw [loopK_succ, loopK_succ]
    unfold clB lsR
    dsimp only
    rw [if_neg (show ¬ (1500 : Int32) ≤ nI m from nI_ge (b := 1500) (by omega) (by decide)), kc_lx V, Option.bind_some, kc_kind V, bnd_some, if_neg (nI_nz hm (by omega)), J.is (d := d2 + 4) (K := 44) 3 rfl (by decide) rfl, bnd_some, J.kd]
    by_cases c : T1.2.1 = 44
    · have n0 : ¬ T1.2.1 = 0 := by rw [c]; decide
      have n1 : ¬ T1.2.1 = 1 := by rw [c]; decide
      obtain ⟨s2, e2, V2⟩ := jj_take (d := d1 + 2) V J c (by decide) (by decide)
      obtain ⟨q2, T2, t2, J2, _⟩ := J.adv n0 n1
      have hu2 := J.lt n0 n1
      rw [if_pos c, e2, bnd_some, if_pos c, if_neg (by decide), if_neg (show ¬ nI m ≤ 0 from nI_ge (a := 0) (b := m) (by omega) (by omega)), jj_step (d := d2 + 3) J, bnd_some]
      rcases hE s2 _ _ _ _ _ _ V2 J2 hV with ⟨s', x', y', u', q', T', t', r1, r2, V', J', hq⟩ | ⟨s', x', y', qf, r1, r2, D, g⟩
      · rw [r1, r2, bnd_some, bnd_some, if_neg (by decide), ← nI_succ]
        obtain ⟨M1, rfl⟩ : ∃ k, M1 = k + 1 := ⟨M1 - 1, by omega⟩
        obtain ⟨M2, rfl⟩ : ∃ k, M2 = k + 1 := ⟨M2 - 1, by omega⟩
        have hq' : QE V0 x1 y1 (u1 + 1) x' y' u' := hq
        have hlt := hq'.1.1
        have hle := J'.uq
        exact ih (m + 1) s' x' y' u' q' T' t' M1 M2 (by omega) (by omega) (by omega) (by omega) V' J' (by have := hq'.1.2.2.1.2.2.1; omega) (Q.snoc hq' (Or.inr ⟨hm, rfl⟩))
      · rw [r1, r2, bnd_some, bnd_some, if_pos rfl]
        obtain ⟨M1, rfl⟩ : ∃ k, M1 = k + 1 := ⟨M1 - 1, by omega⟩
        obtain ⟨s3, x3, e3, D3⟩ := dd_take (d := d1 + 6) (k := K) D hK1
        rw [loopK_succ]
        refine Or.inr ⟨s3, x3, y', qf, nI m + 1, ?_, rfl, D3.mono (by have := Q.2.1.1; exact this) (Nat.le_refl _), g⟩
        dsimp only
        rw [← nI_succ, if_neg (show ¬ (1500 : Int32) ≤ nI (m + 1) from nI_ge (b := 1500) (by omega) (by decide)), kc_lx D.1, Option.bind_some, dd_kind D, bnd_some, if_neg (by decide), e3, bnd_some]
    · rw [if_neg c, if_neg c, if_pos rfl]
      exact Or.inl ⟨m, s1, x1, y1, u1, q1, T1, t1, V, J, Q, rfl, rfl⟩
theorem j_list (hE : JE E1 cr E2 w0 V0 B ex el) (hK0 : ¬ K = 0) (hK1 : ¬ K = 1) (hK4 : ¬ K = 44) (hj : CL = 2 * i + 12) (hi : i < 35) (hK : (kS.getD i (0, [])).1 = K) (V : KC E1 s x) (J : JJ E1 cr E2 w0 u q T t x y) (hV : V0 ≤ ra_v y) : LEnd E1 cr E2 w0 V0 B (d1 + 8) K fin x y u (lsC (d1 + 8) K ex s) (loopK (lsR (d2 + 8) CL el fin) FU (0, pm cr E2 y)) := by
  have hu := J.uq
  rw [loopFU]
  unfold lsC
  show LEnd _ _ _ _ _ _ _ _ _ _ _ _ _ (lsR (d2 + 8) CL el fin (loopK (lsR (d2 + 8) CL el fin) (FU - 1)) (0, pm cr E2 y))
  have hR : lsR (d2 + 8) CL el fin (loopK (lsR (d2 + 8) CL el fin) (FU - 1)) (0, pm cr E2 y) = (if T.2.1 = K then fin 0 (pm cr E2 y) else (bnd (el (pm cr E2 y)) fun v s' => (if v = 0 then some (0, s') else loopK (lsR (d2 + 8) CL el fin) (FU - 1) (1, s')))) := by
    generalize loopK (lsR (d2 + 8) CL el fin) (FU - 1) = again
    unfold lsR
    dsimp only
    rw [if_pos rfl, J.is (d := d2 + 4) (K := K) i hj hi hK, bnd_some]
    by_cases c : T.2.1 = K
    · rw [if_pos c, if_pos c, if_neg (by decide)]
    · rw [if_neg c, if_neg c, if_pos rfl, if_pos (by decide)]
      rfl
  rw [hR, kc_lx V, Option.bind_some, kc_kind V, bnd_some, J.kd]
  by_cases c : T.2.1 = K
  · rw [if_pos c, if_pos c]
    exact Or.inl ⟨0, s, x, y, u, q, T, t, V, J, QL.nil, rfl, rfl⟩
  · rw [if_neg c, if_neg c]
    rcases hE s _ _ _ _ _ _ V J hV with ⟨s', x', y', u', q', T', t', r1, r2, V', J', hq⟩ | ⟨s', x', y', qf, r1, r2, D, g⟩
    · rw [r1, r2, bnd_some, bnd_some, if_neg (by decide)]
      have e1 : loopK (clB (d1 + 8) K ex) FU (1, s') = loopK (clB (d1 + 8) K ex) (FU - 1 + 1) (nI 1, s') := by
        rw [show FU - 1 + 1 = FU by rw [FU_eq]]
        rfl
      have e2 : loopK (lsR (d2 + 8) CL el fin) (FU - 1) (1, pm cr E2 y') = loopK (lsR (d2 + 8) CL el fin) (FU - 2 + 1) (nI 1, pm cr E2 y') := by
        rw [show FU - 2 + 1 = FU - 1 by rw [FU_eq]]
        rfl
      rw [e1, e2]
      have f : 3000 ≤ FU := by rw [FU_eq]; decide
      have hu' := J'.uq
      exact j_loop hE hK0 hK1 hK4 2000 1 s' x' y' u' q' T' t' (FU - 1) (FU - 2) (by omega) (by omega) (by omega) (by omega) V' J' (by have := hq.1.2.2.1.2.2.1; omega) (QL.nil.snoc hq (Or.inl ⟨rfl, rfl⟩))
    · rw [r1, r2, bnd_some, bnd_some, if_pos rfl]
      obtain ⟨s3, x3, e3, D3⟩ := dd_take (d := d1 + 6) (k := K) D hK1
      refine Or.inr ⟨s3, x3, y', qf, 1, ?_, rfl, D3, g⟩
      rw [loopFU]
      unfold clB
      dsimp only
      rw [if_neg (by decide), kc_lx D.1, Option.bind_some, dd_kind D, bnd_some, if_neg (by decide), e3, bnd_some]
end
