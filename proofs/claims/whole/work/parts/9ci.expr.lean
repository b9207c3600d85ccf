/-! every E: both parsers do alike -/
section
variable {E1 : CE} {cr : Nat} {E2 : RE} {w0 : W2} {u u1 u2 v1 q d d1 d2 j V0 A B A' B' p m CL i : Nat} {T : TKc} {t : TKr} {x x' x'' x1 x2 : CA} {y y' y'' y1 y2 : RA} {s s' : HS} {K dp op opr ar l t0 v : Int32} {w : Bool}
theorem j_l2e (HG : HSg E1 cr E2 w0 V0 p) (hp : p ≤ 16) (hd1 : 12 * (16 - p) + 28 ≤ d1) (hd2 : 12 * (16 - p) + 28 ≤ d2) : JE E1 cr E2 w0 V0 (4000 + 4 * (12 * (16 - p) + 29)) (fun s => x_Pars_level_b (clP d1) d1 132 2 (nI p) s) (fun s => x_Mod_either_b (clM d2) d2 160 (nI p) 2 s) := by
  intro s x y u q T t V J hV
  obtain ⟨d2, rfl⟩ : ∃ k, d2 = k + 1 := ⟨d2 - 1, by omega⟩
  have h := j_l2 (d1 := d1) (d2 := d2) HG hp hd1 (by omega) s x y u q T t V J hV
  dsimp only at h ⊢
  unfold x_Mod_either_b
  rw [y_gd J.er, if_pos rfl]
  rcases h with ⟨s', x', y', u', q', T', t', e1, e2, V', J', hq⟩ | ⟨s', x', y', qf, e1, e2, D, g⟩
  · rw [e1]
    refine Eq.mpr (congrArg (fun z => OUT _ _ _ _ _ _ _ _ (bnd z _)) e2) ?_
    rw [bnd_some, okB_of (Or.inr rfl)]
    exact OUT.ok V' J' hq
  · rw [e1]
    refine Eq.mpr (congrArg (fun z => OUT _ _ _ _ _ _ _ _ (bnd z _)) e2) ?_
    rw [bnd_some, okB_of (Or.inl rfl)]
    exact OUT.no D g
theorem j_lei (hl : (w = false ∧ l = 0 ∧ op = 0 ∧ K = 260) ∨ (w = true ∧ l = 1 ∧ op = 1 ∧ K = 259)) (hN : JE E1 cr E2 w0 V0 B (fun s => cU (clP (d1 + 8) 9 132 (l + 1) dp 0 s)) (fun s => clM (d2 + 8) 7 160 dp (op + 1) 0 s)) (hB : B ≤ 15000) : JE E1 cr E2 w0 V0 (B + 1) (fun s => x_Pars_level_b (clP (d1 + 8)) (d1 + 8) 132 l dp s) (fun s => x_Mod_either_b (clM (d2 + 8)) (d2 + 8) 160 dp op s) := by
  intro s x y u q T t V J hV
  have l4 : l ≤ 4 := by rcases hl with ⟨_, rfl, _, _⟩ | ⟨_, rfl, _, _⟩ <;> decide
  have l2 : ¬ l = 2 := by rcases hl with ⟨_, rfl, _, _⟩ | ⟨_, rfl, _, _⟩ <;> decide
  have l1 : ¬ -1 = l := by rcases hl with ⟨_, rfl, _, _⟩ | ⟨_, rfl, _, _⟩ <;> decide
  have o2 : ¬ op = 2 := by rcases hl with ⟨_, _, rfl, _⟩ | ⟨_, _, rfl, _⟩ <;> decide
  have f : 3000 ≤ FU := by rw [FU_eq]; decide
  have e1 : FU = FU - 1 + 1 := by omega
  dsimp only
  unfold x_Pars_level_b x_Mod_either_b
  rw [kc_gd V, if_pos l4, y_gd J.er, if_neg o2]
  refine OUT.bind (hN s x y u q T t V J hV) (fun s' x' y' u' q' T' t' V' J' hq => ?_) (fun s' x' qf D => ?_) (fun s => if_pos rfl)
  · rw [if_neg l2, if_neg (by decide)]
    have := j_eiloop (d1 := d1) (d2 := d2) hl hN hB 2000 0 0 (-1) s' x' y' u' q' T' t' (FU - 1) (FU - 1) (by omega) (by omega) (by omega) (by omega) (by omega) (by omega) V' J' (Nat.le_trans hV hq.1.2.2.1.2.2.1) (QX.start hq)
    rw [← e1] at this
    exact this
  · rw [if_neg l2]
    have := dd_lvB (M := FU - 1) (d := d1 + 8) (dp := dp) (t0 := 1500) (l := l) (v := 0) D (by decide) l1
    rw [← e1] at this
    exact ⟨s', x', this, D.mono (Nat.le_refl _) (Nat.le_succ _)⟩
theorem j_l1 (HG : HSg E1 cr E2 w0 V0 p) (hp : p ≤ 16) (hd1 : 12 * (16 - p) + 29 ≤ d1) (hd2 : 12 * (16 - p) + 29 ≤ d2) : JE E1 cr E2 w0 V0 (4000 + 4 * (12 * (16 - p) + 30)) (fun s => x_Pars_level_b (clP d1) d1 132 1 (nI p) s) (fun s => x_Mod_either_b (clM d2) d2 160 (nI p) 1 s) := by
  obtain ⟨d1, rfl⟩ : ∃ k, d1 = k + 8 := ⟨d1 - 8, by omega⟩
  obtain ⟨d2, rfl⟩ : ∃ k, d2 = k + 8 := ⟨d2 - 8, by omega⟩
  have hN : JE E1 cr E2 w0 V0 (4000 + 4 * (12 * (16 - p) + 29)) (fun s => cU (clP (d1 + 8) 9 132 (1 + 1) (nI p) 0 s)) (fun s => clM (d2 + 8) 7 160 (nI p) (1 + 1) 0 s) := by
    have := j_l2e (d1 := d1 + 7) (d2 := d2 + 7) HG hp (by omega) (by omega)
    intro s x y u q T t V J hV
    have k := this s x y u q T t V J hV
    dsimp only at k ⊢
    rw [c_lev]
    exact k
  have := j_lei (d1 := d1) (d2 := d2) (w := true) (l := 1) (op := 1) (K := 259) (dp := nI p) (Or.inr ⟨rfl, rfl, rfl, rfl⟩) hN (by omega)
  intro s x y u q T t V J hV
  exact (this s x y u q T t V J hV).mono (fun _ _ _ h => h) (Nat.le_refl _) (by omega)
theorem j_l0 (HG : HSg E1 cr E2 w0 V0 p) (hp : p ≤ 16) (hd1 : 12 * (16 - p) + 30 ≤ d1) (hd2 : 12 * (16 - p) + 30 ≤ d2) : JE E1 cr E2 w0 V0 (4000 + 4 * (12 * (16 - p) + 31)) (fun s => x_Pars_level_b (clP d1) d1 132 0 (nI p) s) (fun s => x_Mod_either_b (clM d2) d2 160 (nI p) 0 s) := by
  obtain ⟨d1, rfl⟩ : ∃ k, d1 = k + 8 := ⟨d1 - 8, by omega⟩
  obtain ⟨d2, rfl⟩ : ∃ k, d2 = k + 8 := ⟨d2 - 8, by omega⟩
  have hN : JE E1 cr E2 w0 V0 (4000 + 4 * (12 * (16 - p) + 30)) (fun s => cU (clP (d1 + 8) 9 132 (0 + 1) (nI p) 0 s)) (fun s => clM (d2 + 8) 7 160 (nI p) (0 + 1) 0 s) := by
    have := j_l1 (d1 := d1 + 7) (d2 := d2 + 7) HG hp (by omega) (by omega)
    intro s x y u q T t V J hV
    have k := this s x y u q T t V J hV
    dsimp only at k ⊢
    rw [c_lev]
    exact k
  have := j_lei (d1 := d1) (d2 := d2) (w := false) (l := 0) (op := 0) (K := 260) (dp := nI p) (Or.inl ⟨rfl, rfl, rfl, rfl⟩) hN (by omega)
  intro s x y u q T t V J hV
  exact (this s x y u q T t V J hV).mono (fun _ _ _ h => h) (Nat.le_refl _) (by omega)
theorem j_expr (HG : HSg E1 cr E2 w0 V0 p) (hp : p ≤ 16) : HX E1 cr E2 w0 V0 p := by
  intro d1 d2 hd1 hd2 s x y u q T t V J hV
  obtain ⟨d1, rfl⟩ : ∃ k, d1 = k + 2 := ⟨d1 - 2, by omega⟩
  obtain ⟨d2, rfl⟩ : ∃ k, d2 = k + 2 := ⟨d2 - 2, by omega⟩
  have h := j_l0 (d1 := d1) (d2 := d2) HG hp (by omega) (by omega) s x y u q T t V J hV
  dsimp only at h ⊢
  rw [c_exp]
  unfold x_Pars_expression_b
  rw [kc_gd V, c_lev]
  show OUT _ _ _ _ _ _ _ _ (x_Mod_expression_b (clM (d2 + 1)) (d2 + 1) 160 (nI p) (pm cr E2 y))
  unfold x_Mod_expression_b
  rw [y_gd J.er]
  exact h.tail (fun _ _ _ h => h) (Nat.le_refl _) (by omega) okB_tail
theorem j_all : ∀ n p, p + n = 16 → HSg E1 cr E2 w0 V0 p ∧ HX E1 cr E2 w0 V0 p
  | 0, p, h => by
    have s := j_signed (E1 := E1) (cr := cr) (E2 := E2) (w0 := w0) (V0 := V0) (p := p) (by omega) (fun h => by omega) (fun h => by omega)
    exact ⟨s, j_expr s (by omega)⟩
  | n + 1, p, h => by
    have k := j_all n (p + 1) (by omega)
    have s := j_signed (p := p) (by omega) (fun _ => k.2) (fun _ => k.1)
    exact ⟨s, j_expr s (by omega)⟩
theorem hx_all (hp : p ≤ 16) : HX E1 cr E2 w0 V0 p := (j_all (16 - p) p (by omega)).2
end
