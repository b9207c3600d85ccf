section
variable {E1 : CE} {cr : Nat} {E2 : RE} {w0 : W2} {u u1 u2 v1 q d d1 d2 j V0 A B A' B' p m CL i : Nat} {T : TKc} {t : TKr} {x x' x'' x1 x2 : CA} {y y' y'' y1 y2 : RA} {s s' : HS} {K dp op opr ar l t0 : Int32} {w : List Nat} {Q' : CA → RA → Nat → Prop} {ex : HS → Option (Unit × HS)} {el : HS → Option (Int32 × HS)}
theorem j_l5 (HG : HSg E1 cr E2 w0 V0 p) (hd1 : 12 * (16 - p) + 25 ≤ d1) (hd2 : 12 * (16 - p) + 24 ≤ d2) : JE E1 cr E2 w0 V0 (4000 + 4 * (12 * (16 - p) + 26)) (fun s => x_Pars_level_b (clP d1) d1 132 5 (nI p) s) (fun s => x_Mod_sum_II_b (clM d2) d2 160 (nI p) 2 s) := by
  intro s x y u q T t V J hV
  obtain ⟨d1, rfl⟩ : ∃ k, d1 = k + 1 := ⟨d1 - 1, by omega⟩
  obtain ⟨d2, rfl⟩ : ∃ k, d2 = k + 1 := ⟨d2 - 1, by omega⟩
  dsimp only
  unfold x_Pars_level_b x_Mod_sum_II_b
  rw [kc_gd V, if_neg (by decide), c_sgn, y_gd J.er, if_pos rfl]
  exact (HG d1 d2 (by omega) (by omega) s x y u q T t V J hV).tail (fun _ _ _ h => h) (Nat.le_refl _) (by omega) okB_tail
theorem j_lsum {P : Int32 → Prop} {x2' : Int32} (hl : 1 < l) (hl4 : l ≤ 4) (hl2 : ¬ l = 2) (hx2 : ¬ x2' = 2) (hl1 : ¬ -1 = l) (hset : ∀ K, lvOf K = l ↔ P K) (hP : ∀ K, P K → (cmOf K = 28 ∨ cmOf K = 29 ∨ cmOf K = 30 ∨ cmOf K = 31 ∨ cmOf K = 32 ∨ cmOf K = 33 ∨ cmOf K = 34 ∨ cmOf K = 35 ∨ cmOf K = 36) ∧ rB (cmOf K) = (9, K) ∧ ¬ K = 0 ∧ ¬ K = 1) (hR : ∀ {again : HS → Option (Int32 × HS)} {x : CA} {y : RA} {u q : Nat} {T : TKc} {t : TKr}, JJ E1 cr E2 w0 u q T t x y → (P T.2.1 → smB (clM (d2 + 8)) (d2 + 8) dp x2' again (pm cr E2 y) = smS (d2 + 8) dp x2' T.2.1 again (pm cr E2 y)) ∧ (¬ P T.2.1 → smB (clM (d2 + 8)) (d2 + 8) dp x2' again (pm cr E2 y) = some (1, pm cr E2 y))) (hN : JE E1 cr E2 w0 V0 B (fun s => cU (clP (d1 + 8) 9 132 (l + 1) dp 0 s)) (fun s => clM (d2 + 8) 9 160 dp (x2' + 1) 0 s)) (hB : B ≤ 15000) : JE E1 cr E2 w0 V0 (B + 1) (fun s => x_Pars_level_b (clP (d1 + 8)) (d1 + 8) 132 l dp s) (fun s => x_Mod_sum_II_b (clM (d2 + 8)) (d2 + 8) 160 dp x2' s) := by
  intro s x y u q T t V J hV
  dsimp only
  unfold x_Pars_level_b x_Mod_sum_II_b
  rw [kc_gd V, if_pos hl4, y_gd J.er, if_neg hx2]
  have f : 3000 ≤ FU := by rw [FU_eq]; decide
  have e1 : FU = FU - 1 + 1 := by omega
  refine OUT.bind (hN s x y u q T t V J hV) (fun s' x' y' u' q' T' t' V' J' hq => ?_) (fun s' x' qf D => ?_) (fun s => if_pos rfl)
  · rw [if_neg hl2, if_neg (by decide)]
    have := j_sumloop (d1 := d1) (d2 := d2) hl hl1 hset hP hR hN hB 2000 0 s' x' y' u' q' T' t' (FU - 1) (FU - 1) (by omega) (by omega) (by omega) (by omega) V' J' (Nat.le_trans hV hq.1.2.2.1.2.2.1) hq
    rw [← e1] at this
    exact this
  · rw [if_neg hl2]
    have := dd_lvB (M := FU - 1) (d := d1 + 8) (dp := dp) (t0 := 1500) (l := l) (v := 0) D (by decide) hl1
    rw [← e1] at this
    exact ⟨s', x', this, D.mono (Nat.le_refl _) (Nat.le_succ _)⟩
theorem j_l4 (HG : HSg E1 cr E2 w0 V0 p) (hp : p ≤ 16) (hd1 : 12 * (16 - p) + 26 ≤ d1) (hd2 : 12 * (16 - p) + 25 ≤ d2) : JE E1 cr E2 w0 V0 (4000 + 4 * (12 * (16 - p) + 27)) (fun s => x_Pars_level_b (clP d1) d1 132 4 (nI p) s) (fun s => x_Mod_sum_II_b (clM d2) d2 160 (nI p) 1 s) := by
  obtain ⟨d1, rfl⟩ : ∃ k, d1 = k + 8 := ⟨d1 - 8, by omega⟩
  obtain ⟨d2, rfl⟩ : ∃ k, d2 = k + 8 := ⟨d2 - 8, by omega⟩
  have hN : JE E1 cr E2 w0 V0 (4000 + 4 * (12 * (16 - p) + 26)) (fun s => cU (clP (d1 + 8) 9 132 (4 + 1) (nI p) 0 s)) (fun s => clM (d2 + 8) 9 160 (nI p) (1 + 1) 0 s) := by
    have := j_l5 (d1 := d1 + 7) (d2 := d2 + 7) HG (by omega) (by omega)
    intro s x y u q T t V J hV
    have k := this s x y u q T t V J hV
    dsimp only at k ⊢
    rw [c_lev]
    exact k
  have := j_lsum (d1 := d1) (d2 := d2) (l := 4) (x2' := 1) (dp := nI p) (P := fun K => K = 42 ∨ K = 47 ∨ K = 37) (by decide) (by decide) (by decide) (by decide) (by decide) (fun K => lvOf_4) (fun K h => by rcases h with h | h | h <;> (subst h; decide)) (fun {again x y u q T t} J => r_sm1 J) hN (by omega)
  intro s x y u q T t V J hV
  exact (this s x y u q T t V J hV).mono (fun _ _ _ h => h) (Nat.le_refl _) (by omega)
theorem j_l3 (HG : HSg E1 cr E2 w0 V0 p) (hp : p ≤ 16) (hd1 : 12 * (16 - p) + 27 ≤ d1) (hd2 : 12 * (16 - p) + 26 ≤ d2) : JE E1 cr E2 w0 V0 (4000 + 4 * (12 * (16 - p) + 28)) (fun s => x_Pars_level_b (clP d1) d1 132 3 (nI p) s) (fun s => x_Mod_sum_II_b (clM d2) d2 160 (nI p) 0 s) := by
  obtain ⟨d1, rfl⟩ : ∃ k, d1 = k + 8 := ⟨d1 - 8, by omega⟩
  obtain ⟨d2, rfl⟩ : ∃ k, d2 = k + 8 := ⟨d2 - 8, by omega⟩
  have hN : JE E1 cr E2 w0 V0 (4000 + 4 * (12 * (16 - p) + 27)) (fun s => cU (clP (d1 + 8) 9 132 (3 + 1) (nI p) 0 s)) (fun s => clM (d2 + 8) 9 160 (nI p) (0 + 1) 0 s) := by
    have := j_l4 (d1 := d1 + 7) (d2 := d2 + 7) HG hp (by omega) (by omega)
    intro s x y u q T t V J hV
    have k := this s x y u q T t V J hV
    dsimp only at k ⊢
    rw [c_lev]
    exact k
  have := j_lsum (d1 := d1) (d2 := d2) (l := 3) (x2' := 0) (dp := nI p) (P := fun K => K = 43 ∨ K = 45) (by decide) (by decide) (by decide) (by decide) (by decide) (fun K => lvOf_3) (fun K h => by rcases h with h | h <;> (subst h; decide)) (fun {again x y u q T t} J => r_sm0 J) hN (by omega)
  intro s x y u q T t V J hV
  exact (this s x y u q T t V J hV).mono (fun _ _ _ h => h) (Nat.le_refl _) (by omega)
/-- what the reference does at a sign of comparison -/
theorem r_cmp (J : JJ E1 cr E2 w0 u q T t x y) {c : CLT} : (if T.2.1 = 256 ∨ T.2.1 = 257 ∨ T.2.1 = 60 ∨ T.2.1 = 258 then (bnd (x_Mod_step (d2 + 8) 160 (pm cr E2 y)) fun _ s11 => (bnd (c 9 160 dp 0 0 s11) fun v14 s13 => (if v14 = 0 then some (0, s13) else (bnd (x_Mod_put_II (d2 + 8) 160 (rB (cmOf T.2.1)).1 (rB (cmOf T.2.1)).2 s13) fun _ s15 => ((pV s15 160 14 25 (.int 0)).bind fun s17 => some (1, s17)))))) else some (1, pm cr E2 y)) = (bnd (x_Mod_is (d2 + 8) 160 56 (pm cr E2 y)) fun v4 s3 => (if v4 = 0 then (bnd (x_Mod_is (d2 + 8) 160 58 s3) fun v6 s5 => (if v6 = 0 then (bnd (x_Mod_is (d2 + 8) 160 60 s5) fun v8 s7 => (if v8 = 0 then (bnd (x_Mod_is (d2 + 8) 160 62 s7) fun v10 s9 => (if v10 = 0 then (x_Mod_compared_b68 c (d2 + 8) 160 dp (-1) s9) else (x_Mod_compared_b68 c (d2 + 8) 160 dp 3 s9))) else (x_Mod_compared_b68 c (d2 + 8) 160 dp 2 s7))) else (x_Mod_compared_b68 c (d2 + 8) 160 dp 1 s5))) else (x_Mod_compared_b68 c (d2 + 8) 160 dp 0 s3))) := by
  have is1 := J.is (d := d2 + 4) (K := 256) 22 (j := 56) rfl (by decide) rfl
  have is2 := J.is (d := d2 + 4) (K := 257) 23 (j := 58) rfl (by decide) rfl
  have is3 := J.is (d := d2 + 4) (K := 60) 24 (j := 60) rfl (by decide) rfl
  have is4 := J.is (d := d2 + 4) (K := 258) 25 (j := 62) rfl (by decide) rfl
  rw [is1, bnd_some]
  by_cases c1 : T.2.1 = 256
  · rw [if_pos (Or.inl c1), if_pos c1, if_neg (by decide), c1]
    rfl
  · rw [if_neg c1, if_pos rfl, is2, bnd_some]
    by_cases c2 : T.2.1 = 257
    · rw [if_pos (Or.inr (Or.inl c2)), if_pos c2, if_neg (by decide), c2]
      rfl
    · rw [if_neg c2, if_pos rfl, is3, bnd_some]
      by_cases c3 : T.2.1 = 60
      · rw [if_pos (Or.inr (Or.inr (Or.inl c3))), if_pos c3, if_neg (by decide), c3]
        rfl
      · rw [if_neg c3, if_pos rfl, is4, bnd_some]
        by_cases c4 : T.2.1 = 258
        · rw [if_pos (Or.inr (Or.inr (Or.inr c4))), if_pos c4, if_neg (by decide), c4]
          rfl
        · rw [if_neg c4, if_pos rfl, if_neg (by rintro (h | h | h | h) <;> contradiction)]
          rfl
theorem j_l2 (HG : HSg E1 cr E2 w0 V0 p) (hp : p ≤ 16) (hd1 : 12 * (16 - p) + 28 ≤ d1) (hd2 : 12 * (16 - p) + 27 ≤ d2) : JE E1 cr E2 w0 V0 (4000 + 4 * (12 * (16 - p) + 29)) (fun s => x_Pars_level_b (clP d1) d1 132 2 (nI p) s) (fun s => x_Mod_compared_b (clM d2) d2 160 (nI p) s) := by
  obtain ⟨d1, rfl⟩ : ∃ k, d1 = k + 8 := ⟨d1 - 8, by omega⟩
  obtain ⟨d2, rfl⟩ : ∃ k, d2 = k + 8 := ⟨d2 - 8, by omega⟩
  have hN : JE E1 cr E2 w0 V0 (4000 + 4 * (12 * (16 - p) + 28)) (fun s => cU (clP (d1 + 8) 9 132 (2 + 1) (nI p) 0 s)) (fun s => clM (d2 + 8) 9 160 (nI p) 0 0 s) := by
    have := j_l3 (d1 := d1 + 7) (d2 := d2 + 7) HG hp (by omega) (by omega)
    intro s x y u q T t V J hV
    have k := this s x y u q T t V J hV
    dsimp only at k ⊢
    rw [c_lev]
    exact k
  intro s x y u q T t V J hV
  dsimp only
  unfold x_Pars_level_b x_Mod_compared_b
  rw [kc_gd V, if_pos (by decide), y_gd J.er]
  have e1 : FU = FU - 1 + 1 := by rw [FU_eq]
  refine OUT.bind (hN s x y u q T t V J hV) (fun s' x' y' u' q' T' t' V' J' hq => ?_) (fun s' x' qf D => ?_) (fun s => if_pos rfl)
  · rw [if_pos rfl, if_neg (by decide), ← r_cmp (dp := nI p) (c := clM (d2 + 8)) J']
    have hc := c_lv (d := d1 + 8) (dp := nI p) (t0 := 1) (l := 2) (z := 0) (again := loopK (lvB (clP (d1 + 8)) (d1 + 8) 2 (nI p) 1) (FU - 1)) V' (by decide) (by decide)
    have hl : x_Pars_level_b31 (clP (d1 + 8)) (d1 + 8) 132 2 (nI p) 1 s' = loopK (lvB (clP (d1 + 8)) (d1 + 8) 2 (nI p) 1) FU (0, s') := rfl
    rw [hl, loopFU]
    rw [hc, J'.kd]
    by_cases c : T'.2.1 = 256 ∨ T'.2.1 = 257 ∨ T'.2.1 = 60 ∨ T'.2.1 = 258
    · rw [if_pos (lvOf_2.mpr c), if_pos c]
      have ag : ∀ s20, loopK (lvB (clP (d1 + 8)) (d1 + 8) 2 (nI p) 1) (FU - 1) (0 + 1, s20) = some ((), s20) := fun s20 => by
        rw [show FU - 1 = FU - 2 + 1 by rw [FU_eq], loopK_succ]
        unfold lvB
        dsimp only
        rw [if_pos (by decide)]
      simp only [ag]
      exact j_binstep (d1 := d1) (d2 := d2) (op := cmOf T'.2.1) (k1 := fun s20 => some ((), s20)) (k2 := fun s28 => some (1, s28)) (by rcases c with h | h | h | h <;> (rw [h]; decide)) hN (by omega) V' J' (Nat.le_trans hV hq.1.2.2.1.2.2.1) hq rfl (by rcases c with h | h | h | h <;> (rw [h]; decide)) (by rcases c with h | h | h | h <;> (rw [h]; decide)) (fun s' x' y' u' q' T' t' V' J' _ _ Q => OUT.ok V' J' Q) (fun s' x' qf D => ⟨s', x', rfl, D.mono (Nat.le_refl _) (by omega)⟩)
    · rw [if_neg (fun h => c (lvOf_2.mp h)), if_neg c]
      exact OUT.ok V' J' hq
  · rw [if_pos rfl]
    have := dd_lvB (M := FU - 1) (d := d1 + 8) (dp := nI p) (t0 := 1) (l := 2) (v := 0) D (by decide) (by decide)
    rw [← e1] at this
    exact ⟨s', x', this, D.mono (Nat.le_refl _) (by omega)⟩
end
