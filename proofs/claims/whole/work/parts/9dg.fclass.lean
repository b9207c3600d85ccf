/-! the class's function, cut in pieces -/
def fcE (d : Nat) (v9 : Int64) (v11 v14 : Int32) (s15 : HS) : Option (Unit × HS) := ((gI s15 132 5 6).bind fun v17 => (if 0 ≤ v17 then ((gR s15 132 5 1).bind fun v18 => ((pV s15 132 5 3 (.ref v18)).bind fun s19 => (some ((), s19)))) else ((gR s15 132 5 4).bind fun v20 => ((gR s15 132 5 2).bind fun v21 => ((gR s15 132 5 0).bind fun v22 => (bnd (x_Lexer_taken d v22 s15) fun v24 s23 => (bnd (x_Draft_finish d v21 v9 v11 (v24 - v14) s23) fun v26 s25 => (bnd (x_AL_add_LObject d v20 v26 s25) fun v28 s27 => ((gR s27 132 5 1).bind fun v29 => ((pV s27 132 5 3 (.ref v29)).bind fun s30 => (some ((), s30))))))))))))
def fcT (d : Nat) (v9 : Int64) (v11 : Int32) (s10 : HS) : Option (Unit × HS) := ((gR s10 132 5 0).bind fun v12 => (bnd (x_Lexer_taken d v12 s10) fun v14 s13 => (bnd (x_Pars_block d 132 0 s13) fun v16 s15 => fcE d v9 v11 v14 s15)))
theorem fc_eq {d : Nat} {s : HS} : x_Pars_function (d + 1) 132 s = gd s 132 5 (bnd (x_Pars_take d 132 5 s) fun v2 s1 => ((gR s1 132 5 2).bind fun v3 => (bnd (x_Draft_clear d v3 s1) fun v5 s4 => ((gR s4 132 5 2).bind fun v6 => ((pV s4 132 5 3 (.ref v6)).bind fun s7 => (bnd (x_Pars_takeName d 132 s7) fun v9 s8 => (bnd (x_Pars_names d 132 s8) fun v11 s10 => fcT d v9 v11 s10))))))) := rfl
theorem KT_fun : ∀ e ∈ KT, e.1 = 5 → e.2.length = 3 := by decide
theorem TQ.fun3 {g : Nat → Int32} {L q : Nat} {T : TKc} {t : TKr} (h : TQ g L q T t) (hk : T.2.1 = 5) : t.1 = q + 3 := by
  rcases h.1 with k | ⟨k1, k2, k3, k⟩
  · exact absurd (hk.symm.trans k.1) (by decide)
  · rw [← k1]
    rcases k with k | k | k | k | ⟨e, k4, k5, k6, k⟩
    · exact absurd (hk.symm.trans k.1) (by decide)
    · exact absurd (hk.symm.trans k.1) (by decide)
    · exact absurd (hk.symm.trans k.1) (by decide)
    · exact absurd (hk.symm.trans k.1) (by decide)
    · rw [k6, KT_fun e k4 (k5.symm.trans hk)]
section
variable {E1 E' : CE} {cr : Nat} {E2 : RE} {w0 : W2} {u q d d1 d2 V0 A B qf : Nat} {T : TKc} {t : TKr} {x x' x1 : CA} {y : RA} {s s' : HS} {I : ID} {N : N3} {k : Nat} {un : Nat → Nat} {TT : Nat → TI} {v9 : Int64} {v11 v14 : Int32}
/-- bytes that were no tokens: the count of tokens may run ahead by two -/
theorem JJ.shift (J : JJ E1 cr E2 w0 u q T t x y) (h : u + 2 ≤ q) : JJ E1 cr E2 (w0.1 - 2, w0.2 - 2) (u + 2) q T t x y := by
  obtain ⟨k1, ⟨j1, j2, j3, j4, j5, j6⟩, k3, k4, k5, k6⟩ := J
  have sh : ∀ w : Int32, w + nI u = w - 2 + nI (u + 2) := fun w => by
    rw [← nI_add u 2, Int32.add_comm (nI u), ← Int32.add_assoc]
    show _ = w - 2 + 2 + nI u
    rw [Int32.sub_add_cancel]
  exact ⟨k1, ⟨j1, j2, j3, j4.trans (sh w0.1), j5.trans (sh w0.2), h⟩, k3, k4, k5, by omega⟩
/-- a function's BLOCK has two tokens at least -/
theorem j_blk0 (hd1 : 232 ≤ d1) (hd2 : 232 ≤ d2) (V : KC E1 s x) (J : JJ E1 cr E2 w0 u q T t x y) (hV : V0 ≤ ra_v y) (hh : ca_h x ≤ 2 * u) (hm : ra_m y ≤ 3 * u) : OUT E1 cr E2 w0 (ca_h x) (4000 + 4 * 232) (fun x' y' u' => QI V0 0 x y u x' y' u' ∧ u + 2 ≤ u') (x_Pars_block_b (clP d1) d1 132 (nI 0) s) (x_Mod_block_b (clM d2) d2 160 (nI 0) (pm cr E2 y)) := by
  obtain ⟨d1, rfl⟩ : ∃ k, d1 = k + 11 := ⟨d1 - 11, by omega⟩
  obtain ⟨d2, rfl⟩ : ∃ k, d2 = k + 11 := ⟨d2 - 11, by omega⟩
  have hu := J.uq
  have hZ : HZ E1 cr E2 w0 V0 (0 + 1) := j_stm (by decide) (hb_all 16 1 (by decide) (by decide))
  have c0 : x_Pars_block_b (clP (d1 + 11)) (d1 + 11) 132 (nI 0) s = gd s 132 5 (bnd (x_Pars_open (d1 + 11) 132 123 (nI 0) s) fun v2 s1 => (if v2 = 0 then (some ((), s1)) else (loopK (blB (clP (d1 + 11)) (d1 + 11) (nI 0)) FU (0, s1)))) := rfl
  have r0 : x_Mod_block_b (clM (d2 + 11)) (d2 + 11) 160 (nI 0) (pm cr E2 y) = gd (pm cr E2 y) 160 14 (bnd (x_Mod_is (d2 + 11) 160 20 (pm cr E2 y)) fun v2 s1 => (if v2 = 0 then (bnd (x_Mod_bad (d2 + 11) 160 s1) fun v4 s3 => (okB v4 (some (v4, s3)))) else (if nI 0 = 16 then (bnd (x_Mod_bad (d2 + 11) 160 s1) fun v6 s5 => (okB v6 (some (v6, s5)))) else (bnd (x_Mod_step (d2 + 11) 160 s1) fun v8 s7 => (loopK (rbB (clM (d2 + 11)) (d2 + 11) (nI 0)) FU s7))))) := rfl
  rw [c0, r0, kc_gd V, y_gd J.er, J.is (d := d2 + 7) (K := 123) 4 rfl (by decide) rfl, bnd_some]
  by_cases c : T.2.1 = 123
  · rw [if_pos c, if_neg (by decide)]
    have n0 : ¬ T.2.1 = 0 := by rw [c]; decide
    have n1 : ¬ T.2.1 = 1 := by rw [c]; decide
    obtain ⟨s2, e2, V2⟩ := jj_open (d := d1 + 5) (dp := nI 0) V J c (by decide) (by decide) (by decide)
    obtain ⟨q2, T2, t2, J2, _⟩ := J.adv n0 n1
    rw [e2, bnd_some, if_neg (by decide), if_neg (by decide), jj_step (d := d2 + 6) J, bnd_some]
    have L := j_blL (p := 0) (d1 := d1) (d2 := d2) (by omega) hZ (by omega) (by omega) 1500 0 FU FU s2 _ _ _ _ _ _ (by omega) (by rw [FU_eq]; decide) (by rw [FU_eq]; decide) (Nat.zero_le _) V2 J2 hV (by show ca_h x ≤ _; omega) (by show ra_m y ≤ _; omega)
    exact L.mono (fun _ _ _ g => ⟨g.opn, g.1⟩) (Nat.le_refl _) (by omega)
  · obtain ⟨s2, e2, D2⟩ := jj_openNo (d := d1 + 9) (dp := nI 0) V J (K := 123) (fun h => c h.1)
    rw [e2, bnd_some, if_pos rfl, if_neg c, if_pos rfl, jj_bad J, bnd_some, okB_of (Or.inl rfl)]
    exact OUT.no' D2 J.rf (Nat.le_refl _) (by omega)
theorem d_names (D : DD E1 s x qf A B) (hB : B + 1 ≤ 16000) : ∃ s' x' v, x_Pars_names (d1 + 10) 132 s = some (v, s') ∧ DD E1 s' x' qf A (B + 1) := by
  obtain ⟨s1, x1, e1, D1⟩ := dd_take (d := d1 + 7) (k := 40) D (by decide)
  obtain ⟨s2, x2, e2, D2⟩ := d_new (d1 := d1) (z := nI 0) D1 hB
  obtain ⟨s3, x3, v3, e3, D3⟩ := d_nsB (d1 := d1) (M := FU - 1) (z := nI 1) D2
  rw [show FU - 1 + 1 = FU by rw [FU_eq]] at e3
  refine ⟨s3, x3, v3, ?_, D3⟩
  rw [ns_eq, kc_gd D.1, e1, bnd_some, kc_lx D1.1, Option.bind_some, dd_kind D1, bnd_some, if_neg (by decide), e2, bnd_some, e3]
/-- the class's function, from its BLOCK's end or from its NAMES on, behind a FAULT -/
theorem fc_badE (Bs : BS E' x1 I N k un TT) (D : DD E' s x' qf A B) : ∃ (s2 : HS) (I' : ID) (N' : N3), fcE d v9 v11 v14 s = some ((), s2) ∧ CZ s2 (ce_L E') (ce_g E') (ce_w E') I' N' k un (nI qf) ∧ SF I N (ce_S E') I' N' s2 0 := by
  obtain ⟨s2, I', N', e1, e2, e3, e4⟩ := bs_bad Bs D.1
  refine ⟨s2, I', N', ?_, ?_, e4⟩
  · unfold fcE
    have q := D.2.2.2.1
    rw [kc_fa D.1, Option.bind_some, D.2.2.1, if_pos (nI_nlt0 (by omega)), e1, Option.bind_some, e2, Option.bind_some]
  · rw [← D.2.2.1]
    exact e3
theorem fc_badT (Bs : BS E' x1 I N k un TT) (D : DD E' s x' qf A B) : ∃ (s2 : HS) (I' : ID) (N' : N3), fcT (d + 3) v9 v11 s = some ((), s2) ∧ CZ s2 (ce_L E') (ce_g E') (ce_w E') I' N' k un (nI qf) ∧ SF I N (ce_S E') I' N' s2 0 := by
  obtain ⟨s1, x1', e1, D1⟩ := dd_block (d := d) (dp := 0) D
  obtain ⟨s2, I', N', e2, e3, e4⟩ := fc_badE (d := d + 3) (v9 := v9) (v11 := v11) (v14 := (ca_a x').2.1) Bs D1
  refine ⟨s2, I', N', ?_, e3, e4⟩
  unfold fcT
  rw [kc_lx D.1, Option.bind_some, kc_taken D.1, bnd_some, show x_Pars_block (d + 3) 132 0 s = some ((), s1) from e1, bnd_some, e2]
end
