/-! signs before an atom -/
def HSg (E1 : CE) (cr : Nat) (E2 : RE) (w0 : W2) (V0 p : Nat) : Prop := ∀ d1 d2, 12 * (16 - p) + 24 ≤ d1 → 12 * (16 - p) + 23 ≤ d2 → JE E1 cr E2 w0 V0 (4000 + 4 * (12 * (16 - p) + 25)) (fun s => x_Pars_signed_b (clP d1) d1 132 (nI p) s) (fun s => x_Mod_unary_b (clM d2) d2 160 (nI p) s)
section
variable {E1 : CE} {cr : Nat} {E2 : RE} {w0 : W2} {u u1 u2 v1 q d d1 d2 j V0 A B A' B' p m CL i : Nat} {T : TKc} {t : TKr} {x x' x'' x1 x2 : CA} {y y' y'' y1 y2 : RA} {s s' : HS} {K dp op opr ar : Int32} {w : List Nat}
theorem j_partsJ (hp : p ≤ 16) (HE : p < 16 → HX E1 cr E2 w0 V0 (p + 1)) (hd1 : 12 * (16 - p) + 12 ≤ d1) (hd2 : 12 * (16 - p) + 12 ≤ d2) : JE E1 cr E2 w0 V0 (4000 + 4 * (12 * (16 - p) + 24)) (fun s => x_Pars_parts_b (clP (d1 + 11)) (d1 + 11) 132 (nI p) s) (fun s => x_Mod_atom_b (clM (d2 + 10)) (d2 + 10) 160 (nI p) s) := by
  intro s x y u q T t V J hV
  dsimp only
  unfold x_Pars_parts_b x_Mod_atom_b
  rw [kc_gd V, y_gd J.er, c_atm]
  refine OUT.bind (j_atom hp HE hd1 hd2 s x y u q T t V J hV) (fun s' x' y' u' q' T' t' V' J' hq => ?_) (fun s' x' qf D => ?_) (fun s => if_pos rfl)
  · rw [if_neg (by decide)]
    have f : 3000 ≤ FU := by rw [FU_eq]; decide
    have e1 : FU = FU - 1 + 1 := by omega
    have := j_parts (d1 := d1) (d2 := d2) hp HE hd1 hd2 2000 0 s' x' y' u' q' T' t' (FU - 1) (FU - 1) (by omega) (by omega) (by omega) (by omega) V' J' (by have := hq.1.2.2.1.2.2.1; omega) hq
    rw [← e1] at this
    exact this
  · have e1 : FU = FU - 1 + 1 := by rw [FU_eq]
    have := dd_prB (M := FU - 1) (d1 := d1) (dp := nI p) (v := 0) D (by decide)
    rw [← e1] at this
    exact ⟨s', x', this, D.mono (Nat.le_refl _) (by omega)⟩
/-- a sign, then what it stands before -/
theorem j_sg {F : DE → DE} (bI : ∀ {a b lcl need kp : Nat} {co : Nat → Int32} {po : Nat → Int64} {D : DE} {z : Int32}, a ≤ b → 1 ≤ need → ImE a b lcl need kp co po D → co (2 * b) = op → co (2 * b + 1) = z → ImE a (b + 1) lcl need kp co po (F D)) (bR : ∀ {a b va kv lcl need : Nat} {co : Nat → Int32} {vo : Nat → VQ} {D : DE}, a ≤ b → 1 ≤ need → IrE a b va kv lcl need co vo D → co b = opr → IrE a (b + 1) va kv lcl need co vo (F D)) (hp : p ≤ 16) (HG : p < 16 → HSg E1 cr E2 w0 V0 (p + 1)) (hd1 : 12 * (16 - p) + 23 ≤ d1) (hd2 : 12 * (16 - p) + 22 ≤ d2) (V : KC E1 s x) (J : JJ E1 cr E2 w0 u q T t x y) (hV : V0 ≤ ra_v y) (hk : T.2.1 = K) (hK0 : ¬ K = 0) (hK1 : ¬ K = 1) (r1 : Option (Unit × HS)) (r2 : Option (Int32 × HS)) (hc : r1 = bnd (x_Pars_open (d1 + 1) 132 K (nI p) s) fun v5 s4 => (if v5 = 0 then some ((), s4) else (bnd (cU (clP (d1 + 1) 10 132 (nI p + 1) 0 0 s4)) fun _ s6 => ((gR s6 132 5 3).bind fun v8 => (bnd (x_Draft_add (d1 + 1) v8 op 0 s6) fun _ s9 => ((pV s9 132 5 7 (.int 0)).bind fun s11 => some ((), s11))))))) (hr : r2 = if nI p = 16 then (bnd (x_Mod_bad (d2 + 1) 160 (pm cr E2 y)) fun v8 s7 => (okB v8 (some (v8, s7)))) else (bnd (x_Mod_step (d2 + 1) 160 (pm cr E2 y)) fun _ s11 => (bnd (clM (d2 + 1) 10 160 (nI p + 1) 0 0 s11) fun v14 s13 => (if v14 = 0 then some (0, s13) else (bnd (x_Mod_put_I (d2 + 1) 160 opr s13) fun _ s15 => ((pV s15 160 14 25 (.int 0)).bind fun s17 => some (1, s17))))))) : OUT E1 cr E2 w0 (ca_h x) (4000 + 4 * (12 * (16 - p) + 25)) (QE V0 x y u) r1 r2 := by
  subst hc hr
  have n0 : ¬ T.2.1 = 0 := by rw [hk]; exact hK0
  have n1 : ¬ T.2.1 = 1 := by rw [hk]; exact hK1
  by_cases c16 : p = 16
  · subst c16
    obtain ⟨s2, e2, D2⟩ := jj_openNo (d := d1 - 1) (dp := nI 16) V J (K := K) (fun h => absurd h.2 (by decide))
    rw [show d1 - 1 + 2 = d1 + 1 by omega] at e2
    rw [e2, bnd_some, if_pos rfl, if_pos (show nI 16 = 16 from rfl), jj_bad J, bnd_some, okB_of (Or.inl rfl)]
    exact OUT.no' D2 J.rf (Nat.le_refl _) (by omega)
  · obtain ⟨s2, e2, V2⟩ := jj_open (d := d1 - 5) (dp := nI p) V J hk hK0 hK1 (lt16 hp c16)
    rw [show d1 - 5 + 6 = d1 + 1 by omega] at e2
    obtain ⟨q2, T2, t2, J2, _⟩ := J.adv n0 n1
    have e3 := jj_step (d := d2 - 4) J
    rw [show d2 - 4 + 5 = d2 + 1 by omega] at e3
    rw [e2, bnd_some, if_neg (by decide), if_neg (en16 hp c16), e3, bnd_some, ← nI_succ, c_sgn]
    rcases HG (by omega) d1 d2 (by omega) (by omega) s2 _ _ _ _ _ _ V2 J2 hV with ⟨s', x', y', u', q', T', t', r1, r2, V', J', hq⟩ | ⟨s', x', y', qf, r1, r2, D, g⟩
    · dsimp only at r1 r2
      have hq' : QE V0 x y (u + 1) x' y' u' := hq
      have hb' := J'.2.2.2.2.2
      have hu' := J'.uq
      obtain ⟨s4, e4, V4⟩ := kc_add (d := d1 - 1) (op := op) (ar := 0) J.eo V' (by omega)
      rw [show d1 - 1 + 2 = d1 + 1 by omega] at e4
      obtain ⟨s5, e5, V5⟩ := kc_asg (v := 0) J.eo V4
      rw [r1, bnd_some, kc_dr V', Option.bind_some, e4, bnd_some, e5, Option.bind_some]
      refine Eq.mpr (congrArg (fun z => OUT _ _ _ _ _ _ _ _ (bnd z _)) r2) ?_
      rw [bnd_some, if_neg (by decide), y_put J.er (by omega), bnd_some, y_p25 J.er, Option.bind_some]
      have h1 : u' ≤ 1500 := by omega
      have hlt := hq'.1.1
      have h6 := hq'.1.2.2.2.2.2
      have hb := J.2.2.2.2.2
      refine OUT.ok V5 (J'.chg ⟨rfl, rfl, rfl, rfl⟩ ⟨rfl, rfl⟩ ?_) (hq'.un bI bR (Nat.le_succ _) (Nat.le_refl u') (by omega) rfl ⟨rfl, rfl, rfl⟩ rfl rfl)
      show ca_h x' + 1 ≤ _ ∧ ca_k x' ≤ _ ∧ ra_m y' + 1 ≤ _ ∧ ra_v y' ≤ _ ∧ ra_p y' ≤ _
      omega
    · dsimp only at r1 r2
      obtain ⟨s4, x4, e4, D4⟩ := dd_add (d := d1 - 1) (op := op) (ar := 0) D (by omega)
      rw [show d1 - 1 + 2 = d1 + 1 by omega] at e4
      obtain ⟨s5, x5, e5, D5⟩ := dd_asg (v := 0) D4
      rw [r1, bnd_some, kc_dr D.1, Option.bind_some, e4, bnd_some, e5, Option.bind_some]
      refine Eq.mpr (congrArg (fun z => OUT _ _ _ _ _ _ _ _ (bnd z _)) r2) ?_
      rw [bnd_some, if_pos rfl]
      exact OUT.no' D5 g (Nat.le_refl _) (by omega)
theorem j_signed (hp : p ≤ 16) (HE : p < 16 → HX E1 cr E2 w0 V0 (p + 1)) (HG : p < 16 → HSg E1 cr E2 w0 V0 (p + 1)) : HSg E1 cr E2 w0 V0 p := by
  intro d1 d2 h1 h2 s x y u q T t V J hV
  obtain ⟨d1, rfl⟩ : ∃ k, d1 = k + 1 := ⟨d1 - 1, by omega⟩
  obtain ⟨d2, rfl⟩ : ∃ k, d2 = k + 1 := ⟨d2 - 1, by omega⟩
  have is : ∀ i j K, j = 2 * i + 12 → i < 35 → (kS.getD i (0, [])).1 = K → x_Mod_is (d2 + 1) 160 j (pm cr E2 y) = some (if T.2.1 = K then 1 else 0, pm cr E2 y) := fun i j K a b c => by
    have := J.is (d := d2 - 3) (K := K) i a b c
    rw [show d2 - 3 + 4 = d2 + 1 by omega] at this
    exact this
  dsimp only
  by_cases c45 : T.2.1 = 45
  · refine j_sg (d1 := d1) (d2 := d2) (op := 26) (opr := 10) (F := dOne d_minus) (fun a b c d e => ImE_minus a b c d e) (fun a b c d => IrE_minus a b c d) hp HG (by omega) (by omega) V J hV c45 (by decide) (by decide) _ _ ?_ ?_
    · unfold x_Pars_signed_b x_Pars_signed_b28
      rw [kc_gd V, kc_lx V, Option.bind_some, kc_kind V, bnd_some, J.kd, c45, if_pos rfl]
      rfl
    · unfold x_Mod_unary_b x_Mod_unary_b26
      rw [y_gd J.er, is 8 28 45 rfl (by decide) rfl, bnd_some, if_pos c45, if_neg (by decide), is 8 28 45 rfl (by decide) rfl, bnd_some, if_pos c45]
      rfl
  · by_cases c33 : T.2.1 = 33
    · refine j_sg (d1 := d1) (d2 := d2) (op := 27) (opr := 11) (F := dOne (fun S v => d_not S v)) (fun a b c d e => ImE_not a b c d e) (fun a b c d => IrE_not a b c d) hp HG (by omega) (by omega) V J hV c33 (by decide) (by decide) _ _ ?_ ?_
      · unfold x_Pars_signed_b x_Pars_signed_b28
        rw [kc_gd V, kc_lx V, Option.bind_some, kc_kind V, bnd_some, J.kd, c33, if_neg (by decide), if_pos rfl]
        rfl
      · unfold x_Mod_unary_b x_Mod_unary_b26
        rw [y_gd J.er, is 8 28 45 rfl (by decide) rfl, bnd_some, if_neg c45, if_pos rfl, is 9 30 33 rfl (by decide) rfl, bnd_some, if_pos c33, if_neg (by decide), is 8 28 45 rfl (by decide) rfl, bnd_some, if_neg c45]
        rfl
    · unfold x_Pars_signed_b x_Mod_unary_b
      rw [kc_gd V, kc_lx V, Option.bind_some, kc_kind V, bnd_some, J.kd, if_neg c45, if_neg c33, c_prt, y_gd J.er, is 8 28 45 rfl (by decide) rfl, bnd_some, if_neg c45, if_pos rfl, is 9 30 33 rfl (by decide) rfl, bnd_some, if_neg c33, if_pos rfl]
      have := j_partsJ (d1 := d1 - 11) (d2 := d2 - 10) hp HE (by omega) (by omega) s x y u q T t V J hV
      dsimp only at this
      rw [show d1 - 11 + 11 = d1 by omega, show d2 - 10 + 10 = d2 by omega] at this
      exact this.tail (fun _ _ _ h => h) (Nat.le_refl _) (by omega) okB_tail
end
