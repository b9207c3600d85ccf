/-! a BLOCK, and with it every STATEMENT -/
def blB (c : CLT) (d : Nat) (x1 : Int32) : (Int32 × HS → Option (Unit × HS)) → Int32 × HS → Option (Unit × HS) := (fun (again13 : Int32 × HS → Option (Unit × HS)) (z13 : Int32 × HS) => (if 1500 < z13.1 then (bnd (x_Pars_take d 132 125 z13.2) fun v4 s3 => (some ((), s3))) else ((gI z13.2 132 5 6).bind fun v5 => (if 0 ≤ v5 then (bnd (x_Pars_take d 132 125 z13.2) fun v7 s6 => (some ((), s6))) else ((gR z13.2 132 5 0).bind fun v8 => (bnd (x_Lexer_kind d v8 z13.2) fun v10 s9 => (if v10 = 125 then (bnd (x_Pars_take d 132 125 s9) fun v12 s11 => (some ((), s11))) else (bnd (cU (c 1 132 (x1 + 1) 0 0 s9)) fun v14 s13 => (again13 ((z13.1 + 1), s13))))))))))
def rbB (c : CLT) (d : Nat) (x1 : Int32) : (HS → Option (Int32 × HS)) → HS → Option (Int32 × HS) := (fun (again24 : HS → Option (Int32 × HS)) (z24 : HS) => (bnd (x_Mod_is d 160 22 z24) fun v10 s9 => (if v10 = 0 then (bnd ((c 2 160 (x1 + 1) 0 0 s9)) fun v12 s11 => (if v12 = 0 then (some (0, s11)) else (again24 s11))) else (bnd (x_Mod_step d 160 s9) fun v14 s13 => (some (1, s13))))))
theorem blB_eq {c : CLT} {d : Nat} {x1 z : Int32} {s : HS} {ag : Int32 × HS → Option (Unit × HS)} : blB c d x1 ag (z, s) = (if 1500 < z then (bnd (x_Pars_take d 132 125 s) fun v4 s3 => (some ((), s3))) else ((gI s 132 5 6).bind fun v5 => (if 0 ≤ v5 then (bnd (x_Pars_take d 132 125 s) fun v7 s6 => (some ((), s6))) else ((gR s 132 5 0).bind fun v8 => (bnd (x_Lexer_kind d v8 s) fun v10 s9 => (if v10 = 125 then (bnd (x_Pars_take d 132 125 s9) fun v12 s11 => (some ((), s11))) else (bnd (cU (c 1 132 (x1 + 1) 0 0 s9)) fun v14 s13 => (ag ((z + 1), s13))))))))) := rfl
theorem rbB_eq {c : CLT} {d : Nat} {x1 : Int32} {s : HS} {ag : HS → Option (Int32 × HS)} : rbB c d x1 ag s = (bnd (x_Mod_is d 160 22 s) fun v10 s9 => (if v10 = 0 then (bnd ((c 2 160 (x1 + 1) 0 0 s9)) fun v12 s11 => (if v12 = 0 then (some (0, s11)) else (ag s11))) else (bnd (x_Mod_step d 160 s9) fun v14 s13 => (some (1, s13))))) := rfl
section
variable {E1 : CE} {cr : Nat} {E2 : RE} {w0 : W2} {u u' u1 u2 v1 q q' d d1 d2 j V0 A B A' B' p m CL i c h e wd qf : Nat} {T T' : TKc} {t t' : TKr} {x x' x'' x1 x2 : CA} {y y' y'' y1 y2 : RA} {s s' s1 : HS} {K dp op opr ar l t0 v l4 t1 : Int32} {w : Bool} {Q : CA → RA → Nat → Prop}
theorem QI.seq (h : QI V0 0 x y u x1 y1 u1) (g : QI V0 0 x1 y1 u1 x2 y2 u2) : QI V0 0 x y u x2 y2 u2 := by
  obtain ⟨h1, h2, h3, h4, h5, h6, D, h7, h8⟩ := h
  obtain ⟨g1, g2, g3, g4, g5, g6, E, g7, g8⟩ := g
  refine ⟨by omega, h2.trans g2, h3.trans g3, g4.trans h4, by omega, by omega, sSeq D E, ImS_seq h2.1 g2.1 (h7.ext g5.1 (by omega) g2.2.2.1 (fun j _ hj => g2.2.1 j hj) (fun j hj => g2.2.2.2 j hj)) (g7.ext (Nat.le_refl _) (by omega) (Nat.le_refl _) (fun _ _ _ => rfl) (fun _ _ => rfl)), IrS_seq h3.1 g3.1 (h8.ext g5.1 (by omega) (Nat.le_refl _) g3.2.2.1 (fun j _ hj => g3.2.1 j hj) (fun j _ hj => g3.2.2.2.1 j hj)) (g8.ext (Nat.le_refl _) (by omega) (Nat.le_refl _) (Nat.le_refl _) (fun _ _ _ => rfl) (fun _ _ _ => rfl))⟩
theorem QI.nop : QI V0 0 x y u (cav E1 t x) (rav E2 t y) (u + 1) := ⟨Nat.lt_succ_self _, AGc.rfl'.lex, AGr.rfl'.lex, rfl, ⟨Nat.le_refl _, by show 5 * ca_t x + u ≤ _; omega⟩, by
  show ca_h x + 0 + 2 * u ≤ _ ∧ ca_k x + 2 * u ≤ _ ∧ ra_m y + 0 + 3 * u ≤ _ ∧ ra_v y + u ≤ _
  omega, sNop, ImS_nop, IrS_nop⟩
theorem QI.opn (h : QI V0 0 (cav E1 t x) (rav E2 t y) (u + 1) x' y' u') : QI V0 0 x y u x' y' u' := QI.seq QI.nop h |> fun k => by
  obtain ⟨g1, g2, g3, g4, g5, g6, D, g7, g8⟩ := k
  exact ⟨g1, g2, g3, g4, g5, g6, D, g7, g8⟩
theorem dd_blB {M : Nat} {z : Int32} (D : DD E1 s x qf A B) : ∃ s' x', loopK (blB (clP (d1 + 11)) (d1 + 11) dp) (M + 1) (z, s) = some ((), s') ∧ DD E1 s' x' qf A B := by
  obtain ⟨s1, x1, e1, D1⟩ := dd_take (d := d1 + 9) (k := 125) D (by decide)
  refine ⟨s1, x1, ?_, D1⟩
  rw [loopK_succ, blB_eq]
  by_cases c : 1500 < z
  · rw [if_pos c, e1, bnd_some]
  · rw [if_neg c, kc_fa D.1, Option.bind_some, D.2.2.1, if_pos (Int32.not_lt.mp (nI_pos (by have := D.2.2.2.1; omega))), e1, bnd_some]
theorem j_blL (hp : p < 16) (hZ : HZ E1 cr E2 w0 V0 (p + 1)) (hd1 : 12 * (16 - p) + 29 ≤ d1) (hd2 : 12 * (16 - p) + 29 ≤ d2) : ∀ k n M1 M2 s x y u q T t, 1500 - u ≤ k → k + 2 ≤ M1 → k + 1 ≤ M2 → n ≤ u → KC E1 s x → JJ E1 cr E2 w0 u q T t x y → V0 ≤ ra_v y → ca_h x ≤ 2 * u → ra_m y ≤ 3 * u → OUT E1 cr E2 w0 (ca_h x) (4000 + 4 * (12 * (16 - p) + 40)) (QI V0 0 x y u) (loopK (blB (clP (d1 + 11)) (d1 + 11) (nI p)) M1 (nI n, s)) (loopK (rbB (clM (d2 + 11)) (d2 + 11) (nI p)) M2 (pm cr E2 y)) := by
  intro k
  induction k with
  | zero => ?_
  | succ k ih => ?_
  all_goals
    intro n M1 M2 s x y u q T t hk hM1 hM2 hn V J hV hh hm
    obtain ⟨M1, rfl⟩ : ∃ m, M1 = m + 1 := ⟨M1 - 1, by omega⟩
    obtain ⟨M2, rfl⟩ : ∃ m, M2 = m + 1 := ⟨M2 - 1, by omega⟩
    have hb := J.2.2.2.2.2
    have hu := J.uq
    rw [loopK_succ, loopK_succ, blB_eq, rbB_eq, if_neg (show ¬ (1500 : Int32) < nI n from Int32.not_lt.mpr (nI_le (show n ≤ 1500 by omega) (by decide))), kc_fa V, Option.bind_some, J.2.2.1, if_neg (by decide), kc_lx V, Option.bind_some, kc_kind V, bnd_some, J.kd, J.is (d := d2 + 7) (K := 125) 5 rfl (by decide) rfl, bnd_some]
    by_cases c : T.2.1 = 125
    · have n0 : ¬ T.2.1 = 0 := by rw [c]; decide
      have n1 : ¬ T.2.1 = 1 := by rw [c]; decide
      obtain ⟨s1, e1, V1⟩ := jj_take (d := d1 + 5) V J c (by decide) (by decide)
      obtain ⟨q1, T1, t1, J1, _⟩ := J.adv n0 n1
      rw [if_pos c, if_pos c, if_neg (by decide), e1, bnd_some, jj_step (d := d2 + 6) J, bnd_some]
      exact OUT.ok V1 J1 QI.nop
    · rw [if_neg c, if_neg c, if_pos rfl, c_stm, r_stm, ← nI_succ, ← nI_succ]
      rcases hZ (d1 + 10) (d2 + 10) (by omega) (by omega) s _ _ _ _ _ _ V J hV hh hm with ⟨s2, x2, y2, u2, q2, T2, t2, r1, r2, V2, J2, hq⟩ | ⟨s2, x2, y2, qf, r1, r2, D2, gf⟩
      · dsimp only at r1 r2
        have hu2 := J2.uq
        have hq1 := hq.1
        first
        | omega
        | (rw [r1, r2, bnd_some, bnd_some, if_neg (by decide)]
           have hq3 := hq.2.2.1.2.2.1
           have hq6 := hq.2.2.2.2.2.1
           have hq2 := hq.2.1.1
           exact (ih (n + 1) M1 M2 s2 x2 y2 u2 q2 T2 t2 (by omega) (by omega) (by omega) (by omega) V2 J2 (by omega) (by omega) (by omega)).mono (fun _ _ _ g => hq.seq g) hq2 (Nat.le_refl _))
      · dsimp only at r1 r2
        obtain ⟨M1, rfl⟩ : ∃ m, M1 = m + 1 := ⟨M1 - 1, by omega⟩
        obtain ⟨s3, x3, e3, D3⟩ := dd_blB (d1 := d1) (M := M1) (dp := nI p) (z := nI (n + 1)) D2
        rw [r1, r2, bnd_some, bnd_some, if_pos rfl, e3]
        exact OUT.no' D3 gf (Nat.le_refl _) (by omega)
theorem j_blk (hp : p ≤ 16) (hZ : p < 16 → HZ E1 cr E2 w0 V0 (p + 1)) : HB E1 cr E2 w0 V0 p := fun d1 d2 hd1 hd2 s x y u q T t V J hV hh hm => by
  obtain ⟨d1, rfl⟩ : ∃ k, d1 = k + 11 := ⟨d1 - 11, by omega⟩
  obtain ⟨d2, rfl⟩ : ∃ k, d2 = k + 11 := ⟨d2 - 11, by omega⟩
  have hu := J.uq
  dsimp only
  have c0 : x_Pars_block_b (clP (d1 + 11)) (d1 + 11) 132 (nI p) s = gd s 132 5 (bnd (x_Pars_open (d1 + 11) 132 123 (nI p) s) fun v2 s1 => (if v2 = 0 then (some ((), s1)) else (loopK (blB (clP (d1 + 11)) (d1 + 11) (nI p)) FU (0, s1)))) := rfl
  have r0 : x_Mod_block_b (clM (d2 + 11)) (d2 + 11) 160 (nI p) (pm cr E2 y) = gd (pm cr E2 y) 160 14 (bnd (x_Mod_is (d2 + 11) 160 20 (pm cr E2 y)) fun v2 s1 => (if v2 = 0 then (bnd (x_Mod_bad (d2 + 11) 160 s1) fun v4 s3 => (okB v4 (some (v4, s3)))) else (if nI p = 16 then (bnd (x_Mod_bad (d2 + 11) 160 s1) fun v6 s5 => (okB v6 (some (v6, s5)))) else (bnd (x_Mod_step (d2 + 11) 160 s1) fun v8 s7 => (loopK (rbB (clM (d2 + 11)) (d2 + 11) (nI p)) FU s7))))) := rfl
  rw [c0, r0, kc_gd V, y_gd J.er, J.is (d := d2 + 7) (K := 123) 4 rfl (by decide) rfl, bnd_some]
  by_cases c : T.2.1 = 123
  · rw [if_pos c, if_neg (by decide)]
    by_cases c16 : p = 16
    · subst c16
      obtain ⟨s2, e2, D2⟩ := jj_openNo (d := d1 + 9) (dp := nI 16) V J (K := 123) (fun h => absurd h.2 (by decide))
      rw [e2, bnd_some, if_pos rfl, if_pos (show nI 16 = 16 from rfl), jj_bad J, bnd_some, okB_of (Or.inl rfl)]
      exact OUT.no' D2 J.rf (Nat.le_refl _) (by omega)
    · have n0 : ¬ T.2.1 = 0 := by rw [c]; decide
      have n1 : ¬ T.2.1 = 1 := by rw [c]; decide
      obtain ⟨s2, e2, V2⟩ := jj_open (d := d1 + 5) (dp := nI p) V J c (by decide) (by decide) (lt16 hp c16)
      obtain ⟨q2, T2, t2, J2, _⟩ := J.adv n0 n1
      rw [e2, bnd_some, if_neg (by decide), if_neg (en16 hp c16), jj_step (d := d2 + 6) J, bnd_some]
      have L := j_blL (d1 := d1) (d2 := d2) (by omega) (hZ (by omega)) (by omega) (by omega) 1500 0 FU FU s2 _ _ _ _ _ _ (by omega) (by rw [FU_eq]; decide) (by rw [FU_eq]; decide) (Nat.zero_le _) V2 J2 hV (by show ca_h x ≤ _; omega) (by show ra_m y ≤ _; omega)
      exact L.mono (fun _ _ _ g => g.opn) (Nat.le_refl _) (Nat.le_refl _)
  · obtain ⟨s2, e2, D2⟩ := jj_openNo (d := d1 + 9) (dp := nI p) V J (K := 123) (fun h => c h.1)
    rw [e2, bnd_some, if_pos rfl, if_neg c, if_pos rfl, jj_bad J, bnd_some, okB_of (Or.inl rfl)]
    exact OUT.no' D2 J.rf (Nat.le_refl _) (by omega)
theorem hb_all : ∀ k p, 16 - p ≤ k → p ≤ 16 → HB E1 cr E2 w0 V0 p := by
  intro k
  induction k with
  | zero => exact fun p h hp => j_blk hp (fun h' => by omega)
  | succ k ih => exact fun p h hp => j_blk hp (fun h' => j_stm (by omega) (ih (p + 1) (by omega) (by omega)))
/-- a function's BLOCK -/
theorem hb_0 : HB E1 cr E2 w0 V0 0 := hb_all 16 0 (by omega) (by omega)
end
