section
variable {E1 : CE} {cr : Nat} {E2 : RE} {w0 : W2} {u u' u1 u2 v1 q q' d d1 d2 j V0 A B A' B' p m CL i c h e wd : Nat} {T T' : TKc} {t t' : TKr} {x x' x'' x1 x2 : CA} {y y' y'' y1 y2 : RA} {s s' s1 : HS} {K dp op opr ar l t0 v l4 t1 : Int32} {w : Bool} {Q : CA → RA → Nat → Prop} {g : RA → RA} {K2 : HS → Option (Int32 × HS)} {C : CLT}
theorem k_two (h : EOR cr E2) (hm : ra_m y + 1 < 6000) (h7 : ¬ opr = 7) : x_Mod_assignment_b136 C (d2 + 11) 160 opr l4 160 t1 (pm cr E2 y) = bnd (x_Mod_take (d2 + 11) 160 68 (pm cr E2 (raPut (raPut y t1) l4))) fun v s => okB v (some (v, s)) := by
  unfold x_Mod_assignment_b136
  rw [y_put h (by omega), bnd_some, if_neg h7, y_put h (by show ra_m y + 1 < 6000; omega), bnd_some]
theorem k_one (h : EOR cr E2) (hm : ra_m y + 1 < 6000) : x_Mod_assignment_b136 C (d2 + 11) 160 7 l4 160 t1 (pm cr E2 y) = bnd (x_Mod_take (d2 + 11) 160 68 (pm cr E2 (raPut y t1))) fun v s => okB v (some (v, s)) := by
  unfold x_Mod_assignment_b136
  rw [y_put h (by omega), bnd_some, if_pos rfl]
theorem g_two : ∀ y, AGr y (raPut (raPut y t1) l4) ∧ (raPut (raPut y t1) l4).1 = y.1 ∧ (raPut (raPut y t1) l4).2.2.1 = y.2.2.1 ∧ ra_m (raPut (raPut y t1) l4) = ra_m y + 2 ∧ ra_v (raPut (raPut y t1) l4) = ra_v y ∧ ra_p (raPut (raPut y t1) l4) = ra_p y ∧ ra_q (raPut (raPut y t1) l4) = ra_q y := fun y => ⟨AGr.rfl'.put.put, rfl, rfl, rfl, rfl, rfl, rfl⟩
theorem g_one : ∀ y, AGr y (raPut y t1) ∧ (raPut y t1).1 = y.1 ∧ (raPut y t1).2.2.1 = y.2.2.1 ∧ ra_m (raPut y t1) = ra_m y + 1 ∧ ra_v (raPut y t1) = ra_v y ∧ ra_p (raPut y t1) = ra_p y ∧ ra_q (raPut y t1) = ra_q y := fun y => ⟨AGr.rfl'.put, rfl, rfl, rfl, rfl, rfl, rfl⟩
/-- what both do with a place, up to "=" -/
theorem c_place (V' : KC E1 s x') (J' : JJ E1 cr E2 w0 u' q' T' t' x' y') (hk : T'.2.1 = 61) (hs : ca_s x' = 1) (hh : ca_h x' = h + 1) (c1 : ca_c x' (2 * h) = op) (c2 : ca_c x' (2 * h + 1) = ar) : ∃ s1, KC E1 s1 (caDrop x' h) ∧ ((gR s 132 5 0).bind fun v3 => (bnd (x_Lexer_kind (d1 + 11) v3 s) fun v5 s4 => (if v5 = 61 then ((gI s4 132 5 7).bind fun v6 => (if v6 = 0 then (x_Pars_plainStatement_b73 (clP (d1 + 11)) (d1 + 11) 132 s4) else ((gR s4 132 5 3).bind fun v12 => (bnd (x_Draft_lastOp (d1 + 11) v12 s4) fun v14 s13 => ((gR s13 132 5 3).bind fun v15 => (bnd (x_Draft_lastArgument (d1 + 11) v15 s13) fun v17 s16 => ((gR s16 132 5 3).bind fun v18 => (bnd (x_Draft_dropLast (d1 + 11) v18 s16) fun v20 s19 => (bnd (x_Pars_take (d1 + 11) 132 61 s19) fun v22 s21 => (bnd (cU (clP (d1 + 11) 8 132 dp 0 0 s21)) fun v24 s23 => ((gR s23 132 5 3).bind fun v25 => (bnd (x_Mach_storeFor (d1 + 11) v14 s23) fun v27 s26 => (bnd (x_Draft_add (d1 + 11) v25 v27 v17 s26) fun v29 s28 => (bnd (x_Pars_take (d1 + 11) 132 59 s28) fun v31 s30 => (some ((), s30)))))))))))))))) else (x_Pars_plainStatement_b73 (clP (d1 + 11)) (d1 + 11) 132 s4)))) = (bnd (x_Pars_take (d1 + 11) 132 61 s1) fun v22 s21 => (bnd (cU (clP (d1 + 11) 8 132 dp 0 0 s21)) fun v24 s23 => ((gR s23 132 5 3).bind fun v25 => (bnd (x_Mach_storeFor (d1 + 11) op s23) fun v27 s26 => (bnd (x_Draft_add (d1 + 11) v25 v27 ar s26) fun v29 s28 => (bnd (x_Pars_take (d1 + 11) 132 59 s28) fun v31 s30 => (some ((), s30)))))))) := by
  obtain ⟨s1, e1, V1⟩ := kc_dropLast (d := d1 + 10) J'.eo V' hh
  refine ⟨s1, V1, ?_⟩
  rw [kc_lx V', Option.bind_some, kc_kind V', bnd_some, J'.kd, if_pos hk, kc_sg V', Option.bind_some, hs, if_neg (by decide), kc_dr V', Option.bind_some, kc_lastOp V' hh, bnd_some, kc_dr V', Option.bind_some, kc_lastArg V' hh, bnd_some, kc_dr V', Option.bind_some, e1, bnd_some, c1, c2]
theorem r_place (J' : JJ E1 cr E2 w0 u' q' T' t' x' y') (hk : T'.2.1 = 61) (hs : ra_g y' = 1) (he : ra_e y' = nI e) (h6 : e + 1 < 6000) (c1 : ra_s y' e = opr) (c2 : ¬ opr = 7 → ra_s y' (e + 1) = l4) (h7 : opr = 7 → l4 = 0) : (bnd (x_Mod_is (d2 + 11) 160 26 (pm cr E2 y')) fun v4 s3 => (if v4 = 0 then (bnd (x_Mod_put_I (d2 + 11) 160 27 s3) fun v6 s5 => (bnd (x_Mod_take (d2 + 11) 160 68 s5) fun v8 s7 => (okB v8 (some (v8, s7))))) else ((gI s3 160 14 25).bind fun v9 => (if v9 = 0 then (bnd (x_Mod_bad (d2 + 11) 160 s3) fun v11 s10 => (okB v11 (some (v11, s10)))) else ((gI s3 160 14 27).bind fun v12 => ((gR s3 160 14 22).bind fun v13 => ((gR s3 v13 12 0).bind fun v14 => ((aI s3 v14 v12).bind fun v15 => (if v15 = 7 then (x_Mod_assignment_b81 (clM (d2 + 11)) (d2 + 11) 160 dp v12 v15 0 s3) else ((gR s3 160 14 22).bind fun v30 => ((gR s3 v30 12 0).bind fun v31 => ((aI s3 v31 (v12 + 1)).bind fun v32 => (x_Mod_assignment_b81 (clM (d2 + 11)) (d2 + 11) 160 dp v12 v15 v32 s3))))))))))))) = (bnd (x_Mod_step (d2 + 11) 160 (pm cr E2 (raMany y' e))) fun v19 s18 => (bnd (clM (d2 + 11) 6 160 dp 0 0 s18) fun v21 s20 => (if v21 = 0 then (some (0, s20)) else (if opr = 1 then (x_Mod_assignment_b136 (clM (d2 + 11)) (d2 + 11) 160 opr l4 160 2 s20) else (if opr = 3 then (x_Mod_assignment_b136 (clM (d2 + 11)) (d2 + 11) 160 opr l4 160 4 s20) else (if opr = 5 then (x_Mod_assignment_b136 (clM (d2 + 11)) (d2 + 11) 160 opr l4 160 6 s20) else (x_Mod_assignment_b136 (clM (d2 + 11)) (d2 + 11) 160 opr l4 160 8 s20))))))) := by
  rw [J'.is (d := d2 + 7) (K := 61) 7 rfl (by decide) rfl, bnd_some, if_pos hk, if_neg (by decide), y_25 J'.er, Option.bind_some, hs, if_neg (by decide), y_27 J'.er, Option.bind_some, he, y_22 J'.er, Option.bind_some, y_c0 J'.er, Option.bind_some, y_aS J'.er (by omega), Option.bind_some, c1]
  by_cases k : opr = 7
  · rw [if_pos k, h7 k]
    unfold x_Mod_assignment_b81
    rw [y_22 J'.er, Option.bind_some, y_pc2 J'.er, Option.bind_some]
  · rw [if_neg k, Option.bind_some, y_c0 J'.er, Option.bind_some, ← nI_succ, y_aS J'.er h6, Option.bind_some, c2 k]
    unfold x_Mod_assignment_b81
    rw [y_22 J'.er, Option.bind_some, y_pc2 J'.er, Option.bind_some]
theorem j_plain (hp : p ≤ 16) (hd1 : 12 * (16 - p) + 40 ≤ d1) (hd2 : 12 * (16 - p) + 40 ≤ d2) (V : KC E1 s x) (J : JJ E1 cr E2 w0 u q T t x y) (hV : V0 ≤ ra_v y) (hh : ca_h x ≤ 2 * u + 1) (hm : ra_m y ≤ 3 * u + 1) : OUT E1 cr E2 w0 (ca_h x) (4000 + 4 * (12 * (16 - p) + 34)) (QI V0 1 x y u) (x_Pars_plainStatement_b (clP d1) d1 132 (nI p) s) (x_Mod_assignment_b (clM d2) d2 160 (nI p) (pm cr E2 y)) := by
  obtain ⟨d1, rfl⟩ : ∃ k, d1 = k + 11 := ⟨d1 - 11, by omega⟩
  obtain ⟨d2, rfl⟩ : ∃ k, d2 = k + 11 := ⟨d2 - 11, by omega⟩
  have hb := J.2.2.2.2.2
  unfold x_Pars_plainStatement_b x_Mod_assignment_b
  rw [kc_gd V, y_gd J.er]
  rcases hx_all (V0 := V0) hp (d1 + 11) (d2 + 11) (by omega) (by omega) s _ _ _ _ _ _ V J hV with ⟨s', x', y', u', q', T', t', r1, r2, V', J', hq⟩ | ⟨s', x', y', qf, r1, r2, D, g⟩
  · dsimp only at r1 r2
    have hb' := J'.2.2.2.2.2
    have hu' := J'.uq
    have hV' := hq.ve hV
    rw [r1, r2, bnd_some, bnd_some, if_neg (by decide)]
    obtain ⟨⟨k1, k2, k3, k4, k5, k6⟩, ⟨D, k7, k8⟩, ha, hb2⟩ := hq
    have k21 := k2.1
    have k31 := k3.1
    by_cases c61 : T'.2.1 = 61
    · rcases hb2 with h0 | ⟨h1, G⟩
      · obtain ⟨s2, e2, V2⟩ := kc_add (d := d1 + 9) (op := 8) (ar := 0) J.eo V' (by omega)
        have J2 : JJ E1 cr E2 w0 u' q' T' t' (caAdd x' 8 0) y' := J'.chg ⟨rfl, rfl, rfl, rfl⟩ ⟨rfl, rfl⟩ (by
          show ca_h x' + 1 ≤ _ ∧ ca_k x' ≤ _ ∧ ra_m y' ≤ _ ∧ ra_v y' ≤ _ ∧ ra_p y' ≤ _
          omega)
        obtain ⟨s3, e3, D3⟩ := jj_takeNo (d := d1 + 9) (K := 59) V2 J2 (by rw [c61]; decide)
        rw [kc_lx V', Option.bind_some, kc_kind V', bnd_some, J'.kd, if_pos c61, kc_sg V', Option.bind_some, if_pos h0]
        unfold x_Pars_plainStatement_b73
        rw [kc_dr V', Option.bind_some, e2, bnd_some, e3, bnd_some, J'.is (d := d2 + 7) (K := 61) 7 rfl (by decide) rfl, bnd_some, if_pos c61, if_neg (by decide), y_25 J'.er, Option.bind_some, if_pos (ha.symm.trans h0), jj_bad J', bnd_some, okB_of (Or.inl rfl)]
        exact OUT.no' D3 J'.rf (by show ca_h x ≤ ca_h x' + 1; omega) (by omega)
      · have hg1 : ra_g y' = 1 := ha.symm.trans h1
        rcases G with ⟨i, a1, a2, a3, a4, a5, a6, a7, a8⟩ | ⟨w, pp, z, a0, a2, a3, a4, a5, a6, a9, a10, a7, a8, a11, a12, a13⟩ | ⟨w, pp, z, b, b', D, a0, ⟨a1, a2, a14, a3, a4⟩, a5, a6, a9, a10, a7, a8, a11, a12, a13, a15, a16⟩ | ⟨b, b', l, ⟨a1, a2, a14, a3, a4, a17⟩, a5, a7, a15, a16⟩
        · obtain ⟨s1, V1, e1⟩ := c_place (d1 := d1) (dp := nI p) V' J' c61 h1 a2 a5 a6
          refine Eq.mpr (congrArg (fun z => OUT _ _ _ _ _ _ _ z _) e1) ?_
          rw [r_place (d2 := d2) (dp := nI p) J' c61 hg1 a4 (by omega) a7 (fun _ => a8) (fun h => absurd h (by decide))]
          refine j_store (K2 := fun s20 => (if (1 : Int32) = 1 then (x_Mod_assignment_b136 (clM (d2 + 11)) (d2 + 11) 160 1 (nI i) 160 2 s20) else (if (1 : Int32) = 3 then (x_Mod_assignment_b136 (clM (d2 + 11)) (d2 + 11) 160 1 (nI i) 160 4 s20) else (if (1 : Int32) = 5 then (x_Mod_assignment_b136 (clM (d2 + 11)) (d2 + 11) 160 1 (nI i) 160 6 s20) else (x_Mod_assignment_b136 (clM (d2 + 11)) (d2 + 11) 160 1 (nI i) 160 8 s20))))) (g := fun y => raPut (raPut y 2) (nI i)) (wd := 2) (e := ra_m y) hp (by omega) (by omega) k1 V1 J' hV' c61 a2 a3 (by decide) (k2.drop (Nat.le_refl _)) (k3.many (Nat.le_refl _)) k4 k5.1 k6 g_two (fun y hy => by
            show (if (1 : Int32) = 1 then _ else _) = _
            rw [if_pos rfl]
            exact k_two J.er hy (by decide)) (fun x3 y3 u3 D b1 b2 b3 b4 b5 => ⟨sLet i D, ?_, ?_⟩)
          · exact ImS_let b1.1 (b4.ext (Nat.le_refl _) (by omega) (Nat.le_refl _) (fun j _ hj => (AGc.rfl'.add (op := 13 + 1) (ar := nI i)).2.1 j hj) (fun _ _ => rfl)) (by have := k5.1; omega) (up20.trans (by decide)) up21
          · exact IrS_let b2.1 (b5.ext (Nat.le_refl _) (by omega) (Nat.le_refl _) (Nat.le_refl _) (fun j _ hj => (AGr.rfl'.put (v := 2) |>.put (v := nI i)).2.1 j hj) (fun _ _ _ => rfl)) (by have := k5.1; omega) (by omega) up10 up11
        · obtain ⟨s1, V1, e1⟩ := c_place (d1 := d1) (dp := nI p) V' J' c61 h1 a2 a5 a6
          refine Eq.mpr (congrArg (fun z => OUT _ _ _ _ _ _ _ z _) e1) ?_
          rw [r_place (d2 := d2) (dp := nI p) J' c61 hg1 a4 (by omega) a7 (fun _ => a8) (fun h => absurd h (by decide))]
          refine j_store (K2 := fun s20 => (if (3 : Int32) = 1 then (x_Mod_assignment_b136 (clM (d2 + 11)) (d2 + 11) 160 3 (nI z) 160 2 s20) else (if (3 : Int32) = 3 then (x_Mod_assignment_b136 (clM (d2 + 11)) (d2 + 11) 160 3 (nI z) 160 4 s20) else (if (3 : Int32) = 5 then (x_Mod_assignment_b136 (clM (d2 + 11)) (d2 + 11) 160 3 (nI z) 160 6 s20) else (x_Mod_assignment_b136 (clM (d2 + 11)) (d2 + 11) 160 3 (nI z) 160 8 s20))))) (g := fun y => raPut (raPut y 4) (nI z)) (wd := 2) (e := ra_m y) hp (by omega) (by omega) k1 V1 J' hV' c61 a2 a3 (by decide) (k2.drop (Nat.le_refl _)) (k3.many (Nat.le_refl _)) k4 k5.1 k6 g_two (fun y hy => by
            show (if (3 : Int32) = 1 then _ else _) = _
            rw [if_neg (by decide), if_pos rfl]
            exact k_two J.er hy (by decide)) (fun x3 y3 u3 D3 b1 b2 b3 b4 b5 => ?_)
          have hk3 : ca_k x' ≤ ca_k x3 := b1.2.2.1
          have hv3 : ra_v y' ≤ ra_v y3 := b2.2.2.1
          have et := k5.1
          refine ⟨sRoot w D3, ?_, ?_⟩
          · exact ImS_root b1.1 (b4.ext (Nat.le_refl _) (by omega) (Nat.le_refl _) (fun j _ hj => (AGc.rfl'.add (op := 15 + 1) (ar := nI pp)).2.1 j hj) (fun _ _ => rfl)) (up20.trans (by decide)) up21 (by omega) ((b1.2.2.2 pp a9).trans a10)
          · exact IrS_root a0 b2.1 (by omega) (b5.ext (Nat.le_refl _) (by omega) (Nat.le_refl _) (Nat.le_refl _) (fun j _ hj => (AGr.rfl'.put (v := 4) |>.put (v := nI z)).2.1 j hj) (fun _ _ _ => rfl)) up10 up11 a11 (by omega) (by rw [b2.2.2.2.1 z a12]; exact a13)
        · obtain ⟨s1, V1, e1⟩ := c_place (d1 := d1) (dp := nI p) V' J' c61 h1 a2 a5 a6
          refine Eq.mpr (congrArg (fun z => OUT _ _ _ _ _ _ _ z _) e1) ?_
          rw [r_place (d2 := d2) (dp := nI p) J' c61 hg1 a4 (by omega) a7 (fun _ => a8) (fun h => absurd h (by decide))]
          refine j_store (K2 := fun s20 => (if (5 : Int32) = 1 then (x_Mod_assignment_b136 (clM (d2 + 11)) (d2 + 11) 160 5 (nI z) 160 2 s20) else (if (5 : Int32) = 3 then (x_Mod_assignment_b136 (clM (d2 + 11)) (d2 + 11) 160 5 (nI z) 160 4 s20) else (if (5 : Int32) = 5 then (x_Mod_assignment_b136 (clM (d2 + 11)) (d2 + 11) 160 5 (nI z) 160 6 s20) else (x_Mod_assignment_b136 (clM (d2 + 11)) (d2 + 11) 160 5 (nI z) 160 8 s20))))) (g := fun y => raPut (raPut y 6) (nI z)) (wd := 2) (e := b') hp (by omega) (by omega) k1 V1 J' hV' c61 a2 a3 (by decide) (k2.drop a1) (k3.many a14) k4 k5.1 k6 g_two (fun y hy => by
            show (if (5 : Int32) = 1 then _ else _) = _
            rw [if_neg (by decide), if_neg (by decide), if_pos rfl]
            exact k_two J.er hy (by decide)) (fun x3 y3 u3 D3 b1 b2 b3 b4 b5 => ?_)
          have hk3 : ca_k x' ≤ ca_k x3 := b1.2.2.1
          have hv3 : ra_v y' ≤ ra_v y3 := b2.2.2.1
          have et := k5.1
          refine ⟨sField w D D3, ?_, ?_⟩
          · exact ImS_field a1 b1.1 (by omega) (a15.ext (by omega) (by omega) hk3 (fun j _ hj => ((AGc.rfl'.add (op := 17 + 1) (ar := nI pp)).2.1 j (by have := b1.1; have e : b ≤ ca_h x3 := this; omega)).trans (b1.2.1 j hj)) (fun j hj => b1.2.2.2 j hj)) (b4.ext (Nat.le_refl _) (by omega) (Nat.le_refl _) (fun j _ hj => (AGc.rfl'.add (op := 17 + 1) (ar := nI pp)).2.1 j hj) (fun _ _ => rfl)) (up20.trans (by decide)) up21 (by omega) ((b1.2.2.2 pp a9).trans a10)
          · exact IrS_field a0 a14 b2.1 (by omega) (a16.ext (by omega) (by omega) (Nat.le_refl _) hv3 (fun j _ hj => ((AGr.rfl'.put (v := 6) |>.put (v := nI z)).2.1 j (by have := b2.1; have e : b' ≤ ra_m y3 := this; omega)).trans (b2.2.1 j hj)) (fun j _ hj => b2.2.2.2.1 j hj)) (b5.ext (Nat.le_refl _) (by omega) (Nat.le_refl _) (Nat.le_refl _) (fun j _ hj => (AGr.rfl'.put (v := 6) |>.put (v := nI z)).2.1 j hj) (fun _ _ _ => rfl)) up10 up11 a11 (by omega) (by rw [b2.2.2.2.1 z a12]; exact a13)
        · obtain ⟨s1, V1, e1⟩ := c_place (d1 := d1) (dp := nI p) V' J' c61 h1 a2 a5 rfl
          refine Eq.mpr (congrArg (fun z => OUT _ _ _ _ _ _ _ z _) e1) ?_
          rw [r_place (d2 := d2) (dp := nI p) J' c61 hg1 a4 (by omega) a7 (fun h => absurd rfl h) (fun _ => rfl)]
          refine j_store (K2 := fun s20 => (if (7 : Int32) = 1 then (x_Mod_assignment_b136 (clM (d2 + 11)) (d2 + 11) 160 7 0 160 2 s20) else (if (7 : Int32) = 3 then (x_Mod_assignment_b136 (clM (d2 + 11)) (d2 + 11) 160 7 0 160 4 s20) else (if (7 : Int32) = 5 then (x_Mod_assignment_b136 (clM (d2 + 11)) (d2 + 11) 160 7 0 160 6 s20) else (x_Mod_assignment_b136 (clM (d2 + 11)) (d2 + 11) 160 7 0 160 8 s20))))) (g := fun y => raPut y 8) (wd := 1) (e := b') hp (by omega) (by omega) k1 V1 J' hV' c61 a2 a3 (by decide) (k2.drop a1) (k3.many a14) k4 k5.1 k6 g_one (fun y hy => by
            show (if (7 : Int32) = 1 then _ else _) = _
            rw [if_neg (by decide), if_neg (by decide), if_neg (by decide)]
            exact k_one J.er hy) (fun x3 y3 u3 D3 b1 b2 b3 b4 b5 => ?_)
          have hk3 : ca_k x' ≤ ca_k x3 := b1.2.2.1
          have hv3 : ra_v y' ≤ ra_v y3 := b2.2.2.1
          have et := k5.1
          refine ⟨sItem l D3, ?_, ?_⟩
          · exact ImS_item a1 b1.1 (by omega) (a15.ext (by omega) (by omega) hk3 (fun j _ hj => ((AGc.rfl'.add (op := 19 + 1) (ar := ca_c x' (2 * b + 1))).2.1 j (by have := b1.1; have e : b ≤ ca_h x3 := this; omega)).trans (b1.2.1 j hj)) (fun j hj => b1.2.2.2 j hj)) (b4.ext (Nat.le_refl _) (by omega) (Nat.le_refl _) (fun j _ hj => (AGc.rfl'.add (op := 19 + 1) (ar := ca_c x' (2 * b + 1))).2.1 j hj) (fun _ _ => rfl)) (up20.trans (by decide))
          · exact IrS_item a14 b2.1 (by omega) (a16.ext (by omega) (by omega) (Nat.le_refl _) hv3 (fun j _ hj => ((AGr.rfl'.put (v := 8)).2.1 j (by have := b2.1; have e : b' ≤ ra_m y3 := this; omega)).trans (b2.2.1 j hj)) (fun j _ hj => b2.2.2.2.1 j hj)) (b5.ext (Nat.le_refl _) (by omega) (Nat.le_refl _) (Nat.le_refl _) (fun j _ hj => (AGr.rfl'.put (v := 8)).2.1 j hj) (fun _ _ _ => rfl)) upA
    · obtain ⟨s2, e2, V2⟩ := kc_add (d := d1 + 9) (op := 8) (ar := 0) J.eo V' (by omega)
      have J2 : JJ E1 cr E2 w0 u' q' T' t' (caAdd x' 8 0) (raPut y' 27) := J'.chg ⟨rfl, rfl, rfl, rfl⟩ ⟨rfl, rfl⟩ (by
        show ca_h x' + 1 ≤ _ ∧ ca_k x' ≤ _ ∧ ra_m y' + 1 ≤ _ ∧ ra_v y' ≤ _ ∧ ra_p y' ≤ _
        omega)
      rw [kc_lx V', Option.bind_some, kc_kind V', bnd_some, J'.kd, if_neg c61, J'.is (d := d2 + 7) (K := 61) 7 rfl (by decide) rfl, bnd_some, if_neg c61, if_pos rfl, y_put J.er (by omega), bnd_some]
      unfold x_Pars_plainStatement_b73
      rw [kc_dr V', Option.bind_some, e2, bnd_some]
      refine j_semi (d1 := d1 + 5) (d2 := d2 + 5) V2 J2 (by show ca_h x ≤ ca_h x' + 1; omega) (by omega) (QI.lexS ?_)
      have et := k5.1
      refine ⟨by omega, k2.add, k3.put, k4, ⟨by show ca_t x ≤ ca_t x'; omega, by show 5 * ca_t x' + u ≤ _; omega⟩, ?_, sDrop D, ?_, ?_⟩
      · show ca_h x' + 1 + 1 + 2 * u ≤ _ ∧ ca_k x' + 2 * u ≤ _ ∧ ra_m y' + 1 + 1 + 3 * u ≤ _ ∧ ra_v y' + u ≤ _
        omega
      · exact ImS_drop k2.1 (k7.ext (by show ca_t x ≤ ca_t x'; omega) (by omega) (Nat.le_refl _) (fun j _ hj => (AGc.rfl'.add (op := 8) (ar := 0)).2.1 j hj) (fun _ _ => rfl)) up20
      · exact IrS_drop k3.1 (by omega) (k8.ext (by show ca_t x ≤ ca_t x'; omega) (by omega) (Nat.le_refl _) (Nat.le_refl _) (fun j _ hj => (AGr.rfl'.put (v := 27)).2.1 j hj) (fun _ _ _ => rfl)) upA
  · dsimp only at r1 r2
    obtain ⟨s3, x3, e3, D3⟩ := dd_add (d := d1 + 9) (op := 8) (ar := 0) D (by omega)
    obtain ⟨s4, x4, e4, D4⟩ := dd_take (d := d1 + 9) (k := 59) D3 (by decide)
    rw [r1, r2, bnd_some, bnd_some, if_pos rfl, kc_lx D.1, Option.bind_some, dd_kind D, bnd_some, if_neg (by decide)]
    unfold x_Pars_plainStatement_b73
    rw [kc_dr D.1, Option.bind_some, e3, bnd_some, e4, bnd_some]
    exact OUT.no' D4 g (by omega) (by omega)
end
