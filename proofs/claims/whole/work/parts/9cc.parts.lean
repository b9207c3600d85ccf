/-! . and [ ] behind an atom; signs before it -/
def prB (c : CLT) (d : Nat) (x1 : Int32) : (Int32 × HS → Option (Unit × HS)) → Int32 × HS → Option (Unit × HS) := (fun (again7 : Int32 × HS → Option (Unit × HS)) (z7 : Int32 × HS) => (if 1500 ≤ z7.1 then (some ((), z7.2)) else ((gR z7.2 132 5 0).bind fun v3 => (bnd (x_Lexer_kind d v3 z7.2) fun v5 s4 => (if v5 = 46 then (bnd (x_Pars_take d 132 46 s4) fun v7 s6 => ((gR s6 132 5 3).bind fun v8 => (bnd (x_Pars_takeName d 132 s6) fun v10 s9 => (bnd (x_Pars_keepName d 132 v10 s9) fun v12 s11 => (bnd (x_Draft_add d v8 17 v12 s11) fun v14 s13 => ((pV s13 132 5 7 (.int 1)).bind fun s15 => (again7 ((z7.1 + 1), s15)))))))) else ((gR s4 132 5 0).bind fun v16 => (bnd (x_Lexer_kind d v16 s4) fun v18 s17 => (if v18 = 91 then (bnd (x_Pars_open d 132 91 x1 s17) fun v20 s19 => (if v20 = 0 then (some ((), s19)) else (bnd (cU (c 8 132 (x1 + 1) 0 0 s19)) fun v22 s21 => (bnd (x_Pars_take d 132 93 s21) fun v24 s23 => ((gR s23 132 5 3).bind fun v25 => (bnd (x_Draft_add d v25 19 0 s23) fun v27 s26 => ((pV s26 132 5 7 (.int 1)).bind fun s28 => (again7 ((z7.1 + 1), s28))))))))) else (some ((), s17))))))))))
def atB (c : CLT) (d : Nat) (x1 : Int32) : (HS → Option (Int32 × HS)) → HS → Option (Int32 × HS) := (fun (again10 : HS → Option (Int32 × HS)) (z10 : HS) => (bnd (x_Mod_is d 160 46 z10) fun v4 s3 => (if v4 = 0 then (bnd (x_Mod_is d 160 40 s3) fun v6 s5 => (if v6 = 0 then (some (1, s5)) else (bnd (x_Mod_is d 160 46 s5) fun v8 s7 => (if v8 = 0 then (if x1 = 16 then (bnd (x_Mod_bad d 160 s7) fun v10 s9 => (okB v10 (some (v10, s9)))) else (bnd (x_Mod_step d 160 s7) fun v12 s11 => (if v8 = 0 then (bnd ((c 6 160 (x1 + 1) 0 0 s11)) fun v14 s13 => (if v14 = 0 then (some (0, s13)) else (bnd (x_Mod_put_I d 160 7 s13) fun v16 s15 => ((pV s15 160 14 27 (.int v16)).bind fun s17 => (bnd (x_Mod_take d 160 44 s17) fun v19 s18 => (if v19 = 0 then (some (0, s18)) else ((pV s18 160 14 25 (.int 1)).bind fun s20 => (again10 s20)))))))) else ((gI s11 160 14 6).bind fun v21 => (if v21 = 1 then (bnd (x_Mod_name d 160 s11) fun v23 s22 => (bnd (x_Mod_nameValue d 160 v23 s22) fun v25 s24 => ((gR s24 160 14 22).bind fun v26 => ((gI s24 v26 12 2).bind fun v27 => ((pV s24 160 14 27 (.int v27)).bind fun s28 => (bnd (x_Mod_put_II d 160 5 v25 s28) fun v30 s29 => (bnd (x_Mod_step d 160 s29) fun v32 s31 => ((pV s31 160 14 25 (.int 1)).bind fun s33 => (again10 s33))))))))) else (bnd (x_Mod_bad d 160 s11) fun v35 s34 => (okB v35 (some (v35, s34))))))))) else (bnd (x_Mod_step d 160 s7) fun v37 s36 => (if v8 = 0 then (bnd ((c 6 160 (x1 + 1) 0 0 s36)) fun v39 s38 => (if v39 = 0 then (some (0, s38)) else (bnd (x_Mod_put_I d 160 7 s38) fun v41 s40 => ((pV s40 160 14 27 (.int v41)).bind fun s42 => (bnd (x_Mod_take d 160 44 s42) fun v44 s43 => (if v44 = 0 then (some (0, s43)) else ((pV s43 160 14 25 (.int 1)).bind fun s45 => (again10 s45)))))))) else ((gI s36 160 14 6).bind fun v46 => (if v46 = 1 then (bnd (x_Mod_name d 160 s36) fun v48 s47 => (bnd (x_Mod_nameValue d 160 v48 s47) fun v50 s49 => ((gR s49 160 14 22).bind fun v51 => ((gI s49 v51 12 2).bind fun v52 => ((pV s49 160 14 27 (.int v52)).bind fun s53 => (bnd (x_Mod_put_II d 160 5 v50 s53) fun v55 s54 => (bnd (x_Mod_step d 160 s54) fun v57 s56 => ((pV s56 160 14 25 (.int 1)).bind fun s58 => (again10 s58))))))))) else (bnd (x_Mod_bad d 160 s36) fun v60 s59 => (okB v60 (some (v60, s59)))))))))))) else (bnd (x_Mod_is d 160 46 s3) fun v62 s61 => (if v62 = 0 then (if x1 = 16 then (bnd (x_Mod_bad d 160 s61) fun v64 s63 => (okB v64 (some (v64, s63)))) else (bnd (x_Mod_step d 160 s61) fun v66 s65 => (if v62 = 0 then (bnd ((c 6 160 (x1 + 1) 0 0 s65)) fun v68 s67 => (if v68 = 0 then (some (0, s67)) else (bnd (x_Mod_put_I d 160 7 s67) fun v70 s69 => ((pV s69 160 14 27 (.int v70)).bind fun s71 => (bnd (x_Mod_take d 160 44 s71) fun v73 s72 => (if v73 = 0 then (some (0, s72)) else ((pV s72 160 14 25 (.int 1)).bind fun s74 => (again10 s74)))))))) else ((gI s65 160 14 6).bind fun v75 => (if v75 = 1 then (bnd (x_Mod_name d 160 s65) fun v77 s76 => (bnd (x_Mod_nameValue d 160 v77 s76) fun v79 s78 => ((gR s78 160 14 22).bind fun v80 => ((gI s78 v80 12 2).bind fun v81 => ((pV s78 160 14 27 (.int v81)).bind fun s82 => (bnd (x_Mod_put_II d 160 5 v79 s82) fun v84 s83 => (bnd (x_Mod_step d 160 s83) fun v86 s85 => ((pV s85 160 14 25 (.int 1)).bind fun s87 => (again10 s87))))))))) else (bnd (x_Mod_bad d 160 s65) fun v89 s88 => (okB v89 (some (v89, s88))))))))) else (bnd (x_Mod_step d 160 s61) fun v91 s90 => (if v62 = 0 then (bnd ((c 6 160 (x1 + 1) 0 0 s90)) fun v93 s92 => (if v93 = 0 then (some (0, s92)) else (bnd (x_Mod_put_I d 160 7 s92) fun v95 s94 => ((pV s94 160 14 27 (.int v95)).bind fun s96 => (bnd (x_Mod_take d 160 44 s96) fun v98 s97 => (if v98 = 0 then (some (0, s97)) else ((pV s97 160 14 25 (.int 1)).bind fun s99 => (again10 s99)))))))) else ((gI s90 160 14 6).bind fun v100 => (if v100 = 1 then (bnd (x_Mod_name d 160 s90) fun v102 s101 => (bnd (x_Mod_nameValue d 160 v102 s101) fun v104 s103 => ((gR s103 160 14 22).bind fun v105 => ((gI s103 v105 12 2).bind fun v106 => ((pV s103 160 14 27 (.int v106)).bind fun s107 => (bnd (x_Mod_put_II d 160 5 v104 s107) fun v109 s108 => (bnd (x_Mod_step d 160 s108) fun v111 s110 => ((pV s110 160 14 25 (.int 1)).bind fun s112 => (again10 s112))))))))) else (bnd (x_Mod_bad d 160 s90) fun v114 s113 => (okB v114 (some (v114, s113)))))))))))))
section
variable {E1 : CE} {cr : Nat} {E2 : RE} {w0 : W2} {u u1 u2 v1 q d d1 d2 j V0 A B A' B' p m CL i : Nat} {T : TKc} {t : TKr} {x x' x'' x1 x2 : CA} {y y' y'' y1 y2 : RA} {s s' : HS} {K dp op opr ar : Int32} {w : List Nat}
theorem j_atom (hp : p ≤ 16) (HE : p < 16 → HX E1 cr E2 w0 V0 (p + 1)) (hd1 : 12 * (16 - p) + 12 ≤ d1) (hd2 : 12 * (16 - p) + 12 ≤ d2) : JE E1 cr E2 w0 V0 (4000 + 4 * (12 * (16 - p) + 23)) (fun s => x_Pars_atom_b (clP (d1 + 10)) (d1 + 10) 132 (nI p) s) (fun s => x_Mod_simple_b (clM (d2 + 9)) (d2 + 9) 160 (nI p) s) := by
  intro s x y u q T t V J hV
  dsimp only
  by_cases h3 : T.2.1 = 3
  · exact ja_num (d1 := d1 + 2) (d2 := d2 + 1) V J hV h3
  by_cases h4 : T.2.1 = 4
  · exact ja_text (d1 := d1 + 2) (d2 := d2 + 1) V J hV h4
  by_cases h13 : T.2.1 = 13
  · exact ja_nil (d1 := d1 + 2) (d2 := d2 + 1) V J hV h13
  by_cases h2 : T.2.1 = 2
  · obtain ⟨q1, T1, t1, J1, _⟩ := J.adv (by rw [h2]; decide) (by rw [h2]; decide)
    by_cases c : T1.2.1 = 40
    · exact ja_call hp HE hd1 hd2 V J hV h2 J1 c
    · exact ja_var V J hV h2 J1 c
  by_cases h40 : T.2.1 = 40
  · exact ja_brk hp HE hd1 hd2 V J hV h40
  by_cases h91 : T.2.1 = 91
  · exact ja_row hp HE hd1 hd2 V J hV h91
  by_cases h123 : T.2.1 = 123
  · exact ja_rec hp HE hd1 hd2 V J hV h123
  have Jg := J.gv 0
  by_cases h14 : T.2.1 = 14
  · refine ja_one (K := 14) (op := 23) (opr := 17) (F := dOne d_size) (fun a b c d e => ImE_size a b c d e) (fun a b c d => IrE_size a b c d) hp HE hd1 hd2 V J hV h14 (by decide) (by decide) (by decide) _ _ ?_ ?_
    · unfold x_Pars_atom_b
      rw [kc_gd V, kc_lx V, Option.bind_some, kc_kind V, bnd_some, J.kd, h14, if_neg (by decide), if_neg (by decide), if_neg (by decide), if_neg (by decide), if_pos rfl, c_one]
    · rw [r_sim J h3 h4 h13 h2, if_pos (Or.inl h14)]
      unfold x_Mod_built_b
      rw [y_gd J.er, Jg.is (d := d2 + 4) (K := 14) 11 rfl (by decide) rfl, bnd_some, if_pos h14, if_neg (by decide)]
  by_cases h16 : T.2.1 = 16
  · refine ja_one (K := 16) (op := 25) (opr := 19) (F := dOne d_pop) (fun a b c d e => ImE_pop a b c d e) (fun a b c d => IrE_pop a b c d) hp HE hd1 hd2 V J hV h16 (by decide) (by decide) (by decide) _ _ ?_ ?_
    · unfold x_Pars_atom_b
      rw [kc_gd V, kc_lx V, Option.bind_some, kc_kind V, bnd_some, J.kd, h16, if_neg (by decide), if_neg (by decide), if_neg (by decide), if_neg (by decide), if_neg (by decide), if_neg (by decide), if_pos rfl, c_one]
    · rw [r_sim J h3 h4 h13 h2, if_pos (Or.inr (Or.inr h16))]
      unfold x_Mod_built_b
      rw [y_gd J.er, Jg.is (d := d2 + 4) (K := 14) 11 rfl (by decide) rfl, bnd_some, if_neg h14, if_pos rfl, Jg.is (d := d2 + 4) (K := 15) 12 rfl (by decide) rfl, bnd_some, if_neg (show ¬ T.2.1 = 15 by rw [h16]; decide), if_pos rfl]
  by_cases h15 : T.2.1 = 15
  · refine ja_push hp HE hd1 hd2 V J hV h15 _ _ ?_ ?_
    · unfold x_Pars_atom_b
      rw [kc_gd V, kc_lx V, Option.bind_some, kc_kind V, bnd_some, J.kd, h15, if_neg (by decide), if_neg (by decide), if_neg (by decide), if_neg (by decide), if_neg (by decide), if_pos rfl, c_psh]
    · rw [r_sim J h3 h4 h13 h2, if_pos (Or.inr (Or.inl h15))]
      unfold x_Mod_built_b
      rw [y_gd J.er, Jg.is (d := d2 + 4) (K := 14) 11 rfl (by decide) rfl, bnd_some, if_neg h14, if_pos rfl, Jg.is (d := d2 + 4) (K := 15) 12 rfl (by decide) rfl, bnd_some, if_pos h15, if_neg (by decide)]
  obtain ⟨s1, e1, D1⟩ := jj_fail (d := d1 + 9) V J
  obtain ⟨s2, x2, e2, D2⟩ := dd_asg (v := 0) D1
  have c : x_Pars_atom_b (clP (d1 + 10)) (d1 + 10) 132 (nI p) s = some ((), s2) := by
    unfold x_Pars_atom_b
    rw [kc_gd V, kc_lx V, Option.bind_some, kc_kind V, bnd_some, J.kd, if_neg h2, if_neg h3, if_neg h4, if_neg h13, if_neg h14, if_neg h15, if_neg h16, if_neg h40, if_neg h91, if_neg h123, e1, bnd_some, e2, Option.bind_some]
  rw [c, r_sim J h3 h4 h13 h2, if_neg (by rintro (h | h | h) <;> contradiction), if_neg (by rintro (h | h | h) <;> contradiction)]
  exact OUT.no' D2 Jg.rf (Nat.le_refl _) (by omega)
theorem QE.lex' {a : LxS} {b : RLx} (h : QE V0 x y u x1 y1 u1) : QE V0 x y u (caLex x1 a) (raLex y1 b) u1 := h
theorem AGr.lex {b : RLx} (h : AGr y y') : AGr y (raLex y' b) := h
theorem AGr.given {v : Int32} (h : AGr y y') : AGr y (raGiven y' v) := h
theorem AGr.last {v : Int32} (h : AGr y y') : AGr y (raLast y' v) := h
theorem AGc.lex {a : LxS} (h : AGc x x') : AGc x (caLex x' a) := h
theorem AGc.asg {v : Int32} (h : AGc x x') : AGc x (caAsg x' v) := h
/-- behind a FAULT the loop ends -/
theorem dd_prB {M : Nat} {qf : Nat} {v : Int32} (D : DD E1 s x qf A B) (hv : ¬ 1500 ≤ v) : loopK (prB (clP (d1 + 11)) (d1 + 11) dp) (M + 1) (v, s) = some ((), s) := by
  rw [loopK_succ]
  unfold prB
  dsimp only
  rw [if_neg hv, kc_lx D.1, Option.bind_some, dd_kind D, bnd_some, if_neg (by decide), kc_lx D.1, Option.bind_some, dd_kind D, bnd_some, if_neg (by decide)]
theorem j_parts (hp : p ≤ 16) (HE : p < 16 → HX E1 cr E2 w0 V0 (p + 1)) (hd1 : 12 * (16 - p) + 12 ≤ d1) (hd2 : 12 * (16 - p) + 12 ≤ d2) : ∀ n i s1 x1 y1 u1 q1 T1 t1 M1 M2, 1500 - u1 < n → 1500 - u1 < M1 → 1500 - u1 < M2 → 2 * i ≤ u1 → KC E1 s1 x1 → JJ E1 cr E2 w0 u1 q1 T1 t1 x1 y1 → V0 ≤ ra_v y1 → QE V0 x y u x1 y1 u1 → OUT E1 cr E2 w0 (ca_h x) (4000 + 4 * (12 * (16 - p) + 24)) (QE V0 x y u) (loopK (prB (clP (d1 + 11)) (d1 + 11) (nI p)) (M1 + 1) (nI i, s1)) (loopK (atB (clM (d2 + 10)) (d2 + 10) (nI p)) (M2 + 1) (pm cr E2 y1)) := by
  intro n
  induction n with
  | zero => intro i s1 x1 y1 u1 q1 T1 t1 M1 M2 h; omega
  | succ n ih =>
    intro i s1 x1 y1 u1 q1 T1 t1 M1 M2 hn hM1 hM2 hi V J hV Q
    have hu := J.uq
    have hb := J.2.2.2.2.2
    have hiv : ∀ k, k ≤ 1 → ¬ (1500 : Int32) ≤ nI (i + k) := fun k hk => nI_ge (b := 1500) (show i + k < 1500 by omega) (by decide)
    have hA := Q.1.2.1.1
    rw [loopK_succ, loopK_succ]
    generalize hag : loopK (atB (clM (d2 + 10)) (d2 + 10) (nI p)) M2 = again2
    generalize hag1 : loopK (prB (clP (d1 + 11)) (d1 + 11) (nI p)) M1 = again1
    unfold prB atB
    dsimp only
    rw [if_neg (show ¬ (1500 : Int32) ≤ nI i from hiv 0 (by omega)), kc_lx V, Option.bind_some, kc_kind V, bnd_some, J.kd, J.is (d := d2 + 6) (K := 46) 17 rfl (by decide) rfl, bnd_some]
    by_cases c46 : T1.2.1 = 46
    · have n0 : ¬ T1.2.1 = 0 := by rw [c46]; decide
      have n1 : ¬ T1.2.1 = 1 := by rw [c46]; decide
      have hlt := J.lt n0 n1
      obtain ⟨s2, e2, V2⟩ := jj_take (d := d1 + 5) V J c46 (by decide) (by decide)
      obtain ⟨q2, T2, t2, J2, _⟩ := J.adv n0 n1
      have Q2 : QE V0 x y u (cav E1 t1 x1) (rav E2 t1 y1) u1 := Q.lex'
      rw [if_pos c46, e2, bnd_some, kc_dr V2, Option.bind_some, if_pos c46, if_neg (by decide), J.is (d := d2 + 6) (K := 46) 17 rfl (by decide) rfl, bnd_some, if_pos c46, if_neg (by decide), jj_step (d := d2 + 5) J, bnd_some, if_neg (by decide), y_6 J.er, Option.bind_some, J2.ar.2.1]
      have hV2 : V0 ≤ ra_v (rav E2 t1 y1) := hV
      generalize cav E1 t1 x1 = x2 at V2 J2 Q2
      generalize rav E2 t1 y1 = y2 at J2 Q2 hV2 ⊢
      have hb2 := J2.2.2.2.2.2
      have hA2 := Q2.1.2.1.1
      by_cases c2 : T2.2.1 = 2
      · have m0 : ¬ T2.2.1 = 0 := by rw [c2]; decide
        have m1 : ¬ T2.2.1 = 1 := by rw [c2]; decide
        have hlt2 := J2.lt m0 m1
        have hw := (J2.tq.nm c2).1
        have nm := y_name (d := d2 + 10) J2.er J2.ar J2.tq c2
        obtain ⟨s3, e3, V3⟩ := jj_takeName (d := d1 + 4) V2 J2 c2
        obtain ⟨q3, T3, t3, J3, _⟩ := J2.adv m0 m1
        generalize nmL (re_g E2) q2 (t2.1 - q2) = w at hw e3 nm
        obtain ⟨s4, e4, V4⟩ := kc_keepName (d := d1 + 8) (y := nC w) J.eo V3 (by show ca_k x2 + 2 ≤ _; omega)
        obtain ⟨s5, e5, V5⟩ := kc_add (d := d1 + 9) (op := 17) (ar := nI (ca_k x2)) J.eo V4 (by show ca_h x2 + 1 ≤ _; omega)
        obtain ⟨s6, e6, V6⟩ := kc_asg (v := 1) J.eo V5
        rw [if_pos (J2.tq.name.mpr c2), nm, bnd_some, y_nv J.er (by omega), bnd_some, y_22 J.er, Option.bind_some, y_c2 J.er, Option.bind_some, y_p27 J.er, Option.bind_some, y_put2 J.er (by show ra_m y2 + 1 < 6000; omega), bnd_some, y_step (p := t2.1) J.er (by exact J2.ar.1) J2.tq.2.2.2, bnd_some, y_p25 J.er, Option.bind_some]
        rw [e3, bnd_some, e4, bnd_some, show ca_k (cav E1 t2 x2) = ca_k x2 from rfl, e5, bnd_some, e6, Option.bind_some, ← nI_succ]
        subst hag hag1
        obtain ⟨M1, rfl⟩ : ∃ k, M1 = k + 1 := ⟨M1 - 1, by omega⟩
        obtain ⟨M2, rfl⟩ : ∃ k, M2 = k + 1 := ⟨M2 - 1, by omega⟩
        obtain ⟨⟨g1, g2, g3, g4, g5, g6⟩, ⟨D, g7, g8⟩, _⟩ := Q2
        refine ih (i + 1) s6 _ _ (u1 + 1 + 1) q3 T3 t3 M1 M2 (by omega) (by omega) (by omega) (by omega) V6 (J3.chg ⟨rfl, rfl, rfl, rfl⟩ ⟨rfl, rfl⟩ ?_) (Nat.le_succ_of_le hV2) ?_
        · show ca_h x2 + 1 ≤ _ ∧ ca_k x2 + 2 ≤ _ ∧ ra_m y2 + 1 + 1 ≤ _ ∧ ra_v y2 + 1 ≤ _ ∧ ra_p y2 ≤ _
          omega
        have ac := ((((AGc.rfl' (x := x2)).lex (a := advS (ce_g E1) (ce_w E1) (ce_L E1) t2.1 (ca_a x2))).keep (z1 := s_Cell_headOf 2 ||| nC w) (z2 := 0)).add (op := 17) (ar := nI (ca_k x2))).asg (v := 1)
        have ar := (((((AGr.rfl' (y := y2)).val (z := (1, 0, nV w, 0))).last (v := nI (ra_m (raVal y2 (1, 0, nV w, 0))))).put (v := 5)).put (v := nI (ra_v y2))).lex (b := advR (re_g E2) (re_L E2) t2.1 (ra_b (raPut (raPut (raLast (raVal y2 (1, 0, nV w, 0)) (nI (ra_m (raVal y2 (1, 0, nV w, 0))))) 5) (nI (ra_v y2))))) |>.given (v := 1)
        have I1 := g7.up (need' := u1 + 1 + 1 - u) (by omega) ac.2.2.1 (fun j hj => ac.2.1 j hj) (fun j hj => ac.2.2.2 j hj)
        have I2 := g8.up (need' := u1 + 1 + 1 - u) (by omega) ar.2.2.1 (fun j hj => ar.2.1 j hj) (fun j hj => ar.2.2.2.1 j hj)
        have vq : (upQ (ra_q y2) (ra_v y2) (1, 0, nV w, 0) (ra_v y2)).2.2.1 = nV w := by rw [upQ_at]
        refine ⟨⟨by omega, g2.trans ac, g3.trans ar, g4, g5, ?_⟩, ⟨dOne (fun S v => d_field S (nF w) v) D, ?_, ?_⟩, rfl, Or.inr ⟨rfl, Or.inr (Or.inr (Or.inl ⟨w, ca_k x2, ra_v y2, ca_h x2, ra_m y2, D, hw, ⟨g2.1, rfl, g3.1, rfl, rfl⟩, up20, up21, Nat.lt_add_of_pos_right (by decide), upl0, up10, up11, hV2, Nat.lt_succ_self _, vq, I1, I2⟩))⟩⟩
        · show ca_h x2 + 1 + 2 * u ≤ _ ∧ ca_k x2 + 2 + 2 * u ≤ _ ∧ ra_m y2 + 1 + 1 + 3 * u ≤ _ ∧ ra_v y2 + 1 + u ≤ _
          omega
        · exact ImE_field (p := ca_k x2) g2.1 (by omega) I1 up20 up21 (Nat.lt_add_of_pos_right (by decide)) upl0
        · exact IrE_field (x := ra_v y2) hw g3.1 (by omega) I2 up10 up11 hV2 (Nat.lt_succ_self _) vq
      · obtain ⟨s3, n3, e3, D3⟩ := jj_takeNameNo (d := d1 + 8) V2 J2 c2
        obtain ⟨s4, x4, n4, e4, D4⟩ := dd_keepName (d := d1 + 8) (y := n3) D3 (by omega)
        obtain ⟨s5, x5, e5, D5⟩ := dd_add (d := d1 + 9) (op := 17) (ar := n4) D4 (by omega)
        obtain ⟨s6, x6, e6, D6⟩ := dd_asg (v := 1) D5
        obtain ⟨M1, rfl⟩ : ∃ k, M1 = k + 1 := ⟨M1 - 1, by omega⟩
        rw [e3, bnd_some, e4, bnd_some, e5, bnd_some, e6, Option.bind_some, ← nI_succ, ← hag1, dd_prB D6 (hiv 1 (by omega)), if_neg (fun h => c2 (J2.tq.name.mp h)), jj_bad J2, bnd_some, okB_of (Or.inl rfl)]
        exact OUT.no' D6 J2.rf hA2 (by omega)
    · rw [if_neg c46, kc_lx V, Option.bind_some, kc_kind V, bnd_some, J.kd, if_neg c46, if_pos rfl, J.is (d := d2 + 6) (K := 91) 14 rfl (by decide) rfl, bnd_some]
      by_cases c91 : T1.2.1 = 91
      · have n0 : ¬ T1.2.1 = 0 := by rw [c91]; decide
        have n1 : ¬ T1.2.1 = 1 := by rw [c91]; decide
        rw [if_pos c91, if_pos c91, if_neg (by decide), J.is (d := d2 + 6) (K := 46) 17 rfl (by decide) rfl, bnd_some, if_neg c46, if_pos rfl]
        by_cases c16 : p = 16
        · subst c16
          obtain ⟨s2, e2, D2⟩ := jj_openNo (d := d1 + 9) (dp := nI 16) V J (K := 91) (fun h => absurd h.2 (by decide))
          rw [e2, bnd_some, if_pos rfl, if_pos (show nI 16 = 16 from rfl), jj_bad J, bnd_some, okB_of (Or.inl rfl)]
          exact OUT.no' D2 J.rf hA (by omega)
        · obtain ⟨s2, e2, V2⟩ := jj_open (d := d1 + 5) (dp := nI p) V J c91 (by decide) (by decide) (lt16 hp c16)
          obtain ⟨q2, T2, t2, J2, _⟩ := J.adv n0 n1
          have Q2 : QE V0 x y u (cav E1 t1 x1) (rav E2 t1 y1) u1 := Q.lex'
          rw [e2, bnd_some, if_neg (by decide), if_neg (en16 hp c16), jj_step (d := d2 + 5) J, bnd_some, if_pos rfl, ← nI_succ]
          have hV2 : V0 ≤ ra_v (rav E2 t1 y1) := hV
          generalize cav E1 t1 x1 = x2 at V2 J2 Q2
          generalize rav E2 t1 y1 = y2 at J2 Q2 hV2 ⊢
          have hA2 := Q2.1.2.1.1
          have dead : ∀ s' x' qf, DD E1 s' x' qf (ca_h x) (4000 + 4 * (12 * (16 - p) + 20)) → ∃ s'' x'', ((gR s' 132 5 3).bind fun v25 => (bnd (x_Draft_add (d1 + 11) v25 19 0 s') fun v27 s26 => ((pV s26 132 5 7 (.int 1)).bind fun s28 => (again1 ((nI i + 1), s28))))) = some ((), s'') ∧ DD E1 s'' x'' qf (ca_h x) (4000 + 4 * (12 * (16 - p) + 24)) := fun s' x' qf D => by
            obtain ⟨s3, x3, e3, D3⟩ := dd_add (d := d1 + 9) (op := 19) (ar := 0) D (by omega)
            obtain ⟨s4, x4, e4, D4⟩ := dd_asg (v := 1) D3
            obtain ⟨M1, rfl⟩ : ∃ k, M1 = k + 1 := ⟨M1 - 1, by omega⟩
            refine ⟨s4, x4, ?_, D4.mono (Nat.le_refl _) (by omega)⟩
            rw [kc_dr D.1, Option.bind_some, e3, bnd_some, e4, Option.bind_some, ← nI_succ, ← hag1]
            exact dd_prB D4 (hiv 1 (by omega))
          rcases HE (by omega) (d1 + 11) (d2 + 10) (by omega) (by omega) s2 _ _ _ _ _ _ V2 J2 hV2 with ⟨s', x', y', u', q', T', t', r1, r2, V', J', hq'⟩ | ⟨s', x', y', qf, r1, r2, D, g⟩
          · dsimp only at r1 r2
            have hb' := J'.2.2.2.2.2
            have hu' := J'.uq
            have hA' : ca_h x ≤ ca_h x' := Nat.le_trans hA2 hq'.1.2.1.1
            rw [r1, r2, bnd_some, bnd_some, if_neg (by decide), y_put J.er (by omega), bnd_some, y_p27 J.er, Option.bind_some]
            have JP : TQ (re_g E2) (re_L E2) q' T' t' ∧ AtR q' t' (ra_b (raLast (raPut y' 7) (nI (ra_m y')))) ∧ (ra_b (raLast (raPut y' 7) (nI (ra_m y')))).2.2.2.2.1 < 0 := ⟨J'.tq, J'.ar, J'.fneg⟩
            by_cases c : T'.2.1 = 93
            · have k0 : ¬ T'.2.1 = 0 := by rw [c]; decide
              have k1 : ¬ T'.2.1 = 1 := by rw [c]; decide
              obtain ⟨s3, e3, V3⟩ := jj_take (d := d1 + 5) V' J' c (by decide) (by decide)
              obtain ⟨q3, T3, t3, J3, _⟩ := J'.adv k0 k1
              obtain ⟨s4, e4, V4⟩ := kc_add (d := d1 + 9) (op := 19) (ar := 0) J.eo V3 (by show ca_h x' + 1 ≤ _; omega)
              obtain ⟨s5, e5, V5⟩ := kc_asg (v := 1) J.eo V4
              rw [e3, bnd_some, kc_dr V3, Option.bind_some, e4, bnd_some, e5, Option.bind_some, y_take (d := d2 + 4) (j := 44) J.er JP.2.1 JP.1 16 rfl (by decide) c, bnd_some, if_neg (by decide), y_p25 J.er, Option.bind_some, ← nI_succ]
              subst hag hag1
              obtain ⟨M1, rfl⟩ : ∃ k, M1 = k + 1 := ⟨M1 - 1, by omega⟩
              obtain ⟨M2, rfl⟩ : ∃ k, M2 = k + 1 := ⟨M2 - 1, by omega⟩
              obtain ⟨⟨g1, g2, g3, g4, g5, g6⟩, ⟨D, g7, g8⟩, _⟩ := Q2
              obtain ⟨⟨h1, h2, h3, h4, h5, h6⟩, ⟨D', h7, h8⟩, _⟩ := hq'
              rw [g5.1] at h7 h8
              have hV3 : V0 ≤ ra_v y' := by have := h3.2.2.1; omega
              refine ih (i + 1) s5 _ _ (u' + 1) q3 T3 t3 M1 M2 (by omega) (by omega) (by omega) (by omega) V5 (J3.chg ⟨rfl, rfl, rfl, rfl⟩ ⟨rfl, rfl⟩ ?_) hV3 ?_
              · show ca_h x' + 1 ≤ _ ∧ ca_k x' ≤ _ ∧ ra_m y' + 1 ≤ _ ∧ ra_v y' ≤ _ ∧ ra_p y' ≤ _
                omega
              have ac := (((AGc.rfl' (x := x')).lex (a := advS (ce_g E1) (ce_w E1) (ce_L E1) t'.1 (ca_a x'))).add (op := 19) (ar := 0)).asg (v := 1)
              have ar := ((((AGr.rfl' (y := y')).put (v := 7)).last (v := nI (ra_m y'))).lex (b := advR (re_g E2) (re_L E2) t'.1 (ra_b (raLast (raPut y' 7) (nI (ra_m y')))))).given (v := 1)
              have I1 := g7.up (need' := u' + 1 - u) (by omega) (h2.trans ac).2.2.1 (fun j hj => (h2.trans ac).2.1 j hj) (fun j hj => (h2.trans ac).2.2.2 j hj)
              have I2 := g8.up (need' := u' + 1 - u) (by omega) (h3.trans ar).2.2.1 (fun j hj => (h3.trans ar).2.1 j hj) (fun j hj => (h3.trans ar).2.2.2.1 j hj)
              have K1' := h7.up (need' := u' + 1 - u - 1) (by omega) ac.2.2.1 (fun j hj => ac.2.1 j hj) (fun j hj => ac.2.2.2 j hj)
              have K2' := h8.up (need' := u' + 1 - u - 1) (by omega) ar.2.2.1 (fun j hj => ar.2.1 j hj) (fun j hj => ar.2.2.2.1 j hj)
              have L1 := ImL_snoc (m := 1) (need := u' + 1 - u) g2.1 h2.1 (ImL_snoc (m := 0) (Nat.le_refl _) g2.1 ImL_nil I1 (Nat.zero_le _)) K1' (by omega)
              have L2 := IrL_snoc (m := 1) (need := u' + 1 - u) g3.1 h3.1 (IrL_snoc (m := 0) (Nat.le_refl _) g3.1 IrL_nil I2 (Nat.zero_le _)) K2' (by omega)
              refine ⟨⟨by omega, g2.trans (h2.trans ac), g3.trans (h3.trans ar), h4.trans g4, ⟨h5.1.trans g5.1, h5.2.1.trans g5.2.1, h5.2.2.trans g5.2.2⟩, ?_⟩, ⟨dTwo d_item D D', ?_, ?_⟩, rfl, Or.inr ⟨rfl, Or.inr (Or.inr (Or.inr ⟨ca_h x', ra_m y', _, ⟨Nat.le_trans g2.1 h2.1, rfl, Nat.le_trans g3.1 h3.1, rfl, rfl, by omega⟩, up20, upA, L1, L2⟩))⟩⟩
              · show ca_h x' + 1 + 2 * u ≤ _ ∧ ca_k x' + 2 * u ≤ _ ∧ ra_m y' + 1 + 3 * u ≤ _ ∧ ra_v y' + u ≤ _
                omega
              · exact ImE_item g2.1 h2.1 (by omega) I1 K1' up20 up21
              · exact IrE_item g3.1 h3.1 (by omega) I2 K2' upA
            · obtain ⟨s3, e3, D3⟩ := jj_takeNo (d := d1 + 9) V' J' c
              obtain ⟨s4, x4, e4, D4⟩ := dead s3 _ _ (D3.mono hA' (by omega))
              rw [e3, bnd_some, e4, y_takeNo (d := d2 + 4) (j := 44) J.er JP.2.1 JP.1 JP.2.2 16 rfl (by decide) c, bnd_some, if_pos rfl]
              exact OUT.no D4 J'.rf
          · dsimp only at r1 r2
            obtain ⟨s3, x3, e3, D3⟩ := dd_take (d := d1 + 9) (k := 93) D (by decide)
            obtain ⟨s4, x4, e4, D4⟩ := dead s3 x3 qf (D3.mono hA2 (by omega))
            rw [r1, r2, bnd_some, bnd_some, if_pos rfl, e3, bnd_some, e4]
            exact OUT.no D4 g
      · rw [if_neg c91, if_neg c91, if_pos rfl]
        exact OUT.ok V J Q
end
