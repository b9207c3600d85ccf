/-! the NAMES of a function -/
def nsB (d : Nat) : (Int32 × HS → Option (Int32 × HS)) → Int32 × HS → Option (Int32 × HS) := (fun (again27 : Int32 × HS → Option (Int32 × HS)) (z27 : Int32 × HS) => (if 4 < z27.1 then (bnd (x_Pars_take d 132 41 z27.2) fun v11 s10 => (some (z27.1, s10))) else ((gR z27.2 132 5 0).bind fun v12 => (bnd (x_Lexer_kind d v12 z27.2) fun v14 s13 => (if v14 = 44 then (bnd (x_Pars_take d 132 44 s13) fun v16 s15 => (bnd (x_Pars_newName d 132 z27.1 s15) fun v18 s17 => (again27 ((z27.1 + 1), s17)))) else (bnd (x_Pars_take d 132 41 s13) fun v20 s19 => (some (z27.1, s19))))))))
def fnB (d : Nat) (l1 : Int32) : (HS → Option (Int32 × HS)) → HS → Option (Int32 × HS) := (fun (again80 : HS → Option (Int32 × HS)) (z80 : HS) => ((gI z80 160 14 24).bind fun v21 => (if v21 = 0 then (bnd (x_Mod_is d 160 16 z80) fun v23 s22 => (if v23 = 0 then ((gI s22 160 14 24).bind fun v24 => (if v24 ≤ 0 then ((gI s22 160 14 6).bind fun v25 => (if v25 = 1 then ((gI s22 160 14 24).bind fun v26 => (if v26 = 4 then (bnd (x_Mod_bad d 160 s22) fun v28 s27 => (okB v28 (some (v28, s27)))) else (bnd (x_Mod_name d 160 s22) fun v30 s29 => (bnd (x_Mod_localOf d 160 v30 s29) fun v32 s31 => (if v32 < 0 then (bnd (x_Mod_name d 160 s31) fun v34 s33 => (bnd (x_Mod_let d 160 v34 s33) fun v36 s35 => (bnd (x_Mod_step d 160 s35) fun v38 s37 => (again80 s37)))) else (bnd (x_Mod_bad d 160 s31) fun v40 s39 => (okB v40 (some (v40, s39))))))))) else (bnd (x_Mod_bad d 160 s22) fun v42 s41 => (okB v42 (some (v42, s41)))))) else (bnd (x_Mod_step d 160 s22) fun v44 s43 => ((gI s43 160 14 6).bind fun v45 => (if v45 = 1 then ((gI s43 160 14 24).bind fun v46 => (if v46 = 4 then (bnd (x_Mod_bad d 160 s43) fun v48 s47 => (okB v48 (some (v48, s47)))) else (bnd (x_Mod_name d 160 s43) fun v50 s49 => (bnd (x_Mod_localOf d 160 v50 s49) fun v52 s51 => (if v52 < 0 then (bnd (x_Mod_name d 160 s51) fun v54 s53 => (bnd (x_Mod_let d 160 v54 s53) fun v56 s55 => (bnd (x_Mod_step d 160 s55) fun v58 s57 => (again80 s57)))) else (bnd (x_Mod_bad d 160 s51) fun v60 s59 => (okB v60 (some (v60, s59))))))))) else (bnd (x_Mod_bad d 160 s43) fun v62 s61 => (okB v62 (some (v62, s61))))))))) else (x_Mod_function_b167 d 160 l1 s22))) else (bnd (x_Mod_is d 160 18 z80) fun v107 s106 => (if v107 = 0 then (x_Mod_function_b167 d 160 l1 s106) else ((gI s106 160 14 24).bind fun v108 => (if v108 ≤ 0 then ((gI s106 160 14 6).bind fun v109 => (if v109 = 1 then ((gI s106 160 14 24).bind fun v110 => (if v110 = 4 then (bnd (x_Mod_bad d 160 s106) fun v112 s111 => (okB v112 (some (v112, s111)))) else (bnd (x_Mod_name d 160 s106) fun v114 s113 => (bnd (x_Mod_localOf d 160 v114 s113) fun v116 s115 => (if v116 < 0 then (bnd (x_Mod_name d 160 s115) fun v118 s117 => (bnd (x_Mod_let d 160 v118 s117) fun v120 s119 => (bnd (x_Mod_step d 160 s119) fun v122 s121 => (again80 s121)))) else (bnd (x_Mod_bad d 160 s115) fun v124 s123 => (okB v124 (some (v124, s123))))))))) else (bnd (x_Mod_bad d 160 s106) fun v126 s125 => (okB v126 (some (v126, s125)))))) else (bnd (x_Mod_step d 160 s106) fun v128 s127 => ((gI s127 160 14 6).bind fun v129 => (if v129 = 1 then ((gI s127 160 14 24).bind fun v130 => (if v130 = 4 then (bnd (x_Mod_bad d 160 s127) fun v132 s131 => (okB v132 (some (v132, s131)))) else (bnd (x_Mod_name d 160 s127) fun v134 s133 => (bnd (x_Mod_localOf d 160 v134 s133) fun v136 s135 => (if v136 < 0 then (bnd (x_Mod_name d 160 s135) fun v138 s137 => (bnd (x_Mod_let d 160 v138 s137) fun v140 s139 => (bnd (x_Mod_step d 160 s139) fun v142 s141 => (again80 s141)))) else (bnd (x_Mod_bad d 160 s135) fun v144 s143 => (okB v144 (some (v144, s143))))))))) else (bnd (x_Mod_bad d 160 s127) fun v146 s145 => (okB v146 (some (v146, s145))))))))))))))
def nwB (d : Nat) (ag : HS → Option (Int32 × HS)) (s : HS) : Option (Int32 × HS) := ((gI s 160 14 6).bind fun v25 => (if v25 = 1 then ((gI s 160 14 24).bind fun v26 => (if v26 = 4 then (bnd (x_Mod_bad d 160 s) fun v28 s27 => (okB v28 (some (v28, s27)))) else (bnd (x_Mod_name d 160 s) fun v30 s29 => (bnd (x_Mod_localOf d 160 v30 s29) fun v32 s31 => (if v32 < 0 then (bnd (x_Mod_name d 160 s31) fun v34 s33 => (bnd (x_Mod_let d 160 v34 s33) fun v36 s35 => (bnd (x_Mod_step d 160 s35) fun v38 s37 => (ag s37)))) else (bnd (x_Mod_bad d 160 s31) fun v40 s39 => (okB v40 (some (v40, s39))))))))) else (bnd (x_Mod_bad d 160 s) fun v42 s41 => (okB v42 (some (v42, s41))))))
theorem nsB_eq {d : Nat} {z : Int32} {s : HS} {ag : Int32 × HS → Option (Int32 × HS)} : nsB d ag (z, s) = (if 4 < z then (bnd (x_Pars_take d 132 41 s) fun v11 s10 => (some (z, s10))) else ((gR s 132 5 0).bind fun v12 => (bnd (x_Lexer_kind d v12 s) fun v14 s13 => (if v14 = 44 then (bnd (x_Pars_take d 132 44 s13) fun v16 s15 => (bnd (x_Pars_newName d 132 z s15) fun v18 s17 => (ag ((z + 1), s17)))) else (bnd (x_Pars_take d 132 41 s13) fun v20 s19 => (some (z, s19))))))) := rfl
theorem fnB_eq {d : Nat} {l1 : Int32} {s : HS} {ag : HS → Option (Int32 × HS)} : fnB d l1 ag s = ((gI s 160 14 24).bind fun v21 => (if v21 = 0 then (bnd (x_Mod_is d 160 16 s) fun v23 s22 => (if v23 = 0 then ((gI s22 160 14 24).bind fun v24 => (if v24 ≤ 0 then (nwB d ag s22) else (bnd (x_Mod_step d 160 s22) fun v44 s43 => nwB d ag s43))) else (x_Mod_function_b167 d 160 l1 s22))) else (bnd (x_Mod_is d 160 18 s) fun v107 s106 => (if v107 = 0 then (x_Mod_function_b167 d 160 l1 s106) else ((gI s106 160 14 24).bind fun v108 => (if v108 ≤ 0 then (nwB d ag s106) else (bnd (x_Mod_step d 160 s106) fun v128 s127 => nwB d ag s127))))))) := rfl
section
variable {E1 : CE} {cr : Nat} {E2 : RE} {w0 : W2} {u u' u1 u2 v1 q q' d d1 d2 j V0 A B A' B' p m n CL i c h e wd qf : Nat} {T T' : TKc} {t t' : TKr} {x x' x'' x1 x2 : CA} {y y' y'' y1 y2 : RA} {s s' s1 : HS} {K dp op opr ar l t0 v l4 t1 : Int32} {w : Bool} {Q : CA → RA → Nat → Prop}
theorem d_nw (D : DD E1 s x qf A B) (hB : B + 1 ≤ 16000) : ∃ s' x', x_Pars_newName_b22 (d1 + 8) 132 s = some ((), s') ∧ DD E1 s' x' qf A (B + 1) := by
  obtain ⟨s1, x1, e1, D1⟩ := dd_fail (d := d1 + 7) D
  obtain ⟨s2, x2, n2, e2, D2⟩ := dd_takeName (d := d1 + 5) D1
  obtain ⟨s3, x3, n3, e3, D3⟩ := dd_local (d := d1 + 6) (y := n2) D2 hB
  refine ⟨s3, x3, ?_, D3⟩
  unfold x_Pars_newName_b22
  rw [e1, bnd_some, kc_dr D1.1, Option.bind_some, e2, bnd_some, e3, bnd_some]
theorem j_nw (V : KC E1 s x) (J : JJ E1 cr E2 w0 u q T t x y) : ∃ s' x', x_Pars_newName_b22 (d1 + 8) 132 s = some ((), s') ∧ DD E1 s' x' q (ca_h x) 3101 := by
  obtain ⟨s1, e1, V1⟩ := kc_fail (d := d1 + 7) J.eo V
  have D1 := J.dd V1
  obtain ⟨s2, x2, n2, e2, D2⟩ := dd_takeName (d := d1 + 5) D1
  obtain ⟨s3, x3, n3, e3, D3⟩ := dd_local (d := d1 + 6) (y := n2) D2 (by decide)
  refine ⟨s3, x3, ?_, D3⟩
  unfold x_Pars_newName_b22
  rw [e1, bnd_some, kc_dr D1.1, Option.bind_some, e2, bnd_some, e3, bnd_some]
theorem d_new {z : Int32} (D : DD E1 s x qf A B) (hB : B + 1 ≤ 16000) : ∃ s' x', x_Pars_newName (d1 + 9) 132 z s = some ((), s') ∧ DD E1 s' x' qf A (B + 1) := by
  obtain ⟨s1, x1, e1, D1⟩ := d_nw (d1 := d1) D hB
  obtain ⟨s2, x2, n2, e2, D2⟩ := dd_takeName (d := d1 + 5) D
  obtain ⟨s3, x3, n3, e3, D3⟩ := dd_local (d := d1 + 6) (y := n2) D2 hB
  unfold x_Pars_newName
  dsimp only
  rw [kc_gd D.1]
  by_cases c : z = 4
  · rw [if_pos c]
    exact ⟨s1, x1, e1, D1⟩
  · rw [if_neg c, kc_dr D.1, Option.bind_some, kc_lx D.1, Option.bind_some, kc_head D.1, bnd_some, kc_localOf D.1, bnd_some]
    by_cases k : s_find (ca_l x) (ca_t x) (ca_a x).2.2.2.2.2.1 < 0
    · rw [if_pos k, kc_dr D.1, Option.bind_some, e2, bnd_some, e3, bnd_some]
      exact ⟨s3, x3, rfl, D3⟩
    · rw [if_neg k]
      exact ⟨s1, x1, e1, D1⟩
theorem j_new (V : KC E1 s x) (J : JJ E1 cr E2 w0 u q T t x y) (hn : ca_t x = n) (h4 : n ≤ 4) : (∃ s' x' y' q' T' t', x_Pars_newName (d1 + 9) 132 (nI n) s = some ((), s') ∧ (∀ ag, nwB (d2 + 5) ag (pm cr E2 y) = ag (pm cr E2 y')) ∧ KC E1 s' x' ∧ JJ E1 cr E2 w0 (u + 1) q' T' t' x' y' ∧ ca_t x' = n + 1 ∧ n < 4 ∧ SameC x x' ∧ SameR y y') ∨ (∃ s' x' y' qf, x_Pars_newName (d1 + 9) 132 (nI n) s = some ((), s') ∧ (∀ ag, nwB (d2 + 5) ag (pm cr E2 y) = some (0, pm cr E2 y')) ∧ DD E1 s' x' qf (ca_h x) 3101 ∧ RF y' qf) := by
  have hb := J.2.2.2.2.2
  have hu := J.uq
  have ht0 : ca_t x = ra_t y := J.2.2.2.2.1.1
  have n4 : nI n = 4 ↔ n = 4 := ⟨fun e => nI_inj (by omega) (by decide) (e.trans (show (4 : Int32) = nI 4 from rfl)), fun e => by rw [e]; rfl⟩
  obtain ⟨s1, x1, e1, D1⟩ := j_nw (d1 := d1) V J
  unfold x_Pars_newName
  dsimp only
  rw [kc_gd V]
  by_cases c2 : T.2.1 = 2
  · by_cases c4 : n = 4
    · refine Or.inr ⟨s1, x1, rbd y, q, by rw [if_pos (n4.mpr c4)]; exact e1, fun ag => ?_, D1, J.rf⟩
      unfold nwB
      rw [y_6 J.er, Option.bind_some, J.ar.2.1, if_pos (J.tq.name.mpr c2), y_24 J.er, Option.bind_some, if_pos (by rw [← ht0, hn]; exact n4.mpr c4), jj_bad J, bnd_some, okB_of (Or.inl rfl)]
    · have hw : okN (nmL (re_g E2) q (t.1 - q)) := (J.tq.nm c2).1
      have nm := y_name (d := d2 + 5) J.er J.ar J.tq c2
      obtain ⟨hf, hdis⟩ := J.2.2.2.2.1.find hw
      have hd : (ca_a x).2.2.2.2.2.1 = nC (nmL (re_g E2) q (t.1 - q)) := by
        rw [J.1.2.2.2, ← (J.2.1.1.nm c2).2.1]
        exact congrArg (fun z : Int32 × Int64 × Int64 => z.2.1) J.2.1.2.1.2.2.2
      have lo := y_locOf (d := d2 + 5) (z := nV (nmL (re_g E2) q (t.1 - q))) J.er (by omega) hdis
      rw [if_neg (fun e => c4 (n4.mp e)), kc_dr V, Option.bind_some, kc_lx V, Option.bind_some, kc_head V, bnd_some, kc_localOf V, bnd_some, hd, hf]
      by_cases k : s_find (ra_l y) (ra_t y) (nV (nmL (re_g E2) q (t.1 - q))) < 0
      · obtain ⟨s2, e2, V2⟩ := jj_takeName (d := d1 + 1) V J c2
        obtain ⟨s3, e3, V3⟩ := kc_makeNew (d := d1 + 6) (y := nC (nmL (re_g E2) q (t.1 - q))) J.eo V2 (by show ca_t x + 1 ≤ _; omega) (by show s_find (ca_l x) (ca_t x) _ < 0; rw [hf]; exact k)
        have m0 : ¬ T.2.1 = 0 := by rw [c2]; decide
        have m1 : ¬ T.2.1 = 1 := by rw [c2]; decide
        have hlt := J.lt m0 m1
        obtain ⟨q2, T2, t2, J2, _⟩ := J.adv m0 m1
        have J3 := J2.loc hw k (by show ca_t x + 1 ≤ _; omega) (by omega)
        rw [← rav_local] at J3
        rw [if_pos k, kc_dr V, Option.bind_some, e2, bnd_some, e3, bnd_some]
        refine Or.inl ⟨s3, _, _, q2, T2, t2, rfl, fun ag => ?_, V3, J3, by show ca_t x + 1 = n + 1; omega, by omega, ⟨rfl, rfl, rfl, rfl⟩, ⟨rfl, rfl⟩⟩
        unfold nwB
        rw [y_6 J.er, Option.bind_some, J.ar.2.1, if_pos (J.tq.name.mpr c2), y_24 J.er, Option.bind_some, if_neg (by rw [← ht0, hn]; exact fun e => c4 (n4.mp e)), nm, bnd_some, lo, bnd_some, if_pos k, nm, bnd_some, y_let0 J.er (by omega) hdis k, bnd_some, y_step (y := raLocal y (nV (nmL (re_g E2) q (t.1 - q)))) (p := t.1) J.er (by exact J.ar.1) J.tq.2.2.2, bnd_some]
      · rw [if_neg k]
        refine Or.inr ⟨s1, x1, rbd y, q, e1, fun ag => ?_, D1, J.rf⟩
        unfold nwB
        rw [y_6 J.er, Option.bind_some, J.ar.2.1, if_pos (J.tq.name.mpr c2), y_24 J.er, Option.bind_some, if_neg (by rw [← ht0, hn]; exact fun e => c4 (n4.mp e)), nm, bnd_some, lo, bnd_some, if_neg k, jj_bad J, bnd_some, okB_of (Or.inl rfl)]
  · have rr : ∀ ag, nwB (d2 + 5) ag (pm cr E2 y) = some (0, pm cr E2 (rbd y)) := fun ag => by
      unfold nwB
      rw [y_6 J.er, Option.bind_some, J.ar.2.1, if_neg (fun h => c2 (J.tq.name.mp h)), jj_bad J, bnd_some, okB_of (Or.inl rfl)]
    obtain ⟨s2, n2, e2, D2⟩ := jj_takeNameNo (d := d1 + 5) V J c2
    obtain ⟨s3, x3, n3, e3, D3⟩ := dd_local (d := d1 + 6) (y := n2) D2 (by decide)
    by_cases c4 : nI n = 4
    · exact Or.inr ⟨s1, x1, rbd y, q, by rw [if_pos c4]; exact e1, rr, D1, J.rf⟩
    · rw [if_neg c4, kc_dr V, Option.bind_some, kc_lx V, Option.bind_some, kc_head V, bnd_some, kc_localOf V, bnd_some]
      by_cases k : s_find (ca_l x) (ca_t x) (ca_a x).2.2.2.2.2.1 < 0
      · rw [if_pos k, kc_dr V, Option.bind_some, e2, bnd_some, e3, bnd_some]
        exact Or.inr ⟨s3, x3, rbd y, q, rfl, rr, D3, J.rf⟩
      · rw [if_neg k]
        exact Or.inr ⟨s1, x1, rbd y, q, e1, rr, D1, J.rf⟩
end
