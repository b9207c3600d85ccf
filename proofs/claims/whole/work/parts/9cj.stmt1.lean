/-! STATEMENTS: what they leave, on both sides -/
def QI (V0 c : Nat) (x : CA) (y : RA) (u : Nat) (x' : CA) (y' : RA) (u' : Nat) : Prop := u < u' ∧ AGc x x' ∧ AGr y y' ∧ ra_p y' = ra_p y ∧ (ca_t x ≤ ca_t x' ∧ 5 * ca_t x' + u ≤ 5 * ca_t x + u') ∧ (ca_h x' + c + 2 * u ≤ ca_h x + 2 * u' ∧ ca_k x' + 2 * u ≤ ca_k x + 2 * u' ∧ ra_m y' + c + 3 * u ≤ ra_m y + 3 * u' ∧ ra_v y' + u ≤ ra_v y + u') ∧ ∃ D : DSt, ImS (ca_h x) (ca_h x') (ca_t x') (u' - u) (ca_k x') (ca_c x') (ca_p x') D ∧ IrS (ra_m y) (ra_m y') V0 (ra_v y') (ca_t x') (u' - u) (ra_s y') (ra_q y') D
def JSt (E1 : CE) (cr : Nat) (E2 : RE) (w0 : W2) (V0 B c : Nat) (F : HS → Option (Unit × HS)) (G : HS → Option (Int32 × HS)) : Prop := ∀ s x y u q T t, KC E1 s x → JJ E1 cr E2 w0 u q T t x y → V0 ≤ ra_v y → ca_h x ≤ 2 * u + c → ra_m y ≤ 3 * u + c → OUT E1 cr E2 w0 (ca_h x) B (QI V0 c x y u) (F s) (G (pm cr E2 y))
section
variable {E1 : CE} {cr : Nat} {E2 : RE} {w0 : W2} {u u1 u2 v1 q d d1 d2 j V0 A B A' B' p m CL i c : Nat} {T : TKc} {t : TKr} {x x' x'' x1 x2 : CA} {y y' y'' y1 y2 : RA} {s s' : HS} {K dp op opr ar l t0 v : Int32} {w : Bool} {Q : CA → RA → Nat → Prop}
/-- ";" -/
theorem j_semi {q1 : Nat} {T1 : TKc} {t1 : TKr} {s1 : HS} (V : KC E1 s1 x1) (J : JJ E1 cr E2 w0 u1 q1 T1 t1 x1 y1) (hA : A ≤ ca_h x1) (hB : 3100 ≤ B) (hQ : Q (cav E1 t1 x1) (rav E2 t1 y1) (u1 + 1)) : OUT E1 cr E2 w0 A B Q (bnd (x_Pars_take (d1 + 6) 132 59 s1) fun _ s => some ((), s)) (bnd (x_Mod_take (d2 + 6) 160 68 (pm cr E2 y1)) fun v s => okB v (some (v, s))) := by
  by_cases k : T1.2.1 = 59
  · obtain ⟨s2, e2, V2⟩ := jj_take (d := d1) V J k (by decide) (by decide)
    obtain ⟨q2, T2, t2, J2, _⟩ := J.adv (by rw [k]; decide) (by rw [k]; decide)
    rw [e2, bnd_some, jj_rtake (d := d2) (j := 68) J 28 rfl (by decide) k, bnd_some, okB_of (Or.inr rfl)]
    exact OUT.ok V2 J2 hQ
  · obtain ⟨s2, e2, D2⟩ := jj_takeNo (d := d1 + 4) V J k
    rw [e2, bnd_some, jj_rtakeNo (d := d2) (j := 68) J 28 rfl (by decide) k, bnd_some, okB_of (Or.inl rfl)]
    exact OUT.no' D2 J.rf hA hB
theorem QI.lexS {a : LxS} {b : RLx} {u' : Nat} (h : QI V0 c x y u x' y' u') : QI V0 c x y u (caLex x' a) (raLex y' b) u' := h
/-- a STATEMENT begins with a step of its own -/
theorem QI.burn {u' : Nat} (h : QI V0 1 (caAdd x 0 0) (raPut y 23) u x' y' u') : QI V0 0 x y u x' y' u' := by
  obtain ⟨g1, g2, g3, g4, g5, g6, D, g7, g8⟩ := h
  have ac : AGc x x' := (AGc.rfl'.add (op := 0) (ar := 0)).trans g2
  have ar : AGr y y' := (AGr.rfl'.put (v := 23)).trans g3
  have g6' : ca_h x' + 1 + 2 * u ≤ ca_h x + 1 + 2 * u' ∧ ca_k x' + 2 * u ≤ ca_k x + 2 * u' ∧ ra_m y' + 1 + 3 * u ≤ ra_m y + 1 + 3 * u' ∧ ra_v y' + u ≤ ra_v y + u' := g6
  have k1 : ca_h x + 1 ≤ ca_h x' := g2.1
  have k2 : ra_m y + 1 ≤ ra_m y' := g3.1
  refine ⟨g1, ac, ar, g4, g5, by omega, sSeq sBurn D, ImS_seq (b := ca_h x + 1) (Nat.le_succ _) k1 (ImS_burn ?_) g7, IrS_seq (b := ra_m y + 1) (Nat.le_succ _) k2 (IrS_burn ?_) g8⟩
  · exact (g2.2.1 (2 * ca_h x) (by show _ < 2 * (ca_h x + 1); omega)).trans up20
  · exact (g3.2.1 (ra_m y) (by show _ < ra_m y + 1; omega)).trans upA
theorem QE.ve (h : QE V0 x y u x' y' u1) (hV : V0 ≤ ra_v y) : V0 ≤ ra_v y' := Nat.le_trans hV h.1.2.2.1.2.2.1
/-- return -/
theorem j_return (hp : p ≤ 16) (hd1 : 12 * (16 - p) + 40 ≤ d1) (hd2 : 12 * (16 - p) + 40 ≤ d2) (V : KC E1 s x) (J : JJ E1 cr E2 w0 u q T t x y) (hV : V0 ≤ ra_v y) (hh : ca_h x ≤ 2 * u + 1) (hm : ra_m y ≤ 3 * u + 1) (hk : T.2.1 = 10) : OUT E1 cr E2 w0 (ca_h x) (4000 + 4 * (12 * (16 - p) + 34)) (QI V0 1 x y u) (x_Pars_returnStatement_b (clP d1) d1 132 (nI p) s) (bnd (x_Mod_step d2 160 (pm cr E2 y)) fun v34 s33 => (bnd (x_Mod_is d2 160 68 s33) fun v36 s35 => (if v36 = 0 then (bnd (clM d2 6 160 (nI p) 0 0 s35) fun v38 s37 => (if v38 = 0 then (some (0, s37)) else (bnd (x_Mod_put_I d2 160 26 s37) fun v40 s39 => (bnd (x_Mod_take d2 160 68 s39) fun v42 s41 => (okB v42 (some (v42, s41))))))) else (bnd (x_Mod_value_IIJJ d2 160 0 0 0 0 s35) fun v44 s43 => (bnd (x_Mod_put_I d2 160 26 s43) fun v46 s45 => (bnd (x_Mod_take d2 160 68 s45) fun v48 s47 => (okB v48 (some (v48, s47))))))))) := by
  obtain ⟨d1, rfl⟩ : ∃ k, d1 = k + 11 := ⟨d1 - 11, by omega⟩
  obtain ⟨d2, rfl⟩ : ∃ k, d2 = k + 11 := ⟨d2 - 11, by omega⟩
  have hb := J.2.2.2.2.2
  have n0 : ¬ T.2.1 = 0 := by rw [hk]; decide
  have n1 : ¬ T.2.1 = 1 := by rw [hk]; decide
  have hlt := J.lt n0 n1
  obtain ⟨s1, e1, V1⟩ := jj_take (d := d1 + 5) V J hk (by decide) (by decide)
  obtain ⟨q1, T1, t1, J1, _⟩ := J.adv n0 n1
  unfold x_Pars_returnStatement_b x_Pars_returnStatement_b36
  rw [kc_gd V, e1, bnd_some, jj_step (d := d2 + 6) J, bnd_some, kc_lx V1, Option.bind_some, kc_kind V1, bnd_some, J1.kd, J1.is (d := d2 + 7) (K := 59) 28 rfl (by decide) rfl, bnd_some]
  have agx : AGc x (cav E1 t x) := AGc.rfl'.lex
  have agy : AGr y (rav E2 t y) := AGr.rfl'.lex
  have tx : ca_t (cav E1 t x) = ca_t x := rfl
  have hx1 : ca_h (cav E1 t x) = ca_h x ∧ ca_k (cav E1 t x) = ca_k x := ⟨rfl, rfl⟩
  have hy1 : ra_m (rav E2 t y) = ra_m y ∧ ra_v (rav E2 t y) = ra_v y ∧ ra_p (rav E2 t y) = ra_p y := ⟨rfl, rfl, rfl⟩
  generalize cav E1 t x = x1 at V1 J1 agx tx hx1
  generalize rav E2 t y = y1 at J1 agy hy1 ⊢
  have hb1 := J1.2.2.2.2.2
  by_cases c59 : T1.2.1 = 59
  · have m0 : ¬ T1.2.1 = 0 := by rw [c59]; decide
    have m1 : ¬ T1.2.1 = 1 := by rw [c59]; decide
    have hlt1 := J1.lt m0 m1
    obtain ⟨s2, e2, V2⟩ := kc_add (d := d1 + 9) (op := 10) (ar := 0) J.eo V1 (by omega)
    obtain ⟨s3, e3, V3⟩ := kc_add (d := d1 + 9) (op := 6) (ar := 0) J.eo V2 (by show ca_h x1 + 1 + 1 ≤ _; omega)
    rw [if_pos c59, kc_dr V1, Option.bind_some, e2, bnd_some, kc_dr V2, Option.bind_some, e3, bnd_some, if_pos c59, if_neg (by decide), y_value J.er (by omega) (by omega), bnd_some, y_put J.er (by show ra_m y1 + 1 + 1 < 6000; omega), bnd_some]
    have J2 : JJ E1 cr E2 w0 (u + 1) q1 T1 t1 (caAdd (caAdd x1 10 0) 6 0) (raPut (raPut (raPut (raVal y1 (0, 0, 0, 0)) 0) (nI (ra_v y1))) 26) := J1.chg ⟨rfl, rfl, rfl, rfl⟩ ⟨rfl, rfl⟩ (by
      show ca_h x1 + 1 + 1 ≤ _ ∧ ca_k x1 ≤ _ ∧ ra_m y1 + 1 + 1 + 1 ≤ _ ∧ ra_v y1 + 1 ≤ _ ∧ ra_p y1 ≤ _
      omega)
    refine j_semi (d1 := d1 + 5) (d2 := d2 + 5) V3 J2 (by show ca_h x ≤ ca_h x1 + 1 + 1; omega) (by omega) (QI.lexS ?_)
    refine ⟨by omega, (agx.add).add, (((agy.val).put).put).put, hy1.2.2, ⟨by show ca_t x ≤ ca_t x1; omega, by show 5 * ca_t x1 + u ≤ _; omega⟩, ?_, sRet (dK (0, 0)), ?_, ?_⟩
    · show ca_h x1 + 1 + 1 + 1 + 2 * u ≤ _ ∧ ca_k x1 + 2 * u ≤ _ ∧ ra_m y1 + 1 + 1 + 1 + 1 + 3 * u ≤ _ ∧ ra_v y1 + 1 + u ≤ _
      omega
    · rw [← hx1.1]
      refine ImS_ret (b := ca_h x1 + 1) (Nat.le_succ _) (ImE_nil (x := 0) (by omega) ?_ ?_) ?_
      · exact (AGc.rfl'.add (op := 6) (ar := 0)).2.1 (2 * ca_h x1) (by show _ < 2 * (ca_h x1 + 1); omega) |>.trans up20
      · exact (AGc.rfl'.add (op := 6) (ar := 0)).2.1 (2 * ca_h x1 + 1) (by show _ < 2 * (ca_h x1 + 1); omega) |>.trans up21
      · exact up20
    · rw [← hy1.1]
      refine IrS_ret (b := ra_m y1 + 2) (by omega) (IrE_const (x := ra_v y1) (by omega) ?_ ?_ (by omega) (Nat.lt_succ_self _) (fun kd => ?_)) ?_
      · exact (upN (by show ¬ ra_m y1 = ra_m y1 + 1 + 1; omega)).trans up10
      · exact (upN (by show ¬ ra_m y1 + 1 = ra_m y1 + 1 + 1; omega)).trans up11
      · show VR kd (0, 0) (upQ (ra_q y1) (ra_v y1) (0, 0, 0, 0) (ra_v y1))
        rw [upQ_at]
        exact VR.nil
      · exact upA
  · rw [if_neg c59, if_neg c59, if_pos rfl]
    rcases hx_all (V0 := V0) hp (d1 + 11) (d2 + 11) (by omega) (by omega) s1 _ _ _ _ _ _ V1 J1 (by omega) with ⟨s', x', y', u', q', T', t', r1, r2, V', J', hq⟩ | ⟨s', x', y', qf, r1, r2, D, g⟩
    · dsimp only at r1 r2
      have hb' := J'.2.2.2.2.2
      have hu' := J'.uq
      obtain ⟨⟨k1, k2, k3, k4, k5, k6⟩, ⟨D, k7, k8⟩, _⟩ := hq
      obtain ⟨s3, e3, V3⟩ := kc_add (d := d1 + 9) (op := 6) (ar := 0) J.eo V' (by omega)
      rw [r1, r2, bnd_some, bnd_some, if_neg (by decide), kc_dr V', Option.bind_some, e3, bnd_some, y_put J.er (by omega), bnd_some]
      have J2 : JJ E1 cr E2 w0 u' q' T' t' (caAdd x' 6 0) (raPut y' 26) := J'.chg ⟨rfl, rfl, rfl, rfl⟩ ⟨rfl, rfl⟩ (by
        show ca_h x' + 1 ≤ _ ∧ ca_k x' ≤ _ ∧ ra_m y' + 1 ≤ _ ∧ ra_v y' ≤ _ ∧ ra_p y' ≤ _
        omega)
      have k21 := k2.1
      refine j_semi (d1 := d1 + 5) (d2 := d2 + 5) V3 J2 (by show ca_h x ≤ ca_h x' + 1; omega) (by omega) (QI.lexS ?_)
      refine ⟨by omega, (agx.trans k2).add, (agy.trans k3).put, k4.trans hy1.2.2, ⟨by show ca_t x ≤ ca_t x'; omega, by show 5 * ca_t x' + u ≤ _; omega⟩, ?_, sRet D, ?_, ?_⟩
      · show ca_h x' + 1 + 1 + 2 * u ≤ _ ∧ ca_k x' + 2 * u ≤ _ ∧ ra_m y' + 1 + 1 + 3 * u ≤ _ ∧ ra_v y' + u ≤ _
        omega
      · rw [← hx1.1]
        exact ImS_ret k2.1 (k7.ext (by show ca_t x1 ≤ ca_t x'; omega) (by omega) (Nat.le_refl _) (fun j _ hj => (AGc.rfl'.add (op := 6) (ar := 0)).2.1 j hj) (fun _ _ => rfl)) up20
      · rw [← hy1.1]
        exact IrS_ret k3.1 (k8.ext (by show ca_t x1 ≤ ca_t x'; omega) (by omega) (Nat.le_refl _) (Nat.le_refl _) (fun j _ hj => (AGr.rfl'.put (v := 26)).2.1 j hj) (fun _ _ _ => rfl)) upA
    · dsimp only at r1 r2
      obtain ⟨s3, x3, e3, D3⟩ := dd_add (d := d1 + 9) (op := 6) (ar := 0) D (by omega)
      obtain ⟨s4, x4, e4, D4⟩ := dd_take (d := d1 + 9) (k := 59) D3 (by decide)
      rw [r1, r2, bnd_some, bnd_some, if_pos rfl, kc_dr D.1, Option.bind_some, e3, bnd_some, e4, bnd_some]
      exact OUT.no' D4 g (by omega) (by omega)
end
