/-! an E as a STATEMENT, and what is stored -/
section
variable {E1 : CE} {cr : Nat} {E2 : RE} {w0 : W2} {u u' u1 u2 v1 q q' d d1 d2 j V0 A B A' B' p m CL i c h e wd : Nat} {T T' : TKc} {t t' : TKr} {x x' x'' x1 x2 : CA} {y y' y'' y1 y2 : RA} {s s' s1 : HS} {K dp op opr ar l t0 v l4 : Int32} {w : Bool} {Q : CA → RA → Nat → Prop} {g : RA → RA} {K2 : HS → Option (Int32 × HS)}
theorem AGc.drop (k : AGc x x') (hh : ca_h x ≤ h) : AGc x (caDrop x' h) := ⟨hh, k.2.1, k.2.2.1, k.2.2.2⟩
theorem AGr.many (k : AGr y y') (he : ra_m y ≤ e) : AGr y (raMany y' e) := ⟨he, k.2.1, k.2.2⟩
/-- from "=" on -/
theorem j_store (hp : p ≤ 16) (hd1 : 12 * (16 - p) + 29 ≤ d1) (hd2 : 12 * (16 - p) + 29 ≤ d2) (hu : u < u') (V1 : KC E1 s1 (caDrop x' h)) (J' : JJ E1 cr E2 w0 u' q' T' t' x' y') (hV : V0 ≤ ra_v y') (hk : T'.2.1 = 61) (hh : ca_h x' = h + 1) (he : ra_m y' = e + wd) (hwd : wd ≤ 2) (agx : AGc x (caDrop x' h)) (agy : AGr y (raMany y' e)) (hpp : ra_p y' = ra_p y) (tx : ca_t x' = ca_t x) (hs : ca_h x' + 2 * u ≤ ca_h x + 2 * u' ∧ ca_k x' + 2 * u ≤ ca_k x + 2 * u' ∧ ra_m y' + 3 * u ≤ ra_m y + 3 * u' ∧ ra_v y' + u ≤ ra_v y + u') (hg : ∀ y, AGr y (g y) ∧ (g y).1 = y.1 ∧ (g y).2.2.1 = y.2.2.1 ∧ ra_m (g y) = ra_m y + wd ∧ ra_v (g y) = ra_v y ∧ ra_p (g y) = ra_p y ∧ ra_q (g y) = ra_q y) (hK : ∀ y, ra_m y + 1 < 6000 → K2 (pm cr E2 y) = bnd (x_Mod_take (d2 + 11) 160 68 (pm cr E2 (g y))) fun v s => okB v (some (v, s))) (hS : ∀ x'' y'' u'' (D : DE), AGc (caDrop x' h) x'' → AGr (raMany y' e) y'' → u' + 1 < u'' → ImE h (ca_h x'') (ca_t x') (u'' - (u' + 1)) (ca_k x'') (ca_c x'') (ca_p x'') D → IrE e (ra_m y'') V0 (ra_v y'') (ca_t x') (u'' - (u' + 1)) (ra_s y'') (ra_q y'') D → ∃ S : DSt, ImS (ca_h x) (ca_h x'' + 1) (ca_t x') (u'' + 1 - u) (ca_k x'') (upI (upI (ca_c x'') (2 * ca_h x'') (op + 1)) (2 * ca_h x'' + 1) ar) (ca_p x'') S ∧ IrS (ra_m y) (ra_m y'' + wd) V0 (ra_v y'') (ca_t x') (u'' + 1 - u) (ra_s (g y'')) (ra_q y'') S) : OUT E1 cr E2 w0 (ca_h x) (4000 + 4 * (12 * (16 - p) + 34)) (QI V0 1 x y u) (bnd (x_Pars_take (d1 + 11) 132 61 s1) fun v22 s21 => (bnd (cU (clP (d1 + 11) 8 132 (nI p) 0 0 s21)) fun v24 s23 => ((gR s23 132 5 3).bind fun v25 => (bnd (x_Mach_storeFor (d1 + 11) op s23) fun v27 s26 => (bnd (x_Draft_add (d1 + 11) v25 v27 ar s26) fun v29 s28 => (bnd (x_Pars_take (d1 + 11) 132 59 s28) fun v31 s30 => (some ((), s30)))))))) (bnd (x_Mod_step (d2 + 11) 160 (pm cr E2 (raMany y' e))) fun v19 s18 => (bnd (clM (d2 + 11) 6 160 (nI p) 0 0 s18) fun v21 s20 => (if v21 = 0 then (some (0, s20)) else K2 s20))) := by
  have hb := J'.2.2.2.2.2
  have n0 : ¬ T'.2.1 = 0 := by rw [hk]; decide
  have n1 : ¬ T'.2.1 = 1 := by rw [hk]; decide
  have J : JJ E1 cr E2 w0 u' q' T' t' (caDrop x' h) (raMany y' e) := J'.chg ⟨rfl, rfl, rfl, rfl⟩ ⟨rfl, rfl⟩ (by
    show h ≤ _ ∧ ca_k x' ≤ _ ∧ e ≤ _ ∧ ra_v y' ≤ _ ∧ ra_p y' ≤ _
    omega)
  obtain ⟨s2, e2, V2⟩ := jj_take (d := d1 + 5) V1 J hk (by decide) (by decide)
  obtain ⟨q1, T1, t1, J1, _⟩ := J.adv n0 n1
  rw [e2, bnd_some, jj_step (d := d2 + 6) J, bnd_some]
  have ax : AGc (caDrop x' h) (cav E1 t' (caDrop x' h)) := AGc.rfl'.lex
  have ay : AGr (raMany y' e) (rav E2 t' (raMany y' e)) := AGr.rfl'.lex
  have tx1 : ca_t (cav E1 t' (caDrop x' h)) = ca_t x' := rfl
  have hx1 : ca_h (cav E1 t' (caDrop x' h)) = h ∧ ca_k (cav E1 t' (caDrop x' h)) = ca_k x' := ⟨rfl, rfl⟩
  have hy1 : ra_m (rav E2 t' (raMany y' e)) = e ∧ ra_v (rav E2 t' (raMany y' e)) = ra_v y' ∧ ra_p (rav E2 t' (raMany y' e)) = ra_p y' := ⟨rfl, rfl, rfl⟩
  generalize cav E1 t' (caDrop x' h) = x1 at V2 J1 ax tx1 hx1
  generalize rav E2 t' (raMany y' e) = y1 at J1 ay hy1 ⊢
  rcases hx_all (V0 := V0) hp (d1 + 11) (d2 + 11) (by omega) (by omega) s2 _ _ _ _ _ _ V2 J1 (by omega) with ⟨s3, x3, y3, u3, q3, T3, t3, r1, r2, V3, J3, hq⟩ | ⟨s3, x3, y3, qf, r1, r2, D, gf⟩
  · dsimp only at r1 r2
    have hb3 := J3.2.2.2.2.2
    have hu3 := J3.uq
    obtain ⟨⟨k1, k2, k3, k4, k5, k6⟩, ⟨D, k7, k8⟩, _⟩ := hq
    obtain ⟨g1, g2, g3, g4, g5, g6, g7⟩ := hg y3
    obtain ⟨s4, e4, V4⟩ := kc_add (d := d1 + 9) (op := op + 1) (ar := ar) J.eo V3 (by omega)
    rw [r1, r2, bnd_some, bnd_some, if_neg (by decide), hK y3 (by omega), kc_dr V3, Option.bind_some]
    unfold x_Mach_storeFor
    rw [bnd_some, e4, bnd_some]
    have J4 : JJ E1 cr E2 w0 u3 q3 T3 t3 (caAdd x3 (op + 1) ar) (g y3) := J3.chg ⟨rfl, rfl, rfl, rfl⟩ ⟨g2, g3⟩ (by
      rw [g4, g5, g6]
      show ca_h x3 + 1 ≤ _ ∧ ca_k x3 ≤ _ ∧ _
      omega)
    have k21 := k2.1
    have agx3 := agx.trans (ax.trans k2)
    have agy3 := (agy.trans (ay.trans k3)).trans g1
    have ah := agx.1
    have ah' : ca_h x ≤ h := ah
    obtain ⟨S, S1, S2⟩ := hS x3 y3 u3 D (ax.trans k2) (ay.trans k3) k1 (by rw [← hx1.1, ← tx1]; exact k7) (by rw [← hy1.1, ← tx1]; exact k8)
    refine j_semi (d1 := d1 + 5) (d2 := d2 + 5) V4 J4 (by show ca_h x ≤ ca_h x3 + 1; omega) (by omega) (QI.lexS ?_)
    have et : ca_t x3 = ca_t x' := k5.1.trans tx1
    refine ⟨by omega, agx3.add, agy3, (g6.trans k4).trans (hy1.2.2.trans hpp), ⟨by show ca_t x ≤ ca_t x3; omega, by show 5 * ca_t x3 + u ≤ _; omega⟩, ?_, S, ?_, ?_⟩
    · rw [g4, g5]
      show ca_h x3 + 1 + 1 + 2 * u ≤ _ ∧ ca_k x3 + 2 * u ≤ _ ∧ _
      omega
    · show ImS _ (ca_h x3 + 1) (ca_t x3) _ _ _ _ _
      rw [et]
      exact S1
    · show IrS _ _ _ _ (ca_t x3) _ _ _ _
      rw [et, g4, g5, g7]
      exact S2
  · dsimp only at r1 r2
    obtain ⟨s4, x4, e4, D4⟩ := dd_add (d := d1 + 9) (op := op + 1) (ar := ar) D (by omega)
    obtain ⟨s5, x5, e5, D5⟩ := dd_take (d := d1 + 9) (k := 59) D4 (by decide)
    rw [r1, r2, bnd_some, bnd_some, if_pos rfl, kc_dr D.1, Option.bind_some]
    unfold x_Mach_storeFor
    rw [bnd_some, e4, bnd_some, e5, bnd_some]
    exact OUT.no' D5 gf (by have := agx.1; have a' : ca_h x ≤ h := this; omega) (by omega)
end
