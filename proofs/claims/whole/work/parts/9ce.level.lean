/-! operators of two E -/
def lvB (c : CLT) (d : Nat) (l1 l2 t0 : Int32) : (Int32 × HS → Option (Unit × HS)) → Int32 × HS → Option (Unit × HS) := (fun (again35 : Int32 × HS → Option (Unit × HS)) (z35 : Int32 × HS) => (if t0 ≤ z35.1 then (some ((), z35.2)) else ((gR z35.2 132 5 0).bind fun v3 => (bnd (x_Lexer_kind d v3 z35.2) fun v5 s4 => (bnd (x_Pars_levelOf d v5 s4) fun v7 s6 => (if v7 = l1 then ((gR s6 132 5 0).bind fun v8 => (bnd (x_Lexer_kind d v8 s6) fun v10 s9 => (bnd (x_Pars_take d 132 v10 s9) fun v12 s11 => (if 1 < l1 then (bnd (cU (c 9 132 (l1 + 1) l2 0 s11)) fun v14 s13 => ((gR s13 132 5 3).bind fun v15 => (bnd (x_Pars_commandOf d v10 s13) fun v17 s16 => (bnd (x_Draft_add d v15 v17 0 s16) fun v19 s18 => ((pV s18 132 5 7 (.int 0)).bind fun s20 => (again35 ((z35.1 + 1), s20))))))) else ((gR s11 132 5 3).bind fun v21 => (bnd (x_Draft_here d v21 s11) fun v23 s22 => ((gR s22 132 5 3).bind fun v24 => (if l1 = 0 then (bnd (x_Draft_add d v24 3 0 s22) fun v26 s25 => (bnd (cU (c 9 132 (l1 + 1) l2 0 s25)) fun v28 s27 => ((gR s27 132 5 3).bind fun v29 => (bnd (x_Draft_aimHere d v29 v23 s27) fun v31 s30 => ((pV s30 132 5 7 (.int 0)).bind fun s32 => (again35 ((z35.1 + 1), s32))))))) else (bnd (x_Draft_add d v24 4 0 s22) fun v34 s33 => (bnd (cU (c 9 132 (l1 + 1) l2 0 s33)) fun v36 s35 => ((gR s35 132 5 3).bind fun v37 => (bnd (x_Draft_aimHere d v37 v23 s35) fun v39 s38 => ((pV s38 132 5 7 (.int 0)).bind fun s40 => (again35 ((z35.1 + 1), s40))))))))))))))) else (some ((), s6))))))))
def smB (c : CLT) (d : Nat) (x1 x2 : Int32) : (HS → Option (Int32 × HS)) → HS → Option (Int32 × HS) := (fun (again24 : HS → Option (Int32 × HS)) (z24 : HS) => (if x2 = 0 then (bnd (x_Mod_is d 160 48 z24) fun v6 s5 => (if v6 = 0 then (bnd (x_Mod_is d 160 28 s5) fun v8 s7 => (if v8 = 0 then (some (1, s7)) else ((gR s7 160 14 0).bind fun v9 => ((gI s7 160 14 7).bind fun v10 => ((aB s7 v9 v10).bind fun v11 => (bnd (x_Mod_step d 160 s7) fun v13 s12 => (bnd ((c 9 160 x1 (x2 + 1) 0 s12)) fun v15 s14 => (if v15 = 0 then (some (0, s14)) else (bnd (x_Mod_put_II d 160 9 v11 s14) fun v17 s16 => ((pV s16 160 14 25 (.int 0)).bind fun s18 => (again24 s18))))))))))) else ((gR s5 160 14 0).bind fun v19 => ((gI s5 160 14 7).bind fun v20 => ((aB s5 v19 v20).bind fun v21 => (bnd (x_Mod_step d 160 s5) fun v23 s22 => (bnd ((c 9 160 x1 (x2 + 1) 0 s22)) fun v25 s24 => (if v25 = 0 then (some (0, s24)) else (bnd (x_Mod_put_II d 160 9 v21 s24) fun v27 s26 => ((pV s26 160 14 25 (.int 0)).bind fun s28 => (again24 s28))))))))))) else (bnd (x_Mod_is d 160 50 z24) fun v30 s29 => (if v30 = 0 then (bnd (x_Mod_is d 160 52 s29) fun v32 s31 => (if v32 = 0 then (bnd (x_Mod_is d 160 54 s31) fun v34 s33 => (if v34 = 0 then (some (1, s33)) else ((gR s33 160 14 0).bind fun v35 => ((gI s33 160 14 7).bind fun v36 => ((aB s33 v35 v36).bind fun v37 => (bnd (x_Mod_step d 160 s33) fun v39 s38 => (bnd ((c 9 160 x1 (x2 + 1) 0 s38)) fun v41 s40 => (if v41 = 0 then (some (0, s40)) else (bnd (x_Mod_put_II d 160 9 v37 s40) fun v43 s42 => ((pV s42 160 14 25 (.int 0)).bind fun s44 => (again24 s44))))))))))) else ((gR s31 160 14 0).bind fun v45 => ((gI s31 160 14 7).bind fun v46 => ((aB s31 v45 v46).bind fun v47 => (bnd (x_Mod_step d 160 s31) fun v49 s48 => (bnd ((c 9 160 x1 (x2 + 1) 0 s48)) fun v51 s50 => (if v51 = 0 then (some (0, s50)) else (bnd (x_Mod_put_II d 160 9 v47 s50) fun v53 s52 => ((pV s52 160 14 25 (.int 0)).bind fun s54 => (again24 s54))))))))))) else ((gR s29 160 14 0).bind fun v55 => ((gI s29 160 14 7).bind fun v56 => ((aB s29 v55 v56).bind fun v57 => (bnd (x_Mod_step d 160 s29) fun v59 s58 => (bnd ((c 9 160 x1 (x2 + 1) 0 s58)) fun v61 s60 => (if v61 = 0 then (some (0, s60)) else (bnd (x_Mod_put_II d 160 9 v57 s60) fun v63 s62 => ((pV s62 160 14 25 (.int 0)).bind fun s64 => (again24 s64)))))))))))))
def lvOf (x1 : Int32) : Int32 := if x1 = 37 then 4 else (if x1 = 42 then 4 else (if x1 = 43 then 3 else (if x1 = 45 then 3 else (if x1 = 47 then 4 else (if x1 = 60 then 2 else (if x1 = 256 then 2 else (if x1 = 257 then 2 else (if x1 = 258 then 2 else (if x1 = 259 then 1 else (if x1 = 260 then 0 else (-1)))))))))))
def cmOf (x1 : Int32) : Int32 := if x1 = 42 then 34 else (if x1 = 43 then 32 else (if x1 = 45 then 33 else (if x1 = 47 then 35 else (if x1 = 60 then 30 else (if x1 = 256 then 28 else (if x1 = 257 then 29 else (if x1 = 258 then 31 else 36)))))))
theorem lvOf_eq {d : Nat} {K : Int32} {s : HS} : x_Pars_levelOf d K s = some (lvOf K, s) := by
  unfold x_Pars_levelOf lvOf
  repeat' split
  all_goals rfl
theorem cmOf_eq {d : Nat} {K : Int32} {s : HS} : x_Pars_commandOf d K s = some (cmOf K, s) := by
  unfold x_Pars_commandOf cmOf
  repeat' split
  all_goals rfl
theorem lvOf_4 {K : Int32} : lvOf K = 4 ↔ K = 42 ∨ K = 47 ∨ K = 37 := by
  unfold lvOf
  constructor
  · intro h
    (repeat' split at h) <;> first | (exact Or.inl ‹_›) | (exact Or.inr (Or.inl ‹_›)) | (exact Or.inr (Or.inr ‹_›)) | (exact absurd h (by decide))
  · rintro (h | h | h) <;> (subst h; decide)
theorem lvOf_3 {K : Int32} : lvOf K = 3 ↔ K = 43 ∨ K = 45 := by
  unfold lvOf
  constructor
  · intro h
    (repeat' split at h) <;> first | (exact Or.inl ‹_›) | (exact Or.inr ‹_›) | (exact absurd h (by decide))
  · rintro (h | h) <;> (subst h; decide)
theorem lvOf_2 {K : Int32} : lvOf K = 2 ↔ K = 256 ∨ K = 257 ∨ K = 60 ∨ K = 258 := by
  unfold lvOf
  constructor
  · intro h
    (repeat' split at h) <;> first | (exact Or.inl ‹_›) | (exact Or.inr (Or.inl ‹_›)) | (exact Or.inr (Or.inr (Or.inl ‹_›))) | (exact Or.inr (Or.inr (Or.inr ‹_›))) | (exact absurd h (by decide))
  · rintro (h | h | h | h) <;> (subst h; decide)
theorem lvOf_1 {K : Int32} : lvOf K = 1 ↔ K = 259 := by
  unfold lvOf
  constructor
  · intro h
    (repeat' split at h) <;> first | assumption | (exact absurd h (by decide))
  · rintro h
    subst h
    decide
theorem lvOf_0 {K : Int32} : lvOf K = 0 ↔ K = 260 := by
  unfold lvOf
  constructor
  · intro h
    (repeat' split at h) <;> first | assumption | (exact absurd h (by decide))
  · rintro h
    subst h
    decide
theorem KT_sgn : ∀ e ∈ KT, (e.1 = 43 ∨ e.1 = 45 ∨ e.1 = 42 ∨ e.1 = 47 ∨ e.1 = 37) → e.2 = [e.1.toNatClampNeg] := by decide +kernel
theorem TQ.sign {g : Nat → Int32} {L q : Nat} {T : TKc} {t : TKr} {K : Int32} (h : TQ g L q T t) (hk : T.2.1 = K) (hK : K = 43 ∨ K = 45 ∨ K = 42 ∨ K = 47 ∨ K = 37) : g q = K := by
  have hn : ∀ z : Int32, z = 0 ∨ z = 1 ∨ z = 2 ∨ z = 3 ∨ z = 4 → ¬ T.2.1 = z := fun z hz e => by
    rw [hk] at e
    subst e
    rcases hz with h | h | h | h | h <;> (subst h; exact absurd hK (by decide))
  rcases h.1 with ⟨k1, _⟩ | ⟨k0, _, _, ⟨k1, _⟩ | ⟨k1, _⟩ | ⟨k1, _⟩ | ⟨k1, _⟩ | ⟨e, k4, k1, k5, k6, _, k8⟩⟩
  · exact absurd k1 (hn 1 (by decide))
  · exact absurd k1 (hn 0 (by decide))
  · exact absurd k1 (hn 2 (by decide))
  · exact absurd k1 (hn 3 (by decide))
  · exact absurd k1 (hn 4 (by decide))
  · rw [hk] at k1
    have e2 := KT_sgn e k4 (by rw [← k1]; exact hK)
    rw [e2] at k6 k8
    have h0 := k8 0 (Nat.zero_lt_one)
    have h1 : [(g q).toNatClampNeg] = [e.1.toNatClampNeg] := k6
    have h2 : (g q).toNatClampNeg = K.toNatClampNeg := by rw [k1]; exact (List.cons.inj h1).1
    have p1 := Int32.ofNat_toNatClampNeg (g q) (Int32.le_iff_toInt_le.mpr (by show (0 : Int) ≤ _; exact h0))
    rw [← p1, h2]
    rcases hK with h | h | h | h | h <;> (subst h; rfl)
section
variable {E1 : CE} {cr : Nat} {E2 : RE} {w0 : W2} {u u1 u2 v1 q d d1 d2 j V0 A B A' B' p m CL i : Nat} {T : TKc} {t : TKr} {x x' x'' x1 x2 : CA} {y y' y'' y1 y2 : RA} {s s' : HS} {K dp op opr ar : Int32} {w : List Nat} {Q' : CA → RA → Nat → Prop} {ex : HS → Option (Unit × HS)} {el : HS → Option (Int32 × HS)} {k1 : HS → Option (Unit × HS)} {k2 : HS → Option (Int32 × HS)}
/-- one operator and the E behind it -/
theorem j_binstep (ho : op = 28 ∨ op = 29 ∨ op = 30 ∨ op = 31 ∨ op = 32 ∨ op = 33 ∨ op = 34 ∨ op = 35 ∨ op = 36) (hN : JE E1 cr E2 w0 V0 B ex el) (hB : B ≤ 15000) {q1 : Nat} {T1 : TKc} {t1 : TKr} {s1 : HS} (V : KC E1 s1 x1) (J : JJ E1 cr E2 w0 u1 q1 T1 t1 x1 y1) (hV : V0 ≤ ra_v y1) (Q : QE V0 x y u x1 y1 u1) (hk : T1.2.1 = K) (hK0 : ¬ K = 0) (hK1 : ¬ K = 1) (ok : ∀ s' x' y' u' q' T' t', KC E1 s' x' → JJ E1 cr E2 w0 u' q' T' t' x' y' → V0 ≤ ra_v y' → u1 + 2 ≤ u' → QE V0 x y u x' y' u' → OUT E1 cr E2 w0 (ca_h x) B' Q' (k1 s') (k2 (pm cr E2 y'))) (bad : ∀ s' x' qf, DD E1 s' x' qf (ca_h x) (B + 1) → ∃ s'' x'', k1 s' = some ((), s'') ∧ DD E1 s'' x'' qf (ca_h x) B') : OUT E1 cr E2 w0 (ca_h x) B' Q' (bnd (x_Pars_take (d1 + 8) 132 K s1) fun _ s11 => (bnd (ex s11) fun _ s13 => ((gR s13 132 5 3).bind fun v15 => (bnd (x_Draft_add (d1 + 8) v15 op 0 s13) fun _ s18 => ((pV s18 132 5 7 (.int 0)).bind fun s20 => k1 s20))))) (bnd (x_Mod_step (d2 + 8) 160 (pm cr E2 y1)) fun _ s22 => (bnd (el s22) fun v s24 => (if v = 0 then some (0, s24) else (bnd (x_Mod_put_II (d2 + 8) 160 (rB op).1 (rB op).2 s24) fun _ s26 => ((pV s26 160 14 25 (.int 0)).bind fun s28 => k2 s28))))) := by
  have n0 : ¬ T1.2.1 = 0 := by rw [hk]; exact hK0
  have n1 : ¬ T1.2.1 = 1 := by rw [hk]; exact hK1
  obtain ⟨s2, e2, V2⟩ := jj_take (d := d1 + 2) V J hk hK0 hK1
  obtain ⟨q2, T2, t2, J2, _⟩ := J.adv n0 n1
  have Q2 : QE V0 x y u (caAsg (cav E1 t1 x1) 0) (raGiven (rav E2 t1 y1) 0) u1 := Q.lex'.wrap (Nat.le_refl _) (Nat.le_refl _) rfl ⟨rfl, rfl, rfl⟩ rfl rfl
  rw [e2, bnd_some, jj_step (d := d2 + 3) J, bnd_some]
  have hV2 : V0 ≤ ra_v (rav E2 t1 y1) := hV
  have hb1 := J.2.2.2.2.2
  have hbx : ca_h (cav E1 t1 x1) ≤ 2 * u1 + 2 := hb1.1
  have hby : ra_m (rav E2 t1 y1) ≤ 3 * u1 + 2 := hb1.2.2.2.1
  generalize cav E1 t1 x1 = x2 at V2 J2 Q2 hbx
  generalize rav E2 t1 y1 = y2 at J2 Q2 hV2 hby ⊢
  have hA2 : ca_h x ≤ ca_h x2 := Q2.1.2.1.1
  rcases hN s2 _ _ _ _ _ _ V2 J2 hV2 with ⟨s', x', y', u', q', T', t', r1, r2, V', J', hq⟩ | ⟨s', x', y', qf, r1, r2, D, g⟩
  · have hb' := J'.2.2.2.2.2
    have hu' := J'.uq
    have hlt := hq.1.1
    have h6 := hq.1.2.2.2.2.2
    have hb2 := J2.2.2.2.2.2
    have hVq : V0 ≤ ra_v y' := Nat.le_trans hV2 hq.1.2.2.1.2.2.1
    obtain ⟨s4, e4, V4⟩ := kc_add (d := d1 + 6) (op := op) (ar := 0) J.eo V' (by omega)
    obtain ⟨s5, e5, V5⟩ := kc_asg (v := 0) J.eo V4
    rw [r1, r2, bnd_some, bnd_some, if_neg (by decide), kc_dr V', Option.bind_some, e4, bnd_some, e5, Option.bind_some, y_put2 J.er (by omega), bnd_some, y_p25 J.er, Option.bind_some]
    have hq2 : QE V0 (caAsg x2 0) (raGiven y2 0) (u1 + 1) x' y' u' := hq
    refine ok s5 _ _ u' q' T' t' V5 (J'.chg ⟨rfl, rfl, rfl, rfl⟩ ⟨rfl, rfl⟩ ?_) hVq (by omega) ?_
    · show ca_h x' + 1 ≤ _ ∧ ca_k x' ≤ _ ∧ ra_m y' + 1 + 1 ≤ _ ∧ ra_v y' ≤ _ ∧ ra_p y' ≤ _
      omega
    · exact QE.bi (x'' := caAsg (caAdd x' op 0) 0) (y'' := raGiven (raPut (raPut y' (rB op).1) (rB op).2) 0) (F := dTwo (d_bin op)) (wd := 2) (op := op) (ar := 0) (Nat.le_refl _) (fun a b c d e f g => ImE_bin ho a b c d e f g) (fun {a b c va kv lcl need D E} h1 h2 h3 h4 h5 h6 => IrE_bin ho h1 h2 h3 h5 h6 (by subst h4; exact up10) (by subst h4; exact up11)) Q2 hq2 (Nat.le_refl _) rfl ⟨(AGr.rfl'.put.put).given, rfl, rfl, rfl, rfl⟩ rfl rfl (Nat.le_refl _)
  · obtain ⟨s4, x4, e4, D4⟩ := dd_add (d := d1 + 6) (op := op) (ar := 0) (D.mono hA2 (Nat.le_refl _)) (by omega)
    obtain ⟨s5, x5, e5, D5⟩ := dd_asg (v := 0) D4
    obtain ⟨s6, x6, e6, D6⟩ := bad s5 x5 qf D5
    rw [r1, r2, bnd_some, bnd_some, if_pos rfl, kc_dr D.1, Option.bind_some, e4, bnd_some, e5, Option.bind_some, e6]
    exact OUT.no D6 g
end
