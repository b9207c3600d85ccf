/-! || and && -/
def ptB : (Int32 × HS → Option (Int32 × HS)) → Int32 × HS → Option (Int32 × HS) := (fun (again84 : Int32 × HS → Option (Int32 × HS)) (z84 : Int32 × HS) => (if z84.1 < 0 then (some (1, z84.2)) else ((gR z84.2 160 14 22).bind fun v7 => ((gR z84.2 v7 12 0).bind fun v8 => ((aI z84.2 v8 z84.1).bind fun v9 => ((gR z84.2 160 14 22).bind fun v10 => ((gR z84.2 v10 12 0).bind fun v11 => ((gR z84.2 160 14 22).bind fun v12 => ((gI z84.2 v12 12 2).bind fun v13 => ((sV z84.2 .int v11 z84.1 (.int v13)).bind fun s14 => (again84 (v9, s14))))))))))))
def eiB (c : CLT) (d : Nat) (x1 x2 : Int32) : (Int32 × HS → Option (Int32 × HS)) → Int32 × HS → Option (Int32 × HS) := (fun (again26 : Int32 × HS → Option (Int32 × HS)) (z26 : Int32 × HS) => (if x2 = 0 then (bnd (x_Mod_is d 160 64 z26.2) fun v6 s5 => (if v6 = 0 then (loopK (fun (again84 : Int32 × HS → Option (Int32 × HS)) (z84 : Int32 × HS) => (if z84.1 < 0 then (some (1, z84.2)) else ((gR z84.2 160 14 22).bind fun v7 => ((gR z84.2 v7 12 0).bind fun v8 => ((aI z84.2 v8 z84.1).bind fun v9 => ((gR z84.2 160 14 22).bind fun v10 => ((gR z84.2 v10 12 0).bind fun v11 => ((gR z84.2 160 14 22).bind fun v12 => ((gI z84.2 v12 12 2).bind fun v13 => ((sV z84.2 .int v11 z84.1 (.int v13)).bind fun s14 => (again84 (v9, s14)))))))))))) FU (z26.1, s5)) else (bnd (x_Mod_step d 160 s5) fun v16 s15 => (bnd (x_Mod_put_II d 160 16 x2 s15) fun v18 s17 => (bnd (x_Mod_put_I d 160 z26.1 s17) fun v20 s19 => (bnd ((c 7 160 x1 (x2 + 1) 0 s19)) fun v22 s21 => (if v22 = 0 then (some (0, s21)) else ((pV s21 160 14 25 (.int 0)).bind fun s23 => (again26 (v20, s23)))))))))) else (bnd (x_Mod_is d 160 66 z26.2) fun v25 s24 => (if v25 = 0 then (loopK (fun (again84 : Int32 × HS → Option (Int32 × HS)) (z84 : Int32 × HS) => (if z84.1 < 0 then (some (1, z84.2)) else ((gR z84.2 160 14 22).bind fun v26 => ((gR z84.2 v26 12 0).bind fun v27 => ((aI z84.2 v27 z84.1).bind fun v28 => ((gR z84.2 160 14 22).bind fun v29 => ((gR z84.2 v29 12 0).bind fun v30 => ((gR z84.2 160 14 22).bind fun v31 => ((gI z84.2 v31 12 2).bind fun v32 => ((sV z84.2 .int v30 z84.1 (.int v32)).bind fun s33 => (again84 (v28, s33)))))))))))) FU (z26.1, s24)) else (bnd (x_Mod_step d 160 s24) fun v35 s34 => (bnd (x_Mod_put_II d 160 16 x2 s34) fun v37 s36 => (bnd (x_Mod_put_I d 160 z26.1 s36) fun v39 s38 => (bnd ((c 7 160 x1 (x2 + 1) 0 s38)) fun v41 s40 => (if v41 = 0 then (some (0, s40)) else ((pV s40 160 14 25 (.int 0)).bind fun s42 => (again26 (v39, s42))))))))))))
/-- a chain of steps that wait for their place -/
def LKc (st : Nat → Int32) (lo : Nat) : Nat → Int32 → Nat → Prop
  | 0, v, _ => v = -1
  | m + 1, v, hi => ∃ z, v = nI z ∧ lo ≤ z ∧ z < hi ∧ LKc st lo m (st z) z
def pt (st : Nat → Int32) (c : Int32) : Nat → Int32 → Nat → Int32
  | 0, _ => st
  | m + 1, v => fun j => if j = v.toNatClampNeg then c else pt st c m (st v.toNatClampNeg) j
theorem LKc.mono {st : Nat → Int32} {lo : Nat} : ∀ {m : Nat} {v : Int32} {hi hi' : Nat}, LKc st lo m v hi → hi ≤ hi' → LKc st lo m v hi'
  | 0, _, _, _, h, _ => h
  | _ + 1, _, _, _, ⟨z, h1, h2, h3, h4⟩, g => ⟨z, h1, h2, by omega, h4⟩
theorem LKc.ext {st st' : Nat → Int32} {lo : Nat} : ∀ {m : Nat} {v : Int32} {hi : Nat}, LKc st lo m v hi → (∀ j, j < hi → st' j = st j) → LKc st' lo m v hi
  | 0, _, _, h, _ => h
  | _ + 1, _, _, ⟨z, h1, h2, h3, h4⟩, g => ⟨z, h1, h2, h3, by
    rw [g z h3]
    exact h4.ext (fun j hj => g j (by omega))⟩
theorem pt_ext {st st' : Nat → Int32} {lo : Nat} {c : Int32} : ∀ {m : Nat} {v : Int32} {hi : Nat}, LKc st lo m v hi → hi ≤ 6000 → (∀ j, j < hi → st' j = st j) → (∀ j, j < hi → pt st' c m v j = pt st c m v j) ∧ ∀ j, hi ≤ j → pt st' c m v j = st' j
  | 0, _, _, _, _, g => ⟨fun j hj => g j hj, fun _ _ => rfl⟩
  | m + 1, v, hi, ⟨z, h1, h2, h3, h4⟩, hh, g => by
    have ez : v.toNatClampNeg = z := by rw [h1]; exact nI_clamp (by omega)
    have ih := pt_ext (c := c) h4 (by omega) (st' := st') (fun j hj => g j (by omega))
    have ih2 := pt_ext (c := c) h4 (by omega) (st' := st) (fun j hj => rfl)
    refine ⟨fun j hj => ?_, fun j hj => ?_⟩
    · show (if j = v.toNatClampNeg then c else pt st' c m (st' v.toNatClampNeg) j) = if j = v.toNatClampNeg then c else pt st c m (st v.toNatClampNeg) j
      rw [ez, g z h3]
      by_cases q : j = z
      · rw [if_pos q, if_pos q]
      · rw [if_neg q, if_neg q]
        rcases Nat.lt_or_ge j z with k | k
        · exact ih.1 j k
        · rw [ih.2 j k, ih2.2 j k]
          exact g j hj
    · show (if j = v.toNatClampNeg then c else pt st' c m (st' v.toNatClampNeg) j) = st' j
      rw [ez, g z h3, if_neg (by omega)]
      exact ih.2 j (by omega)
/-- what lies before the chain stays -/
theorem pt_low {st : Nat → Int32} {lo : Nat} {c : Int32} : ∀ {m : Nat} {v : Int32} {hi : Nat}, LKc st lo m v hi → hi ≤ 6000 → ∀ j, j < lo → pt st c m v j = st j
  | 0, _, _, _, _, _, _ => rfl
  | m + 1, v, hi, ⟨z, h1, h2, h3, h4⟩, hh, j, hj => by
    have ez : v.toNatClampNeg = z := by rw [h1]; exact nI_clamp (by omega)
    show (if j = v.toNatClampNeg then c else pt st c m (st v.toNatClampNeg) j) = st j
    rw [ez, if_neg (by omega)]
    exact pt_low h4 (by omega) j hj
abbrev raStep (y : RA) (f : Nat → Int32) : RA := (y.1, (ra_m y, ra_v y, f, ra_q y), y.2.2)
theorem r_patch {cr : Nat} {E2 : RE} {lo : Nat} (h : EOR cr E2) : ∀ (m : Nat) (v : Int32) (hi : Nat) (y : RA) (M : Nat), LKc (ra_s y) lo m v hi → hi ≤ 6000 → m < M → loopK ptB M (v, pm cr E2 y) = some (1, pm cr E2 (raStep y (pt (ra_s y) (nI (ra_m y)) m v)))
  | 0, v, hi, y, M, h1, hh, hM => by
    obtain ⟨M, rfl⟩ : ∃ k, M = k + 1 := ⟨M - 1, by omega⟩
    rw [loopK_succ]
    unfold ptB
    dsimp only
    rw [if_pos (by rw [show v = -1 from h1]; decide)]
    rfl
  | m + 1, v, hi, y, M, ⟨z, h1, h2, h3, h4⟩, hh, hM => by
    obtain ⟨M, rfl⟩ : ∃ k, M = k + 1 := ⟨M - 1, by omega⟩
    have ez : v.toNatClampNeg = z := by rw [h1]; exact nI_clamp (by omega)
    rw [loopK_succ]
    generalize hag : loopK ptB M = again
    unfold ptB
    dsimp only
    rw [h1, if_neg (nI_pos (by omega)), y_22 h, Option.bind_some, y_c0 h, Option.bind_some, y_aS h (by omega), Option.bind_some, Option.bind_some, y_c0 h, Option.bind_some, Option.bind_some, y_c2 h, Option.bind_some, y_sS h (by omega), Option.bind_some, ← hag]
    have ag : ∀ j, j < z → ra_s (raSet y z (nI (ra_m y))) j = ra_s y j := fun j hj => by
      show upI (ra_s y) z _ j = _
      exact upN (by omega)
    have ih := r_patch h m (ra_s y z) z (raSet y z (nI (ra_m y))) M (h4.ext ag) (by omega) (by omega)
    rw [ih]
    have e : pt (ra_s (raSet y z (nI (ra_m y)))) (nI (ra_m (raSet y z (nI (ra_m y))))) m (ra_s y z) = pt (ra_s y) (nI (ra_m y)) (m + 1) (nI z) := by
      funext j
      show pt (ra_s (raSet y z (nI (ra_m y)))) (nI (ra_m y)) m (ra_s y z) j = (if j = (nI z).toNatClampNeg then (nI (ra_m y)) else pt (ra_s y) (nI (ra_m y)) m (ra_s y (nI z).toNatClampNeg) j)
      rw [nI_clamp (by omega)]
      have p1 := pt_ext (c := nI (ra_m y)) h4 (by omega) ag
      have p2 := pt_ext (c := nI (ra_m y)) h4 (by omega) (st' := ra_s y) (fun j hj => rfl)
      rcases Nat.lt_or_ge j z with k | k
      · rw [if_neg (by omega)]
        exact p1.1 j k
      · rw [p1.2 j k]
        show upI (ra_s y) z (nI (ra_m y)) j = _
        by_cases q : j = z
        · rw [if_pos q, q, upA]
        · rw [if_neg q, upN q]
          exact (p2.2 j k).symm
    rw [e]
theorem IrC.ext {w : Bool} {a b c va kv lcl need kv' need' : Nat} {co co' : Nat → Int32} {vo vo' : Nat → VQ} {D : DE} (h : IrC w a b c va kv lcl need co vo D) (hn : need ≤ need') (hk : kv ≤ kv') (hc : ∀ j, a ≤ j → j < b → co' j = co j) (hp : ∀ j, va ≤ j → j < kv → vo' j = vo j) : IrC w a b c va kv' lcl need' co' vo' D := fun d g F0 ci Z R om T P Pb F sg env rem loc FC FN ha hv gc hN gv hNv X => h d g F0 ci Z R om T P Pb F sg env rem loc FC FN ha hv (fun j h1 h2 => (gc j h1 h2).trans (hc j h1 h2)) hN (fun j h1 h2 => (gv j h1 (by omega)).trans (hp j h1 h2)) (by omega) (X.less (Nat.le_refl _) hn)
/-- within a chain of m operators; v is where its last step waits -/
def QX (V0 : Nat) (w : Bool) (m : Nat) (v : Int32) (x : CA) (y : RA) (u : Nat) (x' : CA) (y' : RA) (u' : Nat) : Prop := XE x y u x' y' u' ∧ LKc (ra_s y') (ra_m y) m v (ra_m y') ∧ (∃ D : DE, ImE (ca_h x) (ca_h x') (ca_t x) (u' - u) (ca_k x') (ca_c x') (ca_p x') D ∧ ∀ c, ra_m y' ≤ c → IrC w (ra_m y) (ra_m y') c V0 (ra_v y') (ca_t x) (u' - u) (pt (ra_s y') (nI c) m v) (ra_q y') D) ∧ ((m = 0 ∧ AS V0 x y u x' y' u') ∨ (1 ≤ m ∧ ca_s x' = 0 ∧ ra_g y' = 0))
section
variable {E1 : CE} {cr : Nat} {E2 : RE} {w0 : W2} {u u1 u2 v1 q d d1 d2 j V0 A B A' B' p m CL i : Nat} {T : TKc} {t : TKr} {x x' x'' x1 x2 : CA} {y y' y'' y1 y2 : RA} {s s' : HS} {K dp op opr ar l t0 v : Int32} {w : Bool}
theorem QX.start {u' : Nat} (g : QE V0 x y u x' y' u') : QX V0 w 0 (-1) x y u x' y' u' := by
  obtain ⟨g1, ⟨D, g2, g3⟩, g4⟩ := g
  exact ⟨g1, rfl, ⟨D, g2, fun c hc => IrC_1 g3⟩, Or.inl ⟨rfl, g4⟩⟩
theorem QX.done {u' : Nat} (h : QX V0 w m v x y u x' y' u') (hM : ra_m y' ≤ 6000) : QE V0 x y u x' (raStep y' (pt (ra_s y') (nI (ra_m y')) m v)) u' := by
  obtain ⟨⟨g1, g2, g3, g4, g5, g6⟩, h2, ⟨D, h3, h4⟩, h5⟩ := h
  have lo := pt_low (c := nI (ra_m y')) h2 hM
  refine ⟨⟨g1, g2, ⟨g3.1, fun j hj => (lo j hj).trans (g3.2.1 j hj), g3.2.2⟩, g4, g5, g6⟩, ⟨D, h3, IrC_2 (h4 _ (Nat.le_refl _))⟩, ?_⟩
  rcases h5 with ⟨rfl, h6⟩ | ⟨_, h6, h7⟩
  · exact h6
  · exact ⟨h6.trans h7.symm, Or.inl h6⟩
theorem c_ei {again : Int32 × HS → Option (Unit × HS)} (V : KC E1 s x) {z : Int32} (hz : ¬ 1500 ≤ z) (hl : (w = false ∧ l = 0) ∨ (w = true ∧ l = 1)) : lvB (clP d) d l dp 1500 again (z, s) = if lvOf (ca_a x).2.2.1 = l then (bnd (x_Pars_take d 132 (ca_a x).2.2.1 s) fun _ s11 => ((gR s11 132 5 3).bind fun v21 => (bnd (x_Draft_here d v21 s11) fun v23 s22 => ((gR s22 132 5 3).bind fun v24 => (bnd (x_Draft_add d v24 (if w = true then 4 else 3) 0 s22) fun _ s25 => (bnd (cU (clP d 9 132 (l + 1) dp 0 s25)) fun _ s27 => ((gR s27 132 5 3).bind fun v29 => (bnd (x_Draft_aimHere d v29 v23 s27) fun _ s30 => ((pV s30 132 5 7 (.int 0)).bind fun s32 => again (z + 1, s32)))))))))) else some ((), s) := by
  unfold lvB
  dsimp only
  rw [if_neg hz, kc_lx V, Option.bind_some, kc_kind V, bnd_some, lvOf_eq, bnd_some]
  by_cases c : lvOf (ca_a x).2.2.1 = l
  · rw [if_pos c, if_pos c, kc_lx V, Option.bind_some, kc_kind V, bnd_some]
    rcases hl with ⟨rfl, rfl⟩ | ⟨rfl, rfl⟩
    · rfl
    · rfl
  · rw [if_neg c, if_neg c]
theorem r_ei {again : Int32 × HS → Option (Int32 × HS)} (J : JJ E1 cr E2 w0 u q T t x y) (hl : (w = false ∧ op = 0 ∧ K = 260) ∨ (w = true ∧ op = 1 ∧ K = 259)) : (T.2.1 = K → eiB (clM (d2 + 8)) (d2 + 8) dp op again (v, pm cr E2 y) = (bnd (x_Mod_step (d2 + 8) 160 (pm cr E2 y)) fun _ s15 => (bnd (x_Mod_put_II (d2 + 8) 160 16 op s15) fun _ s17 => (bnd (x_Mod_put_I (d2 + 8) 160 v s17) fun v20 s19 => (bnd (clM (d2 + 8) 7 160 dp (op + 1) 0 s19) fun v22 s21 => (if v22 = 0 then some (0, s21) else ((pV s21 160 14 25 (.int 0)).bind fun s23 => again (v20, s23)))))))) ∧ (¬ T.2.1 = K → eiB (clM (d2 + 8)) (d2 + 8) dp op again (v, pm cr E2 y) = loopK ptB FU (v, pm cr E2 y)) := by
  have is1 := J.is (d := d2 + 4) (K := 260) 26 (j := 64) rfl (by decide) rfl
  have is2 := J.is (d := d2 + 4) (K := 259) 27 (j := 66) rfl (by decide) rfl
  unfold eiB
  dsimp only
  rcases hl with ⟨rfl, rfl, rfl⟩ | ⟨rfl, rfl, rfl⟩
  · rw [if_pos rfl, is1, bnd_some]
    refine ⟨fun h => ?_, fun h => ?_⟩
    · rw [if_pos h, if_neg (by decide)]
    · rw [if_neg h, if_pos rfl]
      rfl
  · rw [if_neg (by decide), is2, bnd_some]
    refine ⟨fun h => ?_, fun h => ?_⟩
    · rw [if_pos h, if_neg (by decide)]
    · rw [if_neg h, if_pos rfl]
      rfl
theorem j_eiloop (hl : (w = false ∧ l = 0 ∧ op = 0 ∧ K = 260) ∨ (w = true ∧ l = 1 ∧ op = 1 ∧ K = 259)) (hN : JE E1 cr E2 w0 V0 B (fun s => cU (clP (d1 + 8) 9 132 (l + 1) dp 0 s)) (fun s => clM (d2 + 8) 7 160 dp (op + 1) 0 s)) (hB : B ≤ 15000) : ∀ n i m v s1 x1 y1 u1 q1 T1 t1 M1 M2, 1500 - u1 < n → 1500 - u1 < M1 → 1500 - u1 < M2 → 2 * i ≤ u1 → m ≤ 1500 → 2 * m ≤ u1 → KC E1 s1 x1 → JJ E1 cr E2 w0 u1 q1 T1 t1 x1 y1 → V0 ≤ ra_v y1 → QX V0 w m v x y u x1 y1 u1 → OUT E1 cr E2 w0 (ca_h x) (B + 1) (QE V0 x y u) (loopK (lvB (clP (d1 + 8)) (d1 + 8) l dp 1500) (M1 + 1) (nI i, s1)) (loopK (eiB (clM (d2 + 8)) (d2 + 8) dp op) (M2 + 1) (v, pm cr E2 y1)) := by
  have hset : ∀ k, lvOf k = l ↔ k = K := fun k => by
    rcases hl with ⟨_, rfl, _, rfl⟩ | ⟨_, rfl, _, rfl⟩
    · exact lvOf_0
    · exact lvOf_1
  have hK : ¬ K = 0 ∧ ¬ K = 1 := by rcases hl with ⟨_, _, _, rfl⟩ | ⟨_, _, _, rfl⟩ <;> decide
  have hl1 : ¬ -1 = l := by rcases hl with ⟨_, rfl, _, _⟩ | ⟨_, rfl, _, _⟩ <;> decide
  have hop : op = if w = true then 1 else 0 := by rcases hl with ⟨rfl, _, rfl, _⟩ | ⟨rfl, _, rfl, _⟩ <;> rfl
  intro n
  induction n with
  | zero => intro i m v s1 x1 y1 u1 q1 T1 t1 M1 M2 h; omega
  | succ n ih =>
    intro i m v s1 x1 y1 u1 q1 T1 t1 M1 M2 hn hM1 hM2 hi hm1 hm2 V J hV Q
    have hu := J.uq
    have hb := J.2.2.2.2.2
    have hiv : ∀ k, k ≤ 1 → ¬ (1500 : Int32) ≤ nI (i + k) := fun k hk => nI_ge (b := 1500) (show i + k < 1500 by omega) (by decide)
    obtain ⟨M1, rfl⟩ : ∃ k, M1 = k + 1 := ⟨M1 - 1, by omega⟩
    obtain ⟨M2, rfl⟩ : ∃ k, M2 = k + 1 := ⟨M2 - 1, by omega⟩
    have hc := c_ei (d := d1 + 8) (dp := dp) (w := w) (l := l) (again := loopK (lvB (clP (d1 + 8)) (d1 + 8) l dp 1500) (M1 + 1)) V (hiv 0 (by omega)) (by rcases hl with ⟨h1, h2, _, _⟩ | ⟨h1, h2, _, _⟩; exact Or.inl ⟨h1, h2⟩; exact Or.inr ⟨h1, h2⟩)
    have hr := r_ei (d2 := d2) (dp := dp) (v := v) (w := w) (op := op) (K := K) (again := loopK (eiB (clM (d2 + 8)) (d2 + 8) dp op) (M2 + 1)) J (by rcases hl with ⟨h1, _, h2, h3⟩ | ⟨h1, _, h2, h3⟩; exact Or.inl ⟨h1, h2, h3⟩; exact Or.inr ⟨h1, h2, h3⟩)
    rw [loopK_succ, loopK_succ (k := M2 + 1)]
    rw [show lvB (clP (d1 + 8)) (d1 + 8) l dp 1500 (loopK (lvB (clP (d1 + 8)) (d1 + 8) l dp 1500) (M1 + 1)) (nI i, s1) = _ from hc, J.kd]
    by_cases c : T1.2.1 = K
    · rw [if_pos ((hset _).mpr c), hr.1 c, c]
      have n0 : ¬ T1.2.1 = 0 := by rw [c]; exact hK.1
      have n1 : ¬ T1.2.1 = 1 := by rw [c]; exact hK.2
      obtain ⟨s2, e2, V2⟩ := jj_take (d := d1 + 2) V J c hK.1 hK.2
      obtain ⟨q2, T2, t2, J2, _⟩ := J.adv n0 n1
      have hlt := J.lt n0 n1
      have QQ : QX V0 w m v x y u (cav E1 t1 x1) (rav E2 t1 y1) u1 := Q
      rw [e2, bnd_some, jj_step (d := d2 + 3) J, bnd_some]
      have hV2 : V0 ≤ ra_v (rav E2 t1 y1) := hV
      have hbx : ca_h (cav E1 t1 x1) ≤ 2 * u1 + 2 ∧ ca_k (cav E1 t1 x1) ≤ 2 * u1 + 2 := ⟨hb.1, hb.2.1⟩
      have hby : ra_m (rav E2 t1 y1) ≤ 3 * u1 + 2 := hb.2.2.2.1
      generalize cav E1 t1 x1 = x2 at V2 J2 QQ hbx
      generalize rav E2 t1 y1 = y2 at J2 QQ hV2 hby ⊢
      obtain ⟨⟨g1, g2, g3, g4, g5, g6⟩, h2, ⟨D, h3, h4⟩, h5⟩ := QQ
      have hb2 := J2.2.2.2.2.2
      obtain ⟨s3, e3, V3⟩ := kc_add (d := d1 + 6) (op := if w = true then 4 else 3) (ar := 0) J.eo V2 (by omega)
      rw [kc_dr V2, Option.bind_some, kc_here V2, bnd_some, kc_dr V2, Option.bind_some, e3, bnd_some, y_put2 J.er (by omega), bnd_some, y_put J.er (by show ra_m y2 + 1 + 1 < 6000; omega), bnd_some]
      have J3 : JJ E1 cr E2 w0 (u1 + 1) q2 T2 t2 (caAdd x2 (if w = true then 4 else 3) 0) (raPut (raPut (raPut y2 16) op) v) := J2.chg ⟨rfl, rfl, rfl, rfl⟩ ⟨rfl, rfl⟩ (by
        show ca_h x2 + 1 ≤ _ ∧ ca_k x2 ≤ _ ∧ ra_m y2 + 1 + 1 + 1 ≤ _ ∧ ra_v y2 ≤ _ ∧ ra_p y2 ≤ _
        omega)
      rcases hN s3 _ _ _ _ _ _ V3 J3 hV2 with ⟨s', x', y', u', q', T', t', r1, r2, V', J', hq⟩ | ⟨s', x', y', qf, r1, r2, DD', g⟩
      · dsimp only at r1 r2
        obtain ⟨⟨k1, k2, k3, k4, k5, k6⟩, ⟨D2, k7, k8⟩, _⟩ := hq
        have hb' := J'.2.2.2.2.2
        have hu' := J'.uq
        have k21 : ca_h x2 + 1 ≤ ca_h x' := k2.1
        have k31 : ra_m y2 + 1 + 1 + 1 ≤ ra_m y' := k3.1
        have k6' : ca_h x' + 2 * (u1 + 1) ≤ ca_h x2 + 1 + 2 * u' ∧ ca_k x' + 2 * (u1 + 1) ≤ ca_k x2 + 2 * u' ∧ ra_m y' + 3 * (u1 + 1) ≤ ra_m y2 + 1 + 1 + 1 + 3 * u' ∧ ra_v y' + (u1 + 1) ≤ ra_v y2 + u' := k6
        obtain ⟨s4, e4, V4⟩ := kc_aim (d := d1 + 7) (a := ca_h x2) J.eo V' (by omega)
        obtain ⟨s5, e5, V5⟩ := kc_asg (v := 0) J.eo V4
        rw [r1, bnd_some, kc_dr V', Option.bind_some, e4, bnd_some, e5, Option.bind_some, ← nI_succ]
        refine Eq.mpr (congrArg (fun z => OUT _ _ _ _ _ _ _ _ (bnd z _)) r2) ?_
        rw [bnd_some, if_neg (by decide), y_p25 J.er, Option.bind_some]
        have k31' := k3.2.1
        have st0 : ∀ j, j < ra_m y2 → ra_s y' j = ra_s y2 j := fun j hj => (k3.2.1 j (by show j < ra_m y2 + 1 + 1 + 1; omega)).trans ((((AGr.rfl' (y := y2)).put (v := 16)).put (v := op)).put (v := v) |>.2.1 j hj)
        have st1 : ra_s y' (ra_m y2) = 16 := (k3.2.1 _ (by show _ < ra_m y2 + 1 + 1 + 1; omega)).trans ((upN (by show ¬ ra_m y2 = ra_m y2 + 1 + 1; omega)).trans up10)
        have st2 : ra_s y' (ra_m y2 + 1) = op := (k3.2.1 _ (by show _ < ra_m y2 + 1 + 1 + 1; omega)).trans ((upN (by show ¬ ra_m y2 + 1 = ra_m y2 + 1 + 1; omega)).trans up11)
        have st3 : ra_s y' (ra_m y2 + 2) = v := (k3.2.1 _ (by show _ < ra_m y2 + 1 + 1 + 1; omega)).trans upA
        have vq0 : ∀ j, j < ra_v y2 → ra_q y' j = ra_q y2 j := fun j hj => k3.2.2.2.1 j hj
        have lk : LKc (ra_s y') (ra_m y) m v (ra_m y2) := h2.ext st0
        have agc2 : AGc x2 (caAsg (caAim x' (ca_h x2)) 0) := ((AGc.rfl'.add (op := if w = true then 4 else 3) (ar := 0)).trans k2).aim (Nat.le_refl _)
        have agr2 : AGr y2 (raGiven y' 0) := ((((AGr.rfl' (y := y2)).put (v := 16)).put (v := op)).put (v := v)).trans k3
        refine ih (i + 1) (m + 1) (nI (ra_m y2 + 1 + 1)) s5 _ _ u' q' T' t' M1 M2 (by omega) (by omega) (by omega) (by omega) (by omega) (by omega) V5 (J'.chg ⟨rfl, rfl, rfl, rfl⟩ ⟨rfl, rfl⟩ ?_) (Nat.le_trans hV2 k3.2.2.1) ⟨⟨by omega, g2.trans agc2, g3.trans agr2, k4.trans g4, ⟨k5.1.trans g5.1, k5.2.1.trans g5.2.1, k5.2.2.trans g5.2.2⟩, ?_⟩, ?_, ⟨dEi w D D2, ?_, fun c hc => ?_⟩, Or.inr ⟨by omega, rfl, rfl⟩⟩
        · exact ⟨hb'.1, hb'.2.1, hb'.2.2.2.1, hb'.2.2.2.2.1, hb'.2.2.2.2.2⟩
        · show ca_h x' + 2 * u ≤ _ ∧ ca_k x' + 2 * u ≤ _ ∧ ra_m y' + 3 * u ≤ _ ∧ ra_v y' + u ≤ _
          omega
        · exact ⟨ra_m y2 + 2, rfl, by have := g3.1; omega, by show ra_m y2 + 2 < ra_m y'; omega, by show LKc (ra_s y') (ra_m y) m (ra_s y' (ra_m y2 + 2)) (ra_m y2 + 2); rw [st3]; exact lk.mono (by omega)⟩
        · have g51 : ca_t x2 = ca_t x := g5.1
          have k7' : ImE (ca_h x2 + 1) (ca_h x') (ca_t x) (u' - (u1 + 1)) (ca_k x') (ca_c x') (ca_p x') D2 := by rw [← g51]; exact k7
          refine ImE_ei (b := ca_h x2) g2.1 k21 (by omega) (h3.ext (Nat.le_refl _) (by omega) agc2.2.2.1 (fun j _ hj => agc2.2.1 j hj) (fun j hj => agc2.2.2.2 j hj)) (k7'.ext (Nat.le_refl _) (by omega) (Nat.le_refl _) (fun j hj1 _ => ?_) (fun _ _ => rfl)) ?_ ?_
          · show upI (ca_c x') _ _ j = _
            exact upN (by omega)
          · show upI (ca_c x') (2 * ca_h x2 + 1) _ (2 * ca_h x2) = _
            rw [upN (by omega)]
            exact (k2.2.1 _ (by show _ < 2 * (ca_h x2 + 1); omega)).trans up20
          · exact upA
        · have hc' : ra_m y' ≤ c := hc
          have g51 : ca_t x2 = ca_t x := g5.1
          have k8' : IrE (ra_m y2 + 3) (ra_m y') V0 (ra_v y') (ca_t x) (u' - (u1 + 1)) (ra_s y') (ra_q y') D2 := by rw [← g51]; exact k8
          have p0 := pt_ext (c := nI c) h2 (by omega) st0
          have e0 : ∀ j, pt (ra_s y') (nI c) (m + 1) (nI (ra_m y2 + 1 + 1)) j = if j = ra_m y2 + 2 then nI c else pt (ra_s y') (nI c) m v j := fun j => by
            show (if j = (nI (ra_m y2 + 2)).toNatClampNeg then nI c else pt (ra_s y') (nI c) m (ra_s y' (nI (ra_m y2 + 2)).toNatClampNeg) j) = _
            rw [nI_clamp (by omega), st3]
          refine IrC_3 (b := ra_m y2) g3.1 k31 hc' (by omega) ((h4 c (by omega)).ext (by omega) k3.2.2.1 (fun j _ hj => ?_) (fun j _ hj => vq0 j hj)) (k8'.ext (Nat.le_refl _) (by omega) (Nat.le_refl _) (Nat.le_refl _) (fun j hj1 _ => ?_) (fun _ _ _ => rfl)) ?_ ?_ ?_
          · show pt (ra_s y') (nI c) (m + 1) (nI (ra_m y2 + 1 + 1)) j = _
            rw [e0, if_neg (by omega)]
            exact p0.1 j hj
          · show pt (ra_s y') (nI c) (m + 1) (nI (ra_m y2 + 1 + 1)) j = _
            rw [e0, if_neg (by omega)]
            exact p0.2 j (by omega)
          · show pt (ra_s y') (nI c) (m + 1) (nI (ra_m y2 + 1 + 1)) (ra_m y2) = _
            rw [e0, if_neg (by omega), p0.2 _ (Nat.le_refl _)]
            exact st1
          · show pt (ra_s y') (nI c) (m + 1) (nI (ra_m y2 + 1 + 1)) (ra_m y2 + 1) = _
            rw [e0, if_neg (by omega), p0.2 _ (by omega)]
            exact st2.trans hop
          · show pt (ra_s y') (nI c) (m + 1) (nI (ra_m y2 + 1 + 1)) (ra_m y2 + 2) = _
            rw [e0, if_pos rfl]
      · dsimp only at r1 r2
        obtain ⟨s4, x4, e4, D4⟩ := dd_aim (d := d1 + 7) (a := ca_h x2) DD' (by show ca_h x2 < ca_h x2 + 1; omega)
        obtain ⟨s5, x5, e5, D5⟩ := dd_asg (v := 0) D4
        rw [r1, bnd_some, kc_dr DD'.1, Option.bind_some, e4, bnd_some, e5, Option.bind_some, ← nI_succ, dd_lvB (M := M1) D5 (hiv 1 (by omega)) hl1]
        refine Eq.mpr (congrArg (fun z => OUT _ _ _ _ _ _ _ _ (bnd z _)) r2) ?_
        rw [bnd_some, if_pos rfl]
        exact OUT.no' D5 g (by have := g2.1; show ca_h x ≤ ca_h x2 + 1; omega) (Nat.le_succ _)
    · have f : 3000 ≤ FU := by rw [FU_eq]; decide
      rw [if_neg (fun h => c ((hset _).mp h)), hr.2 c, r_patch J.er m v (ra_m y1) y1 FU Q.2.1 (by omega) (by omega)]
      exact OUT.ok V (J.chg ⟨rfl, rfl, rfl, rfl⟩ ⟨rfl, rfl⟩ ⟨hb.1, hb.2.1, hb.2.2.2.1, hb.2.2.2.2.1, hb.2.2.2.2.2⟩) (Q.done (by omega))
end
