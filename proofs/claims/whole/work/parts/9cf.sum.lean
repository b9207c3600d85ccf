section
variable {E1 : CE} {cr : Nat} {E2 : RE} {w0 : W2} {u u1 u2 v1 q d d1 d2 j V0 A B A' B' p m CL i : Nat} {T : TKc} {t : TKr} {x x' x'' x1 x2 : CA} {y y' y'' y1 y2 : RA} {s s' : HS} {K dp op opr ar l t0 : Int32} {w : List Nat} {Q' : CA → RA → Nat → Prop} {ex : HS → Option (Unit × HS)} {el : HS → Option (Int32 × HS)}
theorem c_lv {again : Int32 × HS → Option (Unit × HS)} (V : KC E1 s x) {z : Int32} (hz : ¬ t0 ≤ z) (hl : 1 < l) : lvB (clP d) d l dp t0 again (z, s) = if lvOf (ca_a x).2.2.1 = l then (bnd (x_Pars_take d 132 (ca_a x).2.2.1 s) fun _ s11 => (bnd (cU (clP d 9 132 (l + 1) dp 0 s11)) fun _ s13 => ((gR s13 132 5 3).bind fun v15 => (bnd (x_Draft_add d v15 (cmOf (ca_a x).2.2.1) 0 s13) fun _ s18 => ((pV s18 132 5 7 (.int 0)).bind fun s20 => again (z + 1, s20)))))) else some ((), s) := by
  unfold lvB
  dsimp only
  rw [if_neg hz, kc_lx V, Option.bind_some, kc_kind V, bnd_some, lvOf_eq, bnd_some]
  by_cases c : lvOf (ca_a x).2.2.1 = l
  · rw [if_pos c, if_pos c, kc_lx V, Option.bind_some, kc_kind V, bnd_some]
    simp only [cmOf_eq, bnd_some, if_pos hl]
  · rw [if_neg c, if_neg c]
theorem dd_lvB {M qf : Nat} {v : Int32} (D : DD E1 s x qf A B) (hv : ¬ t0 ≤ v) (hl : ¬ -1 = l) : loopK (lvB (clP d) d l dp t0) (M + 1) (v, s) = some ((), s) := by
  rw [loopK_succ]
  unfold lvB
  dsimp only
  rw [if_neg hv, kc_lx D.1, Option.bind_some, dd_kind D, bnd_some, lvOf_eq, bnd_some, show lvOf 1 = -1 from by decide, if_neg hl]
/-- one step of the reference's loop over + and -, or * / and % -/
abbrev smS (d : Nat) (dp x2 K : Int32) (again : HS → Option (Int32 × HS)) (s : HS) : Option (Int32 × HS) := bnd (x_Mod_step d 160 s) fun _ s22 => (bnd (clM d 9 160 dp (x2 + 1) 0 s22) fun v s24 => (if v = 0 then some (0, s24) else (bnd (x_Mod_put_II d 160 9 K s24) fun _ s26 => ((pV s26 160 14 25 (.int 0)).bind fun s28 => again s28))))
theorem r_sm0 {again : HS → Option (Int32 × HS)} (J : JJ E1 cr E2 w0 u q T t x y) : ((T.2.1 = 43 ∨ T.2.1 = 45) → smB (clM (d2 + 8)) (d2 + 8) dp 0 again (pm cr E2 y) = smS (d2 + 8) dp 0 T.2.1 again (pm cr E2 y)) ∧ (¬ (T.2.1 = 43 ∨ T.2.1 = 45) → smB (clM (d2 + 8)) (d2 + 8) dp 0 again (pm cr E2 y) = some (1, pm cr E2 y)) := by
  have hL := J.er.1
  have pre : ∀ K : Int32, T.2.1 = K → (K = 43 ∨ K = 45 ∨ K = 42 ∨ K = 47 ∨ K = 37) → (¬ K = 0 ∧ ¬ K = 1) → aB (pm cr E2 y) 161 (ra_b y).2.2.1 = some K := fun K h1 h2 h3 => by
    have := J.lt (by rw [h1]; exact h3.1) (by rw [h1]; exact h3.2)
    have hq := (J.tq.go (by rw [h1]; exact h3.1) (by rw [h1]; exact h3.2)).2
    have hq2 := J.tq.2.2.2
    rw [J.ar.2.2.1, y_aB J.er (by omega), J.tq.sign h1 h2]
  have is1 := J.is (d := d2 + 4) (K := 43) 18 (j := 48) rfl (by decide) rfl
  have is2 := J.is (d := d2 + 4) (K := 45) 8 (j := 28) rfl (by decide) rfl
  unfold smB
  rw [if_pos rfl, is1, bnd_some]
  by_cases c43 : T.2.1 = 43
  · refine ⟨fun _ => ?_, fun h => absurd (Or.inl c43) h⟩
    rw [if_pos c43, if_neg (by decide), y_0 J.er, Option.bind_some, y_7 J.er, Option.bind_some, pre 43 c43 (by decide) (by decide), Option.bind_some, c43]
  · rw [if_neg c43, if_pos rfl, is2, bnd_some]
    by_cases c45 : T.2.1 = 45
    · refine ⟨fun _ => ?_, fun h => absurd (Or.inr c45) h⟩
      rw [if_pos c45, if_neg (by decide), y_0 J.er, Option.bind_some, y_7 J.er, Option.bind_some, pre 45 c45 (by decide) (by decide), Option.bind_some, c45]
    · refine ⟨fun h => absurd h (by rintro (h | h) <;> contradiction), fun _ => ?_⟩
      rw [if_neg c45, if_pos rfl]
theorem r_sm1 {again : HS → Option (Int32 × HS)} (J : JJ E1 cr E2 w0 u q T t x y) : ((T.2.1 = 42 ∨ T.2.1 = 47 ∨ T.2.1 = 37) → smB (clM (d2 + 8)) (d2 + 8) dp 1 again (pm cr E2 y) = smS (d2 + 8) dp 1 T.2.1 again (pm cr E2 y)) ∧ (¬ (T.2.1 = 42 ∨ T.2.1 = 47 ∨ T.2.1 = 37) → smB (clM (d2 + 8)) (d2 + 8) dp 1 again (pm cr E2 y) = some (1, pm cr E2 y)) := by
  have hL := J.er.1
  have pre : ∀ K : Int32, T.2.1 = K → (K = 43 ∨ K = 45 ∨ K = 42 ∨ K = 47 ∨ K = 37) → (¬ K = 0 ∧ ¬ K = 1) → aB (pm cr E2 y) 161 (ra_b y).2.2.1 = some K := fun K h1 h2 h3 => by
    have hq := (J.tq.go (by rw [h1]; exact h3.1) (by rw [h1]; exact h3.2)).2
    have hq2 := J.tq.2.2.2
    rw [J.ar.2.2.1, y_aB J.er (by omega), J.tq.sign h1 h2]
  have is1 := J.is (d := d2 + 4) (K := 42) 19 (j := 50) rfl (by decide) rfl
  have is2 := J.is (d := d2 + 4) (K := 47) 20 (j := 52) rfl (by decide) rfl
  have is3 := J.is (d := d2 + 4) (K := 37) 21 (j := 54) rfl (by decide) rfl
  unfold smB
  rw [if_neg (by decide), is1, bnd_some]
  by_cases c42 : T.2.1 = 42
  · refine ⟨fun _ => ?_, fun h => absurd (Or.inl c42) h⟩
    rw [if_pos c42, if_neg (by decide), y_0 J.er, Option.bind_some, y_7 J.er, Option.bind_some, pre 42 c42 (by decide) (by decide), Option.bind_some, c42]
  · rw [if_neg c42, if_pos rfl, is2, bnd_some]
    by_cases c47 : T.2.1 = 47
    · refine ⟨fun _ => ?_, fun h => absurd (Or.inr (Or.inl c47)) h⟩
      rw [if_pos c47, if_neg (by decide), y_0 J.er, Option.bind_some, y_7 J.er, Option.bind_some, pre 47 c47 (by decide) (by decide), Option.bind_some, c47]
    · rw [if_neg c47, if_pos rfl, is3, bnd_some]
      by_cases c37 : T.2.1 = 37
      · refine ⟨fun _ => ?_, fun h => absurd (Or.inr (Or.inr c37)) h⟩
        rw [if_pos c37, if_neg (by decide), y_0 J.er, Option.bind_some, y_7 J.er, Option.bind_some, pre 37 c37 (by decide) (by decide), Option.bind_some, c37]
      · refine ⟨fun h => absurd h (by rintro (h | h | h) <;> contradiction), fun _ => ?_⟩
        rw [if_neg c37, if_pos rfl]
theorem j_sumloop {P : Int32 → Prop} {x2' : Int32} (hl : 1 < l) (hl1 : ¬ -1 = l) (hset : ∀ K, lvOf K = l ↔ P K) (hP : ∀ K, P K → (cmOf K = 28 ∨ cmOf K = 29 ∨ cmOf K = 30 ∨ cmOf K = 31 ∨ cmOf K = 32 ∨ cmOf K = 33 ∨ cmOf K = 34 ∨ cmOf K = 35 ∨ cmOf K = 36) ∧ rB (cmOf K) = (9, K) ∧ ¬ K = 0 ∧ ¬ K = 1) (hR : ∀ {again : HS → Option (Int32 × HS)} {x : CA} {y : RA} {u q : Nat} {T : TKc} {t : TKr}, JJ E1 cr E2 w0 u q T t x y → (P T.2.1 → smB (clM (d2 + 8)) (d2 + 8) dp x2' again (pm cr E2 y) = smS (d2 + 8) dp x2' T.2.1 again (pm cr E2 y)) ∧ (¬ P T.2.1 → smB (clM (d2 + 8)) (d2 + 8) dp x2' again (pm cr E2 y) = some (1, pm cr E2 y))) (hN : JE E1 cr E2 w0 V0 B (fun s => cU (clP (d1 + 8) 9 132 (l + 1) dp 0 s)) (fun s => clM (d2 + 8) 9 160 dp (x2' + 1) 0 s)) (hB : B ≤ 15000) : ∀ n i s1 x1 y1 u1 q1 T1 t1 M1 M2, 1500 - u1 < n → 1500 - u1 < M1 → 1500 - u1 < M2 → 2 * i ≤ u1 → KC E1 s1 x1 → JJ E1 cr E2 w0 u1 q1 T1 t1 x1 y1 → V0 ≤ ra_v y1 → QE V0 x y u x1 y1 u1 → OUT E1 cr E2 w0 (ca_h x) (B + 1) (QE V0 x y u) (loopK (lvB (clP (d1 + 8)) (d1 + 8) l dp 1500) (M1 + 1) (nI i, s1)) (loopK (smB (clM (d2 + 8)) (d2 + 8) dp x2') (M2 + 1) (pm cr E2 y1)) := by
  intro n
  induction n with
  | zero => intro i s1 x1 y1 u1 q1 T1 t1 M1 M2 h; omega
  | succ n ih =>
    intro i s1 x1 y1 u1 q1 T1 t1 M1 M2 hn hM1 hM2 hi V J hV Q
    have hu := J.uq
    have hiv : ∀ k, k ≤ 1 → ¬ (1500 : Int32) ≤ nI (i + k) := fun k hk => nI_ge (b := 1500) (show i + k < 1500 by omega) (by decide)
    obtain ⟨M1, rfl⟩ : ∃ k, M1 = k + 1 := ⟨M1 - 1, by omega⟩
    obtain ⟨M2, rfl⟩ : ∃ k, M2 = k + 1 := ⟨M2 - 1, by omega⟩
    have hc := c_lv (d := d1 + 8) (dp := dp) (t0 := 1500) (again := loopK (lvB (clP (d1 + 8)) (d1 + 8) l dp 1500) (M1 + 1)) V (hiv 0 (by omega)) hl
    rw [loopK_succ, loopK_succ (k := M2 + 1)]
    rw [show lvB (clP (d1 + 8)) (d1 + 8) l dp 1500 (loopK (lvB (clP (d1 + 8)) (d1 + 8) l dp 1500) (M1 + 1)) (nI i, s1) = _ from hc, J.kd]
    have hr := hR (again := loopK (smB (clM (d2 + 8)) (d2 + 8) dp x2') (M2 + 1)) J
    by_cases c : P T1.2.1
    · obtain ⟨o1, o2, o3, o4⟩ := hP _ c
      rw [if_pos ((hset _).mpr c), hr.1 c]
      have o5 : (rB (cmOf T1.2.1)).1 = 9 := congrArg (·.1) o2
      have o6 : (rB (cmOf T1.2.1)).2 = T1.2.1 := congrArg (·.2) o2
      have := j_binstep (d1 := d1) (d2 := d2) (op := cmOf T1.2.1) (Q' := QE V0 x y u) (B' := B + 1) (k1 := fun s20 => loopK (lvB (clP (d1 + 8)) (d1 + 8) l dp 1500) (M1 + 1) (nI i + 1, s20)) (k2 := fun s28 => loopK (smB (clM (d2 + 8)) (d2 + 8) dp x2') (M2 + 1) s28) o1 hN hB V J hV Q rfl o3 o4 (fun s' x' y' u' q' T' t' V' J' hV' hu' Q' => by
        have := J'.uq
        have := ih (i + 1) s' x' y' u' q' T' t' M1 M2 (by omega) (by omega) (by omega) (by omega) V' J' hV' Q'
        rw [nI_succ] at this
        exact this) (fun s' x' qf D => ⟨s', x', by
          have := dd_lvB (M := M1) (d := d1 + 8) (dp := dp) (t0 := 1500) (l := l) D (hiv 1 (by omega)) hl1
          rw [nI_succ] at this
          exact this, D⟩)
      rw [o5, o6] at this
      exact this
    · rw [if_neg (fun h => c ((hset _).mp h)), hr.2 c]
      exact OUT.ok V J Q
end
