/-! the class's read(): its beginning -/
abbrev lxT (tx : Nat) (ln : Int32) (a : LxS) : am_C := .inr (1, [.ref 134, .ref tx, .int ln, .int a.1, .int a.2.1, .int a.2.2.1, .int a.2.2.2.1, .int a.2.2.2.2.1, .long a.2.2.2.2.2.1, .long a.2.2.2.2.2.2])
/-- the class's parser between two runs -/
def CY (s : HS) (g : Nat → Int32) (ws : Nat → Int64) (I : ID) (N : N3) : Prop := (∃ (dr pg : Nat) (fa sg : Int32), s.2.1 132 = .inr (5, [.ref 133, .ref 136, .ref 140, .ref dr, .ref 144, .ref pg, .int fa, .int sg])) ∧ (∃ (tx : Nat) (ln : Int32) (a : LxS), s.2.1 133 = lxT tx ln a) ∧ s.2.1 129 = .inl (.byte, 1500, fun j => .int (g j)) ∧ s.2.1 134 = .inl (.long, 12, fun j => .long (ws j)) ∧ 1311 ≤ s.1 ∧ DRest s 136 (ic I) (ip I) (il I) N.1 ∧ DRest s 140 (icb I) (ipb I) (ilb I) N.2.1 ∧ (∃ (k : Nat) (un : Nat → Nat), ALR s k N.2.2 (ia I) un) ∧ PX I ∧ ∀ z, PI I z → z < s.1
theorem CZ.cy {s : HS} {L : Nat} {g : Nat → Int32} {ws : Nat → Int64} {I : ID} {N : N3} {k : Nat} {un : Nat → Nat} {fa : Int32} (h : CZ s L g ws I N k un fa) : CY s g ws I N := by
  obtain ⟨⟨a, dr, pg, sg, p1, p2, p3, p4, p5, p6⟩, h2, h3, h4, h5⟩ := h
  exact ⟨⟨dr, pg, fa, sg, p1⟩, ⟨129, nI L, a, p2⟩, p3, p4, p5, h2, h3, ⟨k, un, h4⟩, h5⟩
section
variable {n us d L : Nat} {f : Nat → am_C} {g : Nat → Int32} {ws : Nat → Int64}
theorem e_begin {tx : Nat} {ln : Int32} {a : LxS} (h : f 133 = lxT tx ln a) (hn : 1311 ≤ n) (U : f 129 = .inl (.byte, 1500, fun j => .int (g j))) (UW : f 134 = .inl (.long, 12, fun j => .long (ws j))) (hL : L ≤ 1500) : x_Lexer_begin (d + 6) 133 129 (nI L) (n, f, us) = some ((), (n, va_up f 133 (lxS L (advS g ws L 0 (nI 0, -1, a.2.2))), us)) := by
  unfold x_Lexer_begin
  dsimp only
  have b : 133 < n := by omega
  rw [gd_of (s := (n, f, us)) h (by decide) b, pV_of (s := (n, f, us)) h (by decide) b (by show 1 < 10; decide), Option.bind_some]
  dsimp only [List.set_cons_succ, List.set_cons_zero]
  rw [lenA_of (s := (n, va_up f 133 (lxT 129 ln a), us)) ((va_up_ne _ _ (by decide)).trans U) (by decide) (by decide) (show 129 < n by omega), Option.bind_some, if_neg (show ¬ nI 1500 < nI L from Int32.not_lt.mpr (nI_le hL (by decide))), pV_of (s := (n, va_up f 133 (lxT 129 ln a), us)) (va_up_self _ _ _) (by decide) b (by show 2 < 10; decide), Option.bind_some]
  dsimp only [List.set_cons_succ, List.set_cons_zero]
  rw [bx_uu, pV_of (s := (n, va_up f 133 (lxT 129 (nI L) a), us)) (va_up_self _ _ _) (by decide) b (by show 3 < 10; decide), Option.bind_some]
  dsimp only [List.set_cons_succ, List.set_cons_zero]
  rw [bx_uu, pV_of (s := (n, va_up f 133 (lxT 129 (nI L) (0, a.2)), us)) (va_up_self _ _ _) (by decide) b (by show 4 < 10; decide), Option.bind_some]
  dsimp only [List.set_cons_succ, List.set_cons_zero]
  rw [bx_uu]
  have e := e_advance (d := d) (us := us) (tk := -1) (kd := a.2.2.1) (pl := a.2.2.2.1) (nu := a.2.2.2.2.1) (hd := a.2.2.2.2.2.1) (tl := a.2.2.2.2.2.2) hn U hL UW (Nat.zero_le L)
  have e' : x_Lexer_advance (d + 5) 133 (n, va_up f 133 (.inr (1, [.ref 134, .ref 129, .int (nI L), .int 0, .int (-1), .int a.2.2.1, .int a.2.2.2.1, .int a.2.2.2.2.1, .long a.2.2.2.2.2.1, .long a.2.2.2.2.2.2])), us) = _ := e
  rw [e', bnd_some]
  rfl
theorem JX.first {a0 : LxS} {b0 : RLx} (hL : L ≤ 1500) (hb : ∀ j, j < L → isBt (g j)) (hws : ∀ i, i < 12 → ws i = Int64.ofNat (C128 8 (RWL.getD i []))) : ∃ q T t, JX g L (a0.2.1 + 1, b0.2.2.2.2.2.1 + 1) 0 q T t (advS g ws L 0 a0) (advR g L 0 b0) := by
  have es := sk_eq hL hb (L - 0) 0 (by omega)
  have hs := r_sk_le (g := g) (L - 0) 0
  have z : ∀ w : Int32, w = w + nI 0 := fun w => (Int32.add_zero w).symm
  refine ⟨r_sk g (L - 0) 0, s_tok g ws L (s_sk g L (L - 0) 0) a0.2.2.2.2.1 a0.2.2.2.2.2.1 a0.2.2.2.2.2.2, r_tok g L (r_sk g (L - 0) 0) b0.2.2.2.2.2.2, ⟨⟨?_, by omega, ?_⟩, ⟨rfl, rfl, by rw [← es]; rfl, rfl⟩, ⟨rfl, rfl, rfl, rfl, rfl⟩, z _, z _, Nat.zero_le _⟩⟩
  · rw [es]
    exact tok_eq hL hb hws (by omega)
  · exact r_tok_in (by omega)
end
/-- ArrayList.clear() -/
def alCl (v3 : Nat) (v4 : Int32) : (Int32 × HS → Option (Unit × HS)) → Int32 × HS → Option (Unit × HS) := (fun (again27 : Int32 × HS → Option (Unit × HS)) (z27 : Int32 × HS) => (if v4 ≤ z27.1 then (some ((), z27.2)) else ((sV z27.2 (.object "java/lang/Object") v3 z27.1 .null).bind fun s6 => (again27 ((z27.1 + 1), s6)))))
theorem alCl_eq {v3 : Nat} {v4 z : Int32} {s : HS} {ag : Int32 × HS → Option (Unit × HS)} : alCl v3 v4 ag (z, s) = (if v4 ≤ z then (some ((), s)) else ((sV s (.object "java/lang/Object") v3 z .null).bind fun s6 => (ag ((z + 1), s6)))) := rfl
section
variable {s : HS} {k N a d : Nat} {un : Nat → Nat}
theorem al_clL (ha : 128 ≤ a) (hkN : k ≤ N) (hN : N ≤ 300) : ∀ m i M s g, i + m = k → m < M → a < s.1 → s.2.1 a = .inl (.object "java/lang/Object", N, g) → ∃ g', loopK (alCl a (nI k)) M (nI i, s) = some ((), (s.1, va_up s.2.1 a (.inl (.object "java/lang/Object", N, g')), s.2.2)) := by
  intro m
  induction m with
  | zero =>
    intro i M s g e1 e2 e3 e4
    obtain ⟨M, rfl⟩ : ∃ M', M = M' + 1 := ⟨M - 1, by omega⟩
    refine ⟨g, ?_⟩
    rw [loopK_succ, alCl_eq, if_pos (nI_le (by omega) (by omega)), am_up_same e4]
  | succ m ih =>
    intro i M s g e1 e2 e3 e4
    obtain ⟨M, rfl⟩ : ∃ M', M = M' + 1 := ⟨M - 1, by omega⟩
    have b := cl0 (show i < 2 ^ 31 by omega)
    obtain ⟨g', e⟩ := ih (i + 1) M (s.1, va_up s.2.1 a (.inl (.object "java/lang/Object", N, updV g i .null)), s.2.2) (updV g i .null) (by omega) (by omega) e3 (va_up_self _ _ _)
    refine ⟨g', ?_⟩
    rw [loopK_succ, alCl_eq, if_neg (fun q => absurd (nI_lt (a := i) (b := k) (by omega) (by omega)) (Int32.not_lt.mpr q)), sV_of e4 ha e3 b.1 (by rw [b.2]; omega), b.2, Option.bind_some, show nI i + 1 = nI (i + 1) from nI_add i 1, e]
    dsimp only
    rw [bx_uu]
theorem al_clear (A : ALR s k N a un) : ∃ s' : HS, x_AL_clear d 144 s = some ((), s') ∧ ALR s' 0 N a un ∧ s'.1 = s.1 ∧ s'.2.2 = s.2.2 ∧ ∀ z, z ≠ 144 → z ≠ a → s'.2.1 z = s.2.1 z := by
  obtain ⟨md, g, h1, hn, kN, N3', hc⟩ := A
  have e0 : x_AL_clear d 144 s = gd s 144 3 ((gI s 144 3 2).bind fun v1 => ((pV s 144 3 2 (.int (v1 + 1))).bind fun s2 => ((gR s2 144 3 0).bind fun v3 => ((gI s2 144 3 1).bind fun v4 => ((pV s2 144 3 1 (.int 0)).bind fun s5 => (loopK (alCl v3 v4) FU (nI 0, s5))))))) := rfl
  have e2 : (va_up s.2.1 144 (.inr (3, [.ref a, .int (nI k), .int (md + 1)]))) 144 = .inr (3, [.ref a, .int (nI k), .int (md + 1)]) := va_up_self _ _ _
  obtain ⟨s5, hs5⟩ : ∃ s5 : HS, s5 = (s.1, va_up s.2.1 144 (.inr (3, [.ref a, .int (nI 0), .int (md + 1)])), s.2.2) := ⟨_, rfl⟩
  have e1 : x_AL_clear d 144 s = loopK (alCl a (nI k)) FU (nI 0, s5) := by
    rw [e0, gd_of h1 (by omega) hn, gI_of (k := 2) (x := md) h1 (by omega) hn rfl, Option.bind_some, pV_of h1 (by omega) hn (by show 2 < 3; omega), Option.bind_some]
    dsimp only [List.set_cons_succ, List.set_cons_zero]
    rw [gR_of (s := (s.1, va_up s.2.1 144 (.inr (3, [.ref a, .int (nI k), .int (md + 1)])), s.2.2)) (k := 0) (x := a) e2 (by omega) hn rfl, Option.bind_some, gI_of (s := (s.1, va_up s.2.1 144 (.inr (3, [.ref a, .int (nI k), .int (md + 1)])), s.2.2)) (k := 1) (x := nI k) e2 (by omega) hn rfl, Option.bind_some, pV_of (s := (s.1, va_up s.2.1 144 (.inr (3, [.ref a, .int (nI k), .int (md + 1)])), s.2.2)) e2 (by omega) hn (by show 1 < 3; omega), Option.bind_some]
    dsimp only [List.set_cons_succ, List.set_cons_zero]
    rw [bx_uu, hs5]
    rfl
  have q1 : s5.2.1 144 = .inr (3, [.ref a, .int (nI 0), .int (md + 1)]) := by rw [hs5]; dsimp only; exact va_up_self _ _ _
  have qn : s5.1 = s.1 := by rw [hs5]
  have qu : s5.2.2 = s.2.2 := by rw [hs5]
  have qf : ∀ z, z ≠ 144 → s5.2.1 z = s.2.1 z := fun z hz => by rw [hs5]; dsimp only; exact va_up_ne _ _ hz
  rw [e1]
  clear e0 e1 e2 hs5
  rcases hc with ⟨rfl, rfl⟩ | ⟨ha, ha3, ha2, h2, h10, hu⟩
  · have k0 : k = 0 := by omega
    subst k0
    refine ⟨s5, ?_, ⟨md + 1, g, q1, by omega, by omega, by omega, Or.inl ⟨rfl, rfl⟩⟩, qn, qu, fun z z1 _ => qf z z1⟩
    rw [loopFU, alCl_eq, if_pos (by decide)]
  · obtain ⟨g', e⟩ := al_clL (a := a) (by omega) kN N3' k 0 FU s5 g (by omega) (by rw [FU_eq]; omega) (by omega) ((qf a ha3).trans h2)
    refine ⟨_, e, ⟨md + 1, g', (va_up_ne _ _ (Ne.symm ha3)).trans q1, by show 144 < s5.1; omega, by omega, by omega, Or.inr ⟨ha, ha3, by show a < s5.1; omega, va_up_self _ _ _, h10, fun i hi => absurd hi (Nat.not_lt_zero _)⟩⟩, qn, qu, fun z z1 z2 => (va_up_ne _ _ z2).trans (qf z z1)⟩
end
