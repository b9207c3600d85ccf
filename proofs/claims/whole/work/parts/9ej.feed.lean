/-! feed, end, octet on both sides -/
section
variable {s s' : HS} {b b' : Nat → Value} {c L L' nw w w' sw n us d k m : Nat} {g g' ob ob' xs : Nat → Int32} {om om' lg lg' fu fu' x x1 x2 x3 x4 x5 : Int32} {R Rn Rs : RS} {wr pn ps pc : Nat → Nat} {WR : Nat → RS} {pp : Nat → Nat → Nat} {FF : Nat → FTb} {F : FTb} {q0 q0' : VQ} {X : SWs} {f f' : Nat → am_C} {O : oS}
theorem RCl.chg (h : RCl f g ob q0) (h1 : f' 161 = .inl (.byte, 1500, fun j => .int (g' j))) (h2 : f' 162 = .inl (.byte, 600, fun j => .int (ob' j))) (hf : ∀ z, 163 ≤ z → z ≤ 262 → (z ≤ 186 ∨ 240 ≤ z) → f' z = f z) : RCl f' g' ob' q0 := by
  obtain ⟨a1, a2, ⟨m, v, k1, k2, k3, k6, sp, q, a3⟩, ⟨m', v', j1, j2, j3, j4, j5, j6, sp', q', a4⟩, ⟨l1, a5⟩, ⟨l2, a6⟩, ⟨u, a7⟩, ⟨A, a8⟩, ⟨q1, a9⟩, ⟨q2, a10⟩, ⟨q3, a11, a12⟩, ⟨q4, a13⟩, ⟨cu, a14⟩, ⟨x1, a15⟩, ⟨x2, a16⟩⟩ := h
  exact ⟨h1, h2, ⟨m, v, k1, k2, k3, k6, sp, q, a3.keep (fun z z1 z2 => hf z (by omega) (by omega) (by omega))⟩, ⟨m', v', j1, j2, j3, j4, j5, j6, sp', q', a4.keep (fun z z1 z2 => hf z (by omega) (by omega) (by omega))⟩, ⟨l1, (hf 184 (by decide) (by decide) (by decide)).trans a5⟩, ⟨l2, (hf 185 (by decide) (by decide) (by decide)).trans a6⟩, ⟨u, (hf 186 (by decide) (by decide) (by decide)).trans a7⟩, ⟨A, a8.keep (fun z z1 z2 => hf z (by omega) (by omega) (by omega))⟩, ⟨q1, a9.keep (fun z z1 z2 => hf z (by omega) (by omega) (by omega))⟩, ⟨q2, a10.keep (fun z z1 z2 => hf z (by omega) (by omega) (by omega))⟩, ⟨q3, a11.keep (fun z z1 z2 => hf z (by omega) (by omega) (by omega)), a12⟩, ⟨q4, a13.keep (fun z z1 z2 => hf z (by omega) (by omega) (by omega))⟩, ⟨cu, (hf 260 (by decide) (by decide) (by decide)).trans a14⟩, ⟨x1, (hf 261 (by decide) (by decide) (by decide)).trans a15⟩, ⟨x2, (hf 262 (by decide) (by decide) (by decide)).trans a16⟩⟩
theorem RKx.top (h : RKx s b L g om ob nw w lg Rn Rs wr WR pn ps pp FF q0 fu X) (hn : s.1 ≤ s'.1) (O : OM s'.2.1 b') (B : RBf b' L' om' nw w lg fu' X.2.2) (C : RCl s'.2.1 g' ob' q0') (hf : ∀ z, 187 ≤ z → z ≤ 1310 → (z < 240 ∨ 262 < z) → s'.2.1 z = s.2.1 z) : RKx s' b' L' g' om' ob' nw w lg Rn Rs wr WR pn ps pp FF q0' fu' X := by
  obtain ⟨⟨a1, a2, a3, a4, a5⟩, b1, c1, d1, ⟨Rw, e1⟩, ⟨f1, f2⟩, g1, h1⟩ := h
  have hp : ∀ z, 401 ≤ z → z ≤ 1310 → s'.2.1 z = s.2.1 z := fun z z1 z2 => hf z (by omega) z2 (by omega)
  refine ⟨⟨O, Nat.le_trans a2 hn, B, a4, a5⟩, C, c1.keep (fun z z1 z2 => hf z (by omega) (by omega) (by omega)) hp, d1.keep (fun z z1 z2 => hf z (by omega) (by omega) (by omega)) hp, ⟨Rw, e1.keep (fun z z1 z2 => hf z (by omega) (by omega) (by omega))⟩, ⟨?_, fun t ht => ⟨(f2 t ht).1.keep2 hp, (f2 t ht).2⟩⟩, g1.keep (hf 239 (by decide) (by decide) (by decide)) hp, h1.keep (fun z z1 z2 => hf z (by omega) (by omega) (by omega))⟩
  exact ⟨(hf 238 (by decide) (by decide) (by decide)).trans f1.1, fun k hk => ⟨(f1.2.1 k hk).1.keep (fun x h1 h2 => hf x (by have := (f1.2.1 k hk).2; omega) (by have := (f1.2.1 k hk).2; omega) (by have := (f1.2.1 k hk).2; omega)), (f1.2.1 k hk).2⟩, f1.2.2⟩
theorem mo_p (O : OM f b) (hn : 1311 ≤ n) {v : Value} (hk : k < 53) : ∃ f', pV (n, f, us) 160 14 k v = some (n, f', us) ∧ OM f' (updV b k v) ∧ ∀ z, ¬ z = 160 → f' z = f z := ⟨_, mo_pV O hn hk, OM.up _ _, fun z hz => va_up_ne _ _ hz⟩
def zs (k : Nat) : Int32 := 24 - (8 * (nI k - nI k / 4 * 4))
def rG (xs : Nat → Int32) (L : Nat) : Nat → Nat → (Nat → Int32) → (Nat → Int32)
  | 0, _, g => g
  | m + 1, k, g => rG xs L m (k + 1) (upI g (L + k) (byt (xs (k / 4)) (zs k)))
theorem k4 : ∀ k, k < 20 → nI k / 4 = nI (k / 4) := by decide
theorem mf_L {a0 : Nat} (hn : 1311 ≤ a0) (ha : a0 < n) (b0 : b 0 = .ref 161) (b2 : b 2 = .int (nI L)) (hL : L + 20 ≤ 1500) : ∀ m k M (f : Nat → am_C) (g : Nat → Int32), k + m = 20 → m < M → OM f b → f 161 = .inl (.byte, 1500, fun j => .int (g j)) → f a0 = .inl (.int, 5, fun j => .int (xs j)) → ∃ f', loopK (mfB a0) M (nI k, (n, f, us)) = some (nI (L + 20), (n, f', us)) ∧ OM f' (updV b 2 (.int (nI (L + 20)))) ∧ f' 161 = .inl (.byte, 1500, fun j => .int (rG xs L m k g j)) ∧ ∀ z, ¬ z = 160 → ¬ z = 161 → f' z = f z
  | _, _, 0, _, _, _, h, _, _, _ => by omega
  | 0, k, M + 1, f, g, e, _, O, h1, h2 => by
    obtain ⟨f', e1, e2, e3⟩ := mo_p (us := us) (v := .int (nI (L + 20))) O (show 1311 ≤ n by omega) (show 2 < 53 by decide)
    refine ⟨f', ?_, e2, (e3 _ (by decide)).trans h1, fun z z1 _ => e3 z z1⟩
    rw [loopK_succ, mfB_eq, if_pos (show (20 : Int32) ≤ nI k from nI_le (a := 20) (b := k) (by omega) (by omega)), mo_gI O (by omega) (by decide) b2, Option.bind_some, show (20 : Int32) = nI 20 from rfl, nI_ad2, e1, Option.bind_some, mo_gI e2 (by omega) (by decide) ub_self, Option.bind_some]
  | m + 1, k, M + 1, f, g, e, hM, O, h1, h2 => by
    obtain ⟨f', k1, k2, k3, k4'⟩ := mf_L hn ha b0 b2 hL m (k + 1) M (va_up f 161 (.inl (.byte, 1500, fun j => .int (upI g (L + k) (byt (xs (k / 4)) (zs k)) j)))) (upI g (L + k) (byt (xs (k / 4)) (zs k))) (by omega) (by omega) ((va_up_ne _ _ (by decide)).trans O) (va_up_self _ _ _) ((va_up_ne _ _ (by omega)).trans h2)
    refine ⟨f', ?_, k2, k3, fun z z1 z2 => (k4' z z1 z2).trans (va_up_ne _ _ z2)⟩
    have s0 := sB_of (s := (n, f, us)) (i := nI (L + k)) (x := byt (xs (k / 4)) (zs k)) h1 (by decide) (show 161 < n by omega) (nI_pos (by omega)) (by rw [nI_clamp (by omega)]; omega)
    rw [nI_clamp (by omega)] at s0
    have a0' := aI_of (s := (n, f, us)) (i := nI (k / 4)) h2 (by omega) (show a0 < n from ha) (nI_pos (by omega)) (by rw [nI_clamp (by omega)]; omega)
    rw [nI_clamp (by omega)] at a0'
    unfold byt zs at s0
    rw [k4 k (by omega)] at s0
    rw [loopK_succ, mfB_eq, if_neg (show ¬ (20 : Int32) ≤ nI k from nI_ge (b := 20) (by omega) (by decide)), mo_gR O (by omega) (by decide) b0, Option.bind_some, mo_gI O (by omega) (by decide) b2, Option.bind_some, k4 k (by omega), a0', Option.bind_some, nI_ad2, s0, Option.bind_some, ← nI_succ]
    unfold byt zs at k1
    rw [k4 k (by omega)] at k1
    exact k1
theorem rG_f20 : rG xs L 20 0 g = f20 g L (xs 0) (xs 1) (xs 2) (xs 3) (xs 4) := by
  unfold f20 f4
  simp only [rG]
  rw [show zs 0 = 24 by decide, show zs (0 + 1) = 16 by decide, show zs (0 + 1 + 1) = 8 by decide, show zs (0 + 1 + 1 + 1) = 0 by decide, show zs (0 + 1 + 1 + 1 + 1) = 24 by decide, show zs (0 + 1 + 1 + 1 + 1 + 1) = 16 by decide, show zs (0 + 1 + 1 + 1 + 1 + 1 + 1) = 8 by decide, show zs (0 + 1 + 1 + 1 + 1 + 1 + 1 + 1) = 0 by decide, show zs (0 + 1 + 1 + 1 + 1 + 1 + 1 + 1 + 1) = 24 by decide, show zs (0 + 1 + 1 + 1 + 1 + 1 + 1 + 1 + 1 + 1) = 16 by decide, show zs (0 + 1 + 1 + 1 + 1 + 1 + 1 + 1 + 1 + 1 + 1) = 8 by decide, show zs (0 + 1 + 1 + 1 + 1 + 1 + 1 + 1 + 1 + 1 + 1 + 1) = 0 by decide, show zs (0 + 1 + 1 + 1 + 1 + 1 + 1 + 1 + 1 + 1 + 1 + 1 + 1) = 24 by decide, show zs (0 + 1 + 1 + 1 + 1 + 1 + 1 + 1 + 1 + 1 + 1 + 1 + 1 + 1) = 16 by decide, show zs (0 + 1 + 1 + 1 + 1 + 1 + 1 + 1 + 1 + 1 + 1 + 1 + 1 + 1 + 1) = 8 by decide, show zs (0 + 1 + 1 + 1 + 1 + 1 + 1 + 1 + 1 + 1 + 1 + 1 + 1 + 1 + 1 + 1) = 0 by decide, show zs (0 + 1 + 1 + 1 + 1 + 1 + 1 + 1 + 1 + 1 + 1 + 1 + 1 + 1 + 1 + 1 + 1) = 24 by decide, show zs (0 + 1 + 1 + 1 + 1 + 1 + 1 + 1 + 1 + 1 + 1 + 1 + 1 + 1 + 1 + 1 + 1 + 1) = 16 by decide, show zs (0 + 1 + 1 + 1 + 1 + 1 + 1 + 1 + 1 + 1 + 1 + 1 + 1 + 1 + 1 + 1 + 1 + 1 + 1) = 8 by decide, show zs (0 + 1 + 1 + 1 + 1 + 1 + 1 + 1 + 1 + 1 + 1 + 1 + 1 + 1 + 1 + 1 + 1 + 1 + 1 + 1) = 0 by decide]
  rfl
theorem newI5 : newA (n, f, us) .int 5 = some (n + 1, va_up f n (.inl (.int, 5, fun _ => .int 0)), us + 5) := rfl
theorem e_feedR (hn : 1311 ≤ n) (O : OM f b) (b0 : b 0 = .ref 161) (b2 : b 2 = .int (nI L)) (ht : f 161 = .inl (.byte, 1500, fun j => .int (g j))) (hL : L ≤ 1500) : (¬ L + 20 ≤ 1500 ∧ x_Mod_feed d 160 x1 x2 x3 x4 x5 (n, f, us) = some (-3, (n, f, us))) ∨ (L + 20 ≤ 1500 ∧ ∃ f', x_Mod_feed d 160 x1 x2 x3 x4 x5 (n, f, us) = some (nI (L + 20), (n + 1, f', us + 5)) ∧ OM f' (updV b 2 (.int (nI (L + 20)))) ∧ f' 161 = .inl (.byte, 1500, fun j => .int (f20 g L x1 x2 x3 x4 x5 j)) ∧ ∀ z, ¬ z = 160 → ¬ z = 161 → ¬ z = n → f' z = f z) := by
  unfold x_Mod_feed
  rw [mo_gd O hn, mo_gI O hn (by decide) b2, Option.bind_some]
  by_cases c : L + 20 ≤ 1500
  · refine Or.inr ⟨c, ?_⟩
    have up : ∀ (g : Nat → Int32) (i : Nat) (y : Int32) (F : Nat → am_C), i < 5 → F n = .inl (.int, 5, fun j => .int (g j)) → sV (n + 1, F, us + 5) .int n (nI i) (.int y) = some (n + 1, va_up F n (.inl (.int, 5, fun j => .int (upI g i y j))), us + 5) := fun g i y F hi hF => by
      have := sI_of (s := (n + 1, F, us + 5)) (i := nI i) (x := y) hF (by omega) (show n < n + 1 by omega) (nI_pos (by omega)) (by rw [nI_clamp (by omega)]; exact hi)
      rw [nI_clamp (by omega)] at this
      exact this
    obtain ⟨f', k1, k2, k3, k4⟩ := mf_L (xs := upI (upI (upI (upI (upI (fun _ => 0) 0 x1) 1 x2) 2 x3) 3 x4) 4 x5) (us := us + 5) (n := n + 1) hn (show n < n + 1 by omega) b0 b2 c 20 0 FU (va_up (va_up (va_up (va_up (va_up (va_up f n (.inl (.int, 5, fun _ => .int 0))) n (.inl (.int, 5, fun j => .int (upI (fun _ => 0) 0 x1 j)))) n (.inl (.int, 5, fun j => .int (upI (upI (fun _ => 0) 0 x1) 1 x2 j)))) n (.inl (.int, 5, fun j => .int (upI (upI (upI (fun _ => 0) 0 x1) 1 x2) 2 x3 j)))) n (.inl (.int, 5, fun j => .int (upI (upI (upI (upI (fun _ => 0) 0 x1) 1 x2) 2 x3) 3 x4 j)))) n (.inl (.int, 5, fun j => .int (upI (upI (upI (upI (upI (fun _ => 0) 0 x1) 1 x2) 2 x3) 3 x4) 4 x5 j)))) g rfl (by rw [FU_eq]; omega) (by unfold OM; rw [va_up_ne _ _ (by omega), va_up_ne _ _ (by omega), va_up_ne _ _ (by omega), va_up_ne _ _ (by omega), va_up_ne _ _ (by omega), va_up_ne _ _ (by omega)]; exact O) (by rw [va_up_ne _ _ (by omega), va_up_ne _ _ (by omega), va_up_ne _ _ (by omega), va_up_ne _ _ (by omega), va_up_ne _ _ (by omega), va_up_ne _ _ (by omega)]; exact ht) (va_up_self _ _ _)
    refine ⟨f', ?_, k2, ?_, fun z z1 z2 z3 => by rw [k4 z z1 z2, va_up_ne _ _ z3, va_up_ne _ _ z3, va_up_ne _ _ z3, va_up_ne _ _ z3, va_up_ne _ _ z3, va_up_ne _ _ z3]⟩
    · rw [show (20 : Int32) = nI 20 from rfl, nI_ad2, if_pos (show nI (L + 20) ≤ 1500 from nI_le (a := L + 20) (b := 1500) c (by omega)), newI5, Option.bind_some]
      show (sV (n + 1, _, us + 5) .int n (nI 0) (.int x1)).bind _ = _
      rw [up (fun _ => 0) 0 x1 _ (by decide) (va_up_self _ _ _), Option.bind_some]
      show (sV (n + 1, _, us + 5) .int n (nI 1) (.int x2)).bind _ = _
      rw [up _ 1 x2 _ (by decide) (va_up_self _ _ _), Option.bind_some]
      show (sV (n + 1, _, us + 5) .int n (nI 2) (.int x3)).bind _ = _
      rw [up _ 2 x3 _ (by decide) (va_up_self _ _ _), Option.bind_some]
      show (sV (n + 1, _, us + 5) .int n (nI 3) (.int x4)).bind _ = _
      rw [up _ 3 x4 _ (by decide) (va_up_self _ _ _), Option.bind_some]
      show (sV (n + 1, _, us + 5) .int n (nI 4) (.int x5)).bind _ = _
      rw [up _ 4 x5 _ (by decide) (va_up_self _ _ _), Option.bind_some]
      exact k1
    · rw [rG_f20] at k3
      exact k3
  · refine Or.inl ⟨c, ?_⟩
    rw [show (20 : Int32) = nI 20 from rfl, nI_ad2, if_neg (show ¬ nI (L + 20) ≤ 1500 from fun w => absurd (nI_lt (a := 1500) (b := L + 20) (by omega) (by omega)) (Int32.not_lt.mpr w))]
theorem BG.fd {N : N3} {Nm : Nat} (h : BG c (n, f, us) L N Nm) : BG (c + 19) (n + 1, f', us + 5) (L + 20) N Nm := by
  have b1 : us + 24 * L ≤ 500 * c + 2 * (N.1 + N.2.1) + 4 * N.2.2 + 4 * Nm := h.1
  have b2 : 32 * n + 144 * L ≤ 41952 + 160 * c + 2 * (N.1 + N.2.1) + 32 * N.2.2 + Nm := h.2
  constructor
  · show us + 5 + 24 * (L + 20) ≤ 500 * (c + 19) + 2 * (N.1 + N.2.1) + 4 * N.2.2 + 4 * Nm
    omega
  · show 32 * (n + 1) + 144 * (L + 20) ≤ 41952 + 160 * (c + 19) + 2 * (N.1 + N.2.1) + 32 * N.2.2 + Nm
    omega
theorem BG.sh {N : N3} {Nm : Nat} (h : BG c (n, f, us) L N Nm) (hk : k ≤ L) : BG (c + 19) (n, f', us) k N Nm := by
  have b1 : us + 24 * L ≤ 500 * c + 2 * (N.1 + N.2.1) + 4 * N.2.2 + 4 * Nm := h.1
  have b2 : 32 * n + 144 * L ≤ 41952 + 160 * c + 2 * (N.1 + N.2.1) + 32 * N.2.2 + Nm := h.2
  constructor
  · show us + 24 * k ≤ 500 * (c + 19) + 2 * (N.1 + N.2.1) + 4 * N.2.2 + 4 * Nm
    omega
  · show 32 * n + 144 * k ≤ 41952 + 160 * (c + 19) + 2 * (N.1 + N.2.1) + 32 * N.2.2 + Nm
    omega
theorem INV.mono {c' : Nat} (h : INV c s) (hc : c ≤ c') : INV c' s := by
  obtain ⟨L, g, O, w, sb, bys, SS, FF, v, fu, om, ob, lg, Rn, Rs, WR, q0, ⟨I, N, hh, tt, Nm, st, rs, un, X, own, C, B⟩, K, Q⟩ := h
  exact ⟨L, g, O, w, sb, bys, SS, FF, v, fu, om, ob, lg, Rn, Rs, WR, q0, ⟨I, N, hh, tt, Nm, st, rs, un, X, own, C, B.mono hc⟩, K, Q⟩
theorem RKx.tape (h : RKx s b L g om ob nw w lg Rn Rs wr WR pn ps pp FF q0 fu X) : s.2.1 161 = .inl (.byte, 1500, fun j => .int (g j)) := h.2.1.1
theorem RKx.out (h : RKx s b L g om ob nw w lg Rn Rs wr WR pn ps pp FF q0 fu X) : s.2.1 162 = .inl (.byte, 600, fun j => .int (ob j)) := h.2.1.2.1
theorem RKx.rf (h : RKx s b L g om ob nw w lg Rn Rs wr WR pn ps pp FF q0 fu X) {y : Nat} (hk : (k, y) ∈ rfL) : b k = .ref y := h.1.2.2.1.rf hk
theorem J_feed (H : INV c s) : JM c s (x_Stow_feed (d + 1) 128 x1 x2 x3 x4 x5) (x_Mod_feed (d + 1) 160 x1 x2 x3 x4 x5) := by
  have H0 := H
  obtain ⟨L, g, O, w, sb, bys, SS, FF, v, fu, om, ob, lg, Rn, Rs, WR, q0, ⟨I, N, hh, tt, Nm, st, rs, un, X, own, C, B⟩, ⟨b, nw, wr, pn, ps, pp, X', R⟩, Q⟩ := H
  obtain ⟨n, f, us⟩ := s
  have hn : 1311 ≤ n := C.nn
  have hL := C.1.2.1
  rcases e_feedC (d := d) (us := us) (x1 := x1) (x2 := x2) (x3 := x3) (x4 := x4) (x5 := x5) hn C.1.1 C.tape hL with ⟨e, e1⟩ | ⟨e, f1, e1, e2, e3, e4⟩
  · rcases e_feedR (d := d + 1) (us := us) (x1 := x1) (x2 := x2) (x3 := x3) (x4 := x4) (x5 := x5) hn R.1.1 (R.rf (by decide)) R.1.2.2.1.2.2.2.1 R.tape hL with ⟨_, g1⟩ | ⟨e', _⟩
    · exact ⟨_, _, _, e1, g1, H0.mono (by omega)⟩
    · exact absurd e' e
  · have C1 : CKx (n, f1, us) (L + 20) (f20 g L x1 x2 x3 x4 x5) I N hh tt Nm O (w, sb, st, bys) rs SS un FF v fu X own := C.top (Nat.le_refl _) (fun z _ z1 z2 _ _ => e4 z z1 z2) e2 e e3 (f4_bt (f4_bt (f4_bt (f4_bt (f4_bt C.1.2.2))))) (C.2.2.1.1.keep (e4 _ (by decide) (by decide)) (e4 _ (by decide) (by decide))) C.2.2.1.2
    have R1 : RKx (n, f1, us) b L g om ob nw w lg Rn Rs wr WR pn ps pp FF q0 fu X' := R.keep (Nat.le_refl _) (fun z z1 z2 => e4 z (by omega) (by omega))
    rcases e_feedR (d := d + 1) (us := us) (x1 := x1) (x2 := x2) (x3 := x3) (x4 := x4) (x5 := x5) hn R1.1.1 (R1.rf (by decide)) R1.1.2.2.1.2.2.2.1 R1.tape hL with ⟨e', _⟩ | ⟨_, f2, g1, g2, g3, g4⟩
    · exact absurd e e'
    · refine ⟨_, _, _, e1, g1, L + 20, f20 g L x1 x2 x3 x4 x5, O, w, sb, bys, SS, FF, v, fu, om, ob, lg, Rn, Rs, WR, q0, ⟨I, N, hh, tt, Nm, st, rs, un, X, own, C1.keep (show n ≤ n + 1 by omega) (fun z z1 z2 => g4 z (by omega) (by omega) (by have z1 : z < n := z1; omega)), ?_⟩, ⟨updV b 2 (.int (nI (L + 20))), nw, wr, pn, ps, pp, X', R1.top (show n ≤ n + 1 by omega) g2 R1.1.2.2.1.u2 (R1.2.1.chg g3 ((g4 _ (by decide) (by decide) (by omega)).trans R1.out) (fun z z1 z2 _ => g4 z (by omega) (by omega) (by omega))) (fun z z1 z2 _ => g4 z (by omega) (by omega) (by omega))⟩, Q⟩
      exact B.fd
theorem i32_lt {a b : Int32} : a.toInt64 < b.toInt64 ↔ a < b := by
  rw [Int64.lt_iff_toInt_lt, Int32.lt_iff_toInt_lt, Int32.toInt_toInt64, Int32.toInt_toInt64]
theorem in_32 {a b x : Int32} : s_Mod_in x.toInt64 a.toInt64 b.toInt64 = if x < a ∨ b < x then 0 else 1 := by
  unfold s_Mod_in
  by_cases c : x < a
  · rw [if_pos (lc_lt.mpr (i32_lt.mpr c)), if_pos (Or.inl c)]
  · rw [if_neg (fun w => c (i32_lt.mp (lc_lt.mp w)))]
    by_cases c' : b < x
    · rw [if_pos (lc_gt.mpr (i32_lt.mpr c')), if_pos (Or.inr c')]
    · rw [if_neg (fun w => c' (i32_lt.mp (lc_gt.mp w))), if_neg (fun w => w.elim c c')]
theorem cl_lt (x : Int32) : x.toNatClampNeg < 2 ^ 31 := by
  have := Int32.toInt_lt x
  unfold Int32.toNatClampNeg
  omega
theorem J_end (H : INV c s) : JM c s (x_Stow_end (d + 1) 128 x) (x_Mod_end (d + 1) 160 x) := by
  have H0 := H
  obtain ⟨L, g, O, w, sb, bys, SS, FF, v, fu, om, ob, lg, Rn, Rs, WR, q0, ⟨I, N, hh, tt, Nm, st, rs, un, X, own, C, B⟩, ⟨b, nw, wr, pn, ps, pp, X', R⟩, Q⟩ := H
  obtain ⟨n, f, us⟩ := s
  have hn : 1311 ≤ n := C.nn
  have hL := C.1.2.1
  have c1 : c128 f L v fu := C.1.1
  by_cases h0 : x < 0
  · refine ⟨-1, (n, f, us), (n, f, us), ?_, ?_, H0.mono (by omega)⟩
    · unfold x_Stow_end
      rw [c1.lk hn, if_pos h0]
    · unfold x_Mod_end
      dsimp only
      rw [mo_gd R.1.1 hn, mo_gI R.1.1 hn (by decide) R.1.2.2.1.2.2.2.1, Option.bind_some, e_Mod_in, bnd_some, show (0 : Int64) = (0 : Int32).toInt64 from rfl, in_32, if_pos (show x < 0 ∨ nI L < x from Or.inl h0), if_pos rfl]
  · have ek := nI_back h0
    have hb := cl_lt x
    generalize x.toNatClampNeg = k at ek hb
    by_cases h1 : k ≤ L
    · have hk : x ≤ nI L := by rw [← ek]; exact nI_le h1 (by omega)
      obtain ⟨f1, e1, e2, e3⟩ := c1.p1 (us := us) (L' := k) hn
      have C1 : CKx (n, f1, us) k g I N hh tt Nm O (w, sb, st, bys) rs SS un FF v fu X own := C.top (Nat.le_refl _) (fun z _ z1 z2 _ _ => e3 z z1) e2 (by omega) ((e3 _ (by decide)).trans C.tape) C.1.2.2 (C.2.2.1.1.keep (e3 _ (by decide)) (e3 _ (by decide))) C.2.2.1.2
      have R1 : RKx (n, f1, us) b L g om ob nw w lg Rn Rs wr WR pn ps pp FF q0 fu X' := R.keep (Nat.le_refl _) (fun z z1 z2 => e3 z (by omega))
      obtain ⟨f2, g1, g2, g3⟩ := mo_p (us := us) (v := .int (nI k)) R1.1.1 hn (show 2 < 53 by decide)
      refine ⟨x, (n, f1, us), (n, f2, us), ?_, ?_, k, g, O, w, sb, bys, SS, FF, v, fu, om, ob, lg, Rn, Rs, WR, q0, ⟨I, N, hh, tt, Nm, st, rs, un, X, own, C1.keep (Nat.le_refl _) (fun z z1 z2 => g3 z (by omega)), ?_⟩, ⟨updV b 2 (.int (nI k)), nw, wr, pn, ps, pp, X', R1.top (Nat.le_refl _) g2 R1.1.2.2.1.u2 (R1.2.1.chg ((g3 _ (by decide)).trans R1.tape) ((g3 _ (by decide)).trans R1.out) (fun z z1 z2 _ => g3 z (by omega))) (fun z z1 z2 _ => g3 z (by omega))⟩, Q⟩
      · unfold x_Stow_end
        rw [c1.lk hn, if_neg h0, c1.gi hn, Option.bind_some, if_pos hk, ← ek, e1, Option.bind_some]
      · unfold x_Mod_end
        dsimp only
        rw [mo_gd R1.1.1 hn, mo_gI R1.1.1 hn (by decide) R1.1.2.2.1.2.2.2.1, Option.bind_some, e_Mod_in, bnd_some, show (0 : Int64) = (0 : Int32).toInt64 from rfl, in_32, if_neg (show ¬ (x < 0 ∨ nI L < x) from fun q => q.elim h0 (Int32.not_lt.mpr hk)), if_neg (by decide), ← ek, g1, Option.bind_some]
      · exact B.sh h1
    · have h2 : ¬ x ≤ nI L := by
        rw [← ek]
        exact nI_ge (by omega) hb
      refine ⟨-1, (n, f, us), (n, f, us), ?_, ?_, H0.mono (by omega)⟩
      · unfold x_Stow_end
        rw [c1.lk hn, if_neg h0, c1.gi hn, Option.bind_some, if_neg h2]
      · unfold x_Mod_end
        dsimp only
        rw [mo_gd R.1.1 hn, mo_gI R.1.1 hn (by decide) R.1.2.2.1.2.2.2.1, Option.bind_some, e_Mod_in, bnd_some, show (0 : Int64) = (0 : Int32).toInt64 from rfl, in_32, if_pos (show x < 0 ∨ nI L < x from Or.inr (Int32.not_le.mp h2)), if_pos rfl]
theorem OCc.sz (h : OCc f O) (hn : 1311 ≤ n) : x_Out_size d 130 (n, f, us) = some (nI O.1, (n, f, us)) := by
  unfold x_Out_size
  rw [gd_of (s := (n, f, us)) h.1 (by decide) (show 130 < n by omega), gI_of (s := (n, f, us)) (k := 1) (x := nI O.1) h.1 (by decide) (show 130 < n by omega) rfl, Option.bind_some]
theorem OCc.bt (h : OCc f O) (hn : 1311 ≤ n) (hO : O.1 ≤ 600) (hk : k < O.1) : x_Out_byteAt d 130 (nI k) (n, f, us) = some (O.2.2 k, (n, f, us)) := by
  have a0 := aB_of (s := (n, f, us)) (i := nI k) h.2 (by decide) (show 131 < n by omega) (nI_pos (by omega)) (by rw [nI_clamp (by omega)]; omega)
  rw [nI_clamp (by omega)] at a0
  unfold x_Out_byteAt
  rw [gd_of (s := (n, f, us)) h.1 (by decide) (show 130 < n by omega), if_neg (nI_pos (by omega)), gI_of (s := (n, f, us)) (k := 1) (x := nI O.1) h.1 (by decide) (show 130 < n by omega) rfl, Option.bind_some, if_neg (nI_ge hk (by omega)), gR_of (s := (n, f, us)) (k := 0) (x := 131) h.1 (by decide) (show 130 < n by omega) rfl, Option.bind_some, a0, Option.bind_some]
theorem by_255 : ∀ x, x < 128 → (nI x) &&& 255 = nI x := by decide +kernel
theorem J_octet (H : INV c s) : JM c s (x_Stow_octet (d + 1) 128 x) (x_Mod_octet (d + 1) 160 x) := by
  have H0 := H
  obtain ⟨L, g, O, w, sb, bys, SS, FF, v, fu, om, ob, lg, Rn, Rs, WR, q0, ⟨I, N, hh, tt, Nm, st, rs, un, X, own, C, B⟩, ⟨b, nw, wr, pn, ps, pp, X', R⟩, Q⟩ := H
  obtain ⟨n, f, us⟩ := s
  have hn : 1311 ≤ n := C.nn
  have c1 : c128 f L v fu := C.1.1
  obtain ⟨o1, o2, o3⟩ := Q.2.2.2.2.1
  have hO : OCc f O := C.2.2.1.1
  have m1 : nI O.1 - 1 < 0 ∨ nI O.1 - 1 = nI (O.1 - 1) := by
    by_cases e : O.1 = 0
    · rw [e]
      exact Or.inl (by decide)
    · exact Or.inr (by rw [show (1 : Int32) = nI 1 from rfl, nI_sub (by omega)])
  have en : (-1 : Int64) = (-1 : Int32).toInt64 := by decide
  by_cases h0 : x = -1
  · refine ⟨nI O.1, (n, f, us), (n, f, us), ?_, ?_, H0.mono (by omega)⟩
    · unfold x_Stow_octet
      dsimp only
      rw [c1.lk hn, if_pos h0, c1.gr hn (k := 2) rfl, Option.bind_some, hO.sz hn, bnd_some]
    · unfold x_Mod_octet
      dsimp only
      rw [mo_gd R.1.1 hn, mo_gI R.1.1 hn (by decide) R.1.2.2.1.2.2.2.2.1, Option.bind_some, e_Mod_in, bnd_some, en, in_32, o1, if_neg (show ¬ (x < -1 ∨ nI O.1 - 1 < x) from fun q => ?_), if_neg (by decide), if_neg (show ¬ 0 ≤ x by rw [h0]; decide), mo_gI R.1.1 hn (by decide) R.1.2.2.1.2.2.2.2.1, Option.bind_some, o1]
      rw [h0] at q
      rcases q with q | q
      · exact absurd q (by decide)
      · by_cases e : O.1 = 0
        · rw [e] at q
          exact absurd q (by decide)
        · rw [show (1 : Int32) = nI 1 from rfl, nI_sub (by omega)] at q
          exact absurd q (Int32.not_lt.mpr (Int32.le_trans (by decide) (nI_pos' (by omega))))
  · by_cases h1 : x < 0
    · refine ⟨-2, (n, f, us), (n, f, us), ?_, ?_, H0.mono (by omega)⟩
      · unfold x_Stow_octet
        dsimp only
        rw [c1.lk hn, if_neg h0, if_pos h1]
      · unfold x_Mod_octet
        dsimp only
        rw [mo_gd R.1.1 hn, mo_gI R.1.1 hn (by decide) R.1.2.2.1.2.2.2.2.1, Option.bind_some, e_Mod_in, bnd_some, en, in_32, if_pos (show x < -1 ∨ om - 1 < x from Or.inl ?_), if_pos rfl]
        have e1 : ¬ x.toInt = -1 := fun w => h0 (Int32.toInt_inj.mp (w.trans (by decide)))
        rw [Int32.lt_iff_toInt_lt] at h1 ⊢
        have e2 : (0 : Int32).toInt = 0 := by decide
        have e3 : (-1 : Int32).toInt = -1 := by decide
        omega
    · have ek := nI_back h1
      have hb := cl_lt x
      generalize x.toNatClampNeg = k at ek hb
      by_cases h2 : k < O.1
      · obtain ⟨p1, y, p2, p3⟩ := o3 k h2
        have a0 := aB_of (s := (n, f, us)) (i := nI k) R.out (by decide) (show 162 < n by omega) (nI_pos (by omega)) (by rw [nI_clamp (by omega)]; omega)
        rw [nI_clamp (by omega)] at a0
        refine ⟨O.2.2 k, (n, f, us), (n, f, us), ?_, ?_, H0.mono (by omega)⟩
        · unfold x_Stow_octet
          dsimp only
          rw [c1.lk hn, if_neg h0, if_neg h1, c1.gr hn (k := 2) rfl, Option.bind_some, hO.sz hn, bnd_some, ← ek, if_neg (nI_ge h2 (by omega)), c1.gr hn (k := 2) rfl, Option.bind_some, hO.bt hn o2 h2, bnd_some]
        · unfold x_Mod_octet
          dsimp only
          rw [mo_gd R.1.1 hn, mo_gI R.1.1 hn (by decide) R.1.2.2.1.2.2.2.2.1, Option.bind_some, e_Mod_in, bnd_some, en, in_32, if_neg (show ¬ (x < -1 ∨ om - 1 < x) from fun q => ?_), if_neg (by decide), if_pos (Int32.not_lt.mp h1), mo_gR R.1.1 hn (by decide) (R.rf (show (1, 162) ∈ rfL by decide)), Option.bind_some, ← ek, a0, Option.bind_some, ← p1, p3, by_255 y p2]
          rcases q with q | q
          · exact absurd (Int32.lt_of_lt_of_le q (by decide)) h1
          · rw [o1, ← ek, show (1 : Int32) = nI 1 from rfl, nI_sub (by omega)] at q
            exact absurd q (nI_nlt (by omega) (by omega))
      · refine ⟨-2, (n, f, us), (n, f, us), ?_, ?_, H0.mono (by omega)⟩
        · unfold x_Stow_octet
          dsimp only
          rw [c1.lk hn, if_neg h0, if_neg h1, c1.gr hn (k := 2) rfl, Option.bind_some, hO.sz hn, bnd_some, ← ek, if_pos (nI_le (by omega) hb)]
        · unfold x_Mod_octet
          dsimp only
          rw [mo_gd R.1.1 hn, mo_gI R.1.1 hn (by decide) R.1.2.2.1.2.2.2.2.1, Option.bind_some, e_Mod_in, bnd_some, en, in_32, if_pos (show x < -1 ∨ om - 1 < x from Or.inr ?_), if_pos rfl]
          rw [o1, ← ek]
          rcases m1 with m | m
          · exact Int32.lt_of_lt_of_le m (nI_pos' hb)
          · by_cases e : O.1 = 0
            · rw [e]
              exact Int32.lt_of_lt_of_le (by decide) (nI_pos' hb)
            · rw [m]
              exact nI_lt (by omega) hb
end
