def mcB (d : Nat) (x1 : Int32) : (Int32 × Int32 × HS → Option (Int32 × HS)) → Int32 × Int32 × HS → Option (Int32 × HS) := (fun (again10 : Int32 × Int32 × HS → Option (Int32 × HS)) (z10 : Int32 × Int32 × HS) => ((gI z10.2.2 160 14 34).bind fun v1 => (if v1 ≤ z10.1 then (x_Mod_crash_b51 d 160 z10.1 z10.2.2) else ((gR z10.2.2 160 14 33).bind fun v19 => ((aR "StowTongueModel$State" z10.2.2 v19 z10.1).bind fun v20 => ((gI z10.2.2 v20 13 11).bind fun v21 => (if x1 < (z10.2.1 + v21) then (x_Mod_crash_b51 d 160 z10.1 z10.2.2) else ((gR z10.2.2 160 14 33).bind fun v22 => ((aR "StowTongueModel$State" z10.2.2 v22 z10.1).bind fun v23 => ((gI z10.2.2 v23 13 11).bind fun v24 => (again10 ((z10.1 + 1), (z10.2.1 + v24), z10.2.2))))))))))))
theorem mcB_eq {d : Nat} {x1 : Int32} {y : Int32} {z : Int32} {s : HS} {ag : Int32 × Int32 × HS → Option (Int32 × HS)} : mcB d x1 ag (y, z, s) = ((gI s 160 14 34).bind fun v1 => (if v1 ≤ y then (x_Mod_crash_b51 d 160 y s) else ((gR s 160 14 33).bind fun v19 => ((aR "StowTongueModel$State" s v19 y).bind fun v20 => ((gI s v20 13 11).bind fun v21 => (if x1 < (z + v21) then (x_Mod_crash_b51 d 160 y s) else ((gR s 160 14 33).bind fun v22 => ((aR "StowTongueModel$State" s v22 y).bind fun v23 => ((gI s v23 13 11).bind fun v24 => (ag ((y + 1), (z + v24), s))))))))))) := rfl
def mcE (d : Nat) (l2 : Int32) (s : HS) : Option (Int32 × HS) := ((gR s 160 14 30).bind fun v3 => (if l2 = 0 then ((gR s 160 14 32).bind fun v4 => (x_Mod_crash_b111 d 160 l2 v3 v4 s)) else ((gR s 160 14 33).bind fun v12 => ((aR "StowTongueModel$State" s v12 (l2 - 1)).bind fun v13 => (x_Mod_crash_b111 d 160 l2 v3 v13 s)))))
def mc5 (d : Nat) (l2 : Int32) : (Int32 × HS → Option (Int32 × HS)) → Int32 × HS → Option (Int32 × HS) := (fun (again54 : Int32 × HS → Option (Int32 × HS)) (z54 : Int32 × HS) => ((gI z54.2 160 14 34).bind fun v2 => (if v2 ≤ z54.1 then (mcE d l2 z54.2) else ((gI z54.2 160 14 35).bind fun v14 => ((gR z54.2 160 14 33).bind fun v15 => ((aR "StowTongueModel$State" z54.2 v15 z54.1).bind fun v16 => ((gI z54.2 v16 13 11).bind fun v17 => ((pV z54.2 160 14 35 (.int (v14 - v17))).bind fun s18 => (again54 ((z54.1 + 1), s18))))))))))
theorem mc5_eq {d : Nat} {l2 : Int32} {z : Int32} {s : HS} {ag : Int32 × HS → Option (Int32 × HS)} : mc5 d l2 ag (z, s) = ((gI s 160 14 34).bind fun v2 => (if v2 ≤ z then (mcE d l2 s) else ((gI s 160 14 35).bind fun v14 => ((gR s 160 14 33).bind fun v15 => ((aR "StowTongueModel$State" s v15 z).bind fun v16 => ((gI s v16 13 11).bind fun v17 => ((pV s 160 14 35 (.int (v14 - v17))).bind fun s18 => (ag ((z + 1), s18))))))))) := rfl

/-! sync and crash on both sides -/
section
variable {s s' : HS} {b b' : Nat → Value} {c K L nw w q n us d k xx hh tt Nm : Nat} {g ob bys : Nat → Int32} {om lg lg' fu sb x l2 : Int32} {R Rn Rn' Rs Rs' Q : RS} {wr pn pn' ps ps' pq : Nat → Nat} {WR : Nat → RS} {pp : Nat → Nat → Nat} {FF FF' : Nat → FTb} {F : FTb} {q0 : VQ} {X : SWs} {f f' : Nat → am_C} {O : oS} {I : ID} {N : N3} {G : LGS} {rs : Nat → Nat} {SS : Nat → SC} {un : Nat → Nat → Nat} {v : V2} {own : Nat → Nat}
theorem RKx.ss (h : RKx s b L g om ob nw w lg Rn Rs wr WR pn ps pp FF q0 fu X) (hn : s.1 ≤ s'.1) (O : OM s'.2.1 b') (B : RBf b' L om nw 0 lg' fu X.2.2) (P : RPl s'.2.1 nw Rn' pn' (FF' 0)) (P' : RPl s'.2.1 221 Rs' ps' (FF' 0)) (hf : ∀ z, ¬ z = 160 → z ≤ 1310 → 160 ≤ z → (z < nw ∨ nw + 16 < z) → (z < 221 ∨ 237 < z) → s'.2.1 z = s.2.1 z) : RKx s' b' L g om ob nw 0 lg' Rn' Rs' wr WR pn' ps' pp FF' q0 fu X := by
  obtain ⟨⟨a1, a2, a3, a4, a5⟩, b1, c1, d1, ⟨Rw, e1⟩, ⟨f1, f2⟩, g1, h1⟩ := h
  have hp : ∀ z, 238 ≤ z → z ≤ 1310 → s'.2.1 z = s.2.1 z := fun z z1 z2 => hf z (by omega) z2 (by omega) (by omega) (by omega)
  exact ⟨⟨O, Nat.le_trans a2 hn, B, by omega, a5⟩, b1.keep (fun z z1 z2 z3 => hf z (by omega) (by omega) (by omega) (by omega) (by omega)), P, P', ⟨Rw, e1.keep (fun z z1 z2 => hf z (by omega) (by omega) (by omega) (by omega) (by omega))⟩, ⟨f1.keep (fun z z1 z2 => hp z z1 (by omega)), fun t ht => absurd ht (Nat.not_lt_zero _)⟩, g1.keep (hp 239 (by decide) (by decide)) (fun z z1 z2 => hp z (by omega) z2), h1.keep (fun z z1 z2 => hp z (by omega) (by omega))⟩
theorem RSt.up (h : RSt f q Q) (r : Nat) (R : RS) (D : q + 16 < r ∨ r + 16 < q) : RSt (HSt f r R) q Q := h.keep (fun z z1 z2 => HS_off (by omega))
theorem CL.wt (C : CL s G rs SS) : x_Log_waiting d 154 s = some (nI G.1, s) := by
  unfold x_Log_waiting
  rw [C.gd, C.gI, Option.bind_some]
theorem CL.se (C : CL s G rs SS) (hK : K ≤ G.1) : x_Log_settle (d + 1) 154 (nI K) s = some ((), (s.1, HG s.2.1 (seG K G), s.2.2)) := by
  have h8 := C.2.2.1
  have e := e_settle (d := d) (us := s.2.2) (f := s.2.1) C.2.1 hK (by omega) (fun j hj => C.2.2.2.2.2 (by omega) j (by omega)) C.stU
  rw [C.1] at e
  exact e
theorem J_sync (H : INV c s) : JM c s (x_Stow_sync (d + 2 + 1) 128) (x_Mod_sync (d + 2 + 1) 160) := by
  obtain ⟨L, g, O, w, sb, bys, SS, FF, v, fu, om, ob, lg, Rn, Rs, WR, q0, ⟨I, N, hh, tt, Nm, st, rs, un, X, own, C, B⟩, ⟨b, nw, wr, pn, ps, pp, X', R⟩, Q⟩ := H
  obtain ⟨n, f, us⟩ := s
  have hn : 1311 ≤ n := C.nn
  have c1 : c128 f L v fu := C.1.1
  have hw8 : w ≤ 8 := C.2.2.2.2.1.2.2.1
  have e0 := C.2.2.2.2.1.wt (d := d + 2)
  have e1 := C.2.2.2.2.1.se (d := d + 1) (K := w) (Nat.le_refl _)
  have C1 := C.nine.se (K := w) (Nat.le_refl w) (show w - w ≤ 8 by omega)
  have hf1 : ∀ z, 157 ≤ z → HG f (seG w (w, sb, st, bys)) z = f z := fun z hz => HG_off (by omega)
  have R1 : RKx (n, HG f (seG w (w, sb, st, bys)), us) b L g om ob nw w lg Rn Rs wr WR pn ps pp FF q0 fu X' := R.keep (Nat.le_refl _) (fun z z1 z2 => hf1 z (by omega))
  generalize hG : HG f (seG w (w, sb, st, bys)) = f1 at e1 C1 hf1 R1
  have hnw := R1.1.2.2.2.2
  have h12 := Q.1.2.2.1
  have e2 := st_copy (d := d) (us := us) (r := 221) (q := nw) (R := Rs) (Q := Rn) R1.2.2.2.1.1 (by decide) (by omega) R1.2.2.1.1 (by omega) (by omega) (by omega) (by decide) h12 Q.1.2.2.2.1 (R1.2.2.1.2.2.cds R1.2.2.2.2.2.2.1 hn)
  have M2 : OM (HSt f1 221 (cpR Rs Rn (SS w).2.2.2.2.2.2.1)) b := (HS_off (by omega)).trans R1.1.1
  obtain ⟨f3, m1, m2, m3⟩ := mo_p (us := us) (v := .int (nI 0)) M2 hn (show 34 < 53 by decide)
  have fr : ∀ z, ¬ z = 160 → (z < 221 ∨ 237 < z) → f3 z = f1 z := fun z z1 z2 => (m3 z z1).trans (HS_off (by omega))
  have po : ∀ z, 401 ≤ z → z ≤ 1310 → f3 z = f1 z := fun z z1 z2 => fr z (by omega) (by omega)
  have eF : rt10 w FF 0 = FF w := by
    unfold rt10
    rw [show (0 + w) % 10 = w by omega]
  have eS : rt10 w SS 0 = SS w := by
    unfold rt10
    rw [show (0 + w) % 10 = w by omega]
  have R3 : RKx (n, f3, us) (updV b 34 (.int (nI 0))) L g om ob nw 0 lg Rn (cpR Rs Rn (SS w).2.2.2.2.2.2.1) wr WR pn pn pp (rt10 w FF) q0 fu X' := by
    refine R1.ss (Nat.le_refl _) m2 R1.1.2.2.1.u34 ?_ ?_ (fun z z1 z2 z3 z4 z5 => fr z z1 z5)
    · rw [eF]
      exact R1.2.2.1.keep (fun z z1 z2 => fr z (by omega) (by omega)) po
    · rw [eF]
      exact ⟨RSt.mk.keep (fun z z1 z2 => m3 z (by omega)), (R1.2.2.1.2.1.keep2 po).cp, R1.2.2.1.2.2.cp⟩
  have w0 : (seG w (w, sb, st, bys)).1 = 0 := by
    rw [seG_w]
    exact Nat.sub_self w
  have sb0 : (seG w (w, sb, st, bys)).2.1 = sb + byS bys w 1 := seG_sb w (w, sb, st, bys) 0 (by omega)
  have m1' : pV (n, HSt f1 221 (cpR Rs Rn (SS w).2.2.2.2.2.2.1), us) 160 14 34 (.int 0) = some (n, f3, us) := m1
  have C3 := C1.keep (s' := (n, f3, us)) (Nat.le_refl _) (fun z z1 z2 => fr z (by omega) (by omega))
  generalize hS : seG w (w, sb, st, bys) = G3 at C3 w0 sb0
  obtain ⟨w3, sb3, st3, by3⟩ := G3
  have w1 : w3 = 0 := w0
  have sb1 : sb3 = sb + byS bys w 1 := sb0
  subst w1
  refine ⟨nI w, (n, f1, us), (n, f3, us), ?_, ?_, L, g, O, 0, sb3, by3, rt10 w SS, rt10 w FF, v, fu, om, ob, lg, Rn, _, WR, q0, ⟨I, N, hh, tt, Nm, st3, rt10 w rs, rt10 w un, X, own, C3, (show BG c (n, f3, us) L N Nm from B).mono (by omega)⟩, ⟨_, nw, wr, pn, pn, pp, X', R3⟩, ?_, ?_, fun t ht => absurd ht (Nat.not_lt_zero _), ?_, Q.2.2.2.2⟩
  · unfold x_Stow_sync
    dsimp only
    rw [c1.lk hn, c1.gr hn (k := 5) rfl, Option.bind_some, e0, bnd_some, c1.gr hn (k := 5) rfl, Option.bind_some]
    show bnd (x_Log_settle (d + 1 + 1) 154 (nI w) (n, f, us)) _ = _
    rw [e1, bnd_some]
  · unfold x_Mod_sync
    dsimp only
    rw [mo_gd R1.1.1 hn, mo_gI R1.1.1 hn (by decide) R1.1.2.2.1.2.2.2.2.2.2.2.1, Option.bind_some, mo_gR R1.1.1 hn (by decide) (R1.rf (show (32, 221) ∈ rfL by decide)), Option.bind_some, mo_gR R1.1.1 hn (by decide) R1.1.2.2.1.2.2.2.2.2.1, Option.bind_some, e2, bnd_some, m1', Option.bind_some]
  · rw [eS]
    exact Q.1
  · rw [eS]
    exact Q.1.ccR rfl
  · rw [sb1, Q.2.2.2.1, byS, Int32.add_zero]
theorem RSt.gB (h : RSt f q Q) (h1 : 128 ≤ q) (h2 : q + 16 < n) : gI (n, f, us) q 13 11 = some (rBy Q) := by
  have c0 : f q = _ := (congrFun h.eq q).trans HS_0
  exact gI_of (s := (n, f, us)) (k := 11) c0 h1 (show q < n by omega) rfl
theorem mc_L (hn : 1311 ≤ n) (M : OM f b) (b33 : b 33 = .ref 238) (b34 : b 34 = .int (nI w)) (hw : w ≤ 8) (W : W8 f wr WR) (hB : ∀ t, t < w → ∃ y, y ≤ 1000000 ∧ bys (t + 1) = nI y ∧ rBy (WR t) = nI y) (hx : xx < 2 ^ 31) : ∀ m i M a, i + m = w → m < M → a ≤ xx → a ≤ 1000000 * i → loopK (mcB d (nI xx)) M (nI i, nI a, (n, f, us)) = x_Mod_crash_b51 d 160 (nI (wwS bys m (i + 1) (nI (xx - a)))) (n, f, us)
  | _, _, 0, _, _, h, _, _ => by omega
  | 0, i, K + 1, a, e, _, _, _ => by
    rw [loopK_succ, mcB_eq, mo_gI M hn (by decide) b34, Option.bind_some, if_pos (nI_le (by omega) (by omega)), wwS, Nat.add_sub_cancel]
  | m + 1, i, K + 1, a, e, hK, ha, h1 => by
    obtain ⟨y, y1, y2, y3⟩ := hB i (by omega)
    obtain ⟨w1, w2, w3⟩ := W.2.1 i (by omega)
    have g11 := w1.gB (n := n) (us := us) (by omega) (by omega)
    rw [loopK_succ, mcB_eq, mo_gI M hn (by decide) b34, Option.bind_some, if_neg (nI_ge (by omega) (by omega)), mo_gR M hn (by decide) b33, Option.bind_some, W.ar hn (by omega), Option.bind_some, g11, Option.bind_some, y3, nI_ad2, wwS, y2]
    by_cases c : a + y ≤ xx
    · rw [if_neg (nI_nlt c (by omega)), Option.bind_some, W.ar hn (by omega), Option.bind_some, g11, Option.bind_some, y3, nI_ad2, if_pos (nI_le (show y ≤ xx - a by omega) (by omega)), nI_sub (by omega), ← nI_succ, show xx - a - y = xx - (a + y) by omega]
      exact mc_L hn M b33 b34 hw W hB hx m (i + 1) K (a + y) (by omega) (by omega) c (by omega)
    · rw [if_pos (nI_lt (by omega) (by omega)), if_neg (nI_ge (by omega) (by omega)), Nat.add_sub_cancel]
theorem mc5_L (hn : 1311 ≤ n) (b33 : b 33 = .ref 238) (b34 : b 34 = .int (nI w)) (hw : w ≤ 8) (hB : ∀ t, t < w → ∃ y, y ≤ 1000000 ∧ bys (t + 1) = nI y ∧ rBy (WR t) = nI y) : ∀ m i M (f : Nat → am_C) (lg : Int32), i + m = w → m < M → OM f (updV b 35 (.int lg)) → W8 f wr WR → ∃ f', loopK (mc5 d l2) M (nI i, (n, f, us)) = mcE d l2 (n, f', us) ∧ OM f' (updV b 35 (.int (lg - byS bys m (i + 1)))) ∧ ∀ z, ¬ z = 160 → f' z = f z
  | _, _, 0, _, _, _, h, _, _ => by omega
  | 0, i, K + 1, f, lg, e, _, M, W => by
    refine ⟨f, ?_, ?_, fun _ _ => rfl⟩
    · rw [loopK_succ, mc5_eq, mo_gI M hn (by decide) ((ub_ne (by decide)).trans b34), Option.bind_some, if_pos (nI_le (by omega) (by omega))]
    · rw [byS, Int32.sub_zero]
      exact M
  | m + 1, i, K + 1, f, lg, e, hK, M, W => by
    obtain ⟨y, y1, y2, y3⟩ := hB i (by omega)
    obtain ⟨w1, w2, w3⟩ := W.2.1 i (by omega)
    have g11 := w1.gB (n := n) (us := us) (by omega) (by omega)
    obtain ⟨f1, m1, m2, m3⟩ := mo_p (us := us) (v := .int (lg - nI y)) M hn (show 35 < 53 by decide)
    rw [ub_ub] at m2
    obtain ⟨f2, k1, k2, k3⟩ := mc5_L hn b33 b34 hw hB m (i + 1) K f1 (lg - nI y) (by omega) (by omega) m2 (W.keep (fun z z1 z2 => m3 z (by omega)))
    refine ⟨f2, ?_, ?_, fun z hz => (k3 z hz).trans (m3 z hz)⟩
    · rw [loopK_succ, mc5_eq, mo_gI M hn (by decide) ((ub_ne (by decide)).trans b34), Option.bind_some, if_neg (nI_ge (by omega) (by omega)), mo_gI M hn (by decide) ub_self, Option.bind_some, mo_gR M hn (by decide) ((ub_ne (by decide)).trans b33), Option.bind_some, W.ar hn (by omega), Option.bind_some, g11, Option.bind_some, y3, m1, Option.bind_some, ← nI_succ]
      exact k1
    · rw [byS, y2, show lg - (nI y + byS bys m (i + 1 + 1)) = lg - nI y - byS bys m (i + 1 + 1) by grind]
      exact k2
theorem e_b111 (h : RKx (n, f, us) b L g om ob nw w lg Rn Rs wr WR pn ps pp FF q0 fu X) (hQ : RSt f q Q) (h1 : q = 221 ∨ (265 ≤ q ∧ q + 16 ≤ 400)) (T : RTb f Q pq (FF' 0)) (D : CDq Q) (hk : k ≤ 12) (ek : Q.2.2.2.2.2.2.2.2.2.1 = nI k) : ∃ f', x_Mod_crash_b111 (d + 2) 160 l2 nw q (n, f, us) = some (l2, (n, f', us)) ∧ RKx (n, f', us) (updV b 34 (.int (nI 0))) L g om ob nw 0 lg (cpR Rn Q k) (cpR Rs (cpR Rn Q k) k) wr WR pq pq pp FF' q0 fu X ∧ ∀ z, (z < 160 ∨ 1310 < z) → f' z = f z := by
  have hn : 1311 ≤ n := h.1.2.1
  have hnw := h.1.2.2.2.2
  have e1 := st_copy (d := d) (us := us) (r := nw) (q := q) (R := Rn) (Q := Q) h.2.2.1.1 (by omega) (by omega) hQ (by omega) (by omega) (by omega) (by omega) hk ek (D.cds h.2.2.2.2.2.2.1 hn)
  have off : ∀ z, (z < nw ∨ nw + 16 < z) → HSt f nw (cpR Rn Q k) z = f z := fun z hz => HS_off hz
  have P1 : PLh (HSt f nw (cpR Rn Q k)) := h.2.2.2.2.2.2.1.keep (off _ (by omega)) (fun z z1 z2 => off z (by omega))
  have S1 : RSt (HSt f nw (cpR Rn Q k)) 221 Rs := h.2.2.2.1.1.up nw _ (by omega)
  have M1 : OM (HSt f nw (cpR Rn Q k)) b := (off _ (by omega)).trans h.1.1
  have N1 : RSt (HSt f nw (cpR Rn Q k)) nw (cpR Rn Q k) := RSt.mk
  generalize hF : HSt f nw (cpR Rn Q k) = f1 at e1 off P1 S1 M1 N1
  have e2 := st_copy (d := d) (us := us) (r := 221) (q := nw) (R := Rs) (Q := cpR Rn Q k) S1 (by decide) (by omega) N1 (by omega) (by omega) (by omega) (by decide) hk ek (D.cp.cds (s := (n, f1, us)) P1 hn)
  have M2 : OM (HSt f1 221 (cpR Rs (cpR Rn Q k) k)) b := (HS_off (by omega)).trans M1
  obtain ⟨f3, m1, m2, m3⟩ := mo_p (us := us) (v := .int (nI 0)) M2 hn (show 34 < 53 by decide)
  have m1' : pV (n, HSt f1 221 (cpR Rs (cpR Rn Q k) k), us) 160 14 34 (.int 0) = some (n, f3, us) := m1
  have fr1 : ∀ z, ¬ z = 160 → (z < 221 ∨ 237 < z) → f3 z = f1 z := fun z z1 z2 => (m3 z z1).trans (HS_off (by omega))
  have po : ∀ z, 401 ≤ z → z ≤ 1310 → f3 z = f z := fun z z1 z2 => (fr1 z (by omega) (by omega)).trans (off z (by omega))
  refine ⟨f3, ?_, ?_, fun z hz => (fr1 z (by omega) (by omega)).trans (off z (by omega))⟩
  · unfold x_Mod_crash_b111
    rw [e1, bnd_some, mo_gR M1 hn (by decide) (h.rf (show (32, 221) ∈ rfL by decide)), Option.bind_some, mo_gR M1 hn (by decide) h.1.2.2.1.2.2.2.2.2.1, Option.bind_some, e2, bnd_some, m1', Option.bind_some]
  · exact h.ss (Nat.le_refl _) m2 h.1.2.2.1.u34 ⟨N1.keep (fun z z1 z2 => fr1 z (by omega) (by omega)), (T.keep2 po).cp, D.cp⟩ ⟨RSt.mk.keep (fun z z1 z2 => m3 z (by omega)), (T.keep2 po).cp.cp, D.cp.cp⟩ (fun z z1 z2 z3 z4 z5 => (fr1 z z1 z5).trans (off z z4))
theorem CL.lw (C : CL s G rs SS) : x_Log_loseWaiting d 154 s = some ((), (s.1, HG s.2.1 (0, G.2), s.2.2)) := by
  have c4 : s.2.1 154 = _ := (congrFun C.1 154).symm.trans (HG_4 _ _)
  have e := pV_of (s := s) (k := 2) (v := .int 0) c4 (by decide) (show 154 < s.1 by have := C.2.1; omega) (by show 2 < 4; decide)
  unfold x_Log_loseWaiting
  rw [C.gd, e, Option.bind_some]
  have e2 := HGu_4 (f := s.2.1) (G := G) (w := 0) (sb := G.2.1)
  rw [C.1] at e2
  rw [← e2]
  rfl
theorem byS_cut (b : Nat → Int32) : ∀ k m i, byS b (k + m) i = byS b k i + byS b m (i + k)
  | 0, m, i => by
    rw [Nat.zero_add, byS, Int32.zero_add, Nat.add_zero]
  | k + 1, m, i => by
    rw [show k + 1 + m = (k + m) + 1 by omega, byS, byS, byS_cut b k m (i + 1), Int32.add_assoc, show i + 1 + k = i + (k + 1) by omega]
theorem J_crash (H : INV c s) : JM c s (x_Stow_crash (d + 2 + 1) 128 x) (x_Mod_crash (d + 2 + 1) 160 x) := by
  have H0 := H
  obtain ⟨L, g, O, w, sb, bys, SS, FF, v, fu, om, ob, lg, Rn, Rs, WR, q0, ⟨I, N, hh, tt, Nm, st, rs, un, X, own, C, B⟩, ⟨b, nw, wr, pn, ps, pp, X', R⟩, Q⟩ := H
  obtain ⟨n, f, us⟩ := s
  have hn : 1311 ≤ n := C.nn
  have c1 : c128 f L v fu := C.1.1
  have hw8 : w ≤ 8 := C.2.2.2.2.1.2.2.1
  by_cases hx : 0 ≤ x
  · have ex := nI_back (Int32.not_lt.mpr hx)
    have hxb := cl_lt x
    generalize x.toNatClampNeg = xx at ex hxb
    subst ex
    have e0 := e_whole (d := d + 2) (us := us) (f := f) (G := (w, sb, st, bys)) (v := nI xx) hn (show w ≤ 9 by omega)
    have C0 := C.2.2.2.2.1
    have hg : HG f (w, sb, st, bys) = f := C0.1
    rw [hg] at e0
    replace e0 : x_Log_wholeWithin (d + 2) 154 (nI xx) (n, f, us) = some (nI (wwS bys w 1 (nI xx)), (n, f, us)) := e0
    have hK := wwS_le bys w 1 (nI xx) (by decide)
    have ml := fun (f' : Nat → am_C) M b33 b34 W => mc_L (d := d + 2) (us := us) (f := f') (b := b) (bys := bys) (wr := wr) (WR := WR) hn M b33 b34 hw8 W (fun t ht => (Q.2.2.1 t ht).2) hxb w 0 FU 0 (by omega) (by rw [FU_eq]; omega) (Nat.zero_le _) (Nat.zero_le _)
    rw [Nat.sub_zero, Nat.zero_add] at ml
    generalize wwS bys w 1 (nI xx) = K at e0 hK ml
    have hK : K ≤ w := by omega
    have e1 := C0.se (d := d + 1) (K := K) hK
    have C1 := C.nine.se (K := K) hK (show w - K ≤ 8 by omega)
    have e2 := C1.2.2.2.2.1.lw (d := d + 2)
    have C2 := C1.nine.hg (G' := (0, (seG K (w, sb, st, bys)).2)) (rs' := rt10 K rs) (SS' := rt10 K SS) (un' := rt10 K un) (FF' := rt10 K FF) (Nat.zero_le _) (fun p hp => ⟨p, hp, rfl, rfl, rfl⟩) C1.2.2.2.2.1.2.2.2.2.1 (fun h1 => absurd (show 1 ≤ 0 from h1) (by decide)) (fun p hp => C1.2.2.2.2.2.1 p (Nat.le_trans hp (Nat.zero_le _)))
    replace e1 : x_Log_settle (d + 2) 154 (nI K) (n, f, us) = some ((), (n, HG f (seG K (w, sb, st, bys)), us)) := e1
    replace e2 : x_Log_loseWaiting (d + 2) 154 (n, HG f (seG K (w, sb, st, bys)), us) = some ((), (n, HG (HG f (seG K (w, sb, st, bys))) (0, (seG K (w, sb, st, bys)).2), us)) := e2
    have c2 : c128 (HG f (seG K (w, sb, st, bys))) L v fu := C1.1.1
    have hf1 : ∀ z, 157 ≤ z → HG (HG f (seG K (w, sb, st, bys))) (0, (seG K (w, sb, st, bys)).2) z = f z := fun z hz => (HG_off (by omega)).trans (HG_off (by omega))
    have C3 := C2.ex (Nat.zero_le _)
    have sb0 : (seG K (w, sb, st, bys)).2.1 = sb + byS bys K 1 := seG_sb K (w, sb, st, bys) 0 (by omega)
    have hc : x_Stow_crash (d + 2 + 1) 128 (nI xx) (n, f, us) = some (nI K, (n, HG (HG f (seG K (w, sb, st, bys))) (0, (seG K (w, sb, st, bys)).2), us)) := by
      unfold x_Stow_crash
      dsimp only
      rw [c1.lk hn, if_pos hx, c1.gr hn (k := 5) rfl, Option.bind_some, e0, bnd_some, c1.gr hn (k := 5) rfl, Option.bind_some, e1, bnd_some, c2.gr hn (k := 5) rfl, Option.bind_some, e2, bnd_some]
    replace C3 : CKx (n, HG (HG f (seG K (w, sb, st, bys))) (0, (seG K (w, sb, st, bys)).2), us) L g I N hh tt Nm O (0, (seG K (w, sb, st, bys)).2.1, (seG K (w, sb, st, bys)).2.2.1, (seG K (w, sb, st, bys)).2.2.2) (rt10 K rs) (rt10 K SS) (rt10 K un) (rt10 K FF) v fu X own := C3
    generalize HG (HG f (seG K (w, sb, st, bys))) (0, (seG K (w, sb, st, bys)).2) = f1 at hf1 C3 hc
    have R1 : RKx (n, f1, us) b L g om ob nw w lg Rn Rs wr WR pn ps pp FF q0 fu X' := R.keep (Nat.le_refl _) (fun z z1 z2 => hf1 z (by omega))
    have b33 : b 33 = .ref 238 := R1.rf (by decide)
    have b34 : b 34 = .int (nI w) := R1.1.2.2.1.2.2.2.2.2.2.2.1
    have b35 : b 35 = .int lg := R1.1.2.2.1.2.2.2.2.2.2.2.2.1
    have W := R1.2.2.2.2.2.1.1
    obtain ⟨f2, k1, k2, k3⟩ := mc5_L (d := d + 2) (us := us) (l2 := nI K) (b := b) (bys := bys) hn b33 b34 hw8 (fun t ht => (Q.2.2.1 t ht).2) (w - K) K FU f1 lg (by omega) (by rw [FU_eq]; omega) (by rw [ub_id b35]; exact R1.1.1) W
    have R2 : RKx (n, f2, us) (updV b 35 (.int (lg - byS bys (w - K) (K + 1)))) L g om ob nw w (lg - byS bys (w - K) (K + 1)) Rn Rs wr WR pn ps pp FF q0 fu X' := by
      obtain ⟨⟨a1, a2, a3, a4, a5⟩, x1, y1, z1, ⟨Rw, u1⟩, ⟨v1, v2⟩, t1, t2⟩ := R1
      have hz : ∀ z, 161 ≤ z → f2 z = f1 z := fun z hz => k3 z (by omega)
      exact ⟨⟨k2, a2, a3.u35, a4, a5⟩, x1.keep (fun z z1 _ _ => hz z z1), y1.keep (fun z z1 _ => hz z (by omega)) (fun z z1 _ => hz z (by omega)), z1.keep (fun z z1 _ => hz z (by omega)) (fun z z1 _ => hz z (by omega)), ⟨Rw, u1.keep (fun z z1 _ => hz z (by omega))⟩, ⟨v1.keep (fun z z1 _ => hz z (by omega)), fun t ht => ⟨(v2 t ht).1.keep2 (fun z z1 _ => hz z (by omega)), (v2 t ht).2⟩⟩, t1.keep (hz _ (by decide)) (fun z z1 _ => hz z (by omega)), t2.keep (fun z z1 _ => hz z (by omega))⟩
    have eF : rt10 K FF 0 = FF K := by
      unfold rt10
      rw [show (0 + K) % 10 = K by omega]
    have eS : rt10 K SS 0 = SS K := by
      unfold rt10
      rw [show (0 + K) % 10 = K by omega]
    have hl : lg - byS bys (w - K) (K + 1) = (seG K (w, sb, st, bys)).2.1 + byS (seG K (w, sb, st, bys)).2.2.2 0 1 := by
      have e3 := byS_cut bys K (w - K) 1
      rw [show K + (w - K) = w by omega, show 1 + K = K + 1 by omega] at e3
      rw [Q.2.2.2.1, sb0, e3, byS]
      grind
    have src : ∃ (q : Nat) (Qs : RS) (pq : Nat → Nat), mcE (d + 2) (nI K) (n, f2, us) = x_Mod_crash_b111 (d + 2) 160 (nI K) nw q (n, f2, us) ∧ RSt f2 q Qs ∧ (q = 221 ∨ (265 ≤ q ∧ q + 16 ≤ 400)) ∧ RTb f2 Qs pq (FF K) ∧ CDq Qs ∧ SR (SS K) Qs := by
      have M2 : OM f2 (updV b 35 (.int (lg - byS bys (w - K) (K + 1)))) := R2.1.1
      by_cases c0 : K = 0
      · refine ⟨221, Rs, ps, ?_, R2.2.2.2.1.1, Or.inl rfl, by rw [c0]; exact R2.2.2.2.1.2.1, R2.2.2.2.1.2.2, by rw [c0]; exact Q.2.1⟩
        unfold mcE
        rw [mo_gR M2 hn (by decide) R2.1.2.2.1.2.2.2.2.2.1, Option.bind_some, if_pos (by rw [c0]; rfl), mo_gR M2 hn (by decide) (R2.rf (show (32, 221) ∈ rfL by decide)), Option.bind_some]
      · obtain ⟨W1, W2⟩ := R2.2.2.2.2.2.1
        obtain ⟨v1, v2, v3⟩ := W1.2.1 (K - 1) (by omega)
        obtain ⟨t1, t2⟩ := W2 (K - 1) (by omega)
        have q1 := (Q.2.2.1 (K - 1) (by omega)).1
        rw [show K - 1 + 1 = K by omega] at t1 q1
        refine ⟨wr (K - 1), WR (K - 1), pp (K - 1), ?_, v1, Or.inr ⟨v2, v3⟩, t1, t2, q1⟩
        unfold mcE
        rw [mo_gR M2 hn (by decide) R2.1.2.2.1.2.2.2.2.2.1, Option.bind_some, if_neg (nI_nz (by omega) (by omega)), mo_gR M2 hn (by decide) (R2.rf (show (33, 238) ∈ rfL by decide)), Option.bind_some, show (1 : Int32) = nI 1 from rfl, nI_sub (by omega), W1.ar hn (by omega), Option.bind_some]
    obtain ⟨q, Qs, pq, s1, s2, s3, s4, s5, s6⟩ := src
    obtain ⟨f3, t1, t2, t3⟩ := e_b111 (d := d) (l2 := nI K) (FF' := rt10 K FF) (k := (SS K).2.2.2.2.2.2.1) R2 s2 s3 (by rw [eF]; exact s4) s5 s6.2.2.1 s6.2.2.2.1
    refine ⟨nI K, (n, f1, us), (n, f3, us), hc, ?_, L, g, O, 0, _, _, rt10 K SS, rt10 K FF, v, fu, om, ob, _, _, _, WR, q0, ⟨I, N, hh, tt, Nm, _, rt10 K rs, rt10 K un, X, own, C3.keep (Nat.le_refl _) (fun z z1 z2 => (t3 z z2).trans (k3 z (by omega))), (show BG c (n, f3, us) L N Nm from B).mono (by omega)⟩, ⟨_, nw, wr, pq, pq, pp, X', t2⟩, ?_, ?_, fun t ht => absurd ht (Nat.not_lt_zero _), hl, Q.2.2.2.2⟩
    · unfold x_Mod_crash
      dsimp only
      rw [mo_gd R1.1.1 hn, if_pos hx]
      refine (ml f1 R1.1.1 b33 b34 W).trans ?_
      show loopK (mc5 (d + 2) (nI K)) FU (nI K, (n, f1, us)) = _
      rw [k1, s1, t1]
    · rw [eS]
      exact s6.ccR rfl
    · rw [eS]
      exact (s6.ccR rfl).ccR rfl
  · refine ⟨-1, (n, f, us), (n, f, us), ?_, ?_, H0.mono (by omega)⟩
    · unfold x_Stow_crash
      dsimp only
      rw [c1.lk hn, if_neg hx]
    · unfold x_Mod_crash
      dsimp only
      rw [mo_gd R.1.1 hn, if_neg hx]
end
