def mrQ (d : Nat) (s : HS) : Option (Int32 × HS) := (bnd (x_Mod_tellFunctions d 160 s) fun v17 s16 => (if v17 = 0 then (bnd (x_Mod_go_ d 160 s16) fun v19 s18 => (x_Mod_run_b81 d 160 v19 s18)) else (x_Mod_run_b81 d 160 v17 s16)))
def mrP (d : Nat) (x1 : Int32) (s : HS) : Option (Int32 × HS) := ((pV s 160 14 3 (.int 0)).bind fun s6 => ((gR s6 160 14 39).bind fun v7 => (bnd (x_Vals_set d v7 0 0 0 0 0 s6) fun v9 s8 => ((pV s8 160 14 43 (.int x1)).bind fun s10 => ((pV s10 160 14 44 (.int 0)).bind fun s11 => ((gR s11 160 14 31).bind fun v12 => ((gR s11 160 14 30).bind fun v13 => (bnd (x_State_copy d v12 v13 s11) fun v15 s14 => (mrQ d s14)))))))))

/-! the reference's run: what is laid ready, and the machine's cells -/
section
variable {s s' : HS} {b b' : Nat → Value} {L nw w n us d k sw r F : Nat} {g ob ob' : Nat → Int32} {om om' lg fu x : Int32} {R R' Rn Rs Rw : RS} {wr pn ps pw : Nat → Nat} {WR : Nat → RS} {pp : Nat → Nat → Nat} {FF : Nat → FTb} {q0 q0' : VQ} {X : SWs} {f f' : Nat → am_C}
theorem RBf.u43 {y : Int32} (h : RBf b L om nw w lg fu sw) : RBf (updV b 43 (.int y)) L om nw w lg fu sw := by
  refine ⟨fun p hp => (ub_ne (rf_ne p hp).2.2.2.2.2.2.1).trans (h.1 p hp), fun k hk => ?_, h.2.2.1, h.2.2.2⟩
  by_cases e : k = 43
  · exact ⟨y, by rw [e]; exact ub_self⟩
  · exact ⟨(h.2.1 k hk).choose, (ub_ne e).trans (h.2.1 k hk).choose_spec⟩
/-- given0 is set -/
theorem RCl.val {q' : Nat → VQ} (h : RCl f g ob q0) (h1 : vQ f' 250 1 q') (h2 : q' 0 = q0') (hf : ∀ z, 161 ≤ z → z ≤ 262 → (z ≤ 186 ∨ 240 ≤ z) → (z < 250 ∨ 254 < z) → f' z = f z) : RCl f' g ob q0' := by
  obtain ⟨a1, a2, ⟨m, v, k1, k2, k3, k6, sp, q, a3⟩, ⟨m', v', j1, j2, j3, j4, j5, j6, sp', q', a4⟩, ⟨l1, a5⟩, ⟨l2, a6⟩, ⟨u, a7⟩, ⟨A, a8⟩, ⟨q1, a9⟩, ⟨q2, a10⟩, _, ⟨q4, a13⟩, ⟨cu, a14⟩, ⟨x1, a15⟩, ⟨x2, a16⟩⟩ := h
  exact ⟨(hf 161 (by decide) (by decide) (by decide) (by decide)).trans a1, (hf 162 (by decide) (by decide) (by decide) (by decide)).trans a2, ⟨m, v, k1, k2, k3, k6, sp, q, a3.keep (fun z z1 z2 => hf z (by omega) (by omega) (by omega) (by omega))⟩, ⟨m', v', j1, j2, j3, j4, j5, j6, sp', q', a4.keep (fun z z1 z2 => hf z (by omega) (by omega) (by omega) (by omega))⟩, ⟨l1, (hf 184 (by decide) (by decide) (by decide) (by decide)).trans a5⟩, ⟨l2, (hf 185 (by decide) (by decide) (by decide) (by decide)).trans a6⟩, ⟨u, (hf 186 (by decide) (by decide) (by decide) (by decide)).trans a7⟩, ⟨A, a8.keep (fun z z1 z2 => hf z (by omega) (by omega) (by omega) (by omega))⟩, ⟨q1, a9.keep (fun z z1 z2 => hf z (by omega) (by omega) (by omega) (by omega))⟩, ⟨q2, a10.keep (fun z z1 z2 => hf z (by omega) (by omega) (by omega) (by omega))⟩, ⟨_, h1, h2⟩, ⟨q4, a13.keep (fun z z1 z2 => hf z (by omega) (by omega) (by omega) (by omega))⟩, ⟨cu, (hf 260 (by decide) (by decide) (by decide) (by decide)).trans a14⟩, ⟨x1, (hf 261 (by decide) (by decide) (by decide) (by decide)).trans a15⟩, ⟨x2, (hf 262 (by decide) (by decide) (by decide) (by decide)).trans a16⟩⟩
theorem vQ_upd {q q' : Nat → VQ} (h : vQ f 250 1 q) : vQ (vUp f 250 1 q') 250 1 q' := fun kc hk => by
  unfold vaL at hk
  unfold vUp
  rcases List.mem_cons.mp hk with e | hk
  · rw [e, va_up_ne _ _ (by decide), va_up_ne _ _ (by decide), va_up_ne _ _ (by decide), va_up_ne _ _ (by decide)]
    exact h (250, _) List.mem_cons_self
  rcases List.mem_cons.mp hk with e | hk
  · rw [e]
    rfl
  rcases List.mem_cons.mp hk with e | hk
  · rw [e]
    rfl
  rcases List.mem_cons.mp hk with e | hk
  · rw [e]
    rfl
  rcases List.mem_cons.mp hk with e | hk
  · rw [e]
    rfl
  cases hk
/-- given0 becomes nil -/
theorem e_nil (h : RKx (n, f, us) b L g om ob nw w lg Rn Rs wr WR pn ps pp FF q0 fu X) : ∃ f', x_Vals_set d 250 0 0 0 0 0 (n, f, us) = some ((), (n, f', us)) ∧ RKx (n, f', us) b L g om ob nw w lg Rn Rs wr WR pn ps pp FF (0, 0, 0, 0) fu X ∧ ∀ z, (z < 250 ∨ 254 < z) → f' z = f z := by
  have hn : 1311 ≤ n := h.1.2.1
  obtain ⟨q, hq, _⟩ := h.2.1.2.2.2.2.2.2.2.2.2.2.1
  have V := hq.v1 (n := n) (us := us) (by decide) (by omega)
  have e := e_set (d := d) (i := 0) V (by decide) (x1 := 0) (x2 := 0) (y1 := 0) (y2 := 0)
  have of : ∀ z, (z < 250 ∨ 254 < z) → vUp f 250 1 (upQ q 0 (0, 0, 0, 0)) z = f z := fun z hz => by
    unfold vUp
    rw [va_up_ne _ _ (by omega), va_up_ne _ _ (by omega), va_up_ne _ _ (by omega), va_up_ne _ _ (by omega)]
  exact ⟨_, e, h.top (Nat.le_refl _) ((of 160 (by decide)).trans h.1.1) h.1.2.2.1 (h.2.1.val (q' := upQ q 0 (0, 0, 0, 0)) (vQ_upd hq) rfl (fun z _ _ _ z4 => of z z4)) (fun z z1 z2 z3 => of z (by omega)), of⟩
theorem r_prep (h : RKx (n, f, us) b 0 g om ob nw w lg Rn Rs wr WR pn ps pp FF q0 fu X) (hk : k ≤ 12) (ek : Rn.2.2.2.2.2.2.2.2.2.1 = nI k) : ∃ f5 b5 Rw, mrP (d + 2) x (n, f, us) = mrQ (d + 2) (n, f5, us) ∧ RKx (n, f5, us) b5 0 g 0 ob nw w lg Rn Rs wr WR pn ps pp FF (0, 0, 0, 0) 0 X ∧ RSt f5 (391 - nw) (cpR Rw Rn k) ∧ b5 43 = .int x ∧ (∀ i, ¬ i = 3 → ¬ i = 43 → ¬ i = 44 → b5 i = b i) ∧ ∀ z, ¬ z = 160 → (z < 250 ∨ 254 < z) → (z < 391 - nw ∨ 391 - nw + 16 < z) → f5 z = f z := by
  have hn : 1311 ≤ n := h.1.2.1
  have hnw := h.1.2.2.2.2
  obtain ⟨f1, p1, p2, p3⟩ := mo_p (us := us) (v := .int 0) h.1.1 hn (show 3 < 53 by decide)
  have h1 : RKx (n, f1, us) (updV b 3 (.int 0)) 0 g 0 ob nw w lg Rn Rs wr WR pn ps pp FF q0 fu X := h.top (Nat.le_refl _) p2 h.1.2.2.1.u3 (h.2.1.keep (fun z z1 z2 _ => p3 z (by omega))) (fun z z1 z2 _ => p3 z (by omega))
  obtain ⟨f2, q1, h2, q3⟩ := e_nil (d := d + 2) h1
  obtain ⟨f3, r1, r2, r3⟩ := mo_p (us := us) (v := .int x) h2.1.1 hn (show 43 < 53 by decide)
  have h3 : RKx (n, f3, us) (updV (updV b 3 (.int 0)) 43 (.int x)) 0 g 0 ob nw w lg Rn Rs wr WR pn ps pp FF (0, 0, 0, 0) fu X := h2.top (Nat.le_refl _) r2 h2.1.2.2.1.u43 (h2.2.1.keep (fun z z1 z2 _ => r3 z (by omega))) (fun z z1 z2 _ => r3 z (by omega))
  obtain ⟨f4, t1, t2, t3⟩ := mo_p (us := us) (v := .int 0) h3.1.1 hn (show 44 < 53 by decide)
  have h4 : RKx (n, f4, us) (updV (updV (updV b 3 (.int 0)) 43 (.int x)) 44 (.int 0)) 0 g 0 ob nw w lg Rn Rs wr WR pn ps pp FF (0, 0, 0, 0) 0 X := h3.top (Nat.le_refl _) t2 h3.1.2.2.1.u44 (h3.2.1.keep (fun z z1 z2 _ => t3 z (by omega))) (fun z z1 z2 _ => t3 z (by omega))
  obtain ⟨Rw, hRw⟩ := h4.2.2.2.2.1
  have e5 := st_copy (d := d) (us := us) (r := 391 - nw) (q := nw) (R := Rw) (Q := Rn) hRw (by omega) (by omega) h4.2.2.1.1 (by omega) (by omega) (by omega) (by omega) hk ek (h4.2.2.1.2.2.cds h4.2.2.2.2.2.2.1 hn)
  have of : ∀ z, (z < 391 - nw ∨ 391 - nw + 16 < z) → HSt f4 (391 - nw) (cpR Rw Rn k) z = f4 z := fun z hz => HS_off hz
  have b31 : updV (updV (updV b 3 (.int 0)) 43 (.int x)) 44 (.int 0) 31 = .ref (391 - nw) := h4.1.2.2.1.2.2.2.2.2.2.1
  have b30 : updV (updV (updV b 3 (.int 0)) 43 (.int x)) 44 (.int 0) 30 = .ref nw := h4.1.2.2.1.2.2.2.2.2.1
  have b39 : updV b 3 (.int 0) 39 = .ref 250 := h1.rf (by decide)
  refine ⟨HSt f4 (391 - nw) (cpR Rw Rn k), updV (updV (updV b 3 (.int 0)) 43 (.int x)) 44 (.int 0), Rw, ?_, ?_, RSt.mk, rfl, fun i i1 i2 i3 => ?_, fun z z1 z2 z3 => ?_⟩
  · unfold mrP
    rw [p1, Option.bind_some, mo_gR h1.1.1 hn (by decide) b39, Option.bind_some, q1, bnd_some, r1, Option.bind_some, t1, Option.bind_some, mo_gR h4.1.1 hn (by decide) b31, Option.bind_some, mo_gR h4.1.1 hn (by decide) b30, Option.bind_some, e5, bnd_some]
  · obtain ⟨⟨a1, a2, a3, a4, a5⟩, x1, c1, d1, _, ⟨v1, v2⟩, g1, y1⟩ := h4
    have po : ∀ z, 401 ≤ z → z ≤ 1310 → HSt f4 (391 - nw) (cpR Rw Rn k) z = f4 z := fun z z1 z2 => of z (by omega)
    exact ⟨⟨(of 160 (by omega)).trans a1, a2, a3, a4, a5⟩, x1.keep (fun z z1 z2 z3 => of z (by omega)), c1.keep (fun z z1 z2 => of z (by omega)) po, d1.keep (fun z z1 z2 => of z (by omega)) po, ⟨_, RSt.mk⟩, ⟨v1.keep (fun z z1 z2 => of z (by omega)), fun t ht => ⟨(v2 t ht).1.keep2 po, (v2 t ht).2⟩⟩, g1.keep (of 239 (by omega)) po, y1.keep (fun z z1 z2 => of z (by omega))⟩
  · exact (ub_ne i3).trans ((ub_ne i2).trans (ub_ne i1))
  · exact (of z z3).trans ((t3 z z1).trans ((r3 z z1).trans ((q3 z z2).trans (p3 z z1))))
/-- the machine's list of cells, but for the State -/
def mmL (b : Nat → Value) (sk pk g0 hk : Nat → VQ) (cu : Nat → Value) (bk bs ob : Nat → Int32) (r : Nat) (om T P fu u fr pc : Int32) : List (Nat × am_C) := [(160, .inr (14, rF b om r T P fu u fr pc)), (162, .inl (.byte, 600, fun j => .int (ob j)))] ++ vaL 240 8000 sk ++ vaL 245 4000 pk ++ vaL 250 1 g0 ++ vaL 255 4 hk ++ [(260, .inl (.object "StowTongueModel$Code", 9, cu)), (261, aInt 9 bk), (262, aInt 9 bs)]
variable {sk pk g0 hk : Nat → VQ} {cu : Nat → Value} {bk bs : Nat → Int32} {T P u fr pc : Int32}
theorem MM_eq : MM f b sk pk g0 hk cu bk bs ob r R om T P fu u fr pc = HL (mmL b sk pk g0 hk cu bk bs ob r om T P fu u fr pc) (HSt f r R) := by
  unfold MM
  rw [HL_app]
  rfl
theorem mmL_in {kc : Nat × am_C} (h : kc ∈ mmL b sk pk g0 hk cu bk bs ob r om T P fu u fr pc) : kc = (160, .inr (14, rF b om r T P fu u fr pc)) ∨ kc = (162, .inl (.byte, 600, fun j => .int (ob j))) ∨ kc ∈ vaL 240 8000 sk ∨ kc ∈ vaL 245 4000 pk ∨ kc ∈ vaL 250 1 g0 ∨ kc ∈ vaL 255 4 hk ∨ kc = (260, .inl (.object "StowTongueModel$Code", 9, cu)) ∨ kc = (261, aInt 9 bk) ∨ kc = (262, aInt 9 bs) := by
  unfold mmL at h
  simp only [List.mem_append] at h
  rcases h with ((((h | h) | h) | h) | h) | h
  · rcases List.mem_cons.mp h with e | h
    · exact Or.inl e
    · exact Or.inr (Or.inl (List.mem_singleton.mp h))
  · exact Or.inr (Or.inr (Or.inl h))
  · exact Or.inr (Or.inr (Or.inr (Or.inl h)))
  · exact Or.inr (Or.inr (Or.inr (Or.inr (Or.inl h))))
  · exact Or.inr (Or.inr (Or.inr (Or.inr (Or.inr (Or.inl h)))))
  · rcases List.mem_cons.mp h with e | h
    · exact Or.inr (Or.inr (Or.inr (Or.inr (Or.inr (Or.inr (Or.inl e))))))
    · rcases List.mem_cons.mp h with e | h
      · exact Or.inr (Or.inr (Or.inr (Or.inr (Or.inr (Or.inr (Or.inr (Or.inl e)))))))
      · exact Or.inr (Or.inr (Or.inr (Or.inr (Or.inr (Or.inr (Or.inr (Or.inr (List.mem_singleton.mp h))))))))
theorem mmL_ne {z : Nat} (h0 : ¬ z = 160) (h1 : ¬ z = 162) (h2 : z < 240 ∨ 262 < z) : HL (mmL b sk pk g0 hk cu bk bs ob r om T P fu u fr pc) f z = f z := HL_ne (fun kc hk => by
  rcases mmL_in hk with e | e | e | e | e | e | e | e | e
  · rw [e]
    exact h0
  · rw [e]
    exact h1
  · have := va_ids e
    omega
  · have := va_ids e
    omega
  · have := va_ids e
    omega
  · have := va_ids e
    omega
  · rw [e]
    show ¬ z = 260
    omega
  · rw [e]
    show ¬ z = 261
    omega
  · rw [e]
    show ¬ z = 262
    omega)
theorem MM_off {z : Nat} (h0 : ¬ z = 160) (h1 : ¬ z = 162) (h2 : z < 240 ∨ 262 < z) (h3 : z < r ∨ r + 16 < z) : MM f b sk pk g0 hk cu bk bs ob r R om T P fu u fr pc z = f z := by
  rw [MM_eq, mmL_ne h0 h1 h2, HS_off h3]
theorem MM_st (hr : r = 187 ∨ r = 204) : RSt (MM f b sk pk g0 hk cu bk bs ob r R om T P fu u fr pc) r R := by
  rw [MM_eq]
  exact RSt.mk.keep (fun z z1 z2 => mmL_ne (by omega) (by omega) (by omega))
/-- the machine's cells as they are -/
theorem MM_id (h : RKx (n, f, us) b L g om ob nw w lg Rn Rs wr WR pn ps pp FF q0 fu X) (hR : RSt f (391 - nw) R) (b43 : b 43 = .int x) : ∃ sk pk g0 hk cu bk bs T P fr pc, MM f b sk pk g0 hk cu bk bs ob (391 - nw) R om T P x fu fr pc = f ∧ g0 0 = q0 := by
  obtain ⟨⟨a1, a2, a3, a4, a5⟩, ⟨b1, b2, _, _, _, _, _, _, ⟨sk, c9⟩, ⟨pk, c10⟩, ⟨g0, c11, c12⟩, ⟨hk, c13⟩, ⟨cu, c14⟩, ⟨bk, c15⟩, ⟨bs, c16⟩⟩, _⟩ := h
  obtain ⟨T, h41⟩ := a3.2.1 41 (by decide)
  obtain ⟨P, h42⟩ := a3.2.1 42 (by decide)
  obtain ⟨fr, h45⟩ := a3.2.1 45 (by decide)
  obtain ⟨pc, h46⟩ := a3.2.1 46 (by decide)
  refine ⟨sk, pk, g0, hk, cu, bk, bs, T, P, fr, pc, ?_, c12⟩
  rw [MM_eq, show HSt f (391 - nw) R = f from hR]
  refine HL_same (fun kc hk => ?_)
  rcases mmL_in hk with e | e | e | e | e | e | e | e | e
  · rw [e]
    have e0 : f 160 = .inr (14, [b 0, b 1, b 2, b 3, b 4, b 5, b 6, b 7, b 8, b 9, b 10, b 11, b 12, b 13, b 14, b 15, b 16, b 17, b 18, b 19, b 20, b 21, b 22, b 23, b 24, b 25, b 26, b 27, b 28, b 29, b 30, b 31, b 32, b 33, b 34, b 35, b 36, b 37, b 38, b 39, b 40, b 41, b 42, b 43, b 44, b 45, b 46, b 47, b 48, b 49, b 50, b 51, b 52]) := a1
    refine e0.trans ?_
    unfold rF
    rw [a3.rf (show (0, 161) ∈ rfL by decide), a3.rf (show (1, 162) ∈ rfL by decide), a3.2.2.2.2.1, a3.rf (show (12, 163) ∈ rfL by decide), a3.rf (show (13, 170) ∈ rfL by decide), a3.rf (show (14, 171) ∈ rfL by decide), a3.rf (show (15, 172) ∈ rfL by decide), a3.rf (show (16, 173) ∈ rfL by decide), a3.rf (show (17, 174) ∈ rfL by decide), a3.rf (show (18, 175) ∈ rfL by decide), a3.rf (show (19, 176) ∈ rfL by decide), a3.rf (show (21, 177) ∈ rfL by decide), a3.rf (show (23, 184) ∈ rfL by decide), a3.rf (show (26, 185) ∈ rfL by decide), a3.rf (show (28, 186) ∈ rfL by decide), a3.2.2.2.2.2.2.1, a3.rf (show (32, 221) ∈ rfL by decide), a3.rf (show (33, 238) ∈ rfL by decide), a3.rf (show (36, 239) ∈ rfL by decide), a3.rf (show (37, 240) ∈ rfL by decide), a3.rf (show (38, 245) ∈ rfL by decide), a3.rf (show (39, 250) ∈ rfL by decide), a3.rf (show (40, 255) ∈ rfL by decide), h41, h42, b43, a3.2.2.2.2.2.2.2.2.2.1, h45, h46, a3.rf (show (47, 260) ∈ rfL by decide), a3.rf (show (48, 261) ∈ rfL by decide), a3.rf (show (49, 262) ∈ rfL by decide), a3.rf (show (50, 263) ∈ rfL by decide), a3.rf (show (51, 264) ∈ rfL by decide)]
  · rw [e]
    exact b2
  · exact c9 kc e
  · exact c10 kc e
  · exact c11 kc e
  · exact c13 kc e
  · rw [e]
    exact c14
  · rw [e]
    exact c15
  · rw [e]
    exact c16
def b7 (b : Nat → Value) (om : Int32) (r : Nat) (T P fu u fr pc : Int32) : Nat → Value := fun j => (rF b om r T P fu u fr pc).getD j .null
/-- the machine has run: what stands then -/
theorem MM_RK (h : RKx (n, f, us) b L g om ob nw w lg Rn Rs wr WR pn ps pp FF q0 fu X) : RKx (n, MM f b sk pk g0 hk cu bk bs ob' (391 - nw) R om' T P x u fr pc, us) (b7 b om' (391 - nw) T P x u fr pc) L g om' ob' nw w lg Rn Rs wr WR pn ps pp FF (g0 0) u X ∧ RSt (MM f b sk pk g0 hk cu bk bs ob' (391 - nw) R om' T P x u fr pc) (391 - nw) R ∧ ∀ z, ¬ z = 160 → ¬ z = 162 → (z < 240 ∨ 262 < z) → (z < 391 - nw ∨ 391 - nw + 16 < z) → MM f b sk pk g0 hk cu bk bs ob' (391 - nw) R om' T P x u fr pc z = f z := by
  have hnw := h.1.2.2.2.2
  have of : ∀ z, ¬ z = 160 → ¬ z = 162 → (z < 240 ∨ 262 < z) → (z < 391 - nw ∨ 391 - nw + 16 < z) → MM f b sk pk g0 hk cu bk bs ob' (391 - nw) R om' T P x u fr pc z = f z := fun z z1 z2 z3 z4 => MM_off z1 z2 z3 z4
  have st : RSt (MM f b sk pk g0 hk cu bk bs ob' (391 - nw) R om' T P x u fr pc) (391 - nw) R := MM_st (by omega)
  refine ⟨?_, st, of⟩
  obtain ⟨⟨a1, a2, a3, a4, a5⟩, ⟨b1, b2, ⟨m, v, k1, k2, k3, k6, sp, q, c3⟩, ⟨m', v', j1, j2, j3, j4, j5, j6, sp', q', c4⟩, ⟨l1, c5⟩, ⟨l2, c6⟩, ⟨u', c7⟩, ⟨A, c8⟩, _⟩, c1, d1, _, ⟨v1, v2⟩, g1, y1⟩ := h
  have po : ∀ z, 401 ≤ z → z ≤ 1310 → MM f b sk pk g0 hk cu bk bs ob' (391 - nw) R om' T P x u fr pc z = f z := fun z z1 z2 => of z (by omega) (by omega) (by omega) (by omega)
  have lo : ∀ z, 163 ≤ z → z ≤ 186 → MM f b sk pk g0 hk cu bk bs ob' (391 - nw) R om' T P x u fr pc z = f z := fun z z1 z2 => of z (by omega) (by omega) (by omega) (by omega)
  have B : RBf (b7 b om' (391 - nw) T P x u fr pc) L om' nw w lg u X.2.2 := by
    refine ⟨fun p hp => ?_, fun k hk => ?_, a3.2.2.1, a3.2.2.2.1, rfl, a3.2.2.2.2.2.1, rfl, a3.2.2.2.2.2.2.2.1, a3.2.2.2.2.2.2.2.2.1, rfl, a3.2.2.2.2.2.2.2.2.2.2⟩
    · have h0 := a3.1 p hp
      simp only [rfL, List.mem_cons, List.not_mem_nil, or_false] at hp
      rcases hp with rfl | rfl | rfl | rfl | rfl | rfl | rfl | rfl | rfl | rfl | rfl | rfl | rfl | rfl | rfl | rfl | rfl | rfl | rfl | rfl | rfl | rfl | rfl | rfl | rfl | rfl
      all_goals rfl
    · have h0 := a3.2.1 k hk
      simp only [inL, List.mem_cons, List.not_mem_nil, or_false] at hk
      rcases hk with rfl | rfl | rfl | rfl | rfl | rfl | rfl | rfl | rfl | rfl | rfl | rfl | rfl | rfl | rfl | rfl | rfl
      all_goals first | exact ⟨_, rfl⟩ | exact h0
  have vq : ∀ (r N : Nat) (qq : Nat → VQ), (MM f b sk pk g0 hk cu bk bs ob' (391 - nw) R om' T P x u fr pc r = .inr (11, [.ref (r + 1), .ref (r + 2), .ref (r + 3), .ref (r + 4)]) ∧ MM f b sk pk g0 hk cu bk bs ob' (391 - nw) R om' T P x u fr pc (r + 1) = aInt N (fun j => (qq j).1) ∧ MM f b sk pk g0 hk cu bk bs ob' (391 - nw) R om' T P x u fr pc (r + 2) = aInt N (fun j => (qq j).2.1) ∧ MM f b sk pk g0 hk cu bk bs ob' (391 - nw) R om' T P x u fr pc (r + 3) = aLong N (fun j => (qq j).2.2.1) ∧ MM f b sk pk g0 hk cu bk bs ob' (391 - nw) R om' T P x u fr pc (r + 4) = aLong N (fun j => (qq j).2.2.2)) → vQ (MM f b sk pk g0 hk cu bk bs ob' (391 - nw) R om' T P x u fr pc) r N qq := fun r N qq hq kc hk => by
    unfold vaL at hk
    rcases List.mem_cons.mp hk with e | hk
    · rw [e]
      exact hq.1
    rcases List.mem_cons.mp hk with e | hk
    · rw [e]
      exact hq.2.1
    rcases List.mem_cons.mp hk with e | hk
    · rw [e]
      exact hq.2.2.1
    rcases List.mem_cons.mp hk with e | hk
    · rw [e]
      exact hq.2.2.2.1
    rcases List.mem_cons.mp hk with e | hk
    · rw [e]
      exact hq.2.2.2.2
    cases hk
  refine ⟨⟨rfl, a2, B, a4, a5⟩, ⟨(of 161 (by decide) (by decide) (by decide) (by omega)).trans b1, rfl, ⟨m, v, k1, k2, k3, k6, sp, q, c3.keep (fun z z1 z2 => lo z (by omega) (by omega))⟩, ⟨m', v', j1, j2, j3, j4, j5, j6, sp', q', c4.keep (fun z z1 z2 => lo z (by omega) (by omega))⟩, ⟨l1, (lo 184 (by decide) (by decide)).trans c5⟩, ⟨l2, (lo 185 (by decide) (by decide)).trans c6⟩, ⟨u', (lo 186 (by decide) (by decide)).trans c7⟩, ⟨A, c8.keep (fun z z1 z2 => lo z (by omega) (by omega))⟩, ⟨sk, vq 240 8000 sk ⟨rfl, rfl, rfl, rfl, rfl⟩⟩, ⟨pk, vq 245 4000 pk ⟨rfl, rfl, rfl, rfl, rfl⟩⟩, ⟨g0, vq 250 1 g0 ⟨rfl, rfl, rfl, rfl, rfl⟩, rfl⟩, ⟨hk, vq 255 4 hk ⟨rfl, rfl, rfl, rfl, rfl⟩⟩, ⟨cu, rfl⟩, ⟨bk, rfl⟩, ⟨bs, rfl⟩⟩, c1.keep (fun z z1 z2 => of z (by omega) (by omega) (by omega) (by omega)) po, d1.keep (fun z z1 z2 => of z (by omega) (by omega) (by omega) (by omega)) po, ⟨R, st⟩, ⟨?_, fun t ht => ⟨(v2 t ht).1.keep2 po, (v2 t ht).2⟩⟩, g1.keep (of 239 (by decide) (by decide) (by decide) (by omega)) po, y1.keep (fun z z1 z2 => of z (by omega) (by omega) (by omega) (by omega))⟩
  exact ⟨(of 238 (by decide) (by decide) (by decide) (by omega)).trans v1.1, fun k hk => ⟨(v1.2.1 k hk).1.keep (fun x h1 h2 => of x (by have := (v1.2.1 k hk).2; omega) (by have := (v1.2.1 k hk).2; omega) (by have := (v1.2.1 k hk).2; omega) (by have := (v1.2.1 k hk).2; omega)), (v1.2.1 k hk).2⟩, v1.2.2⟩
end
