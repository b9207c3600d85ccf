/-! what holds between two calls: the reference -/
def rfL : List (Nat × Nat) := [(0, 161), (1, 162), (12, 163), (13, 170), (14, 171), (15, 172), (16, 173), (17, 174), (18, 175), (19, 176), (21, 177), (23, 184), (26, 185), (28, 186), (32, 221), (33, 238), (36, 239), (37, 240), (38, 245), (39, 250), (40, 255), (47, 260), (48, 261), (49, 262), (50, 263), (51, 264)]
def inL : List Nat := [4, 5, 6, 7, 8, 9, 10, 20, 24, 25, 27, 29, 41, 42, 43, 45, 46]
def RBf (b : Nat → Value) (L : Nat) (om : Int32) (nw w : Nat) (lg fu : Int32) (sw : Nat) : Prop := (∀ p, p ∈ rfL → b p.1 = .ref p.2) ∧ (∀ k, k ∈ inL → ∃ x, b k = .int x) ∧ (∃ x, b 11 = .long x) ∧ b 2 = .int (nI L) ∧ b 3 = .int om ∧ b 30 = .ref nw ∧ b 31 = .ref (391 - nw) ∧ b 34 = .int (nI w) ∧ b 35 = .int lg ∧ b 44 = .int fu ∧ b 52 = .int (nI sw)
def vQ (f : Nat → am_C) (r N : Nat) (q : Nat → VQ) : Prop := ∀ kc, kc ∈ vaL r N q → f kc.1 = kc.2
def RCl (f : Nat → am_C) (g ob : Nat → Int32) (q0 : VQ) : Prop := f 161 = .inl (.byte, 1500, fun j => .int (g j)) ∧ f 162 = .inl (.byte, 600, fun j => .int (ob j)) ∧ (∃ m v k1 k2 k3 k6 sp q, RCd f 163 m v k1 k2 k3 0 0 k6 sp q) ∧ (∃ m v k1 k2 k3 k4 k5 k6 sp q, RCd f 177 m v k1 k2 k3 k4 k5 k6 sp q) ∧ (∃ l, f 184 = aLong 1500 l) ∧ (∃ l, f 185 = aLong 1500 l) ∧ (∃ u, f 186 = aInt 1500 u) ∧ (∃ A, TA f A) ∧ (∃ q, vQ f 240 8000 q) ∧ (∃ q, vQ f 245 4000 q) ∧ (∃ q, vQ f 250 1 q ∧ q 0 = q0) ∧ (∃ q, vQ f 255 4 q) ∧ (∃ cu, f 260 = .inl (.object "StowTongueModel$Code", 9, cu)) ∧ (∃ x, f 261 = aInt 9 x) ∧ ∃ x, f 262 = aInt 9 x
def RRm (f : Nat → am_C) (X : SWs) : Prop := f 263 = .inl (.boolean, 100, fun j => .int (X.1 j)) ∧ f 264 = aInt 100 X.2.1 ∧ ∀ o, X.1 o = 0 ∨ X.1 o = 1
/-- a State with its functions -/
def RPl (f : Nat → am_C) (r : Nat) (R : RS) (pc : Nat → Nat) (F : FTb) : Prop := RSt f r R ∧ RTb f R pc F ∧ CDq R
def RKx (s : HS) (b : Nat → Value) (L : Nat) (g : Nat → Int32) (om : Int32) (ob : Nat → Int32) (nw w : Nat) (lg : Int32) (Rn Rs : RS) (wr : Nat → Nat) (WR : Nat → RS) (pn ps : Nat → Nat) (pp : Nat → Nat → Nat) (FF : Nat → FTb) (q0 : VQ) (fu : Int32) (X : SWs) : Prop := (OM s.2.1 b ∧ 1311 ≤ s.1 ∧ RBf b L om nw w lg fu X.2.2 ∧ w ≤ 8 ∧ (nw = 187 ∨ nw = 204)) ∧ RCl s.2.1 g ob q0 ∧ RPl s.2.1 nw Rn pn (FF w) ∧ RPl s.2.1 221 Rs ps (FF 0) ∧ (∃ Rw, RSt s.2.1 (391 - nw) Rw) ∧ (W8 s.2.1 wr WR ∧ ∀ t, t < w → RTb s.2.1 (WR t) (pp t) (FF (t + 1)) ∧ CDq (WR t)) ∧ PLh s.2.1 ∧ RRm s.2.1 X
def RKk (s : HS) (L : Nat) (g : Nat → Int32) (om : Int32) (ob : Nat → Int32) (w : Nat) (lg : Int32) (Rn Rs : RS) (WR : Nat → RS) (FF : Nat → FTb) (q0 : VQ) (fu : Int32) : Prop := ∃ (b : Nat → Value) (nw : Nat) (wr pn ps : Nat → Nat) (pp : Nat → Nat → Nat) (X : SWs), RKx s b L g om ob nw w lg Rn Rs wr WR pn ps pp FF q0 fu X
section
variable {s s' : HS} {b : Nat → Value} {L L' nw w w' sw : Nat} {g ob : Nat → Int32} {om om' lg lg' fu fu' : Int32} {R Rn Rs : RS} {wr pn ps pc : Nat → Nat} {WR : Nat → RS} {pp : Nat → Nat → Nat} {FF : Nat → FTb} {F : FTb} {q0 : VQ} {X : SWs} {f f' : Nat → am_C} {r N : Nat} {q : Nat → VQ}
theorem RBf.rf (h : RBf b L om nw w lg fu sw) {k y : Nat} (hk : (k, y) ∈ rfL) : b k = .ref y := h.1 (k, y) hk
theorem rf_ne : ∀ p, p ∈ rfL → ¬ p.1 = 2 ∧ ¬ p.1 = 3 ∧ ¬ p.1 = 34 ∧ ¬ p.1 = 35 ∧ ¬ p.1 = 44 ∧ ¬ p.1 = 52 ∧ ¬ p.1 = 43 ∧ ¬ p.1 = 30 ∧ ¬ p.1 = 31 := by decide
theorem in_ne : ∀ k, k ∈ inL → ¬ k = 2 ∧ ¬ k = 3 ∧ ¬ k = 34 ∧ ¬ k = 35 ∧ ¬ k = 44 ∧ ¬ k = 52 ∧ ¬ k = 30 ∧ ¬ k = 31 := by decide
theorem RBf.u2 (h : RBf b L om nw w lg fu sw) : RBf (updV b 2 (.int (nI L'))) L' om nw w lg fu sw := ⟨fun p hp => (ub_ne (rf_ne p hp).1).trans (h.1 p hp), fun k hk => ⟨(h.2.1 k hk).choose, (ub_ne (in_ne k hk).1).trans (h.2.1 k hk).choose_spec⟩, h.2.2.1, rfl, h.2.2.2.2⟩
theorem RBf.u3 (h : RBf b L om nw w lg fu sw) : RBf (updV b 3 (.int om')) L om' nw w lg fu sw := ⟨fun p hp => (ub_ne (rf_ne p hp).2.1).trans (h.1 p hp), fun k hk => ⟨(h.2.1 k hk).choose, (ub_ne (in_ne k hk).2.1).trans (h.2.1 k hk).choose_spec⟩, h.2.2.1, h.2.2.2.1, rfl, h.2.2.2.2.2⟩
theorem RBf.u34 (h : RBf b L om nw w lg fu sw) : RBf (updV b 34 (.int (nI w'))) L om nw w' lg fu sw := ⟨fun p hp => (ub_ne (rf_ne p hp).2.2.1).trans (h.1 p hp), fun k hk => ⟨(h.2.1 k hk).choose, (ub_ne (in_ne k hk).2.2.1).trans (h.2.1 k hk).choose_spec⟩, h.2.2.1, h.2.2.2.1, h.2.2.2.2.1, h.2.2.2.2.2.1, h.2.2.2.2.2.2.1, rfl, h.2.2.2.2.2.2.2.2⟩
theorem RBf.u35 (h : RBf b L om nw w lg fu sw) : RBf (updV b 35 (.int lg')) L om nw w lg' fu sw := ⟨fun p hp => (ub_ne (rf_ne p hp).2.2.2.1).trans (h.1 p hp), fun k hk => ⟨(h.2.1 k hk).choose, (ub_ne (in_ne k hk).2.2.2.1).trans (h.2.1 k hk).choose_spec⟩, h.2.2.1, h.2.2.2.1, h.2.2.2.2.1, h.2.2.2.2.2.1, h.2.2.2.2.2.2.1, h.2.2.2.2.2.2.2.1, rfl, h.2.2.2.2.2.2.2.2.2⟩
theorem RBf.u44 (h : RBf b L om nw w lg fu sw) : RBf (updV b 44 (.int fu')) L om nw w lg fu' sw := ⟨fun p hp => (ub_ne (rf_ne p hp).2.2.2.2.1).trans (h.1 p hp), fun k hk => ⟨(h.2.1 k hk).choose, (ub_ne (in_ne k hk).2.2.2.2.1).trans (h.2.1 k hk).choose_spec⟩, h.2.2.1, h.2.2.2.1, h.2.2.2.2.1, h.2.2.2.2.2.1, h.2.2.2.2.2.2.1, h.2.2.2.2.2.2.2.1, h.2.2.2.2.2.2.2.2.1, rfl, h.2.2.2.2.2.2.2.2.2.2⟩
theorem RBf.u52 {sw' : Nat} (h : RBf b L om nw w lg fu sw) : RBf (updV b 52 (.int (nI sw'))) L om nw w lg fu sw' := ⟨fun p hp => (ub_ne (rf_ne p hp).2.2.2.2.2.1).trans (h.1 p hp), fun k hk => ⟨(h.2.1 k hk).choose, (ub_ne (in_ne k hk).2.2.2.2.2.1).trans (h.2.1 k hk).choose_spec⟩, h.2.2.1, h.2.2.2.1, h.2.2.2.2.1, h.2.2.2.2.2.1, h.2.2.2.2.2.2.1, h.2.2.2.2.2.2.2.1, h.2.2.2.2.2.2.2.2.1, h.2.2.2.2.2.2.2.2.2.1, rfl⟩
theorem RBf.cong {b' : Nat → Value} (h : RBf b L om nw w lg fu sw) (e34 : b' 34 = .int (nI w')) (e35 : b' 35 = .int lg') (o : ∀ i, ¬ i = 34 → ¬ i = 35 → b' i = b i) : RBf b' L om nw w' lg' fu sw := ⟨fun p hp => (o _ (rf_ne p hp).2.2.1 (rf_ne p hp).2.2.2.1).trans (h.1 p hp), fun k hk => ⟨(h.2.1 k hk).choose, (o _ (in_ne k hk).2.2.1 (in_ne k hk).2.2.2.1).trans (h.2.1 k hk).choose_spec⟩, ⟨h.2.2.1.choose, (o _ (by decide) (by decide)).trans h.2.2.1.choose_spec⟩, (o _ (by decide) (by decide)).trans h.2.2.2.1, (o _ (by decide) (by decide)).trans h.2.2.2.2.1, (o _ (by decide) (by decide)).trans h.2.2.2.2.2.1, (o _ (by decide) (by decide)).trans h.2.2.2.2.2.2.1, e34, e35, (o _ (by decide) (by decide)).trans h.2.2.2.2.2.2.2.2.2.1, (o _ (by decide) (by decide)).trans h.2.2.2.2.2.2.2.2.2.2⟩
theorem va_ids {kc : Nat × am_C} (h : kc ∈ vaL r N q) : r ≤ kc.1 ∧ kc.1 ≤ r + 4 := by
  unfold vaL at h
  rcases List.mem_cons.mp h with e | h
  · rw [e]
    exact ⟨Nat.le_refl _, by show r ≤ r + 4; omega⟩
  rcases List.mem_cons.mp h with e | h
  · rw [e]
    exact ⟨by show r ≤ r + 1; omega, by show r + 1 ≤ r + 4; omega⟩
  rcases List.mem_cons.mp h with e | h
  · rw [e]
    exact ⟨by show r ≤ r + 2; omega, by show r + 2 ≤ r + 4; omega⟩
  rcases List.mem_cons.mp h with e | h
  · rw [e]
    exact ⟨by show r ≤ r + 3; omega, by show r + 3 ≤ r + 4; omega⟩
  rcases List.mem_cons.mp h with e | h
  · rw [e]
    exact ⟨by show r ≤ r + 4; omega, Nat.le_refl _⟩
  cases h
theorem vQ.keep (h : vQ f r N q) (hf : ∀ z, r ≤ z → z ≤ r + 4 → f' z = f z) : vQ f' r N q := fun kc hk => (hf _ (va_ids hk).1 (va_ids hk).2).trans (h kc hk)
theorem RCd.keep {m v k1 k2 k3 k4 k5 k6 : Int32} {sp : Nat → Int32} (h : RCd f r m v k1 k2 k3 k4 k5 k6 sp q) (hf : ∀ z, r ≤ z → z ≤ r + 6 → f' z = f z) : RCd f' r m v k1 k2 k3 k4 k5 k6 sp q := ⟨(hf r (by omega) (by omega)).trans h.1, (hf (r + 1) (by omega) (by omega)).trans h.2.1, fun kc hk => (hf _ (by have := va_ids hk; omega) (by have := va_ids hk; omega)).trans (h.2.2 kc hk)⟩
theorem TA.keep {A : TAr} (h : TA f A) (hf : ∀ z, 170 ≤ z → z ≤ 176 → f' z = f z) : TA f' A := ⟨(hf 170 (by decide) (by decide)).trans h.1, fun z z1 z2 => (hf z (by omega) z2).trans (h.2 z z1 z2)⟩
theorem RCl.keep (h : RCl f g ob q0) (hf : ∀ z, 161 ≤ z → z ≤ 262 → (z ≤ 186 ∨ 240 ≤ z) → f' z = f z) : RCl f' g ob q0 := by
  obtain ⟨a1, a2, ⟨m, v, k1, k2, k3, k6, sp, q, a3⟩, ⟨m', v', j1, j2, j3, j4, j5, j6, sp', q', a4⟩, ⟨l1, a5⟩, ⟨l2, a6⟩, ⟨u, a7⟩, ⟨A, a8⟩, ⟨q1, a9⟩, ⟨q2, a10⟩, ⟨q3, a11, a12⟩, ⟨q4, a13⟩, ⟨cu, a14⟩, ⟨x1, a15⟩, ⟨x2, a16⟩⟩ := h
  exact ⟨(hf 161 (by decide) (by decide) (by decide)).trans a1, (hf 162 (by decide) (by decide) (by decide)).trans a2, ⟨m, v, k1, k2, k3, k6, sp, q, a3.keep (fun z z1 z2 => hf z (by omega) (by omega) (by omega))⟩, ⟨m', v', j1, j2, j3, j4, j5, j6, sp', q', a4.keep (fun z z1 z2 => hf z (by omega) (by omega) (by omega))⟩, ⟨l1, (hf 184 (by decide) (by decide) (by decide)).trans a5⟩, ⟨l2, (hf 185 (by decide) (by decide) (by decide)).trans a6⟩, ⟨u, (hf 186 (by decide) (by decide) (by decide)).trans a7⟩, ⟨A, a8.keep (fun z z1 z2 => hf z (by omega) (by omega) (by omega))⟩, ⟨q1, a9.keep (fun z z1 z2 => hf z (by omega) (by omega) (by omega))⟩, ⟨q2, a10.keep (fun z z1 z2 => hf z (by omega) (by omega) (by omega))⟩, ⟨q3, a11.keep (fun z z1 z2 => hf z (by omega) (by omega) (by omega)), a12⟩, ⟨q4, a13.keep (fun z z1 z2 => hf z (by omega) (by omega) (by omega))⟩, ⟨cu, (hf 260 (by decide) (by decide) (by decide)).trans a14⟩, ⟨x1, (hf 261 (by decide) (by decide) (by decide)).trans a15⟩, ⟨x2, (hf 262 (by decide) (by decide) (by decide)).trans a16⟩⟩
theorem RRm.keep (h : RRm f X) (hf : ∀ z, 263 ≤ z → z ≤ 264 → f' z = f z) : RRm f' X := ⟨(hf 263 (by decide) (by decide)).trans h.1, (hf 264 (by decide) (by decide)).trans h.2.1, h.2.2⟩
theorem PLh.keep (h : PLh f) (h9 : f' 239 = f 239) (hf : ∀ z, 401 ≤ z → z ≤ 1310 → f' z = f z) : PLh f' := by
  obtain ⟨⟨H, ud, a1⟩, a2, a3⟩ := h
  refine ⟨⟨H, ud, ?_⟩, h9.trans a2, fun p hp => ?_⟩
  · funext x
    by_cases c : 401 ≤ x ∧ x < 1311 ∧ (x - 401) % 7 = 0
    · rw [hf x c.1 (by omega)]
      have e := congrFun a1 x
      unfold HP at e ⊢
      rw [if_pos c] at e ⊢
      exact e
    · exact HP_off c
  · obtain ⟨⟨sp, b1⟩, q, b2⟩ := a3 p hp
    exact ⟨⟨sp, (hf _ (by show 401 ≤ 401 + 7 * p + 1; omega) (by show 401 + 7 * p + 1 ≤ 1310; omega)).trans b1⟩, q, b2.kept (fun x h1 h2 => hf x (by have h1 : 401 + 7 * p + 2 ≤ x := h1; omega) (by have h2 : x ≤ 401 + 7 * p + 2 + 4 := h2; omega))⟩
theorem RTb.keep2 (h : RTb f R pc F) (hf : ∀ z, 401 ≤ z → z ≤ 1310 → f' z = f z) : RTb f' R pc F := h.keep (fun j hj c => c.keep (fun z z1 z2 => hf z (by have z1 : 401 + 7 * pc j ≤ z := z1; omega) (by have z2 : z ≤ 401 + 7 * pc j + 6 := z2; have := (h.1.2.2 j hj).2; omega)))
theorem RPl.keep (h : RPl f r R pc F) (h1 : ∀ z, r ≤ z → z ≤ r + 16 → f' z = f z) (hf : ∀ z, 401 ≤ z → z ≤ 1310 → f' z = f z) : RPl f' r R pc F := ⟨h.1.keep h1, h.2.1.keep2 hf, h.2.2⟩
/-- what the class does leaves the reference as it is -/
theorem RKx.keep (h : RKx s b L g om ob nw w lg Rn Rs wr WR pn ps pp FF q0 fu X) (hn : s.1 ≤ s'.1) (hf : ∀ z, 160 ≤ z → z ≤ 1310 → s'.2.1 z = s.2.1 z) : RKx s' b L g om ob nw w lg Rn Rs wr WR pn ps pp FF q0 fu X := by
  obtain ⟨⟨a1, a2, a3, a4, a5⟩, b1, c1, d1, ⟨Rw, e1⟩, ⟨f1, f2⟩, g1, h1⟩ := h
  have hp : ∀ z, 401 ≤ z → z ≤ 1310 → s'.2.1 z = s.2.1 z := fun z z1 z2 => hf z (by omega) z2
  exact ⟨⟨(hf 160 (by decide) (by decide)).trans a1, Nat.le_trans a2 hn, a3, a4, a5⟩, b1.keep (fun z z1 z2 _ => hf z (by omega) (by omega)), c1.keep (fun z z1 z2 => hf z (by omega) (by omega)) hp, d1.keep (fun z z1 z2 => hf z (by omega) (by omega)) hp, ⟨Rw, e1.keep (fun z z1 z2 => hf z (by omega) (by omega))⟩, ⟨f1.keep (fun z z1 z2 => hf z (by omega) (by omega)), fun t ht => ⟨(f2 t ht).1.keep2 hp, (f2 t ht).2⟩⟩, g1.keep (hf 239 (by decide) (by decide)) hp, h1.keep (fun z z1 z2 => hf z (by omega) (by omega))⟩
/-- the Codes of a State are Codes -/
theorem CDq.cds (h : CDq R) (P : PLh s.2.1) (hn : 1311 ≤ s.1) : CDs s R := fun i hi => by
  rcases h i hi with e | ⟨p, hp, e⟩
  · exact Or.inl e
  · obtain ⟨⟨H, ud, a1⟩, _⟩ := P
    refine Or.inr ⟨_, e, isO_of (fs := _) ((congrFun a1 (pC p)).symm.trans (HP_at hp)) (by show 128 ≤ 401 + 7 * p; omega) (by show 401 + 7 * p < s.1; omega), by show 401 ≤ 401 + 7 * p; omega⟩
end
