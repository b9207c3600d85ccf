/-! State.copy -/
def scB (d x0 x1 : Nat) : (Int32 × HS → Option (Unit × HS)) → Int32 × HS → Option (Unit × HS) := (fun (again151 : Int32 × HS → Option (Unit × HS)) (z151 : Int32 × HS) => ((gI z151.2 x1 13 9).bind fun v33 => (if v33 ≤ z151.1 then ((gR z151.2 x1 13 4).bind fun v34 => ((gR z151.2 x0 13 4).bind fun v35 => ((cpA z151.2 v34 0 v35 0 10).bind fun s36 => ((gR s36 x1 13 7).bind fun v37 => ((gR s36 x0 13 7).bind fun v38 => ((cpQ "StowTongueModel$Code" 12 s36 v37 0 v38 0 10).bind fun s39 => ((gI s39 x1 13 8).bind fun v40 => ((pV s39 x0 13 8 (.int v40)).bind fun s41 => ((gI s41 x1 13 9).bind fun v42 => ((pV s41 x0 13 9 (.int v42)).bind fun s43 => ((gI s43 x1 13 10).bind fun v44 => ((pV s43 x0 13 10 (.int v44)).bind fun s45 => (some ((), s45)))))))))))))) else ((gR z151.2 x0 13 6).bind fun v46 => ((gR z151.2 x1 13 6).bind fun v47 => (bnd (x_Vals_copy d v46 z151.1 v47 z151.1 z151.2) fun v49 s48 => (again151 ((z151.1 + 1), s48))))))))
theorem scB_eq {d x0 x1 : Nat} {z : Int32} {s : HS} {ag : Int32 × HS → Option (Unit × HS)} : scB d x0 x1 ag (z, s) = ((gI s x1 13 9).bind fun v33 => (if v33 ≤ z then ((gR s x1 13 4).bind fun v34 => ((gR s x0 13 4).bind fun v35 => ((cpA s v34 0 v35 0 10).bind fun s36 => ((gR s36 x1 13 7).bind fun v37 => ((gR s36 x0 13 7).bind fun v38 => ((cpQ "StowTongueModel$Code" 12 s36 v37 0 v38 0 10).bind fun s39 => ((gI s39 x1 13 8).bind fun v40 => ((pV s39 x0 13 8 (.int v40)).bind fun s41 => ((gI s41 x1 13 9).bind fun v42 => ((pV s41 x0 13 9 (.int v42)).bind fun s43 => ((gI s43 x1 13 10).bind fun v44 => ((pV s43 x0 13 10 (.int v44)).bind fun s45 => (some ((), s45)))))))))))))) else ((gR s x0 13 6).bind fun v46 => ((gR s x1 13 6).bind fun v47 => (bnd (x_Vals_copy d v46 z v47 z s) fun v49 s48 => (ag ((z + 1), s48))))))) := rfl
def cpR (R Q : RS) (k : Nat) : RS := (mx 100 Q.1 R.1, mx 100 Q.2.1 R.2.1, mx 800 Q.2.2.1 R.2.2.1, mx 12 Q.2.2.2.1 R.2.2.2.1, mx 10 Q.2.2.2.2.1 R.2.2.2.2.1, mx 2000 Q.2.2.2.2.2.1 R.2.2.2.2.2.1, mx k Q.2.2.2.2.2.2.1 R.2.2.2.2.2.2.1, mx 10 Q.2.2.2.2.2.2.2.1 R.2.2.2.2.2.2.2.1, Q.2.2.2.2.2.2.2.2.1, Q.2.2.2.2.2.2.2.2.2.1, Q.2.2.2.2.2.2.2.2.2.2.1, R.2.2.2.2.2.2.2.2.2.2.2)
section
variable {n us r q d k : Nat} {f : Nat → am_C} {R Q : RS}
theorem sq_i {i : Nat} {c : am_C} (hT : RSt f q Q) (D : q + 16 < r ∨ r + 16 < q) (hi : i ≤ 16) (hc : HSt f q Q (q + i) = c) : HSt f r R (q + i) = c := by
  rw [HS_off (by omega), hT.eq, hc]
theorem sq_0 (hT : RSt f q Q) (D : q + 16 < r ∨ r + 16 < q) : HSt f r R q = .inr (13, [.ref (q + 1), .ref (q + 2), .ref (q + 3), .ref (q + 4), .ref (q + 5), .ref (q + 6), .ref (q + 11), .ref (q + 16), .int Q.2.2.2.2.2.2.2.2.1, .int Q.2.2.2.2.2.2.2.2.2.1, .int Q.2.2.2.2.2.2.2.2.2.2.1, .int Q.2.2.2.2.2.2.2.2.2.2.2]) := by
  rw [HS_off (by omega), hT.eq, HS_0]
theorem s_po {v : Int32} (h1 : 128 ≤ r) (h2 : r + 16 < n) : pV (n, HSt f r R, us) r 13 8 (.int v) = some (n, HSt f r (R.1, R.2.1, R.2.2.1, R.2.2.2.1, R.2.2.2.2.1, R.2.2.2.2.2.1, R.2.2.2.2.2.2.1, R.2.2.2.2.2.2.2.1, v, R.2.2.2.2.2.2.2.2.2.1, R.2.2.2.2.2.2.2.2.2.2.1, R.2.2.2.2.2.2.2.2.2.2.2), us) := by
  rw [pV_of (s := (n, HSt f r R, us)) HS_0 h1 (show r < n by omega) (by show 8 < 12; decide)]
  exact congrArg (fun F => some (n, F, us)) HSu_0
theorem s_go (h1 : 128 ≤ r) (h2 : r + 16 < n) : gI (n, HSt f r R, us) r 13 8 = some R.2.2.2.2.2.2.2.2.1 := gI_of (s := (n, HSt f r R, us)) HS_0 h1 (show r < n by omega) rfl
theorem s_pr {v : Int32} (h1 : 128 ≤ r) (h2 : r + 16 < n) : pV (n, HSt f r R, us) r 13 9 (.int v) = some (n, HSt f r (R.1, R.2.1, R.2.2.1, R.2.2.2.1, R.2.2.2.2.1, R.2.2.2.2.2.1, R.2.2.2.2.2.2.1, R.2.2.2.2.2.2.2.1, R.2.2.2.2.2.2.2.2.1, v, R.2.2.2.2.2.2.2.2.2.2.1, R.2.2.2.2.2.2.2.2.2.2.2), us) := by
  rw [pV_of (s := (n, HSt f r R, us)) HS_0 h1 (show r < n by omega) (by show 9 < 12; decide)]
  exact congrArg (fun F => some (n, F, us)) HSu_0
theorem s_gr (h1 : 128 ≤ r) (h2 : r + 16 < n) : gI (n, HSt f r R, us) r 13 9 = some R.2.2.2.2.2.2.2.2.2.1 := gI_of (s := (n, HSt f r R, us)) HS_0 h1 (show r < n by omega) rfl
theorem s_pf {v : Int32} (h1 : 128 ≤ r) (h2 : r + 16 < n) : pV (n, HSt f r R, us) r 13 10 (.int v) = some (n, HSt f r (R.1, R.2.1, R.2.2.1, R.2.2.2.1, R.2.2.2.2.1, R.2.2.2.2.2.1, R.2.2.2.2.2.2.1, R.2.2.2.2.2.2.2.1, R.2.2.2.2.2.2.2.2.1, R.2.2.2.2.2.2.2.2.2.1, v, R.2.2.2.2.2.2.2.2.2.2.2), us) := by
  rw [pV_of (s := (n, HSt f r R, us)) HS_0 h1 (show r < n by omega) (by show 10 < 12; decide)]
  exact congrArg (fun F => some (n, F, us)) HSu_0
theorem s_gf (h1 : 128 ≤ r) (h2 : r + 16 < n) : gI (n, HSt f r R, us) r 13 10 = some R.2.2.2.2.2.2.2.2.2.2.1 := gI_of (s := (n, HSt f r R, us)) HS_0 h1 (show r < n by omega) rfl
theorem s_pb {v : Int32} (h1 : 128 ≤ r) (h2 : r + 16 < n) : pV (n, HSt f r R, us) r 13 11 (.int v) = some (n, HSt f r (R.1, R.2.1, R.2.2.1, R.2.2.2.1, R.2.2.2.2.1, R.2.2.2.2.2.1, R.2.2.2.2.2.2.1, R.2.2.2.2.2.2.2.1, R.2.2.2.2.2.2.2.2.1, R.2.2.2.2.2.2.2.2.2.1, R.2.2.2.2.2.2.2.2.2.2.1, v), us) := by
  rw [pV_of (s := (n, HSt f r R, us)) HS_0 h1 (show r < n by omega) (by show 11 < 12; decide)]
  exact congrArg (fun F => some (n, F, us)) HSu_0
theorem s_gb (h1 : 128 ≤ r) (h2 : r + 16 < n) : gI (n, HSt f r R, us) r 13 11 = some R.2.2.2.2.2.2.2.2.2.2.2 := gI_of (s := (n, HSt f r R, us)) HS_0 h1 (show r < n by omega) rfl
theorem s_r0 (h1 : 128 ≤ r) (h2 : r + 16 < n) : gR (n, HSt f r R, us) r 13 0 = some (r + 1) := gR_of (s := (n, HSt f r R, us)) HS_0 h1 (show r < n by omega) rfl
theorem s_r1 (h1 : 128 ≤ r) (h2 : r + 16 < n) : gR (n, HSt f r R, us) r 13 1 = some (r + 2) := gR_of (s := (n, HSt f r R, us)) HS_0 h1 (show r < n by omega) rfl
theorem s_r2 (h1 : 128 ≤ r) (h2 : r + 16 < n) : gR (n, HSt f r R, us) r 13 2 = some (r + 3) := gR_of (s := (n, HSt f r R, us)) HS_0 h1 (show r < n by omega) rfl
theorem s_r3 (h1 : 128 ≤ r) (h2 : r + 16 < n) : gR (n, HSt f r R, us) r 13 3 = some (r + 4) := gR_of (s := (n, HSt f r R, us)) HS_0 h1 (show r < n by omega) rfl
theorem s_r4 (h1 : 128 ≤ r) (h2 : r + 16 < n) : gR (n, HSt f r R, us) r 13 4 = some (r + 5) := gR_of (s := (n, HSt f r R, us)) HS_0 h1 (show r < n by omega) rfl
theorem s_r5 (h1 : 128 ≤ r) (h2 : r + 16 < n) : gR (n, HSt f r R, us) r 13 5 = some (r + 6) := gR_of (s := (n, HSt f r R, us)) HS_0 h1 (show r < n by omega) rfl
theorem s_r6 (h1 : 128 ≤ r) (h2 : r + 16 < n) : gR (n, HSt f r R, us) r 13 6 = some (r + 11) := gR_of (s := (n, HSt f r R, us)) HS_0 h1 (show r < n by omega) rfl
theorem s_r7 (h1 : 128 ≤ r) (h2 : r + 16 < n) : gR (n, HSt f r R, us) r 13 7 = some (r + 16) := gR_of (s := (n, HSt f r R, us)) HS_0 h1 (show r < n by omega) rfl
theorem s_i0 (h1 : 128 ≤ r) (h2 : r + 16 < n) : gR (n, HSt f r R, us) (r + 6) 11 0 = some (r + 7) := gR_of (s := (n, HSt f r R, us)) HS_6 (by omega) (show r + 6 < n by omega) rfl
theorem s_i1 (h1 : 128 ≤ r) (h2 : r + 16 < n) : gR (n, HSt f r R, us) (r + 6) 11 1 = some (r + 8) := gR_of (s := (n, HSt f r R, us)) HS_6 (by omega) (show r + 6 < n by omega) rfl
theorem s_i2 (h1 : 128 ≤ r) (h2 : r + 16 < n) : gR (n, HSt f r R, us) (r + 6) 11 2 = some (r + 9) := gR_of (s := (n, HSt f r R, us)) HS_6 (by omega) (show r + 6 < n by omega) rfl
theorem s_i3 (h1 : 128 ≤ r) (h2 : r + 16 < n) : gR (n, HSt f r R, us) (r + 6) 11 3 = some (r + 10) := gR_of (s := (n, HSt f r R, us)) HS_6 (by omega) (show r + 6 < n by omega) rfl
theorem s_gd {β : Type} {b : Option β} (h1 : 128 ≤ r) (h2 : r + 16 < n) : gd (n, HSt f r R, us) r 13 b = b := gd_of (s := (n, HSt f r R, us)) HS_0 h1 (show r < n by omega)
theorem s_VA (h1 : 128 ≤ r) (h2 : r + 16 < n) : VA (n, HSt f r R, us) (r + 11) 12 (rVl R) := ⟨⟨HS_11, HS_12, HS_13, HS_14, HS_15⟩, by omega, by show r + 11 + 4 < n; omega, by decide⟩
theorem q_VA (hT : RSt f q Q) (D : q + 16 < r ∨ r + 16 < q) (h1 : 128 ≤ q) (h2 : q + 16 < n) : VA (n, HSt f r R, us) (q + 11) 12 (rVl Q) := ⟨⟨sq_i (q := q) (i := 11) hT D (by omega) HS_11, sq_i (q := q) (i := 12) hT D (by omega) HS_12, sq_i (q := q) (i := 13) hT D (by omega) HS_13, sq_i (q := q) (i := 14) hT D (by omega) HS_14, sq_i (q := q) (i := 15) hT D (by omega) HS_15⟩, by omega, by show q + 11 + 4 < n; omega, by decide⟩
theorem cpQ_of {s : HS} {a0 a1 N : Nat} {g0 g1 : Nat → Value} {C : String} {ci : Nat} (h0 : s.2.1 a0 = .inl (.object C, N, g0)) (h1 : s.2.1 a1 = .inl (.object C, N, g1)) (b0 : 128 ≤ a0 ∧ a0 < s.1) (b1 : 128 ≤ a1 ∧ a1 < s.1) (hN : N < 2 ^ 31) (U : ∀ i, i < N → g0 i = .null ∨ ∃ u, g0 i = .ref u ∧ isO s u ci = true) : cpQ C ci s a0 0 a1 0 (nI N) = some (s.1, va_up s.2.1 a1 (.inl (.object C, N, mx N g0 g1)), s.2.2) := by
  have b := cl0 hN
  have z : ((0 : Int32).toNatClampNeg) = 0 := rfl
  unfold cpQ
  rw [h0, h1]
  dsimp only
  rw [b.2, z, if_pos ⟨rfl, rfl, b0.1, b0.2, b1.1, b1.2, by decide, by decide, b.1, by omega, by omega, by
    rw [List.all_eq_true]
    intro i hi
    have hi := List.mem_range.mp hi
    rw [Nat.zero_add]
    rcases U i hi with q | ⟨u, q, q2⟩
    · rw [q]
    · rw [q]
      exact q2⟩]
  refine congrArg (fun F => some (s.1, va_up s.2.1 a1 (.inl (.object C, N, F)), s.2.2)) ?_
  funext j
  unfold va_cpy mx
  by_cases c : j < N
  · rw [if_pos ⟨Nat.zero_le _, by omega⟩, if_pos c, Nat.sub_zero, Nat.zero_add]
  · rw [if_neg (by omega), if_neg c]
theorem sc_L (r1 : 128 ≤ r) (r2 : r + 16 < n) (q1 : 128 ≤ q) (q2 : q + 16 < n) (hT : RSt f q Q) (D : q + 16 < r ∨ r + 16 < q) (hk : k ≤ 12) (ek : Q.2.2.2.2.2.2.2.2.2.1 = nI k) (U : ∀ i, i < 10 → Q.2.2.2.2.2.2.2.1 i = .null ∨ ∃ u, Q.2.2.2.2.2.2.2.1 i = .ref u ∧ isO (n, f, us) u 12 = true ∧ (u < r ∨ r + 16 < u)) : ∀ m i M (R : RS), i + m = k → m < M → loopK (scB (d + 1) r q) M (nI i, (n, HSt f r R, us)) = some ((), (n, HSt f r (R.1, R.2.1, R.2.2.1, R.2.2.2.1, mx 10 Q.2.2.2.2.1 R.2.2.2.2.1, R.2.2.2.2.2.1, (fun j => if i ≤ j ∧ j < k then Q.2.2.2.2.2.2.1 j else R.2.2.2.2.2.2.1 j), mx 10 Q.2.2.2.2.2.2.2.1 R.2.2.2.2.2.2.2.1, Q.2.2.2.2.2.2.2.2.1, Q.2.2.2.2.2.2.2.2.2.1, Q.2.2.2.2.2.2.2.2.2.2.1, R.2.2.2.2.2.2.2.2.2.2.2), us)) := by
  have gq : ∀ (R : RS) (j x : Nat), ([Value.ref (q + 1), .ref (q + 2), .ref (q + 3), .ref (q + 4), .ref (q + 5), .ref (q + 6), .ref (q + 11), .ref (q + 16), .int Q.2.2.2.2.2.2.2.2.1, .int Q.2.2.2.2.2.2.2.2.2.1, .int Q.2.2.2.2.2.2.2.2.2.2.1, .int Q.2.2.2.2.2.2.2.2.2.2.2])[j]? = some (.ref x) → gR (n, HSt f r R, us) q 13 j = some x := fun R j x h => gR_of (s := (n, HSt f r R, us)) (sq_0 hT D) q1 (by show q < n; omega) h
  have gi : ∀ (R : RS) (j : Nat) (x : Int32), ([Value.ref (q + 1), .ref (q + 2), .ref (q + 3), .ref (q + 4), .ref (q + 5), .ref (q + 6), .ref (q + 11), .ref (q + 16), .int Q.2.2.2.2.2.2.2.2.1, .int Q.2.2.2.2.2.2.2.2.2.1, .int Q.2.2.2.2.2.2.2.2.2.2.1, .int Q.2.2.2.2.2.2.2.2.2.2.2])[j]? = some (.int x) → gI (n, HSt f r R, us) q 13 j = some x := fun R j x h => gI_of (s := (n, HSt f r R, us)) (sq_0 hT D) q1 (by show q < n; omega) h
  intro m
  induction m with
  | zero =>
    intro i M R e1 e2
    obtain ⟨M, rfl⟩ : ∃ M', M = M' + 1 := ⟨M - 1, by omega⟩
    have e : (fun j => if i ≤ j ∧ j < k then Q.2.2.2.2.2.2.1 j else R.2.2.2.2.2.2.1 j) = R.2.2.2.2.2.2.1 := by
      funext j
      rw [if_neg (by omega)]
    have c5 : ∀ R : RS, cpA (n, HSt f r R, us) (q + 5) 0 (r + 5) 0 10 = some (n, HSt f r (R.1, R.2.1, R.2.2.1, R.2.2.2.1, mx 10 Q.2.2.2.2.1 R.2.2.2.2.1, R.2.2.2.2.2.1, R.2.2.2.2.2.2.1, R.2.2.2.2.2.2.2.1, R.2.2.2.2.2.2.2.2.1, R.2.2.2.2.2.2.2.2.2.1, R.2.2.2.2.2.2.2.2.2.2.1, R.2.2.2.2.2.2.2.2.2.2.2), us) := fun R => by
      rw [show (10 : Int32) = nI 10 from rfl, cpL_of (s := (n, HSt f r R, us)) (sq_i hT D (by omega) HS_5) HS_5 ⟨by omega, by show q + 5 < n; omega⟩ ⟨by omega, by show r + 5 < n; omega⟩ (Nat.le_refl _) (Nat.le_refl _) (by decide)]
      exact congrArg (fun F => some (n, F, us)) HSu_5
    have c7 : ∀ R : RS, cpQ "StowTongueModel$Code" 12 (n, HSt f r R, us) (q + 16) 0 (r + 16) 0 10 = some (n, HSt f r (R.1, R.2.1, R.2.2.1, R.2.2.2.1, R.2.2.2.2.1, R.2.2.2.2.2.1, R.2.2.2.2.2.2.1, mx 10 Q.2.2.2.2.2.2.2.1 R.2.2.2.2.2.2.2.1, R.2.2.2.2.2.2.2.2.1, R.2.2.2.2.2.2.2.2.2.1, R.2.2.2.2.2.2.2.2.2.2.1, R.2.2.2.2.2.2.2.2.2.2.2), us) := fun R => by
      rw [show (10 : Int32) = nI 10 from rfl, cpQ_of (s := (n, HSt f r R, us)) (sq_i hT D (by omega) HS_16) HS_16 ⟨by omega, by show q + 16 < n; omega⟩ ⟨by omega, by show r + 16 < n; omega⟩ (by decide) (fun i hi => by
        rcases U i hi with w | ⟨u, w1, w2, w3⟩
        · exact Or.inl w
        · exact Or.inr ⟨u, w1, isO_keep w2 (HS_off w3) (Nat.le_refl _)⟩)]
      exact congrArg (fun F => some (n, F, us)) HSu_16
    rw [loopK_succ, scB_eq, gi R 9 Q.2.2.2.2.2.2.2.2.2.1 rfl, Option.bind_some, if_pos (show Q.2.2.2.2.2.2.2.2.2.1 ≤ nI i by rw [ek]; exact nI_le (by omega) (by omega)), gq R 4 (q + 5) rfl, Option.bind_some, s_r4 r1 r2, Option.bind_some, c5, Option.bind_some, gq _ 7 (q + 16) rfl, Option.bind_some, s_r7 r1 r2, Option.bind_some, c7, Option.bind_some, gi _ 8 Q.2.2.2.2.2.2.2.2.1 rfl, Option.bind_some, s_po r1 r2, Option.bind_some, gi _ 9 Q.2.2.2.2.2.2.2.2.2.1 rfl, Option.bind_some, s_pr r1 r2, Option.bind_some, gi _ 10 Q.2.2.2.2.2.2.2.2.2.2.1 rfl, Option.bind_some, s_pf r1 r2, Option.bind_some, e]
  | succ m ih =>
    intro i M R e1 e2
    obtain ⟨M, rfl⟩ : ∃ M', M = M' + 1 := ⟨M - 1, by omega⟩
    rw [loopK_succ, scB_eq, gi R 9 Q.2.2.2.2.2.2.2.2.2.1 rfl, Option.bind_some, if_neg (show ¬ Q.2.2.2.2.2.2.2.2.2.1 ≤ nI i by rw [ek]; exact fun w => absurd (nI_lt (a := i) (b := k) (by omega) (by omega)) (Int32.not_lt.mpr w)), s_r6 r1 r2, Option.bind_some, gq R 6 (q + 11) rfl, Option.bind_some, e_cpy (s_VA r1 r2) (show i < 12 by omega) (q_VA hT D q1 q2) (show i < 12 by omega), bnd_some]
    dsimp only
    rw [HSu_v, show nI i + 1 = nI (i + 1) from nI_add i 1, ih (i + 1) M _ (by omega) (by omega)]
    dsimp only
    have e : (fun j => if i + 1 ≤ j ∧ j < k then Q.2.2.2.2.2.2.1 j else upQ (rVl R) i (rVl Q i) j) = (fun j => if i ≤ j ∧ j < k then Q.2.2.2.2.2.2.1 j else R.2.2.2.2.2.2.1 j) := by
      funext j
      unfold upQ
      by_cases c : j = i
      · rw [if_neg (by omega), if_pos c, if_pos (by omega), c]
      · rw [if_neg c]
        by_cases w : i + 1 ≤ j ∧ j < k
        · rw [if_pos w, if_pos (by omega)]
        · rw [if_neg w, if_neg (by omega)]
    rw [e]
theorem e_stCopy (r1 : 128 ≤ r) (r2 : r + 16 < n) (q1 : 128 ≤ q) (q2 : q + 16 < n) (hT : RSt f q Q) (D : q + 16 < r ∨ r + 16 < q) (hk : k ≤ 12) (ek : Q.2.2.2.2.2.2.2.2.2.1 = nI k) (U : ∀ i, i < 10 → Q.2.2.2.2.2.2.2.1 i = .null ∨ ∃ u, Q.2.2.2.2.2.2.2.1 i = .ref u ∧ isO (n, f, us) u 12 = true ∧ (u < r ∨ r + 16 < u)) : x_State_copy (d + 2) r q (n, HSt f r R, us) = some ((), (n, HSt f r (cpR R Q k), us)) := by
  have gq : ∀ (R : RS) (j x : Nat), ([Value.ref (q + 1), .ref (q + 2), .ref (q + 3), .ref (q + 4), .ref (q + 5), .ref (q + 6), .ref (q + 11), .ref (q + 16), .int Q.2.2.2.2.2.2.2.2.1, .int Q.2.2.2.2.2.2.2.2.2.1, .int Q.2.2.2.2.2.2.2.2.2.2.1, .int Q.2.2.2.2.2.2.2.2.2.2.2])[j]? = some (.ref x) → gR (n, HSt f r R, us) q 13 j = some x := fun R j x h => gR_of (s := (n, HSt f r R, us)) (sq_0 hT D) q1 (by show q < n; omega) h
  have gv : ∀ (R : RS) (j x : Nat), ([Value.ref (q + 7), .ref (q + 8), .ref (q + 9), .ref (q + 10)])[j]? = some (.ref x) → gR (n, HSt f r R, us) (q + 6) 11 j = some x := fun R j x h => gR_of (s := (n, HSt f r R, us)) (sq_i hT D (by omega) HS_6) (by omega) (by show q + 6 < n; omega) h
  have k1 : ∀ R : RS, cpA (n, HSt f r R, us) (q + 1) 0 (r + 1) 0 100 = some (n, HSt f r (mx 100 Q.1 R.1, R.2.1, R.2.2.1, R.2.2.2.1, R.2.2.2.2.1, R.2.2.2.2.2.1, R.2.2.2.2.2.2.1, R.2.2.2.2.2.2.2.1, R.2.2.2.2.2.2.2.2.1, R.2.2.2.2.2.2.2.2.2.1, R.2.2.2.2.2.2.2.2.2.2.1, R.2.2.2.2.2.2.2.2.2.2.2), us) := fun R => by
    rw [show (100 : Int32) = nI 100 from rfl, cpI_of (s := (n, HSt f r R, us)) (sq_i hT D (by omega) HS_1) HS_1 ⟨by omega, by show q + 1 < n; omega⟩ ⟨by omega, by show r + 1 < n; omega⟩ (Nat.le_refl _) (Nat.le_refl _) (by decide)]
    exact congrArg (fun F => some (n, F, us)) HSu_1
  have k2 : ∀ R : RS, cpA (n, HSt f r R, us) (q + 2) 0 (r + 2) 0 100 = some (n, HSt f r (R.1, mx 100 Q.2.1 R.2.1, R.2.2.1, R.2.2.2.1, R.2.2.2.2.1, R.2.2.2.2.2.1, R.2.2.2.2.2.2.1, R.2.2.2.2.2.2.2.1, R.2.2.2.2.2.2.2.2.1, R.2.2.2.2.2.2.2.2.2.1, R.2.2.2.2.2.2.2.2.2.2.1, R.2.2.2.2.2.2.2.2.2.2.2), us) := fun R => by
    rw [show (100 : Int32) = nI 100 from rfl, cpI_of (s := (n, HSt f r R, us)) (sq_i hT D (by omega) HS_2) HS_2 ⟨by omega, by show q + 2 < n; omega⟩ ⟨by omega, by show r + 2 < n; omega⟩ (Nat.le_refl _) (Nat.le_refl _) (by decide)]
    exact congrArg (fun F => some (n, F, us)) HSu_2
  have k3 : ∀ R : RS, cpA (n, HSt f r R, us) (q + 3) 0 (r + 3) 0 800 = some (n, HSt f r (R.1, R.2.1, mx 800 Q.2.2.1 R.2.2.1, R.2.2.2.1, R.2.2.2.2.1, R.2.2.2.2.2.1, R.2.2.2.2.2.2.1, R.2.2.2.2.2.2.2.1, R.2.2.2.2.2.2.2.2.1, R.2.2.2.2.2.2.2.2.2.1, R.2.2.2.2.2.2.2.2.2.2.1, R.2.2.2.2.2.2.2.2.2.2.2), us) := fun R => by
    rw [show (800 : Int32) = nI 800 from rfl, cpL_of (s := (n, HSt f r R, us)) (sq_i hT D (by omega) HS_3) HS_3 ⟨by omega, by show q + 3 < n; omega⟩ ⟨by omega, by show r + 3 < n; omega⟩ (Nat.le_refl _) (Nat.le_refl _) (by decide)]
    exact congrArg (fun F => some (n, F, us)) HSu_3
  have k7 : ∀ R : RS, cpA (n, HSt f r R, us) (q + 7) 0 (r + 7) 0 2000 = some (n, HSt f r (R.1, R.2.1, R.2.2.1, R.2.2.2.1, R.2.2.2.2.1, (fun j => ((if j < 2000 then (Q.2.2.2.2.2.1 j).1 else (R.2.2.2.2.2.1 j).1), (R.2.2.2.2.2.1 j).2)), R.2.2.2.2.2.2.1, R.2.2.2.2.2.2.2.1, R.2.2.2.2.2.2.2.2.1, R.2.2.2.2.2.2.2.2.2.1, R.2.2.2.2.2.2.2.2.2.2.1, R.2.2.2.2.2.2.2.2.2.2.2), us) := fun R => by
    rw [show (2000 : Int32) = nI 2000 from rfl, cpI_of (s := (n, HSt f r R, us)) (sq_i hT D (by omega) HS_7) HS_7 ⟨by omega, by show q + 7 < n; omega⟩ ⟨by omega, by show r + 7 < n; omega⟩ (Nat.le_refl _) (Nat.le_refl _) (by decide)]
    exact congrArg (fun F => some (n, F, us)) HSu_7
  have k8 : ∀ R : RS, cpA (n, HSt f r R, us) (q + 8) 0 (r + 8) 0 2000 = some (n, HSt f r (R.1, R.2.1, R.2.2.1, R.2.2.2.1, R.2.2.2.2.1, (fun j => ((R.2.2.2.2.2.1 j).1, (if j < 2000 then (Q.2.2.2.2.2.1 j).2.1 else (R.2.2.2.2.2.1 j).2.1), (R.2.2.2.2.2.1 j).2.2)), R.2.2.2.2.2.2.1, R.2.2.2.2.2.2.2.1, R.2.2.2.2.2.2.2.2.1, R.2.2.2.2.2.2.2.2.2.1, R.2.2.2.2.2.2.2.2.2.2.1, R.2.2.2.2.2.2.2.2.2.2.2), us) := fun R => by
    rw [show (2000 : Int32) = nI 2000 from rfl, cpI_of (s := (n, HSt f r R, us)) (sq_i hT D (by omega) HS_8) HS_8 ⟨by omega, by show q + 8 < n; omega⟩ ⟨by omega, by show r + 8 < n; omega⟩ (Nat.le_refl _) (Nat.le_refl _) (by decide)]
    exact congrArg (fun F => some (n, F, us)) HSu_8
  have k9 : ∀ R : RS, cpA (n, HSt f r R, us) (q + 9) 0 (r + 9) 0 2000 = some (n, HSt f r (R.1, R.2.1, R.2.2.1, R.2.2.2.1, R.2.2.2.2.1, (fun j => ((R.2.2.2.2.2.1 j).1, (R.2.2.2.2.2.1 j).2.1, (if j < 2000 then (Q.2.2.2.2.2.1 j).2.2.1 else (R.2.2.2.2.2.1 j).2.2.1), (R.2.2.2.2.2.1 j).2.2.2)), R.2.2.2.2.2.2.1, R.2.2.2.2.2.2.2.1, R.2.2.2.2.2.2.2.2.1, R.2.2.2.2.2.2.2.2.2.1, R.2.2.2.2.2.2.2.2.2.2.1, R.2.2.2.2.2.2.2.2.2.2.2), us) := fun R => by
    rw [show (2000 : Int32) = nI 2000 from rfl, cpL_of (s := (n, HSt f r R, us)) (sq_i hT D (by omega) HS_9) HS_9 ⟨by omega, by show q + 9 < n; omega⟩ ⟨by omega, by show r + 9 < n; omega⟩ (Nat.le_refl _) (Nat.le_refl _) (by decide)]
    exact congrArg (fun F => some (n, F, us)) HSu_9
  have k10 : ∀ R : RS, cpA (n, HSt f r R, us) (q + 10) 0 (r + 10) 0 2000 = some (n, HSt f r (R.1, R.2.1, R.2.2.1, R.2.2.2.1, R.2.2.2.2.1, (fun j => ((R.2.2.2.2.2.1 j).1, (R.2.2.2.2.2.1 j).2.1, (R.2.2.2.2.2.1 j).2.2.1, (if j < 2000 then (Q.2.2.2.2.2.1 j).2.2.2 else (R.2.2.2.2.2.1 j).2.2.2))), R.2.2.2.2.2.2.1, R.2.2.2.2.2.2.2.1, R.2.2.2.2.2.2.2.2.1, R.2.2.2.2.2.2.2.2.2.1, R.2.2.2.2.2.2.2.2.2.2.1, R.2.2.2.2.2.2.2.2.2.2.2), us) := fun R => by
    rw [show (2000 : Int32) = nI 2000 from rfl, cpL_of (s := (n, HSt f r R, us)) (sq_i hT D (by omega) HS_10) HS_10 ⟨by omega, by show q + 10 < n; omega⟩ ⟨by omega, by show r + 10 < n; omega⟩ (Nat.le_refl _) (Nat.le_refl _) (by decide)]
    exact congrArg (fun F => some (n, F, us)) HSu_10
  have k4 : ∀ R : RS, cpA (n, HSt f r R, us) (q + 4) 0 (r + 4) 0 12 = some (n, HSt f r (R.1, R.2.1, R.2.2.1, mx 12 Q.2.2.2.1 R.2.2.2.1, R.2.2.2.2.1, R.2.2.2.2.2.1, R.2.2.2.2.2.2.1, R.2.2.2.2.2.2.2.1, R.2.2.2.2.2.2.2.2.1, R.2.2.2.2.2.2.2.2.2.1, R.2.2.2.2.2.2.2.2.2.2.1, R.2.2.2.2.2.2.2.2.2.2.2), us) := fun R => by
    rw [show (12 : Int32) = nI 12 from rfl, cpL_of (s := (n, HSt f r R, us)) (sq_i hT D (by omega) HS_4) HS_4 ⟨by omega, by show q + 4 < n; omega⟩ ⟨by omega, by show r + 4 < n; omega⟩ (Nat.le_refl _) (Nat.le_refl _) (by decide)]
    exact congrArg (fun F => some (n, F, us)) HSu_4
  unfold x_State_copy
  dsimp only
  rw [s_gd r1 r2, gq _ 0 (q + 1) rfl, Option.bind_some, s_r0 r1 r2, Option.bind_some, k1, Option.bind_some]
  rw [gq _ 1 (q + 2) rfl, Option.bind_some, s_r1 r1 r2, Option.bind_some, k2, Option.bind_some]
  dsimp only
  rw [gq _ 2 (q + 3) rfl, Option.bind_some, s_r2 r1 r2, Option.bind_some, k3, Option.bind_some]
  dsimp only
  rw [gq _ 5 (q + 6) rfl, Option.bind_some, gv _ 0 (q + 7) rfl, Option.bind_some, s_r5 r1 r2, Option.bind_some, s_i0 r1 r2, Option.bind_some, k7, Option.bind_some]
  dsimp only
  rw [gq _ 5 (q + 6) rfl, Option.bind_some, gv _ 1 (q + 8) rfl, Option.bind_some, s_r5 r1 r2, Option.bind_some, s_i1 r1 r2, Option.bind_some, k8, Option.bind_some]
  dsimp only
  rw [gq _ 5 (q + 6) rfl, Option.bind_some, gv _ 2 (q + 9) rfl, Option.bind_some, s_r5 r1 r2, Option.bind_some, s_i2 r1 r2, Option.bind_some, k9, Option.bind_some]
  dsimp only
  rw [gq _ 5 (q + 6) rfl, Option.bind_some, gv _ 3 (q + 10) rfl, Option.bind_some, s_r5 r1 r2, Option.bind_some, s_i3 r1 r2, Option.bind_some, k10, Option.bind_some]
  dsimp only
  rw [gq _ 3 (q + 4) rfl, Option.bind_some, s_r3 r1 r2, Option.bind_some, k4, Option.bind_some]
  dsimp only
  refine Eq.trans (show _ = loopK (scB (d + 1) r q) FU (nI 0, _) from rfl) ((sc_L r1 r2 q1 q2 hT D hk ek U k 0 FU _ (by omega) (by rw [FU_eq]; omega)).trans ?_)
  dsimp only
  refine congrArg (fun F => some ((), (n, HSt f r F, us))) ?_
  unfold cpR
  have e1 : (fun j => if 0 ≤ j ∧ j < k then Q.2.2.2.2.2.2.1 j else R.2.2.2.2.2.2.1 j) = mx k Q.2.2.2.2.2.2.1 R.2.2.2.2.2.2.1 := by
    funext j
    unfold mx
    by_cases c : j < k
    · rw [if_pos ⟨Nat.zero_le _, c⟩, if_pos c]
    · rw [if_neg (fun w => c w.2), if_neg c]
  have e2 : (fun j => ((if j < 2000 then (Q.2.2.2.2.2.1 j).1 else (R.2.2.2.2.2.1 j).1), (if j < 2000 then (Q.2.2.2.2.2.1 j).2.1 else (R.2.2.2.2.2.1 j).2.1), (if j < 2000 then (Q.2.2.2.2.2.1 j).2.2.1 else (R.2.2.2.2.2.1 j).2.2.1), (if j < 2000 then (Q.2.2.2.2.2.1 j).2.2.2 else (R.2.2.2.2.2.1 j).2.2.2))) = mx 2000 Q.2.2.2.2.2.1 R.2.2.2.2.2.1 := by
    funext j
    unfold mx
    by_cases c : j < 2000
    · rw [if_pos c, if_pos c, if_pos c, if_pos c, if_pos c]
    · rw [if_neg c, if_neg c, if_neg c, if_neg c, if_neg c]
  rw [e1, e2]
end
