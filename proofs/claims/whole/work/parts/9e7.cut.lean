/-! Code.cut -/
def cuT (x0 : Nat) (x2 x4 x5 : Int32) (s : HS) : Option (Unit × HS) := ((pV s x0 12 3 (.int (x5 - x4))).bind fun s5 => ((pV s5 x0 12 7 (.int x2)).bind fun s6 => ((pV s6 x0 12 8 (.int x4)).bind fun s7 => (some ((), s7)))))
def cuB (d x0 x1 : Nat) (x2 x4 x5 : Int32) : (Int32 × HS → Option (Unit × HS)) → Int32 × HS → Option (Unit × HS) := (fun (again27 : Int32 × HS → Option (Unit × HS)) (z27 : Int32 × HS) => (if x5 ≤ z27.1 then (cuT x0 x2 x4 x5 z27.2) else ((gR z27.2 x0 12 1).bind fun v8 => ((gR z27.2 x1 12 1).bind fun v9 => (bnd (x_Vals_copy d v8 (z27.1 - x4) v9 z27.1 z27.2) fun v11 s10 => (again27 ((z27.1 + 1), s10)))))))
theorem cuB_eq {d x0 x1 : Nat} {x2 x4 x5 : Int32} {z : Int32} {s : HS} {ag : Int32 × HS → Option (Unit × HS)} : cuB d x0 x1 x2 x4 x5 ag (z, s) = (if x5 ≤ z then (cuT x0 x2 x4 x5 s) else ((gR s x0 12 1).bind fun v8 => ((gR s x1 12 1).bind fun v9 => (bnd (x_Vals_copy d v8 (z - x4) v9 z s) fun v11 s10 => (ag ((z + 1), s10)))))) := rfl
/-- ints from place P on into another array from its first place on -/
theorem cpIo_of {s : HS} {a0 a1 N0 N1 n P : Nat} {g0 g1 : Nat → Int32} (h0 : s.2.1 a0 = aInt N0 g0) (h1 : s.2.1 a1 = aInt N1 g1) (b0 : 128 ≤ a0 ∧ a0 < s.1) (b1 : 128 ≤ a1 ∧ a1 < s.1) (n0 : P + n ≤ N0) (n1 : n ≤ N1) (hN : N0 < 2 ^ 31) : cpA s a0 (nI P) a1 0 (nI n) = some (s.1, va_up s.2.1 a1 (aInt N1 fun j => if j < n then g0 (P + j) else g1 j), s.2.2) := by
  have b := cl0 (show n < 2 ^ 31 by omega)
  have bp := cl0 (show P < 2 ^ 31 by omega)
  have z : ((0 : Int32).toNatClampNeg) = 0 := rfl
  unfold cpA
  rw [h0, h1]
  dsimp only
  rw [b.2, bp.2, z, if_pos ⟨rfl, by decide, rfl, b0.1, b0.2, b1.1, b1.2, bp.1, by decide, b.1, by omega, by omega, by
    rw [List.all_eq_true]
    intro i _
    rfl⟩]
  refine congrArg (fun F => some (s.1, va_up s.2.1 a1 (.inl (.int, N1, F)), s.2.2)) ?_
  funext j
  unfold va_cpy
  by_cases c : j < n
  · rw [if_pos ⟨Nat.zero_le _, by omega⟩]
    show Value.int (g0 (P + (j - 0))) = Value.int (if j < n then g0 (P + j) else g1 j)
    rw [if_pos c, Nat.sub_zero]
  · rw [if_neg (by omega)]
    show Value.int (g1 j) = Value.int (if j < n then g0 (P + j) else g1 j)
    rw [if_neg c]
section
variable {n us d c v0 v1 a e : Nat} {f : Nat → am_C} {sp sp0 : Nat → Int32} {q q0 : Nat → VQ}
theorem VA.kept {f f' : Nat → am_C} {r N : Nat} {q : Nat → VQ} (V : VA (n, f, us) r N q) (h : ∀ x, r ≤ x → x ≤ r + 4 → f' x = f x) : VA (n, f', us) r N q := ⟨V.1.kept h, V.2⟩
theorem vUp_out {f : Nat → am_C} {r N x : Nat} {q : Nat → VQ} (h : x ≤ r ∨ r + 4 < x) : vUp f r N q x = f x := by
  unfold vUp
  rw [va_up_ne _ _ (by omega), va_up_ne _ _ (by omega), va_up_ne _ _ (by omega), va_up_ne _ _ (by omega)]
theorem vUp_VA {f : Nat → am_C} {r N : Nat} {q q' : Nat → VQ} (V : VA (n, f, us) r N q) : VA (n, vUp f r N q', us) r N q' := by
  refine ⟨⟨(vUp_out (Or.inl (Nat.le_refl _))).trans V.1.1, ?_, ?_, ?_, ?_⟩, V.2⟩
  · show vUp f r N q' (r + 1) = _
    unfold vUp
    rw [va_up_ne _ _ (by omega), va_up_ne _ _ (by omega), va_up_ne _ _ (by omega), va_up_self]
  · show vUp f r N q' (r + 2) = _
    unfold vUp
    rw [va_up_ne _ _ (by omega), va_up_ne _ _ (by omega), va_up_self]
  · show vUp f r N q' (r + 3) = _
    unfold vUp
    rw [va_up_ne _ _ (by omega), va_up_self]
  · show vUp f r N q' (r + 4) = _
    unfold vUp
    rw [va_up_self]
theorem cu_L {x2 : Int32} {fs : List Value} (hn : 1311 ≤ n) (c1 : 401 ≤ c) (c2 : c + 6 < 1311) (hv : v0 ≤ v1) (hv4 : v1 ≤ v0 + 400) (hv5 : v1 ≤ 1500) : ∀ m i M (f : Nat → am_C) (q0 : Nat → VQ), i + m = v1 → v0 ≤ i → m < M → f c = .inr (12, fs) → fs[1]? = some (.ref (c + 2)) → gR (n, f, us) 177 12 1 = some 179 → f 177 = f 177 → VA (n, f, us) (c + 2) 400 q0 → VA (n, f, us) 179 1500 q → ∃ f1 q1, loopK (cuB (d + 1) c 177 x2 (nI v0) (nI v1)) M (nI i, (n, f, us)) = cuT c x2 (nI v0) (nI v1) (n, f1, us) ∧ VA (n, f1, us) (c + 2) 400 q1 ∧ (∀ j, i ≤ v0 + j → j < v1 - v0 → q1 j = q (v0 + j)) ∧ (∀ j, v0 + j < i → q1 j = q0 j) ∧ ∀ z, z ≤ c + 2 ∨ c + 6 < z → f1 z = f z := by
  intro m
  induction m with
  | zero =>
    intro i M f q0 e1 e0 e2 hc hf g7 _ V W
    obtain ⟨M, rfl⟩ : ∃ M', M = M' + 1 := ⟨M - 1, by omega⟩
    refine ⟨f, q0, ?_, V, fun j h1 h2 => by omega, fun _ _ => rfl, fun _ _ => rfl⟩
    rw [loopK_succ, cuB_eq, if_pos (nI_le (by omega) (by omega))]
  | succ m ih =>
    intro i M f q0 e1 e0 e2 hc hf g7 _ V W
    obtain ⟨M, rfl⟩ : ∃ M', M = M' + 1 := ⟨M - 1, by omega⟩
    have off : ∀ z, z ≤ c + 2 ∨ c + 6 < z → vUp f (c + 2) 400 (upQ q0 (i - v0) (q i)) z = f z := fun z hz => vUp_out (by omega)
    have g7' : gR (n, vUp f (c + 2) 400 (upQ q0 (i - v0) (q i)), us) 177 12 1 = some 179 := by
      rw [← g7]
      unfold gR gV
      dsimp only
      rw [off 177 (by omega)]
    obtain ⟨f1, q1, x, y1, y2, y3, y4⟩ := ih (i + 1) M (vUp f (c + 2) 400 (upQ q0 (i - v0) (q i))) (upQ q0 (i - v0) (q i)) (by omega) (by omega) (by omega) ((off c (by omega)).trans hc) hf g7' rfl (vUp_VA V) (W.kept (fun z h1 h2 => off z (by omega)))
    refine ⟨f1, q1, ?_, y1, fun j h1 h2 => ?_, fun j h1 => ?_, fun z hz => (y4 z hz).trans (off z hz)⟩
    · rw [loopK_succ, cuB_eq, if_neg (fun w => absurd (nI_lt (a := i) (b := v1) (by omega) (by omega)) (Int32.not_lt.mpr w)), gR_of (s := (n, f, us)) (k := 1) (x := c + 2) hc (by omega) (by show c < n; omega) hf, Option.bind_some, g7, Option.bind_some, show nI i - nI v0 = nI (i - v0) from nI_sub e0, e_cpy V (show i - v0 < 400 by omega) W (show i < 1500 by omega), bnd_some, show nI i + 1 = nI (i + 1) from nI_add i 1]
      exact x
    · by_cases cj : v0 + j = i
      · rw [y3 j (by omega)]
        unfold upQ
        rw [if_pos (by omega), cj]
      · exact y2 j (by omega) h2
    · rw [y3 j (by omega)]
      unfold upQ
      rw [if_neg (by omega)]
theorem e_cut {i2 i3 i4 i5 i6 i7 i8 i9 : Int32} {rest : List Value} (hn : 1311 ≤ n) (c1 : 401 ≤ c) (c2 : c + 6 < 1311) (hc : f c = .inr (12, [.ref (c + 1), .ref (c + 2), .int i2, .int i3, .int i4, .int i5, .int i6, .int i7, .int i8, .int i9])) (hs : f (c + 1) = aInt 1600 sp0) (V : VA (n, f, us) (c + 2) 400 q0) (h177 : f 177 = .inr (12, .ref 178 :: .ref 179 :: rest)) (h178 : f 178 = aInt 6000 sp) (W : VA (n, f, us) 179 1500 q) (ha : a ≤ e) (he : e ≤ a + 1600) (he6 : e ≤ 6000) (hv : v0 ≤ v1) (hv4 : v1 ≤ v0 + 400) (hv5 : v1 ≤ 1500) : ∃ f' sp' q', x_Code_cut (d + 2) c 177 (nI a) (nI e) (nI v0) (nI v1) (n, f, us) = some ((), (n, f', us)) ∧ f' c = .inr (12, [.ref (c + 1), .ref (c + 2), .int (nI (e - a)), .int (nI (v1 - v0)), .int i4, .int i5, .int i6, .int (nI a), .int (nI v0), .int i9]) ∧ f' (c + 1) = aInt 1600 sp' ∧ (∀ j, j < e - a → sp' j = sp (a + j)) ∧ VA (n, f', us) (c + 2) 400 q' ∧ (∀ j, j < v1 - v0 → q' j = q (v0 + j)) ∧ ∀ z, z < c ∨ c + 6 < z → f' z = f z := by
  have cn : c < n := by omega
  have d0 : nI e - nI a = nI (e - a) := nI_sub ha
  have d1 : nI v1 - nI v0 = nI (v1 - v0) := nI_sub hv
  have cp := cpIo_of (s := (n, f, us)) (a0 := 178) (a1 := c + 1) (P := a) (n := e - a) h178 hs ⟨by decide, by show 178 < n; omega⟩ ⟨by omega, by show c + 1 < n; omega⟩ (by omega) (by omega) (by decide)
  obtain ⟨f1, hf1⟩ : ∃ f1, f1 = va_up f (c + 1) (aInt 1600 fun j => if j < e - a then sp (a + j) else sp0 j) := ⟨_, rfl⟩
  have cp' : cpA (n, f, us) 178 (nI a) (c + 1) 0 (nI (e - a)) = some (n, f1, us) := by rw [cp, hf1]
  have f1c : f1 c = .inr (12, [.ref (c + 1), .ref (c + 2), .int i2, .int i3, .int i4, .int i5, .int i6, .int i7, .int i8, .int i9]) := by rw [hf1, va_up_ne _ _ (by omega)]; exact hc
  have f1s : f1 (c + 1) = aInt 1600 fun j => if j < e - a then sp (a + j) else sp0 j := by rw [hf1]; exact va_up_self _ _ _
  have f1o : ∀ z, ¬ z = c + 1 → f1 z = f z := fun z hz => by rw [hf1]; exact va_up_ne _ _ hz
  clear hf1 cp
  obtain ⟨f2, hf2⟩ : ∃ f2, f2 = va_up f1 c (.inr (12, [.ref (c + 1), .ref (c + 2), .int (nI (e - a)), .int i3, .int i4, .int i5, .int i6, .int i7, .int i8, .int i9])) := ⟨_, rfl⟩
  have p2 : pV (n, f1, us) c 12 2 (.int (nI (e - a))) = some (n, f2, us) := by
    rw [pV_of (s := (n, f1, us)) f1c (by omega) cn (by show 2 < 10; decide), hf2]
    rfl
  have f2c : f2 c = .inr (12, [.ref (c + 1), .ref (c + 2), .int (nI (e - a)), .int i3, .int i4, .int i5, .int i6, .int i7, .int i8, .int i9]) := by rw [hf2]; exact va_up_self _ _ _
  have f2o : ∀ z, ¬ z = c → f2 z = f1 z := fun z hz => by rw [hf2]; exact va_up_ne _ _ hz
  clear hf2
  have V2 : VA (n, f2, us) (c + 2) 400 q0 := V.kept (fun z h1 h2 => by rw [f2o z (by omega), f1o z (by omega)])
  have W2 : VA (n, f2, us) 179 1500 q := W.kept (fun z h1 h2 => by rw [f2o z (by omega), f1o z (by omega)])
  have f2a : f2 177 = .inr (12, .ref 178 :: .ref 179 :: rest) := by rw [f2o 177 (by omega), f1o 177 (by omega)]; exact h177
  obtain ⟨f3, q3, x, y1, y2, y3, y4⟩ := cu_L (d := d) (x2 := nI a) (us := us) hn c1 c2 hv hv4 hv5 (v1 - v0) v0 FU f2 q0 (by omega) (Nat.le_refl _) (by rw [FU_eq]; omega) f2c rfl (gR_of (s := (n, f2, us)) f2a (by decide) (show 177 < n by omega) rfl) rfl V2 W2
  have f3c : f3 c = .inr (12, [.ref (c + 1), .ref (c + 2), .int (nI (e - a)), .int i3, .int i4, .int i5, .int i6, .int i7, .int i8, .int i9]) := (y4 c (by omega)).trans f2c
  have up3 : f3 = va_up f3 c (.inr (12, [.ref (c + 1), .ref (c + 2), .int (nI (e - a)), .int i3, .int i4, .int i5, .int i6, .int i7, .int i8, .int i9])) := (am_up_same f3c).symm
  obtain ⟨f4, hf4⟩ : ∃ f4, f4 = va_up f3 c (.inr (12, [.ref (c + 1), .ref (c + 2), .int (nI (e - a)), .int (nI (v1 - v0)), .int i4, .int i5, .int i6, .int (nI a), .int (nI v0), .int i9])) := ⟨_, rfl⟩
  have tl : cuT c (nI a) (nI v0) (nI v1) (n, f3, us) = some ((), (n, f4, us)) := by
    unfold cuT
    rw [d1, up3, G_pV (by omega) cn, if_pos (by show 3 < 10; decide), Option.bind_some, G_pV (by omega) cn, if_pos (by show 7 < 10; decide), Option.bind_some, G_pV (by omega) cn, if_pos (by show 8 < 10; decide), Option.bind_some, hf4]
    rfl
  have f4o : ∀ z, ¬ z = c → f4 z = f3 z := fun z hz => by rw [hf4]; exact va_up_ne _ _ hz
  refine ⟨f4, fun j => if j < e - a then sp (a + j) else sp0 j, q3, ?_, by rw [hf4]; exact va_up_self _ _ _, ?_, fun j hj => if_pos hj, y1.kept (fun z h1 h2 => f4o z (by omega)), fun j hj => y2 j (by omega) hj, fun z hz => ?_⟩
  · have eq : x_Code_cut (d + 2) c 177 (nI a) (nI e) (nI v0) (nI v1) (n, f, us) = gd (n, f, us) c 12 ((gR (n, f, us) 177 12 0).bind fun v1' => ((gR (n, f, us) c 12 0).bind fun v2 => ((cpA (n, f, us) v1' (nI a) v2 0 (nI e - nI a)).bind fun s3 => ((pV s3 c 12 2 (.int (nI e - nI a))).bind fun s4 => (loopK (cuB (d + 1) c 177 (nI a) (nI v0) (nI v1)) FU (nI v0, s4)))))) := rfl
    rw [eq, gd_of (s := (n, f, us)) hc (by omega) cn, gR_of (s := (n, f, us)) (k := 0) (x := 178) h177 (by decide) (show 177 < n by omega) rfl, Option.bind_some, gR_of (s := (n, f, us)) (k := 0) (x := c + 1) hc (by omega) cn rfl, Option.bind_some, d0, cp', Option.bind_some, p2, Option.bind_some, x, tl]
  · rw [f4o _ (by omega), y4 _ (by omega), f2o _ (by omega)]
    exact f1s
  · rw [f4o z (by omega), y4 z (by omega), f2o z (by omega), f1o z (by omega)]
end
