/-! a Store copied -/
def mx {α : Type} (n : Nat) (a b : Nat → α) : Nat → α := fun j => if j < n then a j else b j
def cpS (S T : SC) : SC := (mx 2000 T.1 S.1, mx 2000 T.2.1 S.2.1, mx 100 T.2.2.1 S.2.2.1, mx 12 T.2.2.2.1 S.2.2.2.1, mx 12 T.2.2.2.2.1 S.2.2.2.2.1, mx 12 T.2.2.2.2.2.1 S.2.2.2.2.2.1, T.2.2.2.2.2.2.1, mx 10 T.2.2.2.2.2.2.2.1 S.2.2.2.2.2.2.2.1, T.2.2.2.2.2.2.2.2)
theorem cpI_of {s : HS} {a0 a1 N0 N1 n : Nat} {g0 g1 : Nat → Int32} (h0 : s.2.1 a0 = aInt N0 g0) (h1 : s.2.1 a1 = aInt N1 g1) (b0 : 128 ≤ a0 ∧ a0 < s.1) (b1 : 128 ≤ a1 ∧ a1 < s.1) (n0 : n ≤ N0) (n1 : n ≤ N1) (hn : n < 2 ^ 31) : cpA s a0 0 a1 0 (nI n) = some (s.1, va_up s.2.1 a1 (aInt N1 fun j => if j < n then g0 j else g1 j), s.2.2) := by
  have b := cl0 hn
  have z : ((0 : Int32).toNatClampNeg) = 0 := rfl
  unfold cpA
  rw [h0, h1]
  dsimp only
  rw [b.2, z, if_pos ⟨rfl, by decide, rfl, b0.1, b0.2, b1.1, b1.2, by decide, by decide, b.1, by omega, by omega, by
    rw [List.all_eq_true]
    intro i _
    rfl⟩]
  refine congrArg (fun F => some (s.1, va_up s.2.1 a1 (.inl (.int, N1, F)), s.2.2)) ?_
  funext j
  unfold va_cpy
  by_cases c : j < n
  · rw [if_pos ⟨Nat.zero_le _, by omega⟩]
    show Value.int (g0 (0 + (j - 0))) = Value.int (if j < n then g0 j else g1 j)
    rw [if_pos c, Nat.sub_zero, Nat.zero_add]
  · rw [if_neg (by omega)]
    show Value.int (g1 j) = Value.int (if j < n then g0 j else g1 j)
    rw [if_neg c]
def cfB (x0 x1 : Nat) : (Int32 × HS → Option (Unit × HS)) → Int32 × HS → Option (Unit × HS) := (fun (again110 : Int32 × HS → Option (Unit × HS)) (z110 : Int32 × HS) => (if 10 ≤ z110.1 then ((gI z110.2 x1 10 6).bind fun v31 => ((pV z110.2 x0 10 6 (.int v31)).bind fun s32 => ((gI s32 x1 10 8).bind fun v33 => ((pV s32 x0 10 8 (.int v33)).bind fun s34 => (some ((), s34)))))) else ((gR z110.2 x0 10 7).bind fun v35 => ((gR z110.2 x1 10 7).bind fun v36 => ((aN "StowTongue$Unit" z110.2 v36 z110.1).bind fun y => y.elim ((sV z110.2 (.object "StowTongue$Unit") v35 z110.1 .null).bind fun s38 => (again110 ((z110.1 + 1), s38))) (fun v37 => (sR "StowTongue$Unit" 4 z110.2 v35 z110.1 v37).bind fun s39 => (again110 ((z110.1 + 1), s39))))))))
theorem cfB_eq {x0 x1 : Nat} {z : Int32} {s : HS} {ag : Int32 × HS → Option (Unit × HS)} : cfB x0 x1 ag (z, s) = (if 10 ≤ z then ((gI s x1 10 6).bind fun v31 => ((pV s x0 10 6 (.int v31)).bind fun s32 => ((gI s32 x1 10 8).bind fun v33 => ((pV s32 x0 10 8 (.int v33)).bind fun s34 => (some ((), s34)))))) else ((gR s x0 10 7).bind fun v35 => ((gR s x1 10 7).bind fun v36 => ((aN "StowTongue$Unit" s v36 z).bind fun y => y.elim ((sV s (.object "StowTongue$Unit") v35 z .null).bind fun s38 => (ag ((z + 1), s38))) (fun v37 => (sR "StowTongue$Unit" 4 s v35 z v37).bind fun s39 => (ag ((z + 1), s39))))))) := rfl
section
variable {n us r q d : Nat} {f : Nat → am_C} {S T : SC}
theorem cq_0 (hT : ST f q T) (D : q + 7 < r ∨ r + 7 < q) : HT f r S q = .inr (10, [.ref (q + 1), .ref (q + 2), .ref (q + 3), .ref (q + 4), .ref (q + 5), .ref (q + 6), .int (nI T.2.2.2.2.2.2.1), .ref (q + 7), .int (nI T.2.2.2.2.2.2.2.2)]) := by
  rw [HT_off (by omega), hT.eq, HT_0]
theorem cq_i {i : Nat} {c : am_C} (hT : ST f q T) (D : q + 7 < r ∨ r + 7 < q) (hi : i ≤ 7) (hc : HT f q T (q + i) = c) : HT f r S (q + i) = c := by
  rw [HT_off (by omega), hT.eq, hc]
/-- the told Units, one after another -/
theorem cf_L (hr : 128 ≤ r) (hr2 : r + 7 < n) (hq : 128 ≤ q) (hq2 : q + 7 < n) (hT : ST f q T) (D : q + 7 < r ∨ r + 7 < q) (U : ∀ i, i < 10 → T.2.2.2.2.2.2.2.1 i = .null ∨ ∃ u, T.2.2.2.2.2.2.2.1 i = .ref u ∧ isO (n, f, us) u 4 = true ∧ (u < r ∨ r + 7 < u)) : ∀ m i M (S : SC), i + m = 10 → m < M → loopK (cfB r q) M (nI i, (n, HT f r S, us)) = some ((), (n, HT f r (S.1, S.2.1, S.2.2.1, S.2.2.2.1, S.2.2.2.2.1, S.2.2.2.2.2.1, T.2.2.2.2.2.2.1, (fun j => if i ≤ j ∧ j < 10 then T.2.2.2.2.2.2.2.1 j else S.2.2.2.2.2.2.2.1 j), T.2.2.2.2.2.2.2.2), us)) := by
  intro m
  induction m with
  | zero =>
    intro i M S e1 e2
    obtain ⟨M, rfl⟩ : ∃ M', M = M' + 1 := ⟨M - 1, by omega⟩
    have e : (fun j => if i ≤ j ∧ j < 10 then T.2.2.2.2.2.2.2.1 j else S.2.2.2.2.2.2.2.1 j) = S.2.2.2.2.2.2.2.1 := by
      funext j
      rw [if_neg (by omega)]
    rw [loopK_succ, cfB_eq, if_pos (show (10 : Int32) ≤ nI i from nI_le (a := 10) (by omega) (by omega)), gI_of (s := (n, HT f r S, us)) (k := 6) (x := nI T.2.2.2.2.2.2.1) (cq_0 hT D) hq (by show q < n; omega) rfl, Option.bind_some, t_pk hr hr2, Option.bind_some, gI_of (s := (n, HT f r _, us)) (k := 8) (x := nI T.2.2.2.2.2.2.2.2) (cq_0 hT D) hq (by show q < n; omega) rfl, Option.bind_some, t_pf hr hr2, Option.bind_some, e]
  | succ m ih =>
    intro i M S e1 e2
    obtain ⟨M, rfl⟩ : ∃ M', M = M' + 1 := ⟨M - 1, by omega⟩
    have b := cl0 (show i < 2 ^ 31 by omega)
    have c7 : HT f r S (q + 7) = .inl (.object "StowTongue$Unit", 10, T.2.2.2.2.2.2.2.1) := cq_i hT D (by omega) HT_7
    have av : aV (n, HT f r S, us) (.object "StowTongue$Unit") (q + 7) (nI i) = some (T.2.2.2.2.2.2.2.1 i) := by
      rw [aV_of (s := (n, HT f r S, us)) c7 (by omega) (by show q + 7 < n; omega) b.1 (by rw [b.2]; omega), b.2]
    have sv : ∀ v, sV (n, HT f r S, us) (.object "StowTongue$Unit") (r + 7) (nI i) v = some (n, HT f r (S.1, S.2.1, S.2.2.1, S.2.2.2.1, S.2.2.2.2.1, S.2.2.2.2.2.1, S.2.2.2.2.2.2.1, updV S.2.2.2.2.2.2.2.1 i v, S.2.2.2.2.2.2.2.2), us) := fun v => by
      rw [sV_of (s := (n, HT f r S, us)) HT_7 (by omega) (by show r + 7 < n; omega) b.1 (by rw [b.2]; omega), b.2]
      dsimp only
      rw [HTu_7]
    rw [loopK_succ, cfB_eq, if_neg (show ¬ (10 : Int32) ≤ nI i from nI_ge (b := 10) (by omega) (by omega)), t_g7 hr hr2, Option.bind_some, gR_of (s := (n, HT f r S, us)) (k := 7) (x := q + 7) (cq_0 hT D) hq (by show q < n; omega) rfl, Option.bind_some, show nI i + 1 = nI (i + 1) from nI_add i 1]
    have fin : ∀ v, v = T.2.2.2.2.2.2.2.1 i → (fun j => if i + 1 ≤ j ∧ j < 10 then T.2.2.2.2.2.2.2.1 j else updV S.2.2.2.2.2.2.2.1 i v j) = (fun j => if i ≤ j ∧ j < 10 then T.2.2.2.2.2.2.2.1 j else S.2.2.2.2.2.2.2.1 j) := fun v hv => by
      funext j
      unfold updV
      by_cases c : j = i
      · rw [if_neg (by omega), if_pos c, if_pos (by omega), hv, c]
      · rw [if_neg c]
        by_cases w : i + 1 ≤ j ∧ j < 10
        · rw [if_pos w, if_pos (by omega)]
        · rw [if_neg w, if_neg (by omega)]
    rcases U i (by omega) with h | ⟨u, h, h2, h3⟩
    · rw [show aN "StowTongue$Unit" (n, HT f r S, us) (q + 7) (nI i) = some none by unfold aN; rw [av, h]; rfl, Option.bind_some]
      show ((sV (n, HT f r S, us) (.object "StowTongue$Unit") (r + 7) (nI i) .null).bind fun s38 => (loopK (cfB r q) M (nI (i + 1), s38))) = _
      rw [sv, Option.bind_some, ih (i + 1) M _ (by omega) (by omega)]
      dsimp only
      rw [fin _ h.symm]
    · rw [show aN "StowTongue$Unit" (n, HT f r S, us) (q + 7) (nI i) = some (some u) by unfold aN; rw [av, h]; rfl, Option.bind_some]
      show ((sR "StowTongue$Unit" 4 (n, HT f r S, us) (r + 7) (nI i) u).bind fun s39 => (loopK (cfB r q) M (nI (i + 1), s39))) = _
      have hi : isO (n, HT f r S, us) u 4 = true := isO_keep h2 (HT_off h3) (Nat.le_refl _)
      unfold sR
      rw [if_pos hi, sv, Option.bind_some, ih (i + 1) M _ (by omega) (by omega)]
      dsimp only
      rw [fin _ h.symm]
theorem e_copyFrom (hr : 128 ≤ r) (hr2 : r + 7 < n) (hq : 128 ≤ q) (hq2 : q + 7 < n) (hT : ST f q T) (D : q + 7 < r ∨ r + 7 < q) (U : ∀ i, i < 10 → T.2.2.2.2.2.2.2.1 i = .null ∨ ∃ u, T.2.2.2.2.2.2.2.1 i = .ref u ∧ isO (n, f, us) u 4 = true ∧ (u < r ∨ r + 7 < u)) : x_Store_copyFrom (d + 1) r q (n, HT f r S, us) = some ((), (n, HT f r (cpS S T), us)) := by
  have g0 : ∀ (S : SC) (k x : Nat), ([Value.ref (q + 1), .ref (q + 2), .ref (q + 3), .ref (q + 4), .ref (q + 5), .ref (q + 6), .int (nI T.2.2.2.2.2.2.1), .ref (q + 7), .int (nI T.2.2.2.2.2.2.2.2)])[k]? = some (.ref x) → gR (n, HT f r S, us) q 10 k = some x := fun S k x h => gR_of (s := (n, HT f r S, us)) (cq_0 hT D) hq (by show q < n; omega) h
  have l1 : ∀ S : SC, lenA (n, HT f r S, us) (r + 1) = some (nI 2000) := fun S => lenA_of (s := (n, HT f r S, us)) HT_1 (by decide) (by omega) (by show r + 1 < n; omega)
  have l2 : ∀ S : SC, lenA (n, HT f r S, us) (r + 2) = some (nI 2000) := fun S => lenA_of (s := (n, HT f r S, us)) HT_2 (by decide) (by omega) (by show r + 2 < n; omega)
  have l3 : ∀ S : SC, lenA (n, HT f r S, us) (r + 3) = some (nI 100) := fun S => lenA_of (s := (n, HT f r S, us)) HT_3 (by decide) (by omega) (by show r + 3 < n; omega)
  have l4 : ∀ S : SC, lenA (n, HT f r S, us) (r + 4) = some (nI 12) := fun S => lenA_of (s := (n, HT f r S, us)) HT_4 (by decide) (by omega) (by show r + 4 < n; omega)
  have l5 : ∀ S : SC, lenA (n, HT f r S, us) (r + 5) = some (nI 12) := fun S => lenA_of (s := (n, HT f r S, us)) HT_5 (by decide) (by omega) (by show r + 5 < n; omega)
  have l6 : ∀ S : SC, lenA (n, HT f r S, us) (r + 6) = some (nI 12) := fun S => lenA_of (s := (n, HT f r S, us)) HT_6 (by decide) (by omega) (by show r + 6 < n; omega)
  have c1 : ∀ S : SC, cpA (n, HT f r S, us) (q + 1) 0 (r + 1) 0 (nI 2000) = some (n, HT f r (mx 2000 T.1 S.1, S.2), us) := fun S => by
    rw [cpL_of (s := (n, HT f r S, us)) (cq_i hT D (by omega) HT_1) HT_1 ⟨by omega, by show q + 1 < n; omega⟩ ⟨by omega, by show r + 1 < n; omega⟩ (Nat.le_refl _) (Nat.le_refl _) (by decide)]
    dsimp only
    rw [HTu_1]
    rfl
  have c2 : ∀ S : SC, cpA (n, HT f r S, us) (q + 2) 0 (r + 2) 0 (nI 2000) = some (n, HT f r (S.1, mx 2000 T.2.1 S.2.1, S.2.2), us) := fun S => by
    rw [cpL_of (s := (n, HT f r S, us)) (cq_i hT D (by omega) HT_2) HT_2 ⟨by omega, by show q + 2 < n; omega⟩ ⟨by omega, by show r + 2 < n; omega⟩ (Nat.le_refl _) (Nat.le_refl _) (by decide)]
    dsimp only
    rw [HTu_2]
    rfl
  have c3 : ∀ S : SC, cpA (n, HT f r S, us) (q + 3) 0 (r + 3) 0 (nI 100) = some (n, HT f r (S.1, S.2.1, mx 100 T.2.2.1 S.2.2.1, S.2.2.2), us) := fun S => by
    rw [cpI_of (s := (n, HT f r S, us)) (cq_i hT D (by omega) HT_3) HT_3 ⟨by omega, by show q + 3 < n; omega⟩ ⟨by omega, by show r + 3 < n; omega⟩ (Nat.le_refl _) (Nat.le_refl _) (by decide)]
    dsimp only
    rw [HTu_3]
    rfl
  have c4 : ∀ S : SC, cpA (n, HT f r S, us) (q + 4) 0 (r + 4) 0 (nI 12) = some (n, HT f r (S.1, S.2.1, S.2.2.1, mx 12 T.2.2.2.1 S.2.2.2.1, S.2.2.2.2), us) := fun S => by
    rw [cpL_of (s := (n, HT f r S, us)) (cq_i hT D (by omega) HT_4) HT_4 ⟨by omega, by show q + 4 < n; omega⟩ ⟨by omega, by show r + 4 < n; omega⟩ (Nat.le_refl _) (Nat.le_refl _) (by decide)]
    dsimp only
    rw [HTu_4]
    rfl
  have c5 : ∀ S : SC, cpA (n, HT f r S, us) (q + 5) 0 (r + 5) 0 (nI 12) = some (n, HT f r (S.1, S.2.1, S.2.2.1, S.2.2.2.1, mx 12 T.2.2.2.2.1 S.2.2.2.2.1, S.2.2.2.2.2), us) := fun S => by
    rw [cpL_of (s := (n, HT f r S, us)) (cq_i hT D (by omega) HT_5) HT_5 ⟨by omega, by show q + 5 < n; omega⟩ ⟨by omega, by show r + 5 < n; omega⟩ (Nat.le_refl _) (Nat.le_refl _) (by decide)]
    dsimp only
    rw [HTu_5]
    rfl
  have c6 : ∀ S : SC, cpA (n, HT f r S, us) (q + 6) 0 (r + 6) 0 (nI 12) = some (n, HT f r (S.1, S.2.1, S.2.2.1, S.2.2.2.1, S.2.2.2.2.1, mx 12 T.2.2.2.2.2.1 S.2.2.2.2.2.1, S.2.2.2.2.2.2), us) := fun S => by
    rw [cpL_of (s := (n, HT f r S, us)) (cq_i hT D (by omega) HT_6) HT_6 ⟨by omega, by show q + 6 < n; omega⟩ ⟨by omega, by show r + 6 < n; omega⟩ (Nat.le_refl _) (Nat.le_refl _) (by decide)]
    dsimp only
    rw [HTu_6]
    rfl
  unfold x_Store_copyFrom
  dsimp only
  rw [t_gd hr hr2, g0 _ 0 (q + 1) rfl, Option.bind_some, t_g1 hr hr2, Option.bind_some, Option.bind_some, l1, Option.bind_some, c1, Option.bind_some]
  rw [g0 _ 1 (q + 2) rfl, Option.bind_some, t_g2 hr hr2, Option.bind_some, Option.bind_some, l2, Option.bind_some, c2, Option.bind_some]
  rw [g0 _ 2 (q + 3) rfl, Option.bind_some, t_g3 hr hr2, Option.bind_some, Option.bind_some, l3, Option.bind_some, c3, Option.bind_some]
  rw [g0 _ 3 (q + 4) rfl, Option.bind_some, t_g4 hr hr2, Option.bind_some, Option.bind_some, l4, Option.bind_some, c4, Option.bind_some]
  rw [g0 _ 4 (q + 5) rfl, Option.bind_some, t_g5 hr hr2, Option.bind_some, Option.bind_some, l5, Option.bind_some, c5, Option.bind_some]
  rw [g0 _ 5 (q + 6) rfl, Option.bind_some, t_g6 hr hr2, Option.bind_some, Option.bind_some, l6, Option.bind_some, c6, Option.bind_some]
  have L := cf_L hr hr2 hq hq2 hT D U 10 0 FU (mx 2000 T.1 S.1, mx 2000 T.2.1 S.2.1, mx 100 T.2.2.1 S.2.2.1, mx 12 T.2.2.2.1 S.2.2.2.1, mx 12 T.2.2.2.2.1 S.2.2.2.2.1, mx 12 T.2.2.2.2.2.1 S.2.2.2.2.2.1, S.2.2.2.2.2.2) rfl (by rw [FU_eq]; decide)
  refine Eq.trans (show _ = loopK (cfB r q) FU (nI 0, _) from rfl) (L.trans ?_)
  dsimp only
  have e : (fun j => if 0 ≤ j ∧ j < 10 then T.2.2.2.2.2.2.2.1 j else S.2.2.2.2.2.2.2.1 j) = mx 10 T.2.2.2.2.2.2.2.1 S.2.2.2.2.2.2.2.1 := by
    funext j
    unfold mx
    by_cases c : j < 10
    · rw [if_pos ⟨Nat.zero_le _, c⟩, if_pos c]
    · rw [if_neg (fun w => c w.2), if_neg c]
  rw [e]
  rfl
end
