/-! functions told to a Store: the class -/
def faB (d x0 : Nat) (x1 : Int64) : (Int32 × HS → Option (Int32 × HS)) → Int32 × HS → Option (Int32 × HS) := (fun (again2 : Int32 × HS → Option (Int32 × HS)) (z2 : Int32 × HS) => ((gI z2.2 x0 10 8).bind fun v1 => (if v1 ≤ z2.1 then (some ((-1), z2.2)) else ((gR z2.2 x0 10 7).bind fun v2 => ((aR "StowTongue$Unit" z2.2 v2 z2.1).bind fun v3 => ((gR z2.2 x0 10 7).bind fun v4 => ((aR "StowTongue$Unit" z2.2 v4 z2.1).bind fun v5 => (bnd (x_Unit_name d v5 z2.2) fun v7 s6 => (if (lg_cmp v7 x1) = 0 then (some (z2.1, s6)) else (again2 ((z2.1 + 1), s6)))))))))))
theorem faB_eq {d x0 : Nat} {x1 : Int64} {z : Int32} {s : HS} {ag : Int32 × HS → Option (Int32 × HS)} : faB d x0 x1 ag (z, s) = ((gI s x0 10 8).bind fun v1 => (if v1 ≤ z then (some ((-1), s)) else ((gR s x0 10 7).bind fun v2 => ((aR "StowTongue$Unit" s v2 z).bind fun v3 => ((gR s x0 10 7).bind fun v4 => ((aR "StowTongue$Unit" s v4 z).bind fun v5 => (bnd (x_Unit_name d v5 s) fun v7 s6 => (if (lg_cmp v7 x1) = 0 then (some (z, s6)) else (ag ((z + 1), s6)))))))))) := rfl
def tiB (d x0 x1 : Nat) : (Int32 × HS → Option (Int32 × HS)) → Int32 × HS → Option (Int32 × HS) := (fun (again2 : Int32 × HS → Option (Int32 × HS)) (z2 : Int32 × HS) => ((gR z2.2 x0 5 4).bind fun v1 => (bnd (x_AL_size d v1 z2.2) fun v3 s2 => (if v3 ≤ z2.1 then (some (1, s2)) else ((gR s2 x0 5 4).bind fun v4 => (bnd (x_AL_get d v4 z2.1 s2) fun v6 s5 => (gd s5 v6 4 <| (bnd (x_Store_tell d x1 v6 s5) fun v8 s7 => (if v8 = 0 then (some (0, s7)) else (again2 ((z2.1 + 1), s7)))))))))))
theorem tiB_eq {d x0 x1 : Nat} {z : Int32} {s : HS} {ag : Int32 × HS → Option (Int32 × HS)} : tiB d x0 x1 ag (z, s) = ((gR s x0 5 4).bind fun v1 => (bnd (x_AL_size d v1 s) fun v3 s2 => (if v3 ≤ z then (some (1, s2)) else ((gR s2 x0 5 4).bind fun v4 => (bnd (x_AL_get d v4 z s2) fun v6 s5 => (gd s5 v6 4 <| (bnd (x_Store_tell d x1 v6 s5) fun v8 s7 => (if v8 = 0 then (some (0, s7)) else (ag ((z + 1), s7)))))))))) := rfl
def ttB (d x0 : Nat) : (Int32 × Int32 × HS → Option (Int32 × HS)) → Int32 × Int32 × HS → Option (Int32 × HS) := (fun (again4 : Int32 × Int32 × HS → Option (Int32 × HS)) (z4 : Int32 × Int32 × HS) => ((gR z4.2.2 x0 5 4).bind fun v1 => (bnd (x_AL_size d v1 z4.2.2) fun v3 s2 => (if v3 ≤ z4.2.1 then (some (z4.1, s2)) else ((gR s2 x0 5 4).bind fun v4 => (bnd (x_AL_get d v4 z4.2.1 s2) fun v6 s5 => (gd s5 v6 4 <| (bnd (x_Unit_tokens d v6 s5) fun v8 s7 => (again4 ((z4.1 + v8), (z4.2.1 + 1), s7))))))))))
theorem ttB_eq {d x0 : Nat} {y : Int32} {z : Int32} {s : HS} {ag : Int32 × Int32 × HS → Option (Int32 × HS)} : ttB d x0 ag (y, z, s) = ((gR s x0 5 4).bind fun v1 => (bnd (x_AL_size d v1 s) fun v3 s2 => (if v3 ≤ z then (some (y, s2)) else ((gR s2 x0 5 4).bind fun v4 => (bnd (x_AL_get d v4 z s2) fun v6 s5 => (gd s5 v6 4 <| (bnd (x_Unit_tokens d v6 s5) fun v8 s7 => (ag ((y + v8), (z + 1), s7))))))))) := rfl
/-- a table of functions: how many, and those -/
abbrev FTb : Type := Nat × (Nat → TI)
def ftAt (F : FTb) (i : TI) : Int32 := s_find (fun j => nC (ti_w (F.2 j))) F.1 (nC (ti_w i))
def ftIx (F : FTb) (i : TI) : Nat := if ftAt F i < 0 then F.1 else (ftAt F i).toNatClampNeg
def ftN (F : FTb) (i : TI) : Nat := if ftAt F i < 0 then F.1 + 1 else F.1
def ftS (F : FTb) (i : TI) : FTb := (ftN F i, upT F.2 (ftIx F i) i)
def ftOk (F : FTb) (i : TI) : Bool := decide (¬ (ftAt F i < 0 ∧ F.1 = 10) ∧ tkS (ftS F i).2 (ftS F i).1 ≤ 400)
def ftL (TT : Nat → TI) : Nat → Nat → FTb → Option FTb
  | 0, _, F => some F
  | m + 1, i, F => if ftOk F (TT i) = true then ftL TT m (i + 1) (ftS F (TT i)) else none
def UTb (f : Nat → am_C) (n r : Nat) (S : SC) (un : Nat → Nat) (F : FTb) : Prop := S.2.2.2.2.2.2.2.2 = F.1 ∧ F.1 ≤ 10 ∧ (∀ j, j < F.1 → S.2.2.2.2.2.2.2.1 j = .ref (un j) ∧ TU f n (un j) (F.2 j) ∧ (un j + 2 < r ∨ r + 7 < un j))
def tlS (S : SC) (p u k : Nat) : SC := (S.1, S.2.1, S.2.2.1, S.2.2.2.1, S.2.2.2.2.1, S.2.2.2.2.2.1, S.2.2.2.2.2.2.1, updV S.2.2.2.2.2.2.2.1 p (.ref u), k)
theorem tkS_eq {TT TT' : Nat → TI} : ∀ k, (∀ j, j < k → ti_t (TT j) = ti_t (TT' j)) → tkS TT k = tkS TT' k
  | 0, _ => rfl
  | k + 1, h => by rw [tkS, tkS, tkS_eq k (fun j hj => h j (by omega)), h k (by omega)]
theorem tkS_le {TT : Nat → TI} : ∀ k, (∀ j, j < k → ti_t (TT j) ≤ 1500) → tkS TT k ≤ 1500 * k
  | 0, _ => Nat.le_refl _
  | k + 1, h => by
    have := tkS_le k (fun j hj => h j (by omega))
    have := h k (by omega)
    rw [tkS]
    omega
theorem tkS_ge {TT : Nat → TI} : ∀ k j, j < k → ti_t (TT j) ≤ tkS TT k
  | 0, j, h => absurd h (Nat.not_lt_zero _)
  | k + 1, j, h => by
    rw [tkS]
    by_cases c : j = k
    · rw [c]
      omega
    · have := tkS_ge (TT := TT) k j (by omega)
      omega
section
variable {n us r d u : Nat} {f f' : Nat → am_C} {S : SC} {un : Nat → Nat} {F : FTb} {i : TI} {y : Int64}
theorem TU.nm {f : Nat → am_C} (t : TU f n u i) : x_Unit_name d u (n, f, us) = some (nC (ti_w i), (n, f, us)) := by
  have lt := t.lt
  obtain ⟨b, k, cu, pu, t1, _⟩ := t
  unfold x_Unit_name
  rw [gd_of (s := (n, f, us)) t1 (by omega) (by show u < n; omega), gL_of (s := (n, f, us)) (k := 0) (x := nC (ti_w i)) t1 (by omega) (by show u < n; omega) rfl, Option.bind_some]
theorem TU.tk (t : TU f n u i) : x_Unit_tokens d u (n, f, us) = some (nI (ti_t i), (n, f, us)) := by
  have lt := t.lt
  obtain ⟨b, k, cu, pu, t1, _⟩ := t
  unfold x_Unit_tokens
  rw [gd_of (s := (n, f, us)) t1 (by omega) (by show u < n; omega), gI_of (s := (n, f, us)) (k := 3) (x := nI (ti_t i)) t1 (by omega) (by show u < n; omega) rfl, Option.bind_some]
theorem TU.t15 (t : TU f n u i) : 1 ≤ ti_t i ∧ ti_t i ≤ 1500 := by
  obtain ⟨b, k, cu, pu, _, _, _, _, _, _, _, _, h, _⟩ := t
  omega
theorem e_fAt (r1 : 128 ≤ r) (r2 : r + 7 < n) (h : ST f r S) (U : UTb f n r S un F) : x_Store_functionAt (d + 1) r y (n, f, us) = some (s_find (fun j => nC (ti_w (F.2 j))) F.1 y, (n, f, us)) := by
  have e : x_Store_functionAt (d + 1) r y (n, f, us) = gd (n, f, us) r 10 (loopK (faB d r y) FU (nI 0, (n, f, us))) := rfl
  have hk := U.2.1
  have key : ∀ m j M, j + m = F.1 → m < M → loopK (faB d r y) M (nI j, (n, f, us)) = some (s_fd (fun j => nC (ti_w (F.2 j))) y m j, (n, f, us)) := by
    intro m
    induction m with
    | zero =>
      intro j M e1 e2
      obtain ⟨M, rfl⟩ : ∃ M', M = M' + 1 := ⟨M - 1, by omega⟩
      rw [loopK_succ, faB_eq, u_gf h r1 r2, Option.bind_some, U.1, if_pos (nI_le (by omega) (by omega)), s_fd]
    | succ m ih =>
      intro j M e1 e2
      obtain ⟨M, rfl⟩ : ∃ M', M = M' + 1 := ⟨M - 1, by omega⟩
      obtain ⟨a1, a2, _⟩ := U.2.2 j (by omega)
      have ar : aR "StowTongue$Unit" (n, f, us) (r + 7) (nI j) = some (un j) := by
        unfold aR
        rw [u_told h r1 r2 (by omega), a1]
        rfl
      rw [loopK_succ, faB_eq, u_gf h r1 r2, Option.bind_some, U.1, if_neg (fun w => absurd (nI_lt (a := j) (b := F.1) (by omega) (by omega)) (Int32.not_lt.mpr w)), u_g7 h r1 r2, Option.bind_some, ar, Option.bind_some, Option.bind_some, ar, Option.bind_some, a2.nm, bnd_some, s_fd, show nI j + 1 = nI (j + 1) from nI_add j 1]
      by_cases c : lg_cmp (nC (ti_w (F.2 j))) y = 0
      · rw [if_pos c, if_pos c]
      · rw [if_neg c, if_neg c]
        exact ih (j + 1) M (by omega) (by omega)
  rw [e, u_gd h r1 r2, key F.1 0 FU (by omega) (by rw [FU_eq]; omega)]
  rfl
theorem ft_or (hF : F.1 ≤ 10) : (ftAt F i < 0 ∧ ftIx F i = F.1 ∧ ftN F i = F.1 + 1) ∨ ∃ j, j < F.1 ∧ ¬ ftAt F i < 0 ∧ ftAt F i = nI j ∧ ftIx F i = j ∧ ftN F i = F.1 := by
  rcases find_or (g := fun j => nC (ti_w (F.2 j))) (k := F.1) (y := nC (ti_w i)) (by omega) with c | ⟨j, hj, c, _⟩
  · have c : ftAt F i < 0 := c
    exact Or.inl ⟨c, if_pos c, if_pos c⟩
  · have c : ftAt F i = nI j := c
    have nn : ¬ ftAt F i < 0 := by rw [c]; exact nI_pos (by omega)
    refine Or.inr ⟨j, hj, nn, c, ?_, if_neg nn⟩
    unfold ftIx
    rw [if_neg nn, c]
    exact nI_clamp (by omega)
/-- the table behind a function told, in the heap behind it -/
theorem UTb.tell (h : ST f r S) (U : UTb f n r S un F) (t : TU f n u i) (hu : u + 2 < r ∨ r + 7 < u) (h10 : ¬ (ftAt F i < 0 ∧ F.1 = 10)) : UTb (HT f r (tlS S (ftIx F i) u (ftN F i))) n r (tlS S (ftIx F i) u (ftN F i)) (upU un (ftIx F i) u) (ftS F i) := by
  have hF := U.2.1
  have off : ∀ z, z < r ∨ r + 7 < z → HT f r (tlS S (ftIx F i) u (ftN F i)) z = f z := fun z hz => HT_off hz
  have n10 : ftN F i ≤ 10 := by
    rcases ft_or (i := i) hF with ⟨c1, c2, c3⟩ | ⟨j, hj, c1, c2, c3, c4⟩
    · have : ¬ F.1 = 10 := fun w => h10 ⟨c1, w⟩
      omega
    · omega
  refine ⟨rfl, n10, fun j hj => ?_⟩
  have hj : j < ftN F i := hj
  show updV S.2.2.2.2.2.2.2.1 (ftIx F i) (.ref u) j = .ref (upU un (ftIx F i) u j) ∧ TU (HT f r (tlS S (ftIx F i) u (ftN F i))) n (upU un (ftIx F i) u j) (upT F.2 (ftIx F i) i j) ∧ _
  unfold updV upU upT
  by_cases c : j = ftIx F i
  · rw [if_pos c, if_pos c, if_pos c]
    exact ⟨rfl, t.keep (Nat.le_refl _) (fun z z1 z2 => off z (by omega)), hu⟩
  · rw [if_neg c, if_neg c, if_neg c]
    have jF : j < F.1 := by
      rcases ft_or (i := i) hF with ⟨c1, c2, c3⟩ | ⟨j', hj', c1, c2, c3, c4⟩
      · omega
      · omega
    obtain ⟨a1, a2, a3⟩ := U.2.2 j jF
    exact ⟨a1, a2.keep (Nat.le_refl _) (fun z z1 z2 => off z (by omega)), a3⟩
theorem UTb.sum (U : UTb f n r S un F) : tkS F.2 F.1 ≤ 15000 := by
  have := tkS_le F.1 (fun j hj => ((U.2.2 j hj).2.1.t15).2)
  have := U.2.1
  omega
theorem e_tell (r1 : 128 ≤ r) (r2 : r + 7 < n) (h : ST f r S) (U : UTb f n r S un F) (t : TU f n u i) (hu : u + 2 < r ∨ r + 7 < u) : (ftOk F i = true ∧ x_Store_tell (d + 2) r u (n, f, us) = some (1, (n, HT f r (tlS S (ftIx F i) u (ftN F i)), us)) ∧ UTb (HT f r (tlS S (ftIx F i) u (ftN F i))) n r (tlS S (ftIx F i) u (ftN F i)) (upU un (ftIx F i) u) (ftS F i)) ∨ (ftOk F i = false ∧ ∃ p k, x_Store_tell (d + 2) r u (n, f, us) = some (0, (n, HT f r (tlS S p u k), us))) ∨ (ftOk F i = false ∧ x_Store_tell (d + 2) r u (n, f, us) = some (0, (n, f, us))) := by
  have hF := U.2.1
  have tio : isO (n, f, us) u 4 = true := t.isO (s := (n, f, us))
  have lt := t.lt
  have e0 : x_Store_tell (d + 2) r u (n, f, us) = (if 0 ≤ ftAt F i then (x_Store_tell_b39 (d + 1) r u (ftAt F i) (n, f, us)) else ((gI (n, f, us) r 10 8).bind fun v9 => (if v9 < 10 then ((gI (n, f, us) r 10 8).bind fun v10 => ((gI (n, f, us) r 10 8).bind fun v11 => ((pV (n, f, us) r 10 8 (.int (v11 + 1))).bind fun s12 => (x_Store_tell_b39 (d + 1) r u v10 s12)))) else (some (0, (n, f, us)))))) := by
    unfold x_Store_tell
    dsimp only
    rw [u_gd h r1 r2, t.nm, bnd_some, e_fAt r1 r2 h U, bnd_some]
    rfl
  have b39 : ∀ (S' : SC) (p : Nat), p < 10 → ∀ (un' : Nat → Nat) (F' : FTb), UTb (HT f r (S'.1, S'.2.1, S'.2.2.1, S'.2.2.2.1, S'.2.2.2.2.1, S'.2.2.2.2.2.1, S'.2.2.2.2.2.2.1, updV S'.2.2.2.2.2.2.2.1 p (.ref u), S'.2.2.2.2.2.2.2.2)) n r (S'.1, S'.2.1, S'.2.2.1, S'.2.2.2.1, S'.2.2.2.2.1, S'.2.2.2.2.2.1, S'.2.2.2.2.2.2.1, updV S'.2.2.2.2.2.2.2.1 p (.ref u), S'.2.2.2.2.2.2.2.2) un' F' → x_Store_tell_b39 (d + 1) r u (nI p) (n, HT f r S', us) = some (if tkS F'.2 F'.1 ≤ 400 then 1 else 0, (n, HT f r (S'.1, S'.2.1, S'.2.2.1, S'.2.2.2.1, S'.2.2.2.2.1, S'.2.2.2.2.2.1, S'.2.2.2.2.2.2.1, updV S'.2.2.2.2.2.2.2.1 p (.ref u), S'.2.2.2.2.2.2.2.2), us)) := fun S' p hp un' F' U' => by
    have b0 := cl0 (show p < 2 ^ 31 by omega)
    have io : isO (n, HT f r S', us) u 4 = true := isO_keep tio (HT_off (by omega)) (Nat.le_refl _)
    have s7 : sV (n, HT f r S', us) (.object "StowTongue$Unit") (r + 7) (nI p) (.ref u) = some (n, HT f r (S'.1, S'.2.1, S'.2.2.1, S'.2.2.2.1, S'.2.2.2.2.1, S'.2.2.2.2.2.1, S'.2.2.2.2.2.2.1, updV S'.2.2.2.2.2.2.2.1 p (.ref u), S'.2.2.2.2.2.2.2.2), us) := by
      rw [sV_of (s := (n, HT f r S', us)) HT_7 (by omega) (by show r + 7 < n; omega) b0.1 (by rw [b0.2]; omega), b0.2]
      exact congrArg (fun F => some (n, F, us)) HTu_7
    have ft := e_fTokens (d := d) (us := us) (S := (S'.1, S'.2.1, S'.2.2.1, S'.2.2.2.1, S'.2.2.2.2.1, S'.2.2.2.2.2.1, S'.2.2.2.2.2.2.1, updV S'.2.2.2.2.2.2.2.1 p (.ref u), S'.2.2.2.2.2.2.2.2)) (un := un') (TT := F'.2) ST.mk r1 r2 (by rw [U'.1]; exact U'.2.1) (fun j hj => by
      rw [U'.1] at hj
      exact ⟨(U'.2.2 j hj).1, (U'.2.2 j hj).2.1⟩)
    have e9 : tkS F'.2 S'.2.2.2.2.2.2.2.2 = tkS F'.2 F'.1 := congrArg (tkS F'.2) U'.1
    dsimp only at ft
    rw [e9] at ft
    have sm := U'.sum
    unfold x_Store_tell_b39 sR
    rw [t_g7 r1 r2, Option.bind_some, if_pos io, s7, Option.bind_some, ft, bnd_some]
    by_cases c : tkS F'.2 F'.1 ≤ 400
    · rw [if_neg (show ¬ (400 : Int32) < nI (tkS F'.2 F'.1) from Int32.not_lt.mpr (nI_le (a := tkS F'.2 F'.1) (b := 400) c (by decide))), if_pos c]
    · rw [if_pos (show (400 : Int32) < nI (tkS F'.2 F'.1) from nI_lt (a := 400) (b := tkS F'.2 F'.1) (by omega) (by omega)), if_neg c]
  have hb := b39
  by_cases h10 : ftAt F i < 0 ∧ F.1 = 10
  · refine Or.inr (Or.inr ⟨decide_eq_false (fun w => w.1 h10), ?_⟩)
    rw [e0, if_neg (Int32.not_le.mpr h10.1), u_gf h r1 r2, Option.bind_some, U.1, h10.2, if_neg (by decide)]
  · have U' := U.tell h t hu h10
    have run : x_Store_tell (d + 2) r u (n, f, us) = some (if tkS (ftS F i).2 (ftS F i).1 ≤ 400 then 1 else 0, (n, HT f r (tlS S (ftIx F i) u (ftN F i)), us)) := by
      rcases ft_or (i := i) hF with ⟨c1, c2, c3⟩ | ⟨j, hj, c1, c2, c3, c4⟩
      · have nF : F.1 < 10 := by
          have : ¬ F.1 = 10 := fun w => h10 ⟨c1, w⟩
          omega
        have pf : pV (n, f, us) r 10 8 (.int (nI (F.1 + 1))) = some (n, HT f r (S.1, S.2.1, S.2.2.1, S.2.2.2.1, S.2.2.2.2.1, S.2.2.2.2.2.1, S.2.2.2.2.2.2.1, S.2.2.2.2.2.2.2.1, F.1 + 1), us) := by
          have e := t_pf (f := f) (S := S) (us := us) (k := F.1 + 1) r1 r2
          rw [show HT f r S = f from h] at e
          exact e
        rw [c2, c3] at U'
        have k := hb (S.1, S.2.1, S.2.2.1, S.2.2.2.1, S.2.2.2.2.1, S.2.2.2.2.2.1, S.2.2.2.2.2.2.1, S.2.2.2.2.2.2.2.1, F.1 + 1) F.1 (by omega) (upU un F.1 u) (ftS F i) U'
        rw [e0, if_neg (Int32.not_le.mpr c1), u_gf h r1 r2, Option.bind_some, U.1, if_pos (show nI F.1 < 10 from nI_lt (a := F.1) (b := 10) nF (by decide)), Option.bind_some, Option.bind_some, show nI F.1 + 1 = nI (F.1 + 1) from nI_add F.1 1, pf, Option.bind_some, k, c2, c3]
        rfl
      · rw [c3, c4, ← U.1] at U'
        have k := hb S j (by omega) (upU un j u) (ftS F i) U'
        rw [show HT f r S = f from h] at k
        rw [e0, if_pos (Int32.not_lt.mp c1), c2, k, c3, c4, ← U.1]
        rfl
    by_cases c : tkS (ftS F i).2 (ftS F i).1 ≤ 400
    · rw [if_pos c] at run
      exact Or.inl ⟨decide_eq_true ⟨h10, c⟩, run, U'⟩
    · rw [if_neg c] at run
      exact Or.inr (Or.inl ⟨decide_eq_false (fun w => c w.2), _, _, run⟩)
end
