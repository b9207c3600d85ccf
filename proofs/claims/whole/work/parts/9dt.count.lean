/-! counting in a Store: the class -/
def obB (d x0 : Nat) : (Int32 × Int32 × HS → Option (Int32 × HS)) → Int32 × Int32 × HS → Option (Int32 × HS) := (fun (again4 : Int32 × Int32 × HS → Option (Int32 × HS)) (z4 : Int32 × Int32 × HS) => (if 100 ≤ z4.2.1 then (some (z4.1, z4.2.2)) else (bnd (x_Store_isThere d x0 z4.2.1 z4.2.2) fun v2 s1 => (if v2 = 0 then (again4 (z4.1, (z4.2.1 + 1), s1)) else (again4 ((z4.1 + 1), (z4.2.1 + 1), s1))))))
theorem obB_eq {d x0 : Nat} {y : Int32} {z : Int32} {s : HS} {ag : Int32 × Int32 × HS → Option (Int32 × HS)} : obB d x0 ag (y, z, s) = (if 100 ≤ z then (some (y, s)) else (bnd (x_Store_isThere d x0 z s) fun v2 s1 => (if v2 = 0 then (ag (y, (z + 1), s1)) else (ag ((y + 1), (z + 1), s1))))) := rfl
def ftB (d x0 : Nat) : (Int32 × Int32 × HS → Option (Int32 × HS)) → Int32 × Int32 × HS → Option (Int32 × HS) := (fun (again4 : Int32 × Int32 × HS → Option (Int32 × HS)) (z4 : Int32 × Int32 × HS) => ((gI z4.2.2 x0 10 8).bind fun v1 => (if v1 ≤ z4.2.1 then (some (z4.1, z4.2.2)) else ((gR z4.2.2 x0 10 7).bind fun v2 => ((aR "StowTongue$Unit" z4.2.2 v2 z4.2.1).bind fun v3 => ((gR z4.2.2 x0 10 7).bind fun v4 => ((aR "StowTongue$Unit" z4.2.2 v4 z4.2.1).bind fun v5 => (bnd (x_Unit_tokens d v5 z4.2.2) fun v7 s6 => (again4 ((z4.1 + v7), (z4.2.1 + 1), s6))))))))))
theorem ftB_eq {d x0 : Nat} {y : Int32} {z : Int32} {s : HS} {ag : Int32 × Int32 × HS → Option (Int32 × HS)} : ftB d x0 ag (y, z, s) = ((gI s x0 10 8).bind fun v1 => (if v1 ≤ z then (some (y, s)) else ((gR s x0 10 7).bind fun v2 => ((aR "StowTongue$Unit" s v2 z).bind fun v3 => ((gR s x0 10 7).bind fun v4 => ((aR "StowTongue$Unit" s v4 z).bind fun v5 => (bnd (x_Unit_tokens d v5 s) fun v7 s6 => (ag ((y + v7), (z + 1), s6))))))))) := rfl
def saB (x0 x1 : Nat) (x2 v6 : Int32) : (Int32 × HS → Option (Int32 × HS)) → Int32 × HS → Option (Int32 × HS) := (fun (again26 : Int32 × HS → Option (Int32 × HS)) (z26 : Int32 × HS) => ((gR z26.2 x0 10 2).bind fun v7 => ((aI z26.2 v7 x2).bind fun v8 => (if (v6 + v8) ≤ z26.1 then (some (1, z26.2)) else ((gR z26.2 x0 10 0).bind fun v9 => ((aL z26.2 v9 z26.1).bind fun v10 => ((gR z26.2 x1 10 0).bind fun v11 => ((aL z26.2 v11 z26.1).bind fun v12 => (if (lg_cmp v10 v12) = 0 then ((gR z26.2 x0 10 1).bind fun v13 => ((aL z26.2 v13 z26.1).bind fun v14 => ((gR z26.2 x1 10 1).bind fun v15 => ((aL z26.2 v15 z26.1).bind fun v16 => (if (lg_cmp v14 v16) = 0 then (again26 ((z26.1 + 1), z26.2)) else (some (0, z26.2))))))) else (some (0, z26.2)))))))))))
theorem saB_eq {x0 x1 : Nat} {x2 v6 : Int32} {z : Int32} {s : HS} {ag : Int32 × HS → Option (Int32 × HS)} : saB x0 x1 x2 v6 ag (z, s) = ((gR s x0 10 2).bind fun v7 => ((aI s v7 x2).bind fun v8 => (if (v6 + v8) ≤ z then (some (1, s)) else ((gR s x0 10 0).bind fun v9 => ((aL s v9 z).bind fun v10 => ((gR s x1 10 0).bind fun v11 => ((aL s v11 z).bind fun v12 => (if (lg_cmp v10 v12) = 0 then ((gR s x0 10 1).bind fun v13 => ((aL s v13 z).bind fun v14 => ((gR s x1 10 1).bind fun v15 => ((aL s v15 z).bind fun v16 => (if (lg_cmp v14 v16) = 0 then (ag ((z + 1), s)) else (some (0, s))))))) else (some (0, s)))))))))) := rfl
def ocB (d x0 x1 : Nat) : (Int32 × Int32 × HS → Option (Int32 × HS)) → Int32 × Int32 × HS → Option (Int32 × HS) := (fun (again4 : Int32 × Int32 × HS → Option (Int32 × HS)) (z4 : Int32 × Int32 × HS) => (if 100 ≤ z4.2.1 then (some (z4.1, z4.2.2)) else (bnd (x_Store_isThere d x0 z4.2.1 z4.2.2) fun v2 s1 => (if v2 = 0 then (again4 (z4.1, (z4.2.1 + 1), s1)) else (bnd (x_Store_sameObject d x0 x1 z4.2.1 s1) fun v4 s3 => (if v4 = 0 then (again4 ((z4.1 + 1), (z4.2.1 + 1), s3)) else (again4 (z4.1, (z4.2.1 + 1), s3))))))))
theorem ocB_eq {d x0 x1 : Nat} {y : Int32} {z : Int32} {s : HS} {ag : Int32 × Int32 × HS → Option (Int32 × HS)} : ocB d x0 x1 ag (y, z, s) = (if 100 ≤ z then (some (y, s)) else (bnd (x_Store_isThere d x0 z s) fun v2 s1 => (if v2 = 0 then (ag (y, (z + 1), s1)) else (bnd (x_Store_sameObject d x0 x1 z s1) fun v4 s3 => (if v4 = 0 then (ag ((y + 1), (z + 1), s3)) else (ag (y, (z + 1), s3))))))) := rfl
def rc2 (d x0 x1 : Nat) : (Int32 × Int32 × HS → Option (Int32 × HS)) → Int32 × Int32 × HS → Option (Int32 × HS) := (fun (again74 : Int32 × Int32 × HS → Option (Int32 × HS)) (z74 : Int32 × Int32 × HS) => ((gI z74.2.2 x1 10 6).bind fun v2 => (if v2 ≤ z74.2.1 then (some (z74.1, z74.2.2)) else ((gR z74.2.2 x1 10 3).bind fun v3 => ((aL z74.2.2 v3 z74.2.1).bind fun v4 => (bnd (x_Store_rootAt d x0 v4 z74.2.2) fun v6 s5 => (if 0 ≤ v6 then (again74 (z74.1, (z74.2.1 + 1), s5)) else (again74 ((z74.1 + 1), (z74.2.1 + 1), s5)))))))))
theorem rc2_eq {d x0 x1 : Nat} {y : Int32} {z : Int32} {s : HS} {ag : Int32 × Int32 × HS → Option (Int32 × HS)} : rc2 d x0 x1 ag (y, z, s) = ((gI s x1 10 6).bind fun v2 => (if v2 ≤ z then (some (y, s)) else ((gR s x1 10 3).bind fun v3 => ((aL s v3 z).bind fun v4 => (bnd (x_Store_rootAt d x0 v4 s) fun v6 s5 => (if 0 ≤ v6 then (ag (y, (z + 1), s5)) else (ag ((y + 1), (z + 1), s5)))))))) := rfl
def rc1 (d x0 x1 : Nat) : (Int32 × Int32 × HS → Option (Int32 × HS)) → Int32 × Int32 × HS → Option (Int32 × HS) := (fun (again4 : Int32 × Int32 × HS → Option (Int32 × HS)) (z4 : Int32 × Int32 × HS) => ((gI z4.2.2 x0 10 6).bind fun v1 => (if v1 ≤ z4.2.1 then (loopK (rc2 d x0 x1) FU (z4.1, 0, z4.2.2)) else ((gR z4.2.2 x0 10 3).bind fun v7 => ((aL z4.2.2 v7 z4.2.1).bind fun v8 => (bnd (x_Store_rootAt d x1 v8 z4.2.2) fun v10 s9 => (if v10 < 0 then (again4 ((z4.1 + 1), (z4.2.1 + 1), s9)) else ((gR s9 x1 10 4).bind fun v11 => ((aL s9 v11 v10).bind fun v12 => ((gR s9 x0 10 4).bind fun v13 => ((aL s9 v13 z4.2.1).bind fun v14 => (if (lg_cmp v12 v14) = 0 then ((gR s9 x1 10 5).bind fun v15 => ((aL s9 v15 v10).bind fun v16 => ((gR s9 x0 10 5).bind fun v17 => ((aL s9 v17 z4.2.1).bind fun v18 => (if (lg_cmp v16 v18) = 0 then (again4 (z4.1, (z4.2.1 + 1), s9)) else (again4 ((z4.1 + 1), (z4.2.1 + 1), s9))))))) else (again4 ((z4.1 + 1), (z4.2.1 + 1), s9))))))))))))))
theorem rc1_eq {d x0 x1 : Nat} {y : Int32} {z : Int32} {s : HS} {ag : Int32 × Int32 × HS → Option (Int32 × HS)} : rc1 d x0 x1 ag (y, z, s) = ((gI s x0 10 6).bind fun v1 => (if v1 ≤ z then (loopK (rc2 d x0 x1) FU (y, 0, s)) else ((gR s x0 10 3).bind fun v7 => ((aL s v7 z).bind fun v8 => (bnd (x_Store_rootAt d x1 v8 s) fun v10 s9 => (if v10 < 0 then (ag ((y + 1), (z + 1), s9)) else ((gR s9 x1 10 4).bind fun v11 => ((aL s9 v11 v10).bind fun v12 => ((gR s9 x0 10 4).bind fun v13 => ((aL s9 v13 z).bind fun v14 => (if (lg_cmp v12 v14) = 0 then ((gR s9 x1 10 5).bind fun v15 => ((aL s9 v15 v10).bind fun v16 => ((gR s9 x0 10 5).bind fun v17 => ((aL s9 v17 z).bind fun v18 => (if (lg_cmp v16 v18) = 0 then (ag (y, (z + 1), s9)) else (ag ((y + 1), (z + 1), s9))))))) else (ag ((y + 1), (z + 1), s9))))))))))))) := rfl
section
variable {n us r q d i : Nat} {f : Nat → am_C} {S T : SC} {x : Int32}
theorem u_gd {β : Type} {b : Option β} (h : ST f r S) (h1 : 128 ≤ r) (h2 : r + 7 < n) : gd (n, f, us) r 10 b = b := by
  have e := t_gd (f := f) (S := S) (us := us) (b := b) h1 h2
  rw [show HT f r S = f from h] at e
  exact e
theorem u_g1 (h : ST f r S) (h1 : 128 ≤ r) (h2 : r + 7 < n) : gR (n, f, us) r 10 0 = some (r + 1) := by
  have e := t_g1 (f := f) (S := S) (us := us) h1 h2
  rw [show HT f r S = f from h] at e
  exact e
theorem u_g2 (h : ST f r S) (h1 : 128 ≤ r) (h2 : r + 7 < n) : gR (n, f, us) r 10 1 = some (r + 2) := by
  have e := t_g2 (f := f) (S := S) (us := us) h1 h2
  rw [show HT f r S = f from h] at e
  exact e
theorem u_g3 (h : ST f r S) (h1 : 128 ≤ r) (h2 : r + 7 < n) : gR (n, f, us) r 10 2 = some (r + 3) := by
  have e := t_g3 (f := f) (S := S) (us := us) h1 h2
  rw [show HT f r S = f from h] at e
  exact e
theorem u_g4 (h : ST f r S) (h1 : 128 ≤ r) (h2 : r + 7 < n) : gR (n, f, us) r 10 3 = some (r + 4) := by
  have e := t_g4 (f := f) (S := S) (us := us) h1 h2
  rw [show HT f r S = f from h] at e
  exact e
theorem u_g5 (h : ST f r S) (h1 : 128 ≤ r) (h2 : r + 7 < n) : gR (n, f, us) r 10 4 = some (r + 5) := by
  have e := t_g5 (f := f) (S := S) (us := us) h1 h2
  rw [show HT f r S = f from h] at e
  exact e
theorem u_g6 (h : ST f r S) (h1 : 128 ≤ r) (h2 : r + 7 < n) : gR (n, f, us) r 10 5 = some (r + 6) := by
  have e := t_g6 (f := f) (S := S) (us := us) h1 h2
  rw [show HT f r S = f from h] at e
  exact e
theorem u_g7 (h : ST f r S) (h1 : 128 ≤ r) (h2 : r + 7 < n) : gR (n, f, us) r 10 7 = some (r + 7) := by
  have e := t_g7 (f := f) (S := S) (us := us) h1 h2
  rw [show HT f r S = f from h] at e
  exact e
theorem u_gk (h : ST f r S) (h1 : 128 ≤ r) (h2 : r + 7 < n) : gI (n, f, us) r 10 6 = some (nI S.2.2.2.2.2.2.1) := by
  have e := t_gk (f := f) (S := S) (us := us) h1 h2
  rw [show HT f r S = f from h] at e
  exact e
theorem u_gf (h : ST f r S) (h1 : 128 ≤ r) (h2 : r + 7 < n) : gI (n, f, us) r 10 8 = some (nI S.2.2.2.2.2.2.2.2) := by
  have e := t_gf (f := f) (S := S) (us := us) h1 h2
  rw [show HT f r S = f from h] at e
  exact e
theorem u_a1 (h : ST f r S) (h1 : 128 ≤ r) (h2 : r + 7 < n) (hi : i < 2000) : aL (n, f, us) (r + 1) (nI i) = some (S.1 i) := by
  have e := t_a1 (f := f) (S := S) (us := us) h1 h2 hi
  rw [show HT f r S = f from h] at e
  exact e
theorem u_a2 (h : ST f r S) (h1 : 128 ≤ r) (h2 : r + 7 < n) (hi : i < 2000) : aL (n, f, us) (r + 2) (nI i) = some (S.2.1 i) := by
  have e := t_a2 (f := f) (S := S) (us := us) h1 h2 hi
  rw [show HT f r S = f from h] at e
  exact e
theorem u_a3 (h : ST f r S) (h1 : 128 ≤ r) (h2 : r + 7 < n) (hi : i < 100) : aI (n, f, us) (r + 3) (nI i) = some (S.2.2.1 i) := by
  have e := t_a3 (f := f) (S := S) (us := us) h1 h2 hi
  rw [show HT f r S = f from h] at e
  exact e
theorem u_a4 (h : ST f r S) (h1 : 128 ≤ r) (h2 : r + 7 < n) (hi : i < 12) : aL (n, f, us) (r + 4) (nI i) = some (S.2.2.2.1 i) := by
  have e := t_a4 (f := f) (S := S) (us := us) h1 h2 hi
  rw [show HT f r S = f from h] at e
  exact e
theorem u_a5 (h : ST f r S) (h1 : 128 ≤ r) (h2 : r + 7 < n) (hi : i < 12) : aL (n, f, us) (r + 5) (nI i) = some (S.2.2.2.2.1 i) := by
  have e := t_a5 (f := f) (S := S) (us := us) h1 h2 hi
  rw [show HT f r S = f from h] at e
  exact e
theorem u_a6 (h : ST f r S) (h1 : 128 ≤ r) (h2 : r + 7 < n) (hi : i < 12) : aL (n, f, us) (r + 6) (nI i) = some (S.2.2.2.2.2.1 i) := by
  have e := t_a6 (f := f) (S := S) (us := us) h1 h2 hi
  rw [show HT f r S = f from h] at e
  exact e
theorem u_isThere (h : ST f r S) (h1 : 128 ≤ r) (h2 : r + 7 < n) : x_Store_isThere d r x (n, f, us) = some (if isT S x = true then 1 else 0, (n, f, us)) := by
  have e := e_isThere (f := f) (S := S) (us := us) (d := d) (x := x) h1 h2
  rw [show HT f r S = f from h] at e
  exact e
theorem u_first (h : ST f r S) (h1 : 128 ≤ r) (h2 : r + 7 < n) : x_Store_firstCell d r x (n, f, us) = some (nI (fO x), (n, f, us)) := by
  have e := e_firstCell (f := f) (S := S) (us := us) (d := d) (x := x) h1 h2
  rw [show HT f r S = f from h] at e
  exact e
theorem u_rootAt {y : Int64} (h : ST f r S) (h1 : 128 ≤ r) (h2 : r + 7 < n) (I : SI S) : x_Store_rootAt d r y (n, f, us) = some (s_find S.2.2.2.1 S.2.2.2.2.2.2.1 y, (n, f, us)) := by
  have e := e_rootAtS (f := f) (S := S) (us := us) (d := d) (y := y) h1 h2 I
  rw [show HT f r S = f from h] at e
  exact e
theorem u_told (h : ST f r S) (h1 : 128 ≤ r) (h2 : r + 7 < n) (hi : i < 10) : aV (n, f, us) (.object "StowTongue$Unit") (r + 7) (nI i) = some (S.2.2.2.2.2.2.2.1 i) := by
  have b := cl0 (show i < 2 ^ 31 by omega)
  rw [aV_of (s := (n, f, us)) ((congrFun h.eq (r + 7)).trans HT_7) (by omega) (by show r + 7 < n; omega) b.1 (by rw [b.2]; omega), b.2]
/-- how many OBJECTS below n -/
def cntC (c : Nat → Int32) : Nat → Nat
  | 0 => 0
  | n + 1 => cntC c n + if c n = -1 then 0 else 1
theorem cntC_le (c : Nat → Int32) : ∀ n, cntC c n ≤ n
  | 0 => Nat.le_refl _
  | n + 1 => by
    have := cntC_le c n
    rw [cntC]
    by_cases h : c n = -1
    · rw [if_pos h]
      omega
    · rw [if_neg h]
      omega
theorem ob_L (h : ST f r S) (h1 : 128 ≤ r) (h2 : r + 7 < n) : ∀ m i M, i + m = 100 → m < M → loopK (obB d r) M (nI (cntC S.2.2.1 i), nI i, (n, f, us)) = some (nI (cntC S.2.2.1 100), (n, f, us)) := by
  intro m
  induction m with
  | zero =>
    intro i M e1 e2
    obtain ⟨M, rfl⟩ : ∃ M', M = M' + 1 := ⟨M - 1, by omega⟩
    rw [loopK_succ, obB_eq, if_pos (show (100 : Int32) ≤ nI i from nI_le (a := 100) (by omega) (by omega)), show i = 100 by omega]
  | succ m ih =>
    intro i M e1 e2
    obtain ⟨M, rfl⟩ : ∃ M', M = M' + 1 := ⟨M - 1, by omega⟩
    rw [loopK_succ, obB_eq, if_neg (show ¬ (100 : Int32) ≤ nI i from nI_ge (b := 100) (by omega) (by omega)), u_isThere h h1 h2, bnd_some, isT_n (by omega), show nI i + 1 = nI (i + 1) from nI_add i 1]
    have k := ih (i + 1) M (by omega) (by omega)
    rw [cntC] at k
    by_cases c : S.2.2.1 i = -1
    · rw [if_pos c] at k
      rw [if_neg (show ¬ decide (¬ S.2.2.1 i = -1) = true from fun w => of_decide_eq_true w c), if_pos rfl]
      exact k
    · rw [if_neg c] at k
      rw [if_pos (decide_eq_true c), if_neg (by decide), show nI (cntC S.2.2.1 i) + 1 = nI (cntC S.2.2.1 i + 1) from nI_add _ 1]
      exact k
theorem e_objects (h : ST f r S) (h1 : 128 ≤ r) (h2 : r + 7 < n) : x_Store_objects (d + 1) r (n, f, us) = some (nI (cntC S.2.2.1 100), (n, f, us)) := by
  have e : x_Store_objects (d + 1) r (n, f, us) = gd (n, f, us) r 10 (loopK (obB d r) FU (nI (cntC S.2.2.1 0), nI 0, (n, f, us))) := rfl
  rw [e, u_gd h h1 h2, ob_L h h1 h2 100 0 FU rfl (by rw [FU_eq]; decide)]
/-- the tokens of the first k functions -/
def tkS (TT : Nat → TI) : Nat → Nat
  | 0 => 0
  | k + 1 => tkS TT k + ti_t (TT k)
theorem ft_L {un : Nat → Nat} {TT : Nat → TI} (h : ST f r S) (h1 : 128 ≤ r) (h2 : r + 7 < n) (hk : S.2.2.2.2.2.2.2.2 ≤ 10) (U : ∀ j, j < S.2.2.2.2.2.2.2.2 → S.2.2.2.2.2.2.2.1 j = .ref (un j) ∧ TU f n (un j) (TT j)) : ∀ m i M, i + m = S.2.2.2.2.2.2.2.2 → m < M → loopK (ftB d r) M (nI (tkS TT i), nI i, (n, f, us)) = some (nI (tkS TT S.2.2.2.2.2.2.2.2), (n, f, us)) := by
  intro m
  induction m with
  | zero =>
    intro i M e1 e2
    obtain ⟨M, rfl⟩ : ∃ M', M = M' + 1 := ⟨M - 1, by omega⟩
    rw [loopK_succ, ftB_eq, u_gf h h1 h2, Option.bind_some, if_pos (nI_le (by omega) (by omega)), show i = S.2.2.2.2.2.2.2.2 by omega]
  | succ m ih =>
    intro i M e1 e2
    obtain ⟨M, rfl⟩ : ∃ M', M = M' + 1 := ⟨M - 1, by omega⟩
    obtain ⟨a1, a2⟩ := U i (by omega)
    have lt := a2.lt
    obtain ⟨b, k, cu, pu, t1, t2, _⟩ := a2
    have ar : aR "StowTongue$Unit" (n, f, us) (r + 7) (nI i) = some (un i) := by
      unfold aR
      rw [u_told h h1 h2 (by omega), a1]
      rfl
    have tk : x_Unit_tokens d (un i) (n, f, us) = some (nI (ti_t (TT i)), (n, f, us)) := by
      unfold x_Unit_tokens
      rw [gd_of (s := (n, f, us)) t1 (by omega) (by show un i < n; omega), gI_of (s := (n, f, us)) (k := 3) (x := nI (ti_t (TT i))) t1 (by omega) (by show un i < n; omega) rfl, Option.bind_some]
    rw [loopK_succ, ftB_eq, u_gf h h1 h2, Option.bind_some, if_neg (fun w => absurd (nI_lt (a := i) (b := S.2.2.2.2.2.2.2.2) (by omega) (by omega)) (Int32.not_lt.mpr w)), u_g7 h h1 h2, Option.bind_some, ar, Option.bind_some, Option.bind_some, ar, Option.bind_some, tk, bnd_some, nI_ad2, show nI i + 1 = nI (i + 1) from nI_add i 1]
    exact ih (i + 1) M (by omega) (by omega)
theorem e_fTokens {un : Nat → Nat} {TT : Nat → TI} (h : ST f r S) (h1 : 128 ≤ r) (h2 : r + 7 < n) (hk : S.2.2.2.2.2.2.2.2 ≤ 10) (U : ∀ j, j < S.2.2.2.2.2.2.2.2 → S.2.2.2.2.2.2.2.1 j = .ref (un j) ∧ TU f n (un j) (TT j)) : x_Store_functionTokens (d + 1) r (n, f, us) = some (nI (tkS TT S.2.2.2.2.2.2.2.2), (n, f, us)) := by
  have e : x_Store_functionTokens (d + 1) r (n, f, us) = gd (n, f, us) r 10 (loopK (ftB d r) FU (nI (tkS TT 0), nI 0, (n, f, us))) := rfl
  rw [e, u_gd h h1 h2, ft_L h h1 h2 hk U S.2.2.2.2.2.2.2.2 0 FU (by omega) (by rw [FU_eq]; omega)]
end
