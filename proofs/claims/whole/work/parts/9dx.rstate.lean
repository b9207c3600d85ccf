/-! the reference's object 160, field by field; finding and comparing in States -/
def tkB (x1 : Nat) : (Int32 × Int32 × HS → Option (Int32 × HS)) → Int32 × Int32 × HS → Option (Int32 × HS) := (fun (again4 : Int32 × Int32 × HS → Option (Int32 × HS)) (z4 : Int32 × Int32 × HS) => ((gI z4.2.2 x1 13 10).bind fun v1 => (if v1 ≤ z4.2.1 then (some (z4.1, z4.2.2)) else ((gR z4.2.2 x1 13 7).bind fun v2 => ((aR "StowTongueModel$Code" z4.2.2 v2 z4.2.1).bind fun v3 => ((gI z4.2.2 v3 12 4).bind fun v4 => (again4 ((z4.1 + v4), (z4.2.1 + 1), z4.2.2))))))))
theorem tkB_eq {x1 : Nat} {y : Int32} {z : Int32} {s : HS} {ag : Int32 × Int32 × HS → Option (Int32 × HS)} : tkB x1 ag (y, z, s) = ((gI s x1 13 10).bind fun v1 => (if v1 ≤ z then (some (y, s)) else ((gR s x1 13 7).bind fun v2 => ((aR "StowTongueModel$Code" s v2 z).bind fun v3 => ((gI s v3 12 4).bind fun v4 => (ag ((y + v4), (z + 1), s))))))) := rfl
def isB (d l0 : Nat) (l1 : Int32) (l2 : Nat) : (Int32 × Int32 × HS → Option (Int32 × HS)) → Int32 × Int32 × HS → Option (Int32 × HS) := (fun (again39 : Int32 × Int32 × HS → Option (Int32 × HS)) (z39 : Int32 × Int32 × HS) => ((gR z39.2.2 l0 13 1).bind fun v9 => ((aI z39.2.2 v9 l1).bind fun v10 => (if v10 ≤ z39.2.1 then (okB z39.1 (some (z39.1, z39.2.2))) else (if z39.1 = 0 then (okB z39.1 (some (z39.1, z39.2.2))) else ((gR z39.2.2 l0 13 5).bind fun v11 => ((gR z39.2.2 l2 13 5).bind fun v12 => (bnd (x_Vals_isLike d v11 ((20 * l1) + z39.2.1) v12 ((20 * l1) + z39.2.1) z39.2.2) fun v14 s13 => (if v14 = 0 then (again39 (0, (z39.2.1 + 1), s13)) else ((gR s13 l0 13 0).bind fun v15 => ((aI s13 v15 l1).bind fun v16 => (if v16 = 4 then (again39 (1, (z39.2.1 + 1), s13)) else ((gR s13 l0 13 2).bind fun v17 => ((aL s13 v17 ((8 * l1) + z39.2.1)).bind fun v18 => ((gR s13 l2 13 2).bind fun v19 => ((aL s13 v19 ((8 * l1) + z39.2.1)).bind fun v20 => (if (lg_cmp v18 v20) = 0 then (again39 (1, (z39.2.1 + 1), s13)) else (again39 (0, (z39.2.1 + 1), s13)))))))))))))))))))
theorem isB_eq {d l0 : Nat} {l1 : Int32} {l2 : Nat} {y : Int32} {z : Int32} {s : HS} {ag : Int32 × Int32 × HS → Option (Int32 × HS)} : isB d l0 l1 l2 ag (y, z, s) = ((gR s l0 13 1).bind fun v9 => ((aI s v9 l1).bind fun v10 => (if v10 ≤ z then (okB y (some (y, s))) else (if y = 0 then (okB y (some (y, s))) else ((gR s l0 13 5).bind fun v11 => ((gR s l2 13 5).bind fun v12 => (bnd (x_Vals_isLike d v11 ((20 * l1) + z) v12 ((20 * l1) + z) s) fun v14 s13 => (if v14 = 0 then (ag (0, (z + 1), s13)) else ((gR s13 l0 13 0).bind fun v15 => ((aI s13 v15 l1).bind fun v16 => (if v16 = 4 then (ag (1, (z + 1), s13)) else ((gR s13 l0 13 2).bind fun v17 => ((aL s13 v17 ((8 * l1) + z)).bind fun v18 => ((gR s13 l2 13 2).bind fun v19 => ((aL s13 v19 ((8 * l1) + z)).bind fun v20 => (if (lg_cmp v18 v20) = 0 then (ag (1, (z + 1), s13)) else (ag (0, (z + 1), s13)))))))))))))))))) := rfl
def OM (f : Nat → am_C) (b : Nat → Value) : Prop := f 160 = .inr (14, (List.range 53).map b)
theorem rg_at {b : Nat → Value} {k : Nat} (h : k < 53) : ((List.range 53).map b)[k]? = some (b k) := by
  rw [List.getElem?_map, List.getElem?_range h]
  rfl
theorem rg_set {b : Nat → Value} {k : Nat} {v : Value} (h : k < 53) : ((List.range 53).map b).set k v = (List.range 53).map (updV b k v) := by
  apply List.ext_getElem?
  intro i
  by_cases hi : i < 53
  · rw [rg_at hi, List.getElem?_set]
    unfold updV
    by_cases c : k = i
    · rw [if_pos c, if_pos (by rw [List.length_map, List.length_range]; omega), if_pos c.symm]
    · rw [if_neg c, if_neg (fun w => c w.symm), rg_at hi]
  · rw [List.getElem?_eq_none (by rw [List.length_set, List.length_map, List.length_range]; omega), List.getElem?_eq_none (by rw [List.length_map, List.length_range]; omega)]
section
variable {n us r q d k i o : Nat} {f : Nat → am_C} {b : Nat → Value} {R Q : RS} {y : Int64} {v : Value}
theorem mo_gI {x : Int32} (h : OM f b) (hn : 1311 ≤ n) (hk : k < 53) (e : b k = .int x) : gI (n, f, us) 160 14 k = some x := gI_of (s := (n, f, us)) h (by decide) (show 160 < n by omega) (by rw [rg_at hk, e])
theorem mo_gR {x : Nat} (h : OM f b) (hn : 1311 ≤ n) (hk : k < 53) (e : b k = .ref x) : gR (n, f, us) 160 14 k = some x := gR_of (s := (n, f, us)) h (by decide) (show 160 < n by omega) (by rw [rg_at hk, e])
theorem mo_gd {β : Type} {x : Option β} (h : OM f b) (hn : 1311 ≤ n) : gd (n, f, us) 160 14 x = x := gd_of (s := (n, f, us)) h (by decide) (show 160 < n by omega)
theorem mo_pV (h : OM f b) (hn : 1311 ≤ n) (hk : k < 53) : pV (n, f, us) 160 14 k v = some (n, va_up f 160 (.inr (14, (List.range 53).map (updV b k v))), us) := by
  rw [pV_of (s := (n, f, us)) h (by decide) (show 160 < n by omega) (by rw [List.length_map, List.length_range]; exact hk), rg_set hk]
theorem OM.up (v : Value) (k : Nat) : OM (va_up f 160 (.inr (14, (List.range 53).map (updV b k v)))) (updV b k v) := va_up_self _ _ _
theorem ub_self : updV b k v k = v := if_pos rfl
theorem ub_ne (h : ¬ i = k) : updV b k v i = b i := if_neg h
/-- State.findRoot, findFunction -/
theorem e_findR (h : RSt f r R) (r1 : 128 ≤ r) (r2 : r + 16 < n) (hk : k ≤ 12) (ek : R.2.2.2.2.2.2.2.2.2.1 = nI k) : x_State_findRoot d r y (n, f, us) = some (s_find R.2.2.2.1 k y, (n, f, us)) := by
  have c0 : f r = _ := (congrFun h.eq r).trans HS_0
  have c4 : f (r + 4) = aLong 12 R.2.2.2.1 := (congrFun h.eq (r + 4)).trans HS_4
  unfold x_State_findRoot s_find
  rw [gd_of (s := (n, f, us)) c0 r1 (show r < n by omega)]
  refine loop_ind (fun z q => ∀ m i, i + m = k → z = (nI i, (n, f, us)) → q = some (s_fd R.2.2.2.1 y m i, (n, f, us))) (fun z => k - z.1.toNatClampNeg) (fun again z ih m i e ez => ?_) FU _ (by rw [FU_eq]; omega) k 0 (by omega) rfl
  subst ez
  dsimp only
  rw [gI_of (s := (n, f, us)) (k := 9) (x := R.2.2.2.2.2.2.2.2.2.1) c0 r1 (show r < n by omega) rfl, Option.bind_some, ek]
  cases m with
  | zero =>
    obtain rfl : i = k := by omega
    rw [if_pos (Int32.le_refl _), s_fd]
  | succ m =>
    have b0 := cl0 (show i < 2 ^ 31 by omega)
    rw [if_neg (nI_ge (by omega) (by omega)), gR_of (s := (n, f, us)) (k := 3) (x := r + 4) c0 r1 (show r < n by omega) rfl, Option.bind_some, aL_of (s := (n, f, us)) c4 (by omega) (show r + 4 < n by omega) b0.1 (by rw [b0.2]; omega), b0.2, Option.bind_some, s_fd]
    split
    · rfl
    · rw [na1]
      exact ih _ (by simp only [nI_clamp (show i + 1 < 2 ^ 31 by omega), b0.2]; omega) m (i + 1) (by omega) rfl
theorem e_findF (h : RSt f r R) (r1 : 128 ≤ r) (r2 : r + 16 < n) (hk : k ≤ 10) (ek : R.2.2.2.2.2.2.2.2.2.2.1 = nI k) : x_State_findFunction d r y (n, f, us) = some (s_find R.2.2.2.2.1 k y, (n, f, us)) := by
  have c0 : f r = _ := (congrFun h.eq r).trans HS_0
  have c4 : f (r + 5) = aLong 10 R.2.2.2.2.1 := (congrFun h.eq (r + 5)).trans HS_5
  unfold x_State_findFunction s_find
  rw [gd_of (s := (n, f, us)) c0 r1 (show r < n by omega)]
  refine loop_ind (fun z q => ∀ m i, i + m = k → z = (nI i, (n, f, us)) → q = some (s_fd R.2.2.2.2.1 y m i, (n, f, us))) (fun z => k - z.1.toNatClampNeg) (fun again z ih m i e ez => ?_) FU _ (by rw [FU_eq]; omega) k 0 (by omega) rfl
  subst ez
  dsimp only
  rw [gI_of (s := (n, f, us)) (k := 10) (x := R.2.2.2.2.2.2.2.2.2.2.1) c0 r1 (show r < n by omega) rfl, Option.bind_some, ek]
  cases m with
  | zero =>
    obtain rfl : i = k := by omega
    rw [if_pos (Int32.le_refl _), s_fd]
  | succ m =>
    have b0 := cl0 (show i < 2 ^ 31 by omega)
    rw [if_neg (nI_ge (by omega) (by omega)), gR_of (s := (n, f, us)) (k := 4) (x := r + 5) c0 r1 (show r < n by omega) rfl, Option.bind_some, aL_of (s := (n, f, us)) c4 (by omega) (show r + 5 < n by omega) b0.1 (by rw [b0.2]; omega), b0.2, Option.bind_some, s_fd]
    split
    · rfl
    · rw [na1]
      exact ih _ (by simp only [nI_clamp (show i + 1 < 2 ^ 31 by omega), b0.2]; omega) m (i + 1) (by omega) rfl
/-- the tokens of a State's functions -/
theorem tk_L {cc : Nat → Nat} {TT : Nat → TI} (h : RSt f r R) (r1 : 128 ≤ r) (r2 : r + 16 < n) (hk : k ≤ 10) (ek : R.2.2.2.2.2.2.2.2.2.2.1 = nI k) (U : ∀ j, j < k → R.2.2.2.2.2.2.2.1 j = .ref (cc j) ∧ gI (n, f, us) (cc j) 12 4 = some (nI (ti_t (TT j)))) : ∀ m i M, i + m = k → m < M → loopK (tkB r) M (nI (tkS TT i), nI i, (n, f, us)) = some (nI (tkS TT k), (n, f, us)) := by
  have c0 : f r = _ := (congrFun h.eq r).trans HS_0
  have c16 : f (r + 16) = _ := (congrFun h.eq (r + 16)).trans HS_16
  intro m
  induction m with
  | zero =>
    intro i M e1 e2
    obtain ⟨M, rfl⟩ : ∃ M', M = M' + 1 := ⟨M - 1, by omega⟩
    rw [loopK_succ, tkB_eq, gI_of (s := (n, f, us)) (k := 10) (x := R.2.2.2.2.2.2.2.2.2.2.1) c0 r1 (show r < n by omega) rfl, Option.bind_some, ek, if_pos (nI_le (by omega) (by omega)), show i = k by omega]
  | succ m ih =>
    intro i M e1 e2
    obtain ⟨M, rfl⟩ : ∃ M', M = M' + 1 := ⟨M - 1, by omega⟩
    obtain ⟨a1, a2⟩ := U i (by omega)
    have b0 := cl0 (show i < 2 ^ 31 by omega)
    have ar : aR "StowTongueModel$Code" (n, f, us) (r + 16) (nI i) = some (cc i) := by
      unfold aR
      rw [aV_of (s := (n, f, us)) c16 (by omega) (show r + 16 < n by omega) b0.1 (by rw [b0.2]; omega), b0.2, a1]
      rfl
    rw [loopK_succ, tkB_eq, gI_of (s := (n, f, us)) (k := 10) (x := R.2.2.2.2.2.2.2.2.2.2.1) c0 r1 (show r < n by omega) rfl, Option.bind_some, ek, if_neg (fun w => absurd (nI_lt (a := i) (b := k) (by omega) (by omega)) (Int32.not_lt.mpr w)), gR_of (s := (n, f, us)) (k := 7) (x := r + 16) c0 r1 (show r < n by omega) rfl, Option.bind_some, ar, Option.bind_some, a2, Option.bind_some, nI_ad2, show nI i + 1 = nI (i + 1) from nI_add i 1]
    exact ih (i + 1) M (by omega) (by omega)
theorem e_tokensOf {cc : Nat → Nat} {TT : Nat → TI} (h : RSt f r R) (r1 : 128 ≤ r) (r2 : r + 16 < n) (hk : k ≤ 10) (ek : R.2.2.2.2.2.2.2.2.2.2.1 = nI k) (U : ∀ j, j < k → R.2.2.2.2.2.2.2.1 j = .ref (cc j) ∧ gI (n, f, us) (cc j) 12 4 = some (nI (ti_t (TT j)))) : x_Mod_tokensOf d r (n, f, us) = some (nI (tkS TT k), (n, f, us)) := by
  have e : x_Mod_tokensOf d r (n, f, us) = loopK (tkB r) FU (nI (tkS TT 0), nI 0, (n, f, us)) := rfl
  rw [e, tk_L h r1 r2 hk ek U k 0 FU (by omega) (by rw [FU_eq]; omega)]
end
