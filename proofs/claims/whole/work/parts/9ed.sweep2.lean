/-! sweep: what is reached, purely; the class's reachFrom and clean -/
def rOs (R : RS) (o : Nat) : Nat → Nat → SWs → SWs
  | 0, _, X => X
  | k + 1, i, X => rOs R o k (i + 1) (rchQ X (rIt R (20 * o + i)))
def rO (R : RS) (o : Nat) (X : SWs) : SWs := rOs R o (R.2.1 o).toNatClampNeg 0 X
def rRs (R : RS) : Nat → Nat → SWs → SWs
  | 0, _, X => X
  | k + 1, i, X => rRs R k (i + 1) (rchQ X (rVl R i))
def rQs (R : RS) : Nat → Nat → SWs → SWs
  | 0, _, X => X
  | m + 1, i, X => if i < X.2.2 then rQs R m (i + 1) (rO R (X.2.1 i).toNatClampNeg X) else X
/-- what is reached in a State -/
def rAll (R : RS) (k : Nat) (X : SWs) : SWs := rQs R 100 0 (rRs R k 0 X)
def SWJ (R : RS) (X : SWs) : Prop := SWI X ∧ ∀ i, i < X.2.2 → ∃ o, o < 100 ∧ X.2.1 i = nI o ∧ ¬ R.1 o = 0
/-- the OBJECTS that go -/
def swG (R : RS) (X : SWs) (o : Nat) : Bool := decide (¬ R.1 o = 0 ∧ X.1 o = 0)
section
variable {n us d i o r k : Nat} {f : Nat → am_C} {X : SWs} {kd : Nat → Int32} {h t : Int64} {q : VQ} {S : SC} {R : RS}
theorem SWJ.val (I : SWJ R X) (V : VR R.1 (h, t) q) : SWJ R (rchQ X q) := by
  refine ⟨I.1.val V, ?_⟩
  rcases V.ob (X := X) with ⟨c, _⟩ | ⟨c, _, o, ho, _, _, ek, e⟩
  · unfold rchQ
    rw [if_pos c]
    exact I.2
  · rw [e]
    unfold rch
    by_cases c0 : X.1 o = 0
    · rw [if_pos c0]
      intro j hj
      have hj : j < X.2.2 + 1 := hj
      show ∃ o', o' < 100 ∧ upI X.2.1 X.2.2 (nI o) j = nI o' ∧ _
      unfold upI
      by_cases g : j = X.2.2
      · rw [if_pos g]
        exact ⟨o, ho, rfl, fun w => c (by rw [← ek, w]; decide)⟩
      · rw [if_neg g]
        exact I.2 j (by omega)
    · rw [if_neg c0]
      exact I.2
theorem SWI.le (I : SWI X) : X.2.2 ≤ 100 := by
  rw [I.1]
  exact cntB_le _ _
theorem nF_no {w : List Nat} (h : okN w) : s_Cell_isObject (nF w) = 0 := by
  have e : (T7 w).1 = nF w := by
    rw [nF_nat h]
    unfold T7
    rw [List.take_of_length_le h.2.1]
  unfold s_Cell_isObject
  rw [← e, t7_sort h.1]
  decide
theorem sw_name {w : List Nat} (hn : 1311 ≤ n) (hw : okN w) : x_Sweep_reach (d + 2) 157 (nF w) t (n, HWp f X, us) = some ((), (n, HWp f X, us)) := by
  unfold x_Sweep_reach
  dsimp only
  rw [gd_of (s := (n, HWp f X, us)) (HW_7 f X) (by decide) (show 157 < n by omega), e_Cell_isObject, bnd_some, nF_no hw, if_pos rfl]
theorem u_cells {x : Int32} (h : ST f r S) (h1 : 128 ≤ r) (h2 : r + 7 < n) (I : SI S) : x_Store_cellsOf d r x (n, f, us) = some (nI (cOf S x), (n, f, us)) := by
  have e := e_cellsOf (f := f) (S := S) (us := us) (d := d) (x := x) h1 h2 I
  rw [show HT f r S = f from h] at e
  exact e
theorem hw_st (h : ST f r S) (h1 : 1311 ≤ r) : ST (HWp f X) r S := h.keep (fun x h3 _ => HWp_off (Or.inr (by omega)))
theorem rf_row (hS : ST f r S) (r1 : 1311 ≤ r) (r2 : r + 7 < n) (ho : o < 100) {m : Nat} (hm : m ≤ 20) (V : ∀ j, j < m → VR R.1 (S.1 (20 * o + j), S.2.1 (20 * o + j)) (rIt R (20 * o + j))) : ∀ k i M (X : SWs), i + k = m → k < M → SWJ R X → loopK (rfB (d + 2) r (nI (20 * o)) (nI m)) M (nI (20 * o + i), (n, HWp f X, us)) = some ((), (n, HWp f (rOs R o k i X), us)) ∧ SWJ R (rOs R o k i X) := by
  intro k
  induction k with
  | zero =>
    intro i M X e1 e2 I
    obtain ⟨M, rfl⟩ : ∃ M', M = M' + 1 := ⟨M - 1, by omega⟩
    refine ⟨?_, I⟩
    rw [loopK_succ, rfB_eq, nI_ad2, if_pos (nI_le (by omega) (by omega))]
    rfl
  | succ k ih =>
    intro i M X e1 e2 I
    obtain ⟨M, rfl⟩ : ∃ M', M = M' + 1 := ⟨M - 1, by omega⟩
    have hX : ST (HWp f X) r S := hw_st hS r1
    have v := V i (by omega)
    rw [loopK_succ, rfB_eq, nI_ad2, if_neg (fun w => absurd (nI_lt (a := 20 * o + i) (b := 20 * o + m) (by omega) (by omega)) (Int32.not_lt.mpr w)), u_g1 hX (by omega) r2, Option.bind_some, u_a1 hX (by omega) r2 (by omega), Option.bind_some, u_g2 hX (by omega) r2, Option.bind_some, u_a2 hX (by omega) r2 (by omega), Option.bind_some, e_swReach (by omega) I.1 v, bnd_some, show nI (20 * o + i) + 1 = nI (20 * o + (i + 1)) from nI_add _ 1]
    exact ih (i + 1) M _ (by omega) (by omega) (I.val v)
theorem rf_rec (hS : ST f r S) (r1 : 1311 ≤ r) (r2 : r + 7 < n) (ho : o < 100) {m : Nat} (hm : m ≤ 8) (V : ∀ j, j < m → (∃ w, okN w ∧ S.1 (20 * o + 2 * j) = nF w ∧ S.2.1 (20 * o + 2 * j) = 0 ∧ R.2.2.1 (8 * o + j) = nV w) ∧ VR R.1 (S.1 (20 * o + 2 * j + 1), S.2.1 (20 * o + 2 * j + 1)) (rIt R (20 * o + j))) : ∀ k i M (X : SWs), i + k = m → 2 * k < M → SWJ R X → loopK (rfB (d + 2) r (nI (20 * o)) (nI (2 * m))) M (nI (20 * o + 2 * i), (n, HWp f X, us)) = some ((), (n, HWp f (rOs R o k i X), us)) ∧ SWJ R (rOs R o k i X) := by
  intro k
  induction k with
  | zero =>
    intro i M X e1 e2 I
    obtain ⟨M, rfl⟩ : ∃ M', M = M' + 1 := ⟨M - 1, by omega⟩
    refine ⟨?_, I⟩
    rw [loopK_succ, rfB_eq, nI_ad2, if_pos (nI_le (by omega) (by omega))]
    rfl
  | succ k ih =>
    intro i M X e1 e2 I
    obtain ⟨M, rfl⟩ : ∃ M', M = M' + 1 + 1 := ⟨M - 2, by omega⟩
    have hX : ST (HWp f X) r S := hw_st hS r1
    obtain ⟨⟨w, w1, w2, w3, w4⟩, v⟩ := V i (by omega)
    rw [loopK_succ, rfB_eq, nI_ad2, if_neg (fun w => absurd (nI_lt (a := 20 * o + 2 * i) (b := 20 * o + 2 * m) (by omega) (by omega)) (Int32.not_lt.mpr w)), u_g1 hX (by omega) r2, Option.bind_some, u_a1 hX (by omega) r2 (by omega), Option.bind_some, u_g2 hX (by omega) r2, Option.bind_some, u_a2 hX (by omega) r2 (by omega), Option.bind_some, w2, sw_name (by omega) w1, bnd_some, show nI (20 * o + 2 * i) + 1 = nI (20 * o + 2 * i + 1) from nI_add _ 1]
    rw [loopK_succ, rfB_eq, nI_ad2, if_neg (fun w => absurd (nI_lt (a := 20 * o + 2 * i + 1) (b := 20 * o + 2 * m) (by omega) (by omega)) (Int32.not_lt.mpr w)), u_g1 hX (by omega) r2, Option.bind_some, u_a1 hX (by omega) r2 (by omega), Option.bind_some, u_g2 hX (by omega) r2, Option.bind_some, u_a2 hX (by omega) r2 (by omega), Option.bind_some, e_swReach (by omega) I.1 v, bnd_some, show nI (20 * o + 2 * i + 1) + 1 = nI (20 * o + 2 * (i + 1)) from nI_add _ 1]
    exact ih (i + 1) M _ (by omega) (by omega) (I.val v)
theorem e_swFrom (Q : SR S R) (hS : ST f r S) (r1 : 1311 ≤ r) (r2 : r + 7 < n) (ho : o < 100) (hk : ¬ R.1 o = 0) (I : SWJ R X) : x_Sweep_reachFrom (d + 3) 157 r (nI o) (n, HWp f X, us) = some ((), (n, HWp f (rO R o X), us)) ∧ SWJ R (rO R o X) := by
  have hX : ST (HWp f X) r S := hw_st hS r1
  have e : x_Sweep_reachFrom (d + 3) 157 r (nI o) (n, HWp f X, us) = gd (n, HWp f X, us) 157 8 (bnd (x_Store_firstCell (d + 2) r (nI o) (n, HWp f X, us)) fun v2 s1 => (bnd (x_Store_cellsOf (d + 2) r (nI o) s1) fun v4 s3 => (loopK (rfB (d + 2) r v2 v4) FU (v2, s3)))) := rfl
  rw [e, gd_of (s := (n, HWp f X, us)) (HW_7 f X) (by decide) (show 157 < n by omega), u_first hX (by omega) r2, bnd_some, u_cells hX (by omega) r2 Q.si, bnd_some, fO_n ho, cOf_n ho]
  unfold rO
  rcases Q.1 o ho with ⟨_, h2⟩ | ⟨m, h1, h2, h3, h4, h5⟩ | ⟨m, h1, h2, h3, h4, h5⟩
  · exact absurd h2 hk
  · rw [h3, h4, nI_clamp (by omega)]
    have z := rf_row (d := d) (us := us) hS r1 r2 ho h1 h5 m 0 FU X (by omega) (by rw [FU_eq]; omega) I
    exact z
  · rw [h3, h4, nI_clamp (by omega), nI_clamp (by omega)]
    have z := rf_rec (d := d) (us := us) hS r1 r2 ho h1 h5 m 0 FU X (by omega) (by rw [FU_eq]; omega) I
    exact z
/-- takeUnreached -/
def unS (S : SC) (R : RS) (X : SWs) (i : Nat) : SC := (S.1, S.2.1, (fun o => if o < i ∧ swG R X o = true then -1 else S.2.2.1 o), S.2.2.2)
theorem tu_L (Q : SR S R) (r1 : 1311 ≤ r) (r2 : r + 7 < n) (I : SWI X) : ∀ m i M, i + m = 100 → m < M → loopK (tuB (d + 1) r) M (nI (cntB (swG R X) i), nI i, (n, HT (HWp f X) r (unS S R X i), us)) = some (nI (cntB (swG R X) 100), (n, HT (HWp f X) r (unS S R X 100), us)) := by
  intro m
  induction m with
  | zero =>
    intro i M e1 e2
    obtain ⟨M, rfl⟩ : ∃ M', M = M' + 1 := ⟨M - 1, by omega⟩
    rw [loopK_succ, tuB_eq, if_pos (show (100 : Int32) ≤ nI i from nI_le (a := 100) (by omega) (by omega)), show i = 100 by omega]
  | succ m ih =>
    intro i M e1 e2
    obtain ⟨M, rfl⟩ : ∃ M', M = M' + 1 := ⟨M - 1, by omega⟩
    have b0 := cl0 (show i < 2 ^ 31 by omega)
    have k := ih (i + 1) M (by omega) (by omega)
    have o7 : HT (HWp f X) r (unS S R X i) 157 = _ := (HT_off (Or.inl (by omega))).trans (HW_7 f X)
    have o8 : HT (HWp f X) r (unS S R X i) 158 = _ := (HT_off (Or.inl (by omega))).trans (HW_8 f X)
    have ob := ob_c (Q.1 i (by omega))
    have ii : (unS S R X i).2.2.1 i = S.2.2.1 i := if_neg (fun w => absurd w.1 (Nat.lt_irrefl _))
    have same : swG R X i = false → unS S R X (i + 1) = unS S R X i := by
      intro g
      unfold unS
      refine congrArg (fun z => (S.1, S.2.1, z, S.2.2.2)) (funext fun o => ?_)
      by_cases c : o = i
      · rw [c, if_neg (fun w => by rw [g] at w; exact absurd w.2 (by decide)), if_neg (fun w => absurd w.1 (Nat.lt_irrefl _))]
      · have e : (o < i + 1 ∧ swG R X o = true) = (o < i ∧ swG R X o = true) := propext ⟨fun w => ⟨by omega, w.2⟩, fun w => ⟨by omega, w.2⟩⟩
        simp only [e]
    rw [cntB] at k
    rw [loopK_succ, tuB_eq, if_neg (show ¬ (100 : Int32) ≤ nI i from nI_ge (b := 100) (by omega) (by omega)), gR_of (s := (n, HT (HWp f X) r (unS S R X i), us)) (k := 0) (x := 158) o7 (by decide) (show 157 < n by omega) rfl, Option.bind_some, aZ_of (s := (n, HT (HWp f X) r (unS S R X i), us)) o8 (by decide) (show 158 < n by omega) b0.1 (by rw [b0.2]; omega), b0.2, Option.bind_some, show nI i + 1 = nI (i + 1) from nI_add i 1]
    by_cases c0 : X.1 i = 0
    · rw [if_pos c0, e_isThere (by omega) r2, bnd_some, isT_n (by omega), ii]
      by_cases c1 : S.2.2.1 i = -1
      · have g : swG R X i = false := decide_eq_false (fun w => w.1 (ob.mp c1))
        rw [if_neg (show ¬ decide (¬ S.2.2.1 i = -1) = true from fun w => of_decide_eq_true w c1), if_pos rfl]
        rw [if_neg (by rw [g]; decide), same g] at k
        exact k
      · have g : swG R X i = true := decide_eq_true ⟨fun w => c1 (ob.mpr w), c0⟩
        have tk : x_Store_takeAway (d + 1) r (nI i) (n, HT (HWp f X) r (unS S R X i), us) = some ((), (n, HT (HWp f X) r (unS S R X (i + 1)), us)) := by
          unfold x_Store_takeAway
          dsimp only
          rw [t_gd (by omega) r2, e_isThere (by omega) r2, bnd_some, isT_n (by omega), ii, if_pos (show decide (¬ S.2.2.1 i = -1) = true from decide_eq_true c1), if_neg (show ¬ (1 : Int32) = 0 by decide), t_g3 (by omega) r2, Option.bind_some, t_s3 (by omega) r2 (by omega), Option.bind_some]
          refine congrArg (fun z => some ((), (n, HT (HWp f X) r (S.1, S.2.1, z, S.2.2.2), us))) (funext fun o => ?_)
          unfold upI
          by_cases c : o = i
          · rw [if_pos c, c, if_pos ⟨by omega, g⟩]
          · rw [if_neg c]
            have e : (o < i + 1 ∧ swG R X o = true) = (o < i ∧ swG R X o = true) := propext ⟨fun w => ⟨by omega, w.2⟩, fun w => ⟨by omega, w.2⟩⟩
            unfold unS
            simp only [e]
        rw [if_pos (show decide (¬ S.2.2.1 i = -1) = true from decide_eq_true c1), if_neg (show ¬ (1 : Int32) = 0 by decide), tk, bnd_some, show nI (cntB (swG R X) i) + 1 = nI (cntB (swG R X) i + 1) from nI_add _ 1]
        rw [if_pos g] at k
        exact k
    · have g : swG R X i = false := decide_eq_false (fun w => c0 w.2)
      rw [if_neg c0]
      rw [if_neg (by rw [g]; decide), same g] at k
      exact k
theorem e_takeU (Q : SR S R) (hS : ST f r S) (r1 : 1311 ≤ r) (r2 : r + 7 < n) (I : SWI X) : x_Sweep_takeUnreached (d + 2) 157 r (n, HWp f X, us) = some (nI (cntB (swG R X) 100), (n, HT (HWp f X) r (unS S R X 100), us)) := by
  have hX : ST (HWp f X) r S := hw_st hS r1
  have e : x_Sweep_takeUnreached (d + 2) 157 r (n, HWp f X, us) = gd (n, HWp f X, us) 157 8 (loopK (tuB (d + 1) r) FU (nI (cntB (swG R X) 0), nI 0, (n, HWp f X, us))) := rfl
  have z := tu_L (d := d) (us := us) (f := f) Q r1 r2 I 100 0 FU rfl (by rw [FU_eq]; decide)
  have u0 : unS S R X 0 = S := by
    unfold unS
    refine Prod.ext rfl (Prod.ext rfl (Prod.ext (funext fun o => ?_) rfl))
    dsimp only
    rw [if_neg (fun w => absurd w.1 (Nat.not_lt_zero _))]
  rw [u0, show HT (HWp f X) r S = HWp f X from hX] at z
  rw [e, gd_of (s := (n, HWp f X, us)) (HW_7 f X) (by decide) (show 157 < n by omega), z]
theorem cn2_L (Q : SR S R) (hS : ST f r S) (r1 : 1311 ≤ r) (r2 : r + 7 < n) : ∀ m i M (X : SWs), i + m = 100 → m < M → SWJ R X → loopK (cn2 (d + 3) r) M (nI i, (n, HWp f X, us)) = some (nI (cntB (swG R (rQs R m i X)) 100), (n, HT (HWp f (rQs R m i X)) r (unS S R (rQs R m i X) 100), us)) := by
  intro m
  induction m with
  | zero =>
    intro i M X e1 e2 I
    obtain ⟨M, rfl⟩ : ∃ M', M = M' + 1 := ⟨M - 1, by omega⟩
    have le := I.1.le
    rw [loopK_succ, cn2_eq, gI_of (s := (n, HWp f X, us)) (k := 2) (x := nI X.2.2) (HW_7 f X) (by decide) (show 157 < n by omega) rfl, Option.bind_some, if_pos (nI_le (by omega) (by omega)), e_takeU (d := d + 1) Q hS r1 r2 I.1, bnd_some]
    rfl
  | succ m ih =>
    intro i M X e1 e2 I
    obtain ⟨M, rfl⟩ : ∃ M', M = M' + 1 := ⟨M - 1, by omega⟩
    have le := I.1.le
    rw [loopK_succ, cn2_eq, gI_of (s := (n, HWp f X, us)) (k := 2) (x := nI X.2.2) (HW_7 f X) (by decide) (show 157 < n by omega) rfl, Option.bind_some, rQs]
    by_cases c : i < X.2.2
    · obtain ⟨o, ho, eo, ko⟩ := I.2 i c
      have b0 := cl0 (show i < 2 ^ 31 by omega)
      have z := e_swFrom (d := d) (us := us) Q hS r1 r2 ho ko I
      rw [if_pos c, if_neg (fun w => absurd (nI_lt (a := i) (b := X.2.2) (by omega) (by omega)) (Int32.not_lt.mpr w)), if_neg (show ¬ (100 : Int32) ≤ nI i from nI_ge (b := 100) (by omega) (by omega)), gR_of (s := (n, HWp f X, us)) (k := 1) (x := 159) (HW_7 f X) (by decide) (show 157 < n by omega) rfl, Option.bind_some, aI_of (s := (n, HWp f X, us)) (HW_9 f X) (by decide) (show 159 < n by omega) b0.1 (by rw [b0.2]; omega), b0.2, Option.bind_some, eo, z.1, bnd_some, show nI i + 1 = nI (i + 1) from nI_add i 1, nI_clamp (by omega)]
      exact ih (i + 1) M _ (by omega) (by omega) z.2
    · rw [if_neg c, if_pos (nI_le (by omega) (by omega)), e_takeU (d := d + 1) Q hS r1 r2 I.1, bnd_some]
theorem cn1_L (Q : SR S R) (hS : ST f r S) (r1 : 1311 ≤ r) (r2 : r + 7 < n) : ∀ k i M (X : SWs), i + k = S.2.2.2.2.2.2.1 → k < M → SWJ R X → loopK (cn1 (d + 3) r) M (nI i, (n, HWp f X, us)) = some (nI (cntB (swG R (rQs R 100 0 (rRs R k i X))) 100), (n, HT (HWp f (rQs R 100 0 (rRs R k i X))) r (unS S R (rQs R 100 0 (rRs R k i X)) 100), us)) := by
  have hk := Q.2.2.1
  intro k
  induction k with
  | zero =>
    intro i M X e1 e2 I
    obtain ⟨M, rfl⟩ : ∃ M', M = M' + 1 := ⟨M - 1, by omega⟩
    have hX : ST (HWp f X) r S := hw_st hS r1
    have z := cn2_L (d := d) (us := us) Q hS r1 r2 100 0 FU X rfl (by rw [FU_eq]; decide) I
    rw [loopK_succ, cn1_eq]
    unfold x_Store_roots
    rw [u_gd hX (by omega) r2, u_gk hX (by omega) r2, Option.bind_some, bnd_some, if_pos (nI_le (by omega) (by omega))]
    exact z
  | succ k ih =>
    intro i M X e1 e2 I
    obtain ⟨M, rfl⟩ : ∃ M', M = M' + 1 := ⟨M - 1, by omega⟩
    have hX : ST (HWp f X) r S := hw_st hS r1
    obtain ⟨w, w1, w2, w3, v, _⟩ := Q.2.2.2.2.1 i (by omega)
    have z := ih (i + 1) M (rchQ X (rVl R i)) (by omega) (by omega) (I.val v)
    rw [loopK_succ, cn1_eq]
    unfold x_Store_roots
    rw [u_gd hX (by omega) r2, u_gk hX (by omega) r2, Option.bind_some, bnd_some, if_neg (fun w => absurd (nI_lt (a := i) (b := S.2.2.2.2.2.2.1) (by omega) (by omega)) (Int32.not_lt.mpr w)), u_g5 hX (by omega) r2, Option.bind_some, u_a5 hX (by omega) r2 (by omega), Option.bind_some, u_g6 hX (by omega) r2, Option.bind_some, u_a6 hX (by omega) r2 (by omega), Option.bind_some, e_swReach (d := d + 1) (by omega) I.1 v, bnd_some, show nI i + 1 = nI (i + 1) from nI_add _ 1]
    exact z
def zrI (g : Nat → Int32) (i : Nat) : Nat → Int32 := fun j => if j < i then 0 else g j
def zrX (X : SWs) (i : Nat) : SWs := (zrI X.1 i, X.2)
/-- nothing is reached yet -/
def X0w (X : SWs) : SWs := (zrI X.1 100, X.2.1, 0)
theorem cntB_0 {b : Nat → Bool} : ∀ n, (∀ i, i < n → b i = false) → cntB b n = 0
  | 0, _ => rfl
  | n + 1, h => by
    rw [cntB, cntB_0 n (fun i hi => h i (by omega)), h n (by omega)]
    rfl
theorem x0_swj (h : ∀ o, X.1 o = 0 ∨ X.1 o = 1) : SWJ R (X0w X) := by
  refine ⟨⟨?_, fun o => ?_, fun i hi => absurd hi (Nat.not_lt_zero _)⟩, fun i hi => absurd hi (Nat.not_lt_zero _)⟩
  · show 0 = _
    refine (cntB_0 100 (fun i hi => decide_eq_false (fun w => w ?_))).symm
    show zrI X.1 100 i = 0
    exact if_pos hi
  · show zrI X.1 100 o = 0 ∨ zrI X.1 100 o = 1
    unfold zrI
    by_cases c : o < 100
    · rw [if_pos c]
      exact Or.inl rfl
    · rw [if_neg c]
      exact h o
theorem zrI_up {g : Nat → Int32} {i : Nat} : upI (zrI g i) i 0 = zrI g (i + 1) := by
  funext j
  unfold upI zrI
  by_cases c : j = i
  · rw [if_pos c, if_pos (by omega)]
  · rw [if_neg c]
    have e : (j < i + 1) = (j < i) := propext ⟨fun w => by omega, fun w => by omega⟩
    simp only [e]
/-- Sweeper.clean: what goes, and the Store after it -/
theorem e_clean (Q : SR S R) (hS : ST f r S) (r1 : 1311 ≤ r) (r2 : r + 7 < n) (h : ∀ o, X.1 o = 0 ∨ X.1 o = 1) {Y : SWs} (hY : Y = rAll R S.2.2.2.2.2.2.1 (X0w X)) : x_Sweep_clean (d + 4) 157 r (n, HWp f X, us) = some (nI (cntB (swG R Y) 100), (n, HT (HWp f Y) r (unS S R Y 100), us)) := by
  have e : x_Sweep_clean (d + 4) 157 r (n, HWp f X, us) = gd (n, HWp f X, us) 157 8 (loopK (cn0 (d + 3) r) FU (nI 0, (n, HWp f X, us))) := rfl
  rw [e, gd_of (s := (n, HWp f X, us)) (HW_7 f X) (by decide) (show 157 < n by omega)]
  have L : ∀ m i M, i + m = 100 → m < M → loopK (cn0 (d + 3) r) M (nI i, (n, HWp f (zrX X i), us)) = some (nI (cntB (swG R Y) 100), (n, HT (HWp f Y) r (unS S R Y 100), us)) := by
    intro m
    induction m with
    | zero =>
      intro i M e1 e2
      obtain ⟨M, rfl⟩ : ∃ M', M = M' + 1 := ⟨M - 1, by omega⟩
      have z := cn1_L (d := d) (us := us) Q hS r1 r2 S.2.2.2.2.2.2.1 0 FU (X0w X) (by omega) (by have := Q.2.2.1; rw [FU_eq]; omega) (x0_swj h)
      rw [loopK_succ, cn0_eq, if_pos (show (100 : Int32) ≤ nI i from nI_le (a := 100) (by omega) (by omega)), pV_of (s := (n, HWp f (zrX X i), us)) (HW_7 f _) (by decide) (show 157 < n by omega) (by show 2 < 3; decide), Option.bind_some]
      rw [hY]
      refine Eq.trans (congrArg (fun F => loopK (cn1 (d + 3) r) FU (0, (n, F, us))) ?_) z
      rw [show i = 100 by omega]
      exact HWu_7 (k := 0)
    | succ m ih =>
      intro i M e1 e2
      obtain ⟨M, rfl⟩ : ∃ M', M = M' + 1 := ⟨M - 1, by omega⟩
      have b0 := cl0 (show i < 2 ^ 31 by omega)
      have z := ih (i + 1) M (by omega) (by omega)
      rw [loopK_succ, cn0_eq, if_neg (show ¬ (100 : Int32) ≤ nI i from nI_ge (b := 100) (by omega) (by omega)), gR_of (s := (n, HWp f (zrX X i), us)) (k := 0) (x := 158) (HW_7 f _) (by decide) (show 157 < n by omega) rfl, Option.bind_some, sZ_of (s := (n, HWp f (zrX X i), us)) (Or.inl rfl) (HW_8 f _) (by decide) (show 158 < n by omega) b0.1 (by rw [b0.2]; omega), b0.2, Option.bind_some, show nI i + 1 = nI (i + 1) from nI_add i 1]
      dsimp only
      rw [HWu_8, show (zrX X i).1 = zrI X.1 i from rfl, zrI_up]
      exact z
  have z := L 100 0 FU rfl (by rw [FU_eq]; decide)
  refine Eq.trans (congrArg (fun F => loopK (cn0 (d + 3) r) FU (nI 0, (n, HWp f F, us))) ?_) z
  refine Prod.ext (funext fun j => ?_) rfl
  exact (if_neg (Nat.not_lt_zero j) : (if j < 0 then (0 : Int32) else X.1 j) = X.1 j).symm
end
