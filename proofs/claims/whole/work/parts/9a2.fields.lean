section
theorem rng_c (x : Int32) : (x < 0 ∨ 100 ≤ x) ∨ ∃ o : Nat, o < 100 ∧ x = nI o := by
  by_cases h : x < 0
  · exact Or.inl (Or.inl h)
  · obtain ⟨j, hj, rfl⟩ := nI_of h
    by_cases h2 : j < 100
    · exact Or.inr ⟨j, h2, rfl⟩
    · exact Or.inl (Or.inr (nI_le (a := 100) (by omega) hj))
theorem rng_n {o : Nat} (h : o < 100) : ¬ (nI o < 0 ∨ 100 ≤ nI o) := fun w => w.elim (nI_pos (by omega)) (nI_ge (b := 100) h (by decide))
theorem nI_m1 {m : Nat} (h : m < 2 ^ 31) : ¬ nI m = -1 := fun w => nI_pos h (by rw [w]; decide)
def cOf (S : SC) (x : Int32) : Nat := if x < 0 ∨ 100 ≤ x then 0 else (S.2.2.1 x.toNatClampNeg).toNatClampNeg
def fO (x : Int32) : Nat := if x < 0 ∨ 100 ≤ x then 0 else 20 * x.toNatClampNeg
def isT (S : SC) (x : Int32) : Bool := decide (¬ (x < 0 ∨ 100 ≤ x) ∧ ¬ S.2.2.1 x.toNatClampNeg = -1)
def SI (S : SC) : Prop := S.2.2.2.2.2.2.1 ≤ 12 ∧ S.2.2.2.2.2.2.2.2 ≤ 10 ∧ ∀ o, o < 100 → S.2.2.1 o = -1 ∨ ∃ m, m ≤ 20 ∧ S.2.2.1 o = nI m
variable {n us r d : Nat} {f : Nat → am_C} {S : SC} {x : Int32}
theorem cOf_n {o : Nat} (h : o < 100) : cOf S (nI o) = (S.2.2.1 o).toNatClampNeg := by
  unfold cOf
  rw [if_neg (rng_n h), nI_clamp (by omega)]
theorem fO_n {o : Nat} (h : o < 100) : fO (nI o) = 20 * o := by
  unfold fO
  rw [if_neg (rng_n h), nI_clamp (by omega)]
theorem isT_n {o : Nat} (h : o < 100) : isT S (nI o) = decide (¬ S.2.2.1 o = -1) := by
  unfold isT
  rw [nI_clamp (by omega)]
  exact decide_eq_decide.mpr ⟨fun w => w.2, fun w => ⟨rng_n h, w⟩⟩
theorem cOf_le (I : SI S) : cOf S x ≤ 20 ∧ fO x + 20 ≤ 2000 := by
  rcases rng_c x with h | ⟨o, ho, rfl⟩
  · unfold cOf fO
    rw [if_pos h, if_pos h]
    omega
  · rw [cOf_n ho, fO_n ho]
    rcases I.2.2 o ho with h | ⟨m, h3, h⟩ <;> rw [h]
    · exact ⟨by decide, by omega⟩
    · rw [nI_clamp (by omega)]
      omega
theorem e_cellsOf (h1 : 128 ≤ r) (h2 : r + 7 < n) (I : SI S) : x_Store_cellsOf d r x (n, HT f r S, us) = some (nI (cOf S x), (n, HT f r S, us)) := by
  unfold x_Store_cellsOf x_Store_cellsOf_b24 x_Store_cellsOf_b25
  rw [t_gd h1 h2]
  rcases rng_c x with h | ⟨o, ho, rfl⟩
  · unfold cOf
    rw [if_pos h, nI_0]
    rcases h with h | h
    · rw [if_pos h]
      rfl
    · by_cases q : x < 0
      · rw [if_pos q]
        rfl
      · rw [if_neg q, if_pos h]
        rfl
  · rw [if_neg (fun w => rng_n ho (Or.inl w)), if_neg (fun w => rng_n ho (Or.inr w)), t_g3 h1 h2, Option.bind_some, t_a3 h1 h2 ho, Option.bind_some, cOf_n ho]
    rcases I.2.2 o ho with h | ⟨m, h3, h⟩
    · rw [if_pos h, h]
      rfl
    · rw [if_neg (by rw [h]; exact nI_m1 (by omega)), if_neg (by decide), Option.bind_some, t_a3 h1 h2 ho, Option.bind_some, h, nI_clamp (by omega)]
theorem e_firstCell (h1 : 128 ≤ r) (h2 : r + 7 < n) : x_Store_firstCell d r x (n, HT f r S, us) = some (nI (fO x), (n, HT f r S, us)) := by
  unfold x_Store_firstCell
  rw [t_gd h1 h2]
  rcases rng_c x with h | ⟨o, ho, rfl⟩
  · unfold fO
    rw [if_pos h, nI_0]
    rcases h with h | h
    · rw [if_pos h]
    · by_cases q : x < 0
      · rw [if_pos q]
      · rw [if_neg q, if_pos h]
  · rw [if_neg (fun w => rng_n ho (Or.inl w)), if_neg (fun w => rng_n ho (Or.inr w)), fO_n ho, show (20 : Int32) = nI 20 from rfl, nI_mul, Nat.mul_comm]
theorem e_isThere (h1 : 128 ≤ r) (h2 : r + 7 < n) : x_Store_isThere d r x (n, HT f r S, us) = some (if isT S x = true then 1 else 0, (n, HT f r S, us)) := by
  unfold x_Store_isThere
  rw [t_gd h1 h2]
  rcases rng_c x with h | ⟨o, ho, rfl⟩
  · have e : isT S x = false := decide_eq_false fun w => w.1 h
    rw [e]
    rcases h with h | h
    · rw [if_pos h]
      rfl
    · by_cases q : x < 0
      · rw [if_pos q]
        rfl
      · rw [if_neg q, if_pos h]
        rfl
  · rw [if_neg (fun w => rng_n ho (Or.inl w)), if_neg (fun w => rng_n ho (Or.inr w)), t_g3 h1 h2, Option.bind_some, t_a3 h1 h2 ho, Option.bind_some, isT_n ho]
    by_cases h : S.2.2.1 o = -1
    · rw [if_pos h, if_neg (by simp [h])]
    · rw [if_neg h, if_pos (decide_eq_true h)]
/-! make -/
def ffr (c : Nat → Int32) : Nat → Nat → Option Nat
  | 0, _ => none
  | m + 1, i => if c i = -1 then some i else ffr c m (i + 1)
def c_make (S : SC) : Option Nat × SC := match ffr S.2.2.1 100 0 with
  | none => (none, S)
  | some i => (some i, (S.1, S.2.1, upI S.2.2.1 i 0, S.2.2.2))
theorem ffr_lt {c : Nat → Int32} : ∀ m i j, ffr c m i = some j → i ≤ j ∧ j < i + m ∧ c j = -1
  | 0, _, _, h => by cases h
  | m + 1, i, j, h => by
    unfold ffr at h
    split at h
    · cases h
      exact ⟨Nat.le_refl _, by omega, by assumption⟩
    · have := ffr_lt m (i + 1) j h
      exact ⟨by omega, by omega, this.2.2⟩
theorem e_make (h1 : 128 ≤ r) (h2 : r + 7 < n) : x_Store_make d r (n, HT f r S, us) = some ((match (c_make S).1 with | none => -1 | some i => nI i), (n, HT f r (c_make S).2, us)) := by
  unfold x_Store_make
  rw [t_gd h1 h2]
  have key := loop_ind (b := fun (again2 : Int32 × HS → Option (Int32 × HS)) (z2 : Int32 × HS) => (if 100 ≤ z2.1 then (some ((-1), z2.2)) else ((gR z2.2 r 10 2).bind fun v1 => ((aI z2.2 v1 z2.1).bind fun v2 => (if v2 = (-1) then ((gR z2.2 r 10 2).bind fun v3 => ((sV z2.2 .int v3 z2.1 (.int 0)).bind fun s4 => (some (z2.1, s4)))) else (again2 ((z2.1 + 1), z2.2))))))) (fun z q => ∀ m i, i + m = 100 → z = (nI i, (n, HT f r S, us)) → q = (match ffr S.2.2.1 m i with | none => some (-1, (n, HT f r S, us)) | some j => some (nI j, (n, HT f r (S.1, S.2.1, upI S.2.2.1 j 0, S.2.2.2), us)))) (fun z => 100 - z.1.toNatClampNeg) (fun again z ih m i e ez => ?_) FU (0, (n, HT f r S, us)) (by rw [FU_eq]; omega) 100 0 rfl rfl
  · refine key.trans ?_
    unfold c_make
    split <;> rfl
  · subst ez
    dsimp only
    cases m with
    | zero =>
      obtain rfl : i = 100 := by omega
      rw [if_pos (show (100 : Int32) ≤ nI 100 from Int32.le_refl _)]
      rfl
    | succ m =>
      have b0 := cl0 (show i < 2 ^ 31 by omega)
      rw [if_neg (show ¬ (100 : Int32) ≤ nI i from nI_ge (b := 100) (by omega) (by decide)), t_g3 h1 h2, Option.bind_some, t_a3 h1 h2 (by omega), Option.bind_some, ffr]
      by_cases c : S.2.2.1 i = -1
      · rw [if_pos c, if_pos c, Option.bind_some, t_s3 h1 h2 (by omega), Option.bind_some]
      · rw [if_neg c, if_neg c, ← nI_succ]
        exact ih _ (by simp only [nI_clamp (show i + 1 < 2 ^ 31 by omega), b0.2]; omega) m (i + 1) (by omega) rfl
/-! append and dropLast -/
def c_app (S : SC) (x : Int32) (h t : Int64) : Bool × SC := if isT S x = true then (if cOf S x < 20 then (true, (upL S.1 (fO x + cOf S x) h, upL S.2.1 (fO x + cOf S x) t, upI S.2.2.1 x.toNatClampNeg (nI (cOf S x + 1)), S.2.2.2)) else (false, S)) else (false, S)
theorem isT_i (h : isT S x = true) : ∃ o, o < 100 ∧ x = nI o ∧ ¬ S.2.2.1 o = -1 := by
  have w := of_decide_eq_true h
  rcases rng_c x with q | ⟨o, ho, rfl⟩
  · exact absurd q w.1
  · rw [nI_clamp (by omega)] at w
    exact ⟨o, ho, rfl, w.2⟩
theorem e_append (h1 : 128 ≤ r) (h2 : r + 7 < n) (I : SI S) {h t : Int64} : x_Store_append (d + 1) r x h t (n, HT f r S, us) = some (if (c_app S x h t).1 = true then 1 else 0, (n, HT f r (c_app S x h t).2, us)) := by
  unfold x_Store_append c_app
  dsimp only
  rw [t_gd h1 h2, e_cellsOf h1 h2 I, bnd_some, e_isThere h1 h2, bnd_some]
  by_cases c : isT S x = true
  · obtain ⟨o, ho, rfl, hc⟩ := isT_i c
    have l := cOf_le (x := nI o) I
    rw [if_pos c, if_pos c, if_neg (show ¬ (1 : Int32) = 0 by decide)]
    by_cases c2 : cOf S (nI o) < 20
    · rw [if_pos (show nI (cOf S (nI o)) < 20 from nI_lt (b := 20) c2 (by decide)), if_pos c2, e_firstCell h1 h2, bnd_some, nI_add, t_g1 h1 h2, Option.bind_some, t_s1 h1 h2 (by omega), Option.bind_some, t_g2 h1 h2, Option.bind_some, t_s2 h1 h2 (by omega), Option.bind_some, t_g3 h1 h2, Option.bind_some, ← nI_succ, t_s3 h1 h2 ho, Option.bind_some, nI_clamp (show o < 2 ^ 31 by omega)]
      rfl
    · rw [if_neg (show ¬ nI (cOf S (nI o)) < 20 from nI_nlt (b := 20) (by omega) (by omega)), if_neg c2]
      rfl
  · rw [if_neg c, if_neg c, if_pos rfl]
    rfl
def c_dl (S : SC) (x : Int32) : SC := if cOf S x = 0 then S else (S.1, S.2.1, upI S.2.2.1 x.toNatClampNeg (S.2.2.1 x.toNatClampNeg - 1), S.2.2.2)
theorem e_dropLastS (h1 : 128 ≤ r) (h2 : r + 7 < n) (I : SI S) : x_Store_dropLast (d + 1) r x (n, HT f r S, us) = some ((), (n, HT f r (c_dl S x), us)) := by
  unfold x_Store_dropLast c_dl
  dsimp only
  rw [t_gd h1 h2, e_cellsOf h1 h2 I, bnd_some]
  by_cases c : cOf S x = 0
  · rw [if_pos (show nI (cOf S x) ≤ 0 by rw [c]; decide), if_pos c]
  · have l := cOf_le (x := x) I
    rw [if_neg (nI_nle (by omega) (by omega)), if_neg c]
    rcases rng_c x with q | ⟨o, ho, rfl⟩
    · exact absurd (show cOf S x = 0 by unfold cOf; rw [if_pos q]) c
    · rw [t_g3 h1 h2, Option.bind_some, t_a3 h1 h2 ho, Option.bind_some, t_s3 h1 h2 ho, Option.bind_some, nI_clamp (show o < 2 ^ 31 by omega)]
/-! fields -/
def s_fc (h : Nat → Int64) (y : Int64) : Nat → Nat → Int32
  | 0, _ => -1
  | m + 1, i => if lg_cmp (h i) y = 0 then nI (i + 1) else s_fc h y m (i + 2)
theorem s_fc_neg {g : Nat → Int64} {y : Int64} : ∀ m i, i + 2 * m < 2 ^ 31 → (s_fc g y m i < 0 ∧ s_fc g y m i = -1) ∨ ∃ j, j < m ∧ s_fc g y m i = nI (i + 2 * j + 1) ∧ g (i + 2 * j) = y
  | 0, i, _ => Or.inl ⟨show (-1 : Int32) < 0 by decide, rfl⟩
  | m + 1, i, h => by
    unfold s_fc
    by_cases c : lg_cmp (g i) y = 0
    · rw [if_pos c]
      exact Or.inr ⟨0, by omega, rfl, lc_eq.mp c⟩
    · rw [if_neg c]
      rcases s_fc_neg m (i + 2) (by omega) with w | ⟨j, w1, w2, w3⟩
      · exact Or.inl w
      · exact Or.inr ⟨j + 1, by omega, by rw [w2]; congr 1; omega, by rw [← w3]; congr 1; omega⟩
def c_fc (S : SC) (x : Int32) (y : Int64) : Int32 := s_fc S.1 y (cOf S x / 2) (fO x)
theorem e_fieldCell (h1 : 128 ≤ r) (h2 : r + 7 < n) (I : SI S) {y : Int64} : x_Store_fieldCell (d + 1) r x y (n, HT f r S, us) = some (c_fc S x y, (n, HT f r S, us)) := by
  have l := cOf_le (x := x) I
  unfold x_Store_fieldCell c_fc
  dsimp only
  rw [t_gd h1 h2, e_firstCell h1 h2, bnd_some, e_cellsOf h1 h2 I, bnd_some]
  refine loop_ind (fun z q => ∀ m i, i + 2 * m ≤ fO x + cOf S x → fO x + cOf S x < i + 2 * m + 2 → fO x ≤ i → z = (nI i, (n, HT f r S, us)) → q = some (s_fc S.1 y m i, (n, HT f r S, us))) (fun z => 4000 - z.1.toNatClampNeg) (fun again z ih m i e e2 e3 ez => ?_) FU _ (by rw [FU_eq]; omega) (cOf S x / 2) (fO x) (by omega) (by omega) (by omega) rfl
  subst ez
  dsimp only
  rw [← nI_succ, nI_add]
  cases m with
  | zero =>
    rw [if_pos (nI_le (by omega) (by omega)), s_fc]
  | succ m =>
    have b0 := cl0 (show i < 2 ^ 31 by omega)
    rw [if_neg (nI_ge (by omega) (by omega)), t_g1 h1 h2, Option.bind_some, t_a1 h1 h2 (by omega), Option.bind_some, s_fc]
    split
    · rfl
    · rw [show nI i + 2 = nI (i + 2) from nI_add i 2]
      exact ih _ (by simp only [nI_clamp (show i + 2 < 2 ^ 31 by omega), b0.2]; omega) m (i + 2) (by omega) (by omega) (by omega) rfl
theorem cpy_L (h : Nat → Int64) (a b m : Nat) : va_cpy (fun j => Value.long (h j)) (fun j => Value.long (h j)) a b m = fun j => Value.long (va_cpy h h a b m j) := by
  funext j
  unfold va_cpy
  split <;> rfl
theorem t_c1 (h1 : 128 ≤ r) (h2 : r + 7 < n) {a b m : Nat} (ha : a + m ≤ 2000) (hb : b + m ≤ 2000) : cpA (n, HT f r S, us) (r + 1) (nI a) (r + 1) (nI b) (nI m) = some (n, HT f r (va_cpy S.1 S.1 a b m, S.2), us) := by
  have A := cl0 (show a < 2 ^ 31 by omega)
  have B := cl0 (show b < 2 ^ 31 by omega)
  have M := cl0 (show m < 2 ^ 31 by omega)
  unfold cpA
  rw [show (n, HT f r S, us).2.1 (r + 1) = _ from HT_1]
  dsimp only
  rw [A.2, B.2, M.2, if_pos ⟨rfl, by decide, rfl, by omega, by omega, by omega, by omega, A.1, B.1, M.1, ha, hb, List.all_eq_true.mpr fun i _ => rfl⟩, cpy_L, HTu_1]
theorem t_c2 (h1 : 128 ≤ r) (h2 : r + 7 < n) {a b m : Nat} (ha : a + m ≤ 2000) (hb : b + m ≤ 2000) : cpA (n, HT f r S, us) (r + 2) (nI a) (r + 2) (nI b) (nI m) = some (n, HT f r (S.1, va_cpy S.2.1 S.2.1 a b m, S.2.2), us) := by
  have A := cl0 (show a < 2 ^ 31 by omega)
  have B := cl0 (show b < 2 ^ 31 by omega)
  have M := cl0 (show m < 2 ^ 31 by omega)
  unfold cpA
  rw [show (n, HT f r S, us).2.1 (r + 2) = _ from HT_2]
  dsimp only
  rw [A.2, B.2, M.2, if_pos ⟨rfl, by decide, rfl, by omega, by omega, by omega, by omega, A.1, B.1, M.1, ha, hb, List.all_eq_true.mpr fun i _ => rfl⟩, cpy_L, HTu_2]
def c_df (S : SC) (x a : Int32) : SC := if a < 0 then S else (va_cpy S.1 S.1 (a.toNatClampNeg + 1) (a.toNatClampNeg - 1) (fO x + cOf S x - (a.toNatClampNeg + 1)), va_cpy S.2.1 S.2.1 (a.toNatClampNeg + 1) (a.toNatClampNeg - 1) (fO x + cOf S x - (a.toNatClampNeg + 1)), upI S.2.2.1 x.toNatClampNeg (S.2.2.1 x.toNatClampNeg - 2), S.2.2.2)
theorem e_dropField (h1 : 128 ≤ r) (h2 : r + 7 < n) (I : SI S) {y : Int64} : x_Store_dropField (d + 1) r x (c_fc S x y) (n, HT f r S, us) = some ((), (n, HT f r (c_df S x (c_fc S x y)), us)) := by
  have l := cOf_le (x := x) I
  unfold x_Store_dropField c_df
  dsimp only
  rw [t_gd h1 h2]
  rcases s_fc_neg (g := S.1) (y := y) (cOf S x / 2) (fO x) (by omega) with ⟨w1, w2⟩ | ⟨j, w1, w2, w3⟩
  · rw [show c_fc S x y = -1 from w2, if_neg (show ¬ (0 : Int32) ≤ -1 by decide), if_pos (show (-1 : Int32) < 0 by decide)]
  · have e : c_fc S x y = nI (fO x + 2 * j + 1) := w2
    have A := cl0 (show fO x + 2 * j + 1 < 2 ^ 31 by omega)
    rw [e, if_pos (nI_pos' (by omega)), if_neg A.1, A.2, e_firstCell h1 h2, bnd_some, e_cellsOf h1 h2 I, bnd_some, t_g1 h1 h2, Option.bind_some, Option.bind_some, ← nI_succ, show nI (fO x + 2 * j + 1) - 1 = nI (fO x + 2 * j + 1 - 1) from nI_pred _, nI_add, nI_sub (by omega), t_c1 h1 h2 (by omega) (by omega), Option.bind_some, t_g2 h1 h2, Option.bind_some, Option.bind_some, t_c2 h1 h2 (by omega) (by omega), Option.bind_some, t_g3 h1 h2, Option.bind_some]
    rcases rng_c x with q | ⟨o, ho, rfl⟩
    · have : cOf S x = 0 := by unfold cOf; rw [if_pos q]
      omega
    · rw [t_a3 h1 h2 ho, Option.bind_some, t_s3 h1 h2 ho, Option.bind_some, nI_clamp (show o < 2 ^ 31 by omega)]
def c_setF (S : SC) (x : Int32) (y h t : Int64) : Bool × SC := if s_Cell_sortOf h = 0 then (true, c_df S x (c_fc S x y)) else if c_fc S x y < 0 then (if cOf S x < 16 then c_app (c_app S x y 0).2 x h t else (false, S)) else (true, (upL S.1 (c_fc S x y).toNatClampNeg h, upL S.2.1 (c_fc S x y).toNatClampNeg t, S.2.2))
theorem SI_app (I : SI S) {h t : Int64} : SI (c_app S x h t).2 := by
  unfold c_app
  split
  · next c =>
    split
    · obtain ⟨o, ho, rfl, hc⟩ := isT_i c
      refine ⟨I.1, I.2.1, fun q hq => ?_⟩
      show upI S.2.2.1 (nI o).toNatClampNeg (nI (cOf S (nI o) + 1)) q = -1 ∨ ∃ m, m ≤ 20 ∧ upI S.2.2.1 (nI o).toNatClampNeg (nI (cOf S (nI o) + 1)) q = nI m
      unfold upI
      split
      · exact Or.inr ⟨_, by omega, rfl⟩
      · exact I.2.2 q hq
    · exact I
  · exact I
theorem e_setField (h1 : 128 ≤ r) (h2 : r + 7 < n) (I : SI S) {y h t : Int64} : x_Store_setField (d + 2) r x y h t (n, HT f r S, us) = some (if (c_setF S x y h t).1 = true then 1 else 0, (n, HT f r (c_setF S x y h t).2, us)) := by
  have l := cOf_le (x := x) I
  unfold x_Store_setField c_setF
  dsimp only
  rw [t_gd h1 h2, e_fieldCell h1 h2 I, bnd_some, e_Cell_sortOf, bnd_some]
  by_cases c1 : s_Cell_sortOf h = 0
  · rw [if_pos c1, if_pos c1, e_dropField h1 h2 I, bnd_some]
    rfl
  · rw [if_neg c1, if_neg c1]
    by_cases c2 : c_fc S x y < 0
    · rw [if_pos c2, if_pos c2, e_cellsOf h1 h2 I, bnd_some]
      by_cases c3 : cOf S x < 16
      · rw [if_pos (show nI (cOf S x) < 16 from nI_lt (b := 16) c3 (by decide)), if_pos c3, e_append h1 h2 I, bnd_some, e_append h1 h2 (SI_app I), bnd_some, okB_of (by split <;> simp)]
      · rw [if_neg (show ¬ nI (cOf S x) < 16 from nI_nlt (b := 16) (by omega) (by omega)), if_neg c3]
        rfl
    · rw [if_neg c2, if_neg c2]
      rcases s_fc_neg (g := S.1) (y := y) (cOf S x / 2) (fO x) (by omega) with ⟨w1, w2⟩ | ⟨j, w1, w2, w3⟩
      · exact absurd w1 c2
      · have e : c_fc S x y = nI (fO x + 2 * j + 1) := w2
        rw [e, t_g1 h1 h2, Option.bind_some, t_s1 h1 h2 (by omega), Option.bind_some, t_g2 h1 h2, Option.bind_some, t_s2 h1 h2 (by omega), Option.bind_some, nI_clamp (by omega)]
        rfl
end
