/-! the class's Store as one heap: eight cells from r on over f -/
abbrev SC : Type := (Nat → Int64) × (Nat → Int64) × (Nat → Int32) × (Nat → Int64) × (Nat → Int64) × (Nat → Int64) × Nat × (Nat → Value) × Nat
def HT (f : Nat → am_C) (r : Nat) (S : SC) : Nat → am_C := fun x =>
  if x = r then .inr (10, [.ref (r + 1), .ref (r + 2), .ref (r + 3), .ref (r + 4), .ref (r + 5), .ref (r + 6), .int (nI S.2.2.2.2.2.2.1), .ref (r + 7), .int (nI S.2.2.2.2.2.2.2.2)])
  else if x = r + 1 then .inl (.long, 2000, fun j => .long (S.1 j))
  else if x = r + 2 then .inl (.long, 2000, fun j => .long (S.2.1 j))
  else if x = r + 3 then .inl (.int, 100, fun j => .int (S.2.2.1 j))
  else if x = r + 4 then .inl (.long, 12, fun j => .long (S.2.2.2.1 j))
  else if x = r + 5 then .inl (.long, 12, fun j => .long (S.2.2.2.2.1 j))
  else if x = r + 6 then .inl (.long, 12, fun j => .long (S.2.2.2.2.2.1 j))
  else if x = r + 7 then .inl (.object "StowTongue$Unit", 10, S.2.2.2.2.2.2.2.1)
  else f x
section
variable {n us r : Nat} {f : Nat → am_C} {S : SC}
theorem HT_0 : HT f r S (r) = .inr (10, [.ref (r + 1), .ref (r + 2), .ref (r + 3), .ref (r + 4), .ref (r + 5), .ref (r + 6), .int (nI S.2.2.2.2.2.2.1), .ref (r + 7), .int (nI S.2.2.2.2.2.2.2.2)]) := by
  unfold HT
  rw [if_pos rfl]
theorem HT_1 : HT f r S (r + 1) = .inl (.long, 2000, fun j => .long (S.1 j)) := by
  unfold HT
  rw [if_neg (by omega)]; rw [if_pos rfl]
theorem HT_2 : HT f r S (r + 2) = .inl (.long, 2000, fun j => .long (S.2.1 j)) := by
  unfold HT
  rw [if_neg (by omega)]; rw [if_neg (by omega)]; rw [if_pos rfl]
theorem HT_3 : HT f r S (r + 3) = .inl (.int, 100, fun j => .int (S.2.2.1 j)) := by
  unfold HT
  rw [if_neg (by omega)]; rw [if_neg (by omega)]; rw [if_neg (by omega)]; rw [if_pos rfl]
theorem HT_4 : HT f r S (r + 4) = .inl (.long, 12, fun j => .long (S.2.2.2.1 j)) := by
  unfold HT
  rw [if_neg (by omega)]; rw [if_neg (by omega)]; rw [if_neg (by omega)]; rw [if_neg (by omega)]; rw [if_pos rfl]
theorem HT_5 : HT f r S (r + 5) = .inl (.long, 12, fun j => .long (S.2.2.2.2.1 j)) := by
  unfold HT
  rw [if_neg (by omega)]; rw [if_neg (by omega)]; rw [if_neg (by omega)]; rw [if_neg (by omega)]; rw [if_neg (by omega)]; rw [if_pos rfl]
theorem HT_6 : HT f r S (r + 6) = .inl (.long, 12, fun j => .long (S.2.2.2.2.2.1 j)) := by
  unfold HT
  rw [if_neg (by omega)]; rw [if_neg (by omega)]; rw [if_neg (by omega)]; rw [if_neg (by omega)]; rw [if_neg (by omega)]; rw [if_neg (by omega)]; rw [if_pos rfl]
theorem HT_7 : HT f r S (r + 7) = .inl (.object "StowTongue$Unit", 10, S.2.2.2.2.2.2.2.1) := by
  unfold HT
  rw [if_neg (by omega)]; rw [if_neg (by omega)]; rw [if_neg (by omega)]; rw [if_neg (by omega)]; rw [if_neg (by omega)]; rw [if_neg (by omega)]; rw [if_neg (by omega)]; rw [if_pos rfl]
theorem HT_off {x : Nat} (h : x < r ∨ r + 7 < x) : HT f r S x = f x := by
  unfold HT
  rw [if_neg (by omega)]; rw [if_neg (by omega)]; rw [if_neg (by omega)]; rw [if_neg (by omega)]; rw [if_neg (by omega)]; rw [if_neg (by omega)]; rw [if_neg (by omega)]; rw [if_neg (by omega)]
theorem HTu_k {k : Nat} : va_up (HT f r S) (r) (.inr (10, [.ref (r + 1), .ref (r + 2), .ref (r + 3), .ref (r + 4), .ref (r + 5), .ref (r + 6), .int (nI k), .ref (r + 7), .int (nI S.2.2.2.2.2.2.2.2)])) = HT f r (S.1, S.2.1, S.2.2.1, S.2.2.2.1, S.2.2.2.2.1, S.2.2.2.2.2.1, k, S.2.2.2.2.2.2.2) := by
  funext x
  by_cases hx : x = r
  · rw [hx, va_up_self, HT_0]
  · rw [va_up_ne _ _ hx]
    unfold HT
    simp only [if_neg hx]
theorem HTu_f {k : Nat} : va_up (HT f r S) (r) (.inr (10, [.ref (r + 1), .ref (r + 2), .ref (r + 3), .ref (r + 4), .ref (r + 5), .ref (r + 6), .int (nI S.2.2.2.2.2.2.1), .ref (r + 7), .int (nI k)])) = HT f r (S.1, S.2.1, S.2.2.1, S.2.2.2.1, S.2.2.2.2.1, S.2.2.2.2.2.1, S.2.2.2.2.2.2.1, S.2.2.2.2.2.2.2.1, k) := by
  funext x
  by_cases hx : x = r
  · rw [hx, va_up_self, HT_0]
  · rw [va_up_ne _ _ hx]
    unfold HT
    simp only [if_neg hx]
theorem HTu_1 {h : Nat → Int64} : va_up (HT f r S) (r + 1) (.inl (.long, 2000, fun j => .long (h j))) = HT f r (h, S.2) := by
  funext x
  by_cases hx : x = r + 1
  · rw [hx, va_up_self, HT_1]
  · rw [va_up_ne _ _ hx]
    unfold HT
    simp only [if_neg hx]
theorem HTu_2 {h : Nat → Int64} : va_up (HT f r S) (r + 2) (.inl (.long, 2000, fun j => .long (h j))) = HT f r (S.1, h, S.2.2) := by
  funext x
  by_cases hx : x = r + 2
  · rw [hx, va_up_self, HT_2]
  · rw [va_up_ne _ _ hx]
    unfold HT
    simp only [if_neg hx]
theorem HTu_4 {h : Nat → Int64} : va_up (HT f r S) (r + 4) (.inl (.long, 12, fun j => .long (h j))) = HT f r (S.1, S.2.1, S.2.2.1, h, S.2.2.2.2) := by
  funext x
  by_cases hx : x = r + 4
  · rw [hx, va_up_self, HT_4]
  · rw [va_up_ne _ _ hx]
    unfold HT
    simp only [if_neg hx]
theorem HTu_5 {h : Nat → Int64} : va_up (HT f r S) (r + 5) (.inl (.long, 12, fun j => .long (h j))) = HT f r (S.1, S.2.1, S.2.2.1, S.2.2.2.1, h, S.2.2.2.2.2) := by
  funext x
  by_cases hx : x = r + 5
  · rw [hx, va_up_self, HT_5]
  · rw [va_up_ne _ _ hx]
    unfold HT
    simp only [if_neg hx]
theorem HTu_6 {h : Nat → Int64} : va_up (HT f r S) (r + 6) (.inl (.long, 12, fun j => .long (h j))) = HT f r (S.1, S.2.1, S.2.2.1, S.2.2.2.1, S.2.2.2.2.1, h, S.2.2.2.2.2.2) := by
  funext x
  by_cases hx : x = r + 6
  · rw [hx, va_up_self, HT_6]
  · rw [va_up_ne _ _ hx]
    unfold HT
    simp only [if_neg hx]
theorem HTu_3 {h : Nat → Int32} : va_up (HT f r S) (r + 3) (.inl (.int, 100, fun j => .int (h j))) = HT f r (S.1, S.2.1, h, S.2.2.2) := by
  funext x
  by_cases hx : x = r + 3
  · rw [hx, va_up_self, HT_3]
  · rw [va_up_ne _ _ hx]
    unfold HT
    simp only [if_neg hx]
theorem HTu_7 {h : Nat → Value} : va_up (HT f r S) (r + 7) (.inl (.object "StowTongue$Unit", 10, h)) = HT f r (S.1, S.2.1, S.2.2.1, S.2.2.2.1, S.2.2.2.2.1, S.2.2.2.2.2.1, S.2.2.2.2.2.2.1, h, S.2.2.2.2.2.2.2.2) := by
  funext x
  by_cases hx : x = r + 7
  · rw [hx, va_up_self, HT_7]
  · rw [va_up_ne _ _ hx]
    unfold HT
    simp only [if_neg hx]
theorem t_gd {β : Type} {b : Option β} (h1 : 128 ≤ r) (h2 : r + 7 < n) : gd (n, HT f r S, us) r 10 b = b := gd_of (s := (n, HT f r S, us)) HT_0 h1 (by omega : r < n)
theorem t_g1 (h1 : 128 ≤ r) (h2 : r + 7 < n) : gR (n, HT f r S, us) r 10 0 = some (r + 1) := gR_of (s := (n, HT f r S, us)) HT_0 h1 (by omega : r < n) rfl
theorem t_g2 (h1 : 128 ≤ r) (h2 : r + 7 < n) : gR (n, HT f r S, us) r 10 1 = some (r + 2) := gR_of (s := (n, HT f r S, us)) HT_0 h1 (by omega : r < n) rfl
theorem t_g3 (h1 : 128 ≤ r) (h2 : r + 7 < n) : gR (n, HT f r S, us) r 10 2 = some (r + 3) := gR_of (s := (n, HT f r S, us)) HT_0 h1 (by omega : r < n) rfl
theorem t_g4 (h1 : 128 ≤ r) (h2 : r + 7 < n) : gR (n, HT f r S, us) r 10 3 = some (r + 4) := gR_of (s := (n, HT f r S, us)) HT_0 h1 (by omega : r < n) rfl
theorem t_g5 (h1 : 128 ≤ r) (h2 : r + 7 < n) : gR (n, HT f r S, us) r 10 4 = some (r + 5) := gR_of (s := (n, HT f r S, us)) HT_0 h1 (by omega : r < n) rfl
theorem t_g6 (h1 : 128 ≤ r) (h2 : r + 7 < n) : gR (n, HT f r S, us) r 10 5 = some (r + 6) := gR_of (s := (n, HT f r S, us)) HT_0 h1 (by omega : r < n) rfl
theorem t_g7 (h1 : 128 ≤ r) (h2 : r + 7 < n) : gR (n, HT f r S, us) r 10 7 = some (r + 7) := gR_of (s := (n, HT f r S, us)) HT_0 h1 (by omega : r < n) rfl
theorem t_gk (h1 : 128 ≤ r) (h2 : r + 7 < n) : gI (n, HT f r S, us) r 10 6 = some (nI S.2.2.2.2.2.2.1) := gI_of (s := (n, HT f r S, us)) HT_0 h1 (by omega : r < n) rfl
theorem t_gf (h1 : 128 ≤ r) (h2 : r + 7 < n) : gI (n, HT f r S, us) r 10 8 = some (nI S.2.2.2.2.2.2.2.2) := gI_of (s := (n, HT f r S, us)) HT_0 h1 (by omega : r < n) rfl
theorem t_pk (h1 : 128 ≤ r) (h2 : r + 7 < n) {k : Nat} : pV (n, HT f r S, us) r 10 6 (.int (nI k)) = some (n, HT f r (S.1, S.2.1, S.2.2.1, S.2.2.2.1, S.2.2.2.2.1, S.2.2.2.2.2.1, k, S.2.2.2.2.2.2.2), us) := by
  rw [pV_of (s := (n, HT f r S, us)) HT_0 h1 (by omega : r < n) (Nat.le_of_ble_eq_true rfl)]
  simp only [List.set_cons_succ, List.set_cons_zero]
  rw [HTu_k]
theorem t_pf (h1 : 128 ≤ r) (h2 : r + 7 < n) {k : Nat} : pV (n, HT f r S, us) r 10 8 (.int (nI k)) = some (n, HT f r (S.1, S.2.1, S.2.2.1, S.2.2.2.1, S.2.2.2.2.1, S.2.2.2.2.2.1, S.2.2.2.2.2.2.1, S.2.2.2.2.2.2.2.1, k), us) := by
  rw [pV_of (s := (n, HT f r S, us)) HT_0 h1 (by omega : r < n) (Nat.le_of_ble_eq_true rfl)]
  simp only [List.set_cons_succ, List.set_cons_zero]
  rw [HTu_f]
theorem t_a1 (h1 : 128 ≤ r) (h2 : r + 7 < n) {i : Nat} (hi : i < 2000) : aL (n, HT f r S, us) (r + 1) (nI i) = some (S.1 i) := by
  have b := cl0 (show i < 2 ^ 31 by omega)
  have e := aL_of (s := (n, HT f r S, us)) (i := nI i) (HT_1 (f := f) (r := r) (S := S)) (by omega) (by omega : r + 1 < n) b.1 (by rw [b.2]; exact hi)
  rw [b.2] at e
  exact e
theorem t_s1 (h1 : 128 ≤ r) (h2 : r + 7 < n) {i : Nat} (hi : i < 2000) {v : Int64} : sV (n, HT f r S, us) .long (r + 1) (nI i) (.long v) = some (n, HT f r ((upL S.1 i v), S.2), us) := by
  have b := cl0 (show i < 2 ^ 31 by omega)
  rw [sL_of (s := (n, HT f r S, us)) (HT_1 (f := f) (r := r) (S := S)) (by omega) (by omega : r + 1 < n) b.1 (by rw [b.2]; exact hi), b.2]
  dsimp only
  rw [HTu_1]
theorem t_a2 (h1 : 128 ≤ r) (h2 : r + 7 < n) {i : Nat} (hi : i < 2000) : aL (n, HT f r S, us) (r + 2) (nI i) = some (S.2.1 i) := by
  have b := cl0 (show i < 2 ^ 31 by omega)
  have e := aL_of (s := (n, HT f r S, us)) (i := nI i) (HT_2 (f := f) (r := r) (S := S)) (by omega) (by omega : r + 2 < n) b.1 (by rw [b.2]; exact hi)
  rw [b.2] at e
  exact e
theorem t_s2 (h1 : 128 ≤ r) (h2 : r + 7 < n) {i : Nat} (hi : i < 2000) {v : Int64} : sV (n, HT f r S, us) .long (r + 2) (nI i) (.long v) = some (n, HT f r (S.1, (upL S.2.1 i v), S.2.2), us) := by
  have b := cl0 (show i < 2 ^ 31 by omega)
  rw [sL_of (s := (n, HT f r S, us)) (HT_2 (f := f) (r := r) (S := S)) (by omega) (by omega : r + 2 < n) b.1 (by rw [b.2]; exact hi), b.2]
  dsimp only
  rw [HTu_2]
theorem t_a4 (h1 : 128 ≤ r) (h2 : r + 7 < n) {i : Nat} (hi : i < 12) : aL (n, HT f r S, us) (r + 4) (nI i) = some (S.2.2.2.1 i) := by
  have b := cl0 (show i < 2 ^ 31 by omega)
  have e := aL_of (s := (n, HT f r S, us)) (i := nI i) (HT_4 (f := f) (r := r) (S := S)) (by omega) (by omega : r + 4 < n) b.1 (by rw [b.2]; exact hi)
  rw [b.2] at e
  exact e
theorem t_s4 (h1 : 128 ≤ r) (h2 : r + 7 < n) {i : Nat} (hi : i < 12) {v : Int64} : sV (n, HT f r S, us) .long (r + 4) (nI i) (.long v) = some (n, HT f r (S.1, S.2.1, S.2.2.1, (upL S.2.2.2.1 i v), S.2.2.2.2), us) := by
  have b := cl0 (show i < 2 ^ 31 by omega)
  rw [sL_of (s := (n, HT f r S, us)) (HT_4 (f := f) (r := r) (S := S)) (by omega) (by omega : r + 4 < n) b.1 (by rw [b.2]; exact hi), b.2]
  dsimp only
  rw [HTu_4]
theorem t_a5 (h1 : 128 ≤ r) (h2 : r + 7 < n) {i : Nat} (hi : i < 12) : aL (n, HT f r S, us) (r + 5) (nI i) = some (S.2.2.2.2.1 i) := by
  have b := cl0 (show i < 2 ^ 31 by omega)
  have e := aL_of (s := (n, HT f r S, us)) (i := nI i) (HT_5 (f := f) (r := r) (S := S)) (by omega) (by omega : r + 5 < n) b.1 (by rw [b.2]; exact hi)
  rw [b.2] at e
  exact e
theorem t_s5 (h1 : 128 ≤ r) (h2 : r + 7 < n) {i : Nat} (hi : i < 12) {v : Int64} : sV (n, HT f r S, us) .long (r + 5) (nI i) (.long v) = some (n, HT f r (S.1, S.2.1, S.2.2.1, S.2.2.2.1, (upL S.2.2.2.2.1 i v), S.2.2.2.2.2), us) := by
  have b := cl0 (show i < 2 ^ 31 by omega)
  rw [sL_of (s := (n, HT f r S, us)) (HT_5 (f := f) (r := r) (S := S)) (by omega) (by omega : r + 5 < n) b.1 (by rw [b.2]; exact hi), b.2]
  dsimp only
  rw [HTu_5]
theorem t_a6 (h1 : 128 ≤ r) (h2 : r + 7 < n) {i : Nat} (hi : i < 12) : aL (n, HT f r S, us) (r + 6) (nI i) = some (S.2.2.2.2.2.1 i) := by
  have b := cl0 (show i < 2 ^ 31 by omega)
  have e := aL_of (s := (n, HT f r S, us)) (i := nI i) (HT_6 (f := f) (r := r) (S := S)) (by omega) (by omega : r + 6 < n) b.1 (by rw [b.2]; exact hi)
  rw [b.2] at e
  exact e
theorem t_s6 (h1 : 128 ≤ r) (h2 : r + 7 < n) {i : Nat} (hi : i < 12) {v : Int64} : sV (n, HT f r S, us) .long (r + 6) (nI i) (.long v) = some (n, HT f r (S.1, S.2.1, S.2.2.1, S.2.2.2.1, S.2.2.2.2.1, (upL S.2.2.2.2.2.1 i v), S.2.2.2.2.2.2), us) := by
  have b := cl0 (show i < 2 ^ 31 by omega)
  rw [sL_of (s := (n, HT f r S, us)) (HT_6 (f := f) (r := r) (S := S)) (by omega) (by omega : r + 6 < n) b.1 (by rw [b.2]; exact hi), b.2]
  dsimp only
  rw [HTu_6]
theorem t_a3 (h1 : 128 ≤ r) (h2 : r + 7 < n) {i : Nat} (hi : i < 100) : aI (n, HT f r S, us) (r + 3) (nI i) = some (S.2.2.1 i) := by
  have b := cl0 (show i < 2 ^ 31 by omega)
  have e := aI_of (s := (n, HT f r S, us)) (i := nI i) (HT_3 (f := f) (r := r) (S := S)) (by omega) (by omega : r + 3 < n) b.1 (by rw [b.2]; exact hi)
  rw [b.2] at e
  exact e
theorem t_s3 (h1 : 128 ≤ r) (h2 : r + 7 < n) {i : Nat} (hi : i < 100) {v : Int32} : sV (n, HT f r S, us) .int (r + 3) (nI i) (.int v) = some (n, HT f r (S.1, S.2.1, (upI S.2.2.1 i v), S.2.2.2), us) := by
  have b := cl0 (show i < 2 ^ 31 by omega)
  rw [sI_of (s := (n, HT f r S, us)) (HT_3 (f := f) (r := r) (S := S)) (by omega) (by omega : r + 3 < n) b.1 (by rw [b.2]; exact hi), b.2]
  dsimp only
  rw [HTu_3]
end
