/-! the Machine: its own cells (HK), over them Out, over them the Store -/
def HK (f : Nat → am_C) (mf : List Value) (hh tt N : Nat) (hd tl : Nat → Int64) (cu : Nat → Value) (cn cb : Nat → Int32) : Nat → am_C := fun x =>
  if x = 148 then .inr (6, mf) else if x = hh then .inl (.long, N, fun j => .long (hd j)) else if x = tt then .inl (.long, N, fun j => .long (tl j)) else if x = 151 then .inl (.object "StowTongue$Unit", 8, cu) else if x = 152 then .inl (.int, 8, fun j => .int (cn j)) else if x = 153 then .inl (.int, 8, fun j => .int (cb j)) else f x
abbrev mF (hh tt r : Nat) (fu tp bs : Int32) (u : Nat) (pc cl tk er dn : Int32) (rh rt : Int64) : List Value := [.ref hh, .ref tt, .int tp, .int bs, .ref u, .int pc, .ref 151, .ref 152, .ref 153, .int cl, .ref r, .ref 130, .int fu, .int tk, .int er, .int dn, .long rh, .long rt]
def WK (f : Nat → am_C) (mf : List Value) (hh tt N : Nat) (hd tl : Nat → Int64) (cu : Nat → Value) (cn cb : Nat → Int32) (r : Nat) (S : SC) (O : oS) : Nat → am_C := HT (HO (HK f mf hh tt N hd tl cu cn cb) O) r S
abbrev WW (f : Nat → am_C) (hh tt N : Nat) (hd tl : Nat → Int64) (cu : Nat → Value) (cn cb : Nat → Int32) (r : Nat) (S : SC) (O : oS) (fu tp bs : Int32) (u : Nat) (pc cl tk er dn : Int32) (rh rt : Int64) : Nat → am_C := WK f (mF hh tt r fu tp bs u pc cl tk er dn rh rt) hh tt N hd tl cu cn cb r S O
/-- the cells lie apart -/
def DW (n hh tt r : Nat) : Prop := 128 ≤ hh ∧ hh < n ∧ 128 ≤ tt ∧ tt < n ∧ hh ≠ tt ∧ 1311 ≤ r ∧ r + 7 < n ∧ (hh < r ∨ r + 7 < hh) ∧ (tt < r ∨ r + 7 < tt) ∧ hh ≠ 130 ∧ hh ≠ 131 ∧ hh ≠ 148 ∧ hh ≠ 151 ∧ hh ≠ 152 ∧ hh ≠ 153 ∧ tt ≠ 130 ∧ tt ≠ 131 ∧ tt ≠ 148 ∧ tt ≠ 151 ∧ tt ≠ 152 ∧ tt ≠ 153
section
variable {n us d hh tt N r : Nat} {f : Nat → am_C} {mf : List Value} {hd tl : Nat → Int64} {cu : Nat → Value} {cn cb : Nat → Int32} {S : SC} {O : oS}
theorem W_M (D : DW n hh tt r) : WK f mf hh tt N hd tl cu cn cb r S O 148 = .inr (6, mf) := by
  obtain ⟨d1, d2, d3, d4, d5, d6, d7, d8, d9, d10, d11, d12, d13, d14, d15, d16, d17, d18, d19, d20, d21⟩ := D
  unfold WK
  rw [HT_off (by omega), HO_off (by omega) (by omega)]
  unfold HK
  rw [if_pos rfl]
theorem W_H (D : DW n hh tt r) : WK f mf hh tt N hd tl cu cn cb r S O hh = .inl (.long, N, fun j => .long (hd j)) := by
  obtain ⟨d1, d2, d3, d4, d5, d6, d7, d8, d9, d10, d11, d12, d13, d14, d15, d16, d17, d18, d19, d20, d21⟩ := D
  unfold WK
  rw [HT_off (by omega), HO_off (by omega) (by omega)]
  unfold HK
  rw [if_neg (by omega)]; rw [if_pos rfl]
theorem W_T (D : DW n hh tt r) : WK f mf hh tt N hd tl cu cn cb r S O tt = .inl (.long, N, fun j => .long (tl j)) := by
  obtain ⟨d1, d2, d3, d4, d5, d6, d7, d8, d9, d10, d11, d12, d13, d14, d15, d16, d17, d18, d19, d20, d21⟩ := D
  unfold WK
  rw [HT_off (by omega), HO_off (by omega) (by omega)]
  unfold HK
  rw [if_neg (by omega)]; rw [if_neg (by omega)]; rw [if_pos rfl]
theorem W_U (D : DW n hh tt r) : WK f mf hh tt N hd tl cu cn cb r S O 151 = .inl (.object "StowTongue$Unit", 8, cu) := by
  obtain ⟨d1, d2, d3, d4, d5, d6, d7, d8, d9, d10, d11, d12, d13, d14, d15, d16, d17, d18, d19, d20, d21⟩ := D
  unfold WK
  rw [HT_off (by omega), HO_off (by omega) (by omega)]
  unfold HK
  rw [if_neg (by omega)]; rw [if_neg (by omega)]; rw [if_neg (by omega)]; rw [if_pos rfl]
theorem W_N (D : DW n hh tt r) : WK f mf hh tt N hd tl cu cn cb r S O 152 = .inl (.int, 8, fun j => .int (cn j)) := by
  obtain ⟨d1, d2, d3, d4, d5, d6, d7, d8, d9, d10, d11, d12, d13, d14, d15, d16, d17, d18, d19, d20, d21⟩ := D
  unfold WK
  rw [HT_off (by omega), HO_off (by omega) (by omega)]
  unfold HK
  rw [if_neg (by omega)]; rw [if_neg (by omega)]; rw [if_neg (by omega)]; rw [if_neg (by omega)]; rw [if_pos rfl]
theorem W_B (D : DW n hh tt r) : WK f mf hh tt N hd tl cu cn cb r S O 153 = .inl (.int, 8, fun j => .int (cb j)) := by
  obtain ⟨d1, d2, d3, d4, d5, d6, d7, d8, d9, d10, d11, d12, d13, d14, d15, d16, d17, d18, d19, d20, d21⟩ := D
  unfold WK
  rw [HT_off (by omega), HO_off (by omega) (by omega)]
  unfold HK
  rw [if_neg (by omega)]; rw [if_neg (by omega)]; rw [if_neg (by omega)]; rw [if_neg (by omega)]; rw [if_neg (by omega)]; rw [if_pos rfl]
theorem W_off (D : DW n hh tt r) {x : Nat} (e1 : x ≠ 148) (e2 : x ≠ hh) (e3 : x ≠ tt) (e4 : x ≠ 151) (e5 : x ≠ 152) (e6 : x ≠ 153) (e7 : x ≠ 130) (e8 : x ≠ 131) (e9 : x < r ∨ r + 7 < x) : WK f mf hh tt N hd tl cu cn cb r S O x = f x := by
  unfold WK
  rw [HT_off e9, HO_off e7 e8]
  unfold HK
  rw [if_neg e1, if_neg e2, if_neg e3, if_neg e4, if_neg e5, if_neg e6]
theorem Wu_M (D : DW n hh tt r) {mg : List Value} : va_up (WK f mf hh tt N hd tl cu cn cb r S O) 148 (.inr (6, mg)) = WK f mg hh tt N hd tl cu cn cb r S O := by
  obtain ⟨d1, d2, d3, d4, d5, d6, d7, d8, d9, d10, d11, d12, d13, d14, d15, d16, d17, d18, d19, d20, d21⟩ := D
  funext x
  by_cases hx : x = 148
  · rw [hx, va_up_self]
    unfold WK
    rw [HT_off (by omega), HO_off (by omega) (by omega)]
    unfold HK
    rw [if_pos rfl]
  · rw [va_up_ne _ _ hx]
    unfold WK
    by_cases h1 : x < r ∨ r + 7 < x
    · rw [HT_off h1, HT_off h1]
      by_cases h2 : x = 130 ∨ x = 131
      · rcases h2 with rfl | rfl
        · rfl
        · rfl
      · rw [HO_off (by omega) (by omega), HO_off (by omega) (by omega)]
        unfold HK
        simp only [if_neg hx]
    · unfold HT
      (repeat' split) <;> first | rfl | omega
theorem Wu_H (D : DW n hh tt r) {g : Nat → Int64} : va_up (WK f mf hh tt N hd tl cu cn cb r S O) hh (.inl (.long, N, fun j => .long (g j))) = WK f mf hh tt N g tl cu cn cb r S O := by
  obtain ⟨d1, d2, d3, d4, d5, d6, d7, d8, d9, d10, d11, d12, d13, d14, d15, d16, d17, d18, d19, d20, d21⟩ := D
  funext x
  by_cases hx : x = hh
  · rw [hx, va_up_self]
    unfold WK
    rw [HT_off (by omega), HO_off (by omega) (by omega)]
    unfold HK
    rw [if_neg (by omega)]; rw [if_pos rfl]
  · rw [va_up_ne _ _ hx]
    unfold WK
    by_cases h1 : x < r ∨ r + 7 < x
    · rw [HT_off h1, HT_off h1]
      by_cases h2 : x = 130 ∨ x = 131
      · rcases h2 with rfl | rfl
        · rfl
        · rfl
      · rw [HO_off (by omega) (by omega), HO_off (by omega) (by omega)]
        unfold HK
        simp only [if_neg hx]
    · unfold HT
      (repeat' split) <;> first | rfl | omega
theorem Wu_T (D : DW n hh tt r) {g : Nat → Int64} : va_up (WK f mf hh tt N hd tl cu cn cb r S O) tt (.inl (.long, N, fun j => .long (g j))) = WK f mf hh tt N hd g cu cn cb r S O := by
  obtain ⟨d1, d2, d3, d4, d5, d6, d7, d8, d9, d10, d11, d12, d13, d14, d15, d16, d17, d18, d19, d20, d21⟩ := D
  funext x
  by_cases hx : x = tt
  · rw [hx, va_up_self]
    unfold WK
    rw [HT_off (by omega), HO_off (by omega) (by omega)]
    unfold HK
    rw [if_neg (by omega)]; rw [if_neg (by omega)]; rw [if_pos rfl]
  · rw [va_up_ne _ _ hx]
    unfold WK
    by_cases h1 : x < r ∨ r + 7 < x
    · rw [HT_off h1, HT_off h1]
      by_cases h2 : x = 130 ∨ x = 131
      · rcases h2 with rfl | rfl
        · rfl
        · rfl
      · rw [HO_off (by omega) (by omega), HO_off (by omega) (by omega)]
        unfold HK
        simp only [if_neg hx]
    · unfold HT
      (repeat' split) <;> first | rfl | omega
theorem Wu_U (D : DW n hh tt r) {g : Nat → Value} : va_up (WK f mf hh tt N hd tl cu cn cb r S O) 151 (.inl (.object "StowTongue$Unit", 8, g)) = WK f mf hh tt N hd tl g cn cb r S O := by
  obtain ⟨d1, d2, d3, d4, d5, d6, d7, d8, d9, d10, d11, d12, d13, d14, d15, d16, d17, d18, d19, d20, d21⟩ := D
  funext x
  by_cases hx : x = 151
  · rw [hx, va_up_self]
    unfold WK
    rw [HT_off (by omega), HO_off (by omega) (by omega)]
    unfold HK
    rw [if_neg (by omega)]; rw [if_neg (by omega)]; rw [if_neg (by omega)]; rw [if_pos rfl]
  · rw [va_up_ne _ _ hx]
    unfold WK
    by_cases h1 : x < r ∨ r + 7 < x
    · rw [HT_off h1, HT_off h1]
      by_cases h2 : x = 130 ∨ x = 131
      · rcases h2 with rfl | rfl
        · rfl
        · rfl
      · rw [HO_off (by omega) (by omega), HO_off (by omega) (by omega)]
        unfold HK
        simp only [if_neg hx]
    · unfold HT
      (repeat' split) <;> first | rfl | omega
theorem Wu_N (D : DW n hh tt r) {g : Nat → Int32} : va_up (WK f mf hh tt N hd tl cu cn cb r S O) 152 (.inl (.int, 8, fun j => .int (g j))) = WK f mf hh tt N hd tl cu g cb r S O := by
  obtain ⟨d1, d2, d3, d4, d5, d6, d7, d8, d9, d10, d11, d12, d13, d14, d15, d16, d17, d18, d19, d20, d21⟩ := D
  funext x
  by_cases hx : x = 152
  · rw [hx, va_up_self]
    unfold WK
    rw [HT_off (by omega), HO_off (by omega) (by omega)]
    unfold HK
    rw [if_neg (by omega)]; rw [if_neg (by omega)]; rw [if_neg (by omega)]; rw [if_neg (by omega)]; rw [if_pos rfl]
  · rw [va_up_ne _ _ hx]
    unfold WK
    by_cases h1 : x < r ∨ r + 7 < x
    · rw [HT_off h1, HT_off h1]
      by_cases h2 : x = 130 ∨ x = 131
      · rcases h2 with rfl | rfl
        · rfl
        · rfl
      · rw [HO_off (by omega) (by omega), HO_off (by omega) (by omega)]
        unfold HK
        simp only [if_neg hx]
    · unfold HT
      (repeat' split) <;> first | rfl | omega
theorem Wu_B (D : DW n hh tt r) {g : Nat → Int32} : va_up (WK f mf hh tt N hd tl cu cn cb r S O) 153 (.inl (.int, 8, fun j => .int (g j))) = WK f mf hh tt N hd tl cu cn g r S O := by
  obtain ⟨d1, d2, d3, d4, d5, d6, d7, d8, d9, d10, d11, d12, d13, d14, d15, d16, d17, d18, d19, d20, d21⟩ := D
  funext x
  by_cases hx : x = 153
  · rw [hx, va_up_self]
    unfold WK
    rw [HT_off (by omega), HO_off (by omega) (by omega)]
    unfold HK
    rw [if_neg (by omega)]; rw [if_neg (by omega)]; rw [if_neg (by omega)]; rw [if_neg (by omega)]; rw [if_neg (by omega)]; rw [if_pos rfl]
  · rw [va_up_ne _ _ hx]
    unfold WK
    by_cases h1 : x < r ∨ r + 7 < x
    · rw [HT_off h1, HT_off h1]
      by_cases h2 : x = 130 ∨ x = 131
      · rcases h2 with rfl | rfl
        · rfl
        · rfl
      · rw [HO_off (by omega) (by omega), HO_off (by omega) (by omega)]
        unfold HK
        simp only [if_neg hx]
    · unfold HT
      (repeat' split) <;> first | rfl | omega
theorem w_gd {β : Type} {b : Option β} (D : DW n hh tt r) : gd (n, WK f mf hh tt N hd tl cu cn cb r S O, us) 148 6 b = b := gd_of (s := (n, WK f mf hh tt N hd tl cu cn cb r S O, us)) (W_M D) (by decide) (show 148 < n by have := D.2.2.2.2.2.2.1; have := D.2.2.2.2.2.1; omega)
theorem w_gV (D : DW n hh tt r) {k : Nat} : gV (n, WK f mf hh tt N hd tl cu cn cb r S O, us) 148 6 k = mf[k]? := gV_of (s := (n, WK f mf hh tt N hd tl cu cn cb r S O, us)) (W_M D) (by decide) (show 148 < n by have := D.2.2.2.2.2.2.1; have := D.2.2.2.2.2.1; omega)
theorem w_pV (D : DW n hh tt r) {k : Nat} {v : Value} (hk : k < mf.length) : pV (n, WK f mf hh tt N hd tl cu cn cb r S O, us) 148 6 k v = some (n, WK f (mf.set k v) hh tt N hd tl cu cn cb r S O, us) := by
  rw [pV_of (s := (n, WK f mf hh tt N hd tl cu cn cb r S O, us)) (W_M D) (by decide) (show 148 < n by have := D.2.2.2.2.2.2.1; have := D.2.2.2.2.2.1; omega) hk]
  dsimp only
  rw [Wu_M D]
theorem w_aH (D : DW n hh tt r) (hN : N < 2 ^ 31) {i : Nat} (hi : i < N) : aL (n, WK f mf hh tt N hd tl cu cn cb r S O, us) hh (nI i) = some (hd i) := by
  have b := cl0 (show i < 2 ^ 31 by omega)
  have e := aL_of (s := (n, WK f mf hh tt N hd tl cu cn cb r S O, us)) (i := nI i) (W_H D) D.1 D.2.1 b.1 (by rw [b.2]; exact hi)
  rw [b.2] at e
  exact e
theorem w_sH (D : DW n hh tt r) (hN : N < 2 ^ 31) {i : Nat} (hi : i < N) {v : Int64} : sV (n, WK f mf hh tt N hd tl cu cn cb r S O, us) .long hh (nI i) (.long v) = some (n, WK f mf hh tt N (upL hd i v) tl cu cn cb r S O, us) := by
  have b := cl0 (show i < 2 ^ 31 by omega)
  rw [sL_of (s := (n, WK f mf hh tt N hd tl cu cn cb r S O, us)) (W_H D) D.1 D.2.1 b.1 (by rw [b.2]; exact hi), b.2]
  dsimp only
  rw [Wu_H D]
theorem w_lH (D : DW n hh tt r) : lenA (n, WK f mf hh tt N hd tl cu cn cb r S O, us) hh = some (nI N) := lenA_of (s := (n, WK f mf hh tt N hd tl cu cn cb r S O, us)) (W_H D) (by decide) D.1 D.2.1
theorem w_aT (D : DW n hh tt r) (hN : N < 2 ^ 31) {i : Nat} (hi : i < N) : aL (n, WK f mf hh tt N hd tl cu cn cb r S O, us) tt (nI i) = some (tl i) := by
  have b := cl0 (show i < 2 ^ 31 by omega)
  have e := aL_of (s := (n, WK f mf hh tt N hd tl cu cn cb r S O, us)) (i := nI i) (W_T D) D.2.2.1 D.2.2.2.1 b.1 (by rw [b.2]; exact hi)
  rw [b.2] at e
  exact e
theorem w_sT (D : DW n hh tt r) (hN : N < 2 ^ 31) {i : Nat} (hi : i < N) {v : Int64} : sV (n, WK f mf hh tt N hd tl cu cn cb r S O, us) .long tt (nI i) (.long v) = some (n, WK f mf hh tt N hd (upL tl i v) cu cn cb r S O, us) := by
  have b := cl0 (show i < 2 ^ 31 by omega)
  rw [sL_of (s := (n, WK f mf hh tt N hd tl cu cn cb r S O, us)) (W_T D) D.2.2.1 D.2.2.2.1 b.1 (by rw [b.2]; exact hi), b.2]
  dsimp only
  rw [Wu_T D]
theorem w_lT (D : DW n hh tt r) : lenA (n, WK f mf hh tt N hd tl cu cn cb r S O, us) tt = some (nI N) := lenA_of (s := (n, WK f mf hh tt N hd tl cu cn cb r S O, us)) (W_T D) (by decide) D.2.2.1 D.2.2.2.1
theorem w_aN (D : DW n hh tt r) {i : Nat} (hi : i < 8) : aI (n, WK f mf hh tt N hd tl cu cn cb r S O, us) 152 (nI i) = some (cn i) := by
  have b := cl0 (show i < 2 ^ 31 by omega)
  have e := aI_of (s := (n, WK f mf hh tt N hd tl cu cn cb r S O, us)) (i := nI i) (W_N D) (by decide) (show 152 < n by have := D.2.2.2.2.2.2.1; have := D.2.2.2.2.2.1; omega) b.1 (by rw [b.2]; exact hi)
  rw [b.2] at e
  exact e
theorem w_sN (D : DW n hh tt r) {i : Nat} (hi : i < 8) {v : Int32} : sV (n, WK f mf hh tt N hd tl cu cn cb r S O, us) .int 152 (nI i) (.int v) = some (n, WK f mf hh tt N hd tl cu (upI cn i v) cb r S O, us) := by
  have b := cl0 (show i < 2 ^ 31 by omega)
  rw [sI_of (s := (n, WK f mf hh tt N hd tl cu cn cb r S O, us)) (W_N D) (by decide) (show 152 < n by have := D.2.2.2.2.2.2.1; have := D.2.2.2.2.2.1; omega) b.1 (by rw [b.2]; exact hi), b.2]
  dsimp only
  rw [Wu_N D]
theorem w_aB (D : DW n hh tt r) {i : Nat} (hi : i < 8) : aI (n, WK f mf hh tt N hd tl cu cn cb r S O, us) 153 (nI i) = some (cb i) := by
  have b := cl0 (show i < 2 ^ 31 by omega)
  have e := aI_of (s := (n, WK f mf hh tt N hd tl cu cn cb r S O, us)) (i := nI i) (W_B D) (by decide) (show 153 < n by have := D.2.2.2.2.2.2.1; have := D.2.2.2.2.2.1; omega) b.1 (by rw [b.2]; exact hi)
  rw [b.2] at e
  exact e
theorem w_sB (D : DW n hh tt r) {i : Nat} (hi : i < 8) {v : Int32} : sV (n, WK f mf hh tt N hd tl cu cn cb r S O, us) .int 153 (nI i) (.int v) = some (n, WK f mf hh tt N hd tl cu cn (upI cb i v) r S O, us) := by
  have b := cl0 (show i < 2 ^ 31 by omega)
  rw [sI_of (s := (n, WK f mf hh tt N hd tl cu cn cb r S O, us)) (W_B D) (by decide) (show 153 < n by have := D.2.2.2.2.2.2.1; have := D.2.2.2.2.2.1; omega) b.1 (by rw [b.2]; exact hi), b.2]
  dsimp only
  rw [Wu_B D]
theorem w_aU (D : DW n hh tt r) {i q : Nat} (hi : i < 8) (hq : cu i = .ref q) : aR "StowTongue$Unit" (n, WK f mf hh tt N hd tl cu cn cb r S O, us) 151 (nI i) = some q := by
  have b := cl0 (show i < 2 ^ 31 by omega)
  unfold aR
  rw [aV_of (s := (n, WK f mf hh tt N hd tl cu cn cb r S O, us)) (W_U D) (by decide) (show 151 < n by have := D.2.2.2.2.2.2.1; have := D.2.2.2.2.2.1; omega) b.1 (by rw [b.2]; exact hi), b.2, hq]
  rfl
theorem w_sU (D : DW n hh tt r) {i q : Nat} (hi : i < 8) (hq : isO (n, WK f mf hh tt N hd tl cu cn cb r S O, us) q 4 = true) : sR "StowTongue$Unit" 4 (n, WK f mf hh tt N hd tl cu cn cb r S O, us) 151 (nI i) q = some (n, WK f mf hh tt N hd tl (updV cu i (.ref q)) cn cb r S O, us) := by
  have b := cl0 (show i < 2 ^ 31 by omega)
  unfold sR
  rw [if_pos hq, sV_of (s := (n, WK f mf hh tt N hd tl cu cn cb r S O, us)) (W_U D) (by decide) (show 151 < n by have := D.2.2.2.2.2.2.1; have := D.2.2.2.2.2.1; omega) b.1 (by rw [b.2]; exact hi), b.2]
  dsimp only
  rw [Wu_U D]
theorem W_out (D : DW n hh tt r) : WK f mf hh tt N hd tl cu cn cb r S O = HO (HT (HK f mf hh tt N hd tl cu cn cb) r S) O := by
  obtain ⟨d1, d2, d3, d4, d5, d6, d7, d8, d9, d10, d11, d12, d13, d14, d15, d16, d17, d18, d19, d20, d21⟩ := D
  funext x
  unfold WK
  by_cases h1 : x < r ∨ r + 7 < x
  · rw [HT_off h1]
    by_cases h2 : x = 130 ∨ x = 131
    · rcases h2 with rfl | rfl <;> rfl
    · rw [HO_off (by omega) (by omega), HO_off (by omega) (by omega), HT_off h1]
  · rw [HO_off (by omega) (by omega)]
    unfold HT
    (repeat' split) <;> first | rfl | omega
end
