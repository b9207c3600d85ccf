/-! roots -/
section
variable {n us r d : Nat} {f : Nat → am_C} {S : SC} {x : Int32}
theorem e_rootAtS (h1 : 128 ≤ r) (h2 : r + 7 < n) (I : SI S) {y : Int64} : x_Store_rootAt d r y (n, HT f r S, us) = some (s_find S.2.2.2.1 S.2.2.2.2.2.2.1 y, (n, HT f r S, us)) := by
  have hk := I.1
  unfold x_Store_rootAt s_find
  rw [t_gd h1 h2]
  refine loop_ind (fun z q => ∀ m i, i + m = S.2.2.2.2.2.2.1 → z = (nI i, (n, HT f r S, us)) → q = some (s_fd S.2.2.2.1 y m i, (n, HT f r S, us))) (fun z => S.2.2.2.2.2.2.1 - z.1.toNatClampNeg) (fun again z ih m i e ez => ?_) FU _ (by rw [FU_eq]; omega) S.2.2.2.2.2.2.1 0 (by omega) rfl
  subst ez
  dsimp only
  rw [t_gk h1 h2, Option.bind_some]
  cases m with
  | zero =>
    obtain rfl : i = S.2.2.2.2.2.2.1 := by omega
    rw [if_pos (Int32.le_refl _), s_fd]
  | succ m =>
    have b0 := cl0 (show i < 2 ^ 31 by omega)
    rw [if_neg (nI_ge (by omega) (by omega)), t_g4 h1 h2, Option.bind_some, t_a4 h1 h2 (by omega), Option.bind_some, s_fd]
    split
    · rfl
    · rw [← nI_succ]
      exact ih _ (by simp only [nI_clamp (show i + 1 < 2 ^ 31 by omega), b0.2]; omega) m (i + 1) (by omega) rfl
def c_dR (S : SC) (j : Nat) : SC := (S.1, S.2.1, S.2.2.1, upL S.2.2.2.1 j (S.2.2.2.1 (S.2.2.2.2.2.2.1 - 1)), upL S.2.2.2.2.1 j (S.2.2.2.2.1 (S.2.2.2.2.2.2.1 - 1)), upL S.2.2.2.2.2.1 j (S.2.2.2.2.2.1 (S.2.2.2.2.2.2.1 - 1)), S.2.2.2.2.2.2.1 - 1, S.2.2.2.2.2.2.2)
def c_pR (S : SC) (j k : Nat) (y h t : Int64) : SC := (S.1, S.2.1, S.2.2.1, upL S.2.2.2.1 j y, upL S.2.2.2.2.1 j h, upL S.2.2.2.2.2.1 j t, k, S.2.2.2.2.2.2.2)
def c_setR (S : SC) (y h t : Int64) : Bool × SC := if s_Cell_sortOf h = 0 then (true, if s_find S.2.2.2.1 S.2.2.2.2.2.2.1 y < 0 then S else c_dR S (s_find S.2.2.2.1 S.2.2.2.2.2.2.1 y).toNatClampNeg) else if s_find S.2.2.2.1 S.2.2.2.2.2.2.1 y < 0 then (if S.2.2.2.2.2.2.1 < 12 then (true, c_pR S S.2.2.2.2.2.2.1 (S.2.2.2.2.2.2.1 + 1) y h t) else (false, S)) else (true, c_pR S (s_find S.2.2.2.1 S.2.2.2.2.2.2.1 y).toNatClampNeg S.2.2.2.2.2.2.1 y h t)
theorem e_dropRoot (h1 : 128 ≤ r) (h2 : r + 7 < n) {j : Nat} (hj : j < S.2.2.2.2.2.2.1) (hk : S.2.2.2.2.2.2.1 ≤ 12) : x_Store_dropRoot d r (nI j) (n, HT f r S, us) = some ((), (n, HT f r (c_dR S j), us)) := by
  unfold x_Store_dropRoot c_dR
  rw [t_gd h1 h2, if_pos (nI_pos' (by omega)), t_gk h1 h2, Option.bind_some, show nI S.2.2.2.2.2.2.1 - 1 = nI (S.2.2.2.2.2.2.1 - 1) from nI_sub (a := S.2.2.2.2.2.2.1) (b := 1) (by omega), t_pk h1 h2, Option.bind_some, t_g4 h1 h2, Option.bind_some, Option.bind_some, t_gk h1 h2, Option.bind_some, t_a4 h1 h2 (by dsimp only; omega), Option.bind_some, t_s4 h1 h2 (by omega), Option.bind_some, t_g5 h1 h2, Option.bind_some, Option.bind_some, t_gk h1 h2, Option.bind_some, t_a5 h1 h2 (by dsimp only; omega), Option.bind_some, t_s5 h1 h2 (by omega), Option.bind_some, t_g6 h1 h2, Option.bind_some, Option.bind_some, t_gk h1 h2, Option.bind_some, t_a6 h1 h2 (by dsimp only; omega), Option.bind_some, t_s6 h1 h2 (by omega), Option.bind_some]
theorem e_sR54 (h1 : 128 ≤ r) (h2 : r + 7 < n) {j : Nat} (hj : j < 12) {y h t : Int64} : x_Store_setRoot_b54 d r y h t (nI j) (n, HT f r S, us) = some (1, (n, HT f r (c_pR S j S.2.2.2.2.2.2.1 y h t), us)) := by
  unfold x_Store_setRoot_b54 c_pR
  rw [t_g4 h1 h2, Option.bind_some, t_s4 h1 h2 hj, Option.bind_some, t_g5 h1 h2, Option.bind_some, t_s5 h1 h2 hj, Option.bind_some, t_g6 h1 h2, Option.bind_some, t_s6 h1 h2 hj, Option.bind_some]
theorem e_setRoot (h1 : 128 ≤ r) (h2 : r + 7 < n) (I : SI S) {y h t : Int64} : x_Store_setRoot (d + 1) r y h t (n, HT f r S, us) = some (if (c_setR S y h t).1 = true then 1 else 0, (n, HT f r (c_setR S y h t).2, us)) := by
  have hk := I.1
  unfold x_Store_setRoot c_setR
  dsimp only
  rw [t_gd h1 h2, e_rootAtS h1 h2 I, bnd_some, e_Cell_sortOf, bnd_some]
  rcases s_fd_neg (g := S.2.2.2.1) (y := y) S.2.2.2.2.2.2.1 0 (by omega) with ⟨w1, w2, w3⟩ | ⟨j, w1, w2, w3, w4, w5⟩
  · have e : s_find S.2.2.2.1 S.2.2.2.2.2.2.1 y = -1 := w2
    rw [e, if_pos (show (-1 : Int32) < 0 by decide), if_neg (show ¬ (0 : Int32) ≤ -1 by decide)]
    by_cases c : s_Cell_sortOf h = 0
    · rw [if_pos c, if_pos c]
      unfold x_Store_dropRoot
      rw [t_gd h1 h2, if_neg (show ¬ (0 : Int32) ≤ -1 by decide), bnd_some]
      rfl
    · rw [if_neg c, if_neg c, if_pos (show (-1 : Int32) < 0 by decide), t_gk h1 h2, Option.bind_some]
      by_cases c2 : S.2.2.2.2.2.2.1 < 12
      · rw [if_pos (show nI S.2.2.2.2.2.2.1 < 12 from nI_lt (b := 12) c2 (by decide)), if_pos c2, Option.bind_some, Option.bind_some, ← nI_succ, t_pk h1 h2, Option.bind_some, e_sR54 h1 h2 c2]
        rfl
      · rw [if_neg (show ¬ nI S.2.2.2.2.2.2.1 < 12 from nI_nlt (b := 12) (by omega) (by omega)), if_neg c2]
        rfl
  · have e : s_find S.2.2.2.1 S.2.2.2.2.2.2.1 y = nI j := w3
    have A := cl0 (show j < 2 ^ 31 by omega)
    rw [e, if_neg A.1, A.2]
    by_cases c : s_Cell_sortOf h = 0
    · rw [if_pos c, if_pos c, e_dropRoot h1 h2 (by omega) hk, bnd_some]
      rfl
    · rw [if_neg c, if_neg c, if_neg A.1, if_pos (nI_pos' (by omega)), e_sR54 h1 h2 (by omega)]
      rfl
end
/-! Out: two cells, 130 and 131 -/
def HO (f : Nat → am_C) (O : oS) : Nat → am_C := fun x =>
  if x = 130 then .inr (0, [.ref 131, .int (nI O.1), .int O.2.1]) else if x = 131 then .inl (.byte, 600, fun j => .int (O.2.2 j)) else f x
section
variable {n us d : Nat} {f : Nat → am_C} {O : oS}
theorem HO_0 (f : Nat → am_C) (O : oS) : HO f O 130 = .inr (0, [.ref 131, .int (nI O.1), .int O.2.1]) := rfl
theorem HO_1 (f : Nat → am_C) (O : oS) : HO f O 131 = .inl (.byte, 600, fun j => .int (O.2.2 j)) := rfl
theorem HO_off {x : Nat} (h : x ≠ 130) (h' : x ≠ 131) : HO f O x = f x := by
  unfold HO
  rw [if_neg h, if_neg h']
theorem HOu_0 {k : Nat} {sp : Int32} : va_up (HO f O) 130 (.inr (0, [.ref 131, .int (nI k), .int sp])) = HO f (k, sp, O.2.2) := by
  funext x
  by_cases hx : x = 130
  · rw [hx, va_up_self, HO_0]
  · rw [va_up_ne _ _ hx]
    unfold HO
    simp only [if_neg hx]
theorem HOu_1 {g : Nat → Int32} : va_up (HO f O) 131 (.inl (.byte, 600, fun j => .int (g j))) = HO f (O.1, O.2.1, g) := by
  funext x
  by_cases hx : x = 131
  · rw [hx, va_up_self, HO_1]
  · rw [va_up_ne _ _ hx]
    unfold HO
    simp only [if_neg hx]
theorem o_gd {β : Type} {b : Option β} (hn : 131 < n) : gd (n, HO f O, us) 130 0 b = b := gd_of (s := (n, HO f O, us)) (HO_0 f O) (by decide) (show 130 < n by omega)
theorem o_g0 (hn : 131 < n) : gR (n, HO f O, us) 130 0 0 = some 131 := gR_of (s := (n, HO f O, us)) (HO_0 f O) (by decide) (show 130 < n by omega) rfl
theorem o_gk (hn : 131 < n) : gI (n, HO f O, us) 130 0 1 = some (nI O.1) := gI_of (s := (n, HO f O, us)) (HO_0 f O) (by decide) (show 130 < n by omega) rfl
theorem o_gs (hn : 131 < n) : gI (n, HO f O, us) 130 0 2 = some O.2.1 := gI_of (s := (n, HO f O, us)) (HO_0 f O) (by decide) (show 130 < n by omega) rfl
theorem o_pk (hn : 131 < n) {k : Nat} : pV (n, HO f O, us) 130 0 1 (.int (nI k)) = some (n, HO f (k, O.2.1, O.2.2), us) := by
  rw [pV_of (s := (n, HO f O, us)) (HO_0 f O) (by decide) (show 130 < n by omega) (Nat.le_of_ble_eq_true rfl)]
  simp only [List.set_cons_succ, List.set_cons_zero]
  rw [HOu_0]
theorem o_ps (hn : 131 < n) {x : Int32} : pV (n, HO f O, us) 130 0 2 (.int x) = some (n, HO f (O.1, x, O.2.2), us) := by
  rw [pV_of (s := (n, HO f O, us)) (HO_0 f O) (by decide) (show 130 < n by omega) (Nat.le_of_ble_eq_true rfl)]
  simp only [List.set_cons_succ, List.set_cons_zero]
  rw [HOu_0]
theorem o_sb (hn : 131 < n) {i : Nat} (hi : i < 600) {x : Int32} : sV (n, HO f O, us) .byte 131 (nI i) (.int x) = some (n, HO f (O.1, O.2.1, upI O.2.2 i x), us) := by
  have b := cl0 (show i < 2 ^ 31 by omega)
  rw [sB_of (s := (n, HO f O, us)) (HO_1 f O) (by decide) hn b.1 (by rw [b.2]; exact hi), b.2]
  dsimp only
  rw [HOu_1]
theorem e_OutAdd (hn : 131 < n) (hO : O.1 ≤ 600) {x : Int32} : x_Out_add d 130 x (n, HO f O, us) = some ((), (n, HO f (s_add O x), us)) := by
  unfold x_Out_add s_add
  rw [o_gd hn, o_gk hn, Option.bind_some]
  by_cases c : O.1 < 600
  · rw [if_neg (show ¬ (600 : Int32) ≤ nI O.1 from nI_ge (b := 600) c (by decide)), if_pos c, if_pos c, if_pos c, o_g0 hn, Option.bind_some, Option.bind_some, o_sb hn c, Option.bind_some, o_gk hn, Option.bind_some, ← nI_succ, o_pk hn, Option.bind_some, i8_i8]
  · rw [if_pos (show (600 : Int32) ≤ nI O.1 from nI_le (a := 600) (by omega) (by omega)), if_neg c, if_neg c, if_neg c, o_ps hn, Option.bind_some]
theorem s_add_le {x : Int32} (hO : O.1 ≤ 600) : (s_add O x).1 ≤ 600 := by
  unfold s_add
  dsimp only
  split <;> omega
theorem e_OutText (hn : 131 < n) (hO : O.1 ≤ 600) {x0 x1 : Int64} : x_Out_addText (d + 2) 130 x0 x1 (n, HO f O, us) = some ((), (n, HO f (s_at x0 x1 (s_signs x0 x1) 0 O), us)) := by
  have L := s_signs_eq (x0 := x0) (x1 := x1)
  unfold x_Out_addText
  dsimp only
  rw [o_gd hn, e_Cell_signsOf, bnd_some, L.1]
  refine loop_ind (fun z q => ∀ m i (O : oS), i + m = s_signs x0 x1 → O.1 ≤ 600 → z = (nI i, (n, HO f O, us)) → q = some ((), (n, HO f (s_at x0 x1 m i O), us))) (fun z => 16 - z.1.toNatClampNeg) (fun again z ih m i O e hO ez => ?_) FU _ (by rw [FU_eq]; omega) (s_signs x0 x1) 0 O (by omega) hO rfl
  subst ez
  dsimp only
  cases m with
  | zero =>
    obtain rfl : i = s_signs x0 x1 := by omega
    rw [if_pos (Int32.le_refl _), s_at]
  | succ m =>
    have b0 := cl0 (show i < 2 ^ 31 by omega)
    rw [if_neg (nI_ge (by omega) (by omega)), e_Cell_signAt, bnd_some, e_OutAdd hn hO, bnd_some, ← nI_succ, s_at]
    exact ih _ (by simp only [nI_clamp (show i + 1 < 2 ^ 31 by omega), b0.2]; omega) m (i + 1) _ (by omega) (s_add_le hO) rfl
theorem e_OutSpilled (hn : 131 < n) (h : O.2.1 = 0 ∨ O.2.1 = 1) : x_Out_spilled d 130 (n, HO f O, us) = some (O.2.1, (n, HO f O, us)) := by
  unfold x_Out_spilled
  rw [o_gd hn, o_gs hn, Option.bind_some, okB_of h]
end
