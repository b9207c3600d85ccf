/-! Out.addNumber -/
def s_un (rest : Int64) : Nat → Int64 → Int64
  | 0, u => u
  | m + 1, u => if lg_cmp (rest / u) 10 < 0 then u else s_un rest m (u * 10)
def s_dg (rest : Int64) : Nat → Int64 → oS → oS
  | 0, _, O => O
  | m + 1, u, O => if lg_cmp u 0 ≤ 0 then O else s_dg rest m (u / 10) (s_add O ((48 + ((rest / u) - (rest / u) / 10 * 10)) : Int64).toInt32)
def s_abs (x : Int64) : Int64 := if 0 < x then x else -x
def s_num (x : Int64) (O : oS) : oS := s_dg (s_abs x) 11 (s_un (s_abs x) 10 1) (if 0 ≤ lg_cmp x 0 then O else s_add O 45)
section
variable {n us d : Nat} {f : Nat → am_C} {O : oS}
theorem p10_ne : ∀ k, k ≤ 11 → ¬ Int64.ofNat (10 ^ k) = 0 := by decide +kernel
theorem e_num55 (hn : 131 < n) (hO : O.1 ≤ 600) {x u : Int64} : x_Out_addNumber_b55 d 130 x u (n, HO f O, us) = some ((), (n, HO f (s_dg x 11 u O), us)) := by
  unfold x_Out_addNumber_b55
  refine loop_ind (fun z q => ∀ m i (u : Int64) (O : oS), i + m = 11 → O.1 ≤ 600 → z = (u, nI i, (n, HO f O, us)) → q = some ((), (n, HO f (s_dg x m u O), us))) (fun z => 11 - z.2.1.toNatClampNeg) (fun again z ih m i u O e hO ez => ?_) FU _ (by rw [FU_eq]; omega) 11 0 u O rfl hO rfl
  subst ez
  dsimp only
  cases m with
  | zero =>
    obtain rfl : i = 11 := by omega
    rw [if_pos (show (11 : Int32) ≤ nI 11 from Int32.le_refl _), s_dg]
  | succ m =>
    have b0 := cl0 (show i < 2 ^ 31 by omega)
    rw [if_neg (show ¬ (11 : Int32) ≤ nI i from nI_ge (b := 11) (by omega) (by decide)), s_dg]
    by_cases c : lg_cmp u 0 ≤ 0
    · rw [if_pos c, if_pos c]
    · rw [if_neg c, if_neg c, if_neg (fun w => c (by rw [lc_eq.mpr w]; decide)), e_OutAdd hn hO, bnd_some, ← nI_succ]
      exact ih _ (by simp only [nI_clamp (show i + 1 < 2 ^ 31 by omega), b0.2]; omega) m (i + 1) _ _ (by omega) (s_add_le hO) rfl
theorem e_num12 (hn : 131 < n) (hO : O.1 ≤ 600) {x : Int64} : x_Out_addNumber_b12 d 130 x (n, HO f O, us) = some ((), (n, HO f (s_dg (s_abs x) 11 (s_un (s_abs x) 10 1) O), us)) := by
  unfold x_Out_addNumber_b12
  refine loop_ind (fun z q => ∀ m i k, i + m = 10 → k ≤ i → z = (Int64.ofNat (10 ^ k), nI i, (n, HO f O, us)) → q = some ((), (n, HO f (s_dg (s_abs x) 11 (s_un (s_abs x) m (Int64.ofNat (10 ^ k))) O), us))) (fun z => 10 - z.2.1.toNatClampNeg) (fun again z ih m i k e hk ez => ?_) FU _ (by rw [FU_eq]; omega) 10 0 0 rfl (Nat.le_refl _) rfl
  subst ez
  dsimp only
  show (if 10 ≤ nI i then x_Out_addNumber_b55 d 130 (s_abs x) (Int64.ofNat (10 ^ k)) (n, HO f O, us) else if Int64.ofNat (10 ^ k) = 0 then none else if lg_cmp (s_abs x / Int64.ofNat (10 ^ k)) 10 < 0 then x_Out_addNumber_b55 d 130 (s_abs x) (Int64.ofNat (10 ^ k)) (n, HO f O, us) else again (Int64.ofNat (10 ^ k) * 10, nI i + 1, (n, HO f O, us))) = _
  cases m with
  | zero =>
    obtain rfl : i = 10 := by omega
    rw [if_pos (show (10 : Int32) ≤ nI 10 from Int32.le_refl _), s_un, e_num55 hn hO]
  | succ m =>
    have b0 := cl0 (show i < 2 ^ 31 by omega)
    rw [if_neg (show ¬ (10 : Int32) ≤ nI i from nI_ge (b := 10) (by omega) (by decide)), if_neg (p10_ne k (by omega)), s_un]
    by_cases c : lg_cmp (s_abs x / Int64.ofNat (10 ^ k)) 10 < 0
    · rw [if_pos c, if_pos c, e_num55 hn hO]
    · rw [if_neg c, if_neg c, ← nI_succ, show Int64.ofNat (10 ^ k) * 10 = Int64.ofNat (10 ^ (k + 1)) by rw [Nat.pow_succ, Int64.ofNat_mul]; rfl]
      exact ih _ (by simp only [nI_clamp (show i + 1 < 2 ^ 31 by omega), b0.2]; omega) m (i + 1) (k + 1) (by omega) (by omega) rfl
theorem e_OutNum (hn : 131 < n) (hO : O.1 ≤ 600) {x : Int64} : x_Out_addNumber (d + 1) 130 x (n, HO f O, us) = some ((), (n, HO f (s_num x O), us)) := by
  unfold x_Out_addNumber s_num
  dsimp only
  rw [o_gd hn]
  by_cases c : 0 ≤ lg_cmp x 0
  · rw [if_pos c, if_pos c, e_num12 hn hO]
  · rw [if_neg c, if_neg c, e_OutAdd hn hO, bnd_some, e_num12 hn (s_add_le hO)]
theorem s_at_le {x0 x1 : Int64} : ∀ m i (O : oS), O.1 ≤ 600 → (s_at x0 x1 m i O).1 ≤ 600
  | 0, _, _, h => h
  | m + 1, i, O, h => by
    rw [s_at]
    exact s_at_le m (i + 1) _ (s_add_le h)
theorem s_dg_le {x : Int64} : ∀ m u (O : oS), O.1 ≤ 600 → (s_dg x m u O).1 ≤ 600
  | 0, _, _, h => h
  | m + 1, u, O, h => by
    rw [s_dg]
    split
    · exact h
    · exact s_dg_le m _ _ (s_add_le h)
theorem s_num_le {x : Int64} (h : O.1 ≤ 600) : (s_num x O).1 ≤ 600 := by
  unfold s_num
  refine s_dg_le _ _ _ ?_
  split
  · exact h
  · exact s_add_le h
def oW (O : oS) : Prop := O.1 ≤ 600 ∧ (O.2.1 = 0 ∨ O.2.1 = 1)
theorem oW_add {x : Int32} (h : oW O) : oW (s_add O x) := by
  refine ⟨s_add_le h.1, ?_⟩
  unfold s_add
  dsimp only
  split
  · exact h.2
  · exact Or.inr rfl
theorem oW_at {x0 x1 : Int64} : ∀ m i (O : oS), oW O → oW (s_at x0 x1 m i O)
  | 0, _, _, h => h
  | m + 1, i, O, h => by
    rw [s_at]
    exact oW_at m (i + 1) _ (oW_add h)
theorem oW_dg {x : Int64} : ∀ m u (O : oS), oW O → oW (s_dg x m u O)
  | 0, _, _, h => h
  | m + 1, u, O, h => by
    rw [s_dg]
    split
    · exact h
    · exact oW_dg m _ _ (oW_add h)
theorem oW_num {x : Int64} (h : oW O) : oW (s_num x O) := by
  unfold s_num
  refine oW_dg _ _ _ ?_
  split
  · exact h
  · exact oW_add h
end
