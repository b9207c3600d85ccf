section
variable {n us d hh tt N r u : Nat} {f : Nat → am_C} {hd tl : Nat → Int64} {cu : Nat → Value} {cn cb : Nat → Int32} {S : SC} {O : oS} {fu tp bs pc cl tk er dn : Int32} {rh rt : Int64}
variable {T j : Nat} {op : Int32}
theorem k_rk (D : DW n hh tt r) (hN : N ≤ 16384) (hT : T - 1 < N) (hT2 : T ≤ 16384) : x_Mach_doReckoning (d + 2) 148 op (n, WW f hh tt N hd tl cu cn cb r S O fu (nI T) bs u pc cl tk er dn rh rt, us) = x_Mach_doReckoning_b49 (d + 1) 148 op (nI (T - 2)) (nI (T - 1)) (if hd (T - 2) = hd (T - 1) ∧ tl (T - 2) = tl (T - 1) then 1 else 0) (n, WW f hh tt N hd tl cu cn cb r S O fu (nI T) bs u pc cl tk er dn rh rt, us) := by
  have b1 : x_Mach_below (d + 1) 148 1 (n, WW f hh tt N hd tl cu cn cb r S O fu (nI T) bs u pc cl tk er dn rh rt, us) = some (nI (T - 1), (n, WW f hh tt N hd tl cu cn cb r S O fu (nI T) bs u pc cl tk er dn rh rt, us)) := k_below (j := 1) D (by omega) (by decide)
  have b2 : x_Mach_below (d + 1) 148 2 (n, WW f hh tt N hd tl cu cn cb r S O fu (nI T) bs u pc cl tk er dn rh rt, us) = some (nI (T - 2), (n, WW f hh tt N hd tl cu cn cb r S O fu (nI T) bs u pc cl tk er dn rh rt, us)) := k_below (j := 2) D (by omega) (by decide)
  unfold x_Mach_doReckoning
  dsimp only
  rw [m_gd0 D, b2, bnd_some, b1, bnd_some, m_g0 D, Option.bind_some, w_aH D (by omega) (show T - 2 < N by omega), Option.bind_some, Option.bind_some, w_aH D (by omega) hT, Option.bind_some]
  unfold x_Mach_doReckoning_b48
  by_cases c1 : hd (T - 2) = hd (T - 1)
  · rw [if_pos (lc_eq.mpr c1), m_g1 D, Option.bind_some, w_aT D (by omega) (show T - 2 < N by omega), Option.bind_some, Option.bind_some, w_aT D (by omega) hT, Option.bind_some]
    by_cases c2 : tl (T - 2) = tl (T - 1)
    · rw [if_pos (lc_eq.mpr c2), if_pos ⟨c1, c2⟩]
    · rw [if_neg (fun w => c2 (lc_eq.mp w)), if_neg (fun w => c2 w.2)]
  · rw [if_neg (fun w => c1 (lc_eq.mp w)), if_neg (fun w => c1 w.1)]
theorem o_minus (D : DW n hh tt r) (hN : N ≤ 16384) (hT : T < N) : Op1 (MK n us f hh tt N cu cn cb r O fu bs u pc cl tk rh rt) T hd tl (x_Mach_doReckoning (d + 6) 148 26 (n, WW f hh tt N hd tl cu cn cb r S O fu (nI (T + 1)) bs u pc cl tk (0) (0) rh rt, us)) (d_minus S (hd T, tl T)) := by
  rw [k_rk D hN (by omega) (by omega)]
  unfold x_Mach_doReckoning_b49 x_Mach_minus d_minus
  rw [if_pos rfl]
  dsimp only
  rw [Nat.add_sub_cancel, m_gd0 D, m_p2 D, Option.bind_some, k_sortAt D (by omega) hT, bnd_some]
  by_cases c : s_Cell_sortOf (hd T) = 1
  · rw [if_pos c, if_pos c, m_g1 D, Option.bind_some, w_aT D (by omega) hT, Option.bind_some, k_layNumber D (by omega) hT, bnd_some, bnd_some]
    exact Op1.ok
  · rw [if_neg c, if_neg c, k_fail D, bnd_some, bnd_some]
    exact Op1.er (by decide)
theorem o_not (D : DW n hh tt r) (hN : N ≤ 16384) (hT : T < N) : Op1 (MK n us f hh tt N cu cn cb r O fu bs u pc cl tk rh rt) T hd tl (x_Mach_doReckoning (d + 6) 148 27 (n, WW f hh tt N hd tl cu cn cb r S O fu (nI (T + 1)) bs u pc cl tk (0) (0) rh rt, us)) (d_not S (hd T, tl T)) := by
  rw [k_rk D hN (by omega) (by omega)]
  unfold x_Mach_doReckoning_b49 d_not
  rw [if_neg (show ¬ (27 : Int32) = 26 by decide), if_pos rfl, Nat.add_sub_cancel, m_p2 D, Option.bind_some, m_g0 D, Option.bind_some, w_aH D (by omega) hT, Option.bind_some, m_g1 D, Option.bind_some, w_aT D (by omega) hT, Option.bind_some, e_Cell_isTrue, bnd_some]
  by_cases c : s_Cell_isTrue (hd T) (tl T) = 0
  · rw [if_pos c, k_layTruth D (by omega) hT, bnd_some, if_neg (show ¬ (1 : Int32) = 0 by decide)]
    dsimp only
    rw [if_pos c]
    exact Op1.ok
  · rw [if_neg c, k_layTruth D (by omega) hT, bnd_some, if_pos rfl]
    dsimp only
    rw [if_neg c]
    exact Op1.ok
theorem o_same (D : DW n hh tt r) (hN : N ≤ 16384) (hT : T + 1 < N) : Op1 (MK n us f hh tt N cu cn cb r O fu bs u pc cl tk rh rt) T hd tl (x_Mach_doReckoning (d + 6) 148 28 (n, WW f hh tt N hd tl cu cn cb r S O fu (nI (T + 2)) bs u pc cl tk (0) (0) rh rt, us)) (d_same S true (hd T, tl T) (hd (T + 1), tl (T + 1))) := by
  rw [k_rk D hN (by omega) (by omega)]
  unfold x_Mach_doReckoning_b49 d_same
  rw [if_neg (show ¬ (28 : Int32) = 26 by decide), if_neg (show ¬ (28 : Int32) = 27 by decide), if_pos rfl, Nat.add_sub_cancel, m_p2 D, Option.bind_some, k_layTruth D (by omega) (show T < N by omega), bnd_some, show T + 2 - 1 = T + 1 from rfl]
  dsimp only
  by_cases c : hd T = hd (T + 1) ∧ tl T = tl (T + 1)
  · rw [if_pos c, if_neg (show ¬ (1 : Int32) = 0 by decide), if_pos (decide_eq_true c)]
    exact Op1.ok
  · rw [if_neg c, if_pos rfl, if_neg (by simp only [decide_eq_true_eq]; exact c)]
    exact Op1.ok
theorem o_unlike (D : DW n hh tt r) (hN : N ≤ 16384) (hT : T + 1 < N) : Op1 (MK n us f hh tt N cu cn cb r O fu bs u pc cl tk rh rt) T hd tl (x_Mach_doReckoning (d + 6) 148 29 (n, WW f hh tt N hd tl cu cn cb r S O fu (nI (T + 2)) bs u pc cl tk (0) (0) rh rt, us)) (d_same S false (hd T, tl T) (hd (T + 1), tl (T + 1))) := by
  rw [k_rk D hN (by omega) (by omega)]
  unfold x_Mach_doReckoning_b49 d_same
  rw [if_neg (show ¬ (29 : Int32) = 26 by decide), if_neg (show ¬ (29 : Int32) = 27 by decide), if_neg (show ¬ (29 : Int32) = 28 by decide), if_pos rfl, Nat.add_sub_cancel, m_p2 D, Option.bind_some, show T + 2 - 1 = T + 1 from rfl]
  dsimp only
  by_cases c : hd T = hd (T + 1) ∧ tl T = tl (T + 1)
  · rw [if_pos c, if_neg (show ¬ (1 : Int32) = 0 by decide), k_layTruth D (by omega) (show T < N by omega), bnd_some, if_pos rfl, if_neg (by simp only [decide_eq_false_iff_not]; exact fun w => w c)]
    exact Op1.ok
  · rw [if_neg c, if_pos rfl, k_layTruth D (by omega) (show T < N by omega), bnd_some, if_neg (show ¬ (1 : Int32) = 0 by decide), if_pos (decide_eq_false c)]
    exact Op1.ok
theorem k_cmp40 (D : DW n hh tt r) (hN : N ≤ 16384) (hT : T + 1 < N) {x : Int32} : x_Mach_compare_b40 (d + 3) 148 (nI T) (nI (T + 1)) x (n, WW f hh tt N hd tl cu cn cb r S O fu (nI T) bs u pc cl tk er dn rh rt, us) = some ((), (n, WW f hh tt N (upL hd T (s_Cell_headOf 1)) (upL tl T (if ¬ x = 0 ∨ hd T < hd (T + 1) ∨ (hd T = hd (T + 1) ∧ tl T < tl (T + 1)) then 1 else 0)) cu cn cb r S O fu (nI (T + 1)) bs u pc cl tk er dn rh rt, us)) := by
  have hT0 : T < N := by omega
  unfold x_Mach_compare_b40 x_Mach_compare_b88 x_Mach_compare_b92 x_Mach_compare_b93
  have hNN : N < 2 ^ 31 := by omega
  simp only [m_g0 D, m_g1 D, Option.bind_some, w_aH D hNN hT0, w_aH D hNN hT, w_aT D hNN hT0, w_aT D hNN hT, k_layTruth D (show N < 2 ^ 31 by omega) hT0, bnd_some, if_neg (show ¬ (1 : Int32) = 0 by decide), if_true]
  by_cases cx : x = 0
  · simp only [if_pos cx]
    by_cases c1 : hd T < hd (T + 1)
    · rw [if_pos (lc_lt.mpr c1), if_pos (Or.inr (Or.inl c1))]
    · rw [if_neg (fun w => c1 (lc_lt.mp w))]
      by_cases c2 : hd T = hd (T + 1)
      · rw [if_pos (lc_eq.mpr c2)]
        by_cases c3 : tl T < tl (T + 1)
        · rw [if_neg (fun w => Int32.not_lt.mpr w (lc_lt.mpr c3)), if_pos (Or.inr (Or.inr ⟨c2, c3⟩))]
        · rw [if_pos (Int32.not_lt.mp (fun w => c3 (lc_lt.mp w))), if_neg (fun w => w.elim (fun q => q cx) (fun q => q.elim c1 (fun q => c3 q.2)))]
      · rw [if_neg (fun w => c2 (lc_eq.mp w)), if_neg (fun w => w.elim (fun q => q cx) (fun q => q.elim c1 (fun q => c2 q.1)))]
  · simp only [if_neg cx, ite_self, if_pos (Or.inl cx : ¬ x = 0 ∨ hd T < hd (T + 1) ∨ (hd T = hd (T + 1) ∧ tl T < tl (T + 1)))]
theorem k_cmp (D : DW n hh tt r) (hN : N ≤ 16384) (hT : T + 1 < N) {x : Int32} {w : Bool} (hx : x = 0 ↔ ¬ (w = true ∧ hd T = hd (T + 1) ∧ tl T = tl (T + 1))) : Op1 (MK n us f hh tt N cu cn cb r O fu bs u pc cl tk rh rt) T hd tl (x_Mach_compare (d + 4) 148 (nI T) (nI (T + 1)) x (n, WW f hh tt N hd tl cu cn cb r S O fu (nI (T + 2)) bs u pc cl tk (0) (0) rh rt, us)) (d_cmp S w (hd T, tl T) (hd (T + 1), tl (T + 1))) := by
  unfold x_Mach_compare d_cmp
  dsimp only
  rw [m_gd0 D, k_sortAt D (by omega) (show T < N by omega), bnd_some, m_p2 D, Option.bind_some, k_sortAt D (by omega) hT, bnd_some]
  by_cases c : s_Cell_sortOf (hd T) = s_Cell_sortOf (hd (T + 1))
  · rw [if_pos c]
    have fin : Op1 (MK n us f hh tt N cu cn cb r O fu bs u pc cl tk rh rt) T hd tl (x_Mach_compare_b40 (d + 3) 148 (nI T) (nI (T + 1)) x (n, WW f hh tt N hd tl cu cn cb r S O fu (nI T) bs u pc cl tk (0) (0) rh rt, us)) (S, 0, s_Cell_headOf 1, if (w = true ∧ hd T = hd (T + 1) ∧ tl T = tl (T + 1)) ∨ hd T < hd (T + 1) ∨ (hd T = hd (T + 1) ∧ tl T < tl (T + 1)) then 1 else 0) := by
      rw [k_cmp40 D hN hT]
      have e : (if ¬ x = 0 ∨ hd T < hd (T + 1) ∨ (hd T = hd (T + 1) ∧ tl T < tl (T + 1)) then (1 : Int64) else 0) = (if (w = true ∧ hd T = hd (T + 1) ∧ tl T = tl (T + 1)) ∨ hd T < hd (T + 1) ∨ (hd T = hd (T + 1) ∧ tl T < tl (T + 1)) then 1 else 0) := by
        have : (¬ x = 0) ↔ (w = true ∧ hd T = hd (T + 1) ∧ tl T = tl (T + 1)) := ⟨fun q => Classical.byContradiction fun z => q (hx.mpr z), fun q z => hx.mp z q⟩
        by_cases q : (w = true ∧ hd T = hd (T + 1) ∧ tl T = tl (T + 1)) ∨ hd T < hd (T + 1) ∨ (hd T = hd (T + 1) ∧ tl T < tl (T + 1))
        · rw [if_pos q, if_pos (q.imp this.mpr id)]
        · rw [if_neg q, if_neg (fun z => q (z.imp this.mp id))]
      rw [e]
      exact Op1.ok
    by_cases c1 : s_Cell_sortOf (hd T) = 1
    · rw [if_pos c1, if_pos ⟨c, Or.inl c1⟩]
      exact fin
    · rw [if_neg c1]
      by_cases c2 : s_Cell_sortOf (hd T) = 2
      · rw [if_pos c2, if_pos ⟨c, Or.inr c2⟩]
        exact fin
      · rw [if_neg c2, if_neg (fun q => q.2.elim c1 c2), k_fail D, bnd_some]
        exact Op1.er (by decide)
  · rw [if_neg c, if_neg (fun q => c q.1), k_fail D, bnd_some]
    exact Op1.er (by decide)
theorem Op1_bnd {mk : MKT} {out : Option (Unit × HS)} {res : RV} (h : Op1 mk T hd tl out res) : Op1 mk T hd tl (bnd out fun _ s => some ((), s)) res := by
  obtain ⟨a, b, c, e, g, k, h1, h2⟩ := h
  rw [h1, bnd_some]
  exact ⟨a, b, c, e, g, k, rfl, h2⟩
theorem o_less (D : DW n hh tt r) (hN : N ≤ 16384) (hT : T + 1 < N) : Op1 (MK n us f hh tt N cu cn cb r O fu bs u pc cl tk rh rt) T hd tl (x_Mach_doReckoning (d + 6) 148 30 (n, WW f hh tt N hd tl cu cn cb r S O fu (nI (T + 2)) bs u pc cl tk (0) (0) rh rt, us)) (d_cmp S false (hd T, tl T) (hd (T + 1), tl (T + 1))) := by
  rw [k_rk D hN (by omega) (by omega)]
  unfold x_Mach_doReckoning_b49
  rw [if_neg (show ¬ (30 : Int32) = 26 by decide), if_neg (show ¬ (30 : Int32) = 27 by decide), if_neg (show ¬ (30 : Int32) = 28 by decide), if_neg (show ¬ (30 : Int32) = 29 by decide), if_pos rfl, Nat.add_sub_cancel]
  exact Op1_bnd (k_cmp D hN hT ⟨fun _ q => absurd q.1 (by decide), fun _ => rfl⟩)
theorem o_atMost (D : DW n hh tt r) (hN : N ≤ 16384) (hT : T + 1 < N) : Op1 (MK n us f hh tt N cu cn cb r O fu bs u pc cl tk rh rt) T hd tl (x_Mach_doReckoning (d + 6) 148 31 (n, WW f hh tt N hd tl cu cn cb r S O fu (nI (T + 2)) bs u pc cl tk (0) (0) rh rt, us)) (d_cmp S true (hd T, tl T) (hd (T + 1), tl (T + 1))) := by
  rw [k_rk D hN (by omega) (by omega)]
  unfold x_Mach_doReckoning_b49
  rw [if_neg (show ¬ (31 : Int32) = 26 by decide), if_neg (show ¬ (31 : Int32) = 27 by decide), if_neg (show ¬ (31 : Int32) = 28 by decide), if_neg (show ¬ (31 : Int32) = 29 by decide), if_neg (show ¬ (31 : Int32) = 30 by decide), if_pos rfl, Nat.add_sub_cancel, show T + 2 - 1 = T + 1 from rfl]
  refine Op1_bnd (k_cmp D hN hT ?_)
  by_cases c : hd T = hd (T + 1) ∧ tl T = tl (T + 1)
  · rw [if_pos c]
    exact ⟨fun q => absurd q (by decide), fun q => absurd ⟨rfl, c⟩ q⟩
  · rw [if_neg c]
    exact ⟨fun _ q => c q.2, fun _ => rfl⟩
theorem k_found {x y : Int32} {s : HS} : x_Mach_found d op x y s = some (s_found op x y, s) := by
  unfold x_Mach_found s_found
  (repeat' split) <;> first | rfl | contradiction
theorem k_join (D : DW n hh tt r) (hN : N ≤ 16384) (hT : T + 1 < N) : Op1 (MK n us f hh tt N cu cn cb r O fu bs u pc cl tk rh rt) T hd tl (x_Mach_join (d + 2) 148 (nI T) (nI (T + 1)) (n, WW f hh tt N hd tl cu cn cb r S O fu (nI (T + 1)) bs u pc cl tk (0) (0) rh rt, us)) (d_join S (hd T, tl T) (hd (T + 1), tl (T + 1))) := by
  have hT0 : T < N := by omega
  have l1 := s_signs_eq (x0 := hd T) (x1 := tl T)
  have l2 := s_signs_eq (x0 := hd (T + 1)) (x1 := tl (T + 1))
  unfold x_Mach_join d_join
  dsimp only
  rw [m_gd0 D, m_g0 D, Option.bind_some, w_aH D (by omega) hT0, Option.bind_some, m_g1 D, Option.bind_some, w_aT D (by omega) hT0, Option.bind_some, e_Cell_signsOf, bnd_some, m_g0 D, Option.bind_some, w_aH D (by omega) hT, Option.bind_some, m_g1 D, Option.bind_some, w_aT D (by omega) hT, Option.bind_some, e_Cell_signsOf, bnd_some, l1.1, l2.1, nI_add]
  by_cases c : s_signs (hd T) (tl T) + s_signs (hd (T + 1)) (tl (T + 1)) ≤ 16
  · rw [if_pos (show nI (s_signs (hd T) (tl T) + s_signs (hd (T + 1)) (tl (T + 1))) ≤ 16 from nI_le (b := 16) c (by decide)), if_pos c]
    generalize hb : ((hd (T + 1), tl (T + 1)) : V2) = b
    have hb1 : hd (T + 1) = b.1 := by rw [← hb]
    have hb2 : tl (T + 1) = b.2 := by rw [← hb]
    rw [hb1, hb2] at l2 ⊢
    refine loop_ind (fun z q => ∀ m i (a : V2) (hd' tl' : Nat → Int64), i + m = s_signs b.1 b.2 → (∀ j, j < T → hd' j = hd j ∧ tl' j = tl j) → hd' T = a.1 → tl' T = a.2 → hd' (T + 1) = b.1 → tl' (T + 1) = b.2 → z = (nI i, (n, WW f hh tt N (hd') (tl') cu cn cb r S O fu (nI (T + 1)) bs u pc cl tk (0) (0) rh rt, us)) → Op1 (MK n us f hh tt N cu cn cb r O fu bs u pc cl tk rh rt) T hd tl q (S, 0, s_jn b (s_signs (hd T) (tl T)) m i a)) (fun z => 16 - z.1.toNatClampNeg) (fun again z ih m i a hd' tl' e g0 g1 g2 g3 g4 ez => ?_) FU _ (by rw [FU_eq]; omega) (s_signs b.1 b.2) 0 (hd T, tl T) hd tl (by omega) (fun _ _ => ⟨rfl, rfl⟩) rfl rfl hb1 hb2 rfl
    subst ez
    dsimp only
    cases m with
    | zero =>
      obtain rfl : i = s_signs b.1 b.2 := by omega
      rw [if_pos (Int32.le_refl _), s_jn]
      exact ⟨_, _, _, _, _, _, rfl, Or.inl ⟨rfl, rfl, rfl, rfl, rfl, g0, g1, g2⟩⟩
    | succ m =>
      have b0 := cl0 (show i < 2 ^ 31 by omega)
      rw [if_neg (nI_ge (by omega) (by omega)), m_g0 D, Option.bind_some, w_aH D (by omega) hT, Option.bind_some, m_g1 D, Option.bind_some, w_aT D (by omega) hT, Option.bind_some, e_Cell_signAt, bnd_some, g3, g4, s_jn]
      by_cases c8 : 8 ≤ nI (s_signs (hd T) (tl T)) + nI i
      · rw [if_pos c8, if_pos c8, m_g1 D, Option.bind_some, w_aT D (by omega) hT0, Option.bind_some, e_Cell_placed, bnd_some, w_sT D (by omega) hT0, Option.bind_some, ← nI_succ, g2]
        have key := ih (nI (i + 1), (n, WW f hh tt N (hd') (upL tl' T (a.2 ||| s_Cell_placed (s_Cell_signAt b.1 b.2 (nI i)) (nI (s_signs (hd T) (tl T)) + nI i))) cu cn cb r S O fu (nI (T + 1)) bs u pc cl tk (0) (0) rh rt, us)) (show 16 - (nI (i + 1)).toNatClampNeg < 16 - (nI i).toNatClampNeg by rw [nI_clamp (show i + 1 < 2 ^ 31 by omega), b0.2]; omega) m (i + 1) (a.1, a.2 ||| s_Cell_placed (s_Cell_signAt b.1 b.2 (nI i)) (nI (s_signs (hd T) (tl T)) + nI i)) hd' (upL tl' T (a.2 ||| s_Cell_placed (s_Cell_signAt b.1 b.2 (nI i)) (nI (s_signs (hd T) (tl T)) + nI i))) (by omega) (fun j hj => ⟨(g0 j hj).1, (if_neg (by omega)).trans (g0 j hj).2⟩) g1 (if_pos rfl) g3 ((if_neg (by omega)).trans g4) rfl
        exact key
      · rw [if_neg c8, if_neg c8, m_g0 D, Option.bind_some, w_aH D (by omega) hT0, Option.bind_some, e_Cell_placed, bnd_some, w_sH D (by omega) hT0, Option.bind_some, ← nI_succ, g1]
        have key := ih (nI (i + 1), (n, WW f hh tt N (upL hd' T (a.1 ||| s_Cell_placed (s_Cell_signAt b.1 b.2 (nI i)) (nI (s_signs (hd T) (tl T)) + nI i))) (tl') cu cn cb r S O fu (nI (T + 1)) bs u pc cl tk (0) (0) rh rt, us)) (show 16 - (nI (i + 1)).toNatClampNeg < 16 - (nI i).toNatClampNeg by rw [nI_clamp (show i + 1 < 2 ^ 31 by omega), b0.2]; omega) m (i + 1) (a.1 ||| s_Cell_placed (s_Cell_signAt b.1 b.2 (nI i)) (nI (s_signs (hd T) (tl T)) + nI i), a.2) (upL hd' T (a.1 ||| s_Cell_placed (s_Cell_signAt b.1 b.2 (nI i)) (nI (s_signs (hd T) (tl T)) + nI i))) tl' (by omega) (fun j hj => ⟨(if_neg (by omega)).trans (g0 j hj).1, (g0 j hj).2⟩) (if_pos rfl) g2 ((if_neg (by omega)).trans g3) g4 rfl
        exact key
  · rw [if_neg (show ¬ nI (s_signs (hd T) (tl T) + s_signs (hd (T + 1)) (tl (T + 1))) ≤ 16 from nI_ge (a := 16) (by omega) (by omega)), if_neg c, k_fail D, bnd_some]
    exact Op1.er (by decide)
theorem k_rk42 (D : DW n hh tt r) (hN : N ≤ 16384) (hT : T + 1 < N) {x : Int32} (hx : x = s_Cell_sortOf (hd T)) (ho : ¬ (op = 32 ∧ s_Cell_sortOf (hd T) = 2 ∧ s_Cell_sortOf (hd (T + 1)) = 2)) : Op1 (MK n us f hh tt N cu cn cb r O fu bs u pc cl tk rh rt) T hd tl (x_Mach_reckon_b42 (d + 1) 148 op (nI T) (nI (T + 1)) x (n, WW f hh tt N hd tl cu cn cb r S O fu (nI (T + 1)) bs u pc cl tk (0) (0) rh rt, us)) (d_reck S op (hd T, tl T) (hd (T + 1), tl (T + 1))) := by
  have hT0 : T < N := by omega
  unfold x_Mach_reckon_b42 d_reck
  dsimp only
  rw [if_neg ho, hx]
  clear hx ho
  have fin : Op1 (MK n us f hh tt N cu cn cb r O fu bs u pc cl tk rh rt) T hd tl (x_Mach_reckon_b96 (d + 1) 148 op (nI T) (nI (T + 1)) (n, WW f hh tt N hd tl cu cn cb r S O fu (nI (T + 1)) bs u pc cl tk (0) (0) rh rt, us)) (S, 0, hd T, (s_found op (tl T).toInt32 (tl (T + 1)).toInt32).toInt64) := by
    unfold x_Mach_reckon_b96
    rw [m_g1 D, Option.bind_some, Option.bind_some, w_aT D (by omega) hT0, Option.bind_some, Option.bind_some, w_aT D (by omega) hT, Option.bind_some, k_found, bnd_some, w_sT D (by omega) hT0, Option.bind_some]
    exact ⟨_, _, _, _, _, _, rfl, Or.inl ⟨rfl, rfl, rfl, rfl, rfl, fun j hj => ⟨rfl, if_neg (by omega)⟩, rfl, if_pos rfl⟩⟩
  by_cases c1 : s_Cell_sortOf (hd T) = 1
  · rw [if_pos c1, k_sortAt D (by omega) hT, bnd_some]
    by_cases c2 : s_Cell_sortOf (hd (T + 1)) = 1
    · rw [if_pos c2, if_pos (show s_Cell_sortOf (hd T) = 1 ∧ s_Cell_sortOf (hd (T + 1)) = 1 from ⟨c1, c2⟩)]
      have z77 : (op = 35 ∨ op = 36) → Op1 (MK n us f hh tt N cu cn cb r O fu bs u pc cl tk rh rt) T hd tl (x_Mach_reckon_b77 (d + 1) 148 op (nI T) (nI (T + 1)) (n, WW f hh tt N hd tl cu cn cb r S O fu (nI (T + 1)) bs u pc cl tk (0) (0) rh rt, us)) (if (op = 35 ∨ op = 36) ∧ tl (T + 1) = 0 then (S, 5, 0, 0) else (S, 0, hd T, (s_found op (tl T).toInt32 (tl (T + 1)).toInt32).toInt64)) := fun q => by
        unfold x_Mach_reckon_b77
        rw [m_g1 D, Option.bind_some, w_aT D (by omega) hT, Option.bind_some]
        by_cases c3 : tl (T + 1) = 0
        · rw [if_pos (lc_eq.mpr c3), if_pos ⟨q, c3⟩, k_fail D, bnd_some]
          exact Op1.er (by decide)
        · rw [if_neg (fun w => c3 (lc_eq.mp w)), if_neg (fun w => c3 w.2)]
          exact fin
      by_cases o1 : op = 35
      · rw [if_pos o1]
        exact z77 (Or.inl o1)
      · rw [if_neg o1]
        by_cases o2 : op = 36
        · rw [if_pos o2]
          exact z77 (Or.inr o2)
        · rw [if_neg o2, if_neg (show ¬ ((op = 35 ∨ op = 36) ∧ tl (T + 1) = 0) from fun w => w.1.elim o1 o2)]
          exact fin
    · rw [if_neg c2, if_neg (show ¬ (s_Cell_sortOf (hd T) = 1 ∧ s_Cell_sortOf (hd (T + 1)) = 1) from fun w => c2 w.2), k_fail D, bnd_some]
      exact Op1.er (by decide)
  · rw [if_neg c1, if_neg (show ¬ (s_Cell_sortOf (hd T) = 1 ∧ s_Cell_sortOf (hd (T + 1)) = 1) from fun w => c1 w.1), k_fail D, bnd_some]
    exact Op1.er (by decide)
theorem k_reckon (D : DW n hh tt r) (hN : N ≤ 16384) (hT : T + 1 < N) : Op1 (MK n us f hh tt N cu cn cb r O fu bs u pc cl tk rh rt) T hd tl (x_Mach_reckon (d + 4) 148 op (nI T) (nI (T + 1)) (n, WW f hh tt N hd tl cu cn cb r S O fu (nI (T + 2)) bs u pc cl tk (0) (0) rh rt, us)) (d_reck S op (hd T, tl T) (hd (T + 1), tl (T + 1))) := by
  have hT0 : T < N := by omega
  unfold x_Mach_reckon
  dsimp only
  rw [m_gd0 D, k_sortAt D (by omega) hT0, bnd_some, m_p2 D, Option.bind_some]
  by_cases o1 : op = 32
  · rw [if_pos o1]
    by_cases c1 : s_Cell_sortOf (hd T) = 2
    · rw [if_pos c1, k_sortAt D (by omega) hT, bnd_some]
      by_cases c2 : s_Cell_sortOf (hd (T + 1)) = 2
      · rw [if_pos c2]
        unfold d_reck
        rw [if_pos (show op = 32 ∧ s_Cell_sortOf (hd T) = 2 ∧ s_Cell_sortOf (hd (T + 1)) = 2 from ⟨o1, c1, c2⟩)]
        exact Op1_bnd (k_join D hN hT)
      · rw [if_neg c2]
        exact k_rk42 D hN hT rfl (fun w => c2 w.2.2)
    · rw [if_neg c1]
      exact k_rk42 D hN hT rfl (fun w => c1 w.2.1)
  · rw [if_neg o1]
    exact k_rk42 D hN hT rfl (fun w => o1 w.1)
theorem o_reck (D : DW n hh tt r) (hN : N ≤ 16384) (hT : T + 1 < N) (ho : op = 32 ∨ op = 33 ∨ op = 34 ∨ op = 35 ∨ op = 36) : Op1 (MK n us f hh tt N cu cn cb r O fu bs u pc cl tk rh rt) T hd tl (x_Mach_doReckoning (d + 6) 148 op (n, WW f hh tt N hd tl cu cn cb r S O fu (nI (T + 2)) bs u pc cl tk (0) (0) rh rt, us)) (d_reck S op (hd T, tl T) (hd (T + 1), tl (T + 1))) := by
  rw [k_rk D hN (by omega) (by omega)]
  unfold x_Mach_doReckoning_b49
  have q : ∀ x : Int32, x = 26 ∨ x = 27 ∨ x = 28 ∨ x = 29 ∨ x = 30 ∨ x = 31 → ¬ op = x := fun x hx w => by
    rcases ho with rfl | rfl | rfl | rfl | rfl <;> rcases hx with rfl | rfl | rfl | rfl | rfl | rfl <;> exact absurd w (by decide)
  rw [if_neg (q 26 (by simp)), if_neg (q 27 (by simp)), if_neg (q 28 (by simp)), if_neg (q 29 (by simp)), if_neg (q 30 (by simp)), if_neg (q 31 (by simp)), Nat.add_sub_cancel, show T + 2 - 1 = T + 1 from rfl]
  exact Op1_bnd (k_reckon D hN hT)
end
