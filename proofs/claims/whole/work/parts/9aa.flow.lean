def d_stR (S : SC) (y : Int64) (v : V2) : SC × Int32 := ((c_setR S y v.1 v.2).2, if (c_setR S y v.1 v.2).1 = true then 0 else 8)
def d_stF (S : SC) (y : Int64) (a b : V2) : SC × Int32 := if s_Cell_sortOf a.1 = 3 then ((c_setF S a.2.toInt32 y b.1 b.2).2, if (c_setF S a.2.toInt32 y b.1 b.2).1 = true then 0 else 4) else (S, 2)
def d_stI (S : SC) (a i v : V2) : SC × Int32 := if s_Cell_sortOf a.1 = 4 then (if c_in i (nI (cOf S a.2.toInt32)) = 0 then ((upL S.1 (fO a.2.toInt32 + i.2.toInt32.toNatClampNeg) v.1, upL S.2.1 (fO a.2.toInt32 + i.2.toInt32.toNatClampNeg) v.2, S.2.2), 0) else (S, c_in i (nI (cOf S a.2.toInt32)))) else (S, 2)
def d_pre (O : oS) (v : V2) : oS := if s_Cell_sortOf v.1 = 1 then s_num v.2 O else if s_Cell_sortOf v.1 = 2 then s_at v.1 v.2 (s_signs v.1 v.2) 0 O else if s_Cell_sortOf v.1 = 3 then s_add O 114 else if s_Cell_sortOf v.1 = 4 then s_add O 119 else s_add O 110
def d_out (O : oS) (v : V2) : oS := s_add (d_pre O v) 10
section
variable {n us d hh tt N r u : Nat} {f : Nat → am_C} {hd tl : Nat → Int64} {cu : Nat → Value} {cn cb : Nat → Int32} {S : SC} {O : oS} {fu tp bs pc cl tk er dn : Int32} {rh rt : Int64}
variable {T j : Nat} {x2 : Int32}
theorem oW_out {v : V2} (h : oW O) : oW (d_out O v) := by
  unfold d_out
  refine oW_add ?_
  unfold d_pre
  split
  · exact oW_num h
  · split
    · exact oW_at _ _ _ h
    · split
      · exact oW_add h
      · split
        · exact oW_add h
        · exact oW_add h
theorem o_stF (D : DW n hh tt r) (hN : N ≤ 16384) (I : SI S) (hT : T + 1 < N) {y : Int64} : Op0 (MK n us f hh tt N cu cn cb r O fu bs u pc cl tk rh rt) T hd tl (x_Mach_storeField (d + 4) 148 y (n, WW f hh tt N hd tl cu cn cb r S O fu (nI (T + 2)) bs u pc cl tk (0) (0) rh rt, us)) (d_stF S y (hd T, tl T) (hd (T + 1), tl (T + 1))) := by
  unfold x_Mach_storeField d_stF
  dsimp only
  rw [m_gd0 D, k_b2 D (by omega), bnd_some, k_b1 (T := T + 1) D (by omega), bnd_some, m_p2 D, Option.bind_some, k_sortAt D (by omega) (show T < N by omega), bnd_some]
  by_cases c3 : s_Cell_sortOf (hd T) = 3
  · rw [if_pos c3, if_pos c3, m_g10 D, Option.bind_some, k_objectAt D (by omega) (show T < N by omega), bnd_some, m_g0 D, Option.bind_some, w_aH D (by omega) hT, Option.bind_some, m_g1 D, Option.bind_some, w_aT D (by omega) hT, Option.bind_some, W_setField D I, bnd_some]
    by_cases c : (c_setF S (tl T).toInt32 y (hd (T + 1)) (tl (T + 1))).1 = true
    · rw [if_pos c, if_neg (show ¬ (1 : Int32) = 0 by decide), if_pos c]
      exact Op0.ok
    · rw [if_neg c, if_pos rfl, if_neg c, k_fail D, bnd_some]
      exact Op0.er (by decide)
  · rw [if_neg c3, if_neg c3, k_fail D, bnd_some]
    exact Op0.er (by decide)
theorem o_stI (D : DW n hh tt r) (hN : N ≤ 16384) (I : SI S) (hT : T + 2 < N) : Op0 (MK n us f hh tt N cu cn cb r O fu bs u pc cl tk rh rt) T hd tl (x_Mach_storeItem (d + 4) 148 (n, WW f hh tt N hd tl cu cn cb r S O fu (nI (T + 3)) bs u pc cl tk (0) (0) rh rt, us)) (d_stI S (hd T, tl T) (hd (T + 1), tl (T + 1)) (hd (T + 2), tl (T + 2))) := by
  have hT0 : T < N := by omega
  have hT1 : T + 1 < N := by omega
  have hNN : N < 2 ^ 31 := by omega
  unfold x_Mach_storeItem d_stI
  dsimp only
  rw [m_gd0 D, k_b3 D (by omega), bnd_some, k_b2 (T := T + 1) D (by omega), bnd_some, k_b1 (T := T + 2) D (by omega), bnd_some, m_p2 D, Option.bind_some, k_sortAt D hNN hT0, bnd_some]
  by_cases c4 : s_Cell_sortOf (hd T) = 4
  · have l := cOf_le (x := (tl T).toInt32) I
    rw [if_pos c4, if_pos c4, m_g10 D, Option.bind_some, k_objectAt D hNN hT0, bnd_some, W_cellsOf D I, bnd_some, k_isWithin D hNN hT1, bnd_some]
    by_cases c : c_in (hd (T + 1), tl (T + 1)) (nI (cOf S (tl T).toInt32)) = 0
    · obtain ⟨k, k1, k2⟩ := c_in_lt (by omega) c
      dsimp only at k2
      rw [if_pos c, if_neg (show ¬ (1 : Int32) = 0 by decide), if_pos c, if_pos c]
      simp only [m_g0 D, m_g1 D, m_g10 D, Option.bind_some, bnd_some, k_objectAt D hNN hT0, W_firstCell D, w_aT D hNN hT1, w_aH D hNN hT, w_aT D hNN hT, W_g1 D, W_g2 D, k2, nI_add, W_s1 D (show fO (tl T).toInt32 + k < 2000 by omega), W_s2 D (show fO (tl T).toInt32 + k < 2000 by omega), nI_clamp (show k < 2 ^ 31 by omega)]
      exact Op0.ok
    · rw [if_neg c, if_pos rfl, if_neg c, if_neg c]
      exact Op0.er c
  · rw [if_neg c4, if_neg c4, k_fail D, bnd_some]
    exact Op0.er (by decide)
/-! flow -/
theorem o_stepY (D : DW n hh tt r) (hN : N ≤ 16384) (hN0 : 0 < N) (hT : T ≤ N) (ht : tk < fu) : x_Mach_doFlow (d + 4) 148 0 x2 (n, WW f hh tt N hd tl cu cn cb r S O fu (nI (T)) bs u pc cl tk er dn rh rt, us) = some ((), (n, WW f hh tt N hd tl cu cn cb r S O fu (nI T) bs u pc cl (tk + 1) er dn rh rt, us)) := by
  have b1 : x_Mach_below (d + 3) 148 1 (n, WW f hh tt N hd tl cu cn cb r S O fu (nI (T)) bs u pc cl tk er dn rh rt, us) = some (nI (T - 1), (n, WW f hh tt N hd tl cu cn cb r S O fu (nI (T)) bs u pc cl tk er dn rh rt, us)) := k_below (j := 1) D (by omega) (by decide)
  have b1' : x_Mach_below (d + 2) 148 1 (n, WW f hh tt N hd tl cu cn cb r S O fu (nI (T)) bs u pc cl tk er dn rh rt, us) = some (nI (T - 1), (n, WW f hh tt N hd tl cu cn cb r S O fu (nI (T)) bs u pc cl tk er dn rh rt, us)) := k_below (j := 1) D (by omega) (by decide)
  have hT1 : T - 1 < N := by omega
  have hNN : N < 2 ^ 31 := by omega
  unfold x_Mach_doFlow
  dsimp only
  rw [m_gd0 D, b1, bnd_some, m_g0 D, Option.bind_some, w_aH D hNN hT1, Option.bind_some, m_g1 D, Option.bind_some, w_aT D hNN hT1, Option.bind_some, e_Cell_isTrue, bnd_some, if_pos rfl]
  rw [k_burnY D ht, bnd_some]
theorem o_stepN (D : DW n hh tt r) (hN : N ≤ 16384) (hN0 : 0 < N) (hT : T ≤ N) (ht : ¬ tk < fu) : x_Mach_doFlow (d + 4) 148 0 x2 (n, WW f hh tt N hd tl cu cn cb r S O fu (nI (T)) bs u pc cl tk er dn rh rt, us) = some ((), (n, WW f hh tt N hd tl cu cn cb r S O fu (nI T) bs u pc cl tk (1) (1) rh rt, us)) := by
  have b1 : x_Mach_below (d + 3) 148 1 (n, WW f hh tt N hd tl cu cn cb r S O fu (nI (T)) bs u pc cl tk er dn rh rt, us) = some (nI (T - 1), (n, WW f hh tt N hd tl cu cn cb r S O fu (nI (T)) bs u pc cl tk er dn rh rt, us)) := k_below (j := 1) D (by omega) (by decide)
  have b1' : x_Mach_below (d + 2) 148 1 (n, WW f hh tt N hd tl cu cn cb r S O fu (nI (T)) bs u pc cl tk er dn rh rt, us) = some (nI (T - 1), (n, WW f hh tt N hd tl cu cn cb r S O fu (nI (T)) bs u pc cl tk er dn rh rt, us)) := k_below (j := 1) D (by omega) (by decide)
  have hT1 : T - 1 < N := by omega
  have hNN : N < 2 ^ 31 := by omega
  unfold x_Mach_doFlow
  dsimp only
  rw [m_gd0 D, b1, bnd_some, m_g0 D, Option.bind_some, w_aH D hNN hT1, Option.bind_some, m_g1 D, Option.bind_some, w_aT D hNN hT1, Option.bind_some, e_Cell_isTrue, bnd_some, if_pos rfl]
  rw [k_burnN D ht, bnd_some]
theorem o_jump (D : DW n hh tt r) (hN : N ≤ 16384) (hN0 : 0 < N) (hT : T ≤ N) : x_Mach_doFlow (d + 4) 148 1 x2 (n, WW f hh tt N hd tl cu cn cb r S O fu (nI (T)) bs u pc cl tk er dn rh rt, us) = some ((), (n, WW f hh tt N hd tl cu cn cb r S O fu (nI T) bs u (x2) cl tk er dn rh rt, us)) := by
  have b1 : x_Mach_below (d + 3) 148 1 (n, WW f hh tt N hd tl cu cn cb r S O fu (nI (T)) bs u pc cl tk er dn rh rt, us) = some (nI (T - 1), (n, WW f hh tt N hd tl cu cn cb r S O fu (nI (T)) bs u pc cl tk er dn rh rt, us)) := k_below (j := 1) D (by omega) (by decide)
  have b1' : x_Mach_below (d + 2) 148 1 (n, WW f hh tt N hd tl cu cn cb r S O fu (nI (T)) bs u pc cl tk er dn rh rt, us) = some (nI (T - 1), (n, WW f hh tt N hd tl cu cn cb r S O fu (nI (T)) bs u pc cl tk er dn rh rt, us)) := k_below (j := 1) D (by omega) (by decide)
  have hT1 : T - 1 < N := by omega
  have hNN : N < 2 ^ 31 := by omega
  unfold x_Mach_doFlow
  dsimp only
  rw [m_gd0 D, b1, bnd_some, m_g0 D, Option.bind_some, w_aH D hNN hT1, Option.bind_some, m_g1 D, Option.bind_some, w_aT D hNN hT1, Option.bind_some, e_Cell_isTrue, bnd_some, if_neg (show ¬ (1 : Int32) = 0 by decide), if_pos rfl]
  rw [m_p5 D, Option.bind_some]
theorem o_junless (D : DW n hh tt r) (hN : N ≤ 16384) (hN0 : 0 < N) (hT : T + 1 ≤ N) : x_Mach_doFlow (d + 4) 148 2 x2 (n, WW f hh tt N hd tl cu cn cb r S O fu (nI (T + 1)) bs u pc cl tk er dn rh rt, us) = if s_Cell_isTrue (hd T) (tl T) = 0 then some ((), (n, WW f hh tt N hd tl cu cn cb r S O fu (nI T) bs u (x2) cl tk er dn rh rt, us)) else some ((), (n, WW f hh tt N hd tl cu cn cb r S O fu (nI T) bs u pc cl tk er dn rh rt, us)) := by
  have b1 : x_Mach_below (d + 3) 148 1 (n, WW f hh tt N hd tl cu cn cb r S O fu (nI (T + 1)) bs u pc cl tk er dn rh rt, us) = some (nI (T + 1 - 1), (n, WW f hh tt N hd tl cu cn cb r S O fu (nI (T + 1)) bs u pc cl tk er dn rh rt, us)) := k_below (j := 1) D (by omega) (by decide)
  have b1' : x_Mach_below (d + 2) 148 1 (n, WW f hh tt N hd tl cu cn cb r S O fu (nI (T + 1)) bs u pc cl tk er dn rh rt, us) = some (nI (T + 1 - 1), (n, WW f hh tt N hd tl cu cn cb r S O fu (nI (T + 1)) bs u pc cl tk er dn rh rt, us)) := k_below (j := 1) D (by omega) (by decide)
  have hT1 : T + 1 - 1 < N := by omega
  have hNN : N < 2 ^ 31 := by omega
  unfold x_Mach_doFlow
  dsimp only
  rw [m_gd0 D, b1, bnd_some, m_g0 D, Option.bind_some, w_aH D hNN hT1, Option.bind_some, m_g1 D, Option.bind_some, w_aT D hNN hT1, Option.bind_some, e_Cell_isTrue, bnd_some, if_neg (show ¬ (2 : Int32) = 0 by decide), if_neg (show ¬ (2 : Int32) = 1 by decide), if_pos rfl]
  rw [Nat.add_sub_cancel, m_p2 D, Option.bind_some]
  by_cases c : s_Cell_isTrue (hd T) (tl T) = 0
  · rw [if_pos c, if_pos c, m_p5 D, Option.bind_some]
  · rw [if_neg c, if_neg c, m_g5 D, Option.bind_some, m_p5 D, Option.bind_some]
theorem o_keepIf (D : DW n hh tt r) (hN : N ≤ 16384) (hN0 : 0 < N) (hT : T + 1 ≤ N) : x_Mach_doFlow (d + 4) 148 3 x2 (n, WW f hh tt N hd tl cu cn cb r S O fu (nI (T + 1)) bs u pc cl tk er dn rh rt, us) = if s_Cell_isTrue (hd T) (tl T) = 0 then some ((), (n, WW f hh tt N hd tl cu cn cb r S O fu (nI T) bs u pc cl tk er dn rh rt, us)) else some ((), (n, WW f hh tt N hd tl cu cn cb r S O fu (nI (T + 1)) bs u (x2) cl tk er dn rh rt, us)) := by
  have b1 : x_Mach_below (d + 3) 148 1 (n, WW f hh tt N hd tl cu cn cb r S O fu (nI (T + 1)) bs u pc cl tk er dn rh rt, us) = some (nI (T + 1 - 1), (n, WW f hh tt N hd tl cu cn cb r S O fu (nI (T + 1)) bs u pc cl tk er dn rh rt, us)) := k_below (j := 1) D (by omega) (by decide)
  have b1' : x_Mach_below (d + 2) 148 1 (n, WW f hh tt N hd tl cu cn cb r S O fu (nI (T + 1)) bs u pc cl tk er dn rh rt, us) = some (nI (T + 1 - 1), (n, WW f hh tt N hd tl cu cn cb r S O fu (nI (T + 1)) bs u pc cl tk er dn rh rt, us)) := k_below (j := 1) D (by omega) (by decide)
  have hT1 : T + 1 - 1 < N := by omega
  have hNN : N < 2 ^ 31 := by omega
  unfold x_Mach_doFlow
  dsimp only
  rw [m_gd0 D, b1, bnd_some, m_g0 D, Option.bind_some, w_aH D hNN hT1, Option.bind_some, m_g1 D, Option.bind_some, w_aT D hNN hT1, Option.bind_some, e_Cell_isTrue, bnd_some, if_neg (show ¬ (3 : Int32) = 0 by decide), if_neg (show ¬ (3 : Int32) = 1 by decide), if_neg (show ¬ (3 : Int32) = 2 by decide), if_pos rfl]
  rw [Nat.add_sub_cancel]
  unfold x_Mach_keepLeft
  dsimp only
  rw [m_gd0 D]
  by_cases c : s_Cell_isTrue (hd T) (tl T) = 0
  · rw [if_pos c, if_pos c, b1', bnd_some, m_p2 D, Option.bind_some, bnd_some, Nat.add_sub_cancel]
  · rw [if_neg c, if_neg c, m_p5 D, Option.bind_some, bnd_some]
theorem o_keepUn (D : DW n hh tt r) (hN : N ≤ 16384) (hN0 : 0 < N) (hT : T + 1 ≤ N) : x_Mach_doFlow (d + 4) 148 4 x2 (n, WW f hh tt N hd tl cu cn cb r S O fu (nI (T + 1)) bs u pc cl tk er dn rh rt, us) = if s_Cell_isTrue (hd T) (tl T) = 0 then some ((), (n, WW f hh tt N hd tl cu cn cb r S O fu (nI (T + 1)) bs u (x2) cl tk er dn rh rt, us)) else some ((), (n, WW f hh tt N hd tl cu cn cb r S O fu (nI T) bs u pc cl tk er dn rh rt, us)) := by
  have b1 : x_Mach_below (d + 3) 148 1 (n, WW f hh tt N hd tl cu cn cb r S O fu (nI (T + 1)) bs u pc cl tk er dn rh rt, us) = some (nI (T + 1 - 1), (n, WW f hh tt N hd tl cu cn cb r S O fu (nI (T + 1)) bs u pc cl tk er dn rh rt, us)) := k_below (j := 1) D (by omega) (by decide)
  have b1' : x_Mach_below (d + 2) 148 1 (n, WW f hh tt N hd tl cu cn cb r S O fu (nI (T + 1)) bs u pc cl tk er dn rh rt, us) = some (nI (T + 1 - 1), (n, WW f hh tt N hd tl cu cn cb r S O fu (nI (T + 1)) bs u pc cl tk er dn rh rt, us)) := k_below (j := 1) D (by omega) (by decide)
  have hT1 : T + 1 - 1 < N := by omega
  have hNN : N < 2 ^ 31 := by omega
  unfold x_Mach_doFlow
  dsimp only
  rw [m_gd0 D, b1, bnd_some, m_g0 D, Option.bind_some, w_aH D hNN hT1, Option.bind_some, m_g1 D, Option.bind_some, w_aT D hNN hT1, Option.bind_some, e_Cell_isTrue, bnd_some, if_neg (show ¬ (4 : Int32) = 0 by decide), if_neg (show ¬ (4 : Int32) = 1 by decide), if_neg (show ¬ (4 : Int32) = 2 by decide), if_neg (show ¬ (4 : Int32) = 3 by decide), if_pos rfl]
  rw [Nat.add_sub_cancel]
  unfold x_Mach_keepLeft
  dsimp only
  rw [m_gd0 D, m_gd0 D, if_neg (show ¬ (1 : Int32) = 0 by decide), if_pos rfl]
  by_cases c : s_Cell_isTrue (hd T) (tl T) = 0
  · rw [if_pos c, if_pos c, m_p5 D, Option.bind_some, bnd_some]
  · rw [if_neg c, if_neg c, b1', bnd_some, m_p2 D, Option.bind_some, bnd_some, Nat.add_sub_cancel]
theorem o_abort (D : DW n hh tt r) (hN : N ≤ 16384) (hN0 : 0 < N) (hT : T ≤ N) : x_Mach_doFlow (d + 4) 148 7 x2 (n, WW f hh tt N hd tl cu cn cb r S O fu (nI (T)) bs u pc cl tk er dn rh rt, us) = some ((), (n, WW f hh tt N hd tl cu cn cb r S O fu (nI T) bs u pc cl tk (10) (1) rh rt, us)) := by
  have b1 : x_Mach_below (d + 3) 148 1 (n, WW f hh tt N hd tl cu cn cb r S O fu (nI (T)) bs u pc cl tk er dn rh rt, us) = some (nI (T - 1), (n, WW f hh tt N hd tl cu cn cb r S O fu (nI (T)) bs u pc cl tk er dn rh rt, us)) := k_below (j := 1) D (by omega) (by decide)
  have b1' : x_Mach_below (d + 2) 148 1 (n, WW f hh tt N hd tl cu cn cb r S O fu (nI (T)) bs u pc cl tk er dn rh rt, us) = some (nI (T - 1), (n, WW f hh tt N hd tl cu cn cb r S O fu (nI (T)) bs u pc cl tk er dn rh rt, us)) := k_below (j := 1) D (by omega) (by decide)
  have hT1 : T - 1 < N := by omega
  have hNN : N < 2 ^ 31 := by omega
  unfold x_Mach_doFlow
  dsimp only
  rw [m_gd0 D, b1, bnd_some, m_g0 D, Option.bind_some, w_aH D hNN hT1, Option.bind_some, m_g1 D, Option.bind_some, w_aT D hNN hT1, Option.bind_some, e_Cell_isTrue, bnd_some, if_neg (show ¬ (7 : Int32) = 0 by decide), if_neg (show ¬ (7 : Int32) = 1 by decide), if_neg (show ¬ (7 : Int32) = 2 by decide), if_neg (show ¬ (7 : Int32) = 3 by decide), if_neg (show ¬ (7 : Int32) = 4 by decide), if_neg (show ¬ (7 : Int32) = 5 by decide), if_neg (show ¬ (7 : Int32) = 6 by decide), if_pos rfl]
  rw [k_fail D, bnd_some]
theorem o_drop (D : DW n hh tt r) (hN : N ≤ 16384) (hN0 : 0 < N) (hT : T + 1 ≤ N) : x_Mach_doFlow (d + 4) 148 8 x2 (n, WW f hh tt N hd tl cu cn cb r S O fu (nI (T + 1)) bs u pc cl tk er dn rh rt, us) = some ((), (n, WW f hh tt N hd tl cu cn cb r S O fu (nI T) bs u pc cl tk er dn rh rt, us)) := by
  have b1 : x_Mach_below (d + 3) 148 1 (n, WW f hh tt N hd tl cu cn cb r S O fu (nI (T + 1)) bs u pc cl tk er dn rh rt, us) = some (nI (T + 1 - 1), (n, WW f hh tt N hd tl cu cn cb r S O fu (nI (T + 1)) bs u pc cl tk er dn rh rt, us)) := k_below (j := 1) D (by omega) (by decide)
  have b1' : x_Mach_below (d + 2) 148 1 (n, WW f hh tt N hd tl cu cn cb r S O fu (nI (T + 1)) bs u pc cl tk er dn rh rt, us) = some (nI (T + 1 - 1), (n, WW f hh tt N hd tl cu cn cb r S O fu (nI (T + 1)) bs u pc cl tk er dn rh rt, us)) := k_below (j := 1) D (by omega) (by decide)
  have hT1 : T + 1 - 1 < N := by omega
  have hNN : N < 2 ^ 31 := by omega
  unfold x_Mach_doFlow
  dsimp only
  rw [m_gd0 D, b1, bnd_some, m_g0 D, Option.bind_some, w_aH D hNN hT1, Option.bind_some, m_g1 D, Option.bind_some, w_aT D hNN hT1, Option.bind_some, e_Cell_isTrue, bnd_some, if_neg (show ¬ (8 : Int32) = 0 by decide), if_neg (show ¬ (8 : Int32) = 1 by decide), if_neg (show ¬ (8 : Int32) = 2 by decide), if_neg (show ¬ (8 : Int32) = 3 by decide), if_neg (show ¬ (8 : Int32) = 4 by decide), if_neg (show ¬ (8 : Int32) = 5 by decide), if_neg (show ¬ (8 : Int32) = 6 by decide), if_neg (show ¬ (8 : Int32) = 7 by decide), if_pos rfl]
  rw [Nat.add_sub_cancel, m_p2 D, Option.bind_some]
theorem o_print (D : DW n hh tt r) (hN : N ≤ 16384) (hN0 : 0 < N) (hT : T + 1 ≤ N) (hO : oW O) : x_Mach_doFlow (d + 4) 148 9 x2 (n, WW f hh tt N hd tl cu cn cb r S O fu (nI (T + 1)) bs u pc cl tk er dn rh rt, us) = some ((), (n, if (d_out O (hd T, tl T)).2.1 = 0 then WW f hh tt N hd tl cu cn cb r S (d_out O (hd T, tl T)) fu (nI T) bs u pc cl tk er dn rh rt else WW f hh tt N hd tl cu cn cb r S (d_out O (hd T, tl T)) fu (nI T) bs u pc cl tk (9) (1) rh rt, us)) := by
  have b1 : x_Mach_below (d + 3) 148 1 (n, WW f hh tt N hd tl cu cn cb r S O fu (nI (T + 1)) bs u pc cl tk er dn rh rt, us) = some (nI (T + 1 - 1), (n, WW f hh tt N hd tl cu cn cb r S O fu (nI (T + 1)) bs u pc cl tk er dn rh rt, us)) := k_below (j := 1) D (by omega) (by decide)
  have b1' : x_Mach_below (d + 2) 148 1 (n, WW f hh tt N hd tl cu cn cb r S O fu (nI (T + 1)) bs u pc cl tk er dn rh rt, us) = some (nI (T + 1 - 1), (n, WW f hh tt N hd tl cu cn cb r S O fu (nI (T + 1)) bs u pc cl tk er dn rh rt, us)) := k_below (j := 1) D (by omega) (by decide)
  have hT1 : T + 1 - 1 < N := by omega
  have hNN : N < 2 ^ 31 := by omega
  unfold x_Mach_doFlow
  dsimp only
  rw [m_gd0 D, b1, bnd_some, m_g0 D, Option.bind_some, w_aH D hNN hT1, Option.bind_some, m_g1 D, Option.bind_some, w_aT D hNN hT1, Option.bind_some, e_Cell_isTrue, bnd_some, if_neg (show ¬ (9 : Int32) = 0 by decide), if_neg (show ¬ (9 : Int32) = 1 by decide), if_neg (show ¬ (9 : Int32) = 2 by decide), if_neg (show ¬ (9 : Int32) = 3 by decide), if_neg (show ¬ (9 : Int32) = 4 by decide), if_neg (show ¬ (9 : Int32) = 5 by decide), if_neg (show ¬ (9 : Int32) = 6 by decide), if_neg (show ¬ (9 : Int32) = 7 by decide), if_neg (show ¬ (9 : Int32) = 8 by decide)]
  rw [Nat.add_sub_cancel] at hT1 ⊢
  rw [m_p2 D, Option.bind_some]
  have fin : ∀ O' : oS, oW O' → x_Mach_print_b107 (d + 2) 148 (n, WW f hh tt N hd tl cu cn cb r S (O') fu (nI T) bs u pc cl tk er dn rh rt, us) = some ((), (n, if (s_add O' 10).2.1 = 0 then WW f hh tt N hd tl cu cn cb r S (s_add O' 10) fu (nI T) bs u pc cl tk er dn rh rt else WW f hh tt N hd tl cu cn cb r S (s_add O' 10) fu (nI T) bs u pc cl tk (9) (1) rh rt, us)) := fun O' h' => by
    have w := oW_add (x := 10) h'
    unfold x_Mach_print_b107
    rw [m_g11 D, Option.bind_some, W_OutAdd D h'.1, bnd_some, m_g11 D, Option.bind_some, W_spilled D w.2, bnd_some]
    by_cases c : (s_add O' 10).2.1 = 0
    · rw [if_pos c, if_pos c]
    · rw [if_neg c, if_neg c, k_fail D, bnd_some]
  have fin2 : ∀ O' : oS, d_pre O (hd T, tl T) = O' → oW O' → (bnd (x_Mach_print_b107 (d + 2) 148 (n, WW f hh tt N hd tl cu cn cb r S (O') fu (nI T) bs u pc cl tk er dn rh rt, us)) fun v37 s36 => (some ((), s36))) = some ((), (n, if (d_out O (hd T, tl T)).2.1 = 0 then WW f hh tt N hd tl cu cn cb r S (d_out O (hd T, tl T)) fu (nI T) bs u pc cl tk er dn rh rt else WW f hh tt N hd tl cu cn cb r S (d_out O (hd T, tl T)) fu (nI T) bs u pc cl tk (9) (1) rh rt, us)) := fun O' e h' => by
    rw [fin O' h', bnd_some]
    unfold d_out
    rw [e]
  generalize hG : some ((), (n, if (d_out O (hd T, tl T)).2.1 = 0 then WW f hh tt N hd tl cu cn cb r S (d_out O (hd T, tl T)) fu (nI T) bs u pc cl tk er dn rh rt else WW f hh tt N hd tl cu cn cb r S (d_out O (hd T, tl T)) fu (nI T) bs u pc cl tk (9) (1) rh rt, us)) = G at fin2 ⊢
  clear hG
  unfold x_Mach_print
  dsimp only
  rw [m_gd0 D, k_sortAt D hNN hT1, bnd_some]
  unfold d_pre at fin2
  dsimp only at fin2
  by_cases c1 : s_Cell_sortOf (hd T) = 1
  · rw [if_pos c1] at fin2 ⊢
    rw [m_g11 D, Option.bind_some, m_g1 D, Option.bind_some, w_aT D hNN hT1, Option.bind_some, W_OutNum D hO.1, bnd_some]
    exact fin2 _ rfl (oW_num hO)
  · rw [if_neg c1] at fin2 ⊢
    by_cases c2 : s_Cell_sortOf (hd T) = 2
    · rw [if_pos c2] at fin2 ⊢
      rw [m_g11 D, Option.bind_some, m_g0 D, Option.bind_some, w_aH D hNN hT1, Option.bind_some, m_g1 D, Option.bind_some, w_aT D hNN hT1, Option.bind_some, W_OutText D hO.1, bnd_some]
      exact fin2 _ rfl (oW_at _ _ _ hO)
    · rw [if_neg c2] at fin2 ⊢
      by_cases c3 : s_Cell_sortOf (hd T) = 3
      · rw [if_pos c3] at fin2 ⊢
        rw [m_g11 D, Option.bind_some, W_OutAdd D hO.1, bnd_some]
        exact fin2 _ rfl (oW_add hO)
      · rw [if_neg c3] at fin2 ⊢
        by_cases c4 : s_Cell_sortOf (hd T) = 4
        · rw [if_pos c4] at fin2 ⊢
          rw [m_g11 D, Option.bind_some, W_OutAdd D hO.1, bnd_some]
          exact fin2 _ rfl (oW_add hO)
        · rw [if_neg c4] at fin2 ⊢
          rw [m_g11 D, Option.bind_some, W_OutAdd D hO.1, bnd_some]
          exact fin2 _ rfl (oW_add hO)
end
