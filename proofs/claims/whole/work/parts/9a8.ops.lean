/-! what an operation gives: a store, an ERROR or 0, a VALUE -/
abbrev V2 : Type := Int64 × Int64
abbrev RV : Type := SC × Int32 × V2
abbrev MKT : Type := Int32 → (Nat → Int64) → (Nat → Int64) → SC → Int32 → Int32 → HS
abbrev MK (n us : Nat) (f : Nat → am_C) (hh tt N : Nat) (cu : Nat → Value) (cn cb : Nat → Int32) (r : Nat) (O : oS) (fu bs : Int32) (u : Nat) (pc cl tk : Int32) (rh rt : Int64) : MKT := fun tp hd tl S er dn => (n, WW f hh tt N hd tl cu cn cb r S O fu tp bs u pc cl tk er dn rh rt, us)
def Op1 (mk : MKT) (T : Nat) (hd tl : Nat → Int64) (out : Option (Unit × HS)) (res : RV) : Prop := ∃ tp' hd' tl' S' er' dn', out = some ((), mk tp' hd' tl' S' er' dn') ∧ ((res.2.1 = 0 ∧ tp' = nI (T + 1) ∧ S' = res.1 ∧ er' = 0 ∧ dn' = 0 ∧ (∀ j, j < T → hd' j = hd j ∧ tl' j = tl j) ∧ hd' T = res.2.2.1 ∧ tl' T = res.2.2.2) ∨ (¬ res.2.1 = 0 ∧ er' = res.2.1 ∧ dn' = 1))
def Op0 (mk : MKT) (T : Nat) (hd tl : Nat → Int64) (out : Option (Unit × HS)) (res : SC × Int32) : Prop := ∃ tp' hd' tl' S' er' dn', out = some ((), mk tp' hd' tl' S' er' dn') ∧ ((res.2 = 0 ∧ tp' = nI T ∧ S' = res.1 ∧ er' = 0 ∧ dn' = 0 ∧ (∀ j, j < T → hd' j = hd j ∧ tl' j = tl j)) ∨ (¬ res.2 = 0 ∧ er' = res.2 ∧ dn' = 1))
section
variable {mk : MKT} {T : Nat} {hd tl : Nat → Int64} {S S' : SC} {h t : Int64} {v : V2}
theorem Op1.ok : Op1 mk T hd tl (some ((), mk (nI (T + 1)) (upL hd T h) (upL tl T t) S 0 0)) (S, 0, h, t) := ⟨_, _, _, _, _, _, rfl, Or.inl ⟨rfl, rfl, rfl, rfl, rfl, fun j hj => ⟨if_neg (by omega), if_neg (by omega)⟩, if_pos rfl, if_pos rfl⟩⟩
theorem Op1.old : Op1 mk T hd tl (some ((), mk (nI (T + 1)) hd tl S 0 0)) (S, 0, hd T, tl T) := ⟨_, _, _, _, _, _, rfl, Or.inl ⟨rfl, rfl, rfl, rfl, rfl, fun j hj => ⟨rfl, rfl⟩, rfl, rfl⟩⟩
theorem Op1.er {tp e : Int32} {hd' tl' : Nat → Int64} (he : ¬ e = 0) : Op1 mk T hd tl (some ((), mk tp hd' tl' S e 1)) (S', e, v) := ⟨_, _, _, _, _, _, rfl, Or.inr ⟨he, rfl, rfl⟩⟩
theorem Op0.ok : Op0 mk T hd tl (some ((), mk (nI T) hd tl S 0 0)) (S, 0) := ⟨_, _, _, _, _, _, rfl, Or.inl ⟨rfl, rfl, rfl, rfl, rfl, fun j hj => ⟨rfl, rfl⟩⟩⟩
theorem Op0.er {tp e : Int32} {hd' tl' : Nat → Int64} (he : ¬ e = 0) : Op0 mk T hd tl (some ((), mk tp hd' tl' S e 1)) (S', e) := ⟨_, _, _, _, _, _, rfl, Or.inr ⟨he, rfl, rfl⟩⟩
end
def d_size (S : SC) (v : V2) : RV := if s_Cell_sortOf v.1 = 2 then (S, 0, s_Cell_headOf 1, (s_Cell_signsOf v.1 v.2).toInt64) else if s_Cell_sortOf v.1 = 3 then (S, 0, s_Cell_headOf 1, (nI (cOf S v.2.toInt32) / 2).toInt64) else if s_Cell_sortOf v.1 = 4 then (S, 0, s_Cell_headOf 1, (nI (cOf S v.2.toInt32)).toInt64) else (S, 2, 0, 0)
def d_pop (S : SC) (v : V2) : RV := if s_Cell_sortOf v.1 = 4 then (if cOf S v.2.toInt32 = 0 then (S, 3, 0, 0) else (c_dl S v.2.toInt32, 0, S.1 (fO v.2.toInt32 + cOf S v.2.toInt32 - 1), S.2.1 (fO v.2.toInt32 + cOf S v.2.toInt32 - 1))) else (S, 2, 0, 0)
def d_minus (S : SC) (v : V2) : RV := if s_Cell_sortOf v.1 = 1 then (S, 0, s_Cell_headOf 1, (-v.2.toInt32).toInt64) else (S, 2, 0, 0)
def d_not (S : SC) (v : V2) : RV := (S, 0, s_Cell_headOf 1, if s_Cell_isTrue v.1 v.2 = 0 then 1 else 0)
def d_field (S : SC) (y : Int64) (v : V2) : RV := if s_Cell_sortOf v.1 = 3 then (if c_fc S v.2.toInt32 y < 0 then (S, 0, 0, 0) else (S, 0, S.1 (c_fc S v.2.toInt32 y).toNatClampNeg, S.2.1 (c_fc S v.2.toInt32 y).toNatClampNeg)) else (S, 2, 0, 0)
def d_item (S : SC) (a i : V2) : RV := if s_Cell_sortOf a.1 = 4 then (if c_in i (nI (cOf S a.2.toInt32)) = 0 then (S, 0, S.1 (fO a.2.toInt32 + i.2.toInt32.toNatClampNeg), S.2.1 (fO a.2.toInt32 + i.2.toInt32.toNatClampNeg)) else (S, c_in i (nI (cOf S a.2.toInt32)), 0, 0)) else if s_Cell_sortOf a.1 = 2 then (if c_in i (s_Cell_signsOf a.1 a.2) = 0 then (S, 0, s_Cell_headOf 2 ||| s_Cell_placed (s_Cell_signAt a.1 a.2 i.2.toInt32) 0, 0) else (S, c_in i (s_Cell_signsOf a.1 a.2), 0, 0)) else (S, 2, 0, 0)
def d_push (S : SC) (a b : V2) : RV := if s_Cell_sortOf a.1 = 4 then ((c_app S a.2.toInt32 b.1 b.2).2, if (c_app S a.2.toInt32 b.1 b.2).1 = true then 0 else 4, a) else (S, 2, 0, 0)
def d_same (S : SC) (w : Bool) (a b : V2) : RV := (S, 0, s_Cell_headOf 1, if (decide (a.1 = b.1 ∧ a.2 = b.2)) = w then 1 else 0)
def d_cmp (S : SC) (w : Bool) (a b : V2) : RV := if s_Cell_sortOf a.1 = s_Cell_sortOf b.1 ∧ (s_Cell_sortOf a.1 = 1 ∨ s_Cell_sortOf a.1 = 2) then (S, 0, s_Cell_headOf 1, if (w = true ∧ a.1 = b.1 ∧ a.2 = b.2) ∨ a.1 < b.1 ∨ (a.1 = b.1 ∧ a.2 < b.2) then 1 else 0) else (S, 2, 0, 0)
def s_found (op x y : Int32) : Int32 := if op = 32 then x + y else if op = 33 then x - y else if op = 34 then x * y else if op = 35 then (if y = 0 then 0 else x / y) else (if y = 0 then 0 else x - x / y * y)
def s_jn (b : V2) (k : Nat) : Nat → Nat → V2 → V2
  | 0, _, a => a
  | m + 1, i, a => s_jn b k m (i + 1) (if 8 ≤ nI k + nI i then (a.1, a.2 ||| s_Cell_placed (s_Cell_signAt b.1 b.2 (nI i)) (nI k + nI i)) else (a.1 ||| s_Cell_placed (s_Cell_signAt b.1 b.2 (nI i)) (nI k + nI i), a.2))
def d_join (S : SC) (a b : V2) : RV := if s_signs a.1 a.2 + s_signs b.1 b.2 ≤ 16 then (S, 0, s_jn b (s_signs a.1 a.2) (s_signs b.1 b.2) 0 a) else (S, 4, 0, 0)
def d_reck (S : SC) (op : Int32) (a b : V2) : RV := if op = 32 ∧ s_Cell_sortOf a.1 = 2 ∧ s_Cell_sortOf b.1 = 2 then d_join S a b else if s_Cell_sortOf a.1 = 1 ∧ s_Cell_sortOf b.1 = 1 then (if (op = 35 ∨ op = 36) ∧ b.2 = 0 then (S, 5, 0, 0) else (S, 0, a.1, (s_found op a.2.toInt32 b.2.toInt32).toInt64)) else (S, 2, 0, 0)
section
variable {n us d hh tt N r u : Nat} {f : Nat → am_C} {hd tl : Nat → Int64} {cu : Nat → Value} {cn cb : Nat → Int32} {S : SC} {O : oS} {fu tp bs pc cl tk er dn : Int32} {rh rt : Int64}
variable {T j : Nat}
theorem k_b1 (D : DW n hh tt r) (hT : T < 2 ^ 29) : x_Mach_below (d + 1) 148 1 (n, WW f hh tt N hd tl cu cn cb r S O fu (nI (T + 1)) bs u pc cl tk er dn rh rt, us) = some (nI T, (n, WW f hh tt N hd tl cu cn cb r S O fu (nI (T + 1)) bs u pc cl tk er dn rh rt, us)) := k_below (j := 1) D (by omega) (by decide)
theorem k_b2 (D : DW n hh tt r) (hT : T < 2 ^ 29) : x_Mach_below (d + 1) 148 2 (n, WW f hh tt N hd tl cu cn cb r S O fu (nI (T + 2)) bs u pc cl tk er dn rh rt, us) = some (nI T, (n, WW f hh tt N hd tl cu cn cb r S O fu (nI (T + 2)) bs u pc cl tk er dn rh rt, us)) := k_below (j := 2) D (by omega) (by decide)
theorem k_b3 (D : DW n hh tt r) (hT : T < 2 ^ 29) : x_Mach_below (d + 1) 148 3 (n, WW f hh tt N hd tl cu cn cb r S O fu (nI (T + 3)) bs u pc cl tk er dn rh rt, us) = some (nI T, (n, WW f hh tt N hd tl cu cn cb r S O fu (nI (T + 3)) bs u pc cl tk er dn rh rt, us)) := k_below (j := 3) D (by omega) (by decide)
theorem o_size (D : DW n hh tt r) (hN : N ≤ 16384) (I : SI S) (hT : T < N) : Op1 (MK n us f hh tt N cu cn cb r O fu bs u pc cl tk rh rt) T hd tl (x_Mach_size (d + 4) 148 (n, WW f hh tt N hd tl cu cn cb r S O fu (nI (T + 1)) bs u pc cl tk (0) (0) rh rt, us)) (d_size S (hd T, tl T)) := by
  unfold x_Mach_size d_size
  dsimp only
  rw [m_gd0 D, k_b1 D (by omega), bnd_some, m_p2 D, Option.bind_some, k_sortAt D (by omega) hT, bnd_some]
  by_cases c2 : s_Cell_sortOf (hd T) = 2
  · rw [if_pos c2, if_pos c2, m_g0 D, Option.bind_some, w_aH D (by omega) hT, Option.bind_some, m_g1 D, Option.bind_some, w_aT D (by omega) hT, Option.bind_some, e_Cell_signsOf, bnd_some, k_layNumber D (by omega) hT, bnd_some]
    exact Op1.ok
  · rw [if_neg c2, if_neg c2]
    by_cases c3 : s_Cell_sortOf (hd T) = 3
    · rw [if_pos c3, if_pos c3, m_g10 D, Option.bind_some, k_objectAt D (by omega) hT, bnd_some, W_cellsOf D I, bnd_some, k_layNumber D (by omega) hT, bnd_some]
      exact Op1.ok
    · rw [if_neg c3, if_neg c3]
      by_cases c4 : s_Cell_sortOf (hd T) = 4
      · rw [if_pos c4, if_pos c4, m_g10 D, Option.bind_some, k_objectAt D (by omega) hT, bnd_some, W_cellsOf D I, bnd_some, k_layNumber D (by omega) hT, bnd_some]
        exact Op1.ok
      · rw [if_neg c4, if_neg c4, k_fail D, bnd_some]
        exact Op1.er (by decide)
theorem o_pop (D : DW n hh tt r) (hN : N ≤ 16384) (I : SI S) (hT : T < N) : Op1 (MK n us f hh tt N cu cn cb r O fu bs u pc cl tk rh rt) T hd tl (x_Mach_pop (d + 4) 148 (n, WW f hh tt N hd tl cu cn cb r S O fu (nI (T + 1)) bs u pc cl tk (0) (0) rh rt, us)) (d_pop S (hd T, tl T)) := by
  unfold x_Mach_pop d_pop
  dsimp only
  rw [m_gd0 D, k_b1 D (by omega), bnd_some, k_sortAt D (by omega) hT, bnd_some]
  by_cases c4 : s_Cell_sortOf (hd T) = 4
  · have l := cOf_le (x := (tl T).toInt32) I
    rw [if_pos c4, if_pos c4, k_objectAt D (by omega) hT, bnd_some, m_g10 D, Option.bind_some, W_cellsOf D I, bnd_some]
    by_cases c0 : cOf S (tl T).toInt32 = 0
    · rw [if_pos (show nI (cOf S (tl T).toInt32) = 0 by rw [c0]; rfl), if_pos c0, k_fail D, bnd_some]
      exact Op1.er (by decide)
    · rw [if_neg (nI_ne0 (by omega) (by omega)), if_neg c0, m_g10 D, Option.bind_some, W_firstCell D, bnd_some, m_p2 D, Option.bind_some, m_g10 D, Option.bind_some, W_g1 D, Option.bind_some, nI_add, show nI (fO (tl T).toInt32 + cOf S (tl T).toInt32) - 1 = nI (fO (tl T).toInt32 + cOf S (tl T).toInt32 - 1) from nI_sub (b := 1) (by omega), W_a1 D (by omega), Option.bind_some, Option.bind_some, W_g2 D, Option.bind_some, W_a2 D (by omega), Option.bind_some, k_lay D (by omega) hT, bnd_some, m_g10 D, Option.bind_some, W_dropLast D I, bnd_some]
      exact Op1.ok
  · rw [if_neg c4, if_neg c4, k_fail D, bnd_some]
    exact Op1.er (by decide)
theorem o_field (D : DW n hh tt r) (hN : N ≤ 16384) (I : SI S) (hT : T < N) {y : Int64} : Op1 (MK n us f hh tt N cu cn cb r O fu bs u pc cl tk rh rt) T hd tl (x_Mach_loadField (d + 4) 148 y (n, WW f hh tt N hd tl cu cn cb r S O fu (nI (T + 1)) bs u pc cl tk (0) (0) rh rt, us)) (d_field S y (hd T, tl T)) := by
  unfold x_Mach_loadField d_field
  dsimp only
  rw [m_gd0 D, k_b1 D (by omega), bnd_some, k_sortAt D (by omega) hT, bnd_some]
  by_cases c3 : s_Cell_sortOf (hd T) = 3
  · have l := cOf_le (x := (tl T).toInt32) I
    rw [if_pos c3, if_pos c3, m_g10 D, Option.bind_some, k_objectAt D (by omega) hT, bnd_some, W_fieldCell D I, bnd_some, m_p2 D, Option.bind_some]
    rcases s_fc_neg (g := S.1) (y := y) (cOf S (tl T).toInt32 / 2) (fO (tl T).toInt32) (by omega) with ⟨w1, w2⟩ | ⟨j, w1, w2, w3⟩
    · have e : c_fc S (tl T).toInt32 y = -1 := w2
      rw [e, if_neg (show ¬ (0 : Int32) ≤ -1 by decide), if_pos (show (-1 : Int32) < 0 by decide), k_lay D (by omega) hT, bnd_some]
      exact Op1.ok
    · have e : c_fc S (tl T).toInt32 y = nI (fO (tl T).toInt32 + 2 * j + 1) := w2
      rw [e, if_pos (nI_pos' (by omega)), if_neg (nI_pos (by omega)), nI_clamp (by omega), m_g10 D, Option.bind_some, W_g1 D, Option.bind_some, W_a1 D (by omega), Option.bind_some, Option.bind_some, W_g2 D, Option.bind_some, W_a2 D (by omega), Option.bind_some, k_lay D (by omega) hT, bnd_some]
      exact Op1.ok
  · rw [if_neg c3, if_neg c3, k_fail D, bnd_some]
    exact Op1.er (by decide)
theorem c_in_lt {v : V2} {m : Nat} (hm : m < 2 ^ 31) (h : c_in v (nI m) = 0) : ∃ k, k < m ∧ v.2.toInt32 = nI k := by
  unfold c_in at h
  split at h
  · split at h
    · exact absurd h (by decide)
    · next h2 =>
      split at h
      · next h3 =>
        have g3 := Int64.lt_iff_toInt_lt.mp (lc_lt.mp h3)
        have g2 : ¬ v.2.toInt < (0 : Int64).toInt := fun w => h2 (lc_lt.mpr (Int64.lt_iff_toInt_lt.mpr w))
        rw [Int32.toInt_toInt64, nI_toInt hm] at g3
        have z : (0 : Int64).toInt = 0 := rfl
        refine ⟨v.2.toInt.toNat, by omega, Int32.toInt_inj.mp ?_⟩
        rw [nI_toInt (by omega), Int64.toInt_toInt32, Int.bmod_eq_of_le (by omega) (by omega)]
        omega
      · exact absurd h (by decide)
  · exact absurd h (by decide)
theorem o_item (D : DW n hh tt r) (hN : N ≤ 16384) (I : SI S) (hT : T + 1 < N) : Op1 (MK n us f hh tt N cu cn cb r O fu bs u pc cl tk rh rt) T hd tl (x_Mach_loadItem (d + 4) 148 (n, WW f hh tt N hd tl cu cn cb r S O fu (nI (T + 2)) bs u pc cl tk (0) (0) rh rt, us)) (d_item S (hd T, tl T) (hd (T + 1), tl (T + 1))) := by
  unfold x_Mach_loadItem d_item
  dsimp only
  rw [m_gd0 D, k_b2 D (by omega), bnd_some, k_b1 (T := T + 1) D (by omega), bnd_some, m_p2 D, Option.bind_some, k_sortAt D (by omega) (show T < N by omega), bnd_some]
  by_cases c4 : s_Cell_sortOf (hd T) = 4
  · have l := cOf_le (x := (tl T).toInt32) I
    rw [if_pos c4, if_pos c4, m_g10 D, Option.bind_some, k_objectAt D (by omega) (show T < N by omega), bnd_some, W_cellsOf D I, bnd_some, k_isWithin D (by omega) hT, bnd_some]
    by_cases c : c_in (hd (T + 1), tl (T + 1)) (nI (cOf S (tl T).toInt32)) = 0
    · obtain ⟨k, k1, k2⟩ := c_in_lt (by omega) c
      dsimp only at k2
      rw [if_pos c, if_neg (show ¬ (1 : Int32) = 0 by decide), if_pos c, if_pos c, m_g10 D, Option.bind_some, k_objectAt D (by omega) (show T < N by omega), bnd_some, W_firstCell D, bnd_some, m_g1 D, Option.bind_some, w_aT D (by omega) hT, Option.bind_some, k2, nI_add, m_g10 D, Option.bind_some, W_g1 D, Option.bind_some, W_a1 D (by omega), Option.bind_some, Option.bind_some, W_g2 D, Option.bind_some, W_a2 D (by omega), Option.bind_some, k_lay D (by omega) (show T < N by omega), bnd_some, nI_clamp (show k < 2 ^ 31 by omega)]
      exact Op1.ok
    · rw [if_neg c, if_pos rfl, if_neg c, if_neg c]
      exact Op1.er c
  · rw [if_neg c4, if_neg c4, k_sortAt D (by omega) (show T < N by omega), bnd_some]
    by_cases c2 : s_Cell_sortOf (hd T) = 2
    · have l := s_signs_eq (x0 := hd T) (x1 := tl T)
      rw [if_pos c2, if_pos c2, m_g0 D, Option.bind_some, w_aH D (by omega) (show T < N by omega), Option.bind_some, m_g1 D, Option.bind_some, w_aT D (by omega) (show T < N by omega), Option.bind_some, e_Cell_signsOf, bnd_some, k_isWithin D (by omega) hT, bnd_some]
      by_cases c : c_in (hd (T + 1), tl (T + 1)) (s_Cell_signsOf (hd T) (tl T)) = 0
      · rw [if_pos c, if_neg (show ¬ (1 : Int32) = 0 by decide), if_pos c, if_pos c, m_g0 D, Option.bind_some, w_aH D (by omega) (show T < N by omega), Option.bind_some, m_g1 D, Option.bind_some, w_aT D (by omega) (show T < N by omega), Option.bind_some, Option.bind_some, w_aT D (by omega) hT, Option.bind_some, e_Cell_signAt, bnd_some, e_Cell_headOf, bnd_some, e_Cell_placed, bnd_some, k_lay D (by omega) (show T < N by omega), bnd_some]
        exact Op1.ok
      · rw [if_neg c, if_pos rfl, if_neg c, if_neg c]
        exact Op1.er c
    · rw [if_neg c2, if_neg c2, k_fail D, bnd_some]
      exact Op1.er (by decide)
theorem o_push (D : DW n hh tt r) (hN : N ≤ 16384) (I : SI S) (hT : T + 1 < N) : Op1 (MK n us f hh tt N cu cn cb r O fu bs u pc cl tk rh rt) T hd tl (x_Mach_push (d + 4) 148 (n, WW f hh tt N hd tl cu cn cb r S O fu (nI (T + 2)) bs u pc cl tk (0) (0) rh rt, us)) (d_push S (hd T, tl T) (hd (T + 1), tl (T + 1))) := by
  unfold x_Mach_push d_push
  dsimp only
  rw [m_gd0 D, k_b2 D (by omega), bnd_some, k_b1 (T := T + 1) D (by omega), bnd_some, m_p2 D, Option.bind_some, k_sortAt D (by omega) (show T < N by omega), bnd_some]
  by_cases c4 : s_Cell_sortOf (hd T) = 4
  · rw [if_pos c4, if_pos c4, m_g10 D, Option.bind_some, k_objectAt D (by omega) (show T < N by omega), bnd_some, m_g0 D, Option.bind_some, w_aH D (by omega) hT, Option.bind_some, m_g1 D, Option.bind_some, w_aT D (by omega) hT, Option.bind_some, W_append D I, bnd_some]
    by_cases c : (c_app S (tl T).toInt32 (hd (T + 1)) (tl (T + 1))).1 = true
    · rw [if_pos c, if_neg (show ¬ (1 : Int32) = 0 by decide), if_pos c]
      exact Op1.old
    · rw [if_neg c, if_pos rfl, if_neg c, k_fail D, bnd_some]
      exact Op1.er (by decide)
  · rw [if_neg c4, if_neg c4, k_fail D, bnd_some]
    exact Op1.er (by decide)
end
