section
variable {n us d hh tt N r u : Nat} {f : Nat → am_C} {hd tl : Nat → Int64} {cu : Nat → Value} {cn cb : Nat → Int32} {S : SC} {O : oS} {fu tp bs pc cl tk er dn : Int32} {rh rt : Int64}
theorem m_gd0 {β : Type} {b : Option β} (D : DW n hh tt r) : gd (n, WW f hh tt N hd tl cu cn cb r S O fu tp bs u pc cl tk er dn rh rt, us) 148 6 b = b := w_gd D
theorem m_g0 (D : DW n hh tt r) : gR (n, WW f hh tt N hd tl cu cn cb r S O fu tp bs u pc cl tk er dn rh rt, us) 148 6 0 = some hh := by
  unfold gR
  rw [w_gV D]
  rfl
theorem m_g1 (D : DW n hh tt r) : gR (n, WW f hh tt N hd tl cu cn cb r S O fu tp bs u pc cl tk er dn rh rt, us) 148 6 1 = some tt := by
  unfold gR
  rw [w_gV D]
  rfl
theorem m_g2 (D : DW n hh tt r) : gI (n, WW f hh tt N hd tl cu cn cb r S O fu tp bs u pc cl tk er dn rh rt, us) 148 6 2 = some tp := by
  unfold gI
  rw [w_gV D]
  rfl
theorem m_p2 (D : DW n hh tt r) {x : Int32} : pV (n, WW f hh tt N hd tl cu cn cb r S O fu tp bs u pc cl tk er dn rh rt, us) 148 6 2 (.int x) = some (n, WW f hh tt N hd tl cu cn cb r S O fu (x) bs u pc cl tk er dn rh rt, us) := by
  rw [w_pV D (Nat.le_of_ble_eq_true rfl)]
  rfl
theorem m_g3 (D : DW n hh tt r) : gI (n, WW f hh tt N hd tl cu cn cb r S O fu tp bs u pc cl tk er dn rh rt, us) 148 6 3 = some bs := by
  unfold gI
  rw [w_gV D]
  rfl
theorem m_p3 (D : DW n hh tt r) {x : Int32} : pV (n, WW f hh tt N hd tl cu cn cb r S O fu tp bs u pc cl tk er dn rh rt, us) 148 6 3 (.int x) = some (n, WW f hh tt N hd tl cu cn cb r S O fu tp (x) u pc cl tk er dn rh rt, us) := by
  rw [w_pV D (Nat.le_of_ble_eq_true rfl)]
  rfl
theorem m_g4 (D : DW n hh tt r) : gR (n, WW f hh tt N hd tl cu cn cb r S O fu tp bs u pc cl tk er dn rh rt, us) 148 6 4 = some u := by
  unfold gR
  rw [w_gV D]
  rfl
theorem m_p4 (D : DW n hh tt r) {x : Nat} : pV (n, WW f hh tt N hd tl cu cn cb r S O fu tp bs u pc cl tk er dn rh rt, us) 148 6 4 (.ref x) = some (n, WW f hh tt N hd tl cu cn cb r S O fu tp bs (x) pc cl tk er dn rh rt, us) := by
  rw [w_pV D (Nat.le_of_ble_eq_true rfl)]
  rfl
theorem m_g5 (D : DW n hh tt r) : gI (n, WW f hh tt N hd tl cu cn cb r S O fu tp bs u pc cl tk er dn rh rt, us) 148 6 5 = some pc := by
  unfold gI
  rw [w_gV D]
  rfl
theorem m_p5 (D : DW n hh tt r) {x : Int32} : pV (n, WW f hh tt N hd tl cu cn cb r S O fu tp bs u pc cl tk er dn rh rt, us) 148 6 5 (.int x) = some (n, WW f hh tt N hd tl cu cn cb r S O fu tp bs u (x) cl tk er dn rh rt, us) := by
  rw [w_pV D (Nat.le_of_ble_eq_true rfl)]
  rfl
theorem m_g6 (D : DW n hh tt r) : gR (n, WW f hh tt N hd tl cu cn cb r S O fu tp bs u pc cl tk er dn rh rt, us) 148 6 6 = some 151 := by
  unfold gR
  rw [w_gV D]
  rfl
theorem m_g7 (D : DW n hh tt r) : gR (n, WW f hh tt N hd tl cu cn cb r S O fu tp bs u pc cl tk er dn rh rt, us) 148 6 7 = some 152 := by
  unfold gR
  rw [w_gV D]
  rfl
theorem m_g8 (D : DW n hh tt r) : gR (n, WW f hh tt N hd tl cu cn cb r S O fu tp bs u pc cl tk er dn rh rt, us) 148 6 8 = some 153 := by
  unfold gR
  rw [w_gV D]
  rfl
theorem m_g9 (D : DW n hh tt r) : gI (n, WW f hh tt N hd tl cu cn cb r S O fu tp bs u pc cl tk er dn rh rt, us) 148 6 9 = some cl := by
  unfold gI
  rw [w_gV D]
  rfl
theorem m_p9 (D : DW n hh tt r) {x : Int32} : pV (n, WW f hh tt N hd tl cu cn cb r S O fu tp bs u pc cl tk er dn rh rt, us) 148 6 9 (.int x) = some (n, WW f hh tt N hd tl cu cn cb r S O fu tp bs u pc (x) tk er dn rh rt, us) := by
  rw [w_pV D (Nat.le_of_ble_eq_true rfl)]
  rfl
theorem m_g10 (D : DW n hh tt r) : gR (n, WW f hh tt N hd tl cu cn cb r S O fu tp bs u pc cl tk er dn rh rt, us) 148 6 10 = some r := by
  unfold gR
  rw [w_gV D]
  rfl
theorem m_g11 (D : DW n hh tt r) : gR (n, WW f hh tt N hd tl cu cn cb r S O fu tp bs u pc cl tk er dn rh rt, us) 148 6 11 = some 130 := by
  unfold gR
  rw [w_gV D]
  rfl
theorem m_g12 (D : DW n hh tt r) : gI (n, WW f hh tt N hd tl cu cn cb r S O fu tp bs u pc cl tk er dn rh rt, us) 148 6 12 = some fu := by
  unfold gI
  rw [w_gV D]
  rfl
theorem m_p12 (D : DW n hh tt r) {x : Int32} : pV (n, WW f hh tt N hd tl cu cn cb r S O fu tp bs u pc cl tk er dn rh rt, us) 148 6 12 (.int x) = some (n, WW f hh tt N hd tl cu cn cb r S O (x) tp bs u pc cl tk er dn rh rt, us) := by
  rw [w_pV D (Nat.le_of_ble_eq_true rfl)]
  rfl
theorem m_g13 (D : DW n hh tt r) : gI (n, WW f hh tt N hd tl cu cn cb r S O fu tp bs u pc cl tk er dn rh rt, us) 148 6 13 = some tk := by
  unfold gI
  rw [w_gV D]
  rfl
theorem m_p13 (D : DW n hh tt r) {x : Int32} : pV (n, WW f hh tt N hd tl cu cn cb r S O fu tp bs u pc cl tk er dn rh rt, us) 148 6 13 (.int x) = some (n, WW f hh tt N hd tl cu cn cb r S O fu tp bs u pc cl (x) er dn rh rt, us) := by
  rw [w_pV D (Nat.le_of_ble_eq_true rfl)]
  rfl
theorem m_g14 (D : DW n hh tt r) : gI (n, WW f hh tt N hd tl cu cn cb r S O fu tp bs u pc cl tk er dn rh rt, us) 148 6 14 = some er := by
  unfold gI
  rw [w_gV D]
  rfl
theorem m_p14 (D : DW n hh tt r) {x : Int32} : pV (n, WW f hh tt N hd tl cu cn cb r S O fu tp bs u pc cl tk er dn rh rt, us) 148 6 14 (.int x) = some (n, WW f hh tt N hd tl cu cn cb r S O fu tp bs u pc cl tk (x) dn rh rt, us) := by
  rw [w_pV D (Nat.le_of_ble_eq_true rfl)]
  rfl
theorem m_g15 (D : DW n hh tt r) : gI (n, WW f hh tt N hd tl cu cn cb r S O fu tp bs u pc cl tk er dn rh rt, us) 148 6 15 = some dn := by
  unfold gI
  rw [w_gV D]
  rfl
theorem m_p15 (D : DW n hh tt r) {x : Int32} : pV (n, WW f hh tt N hd tl cu cn cb r S O fu tp bs u pc cl tk er dn rh rt, us) 148 6 15 (.int x) = some (n, WW f hh tt N hd tl cu cn cb r S O fu tp bs u pc cl tk er (x) rh rt, us) := by
  rw [w_pV D (Nat.le_of_ble_eq_true rfl)]
  rfl
theorem m_g16 (D : DW n hh tt r) : gL (n, WW f hh tt N hd tl cu cn cb r S O fu tp bs u pc cl tk er dn rh rt, us) 148 6 16 = some rh := by
  unfold gL
  rw [w_gV D]
  rfl
theorem m_p16 (D : DW n hh tt r) {x : Int64} : pV (n, WW f hh tt N hd tl cu cn cb r S O fu tp bs u pc cl tk er dn rh rt, us) 148 6 16 (.long x) = some (n, WW f hh tt N hd tl cu cn cb r S O fu tp bs u pc cl tk er dn (x) rt, us) := by
  rw [w_pV D (Nat.le_of_ble_eq_true rfl)]
  rfl
theorem m_g17 (D : DW n hh tt r) : gL (n, WW f hh tt N hd tl cu cn cb r S O fu tp bs u pc cl tk er dn rh rt, us) 148 6 17 = some rt := by
  unfold gL
  rw [w_gV D]
  rfl
theorem m_p17 (D : DW n hh tt r) {x : Int64} : pV (n, WW f hh tt N hd tl cu cn cb r S O fu tp bs u pc cl tk er dn rh rt, us) 148 6 17 (.long x) = some (n, WW f hh tt N hd tl cu cn cb r S O fu tp bs u pc cl tk er dn rh (x), us) := by
  rw [w_pV D (Nat.le_of_ble_eq_true rfl)]
  rfl
end

theorem nI_max {a b : Nat} (ha : a < 2 ^ 30) (hb : b < 2 ^ 30) : (if 0 < nI a - nI b then nI a - nI b else 0) = nI (a - b) := by
  rcases Nat.lt_or_ge b a with h | h
  · rw [nI_sub (by omega), if_pos (show 0 < nI (a - b) from nI_lt (a := 0) (by omega) (by omega))]
  · have e : a - b = 0 := by omega
    rw [e, if_neg, nI_0]
    intro w
    have w2 := Int32.lt_iff_toInt_lt.mp w
    rw [Int32.toInt_sub, nI_toInt (by omega), nI_toInt (by omega)] at w2
    rw [Int.bmod_eq_of_le (by omega) (by omega)] at w2
    have : (0 : Int32).toInt = 0 := rfl
    omega
section
variable {n us d hh tt N r u : Nat} {f : Nat → am_C} {hd tl : Nat → Int64} {cu : Nat → Value} {cn cb : Nat → Int32} {S : SC} {O : oS} {fu tp bs pc cl tk er dn : Int32} {rh rt : Int64}
variable {T j : Nat}
theorem k_below (D : DW n hh tt r) (hT : T < 2 ^ 30) (hj : j < 2 ^ 30) : x_Mach_below (d + 1) 148 (nI j) (n, WW f hh tt N hd tl cu cn cb r S O fu (nI T) bs u pc cl tk er dn rh rt, us) = some (nI (T - j), (n, WW f hh tt N hd tl cu cn cb r S O fu (nI T) bs u pc cl tk er dn rh rt, us)) := by
  unfold x_Mach_below
  dsimp only
  rw [m_gd0 D, m_g2 D, Option.bind_some, nI_max hT hj]
theorem k_fail (D : DW n hh tt r) {e : Int32} : x_Mach_fail d 148 e (n, WW f hh tt N hd tl cu cn cb r S O fu tp bs u pc cl tk er dn rh rt, us) = some ((), (n, WW f hh tt N hd tl cu cn cb r S O fu tp bs u pc cl tk (e) (1) rh rt, us)) := by
  unfold x_Mach_fail
  rw [m_gd0 D, m_p14 D, Option.bind_some, m_p15 D, Option.bind_some]
theorem k_burnY (D : DW n hh tt r) (h : tk < fu) : x_Mach_burn (d + 1) 148 (n, WW f hh tt N hd tl cu cn cb r S O fu tp bs u pc cl tk er dn rh rt, us) = some (1, (n, WW f hh tt N hd tl cu cn cb r S O fu tp bs u pc cl (tk + 1) er dn rh rt, us)) := by
  unfold x_Mach_burn
  dsimp only
  rw [m_gd0 D, m_g13 D, Option.bind_some, m_g12 D, Option.bind_some, if_pos h, Option.bind_some, m_p13 D, Option.bind_some]
theorem k_burnN (D : DW n hh tt r) (h : ¬ tk < fu) : x_Mach_burn (d + 1) 148 (n, WW f hh tt N hd tl cu cn cb r S O fu tp bs u pc cl tk er dn rh rt, us) = some (0, (n, WW f hh tt N hd tl cu cn cb r S O fu tp bs u pc cl tk (1) (1) rh rt, us)) := by
  unfold x_Mach_burn
  dsimp only
  rw [m_gd0 D, m_g13 D, Option.bind_some, m_g12 D, Option.bind_some, if_neg h, k_fail D, bnd_some]
theorem k_lay63 (D : DW n hh tt r) (hN : N < 2 ^ 31) (hT : T < N) {h t : Int64} : x_Mach_lay_b63 d 148 h t (n, WW f hh tt N hd tl cu cn cb r S O fu (nI T) bs u pc cl tk er dn rh rt, us) = some ((), (n, WW f hh tt N (upL hd T h) (upL tl T t) cu cn cb r S O fu (nI (T + 1)) bs u pc cl tk er dn rh rt, us)) := by
  unfold x_Mach_lay_b63
  rw [m_g0 D, Option.bind_some, m_g2 D, Option.bind_some, w_sH D hN hT, Option.bind_some, m_g1 D, Option.bind_some, m_g2 D, Option.bind_some, w_sT D hN hT, Option.bind_some, m_g2 D, Option.bind_some, ← nI_succ, m_p2 D, Option.bind_some]
/-- room is there -/
theorem k_lay (D : DW n hh tt r) (hN : N < 2 ^ 31) (hT : T < N) {h t : Int64} : x_Mach_lay (d + 1) 148 h t (n, WW f hh tt N hd tl cu cn cb r S O fu (nI T) bs u pc cl tk er dn rh rt, us) = some ((), (n, WW f hh tt N (upL hd T h) (upL tl T t) cu cn cb r S O fu (nI (T + 1)) bs u pc cl tk er dn rh rt, us)) := by
  unfold x_Mach_lay
  dsimp only
  rw [m_gd0 D, m_g2 D, Option.bind_some, m_g0 D, Option.bind_some, w_lH D, Option.bind_some, if_neg (fun w => by have := nI_inj (by omega) (by omega) w; omega), k_lay63 D hN hT]
theorem k_layNumber (D : DW n hh tt r) (hN : N < 2 ^ 31) (hT : T < N) {t : Int64} : x_Mach_layNumber (d + 2) 148 t (n, WW f hh tt N hd tl cu cn cb r S O fu (nI T) bs u pc cl tk er dn rh rt, us) = some ((), (n, WW f hh tt N (upL hd T (s_Cell_headOf 1)) (upL tl T t) cu cn cb r S O fu (nI (T + 1)) bs u pc cl tk er dn rh rt, us)) := by
  unfold x_Mach_layNumber
  dsimp only
  rw [m_gd0 D, e_Cell_headOf, bnd_some, k_lay D hN hT, bnd_some]
theorem k_layTruth (D : DW n hh tt r) (hN : N < 2 ^ 31) (hT : T < N) {x : Int32} : x_Mach_layTruth (d + 3) 148 x (n, WW f hh tt N hd tl cu cn cb r S O fu (nI T) bs u pc cl tk er dn rh rt, us) = some ((), (n, WW f hh tt N (upL hd T (s_Cell_headOf 1)) (upL tl T (if x = 0 then 0 else 1)) cu cn cb r S O fu (nI (T + 1)) bs u pc cl tk er dn rh rt, us)) := by
  unfold x_Mach_layTruth
  dsimp only
  rw [m_gd0 D]
  by_cases c : x = 0
  · rw [if_pos c, if_pos c, k_layNumber D hN hT, bnd_some]
  · rw [if_neg c, if_neg c, k_layNumber D hN hT, bnd_some]
theorem k_sortAt (D : DW n hh tt r) (hN : N < 2 ^ 31) (hj : j < N) : x_Mach_sortAt (d + 1) 148 (nI j) (n, WW f hh tt N hd tl cu cn cb r S O fu tp bs u pc cl tk er dn rh rt, us) = some (s_Cell_sortOf (hd j), (n, WW f hh tt N hd tl cu cn cb r S O fu tp bs u pc cl tk er dn rh rt, us)) := by
  unfold x_Mach_sortAt
  dsimp only
  rw [m_gd0 D, m_g0 D, Option.bind_some, w_aH D hN hj, Option.bind_some, e_Cell_sortOf, bnd_some]
theorem k_objectAt (D : DW n hh tt r) (hN : N < 2 ^ 31) (hj : j < N) : x_Mach_objectAt d 148 (nI j) (n, WW f hh tt N hd tl cu cn cb r S O fu tp bs u pc cl tk er dn rh rt, us) = some ((tl j).toInt32, (n, WW f hh tt N hd tl cu cn cb r S O fu tp bs u pc cl tk er dn rh rt, us)) := by
  unfold x_Mach_objectAt
  rw [m_gd0 D, m_g1 D, Option.bind_some, w_aT D hN hj, Option.bind_some]
theorem k_localAt (D : DW n hh tt r) (hN : N < 2 ^ 30) {B : Nat} (hj : B + j < N) : x_Mach_localAt d 148 (nI j) (n, WW f hh tt N hd tl cu cn cb r S O fu tp (nI B) u pc cl tk er dn rh rt, us) = some (nI (B + j), (n, WW f hh tt N hd tl cu cn cb r S O fu tp (nI B) u pc cl tk er dn rh rt, us)) := by
  unfold x_Mach_localAt
  rw [m_gd0 D, m_g3 D, Option.bind_some, nI_add, if_neg (nI_pos (by omega)), m_g0 D, Option.bind_some, w_lH D, Option.bind_some, if_neg (nI_ge hj (by omega))]
/-- an index: 0 if it lies within, else the fault -/
def c_in (v : Int64 × Int64) (k : Int32) : Int32 := if s_Cell_sortOf v.1 = 1 then (if lg_cmp v.2 0 < 0 then 3 else if lg_cmp v.2 k.toInt64 < 0 then 0 else 3) else 2
theorem k_isWithin (D : DW n hh tt r) (hN : N < 2 ^ 31) (hj : j < N) {k : Int32} : x_Mach_isWithin (d + 2) 148 (nI j) k (n, WW f hh tt N hd tl cu cn cb r S O fu tp bs u pc cl tk er dn rh rt, us) = some (if c_in (hd j, tl j) k = 0 then 1 else 0, (n, if c_in (hd j, tl j) k = 0 then WW f hh tt N hd tl cu cn cb r S O fu tp bs u pc cl tk er dn rh rt else WW f hh tt N hd tl cu cn cb r S O fu tp bs u pc cl tk (c_in (hd j, tl j) k) (1) rh rt, us)) := by
  unfold x_Mach_isWithin c_in
  dsimp only
  rw [m_gd0 D, k_sortAt D hN hj, bnd_some]
  by_cases c1 : s_Cell_sortOf (hd j) = 1
  · rw [if_pos c1, m_g1 D, Option.bind_some, w_aT D hN hj, Option.bind_some]
    simp only [if_pos c1]
    by_cases c2 : lg_cmp (tl j) 0 < 0
    · simp only [if_pos c2]
      rw [k_fail D, bnd_some]
      rfl
    · simp only [if_neg c2, Option.bind_some, w_aT D hN hj]
      by_cases c3 : lg_cmp (tl j) k.toInt64 < 0
      · simp only [if_pos c3]
        rfl
      · simp only [if_neg c3]
        rw [k_fail D, bnd_some]
        rfl
  · simp only [if_neg c1]
    rw [k_fail D, bnd_some]
    rfl
end
