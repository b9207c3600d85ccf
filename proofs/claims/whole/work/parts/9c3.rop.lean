/-! the reference's parser with one Code, as a state RA: lexer, (steps, values, those), LOCALS, pile, given, lastStep -/
abbrev RA : Type := RLx × (Nat × Nat × (Nat → Int32) × (Nat → VQ)) × (Nat × (Nat → Int64)) × (Nat × (Nat → Int32)) × Int32 × Int32
abbrev ra_b (y : RA) : RLx := y.1
abbrev ra_m (y : RA) : Nat := y.2.1.1
abbrev ra_v (y : RA) : Nat := y.2.1.2.1
abbrev ra_s (y : RA) : Nat → Int32 := y.2.1.2.2.1
abbrev ra_q (y : RA) : Nat → VQ := y.2.1.2.2.2
abbrev ra_t (y : RA) : Nat := y.2.2.1.1
abbrev ra_l (y : RA) : Nat → Int64 := y.2.2.1.2
abbrev ra_p (y : RA) : Nat := y.2.2.2.1.1
abbrev ra_u (y : RA) : Nat → Int32 := y.2.2.2.1.2
abbrev ra_g (y : RA) : Int32 := y.2.2.2.2.1
abbrev ra_e (y : RA) : Int32 := y.2.2.2.2.2
abbrev RE : Type := (Nat × (Nat → Int32)) × (Int32 × Int32 × Int32) × (Nat × Nat × (Nat → am_C)) × (Int32 × Int32 × Int32 × Int32 × Int32 × Int32) × List Value
abbrev re_L (E : RE) : Nat := E.1.1
abbrev re_g (E : RE) : Nat → Int32 := E.1.2
abbrev re_tm (E : RE) : Int32 := E.2.1.1
abbrev re_om (E : RE) : Int32 := E.2.1.2.1
abbrev re_td (E : RE) : Int32 := E.2.1.2.2
abbrev re_n (E : RE) : Nat := E.2.2.1.1
abbrev re_u (E : RE) : Nat := E.2.2.1.2.1
abbrev re_f (E : RE) : Nat → am_C := E.2.2.1.2.2
abbrev re_k (E : RE) : Int32 × Int32 × Int32 × Int32 × Int32 × Int32 := E.2.2.2.1
abbrev re_R (E : RE) : List Value := E.2.2.2.2
def rLs (cr : Nat) (E : RE) (y : RA) : List Value := .ref 163 :: .ref 170 :: .ref 171 :: .ref 172 :: .ref 173 :: .ref 174 :: .ref 175 :: .ref 176 :: .int (re_td E) :: .ref 177 :: .ref cr :: .ref 184 :: .int (nI (ra_t y)) :: .int (ra_g y) :: .ref 185 :: .int (ra_e y) :: .ref 186 :: .int (nI (ra_p y)) :: re_R E
def cdC (cr : Nat) (E : RE) (m v : Nat) : am_C := .inr (12, [.ref (cr + 1), .ref (cr + 2), .int (nI m), .int (nI v), .int (re_k E).1, .int (re_k E).2.1, .int (re_k E).2.2.1, .int (re_k E).2.2.2.1, .int (re_k E).2.2.2.2.1, .int (re_k E).2.2.2.2.2])
def PM (cr : Nat) (E : RE) (y : RA) : Nat → am_C := HL ((160, mdS (re_tm E) (re_om E) (re_L E) (ra_b y) (rLs cr E y)) :: (184, aLong 1500 (ra_l y)) :: (186, aInt 1500 (ra_u y)) :: (cr, cdC cr E (ra_m y) (ra_v y)) :: (cr + 1, aInt 6000 (ra_s y)) :: vaL (cr + 2) 1500 (ra_q y)) (re_f E)
abbrev pm (cr : Nat) (E : RE) (y : RA) : HS := (re_n E, PM cr E y, re_u E)
def EOR (cr : Nat) (E : RE) : Prop := re_L E ≤ 1500 ∧ 1311 ≤ re_n E ∧ (cr = 163 ∨ cr = 177) ∧ re_f E 161 = .inl (.byte, 1500, fun j => .int (re_g E j))
abbrev raLex (y : RA) (b : RLx) : RA := (b, y.2)
abbrev raGiven (y : RA) (v : Int32) : RA := (y.1, y.2.1, y.2.2.1, y.2.2.2.1, v, y.2.2.2.2.2)
abbrev raLast (y : RA) (v : Int32) : RA := (y.1, y.2.1, y.2.2.1, y.2.2.2.1, y.2.2.2.2.1, v)
abbrev raPile (y : RA) (p : Nat) : RA := (y.1, y.2.1, y.2.2.1, (p, ra_u y), y.2.2.2.2)
abbrev raPset (y : RA) (j : Nat) (v : Int32) : RA := (y.1, y.2.1, y.2.2.1, (ra_p y, upI (ra_u y) j v), y.2.2.2.2)
abbrev raMany (y : RA) (m : Nat) : RA := (y.1, (m, y.2.1.2), y.2.2)
abbrev raVals (y : RA) (v : Nat) : RA := (y.1, (ra_m y, v, y.2.1.2.2), y.2.2)
abbrev raSet (y : RA) (j : Nat) (v : Int32) : RA := (y.1, (ra_m y, ra_v y, upI (ra_s y) j v, ra_q y), y.2.2)
abbrev raQ (y : RA) (q : Nat → VQ) : RA := (y.1, (ra_m y, ra_v y, ra_s y, q), y.2.2)
abbrev raPut (y : RA) (v : Int32) : RA := (y.1, (ra_m y + 1, ra_v y, upI (ra_s y) (ra_m y) v, ra_q y), y.2.2)
abbrev raVal (y : RA) (v : VQ) : RA := (y.1, (ra_m y, ra_v y + 1, ra_s y, upQ (ra_q y) (ra_v y) v), y.2.2)
abbrev raLocal (y : RA) (v : Int64) : RA := (y.1, y.2.1, (ra_t y + 1, upL (ra_l y) (ra_t y) v), y.2.2.2)
section
variable {cr : Nat} {E : RE} {y : RA} {d j i p q : Nat} {v w K : Int32} {T : TKc} {t : TKr}
theorem P160 : PM cr E y 160 = mdS (re_tm E) (re_om E) (re_L E) (ra_b y) (rLs cr E y) := rfl
theorem P161 (h : EOR cr E) : PM cr E y 161 = .inl (.byte, 1500, fun j => .int (re_g E j)) := by
  obtain ⟨_, _, h3, h4⟩ := h
  rw [← h4]
  rcases h3 with rfl | rfl <;> rfl
theorem P184 : PM cr E y 184 = aLong 1500 (ra_l y) := rfl
theorem P186 : PM cr E y 186 = aInt 1500 (ra_u y) := rfl
theorem P_c (h : EOR cr E) : PM cr E y cr = cdC cr E (ra_m y) (ra_v y) := by
  obtain ⟨_, _, h3, _⟩ := h
  rcases h3 with rfl | rfl <;> rfl
theorem P_c1 (h : EOR cr E) : PM cr E y (cr + 1) = aInt 6000 (ra_s y) := by
  obtain ⟨_, _, h3, _⟩ := h
  rcases h3 with rfl | rfl <;> rfl
theorem P_rw (h : EOR cr E) : RW (re_n E) (PM cr E y) (re_L E) (re_g E) (re_tm E) (re_om E) (ra_b y) (rLs cr E y) := ⟨P160, P161 h, h.2.1, h.1⟩
theorem P_lex {b : RLx} : va_up (PM cr E y) 160 (mdS (re_tm E) (re_om E) (re_L E) b (rLs cr E y)) = PM cr E (raLex y b) := HL_up rfl
theorem P_va (h : EOR cr E) : VA (pm cr E y) (cr + 2) 1500 (ra_q y) := by
  obtain ⟨_, h2, h3, _⟩ := h
  have h2' : 1311 ≤ (pm cr E y).1 := h2
  rcases h3 with rfl | rfl
  · exact ⟨⟨rfl, rfl, rfl, rfl, rfl⟩, by decide, by omega, by decide⟩
  · exact ⟨⟨rfl, rfl, rfl, rfl, rfl⟩, by decide, by omega, by decide⟩
theorem P_vu (h : EOR cr E) {q : Nat → VQ} : vUp (PM cr E y) (cr + 2) 1500 q = PM cr E (raQ y q) := by
  obtain ⟨_, h2, h3, _⟩ := h
  rcases h3 with rfl | rfl
  · unfold vUp PM vaL
    rw [HL_up rfl, HL_up rfl, HL_up rfl, HL_up rfl]
    rfl
  · unfold vUp PM vaL
    rw [HL_up rfl, HL_up rfl, HL_up rfl, HL_up rfl]
    rfl
theorem y_gd {β : Type} {x : Option β} (h : EOR cr E) : gd (pm cr E y) 160 14 x = x := m_gd (P_rw h)
theorem y_0 (h : EOR cr E) : gR (pm cr E y) 160 14 0 = some 161 := gR_of (s := pm cr E y) (P160 (cr := cr) (E := E) (y := y)) (by decide) (Nat.lt_of_lt_of_le (by decide) h.2.1) rfl
theorem y_6 (h : EOR cr E) : gI (pm cr E y) 160 14 6 = some (ra_b y).2.1 := gI_of (s := pm cr E y) (P160 (cr := cr) (E := E) (y := y)) (by decide) (Nat.lt_of_lt_of_le (by decide) h.2.1) rfl
theorem y_7 (h : EOR cr E) : gI (pm cr E y) 160 14 7 = some (ra_b y).2.2.1 := gI_of (s := pm cr E y) (P160 (cr := cr) (E := E) (y := y)) (by decide) (Nat.lt_of_lt_of_le (by decide) h.2.1) rfl
theorem y_8 (h : EOR cr E) : gI (pm cr E y) 160 14 8 = some (ra_b y).2.2.2.1 := gI_of (s := pm cr E y) (P160 (cr := cr) (E := E) (y := y)) (by decide) (Nat.lt_of_lt_of_le (by decide) h.2.1) rfl
theorem y_9 (h : EOR cr E) : gI (pm cr E y) 160 14 9 = some (ra_b y).2.2.2.2.1 := gI_of (s := pm cr E y) (P160 (cr := cr) (E := E) (y := y)) (by decide) (Nat.lt_of_lt_of_le (by decide) h.2.1) rfl
theorem y_10 (h : EOR cr E) : gI (pm cr E y) 160 14 10 = some (ra_b y).2.2.2.2.2.1 := gI_of (s := pm cr E y) (P160 (cr := cr) (E := E) (y := y)) (by decide) (Nat.lt_of_lt_of_le (by decide) h.2.1) rfl
theorem y_11 (h : EOR cr E) : gL (pm cr E y) 160 14 11 = some (ra_b y).2.2.2.2.2.2 := gL_of (s := pm cr E y) (P160 (cr := cr) (E := E) (y := y)) (by decide) (Nat.lt_of_lt_of_le (by decide) h.2.1) rfl
theorem y_22 (h : EOR cr E) : gR (pm cr E y) 160 14 22 = some cr := gR_of (s := pm cr E y) (P160 (cr := cr) (E := E) (y := y)) (by decide) (Nat.lt_of_lt_of_le (by decide) h.2.1) rfl
theorem y_23 (h : EOR cr E) : gR (pm cr E y) 160 14 23 = some 184 := gR_of (s := pm cr E y) (P160 (cr := cr) (E := E) (y := y)) (by decide) (Nat.lt_of_lt_of_le (by decide) h.2.1) rfl
theorem y_24 (h : EOR cr E) : gI (pm cr E y) 160 14 24 = some (nI (ra_t y)) := gI_of (s := pm cr E y) (P160 (cr := cr) (E := E) (y := y)) (by decide) (Nat.lt_of_lt_of_le (by decide) h.2.1) rfl
theorem y_25 (h : EOR cr E) : gI (pm cr E y) 160 14 25 = some (ra_g y) := gI_of (s := pm cr E y) (P160 (cr := cr) (E := E) (y := y)) (by decide) (Nat.lt_of_lt_of_le (by decide) h.2.1) rfl
theorem y_27 (h : EOR cr E) : gI (pm cr E y) 160 14 27 = some (ra_e y) := gI_of (s := pm cr E y) (P160 (cr := cr) (E := E) (y := y)) (by decide) (Nat.lt_of_lt_of_le (by decide) h.2.1) rfl
theorem y_28 (h : EOR cr E) : gR (pm cr E y) 160 14 28 = some 186 := gR_of (s := pm cr E y) (P160 (cr := cr) (E := E) (y := y)) (by decide) (Nat.lt_of_lt_of_le (by decide) h.2.1) rfl
theorem y_29 (h : EOR cr E) : gI (pm cr E y) 160 14 29 = some (nI (ra_p y)) := gI_of (s := pm cr E y) (P160 (cr := cr) (E := E) (y := y)) (by decide) (Nat.lt_of_lt_of_le (by decide) h.2.1) rfl
theorem y_p24 (h : EOR cr E) : pV (pm cr E y) 160 14 24 (.int (nI j)) = some (pm cr E (y.1, y.2.1, (j, ra_l y), y.2.2.2)) := by
  rw [pV_of (s := pm cr E y) (P160 (cr := cr) (E := E) (y := y)) (by decide) (Nat.lt_of_lt_of_le (by decide) h.2.1) (by simp [rLs])]
  exact congrArg (fun F => some (re_n E, F, re_u E)) (HL_up rfl)
theorem y_p25 (h : EOR cr E) : pV (pm cr E y) 160 14 25 (.int v) = some (pm cr E (raGiven y v)) := by
  rw [pV_of (s := pm cr E y) (P160 (cr := cr) (E := E) (y := y)) (by decide) (Nat.lt_of_lt_of_le (by decide) h.2.1) (by simp [rLs])]
  exact congrArg (fun F => some (re_n E, F, re_u E)) (HL_up rfl)
theorem y_p27 (h : EOR cr E) : pV (pm cr E y) 160 14 27 (.int v) = some (pm cr E (raLast y v)) := by
  rw [pV_of (s := pm cr E y) (P160 (cr := cr) (E := E) (y := y)) (by decide) (Nat.lt_of_lt_of_le (by decide) h.2.1) (by simp [rLs])]
  exact congrArg (fun F => some (re_n E, F, re_u E)) (HL_up rfl)
theorem y_p29 (h : EOR cr E) : pV (pm cr E y) 160 14 29 (.int (nI j)) = some (pm cr E (raPile y j)) := by
  rw [pV_of (s := pm cr E y) (P160 (cr := cr) (E := E) (y := y)) (by decide) (Nat.lt_of_lt_of_le (by decide) h.2.1) (by simp [rLs])]
  exact congrArg (fun F => some (re_n E, F, re_u E)) (HL_up rfl)
theorem cr_lt (h : EOR cr E) : 128 ≤ cr ∧ cr + 6 < re_n E := by
  obtain ⟨_, h2, h3, _⟩ := h
  omega
theorem y_c0 (h : EOR cr E) : gR (pm cr E y) cr 12 0 = some (cr + 1) := gR_of (s := pm cr E y) (P_c (y := y) h) (cr_lt h).1 (by have := (cr_lt h).2; show cr < re_n E; omega) rfl
theorem y_c1 (h : EOR cr E) : gR (pm cr E y) cr 12 1 = some (cr + 2) := gR_of (s := pm cr E y) (P_c (y := y) h) (cr_lt h).1 (by have := (cr_lt h).2; show cr < re_n E; omega) rfl
theorem y_c2 (h : EOR cr E) : gI (pm cr E y) cr 12 2 = some (nI (ra_m y)) := gI_of (s := pm cr E y) (P_c (y := y) h) (cr_lt h).1 (by have := (cr_lt h).2; show cr < re_n E; omega) rfl
theorem y_c3 (h : EOR cr E) : gI (pm cr E y) cr 12 3 = some (nI (ra_v y)) := gI_of (s := pm cr E y) (P_c (y := y) h) (cr_lt h).1 (by have := (cr_lt h).2; show cr < re_n E; omega) rfl
theorem y_pc2 (h : EOR cr E) : pV (pm cr E y) cr 12 2 (.int (nI j)) = some (pm cr E (raMany y j)) := by
  rw [pV_of (s := pm cr E y) (P_c (y := y) h) (cr_lt h).1 (by have := (cr_lt h).2; show cr < re_n E; omega) (Nat.le_of_ble_eq_true rfl)]
  refine congrArg (fun F => some (re_n E, F, re_u E)) ?_
  obtain ⟨_, _, h3, _⟩ := h
  rcases h3 with rfl | rfl <;> exact HL_up rfl
theorem y_pc3 (h : EOR cr E) : pV (pm cr E y) cr 12 3 (.int (nI j)) = some (pm cr E (raVals y j)) := by
  rw [pV_of (s := pm cr E y) (P_c (y := y) h) (cr_lt h).1 (by have := (cr_lt h).2; show cr < re_n E; omega) (Nat.le_of_ble_eq_true rfl)]
  refine congrArg (fun F => some (re_n E, F, re_u E)) ?_
  obtain ⟨_, _, h3, _⟩ := h
  rcases h3 with rfl | rfl <;> exact HL_up rfl
theorem y_aS (h : EOR cr E) (hj : j < 6000) : aI (pm cr E y) (cr + 1) (nI j) = some (ra_s y j) := by
  have b := cl0 (show j < 2 ^ 31 by omega)
  have e := aI_of (s := pm cr E y) (P_c1 (y := y) h) (by have := cr_lt h; omega) (by have := cr_lt h; show cr + 1 < re_n E; omega) b.1 (by rw [b.2]; exact hj)
  rw [b.2] at e
  exact e
theorem y_sS (h : EOR cr E) (hj : j < 6000) : sV (pm cr E y) .int (cr + 1) (nI j) (.int v) = some (pm cr E (raSet y j v)) := by
  have b := cl0 (show j < 2 ^ 31 by omega)
  rw [sI_of (s := pm cr E y) (P_c1 (y := y) h) (by have := cr_lt h; omega) (by have := cr_lt h; show cr + 1 < re_n E; omega) b.1 (by rw [b.2]; exact hj), b.2]
  refine congrArg (fun F => some (re_n E, F, re_u E)) ?_
  obtain ⟨_, _, h3, _⟩ := h
  rcases h3 with rfl | rfl <;> exact HL_up rfl
theorem y_aU (h : EOR cr E) (hj : j < 1500) : aI (pm cr E y) 186 (nI j) = some (ra_u y j) := by
  have b := cl0 (show j < 2 ^ 31 by omega)
  have e := aI_of (s := pm cr E y) (a := 186) (P186 (cr := cr) (E := E) (y := y)) (by decide) (Nat.lt_of_lt_of_le (by decide) h.2.1) b.1 (by rw [b.2]; exact hj)
  rw [b.2] at e
  exact e
theorem y_sU (h : EOR cr E) (hj : j < 1500) : sV (pm cr E y) .int 186 (nI j) (.int v) = some (pm cr E (raPset y j v)) := by
  have b := cl0 (show j < 2 ^ 31 by omega)
  rw [sI_of (s := pm cr E y) (P186 (cr := cr) (E := E) (y := y)) (by decide) (Nat.lt_of_lt_of_le (by decide) h.2.1) b.1 (by rw [b.2]; exact hj), b.2]
  exact congrArg (fun F => some (re_n E, F, re_u E)) (HL_up rfl)
theorem y_aL (h : EOR cr E) (hj : j < 1500) : aL (pm cr E y) 184 (nI j) = some (ra_l y j) := by
  have b := cl0 (show j < 2 ^ 31 by omega)
  have e := aL_of (s := pm cr E y) (a := 184) (P184 (cr := cr) (E := E) (y := y)) (by decide) (Nat.lt_of_lt_of_le (by decide) h.2.1) b.1 (by rw [b.2]; exact hj)
  rw [b.2] at e
  exact e
theorem y_sL {z : Int64} (h : EOR cr E) (hj : j < 1500) : sV (pm cr E y) .long 184 (nI j) (.long z) = some (pm cr E (y.1, y.2.1, (ra_t y, upL (ra_l y) j z), y.2.2.2)) := by
  have b := cl0 (show j < 2 ^ 31 by omega)
  rw [sV_of (s := pm cr E y) (P184 (cr := cr) (E := E) (y := y)) (by decide) (Nat.lt_of_lt_of_le (by decide) h.2.1) b.1 (by rw [b.2]; exact hj), b.2, updV_L]
  exact congrArg (fun F => some (re_n E, F, re_u E)) (HL_up rfl)
theorem y_step (h : EOR cr E) (hp : (ra_b y).1 = nI p) (hp2 : p ≤ re_L E) : x_Mod_step (d + 5) 160 (pm cr E y) = some ((), pm cr E (raLex y (advR (re_g E) (re_L E) p (ra_b y)))) := by
  have e := m_step (d := d + 4) (us := re_u E) (P_rw (y := y) h) (by omega) hp hp2
  rw [P_lex] at e
  exact e
theorem y_is (h : EOR cr E) (hA : AtR q t (ra_b y)) (hT : TQ (re_g E) (re_L E) q T t) (i : Nat) (hj : j = 2 * i + 12) (hi : i < 35) (hK : (kS.getD i (0, [])).1 = K) : x_Mod_is (d + 4) 160 j (pm cr E y) = some (if T.2.1 = K then 1 else 0, pm cr E y) := by
  subst hj hK
  exact m_is (d := d + 3) (us := re_u E) (P_rw (y := y) h) (by omega) hA hT.1 hT.2.1 hT.2.2 hi
theorem y_bad (h : EOR cr E) (hf : (ra_b y).2.2.2.2.1 < 0) : x_Mod_bad d 160 (pm cr E y) = some (0, pm cr E (raLex y (badR (ra_b y)))) := by
  have e := m_bad (d := d) (us := re_u E) (P_rw (y := y) h) hf
  rw [P_lex] at e
  exact e
theorem y_take (h : EOR cr E) (hA : AtR q t (ra_b y)) (hT : TQ (re_g E) (re_L E) q T t) (i : Nat) (hj : j = 2 * i + 12) (hi : i < 35) (hK : T.2.1 = (kS.getD i (0, [])).1) : x_Mod_take (d + 6) 160 j (pm cr E y) = some (1, pm cr E (raLex y (advR (re_g E) (re_L E) t.1 (ra_b y)))) := by
  subst hj
  have e := m_take (d := d + 4) (us := re_u E) (P_rw (y := y) h) (by omega) hA hT.1 hT.2.1 hT.2.2 hi hK
  rw [P_lex] at e
  exact e
theorem y_takeNo (h : EOR cr E) (hA : AtR q t (ra_b y)) (hT : TQ (re_g E) (re_L E) q T t) (hf : (ra_b y).2.2.2.2.1 < 0) (i : Nat) (hj : j = 2 * i + 12) (hi : i < 35) (hK : ¬ T.2.1 = (kS.getD i (0, [])).1) : x_Mod_take (d + 6) 160 j (pm cr E y) = some (0, pm cr E (raLex y (badR (ra_b y)))) := by
  subst hj
  have e := m_takeNo (d := d + 4) (us := re_u E) (P_rw (y := y) h) (by omega) hA hT.1 hT.2.1 hT.2.2 hi hK hf
  rw [P_lex] at e
  exact e
theorem y_name (h : EOR cr E) (hA : AtR q t (ra_b y)) (hT : TQ (re_g E) (re_L E) q T t) (hk : T.2.1 = 2) : x_Mod_name d 160 (pm cr E y) = some (nV (nmL (re_g E) q (t.1 - q)), pm cr E y) := m_name (P_rw h) hA.2.2.1 hA.2.2.2.1 hT.2.2.1 hT.2.2.2 (hT.nm hk).2.2
theorem y_put (h : EOR cr E) (hm : ra_m y < 6000) : x_Mod_put_I d 160 v (pm cr E y) = some (nI (ra_m y), pm cr E (raPut y v)) := by
  unfold x_Mod_put_I
  rw [y_gd h, y_22 h, Option.bind_some, y_c0 h, Option.bind_some, Option.bind_some, y_c2 h, Option.bind_some, y_sS h hm, Option.bind_some, y_22 h, Option.bind_some, y_c2 h, Option.bind_some]
  show ((pV _ _ _ _ (.int (nI (ra_m y) + 1))).bind _) = _
  rw [← nI_succ, y_pc2 h, Option.bind_some, y_22 h, Option.bind_some, y_c2 h, Option.bind_some]
  show some (nI (ra_m y + 1) - 1, _) = _
  rw [nI_succ, Int32.add_sub_cancel]
theorem y_put2 (h : EOR cr E) (hm : ra_m y + 1 < 6000) : x_Mod_put_II (d + 1) 160 v w (pm cr E y) = some ((), pm cr E (raPut (raPut y v) w)) := by
  unfold x_Mod_put_II
  dsimp only
  rw [y_gd h, y_put h (by omega), bnd_some, y_put h (by exact hm), bnd_some]
theorem y_nv {z : Int64} (h : EOR cr E) (hv : ra_v y < 1500) : x_Mod_nameValue (d + 1) 160 z (pm cr E y) = some (nI (ra_v y), pm cr E (raVal y (1, 0, z, 0))) := by
  unfold x_Mod_nameValue
  dsimp only
  rw [y_gd h, y_22 h, Option.bind_some, y_c1 h, Option.bind_some, Option.bind_some, y_c3 h, Option.bind_some, e_set (P_va h) hv, bnd_some]
  show ((gR (re_n E, vUp (PM cr E y) _ _ _, re_u E) 160 14 22).bind _) = _
  rw [P_vu h, y_22 h, Option.bind_some, y_c3 h, Option.bind_some]
  show ((pV _ _ _ _ (.int (nI (ra_v y) + 1))).bind _) = _
  rw [← nI_succ, y_pc3 h, Option.bind_some, y_22 h, Option.bind_some, y_c3 h, Option.bind_some]
  show some (nI (ra_v y + 1) - 1, _) = _
  rw [nI_succ, Int32.add_sub_cancel]
theorem y_value {k n : Int32} {z1 z2 : Int64} (h : EOR cr E) (hv : ra_v y < 1500) (hm : ra_m y + 1 < 6000) : x_Mod_value_IIJJ (d + 2) 160 k n z1 z2 (pm cr E y) = some ((), pm cr E (raPut (raPut (raVal y (k, n, z1, z2)) 0) (nI (ra_v y)))) := by
  unfold x_Mod_value_IIJJ
  dsimp only
  rw [y_gd h, y_22 h, Option.bind_some, y_c1 h, Option.bind_some, Option.bind_some, y_c3 h, Option.bind_some, e_set (P_va h) hv, bnd_some]
  show ((gR (re_n E, vUp (PM cr E y) _ _ _, re_u E) 160 14 22).bind _) = _
  rw [P_vu h, y_22 h, Option.bind_some, y_c3 h, Option.bind_some, y_put2 h (by exact hm), bnd_some, y_22 h, Option.bind_some, y_c3 h, Option.bind_some]
  show ((pV _ _ _ _ (.int (nI (ra_v y) + 1))).bind _) = _
  rw [← nI_succ, y_pc3 h, Option.bind_some]
theorem y_locOf {z : Int64} (h : EOR cr E) (ht : ra_t y ≤ 1500) (hd : ∀ i j, i < ra_t y → j < ra_t y → ra_l y i = ra_l y j → i = j) : x_Mod_localOf d 160 z (pm cr E y) = some (s_find (ra_l y) (ra_t y) z, pm cr E y) := by
  unfold x_Mod_localOf
  rw [y_gd h, y_24 h, Option.bind_some]
  have key : ∀ k M, k < M → k ≤ ra_t y → (∀ j, k ≤ j → j < ra_t y → ra_l y j ≠ z) → loopK (fun (again7 : Int32 × HS → Option (Int32 × HS)) (z7 : Int32 × HS) => (if z7.1 < 0 then (some ((-1), z7.2)) else ((gR z7.2 160 14 23).bind fun v2 => ((aL z7.2 v2 z7.1).bind fun v3 => (if (lg_cmp v3 z) = 0 then (some (z7.1, z7.2)) else (again7 ((z7.1 + (-1)), z7.2))))))) M (nI k - 1, pm cr E y) = some (s_find (ra_l y) (ra_t y) z, pm cr E y) := by
    intro k
    induction k with
    | zero =>
      intro M hM _ hn
      obtain ⟨M, rfl⟩ : ∃ M', M = M' + 1 := ⟨M - 1, by omega⟩
      rw [loopK_succ]
      show (if nI 0 - 1 < 0 then _ else _) = _
      rw [if_pos (by decide)]
      rcases s_fd_neg (g := ra_l y) (y := z) (ra_t y) 0 (by omega) with k | ⟨j, _, h2, _, h4, _⟩
      · show some (-1, _) = some (s_fd _ _ _ _, _)
        rw [k.2.1]
      · exact absurd h4 (hn j (by omega) (by omega))
    | succ k ih =>
      intro M hM hk hn
      obtain ⟨M, rfl⟩ : ∃ M', M = M' + 1 := ⟨M - 1, by omega⟩
      rw [loopK_succ]
      have e0 : nI (k + 1) - 1 = nI k := by rw [nI_succ, Int32.add_sub_cancel]
      dsimp only
      rw [e0, if_neg (nI_pos (by omega)), y_23 h, Option.bind_some, y_aL h (by omega), Option.bind_some]
      by_cases c : lg_cmp (ra_l y k) z = 0
      · rw [if_pos c]
        have c' := lc_eq.mp c
        rcases s_fd_neg (g := ra_l y) (y := z) (ra_t y) 0 (by omega) with q | ⟨j, _, h2, h3, h4, _⟩
        · exact absurd c' (q.2.2 k (by omega) (by omega))
        · show _ = some (s_fd _ _ _ _, _)
          rw [h3, hd j k (by omega) (by omega) (h4.trans c'.symm)]
      · rw [if_neg c]
        have := ih M (by omega) (by omega) (fun j h1 h2 => by
          rcases Nat.lt_or_ge k j with h | h
          · exact hn j (by omega) h2
          · have : j = k := by omega
            subst this
            exact fun e => c (lc_eq.mpr e))
        rw [show nI k + -1 = nI k - 1 from (Int32.sub_eq_add_neg _ _).symm]
        exact this
  exact key (ra_t y) FU (by rw [FU_eq]; omega) (Nat.le_refl _) (fun j h1 h2 => absurd h1 (by omega))
theorem y_let1 {z : Int64} (h : EOR cr E) (ht : ra_t y ≤ 1500) (hd : ∀ i j, i < ra_t y → j < ra_t y → ra_l y i = ra_l y j → i = j) (hf : ¬ s_find (ra_l y) (ra_t y) z < 0) : x_Mod_let (d + 1) 160 z (pm cr E y) = some (s_find (ra_l y) (ra_t y) z, pm cr E y) := by
  unfold x_Mod_let
  dsimp only
  rw [y_gd h, y_locOf h ht hd, bnd_some, if_neg hf]
theorem y_let0 {z : Int64} (h : EOR cr E) (ht : ra_t y < 1500) (hd : ∀ i j, i < ra_t y → j < ra_t y → ra_l y i = ra_l y j → i = j) (hf : s_find (ra_l y) (ra_t y) z < 0) : x_Mod_let (d + 1) 160 z (pm cr E y) = some (nI (ra_t y), pm cr E (raLocal y z)) := by
  unfold x_Mod_let
  dsimp only
  rw [y_gd h, y_locOf h (by omega) hd, bnd_some, if_pos hf, y_23 h, Option.bind_some, y_24 h, Option.bind_some, y_sL h ht, Option.bind_some, y_24 h, Option.bind_some]
  show ((pV _ _ _ _ (.int (nI (ra_t y) + 1))).bind _) = _
  rw [← nI_succ, y_p24 h, Option.bind_some, y_24 h, Option.bind_some]
  show some (nI (ra_t y + 1) - 1, _) = _
  rw [nI_succ, Int32.add_sub_cancel]
end
