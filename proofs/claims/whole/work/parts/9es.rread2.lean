/-! the reference's run: what read leaves -/
theorem HL_ne {f : Nat → am_C} {z : Nat} : ∀ {l : List (Nat × am_C)}, (∀ kc, kc ∈ l → ¬ z = kc.1) → HL l f z = f z
  | [], _ => rfl
  | (k, c) :: l, h => by
    rw [HL_c, if_neg (h (k, c) List.mem_cons_self)]
    exact HL_ne (fun kc hk => h kc (List.mem_cons_of_mem _ hk))
theorem HL_app {f : Nat → am_C} : ∀ {l m : List (Nat × am_C)}, HL (l ++ m) f = HL l (HL m f)
  | [], _ => rfl
  | (k, c) :: l, m => by
    funext x
    rw [List.cons_append, HL_c, HL_c, HL_app]
def b30 (cr : Nat) (E : RE) (y : RA) (b : Nat → Value) : Nat → Value := fun j => if j < 30 then ([.ref 161, .ref 162, .int (re_tm E), .int (re_om E), .int (nI (re_L E)), .int (ra_b y).1, .int (ra_b y).2.1, .int (ra_b y).2.2.1, .int (ra_b y).2.2.2.1, .int (ra_b y).2.2.2.2.1, .int (ra_b y).2.2.2.2.2.1, .long (ra_b y).2.2.2.2.2.2, .ref 163, .ref 170, .ref 171, .ref 172, .ref 173, .ref 174, .ref 175, .ref 176, .int (re_td E), .ref 177, .ref cr, .ref 184, .int (nI (ra_t y)), .int (ra_g y), .ref 185, .int (ra_e y), .ref 186, .int (nI (ra_p y))] : List Value).getD j .null else b j
section
variable {s : HS} {b : Nat → Value} {cr L nw w n us d k z sw : Nat} {g ob : Nat → Int32} {om lg fu : Int32} {Rn Rs : RS} {wr pn ps : Nat → Nat} {WR : Nat → RS} {pp : Nat → Nat → Nat} {FF : Nat → FTb} {q0 : VQ} {X : SWs} {f : Nat → am_C} {E : RE} {y : RA}
theorem PM_ne (h0 : ¬ z = 160) (h1 : ¬ z = 184) (h2 : ¬ z = 186) (h3 : z < cr ∨ cr + 6 < z) : PM cr E y z = re_f E z := by
  unfold PM
  refine HL_ne (fun kc hk => ?_)
  rcases List.mem_cons.mp hk with e | hk
  · rw [e]
    exact h0
  rcases List.mem_cons.mp hk with e | hk
  · rw [e]
    exact h1
  rcases List.mem_cons.mp hk with e | hk
  · rw [e]
    exact h2
  rcases List.mem_cons.mp hk with e | hk
  · rw [e]
    show ¬ z = cr
    omega
  rcases List.mem_cons.mp hk with e | hk
  · rw [e]
    show ¬ z = cr + 1
    omega
  have := va_ids hk
  omega
theorem OM_pm (hR : re_R E = (List.range 23).map (fun i => b (30 + i))) : OM (PM cr E y) (b30 cr E y b) := by
  show mdS (re_tm E) (re_om E) (re_L E) (ra_b y) (rLs cr E y) = .inr (14, (List.range 53).map (b30 cr E y b))
  unfold mdS rLs
  rw [hR]
  rfl
theorem RBf_pm (h : RBf b L om nw w lg fu sw) (e1 : re_tm E = 0) (e2 : re_om E = om) : RBf (b30 cr E y b) 0 om nw w lg fu sw := by
  refine ⟨fun p hp => ?_, fun k hk => ?_, ⟨_, rfl⟩, ?_, ?_, h.2.2.2.2.2.1, h.2.2.2.2.2.2.1, h.2.2.2.2.2.2.2.1, h.2.2.2.2.2.2.2.2.1, h.2.2.2.2.2.2.2.2.2.1, h.2.2.2.2.2.2.2.2.2.2⟩
  · have h0 := h.1 p hp
    simp only [rfL, List.mem_cons, List.not_mem_nil, or_false] at hp
    rcases hp with rfl | rfl | rfl | rfl | rfl | rfl | rfl | rfl | rfl | rfl | rfl | rfl | rfl | rfl | rfl | rfl | rfl | rfl | rfl | rfl | rfl | rfl | rfl | rfl | rfl | rfl
    all_goals first | rfl | exact h0
  · have h0 := h.2.1 k hk
    simp only [inL, List.mem_cons, List.not_mem_nil, or_false] at hk
    rcases hk with rfl | rfl | rfl | rfl | rfl | rfl | rfl | rfl | rfl | rfl | rfl | rfl | rfl | rfl | rfl | rfl | rfl
    all_goals first | exact ⟨_, rfl⟩ | exact h0
  · show Value.int (re_tm E) = .int (nI 0)
    rw [e1]
    rfl
  · show Value.int (re_om E) = .int om
    rw [e2]
theorem vQ_pm {r N : Nat} {q : Nat → VQ} (h : ∀ kc, kc ∈ vaL r N q → re_f E kc.1 = kc.2) (h0 : r + 4 < 184) (h2 : 160 < r) (h3 : r + 4 < cr ∨ cr + 6 < r) : ∀ kc, kc ∈ vaL r N q → PM cr E y kc.1 = kc.2 := fun kc hk => by
  have i := va_ids hk
  exact (PM_ne (by omega) (by omega) (by omega) (by omega)).trans (h kc hk)
theorem vQ_own {q : Nat → VQ} {l : List (Nat × am_C)} {f : Nat → am_C} {r N : Nat} : ∀ kc, kc ∈ vaL r N q → HL (vaL r N q) f kc.1 = kc.2 := fun kc hk => by
  unfold vaL at hk ⊢
  rcases List.mem_cons.mp hk with e | hk
  · rw [e, HL_c, if_pos rfl]
  rcases List.mem_cons.mp hk with e | hk
  · rw [e, HL_c, if_neg (by show ¬ r + 1 = r; omega), HL_c, if_pos rfl]
  rcases List.mem_cons.mp hk with e | hk
  · rw [e, HL_c, if_neg (by show ¬ r + 2 = r; omega), HL_c, if_neg (by show ¬ r + 2 = r + 1; omega), HL_c, if_pos rfl]
  rcases List.mem_cons.mp hk with e | hk
  · rw [e, HL_c, if_neg (by show ¬ r + 3 = r; omega), HL_c, if_neg (by show ¬ r + 3 = r + 1; omega), HL_c, if_neg (by show ¬ r + 3 = r + 2; omega), HL_c, if_pos rfl]
  rcases List.mem_cons.mp hk with e | hk
  · rw [e, HL_c, if_neg (by show ¬ r + 4 = r; omega), HL_c, if_neg (by show ¬ r + 4 = r + 1; omega), HL_c, if_neg (by show ¬ r + 4 = r + 2; omega), HL_c, if_neg (by show ¬ r + 4 = r + 3; omega), HL_c, if_pos rfl]
  cases hk
theorem PM_own (hc : cr = 163 ∨ cr = 177) : ∀ kc, kc ∈ vaL (cr + 2) 1500 (ra_q y) → PM cr E y kc.1 = kc.2 := fun kc hk => by
  have i := va_ids hk
  unfold PM
  rw [HL_c, if_neg (by omega), HL_c, if_neg (by omega), HL_c, if_neg (by omega), HL_c, if_neg (by omega), HL_c, if_neg (by omega)]
  exact vQ_own (l := []) kc hk
theorem RCl_pm (h : RCl f g ob q0) (Z : RZe cr E) (eg : re_g E = g) (hi : ∀ z, (z = 162 ∨ 186 < z) → re_f E z = f z) : RCl (PM cr E y) g ob q0 := by
  obtain ⟨a1, a2, _, _, _, _, _, _, ⟨q1, a9⟩, ⟨q2, a10⟩, ⟨q3, a11, a12⟩, ⟨q4, a13⟩, ⟨cu, a14⟩, ⟨x1, a15⟩, ⟨x2, a16⟩⟩ := h
  obtain ⟨Z1, ⟨A, Z2⟩, ⟨l5, Z3⟩, Z4⟩ := Z
  have hc := Z1.2.2.1
  have hz : ∀ z, 186 < z → PM cr E y z = f z := fun z hz => (PM_ne (by omega) (by omega) (by omega) (by omega)).trans (hi z (Or.inr hz))
  have c1 : PM cr E y 161 = .inl (.byte, 1500, fun j => .int (g j)) := (PM_ne (by decide) (by decide) (by decide) (by omega)).trans (by rw [← eg]; exact Z1.2.2.2)
  have c2 : PM cr E y 162 = .inl (.byte, 600, fun j => .int (ob j)) := (PM_ne (by decide) (by decide) (by decide) (by omega)).trans ((hi 162 (Or.inl rfl)).trans a2)
  have c5 : PM cr E y 185 = aLong 1500 l5 := (PM_ne (by decide) (by decide) (by decide) (by omega)).trans Z3
  have cA : TA (PM cr E y) A := ⟨(PM_ne (by decide) (by decide) (by decide) (by omega)).trans Z2.1, fun z z1 z2 => (PM_ne (by omega) (by omega) (by omega) (by omega)).trans (Z2.2 z z1 z2)⟩
  have cc : (∃ m v k1 k2 k3 k6 sp q, RCd (PM cr E y) 163 m v k1 k2 k3 0 0 k6 sp q) ∧ (∃ m v k1 k2 k3 k4 k5 k6 sp q, RCd (PM cr E y) 177 m v k1 k2 k3 k4 k5 k6 sp q) := by
    rcases Z4 with ⟨rfl, k0, kk, m, v, sp, q, Cr⟩ | ⟨rfl, kk, m, v, sp, q, Cr, k0⟩
    · refine ⟨⟨nI (ra_m y), nI (ra_v y), (re_k E).1, (re_k E).2.1, (re_k E).2.2.1, (re_k E).2.2.2.2.2, ra_s y, ra_q y, ?_, rfl, PM_own (Or.inl rfl)⟩, ⟨nI m, nI v, kk.1, kk.2.1, kk.2.2.1, kk.2.2.2.1, kk.2.2.2.2.1, kk.2.2.2.2.2, sp, q, ?_, ?_, ?_⟩⟩
      · show cdC 163 E (ra_m y) (ra_v y) = _
        unfold cdC
        rw [k0.2.1, k0.2.2]
      · exact (PM_ne (by decide) (by decide) (by decide) (by decide)).trans (Cr _ List.mem_cons_self)
      · exact (PM_ne (by decide) (by decide) (by decide) (by decide)).trans (Cr (177 + 1, _) (List.mem_cons_of_mem _ List.mem_cons_self))
      · exact vQ_pm (fun kc hk => Cr kc (List.mem_cons_of_mem _ (List.mem_cons_of_mem _ hk))) (by decide) (by decide) (by decide)
    · refine ⟨⟨nI m, nI v, kk.1, kk.2.1, kk.2.2.1, kk.2.2.2.2.2, sp, q, ?_, ?_, ?_⟩, ⟨nI (ra_m y), nI (ra_v y), (re_k E).1, (re_k E).2.1, (re_k E).2.2.1, (re_k E).2.2.2.1, (re_k E).2.2.2.2.1, (re_k E).2.2.2.2.2, ra_s y, ra_q y, rfl, rfl, PM_own (Or.inr rfl)⟩⟩
      · refine (PM_ne (by decide) (by decide) (by decide) (by decide)).trans ((Cr _ List.mem_cons_self).trans ?_)
        obtain ⟨z1, z2, z3, z4, z5, z6⟩ := kk
        have h4 : z4 = 0 := k0.2.1
        have h5 : z5 = 0 := k0.2.2
        subst h4 h5
        rfl
      · exact (PM_ne (by decide) (by decide) (by decide) (by decide)).trans (Cr (163 + 1, _) (List.mem_cons_of_mem _ List.mem_cons_self))
      · exact vQ_pm (fun kc hk => Cr kc (List.mem_cons_of_mem _ (List.mem_cons_of_mem _ hk))) (by decide) (by decide) (by decide)
  have c4 : PM cr E y 184 = aLong 1500 (ra_l y) := rfl
  have c6 : PM cr E y 186 = aInt 1500 (ra_u y) := rfl
  exact ⟨c1, c2, cc.1, cc.2, ⟨_, c4⟩, ⟨_, c5⟩, ⟨_, c6⟩, ⟨A, cA⟩, ⟨q1, a9.keep (fun z z1 z2 => hz z (by omega))⟩, ⟨q2, a10.keep (fun z z1 z2 => hz z (by omega))⟩, ⟨q3, a11.keep (fun z z1 z2 => hz z (by omega)), a12⟩, ⟨q4, a13.keep (fun z z1 z2 => hz z (by omega))⟩, ⟨cu, (hz 260 (by decide)).trans a14⟩, ⟨x1, (hz 261 (by decide)).trans a15⟩, ⟨x2, (hz 262 (by decide)).trans a16⟩⟩
theorem RKx.rd (h : RKx (n, f, us) b L g om ob nw w lg Rn Rs wr WR pn ps pp FF q0 fu X) (Z : RZe cr E) (e1 : re_tm E = 0) (e2 : re_om E = om) (e3 : re_g E = g) (e4 : re_R E = (List.range 23).map (fun i => b (30 + i))) (hf : ∀ z, (z < 160 ∨ z = 161 ∨ z = 162 ∨ 186 < z) → re_f E z = f z) : RKx (n, PM cr E y, us) (b30 cr E y b) 0 g om ob nw w lg Rn Rs wr WR pn ps pp FF q0 fu X ∧ ∀ z, z < 160 ∨ 1310 < z → PM cr E y z = f z := by
  have hc := Z.1.2.2.1
  have hz : ∀ z, z < 160 ∨ 186 < z → PM cr E y z = f z := fun z hz => (PM_ne (by omega) (by omega) (by omega) (by omega)).trans (hf z (by omega))
  exact ⟨h.top (Nat.le_refl _) (OM_pm e4) (RBf_pm h.1.2.2.1 e1 e2) (RCl_pm h.2.1 Z e3 (fun z q => hf z (by omega))) (fun z z1 z2 _ => hz z (by omega)), fun z q => hz z (by omega)⟩
theorem RKx.ry (h : RKx s b L g om ob nw w lg Rn Rs wr WR pn ps pp FF q0 fu X) : RY s g (nI L) om ((List.range 23).map (fun i => b (30 + i))) := by
  obtain ⟨⟨a1, a2, a3, a4, a5⟩, ⟨b1, b2, b3, b4, b5, b6, b7, b8, _⟩, _⟩ := h
  refine ⟨a2, ?_, b1, b3, b4, b5, b6, b7, b8⟩
  obtain ⟨x4, h4⟩ := a3.2.1 4 (by decide)
  obtain ⟨x5, h5⟩ := a3.2.1 5 (by decide)
  obtain ⟨x6, h6⟩ := a3.2.1 6 (by decide)
  obtain ⟨x7, h7⟩ := a3.2.1 7 (by decide)
  obtain ⟨x8, h8⟩ := a3.2.1 8 (by decide)
  obtain ⟨x9, h9⟩ := a3.2.1 9 (by decide)
  obtain ⟨x10, h10⟩ := a3.2.1 10 (by decide)
  obtain ⟨x20, h20⟩ := a3.2.1 20 (by decide)
  obtain ⟨x24, h24⟩ := a3.2.1 24 (by decide)
  obtain ⟨x25, h25⟩ := a3.2.1 25 (by decide)
  obtain ⟨x27, h27⟩ := a3.2.1 27 (by decide)
  obtain ⟨x29, h29⟩ := a3.2.1 29 (by decide)
  obtain ⟨x11, h11⟩ := a3.2.2.1
  refine ⟨x4, x5, x6, x7, x8, x9, x10, x20, x24, x25, x27, x29, x11, b 22, ?_⟩
  have e : s.2.1 160 = .inr (14, b 0 :: b 1 :: b 2 :: b 3 :: b 4 :: b 5 :: b 6 :: b 7 :: b 8 :: b 9 :: b 10 :: b 11 :: b 12 :: b 13 :: b 14 :: b 15 :: b 16 :: b 17 :: b 18 :: b 19 :: b 20 :: b 21 :: b 22 :: b 23 :: b 24 :: b 25 :: b 26 :: b 27 :: b 28 :: b 29 :: (List.range 23).map (fun i => b (30 + i))) := a1
  rw [e, a3.rf (show (0, 161) ∈ rfL by decide), a3.rf (show (1, 162) ∈ rfL by decide), a3.2.2.2.1, a3.2.2.2.2.1, h4, h5, h6, h7, h8, h9, h10, h11, a3.rf (show (12, 163) ∈ rfL by decide), a3.rf (show (13, 170) ∈ rfL by decide), a3.rf (show (14, 171) ∈ rfL by decide), a3.rf (show (15, 172) ∈ rfL by decide), a3.rf (show (16, 173) ∈ rfL by decide), a3.rf (show (17, 174) ∈ rfL by decide), a3.rf (show (18, 175) ∈ rfL by decide), a3.rf (show (19, 176) ∈ rfL by decide), h20, a3.rf (show (21, 177) ∈ rfL by decide), a3.rf (show (23, 184) ∈ rfL by decide), h24, h25, a3.rf (show (26, 185) ∈ rfL by decide), h27, a3.rf (show (28, 186) ∈ rfL by decide), h29]
end
