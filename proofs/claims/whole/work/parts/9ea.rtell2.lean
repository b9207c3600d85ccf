/-! tellFunctions: one function -/
def TXc (f : Nat → am_C) (b : Nat → Value) (nw w : Nat) (Rn Rs : RS) (pn ps : Nat → Nat) (Fn Fs : FTb) (wr : Nat → Nat) (WR : Nat → RS) (pp : Nat → Nat → Nat) (FF : Nat → FTb) : Prop := (OM f b ∧ b 30 = .ref nw ∧ b 31 = .ref (391 - nw) ∧ b 32 = .ref 221 ∧ b 33 = .ref 238 ∧ b 34 = .int (nI w) ∧ b 36 = .ref 239 ∧ w ≤ 8 ∧ (nw = 187 ∨ nw = 204)) ∧ (RSt f nw Rn ∧ RTb f Rn pn Fn) ∧ (RSt f 221 Rs ∧ RTb f Rs ps Fs) ∧ (W8 f wr WR ∧ ∀ t, t < w → RTb f (WR t) (pp t) (FF t)) ∧ PLh f
def TPc (f : Nat → am_C) (b : Nat → Value) (A : TAr) (k : Nat) (TT : Nat → TI) (sp : Nat → Int32) (q : Nat → VQ) (m v : Nat) : Prop := (b 13 = .ref 170 ∧ b 14 = .ref 171 ∧ b 15 = .ref 172 ∧ b 16 = .ref 173 ∧ b 17 = .ref 174 ∧ b 18 = .ref 175 ∧ b 19 = .ref 176 ∧ b 20 = .int (nI k) ∧ b 21 = .ref 177) ∧ k < 200 ∧ TA f A ∧ (∃ rest, f 177 = .inr (12, .ref 178 :: .ref 179 :: .int (nI m) :: .int (nI v) :: rest)) ∧ f 178 = aInt 6000 sp ∧ vR f 179 1500 (fun j => (q j).1) (fun j => (q j).2.1) (fun j => (q j).2.2.1) (fun j => (q j).2.2.2) ∧ TRs A k TT m v sp q ∧ m ≤ 4500 ∧ v ≤ 1500 ∧ ∀ j, j < k → okN (ti_w (TT j)) ∧ ti_n (TT j) ≤ ti_l (TT j) ∧ 5 * ti_l (TT j) ≤ 20 + ti_t (TT j) ∧ 1 ≤ ti_t (TT j) ∧ ti_t (TT j) ≤ 1500
section
variable {n us d k w z nw m v : Nat} {f f' : Nat → am_C} {b : Nat → Value} {Rn Rs Rw : RS} {pn ps pw : Nat → Nat} {Fn Fs F : FTb} {wr : Nat → Nat} {WR : Nat → RS} {pp : Nat → Nat → Nat} {FF : Nat → FTb} {A : TAr} {TT : Nat → TI} {sp : Nat → Int32} {q : Nat → VQ} {ag : Int32 × HS → Option (Int32 × HS)}
theorem TA.ai (h : TA f A) (hn : 1311 ≤ n) {x i : Nat} (h1 : 171 ≤ x) (h2 : x ≤ 176) (hi : i < 200) : aI (n, f, us) x (nI i) = some (A.2 x i) := by
  have b0 := cl0 (show i < 2 ^ 31 by omega)
  rw [aI_of (s := (n, f, us)) (h.2 x h1 h2) (by omega) (show x < n by omega) b0.1 (by rw [b0.2]; omega), b0.2]
theorem TPc.keep (h : TPc f b A k TT sp q m v) (hf : ∀ x, 160 ≤ x → x < 187 → f' x = f x) : TPc f' b A k TT sp q m v := by
  obtain ⟨h1, h2, h3, ⟨rest, h4⟩, h5, h6, h7⟩ := h
  exact ⟨h1, h2, ⟨(hf 170 (by omega) (by omega)).trans h3.1, fun x x1 x2 => (hf x (by omega) (by omega)).trans (h3.2 x x1 x2)⟩, ⟨rest, (hf 177 (by omega) (by omega)).trans h4⟩, (hf 178 (by omega) (by omega)).trans h5, h6.kept (fun x x1 x2 => hf x (by omega) (by omega)), h7⟩
theorem e_tstep (hn : 1311 ≤ n) (X : TXc f b nw w Rn Rs pn ps Fn Fs wr WR pp FF) (hW : RSt f (391 - nw) Rw) (T : RTb f Rw pw F) (hs : tkS F.2 F.1 ≤ 400) (P : TPc f b A k TT sp q m v) (hz : z < k) (ht : ti_t (TT z) ≤ 400) (h10 : ¬ (ftAt F (TT z) < 0 ∧ F.1 = 10)) : ∃ f' Rw' pw', ctB (d + 2) (ftAt F (TT z)) (nI z) ag (n, f, us) = (if tkS (ftS F (TT z)).2 (ftS F (TT z)).1 ≤ 400 then ag (nI (z + 1), (n, f', us)) else some (8, (n, f', us))) ∧ TXc f' b nw w Rn Rs pn ps Fn Fs wr WR pp FF ∧ RSt f' (391 - nw) Rw' ∧ RTb f' Rw' pw' (ftS F (TT z)) ∧ (∀ x, x < 187 ∨ (220 < x ∧ x < 401) ∨ 1310 < x → f' x = f x) ∧ ∃ p y j, j < 130 ∧ Rw' = tlR Rw p (pC j) y (ftN F (TT z)) := by
  obtain ⟨⟨O, b30, b31, b32, b33, b34, b36, hw8, hnw⟩, ⟨hN, TN⟩, ⟨hS, TS⟩, ⟨W, TW⟩, ⟨⟨H, ud, hHP⟩, P9, PA⟩⟩ := X
  have Psave := P
  obtain ⟨⟨b13, b14, b15, b16, b17, b18, b19, b20, b21⟩, hk, hA, ⟨rest, h177⟩, h178, h179, TR, hm, hv, TB⟩ := P
  obtain ⟨⟨⟨t1, t2, t3, t4, t5, t6, t7⟩, t8, t9, t10, t11, t12, t13⟩, t14, t15, t16⟩ := TR z hz
  obtain ⟨w1, w2, w3, w4, _⟩ := TB z hz
  obtain ⟨p, ud', hp, x1, u1, u2, u3, u4⟩ := e_fresh (d := d + 1) (H := H) (ud := ud) (us := us) hn O b30 b31 b32 b33 b34 b36 hw8 hnw hN hW hS W P9 TN.1 T.1 TS.1 (fun t ht => (TW t ht).1)
  rw [hHP] at x1
  have cp : 401 ≤ pC p := by show 401 ≤ 401 + 7 * p; omega
  have cp2 : pC p + 6 < 1311 := by show 401 + 7 * p + 6 < 1311; omega
  obtain ⟨f1, hf1⟩ : ∃ f1, f1 = HP f H ud' := ⟨_, rfl⟩
  rw [← hf1] at x1
  have f1o : ∀ x, ¬ (401 ≤ x ∧ x < 1311 ∧ (x - 401) % 7 = 0) → f1 x = f x := fun x hx => by rw [hf1]; exact HP_off hx
  have f1R : ∀ g i, g < 130 → RCo f g i → RCo f1 g i := fun g i hg c => by
    rw [← hHP] at c
    rw [hf1]
    exact c.flag hg
  have f1c : f1 (pC p) = pcC H ud' p := by rw [hf1]; exact HP_at hp
  have arr : ∀ g, g < 130 → ∀ x, pC g < x → x ≤ pC g + 6 → f1 x = f x := fun g hg x h1 h2 => by rw [hf1]; exact HP_arr hg h1 h2
  obtain ⟨⟨sp0, s0⟩, ⟨q0, v0⟩⟩ := PA p hp
  have fHP : f1 = HP f1 H ud' := by
    rw [hf1]
    funext x
    by_cases c : 401 ≤ x ∧ x < 1311 ∧ (x - 401) % 7 = 0
    · unfold HP
      rw [if_pos c, if_pos c]
    · rw [HP_off c, HP_off c, HP_off c]
  clear hf1
  have s1 : f1 (pC p + 1) = aInt 1600 sp0 := (arr p hp _ (by omega) (by omega)).trans s0
  have V1 : VA (n, f1, us) (pC p + 2) 400 q0 := ⟨v0.kept (fun x h1 h2 => arr p hp x (by omega) (by omega)), by omega, by show pC p + 2 + 4 < n; omega, by decide⟩
  have A1 : TA f1 A := ⟨(f1o 170 (by omega)).trans hA.1, fun x h1 h2 => (f1o x (by omega)).trans (hA.2 x h1 h2)⟩
  have O1 : OM f1 b := (f1o 160 (by omega)).trans O
  have g177 : f1 177 = .inr (12, .ref 178 :: .ref 179 :: .int (nI m) :: .int (nI v) :: rest) := (f1o 177 (by omega)).trans h177
  have g178 : f1 178 = aInt 6000 sp := (f1o 178 (by omega)).trans h178
  have W1 : VA (n, f1, us) 179 1500 q := ⟨h179.kept (fun x h1 h2 => f1o x (by omega)), by decide, by show 179 + 4 < n; omega, by decide⟩
  have kk : ti_k (TT z) ≤ 1500 := by omega
  obtain ⟨f2, sp', q', y1, y2, y3, y4, y5, y6, y7⟩ := e_cut (d := d) (us := us) (a := ti_a (TT z)) (e := ti_b (TT z) + 1) (v0 := ti_v (TT z)) (v1 := ti_k (TT z)) hn cp cp2 f1c s1 V1 g177 g178 W1 (by omega) (by omega) (by omega) (by omega) (by omega) kk
  have cn : pC p < n := by omega
  have f2o : ∀ x, x < pC p ∨ pC p + 6 < x → f2 x = f1 x := y7
  have O2 : OM f2 b := (f2o 160 (by omega)).trans O1
  have A2 : TA f2 A := ⟨(f2o 170 (by omega)).trans A1.1, fun x h1 h2 => (f2o x (by omega)).trans (A1.2 x h1 h2)⟩
  obtain ⟨C3, hC3⟩ : ∃ C3 : am_C, C3 = .inr (12, [.ref (pC p + 1), .ref (pC p + 2), .int (nI (ti_b (TT z) + 1 - ti_a (TT z))), .int (nI (ti_k (TT z) - ti_v (TT z))), .int (nI (ti_t (TT z))), .int (nI (ti_n (TT z))), .int (nI (ti_l (TT z))), .int (nI (ti_a (TT z))), .int (nI (ti_v (TT z))), .int (ud' p)]) := ⟨_, rfl⟩
  obtain ⟨f3, hf3⟩ : ∃ f3, f3 = va_up f2 (pC p) C3 := ⟨_, rfl⟩
  have f3c : f3 (pC p) = C3 := by rw [hf3]; exact va_up_self _ _ _
  have f3o : ∀ x, ¬ x = pC p → f3 x = f2 x := fun x hx => by rw [hf3]; exact va_up_ne _ _ hx
  have O3 : OM f3 b := (f3o 160 (by omega)).trans O2
  have A3 : TA f3 A := ⟨(f3o 170 (by omega)).trans A2.1, fun x h1 h2 => (f3o x (by omega)).trans (A2.2 x h1 h2)⟩
  have up2 : ∀ C, OM (va_up f2 (pC p) C) b := fun C => (va_up_ne _ _ (by omega)).trans O2
  have upA : ∀ C, TA (va_up f2 (pC p) C) A := fun C => ⟨(va_up_ne _ _ (by omega)).trans A2.1, fun x h1 h2 => (va_up_ne _ _ (by omega)).trans (A2.2 x h1 h2)⟩
  have af : afB (d + 2) (ftAt F (TT z)) (nI z) (pC p) ag (n, f2, us) = plB (d + 2) (ftAt F (TT z)) (nI z) (pC p) ag (n, f3, us) := by
    unfold afB
    rw [mo_gR O2 hn (by decide) b17, Option.bind_some, A2.ai hn (by decide) (by decide) (by omega), Option.bind_some, t5, pV_of (s := (n, f2, us)) y2 (by omega) cn (by show 4 < 10; decide), Option.bind_some]
    dsimp only [List.set_cons_succ, List.set_cons_zero]
    rw [mo_gR (up2 _) hn (by decide) b18, Option.bind_some, (upA _).ai hn (by decide) (by decide) (by omega), Option.bind_some, t6, G_pV (by omega) cn, if_pos (by show 5 < 10; decide), Option.bind_some]
    dsimp only [List.set_cons_succ, List.set_cons_zero]
    rw [mo_gR (up2 _) hn (by decide) b19, Option.bind_some, (upA _).ai hn (by decide) (by decide) (by omega), Option.bind_some, t7, G_pV (by omega) cn, if_pos (by show 6 < 10; decide), Option.bind_some]
    dsimp only [List.set_cons_succ, List.set_cons_zero]
    rw [hf3, hC3]
  have ctE : ctB (d + 2) (ftAt F (TT z)) (nI z) ag (n, f, us) = afB (d + 2) (ftAt F (TT z)) (nI z) (pC p) ag (n, f2, us) := by
    unfold ctB
    rw [x1, bnd_some, mo_gR O1 hn (by decide) b21, Option.bind_some, mo_gR O1 hn (by decide) b14, Option.bind_some, A1.ai hn (by decide) (by decide) (by omega), Option.bind_some, t2, mo_gR O1 hn (by decide) b16, Option.bind_some, A1.ai hn (by decide) (by decide) (by omega), Option.bind_some, t4, mo_gR O1 hn (by decide) b15, Option.bind_some, A1.ai hn (by decide) (by decide) (by omega), Option.bind_some, t3, mo_gI O1 hn (by decide) b20, Option.bind_some, show nI z + 1 = nI (z + 1) from nI_add z 1]
    by_cases c : z + 1 < k
    · rw [if_pos c] at t16
      obtain ⟨⟨⟨_, _, r3, _⟩, _⟩, _⟩ := TR (z + 1) c
      rw [if_neg (fun w => absurd (nI_lt (a := z + 1) (b := k) c (by omega)) (Int32.not_lt.mpr w)), Option.bind_some, A1.ai hn (by decide) (by decide) (by omega), Option.bind_some, r3, ← t16, y1, bnd_some]
    · rw [if_neg c] at t16
      rw [if_pos (nI_le (by omega) (by omega)), Option.bind_some, gI_of (s := (n, f1, us)) (k := 3) (x := nI v) g177 (by decide) (show 177 < n by omega) rfl, Option.bind_some, ← t16, y1, bnd_some]
  have C : RCo f3 p (TT z) := by
    refine ⟨_, _, ud' p, sp', q', f3c.trans hC3, (f3o _ (by omega)).trans y3, y5.1.kept (fun x h1 h2 => f3o x (by omega)), rfl, ti_b (TT z), ti_k (TT z), ti_l (TT z), ti_t (TT z), sp, q, t8, t10, fun j h1 h2 => ?_, ?_, fun j h1 h2 => ?_, ?_, Nat.le_refl _, w2, ?_, by omega, w4, ?_, ?_⟩
    · show sp' (j - ti_a (TT z)) = sp j
      have h1 : ti_a (TT z) ≤ j := h1
      rw [y4 _ (by omega), show ti_a (TT z) + (j - ti_a (TT z)) = j by omega]
    · show ti_b (TT z) + 1 ≤ 1600 + ti_a (TT z)
      omega
    · show q' (j - ti_v (TT z)) = q j
      have h1 : ti_v (TT z) ≤ j := h1
      rw [y6 _ (by omega), show ti_v (TT z) + (j - ti_v (TT z)) = j by omega]
    · show ti_k (TT z) ≤ 400 + ti_v (TT z)
      omega
    · show ti_l (TT z) ≤ 128
      omega
    · show sp' (ti_b (TT z) - ti_a (TT z)) = 28
      rw [y4 _ (by omega), show ti_a (TT z) + (ti_b (TT z) - ti_a (TT z)) = ti_b (TT z) by omega]
      exact t9
    · show ti_b (TT z) - ti_a (TT z) + 2 ≤ 8192
      omega
  have low : ∀ x, x ≤ 400 → f3 x = f x := fun x hx => by rw [f3o x (by omega), f2o x (by omega), f1o x (by omega)]
  have f3R : ∀ g i, g < 130 → ¬ g = p → RCo f g i → RCo f3 g i := fun g i hg hgp c => by
    refine (f1R g i hg c).keep (fun x h1 h2 => ?_)
    have h1 : 401 + 7 * g ≤ x := h1
    have h2 : x ≤ 401 + 7 * g + 6 := h2
    have hx : x < 401 + 7 * p ∨ 401 + 7 * p + 6 < x := by omega
    rw [f3o x (by show ¬ x = 401 + 7 * p; omega), f2o x hx]
  have hW3 : RSt f3 (391 - nw) Rw := hW.keep (fun x h1 h2 => low x (by omega))
  have T3 : RTb f3 Rw pw F := T.keep (fun j hj c => f3R _ _ (T.1.2.2 j hj).2 (u2 j hj) c)
  obtain ⟨e1, e2⟩ := e_place (d := d + 2) (ag := ag) (us := us) hn O3 b13 b31 A3 (show z < 200 by omega) t1 (show 391 - nw = 187 ∨ 391 - nw = 204 by omega) hW3 T3 hp C w1 h10 hs ht
  obtain ⟨f4, hf4⟩ : ∃ f4, f4 = HSt f3 (391 - nw) (tlR Rw (ftIx F (TT z)) (pC p) (nV (ti_w (TT z))) (ftN F (TT z))) := ⟨_, rfl⟩
  rw [← hf4] at e1 e2
  have f4o : ∀ x, x < 391 - nw ∨ 391 - nw + 16 < x → f4 x = f3 x := fun x hx => by rw [hf4]; exact HS_off hx
  have f4R : ∀ g i, g < 130 → ¬ g = p → RCo f g i → RCo f4 g i := fun g i hg hgp c => (f3R g i hg hgp c).keep (fun x h1 h2 => f4o x (by have h1 : 401 + 7 * g ≤ x := h1; omega))
  refine ⟨f4, _, _, by rw [ctE, af]; exact e1, ⟨⟨(f4o 160 (by omega)).trans O3, b30, b31, b32, b33, b34, b36, hw8, hnw⟩, ⟨hN.keep (fun x h1 h2 => (f4o x (by omega)).trans (low x (by omega))), TN.keep (fun j hj c => f4R _ _ (TN.1.2.2 j hj).2 (u1 j hj) c)⟩, ⟨hS.keep (fun x h1 h2 => (f4o x (by omega)).trans (low x (by omega))), TS.keep (fun j hj c => f4R _ _ (TS.1.2.2 j hj).2 (u3 j hj) c)⟩, ⟨W.keep (fun x h1 h2 => (f4o x (by omega)).trans (low x (by omega))), fun t ht => (TW t ht).keep (fun j hj c => f4R _ _ ((TW t ht).1.2.2 j hj).2 (u4 t ht j hj) c)⟩, ?_⟩, by rw [hf4]; exact RSt.mk, e2, fun x hx => ?_, _, _, p, hp, rfl⟩
  · refine ⟨⟨fun g => if g = p then (nI (ti_b (TT z) + 1 - ti_a (TT z)), nI (ti_k (TT z) - ti_v (TT z)), nI (ti_t (TT z)), nI (ti_n (TT z)), nI (ti_l (TT z)), nI (ti_a (TT z)), nI (ti_v (TT z))) else H g, ud', ?_⟩, (f4o 239 (by omega)).trans ((low 239 (by omega)).trans P9), fun g hg => ?_⟩
    · funext x
      by_cases c : 401 ≤ x ∧ x < 1311 ∧ (x - 401) % 7 = 0
      · unfold HP
        rw [if_pos c]
        by_cases cx : x = pC p
        · have cx' : x = 401 + 7 * p := cx
          rw [show (x - 401) / 7 = p by omega, f4o x (by omega), cx, f3c, hC3]
          unfold pcC
          dsimp only
          rw [if_pos rfl]
        · have cx' : ¬ x = 401 + 7 * p := cx
          rw [f4o x (by omega), f3o x cx, f2o x (by show x < 401 + 7 * p ∨ 401 + 7 * p + 6 < x; omega), fHP]
          unfold HP
          rw [if_pos c]
          unfold pcC
          dsimp only
          rw [if_neg (show ¬ (x - 401) / 7 = p by omega)]
      · exact HP_off c
    · by_cases c : g = p
      · subst c
        exact ⟨⟨sp', (f4o _ (by omega)).trans ((f3o _ (by omega)).trans y3)⟩, q', y5.1.kept (fun x h1 h2 => (f4o x (by omega)).trans (f3o x (by omega)))⟩
      · obtain ⟨⟨sg, a1⟩, ⟨qg, a2⟩⟩ := PA g hg
        have mv : ∀ x, 401 + 7 * g < x → x ≤ 401 + 7 * g + 6 → f4 x = f x := fun x h1 h2 => by
          rw [f4o x (by omega), f3o x (by show ¬ x = 401 + 7 * p; omega), f2o x (by show x < 401 + 7 * p ∨ 401 + 7 * p + 6 < x; omega), arr g hg x h1 h2]
        exact ⟨⟨sg, (mv _ (by show 401 + 7 * g < 401 + 7 * g + 1; omega) (by show 401 + 7 * g + 1 ≤ _; omega)).trans a1⟩, qg, a2.kept (fun x h1 h2 => mv x (by have h1 : 401 + 7 * g + 2 ≤ x := h1; omega) (by have h2 : x ≤ 401 + 7 * g + 2 + 4 := h2; omega))⟩
  · rw [f4o x (by omega)]
    by_cases c : x ≤ 400
    · exact low x c
    · rw [f3o x (by show ¬ x = 401 + 7 * p; omega), f2o x (by show x < 401 + 7 * p ∨ 401 + 7 * p + 6 < x; omega), f1o x (by omega)]
end
