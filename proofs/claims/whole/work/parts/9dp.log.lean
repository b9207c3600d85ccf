/-! the class's Log: waiting, safeBytes, the Stores' array, the bytes -/
abbrev LGS : Type := Nat × Int32 × (Nat → Value) × (Nat → Int32)
def HG (f : Nat → am_C) (G : LGS) : Nat → am_C := fun x => if x = 154 then .inr (7, [.ref 155, .ref 156, .int (nI G.1), .int G.2.1]) else if x = 155 then .inl (.object "StowTongue$Store", 10, G.2.2.1) else if x = 156 then aInt 10 G.2.2.2 else f x
def soB (v2 : Nat) : (Int32 × HS → Option (Unit × HS)) → Int32 × HS → Option (Unit × HS) := (fun (again24 : Int32 × HS → Option (Unit × HS)) (z24 : Int32 × HS) => (if 10 ≤ (z24.1 + 1) then ((gR z24.2 154 7 0).bind fun v7 => ((sR "StowTongue$Store" 10 z24.2 v7 9 v2).bind fun s8 => ((gI s8 154 7 2).bind fun v9 => ((pV s8 154 7 2 (.int (v9 - 1))).bind fun s10 => (some ((), s10)))))) else ((gR z24.2 154 7 0).bind fun v11 => ((gR z24.2 154 7 0).bind fun v12 => ((aN "StowTongue$Store" z24.2 v12 (z24.1 + 1)).bind fun y => y.elim ((sV z24.2 (.object "StowTongue$Store") v11 z24.1 .null).bind fun s14 => ((gR s14 154 7 1).bind fun v15 => ((gR s14 154 7 1).bind fun v16 => ((aI s14 v16 (z24.1 + 1)).bind fun v17 => ((sV s14 .int v15 z24.1 (.int v17)).bind fun s18 => (again24 ((z24.1 + 1), s18))))))) (fun v13 => (sR "StowTongue$Store" 10 z24.2 v11 z24.1 v13).bind fun s19 => ((gR s19 154 7 1).bind fun v20 => ((gR s19 154 7 1).bind fun v21 => ((aI s19 v21 (z24.1 + 1)).bind fun v22 => ((sV s19 .int v20 z24.1 (.int v22)).bind fun s23 => (again24 ((z24.1 + 1), s23))))))))))))
theorem soB_eq {v2 : Nat} {z : Int32} {s : HS} {ag : Int32 × HS → Option (Unit × HS)} : soB v2 ag (z, s) = (if 10 ≤ (z + 1) then ((gR s 154 7 0).bind fun v7 => ((sR "StowTongue$Store" 10 s v7 9 v2).bind fun s8 => ((gI s8 154 7 2).bind fun v9 => ((pV s8 154 7 2 (.int (v9 - 1))).bind fun s10 => (some ((), s10)))))) else ((gR s 154 7 0).bind fun v11 => ((gR s 154 7 0).bind fun v12 => ((aN "StowTongue$Store" s v12 (z + 1)).bind fun y => y.elim ((sV s (.object "StowTongue$Store") v11 z .null).bind fun s14 => ((gR s14 154 7 1).bind fun v15 => ((gR s14 154 7 1).bind fun v16 => ((aI s14 v16 (z + 1)).bind fun v17 => ((sV s14 .int v15 z (.int v17)).bind fun s18 => (ag ((z + 1), s18))))))) (fun v13 => (sR "StowTongue$Store" 10 s v11 z v13).bind fun s19 => ((gR s19 154 7 1).bind fun v20 => ((gR s19 154 7 1).bind fun v21 => ((aI s19 v21 (z + 1)).bind fun v22 => ((sV s19 .int v20 z (.int v22)).bind fun s23 => (ag ((z + 1), s23))))))))))) := rfl
def wwB : (Int32 × Int32 × HS → Option (Int32 × HS)) → Int32 × Int32 × HS → Option (Int32 × HS) := (fun (again4 : Int32 × Int32 × HS → Option (Int32 × HS)) (z4 : Int32 × Int32 × HS) => ((gI z4.2.2 154 7 2).bind fun v1 => (if v1 < z4.2.1 then ((gI z4.2.2 154 7 2).bind fun v2 => (some (v2, z4.2.2))) else ((gR z4.2.2 154 7 1).bind fun v3 => ((aI z4.2.2 v3 z4.2.1).bind fun v4 => (if v4 ≤ z4.1 then ((gR z4.2.2 154 7 1).bind fun v5 => ((aI z4.2.2 v5 z4.2.1).bind fun v6 => (again4 ((z4.1 - v6), (z4.2.1 + 1), z4.2.2)))) else (some ((z4.2.1 - 1), z4.2.2))))))))
theorem wwB_eq {y z : Int32} {s : HS} {ag : Int32 × Int32 × HS → Option (Int32 × HS)} : wwB ag (y, z, s) = ((gI s 154 7 2).bind fun v1 => (if v1 < z then ((gI s 154 7 2).bind fun v2 => (some (v2, s))) else ((gR s 154 7 1).bind fun v3 => ((aI s v3 z).bind fun v4 => (if v4 ≤ y then ((gR s 154 7 1).bind fun v5 => ((aI s v5 z).bind fun v6 => (ag ((y - v6), (z + 1), s)))) else (some ((z - 1), s))))))) := rfl
def wbB : (Int32 × Int32 × HS → Option (Int32 × HS)) → Int32 × Int32 × HS → Option (Int32 × HS) := (fun (again4 : Int32 × Int32 × HS → Option (Int32 × HS)) (z4 : Int32 × Int32 × HS) => ((gI z4.2.2 154 7 2).bind fun v1 => (if v1 < z4.2.1 then (some (z4.1, z4.2.2)) else ((gR z4.2.2 154 7 1).bind fun v2 => ((aI z4.2.2 v2 z4.2.1).bind fun v3 => (again4 ((z4.1 + v3), (z4.2.1 + 1), z4.2.2)))))))
theorem wbB_eq {y z : Int32} {s : HS} {ag : Int32 × Int32 × HS → Option (Int32 × HS)} : wbB ag (y, z, s) = ((gI s 154 7 2).bind fun v1 => (if v1 < z then (some (y, s)) else ((gR s 154 7 1).bind fun v2 => ((aI s v2 z).bind fun v3 => (ag ((y + v3), (z + 1), s)))))) := rfl
def seB (d : Nat) (x1 : Int32) : (Int32 × HS → Option (Unit × HS)) → Int32 × HS → Option (Unit × HS) := (fun (again2 : Int32 × HS → Option (Unit × HS)) (z2 : Int32 × HS) => (if x1 ≤ z2.1 then (some ((), z2.2)) else ((gI z2.2 154 7 2).bind fun v1 => (if v1 ≤ 0 then (some ((), z2.2)) else (bnd (x_Log_settleOldest d 154 z2.2) fun v3 s2 => (again2 ((z2.1 + 1), s2)))))))
theorem seB_eq {d : Nat} {x1 z : Int32} {s : HS} {ag : Int32 × HS → Option (Unit × HS)} : seB d x1 ag (z, s) = (if x1 ≤ z then (some ((), s)) else ((gI s 154 7 2).bind fun v1 => (if v1 ≤ 0 then (some ((), s)) else (bnd (x_Log_settleOldest d 154 s) fun v3 s2 => (ag ((z + 1), s2)))))) := rfl
def stU (s : HS) (st : Nat → Value) : Prop := ∀ j, j < 10 → st j = .null ∨ ∃ r, st j = .ref r ∧ isO s r 10 = true ∧ 160 ≤ r
def shS (st : Nat → Value) : Nat → Value := fun j => if j < 9 then st (j + 1) else if j = 9 then st 0 else st j
def shBy (b : Nat → Int32) : Nat → Int32 := fun j => if j < 9 then b (j + 1) else b j
def soG (G : LGS) : LGS := (G.1 - 1, G.2.1 + G.2.2.2 1, shS G.2.2.1, shBy G.2.2.2)
def seG : Nat → LGS → LGS
  | 0, G => G
  | k + 1, G => seG k (soG G)
section
variable {n us d i w : Nat} {f : Nat → am_C} {G : LGS} {v : Int32}
theorem HG_4 (f : Nat → am_C) (G : LGS) : HG f G 154 = .inr (7, [.ref 155, .ref 156, .int (nI G.1), .int G.2.1]) := rfl
theorem HG_5 (f : Nat → am_C) (G : LGS) : HG f G 155 = .inl (.object "StowTongue$Store", 10, G.2.2.1) := rfl
theorem HG_6 (f : Nat → am_C) (G : LGS) : HG f G 156 = aInt 10 G.2.2.2 := rfl
theorem HG_off {x : Nat} (h : x < 154 ∨ 156 < x) : HG f G x = f x := by
  unfold HG
  rw [if_neg (by omega), if_neg (by omega), if_neg (by omega)]
theorem HGu_4 {w : Nat} {sb : Int32} : va_up (HG f G) 154 (.inr (7, [.ref 155, .ref 156, .int (nI w), .int sb])) = HG f (w, sb, G.2.2) := by
  funext x
  by_cases h : x = 154
  · rw [h, va_up_self]
    rfl
  · rw [va_up_ne _ _ h]
    unfold HG
    rw [if_neg h, if_neg h]
theorem HGu_5 {st : Nat → Value} : va_up (HG f G) 155 (.inl (.object "StowTongue$Store", 10, st)) = HG f (G.1, G.2.1, st, G.2.2.2) := by
  funext x
  by_cases h : x = 155
  · rw [h, va_up_self]
    rfl
  · rw [va_up_ne _ _ h]
    unfold HG
    rw [if_neg h, if_neg h]
theorem HGu_6 {b : Nat → Int32} : va_up (HG f G) 156 (aInt 10 b) = HG f (G.1, G.2.1, G.2.2.1, b) := by
  funext x
  by_cases h : x = 156
  · rw [h, va_up_self]
    rfl
  · rw [va_up_ne _ _ h]
    unfold HG
    rw [if_neg h, if_neg h]
theorem l_gd {β : Type} {b : Option β} (hn : 1311 ≤ n) : gd (n, HG f G, us) 154 7 b = b := gd_of (s := (n, HG f G, us)) (HG_4 f G) (by decide) (show 154 < n by omega)
theorem l_g0 (hn : 1311 ≤ n) : gR (n, HG f G, us) 154 7 0 = some 155 := gR_of (s := (n, HG f G, us)) (HG_4 f G) (by decide) (show 154 < n by omega) rfl
theorem l_g1 (hn : 1311 ≤ n) : gR (n, HG f G, us) 154 7 1 = some 156 := gR_of (s := (n, HG f G, us)) (HG_4 f G) (by decide) (show 154 < n by omega) rfl
theorem l_gw (hn : 1311 ≤ n) : gI (n, HG f G, us) 154 7 2 = some (nI G.1) := gI_of (s := (n, HG f G, us)) (HG_4 f G) (by decide) (show 154 < n by omega) rfl
theorem l_gs (hn : 1311 ≤ n) : gI (n, HG f G, us) 154 7 3 = some G.2.1 := gI_of (s := (n, HG f G, us)) (HG_4 f G) (by decide) (show 154 < n by omega) rfl
theorem l_pw (hn : 1311 ≤ n) : pV (n, HG f G, us) 154 7 2 (.int (nI w)) = some (n, HG f (w, G.2), us) := by
  rw [pV_of (s := (n, HG f G, us)) (HG_4 f G) (by decide) (show 154 < n by omega) (by show 2 < 4; decide)]
  exact congrArg (fun F => some (n, F, us)) HGu_4
theorem l_ps (hn : 1311 ≤ n) : pV (n, HG f G, us) 154 7 3 (.int v) = some (n, HG f (G.1, v, G.2.2), us) := by
  rw [pV_of (s := (n, HG f G, us)) (HG_4 f G) (by decide) (show 154 < n by omega) (by show 3 < 4; decide)]
  exact congrArg (fun F => some (n, F, us)) HGu_4
theorem l_ab (hn : 1311 ≤ n) (hi : i < 10) : aI (n, HG f G, us) 156 (nI i) = some (G.2.2.2 i) := by
  have b := cl0 (show i < 2 ^ 31 by omega)
  rw [aI_of (s := (n, HG f G, us)) (HG_6 f G) (by decide) (show 156 < n by omega) b.1 (by rw [b.2]; omega), b.2]
theorem l_sb (hn : 1311 ≤ n) (hi : i < 10) : sV (n, HG f G, us) .int 156 (nI i) (.int v) = some (n, HG f (G.1, G.2.1, G.2.2.1, upI G.2.2.2 i v), us) := by
  have b := cl0 (show i < 2 ^ 31 by omega)
  rw [sI_of (s := (n, HG f G, us)) (HG_6 f G) (by decide) (show 156 < n by omega) b.1 (by rw [b.2]; omega), b.2]
  exact congrArg (fun F => some (n, F, us)) HGu_6
theorem l_av (hn : 1311 ≤ n) (hi : i < 10) : aV (n, HG f G, us) (.object "StowTongue$Store") 155 (nI i) = some (G.2.2.1 i) := by
  have b := cl0 (show i < 2 ^ 31 by omega)
  rw [aV_of (s := (n, HG f G, us)) (HG_5 f G) (by decide) (show 155 < n by omega) b.1 (by rw [b.2]; omega), b.2]
theorem l_sv (hn : 1311 ≤ n) (hi : i < 10) {x : Value} : sV (n, HG f G, us) (.object "StowTongue$Store") 155 (nI i) x = some (n, HG f (G.1, G.2.1, updV G.2.2.1 i x, G.2.2.2), us) := by
  have b := cl0 (show i < 2 ^ 31 by omega)
  rw [sV_of (s := (n, HG f G, us)) (HG_5 f G) (by decide) (show 155 < n by omega) b.1 (by rw [b.2]; omega), b.2]
  exact congrArg (fun F => some (n, F, us)) HGu_5
theorem l_sr (hn : 1311 ≤ n) (hi : i < 10) {r : Nat} (h : isO (n, f, us) r 10 = true) (hr : 160 ≤ r) : sR "StowTongue$Store" 10 (n, HG f G, us) 155 (nI i) r = some (n, HG f (G.1, G.2.1, updV G.2.2.1 i (.ref r), G.2.2.2), us) := by
  unfold sR
  have h' : isO (n, HG f G, us) r 10 = true := isO_keep h (HG_off (by omega)) (Nat.le_refl _)
  rw [if_pos h', l_sv hn hi]
theorem so_L {r0 : Nat} (hn : 1311 ≤ n) (h0 : isO (n, f, us) r0 10 = true) (hr0 : 160 ≤ r0) : ∀ m i M (G : LGS), i + m = 9 → m < M → 1 ≤ G.1 → stU (n, f, us) G.2.2.1 → loopK (soB r0) M (nI i, (n, HG f G, us)) = some ((), (n, HG f (G.1 - 1, G.2.1, (fun j => if i ≤ j ∧ j < 9 then G.2.2.1 (j + 1) else if j = 9 then .ref r0 else G.2.2.1 j), fun j => if i ≤ j ∧ j < 9 then G.2.2.2 (j + 1) else G.2.2.2 j), us)) := by
  intro m
  induction m with
  | zero =>
    intro i M G e1 e2 e3 U
    obtain ⟨M, rfl⟩ : ∃ M', M = M' + 1 := ⟨M - 1, by omega⟩
    have e9 : i = 9 := by omega
    subst e9
    have s1 : (fun j => if 9 ≤ j ∧ j < 9 then G.2.2.1 (j + 1) else if j = 9 then Value.ref r0 else G.2.2.1 j) = updV G.2.2.1 9 (.ref r0) := by
      funext j
      unfold updV
      rw [if_neg (by omega)]
    have s2 : (fun j => if 9 ≤ j ∧ j < 9 then G.2.2.2 (j + 1) else G.2.2.2 j) = G.2.2.2 := by
      funext j
      rw [if_neg (by omega)]
    rw [loopK_succ, soB_eq, if_pos (by decide), l_g0 hn, Option.bind_some, show (9 : Int32) = nI 9 from rfl, l_sr hn (by omega) h0 hr0, Option.bind_some, l_gw hn, Option.bind_some]
    dsimp only
    rw [show nI G.1 - 1 = nI (G.1 - 1) from nI_sub e3, l_pw hn, Option.bind_some, s1, s2]
  | succ m ih =>
    intro i M G e1 e2 e3 U
    obtain ⟨M, rfl⟩ : ∃ M', M = M' + 1 := ⟨M - 1, by omega⟩
    have hi1 : nI i + 1 = nI (i + 1) := nI_add i 1
    have step : ∀ x, x = G.2.2.1 (i + 1) → loopK (soB r0) M (nI (i + 1), (n, HG f (G.1, G.2.1, updV G.2.2.1 i x, upI G.2.2.2 i (G.2.2.2 (i + 1))), us)) = some ((), (n, HG f (G.1 - 1, G.2.1, (fun j => if i ≤ j ∧ j < 9 then G.2.2.1 (j + 1) else if j = 9 then .ref r0 else G.2.2.1 j), fun j => if i ≤ j ∧ j < 9 then G.2.2.2 (j + 1) else G.2.2.2 j), us)) := fun x hx => by
      rw [ih (i + 1) M (G.1, G.2.1, updV G.2.2.1 i x, upI G.2.2.2 i (G.2.2.2 (i + 1))) (by omega) (by omega) e3 (fun j hj => by
        dsimp only
        unfold updV
        by_cases c : j = i
        · rw [if_pos c, hx]
          exact U (i + 1) (by omega)
        · rw [if_neg c]
          exact U j hj)]
      dsimp only
      have s1 : (fun j => if i + 1 ≤ j ∧ j < 9 then updV G.2.2.1 i x (j + 1) else if j = 9 then Value.ref r0 else updV G.2.2.1 i x j) = (fun j => if i ≤ j ∧ j < 9 then G.2.2.1 (j + 1) else if j = 9 then .ref r0 else G.2.2.1 j) := by
        funext j
        unfold updV
        by_cases c : i + 1 ≤ j ∧ j < 9
        · rw [if_pos c, if_neg (by omega), if_pos (by omega)]
        · rw [if_neg c]
          by_cases c9 : j = 9
          · rw [if_pos c9, if_neg (by omega), if_pos c9]
          · rw [if_neg c9]
            by_cases ci : j = i
            · rw [if_pos ci, if_pos (by omega), hx, ci]
            · rw [if_neg ci, if_neg (by omega), if_neg c9]
      have s2 : (fun j => if i + 1 ≤ j ∧ j < 9 then upI G.2.2.2 i (G.2.2.2 (i + 1)) (j + 1) else upI G.2.2.2 i (G.2.2.2 (i + 1)) j) = fun j => if i ≤ j ∧ j < 9 then G.2.2.2 (j + 1) else G.2.2.2 j := by
        funext j
        unfold upI
        by_cases c : i + 1 ≤ j ∧ j < 9
        · rw [if_pos c, if_neg (by omega), if_pos (by omega)]
        · rw [if_neg c]
          by_cases ci : j = i
          · rw [if_pos ci, if_pos (by omega), ci]
          · rw [if_neg ci, if_neg (by omega)]
      rw [s1, s2]
    rw [loopK_succ, soB_eq, hi1, if_neg (show ¬ (10 : Int32) ≤ nI (i + 1) from nI_ge (b := 10) (by omega) (by omega)), l_g0 hn, Option.bind_some, Option.bind_some]
    rcases U (i + 1) (by omega) with h | ⟨r, h, h2, h3⟩
    · rw [show aN "StowTongue$Store" (n, HG f G, us) 155 (nI (i + 1)) = some none by unfold aN; rw [l_av hn (by omega), h]; rfl, Option.bind_some]
      show ((sV (n, HG f G, us) (.object "StowTongue$Store") 155 (nI i) .null).bind fun s14 => ((gR s14 154 7 1).bind fun v15 => ((gR s14 154 7 1).bind fun v16 => ((aI s14 v16 (nI (i + 1))).bind fun v17 => ((sV s14 .int v15 (nI i) (.int v17)).bind fun s18 => (loopK (soB r0) M (nI (i + 1), s18))))))) = _
      rw [l_sv hn (by omega), Option.bind_some, l_g1 hn, Option.bind_some, Option.bind_some, l_ab hn (by omega), Option.bind_some, l_sb hn (by omega), Option.bind_some]
      exact step .null h.symm
    · rw [show aN "StowTongue$Store" (n, HG f G, us) 155 (nI (i + 1)) = some (some r) by unfold aN; rw [l_av hn (by omega), h]; rfl, Option.bind_some]
      show ((sR "StowTongue$Store" 10 (n, HG f G, us) 155 (nI i) r).bind fun s14 => ((gR s14 154 7 1).bind fun v15 => ((gR s14 154 7 1).bind fun v16 => ((aI s14 v16 (nI (i + 1))).bind fun v17 => ((sV s14 .int v15 (nI i) (.int v17)).bind fun s18 => (loopK (soB r0) M (nI (i + 1), s18))))))) = _
      rw [l_sr hn (by omega) h2 h3, Option.bind_some, l_g1 hn, Option.bind_some, Option.bind_some, l_ab hn (by omega), Option.bind_some, l_sb hn (by omega), Option.bind_some]
      exact step (.ref r) h.symm
theorem e_sOld (hn : 1311 ≤ n) (h0 : ¬ G.2.2.1 0 = .null) (hw : 1 ≤ G.1) (U : stU (n, f, us) G.2.2.1) : x_Log_settleOldest d 154 (n, HG f G, us) = some ((), (n, HG f (soG G), us)) := by
  rcases U 0 (by decide) with h | ⟨r, h, h2, h3⟩
  · exact absurd h h0
  have e : x_Log_settleOldest d 154 (n, HG f G, us) = gd (n, HG f G, us) 154 7 ((gR (n, HG f G, us) 154 7 0).bind fun v1 => ((aR "StowTongue$Store" (n, HG f G, us) v1 (nI 0)).bind fun v2 => ((gI (n, HG f G, us) 154 7 3).bind fun v3 => ((gR (n, HG f G, us) 154 7 1).bind fun v4 => ((aI (n, HG f G, us) v4 (nI 1)).bind fun v5 => ((pV (n, HG f G, us) 154 7 3 (.int (v3 + v5))).bind fun s6 => (loopK (soB v2) FU (nI 0, s6)))))))) := rfl
  rw [e, l_gd hn, l_g0 hn, Option.bind_some, show aR "StowTongue$Store" (n, HG f G, us) 155 (nI 0) = some r by unfold aR; rw [l_av hn (by omega), h]; rfl, Option.bind_some, l_gs hn, Option.bind_some, l_g1 hn, Option.bind_some, l_ab hn (by omega), Option.bind_some, l_ps hn, Option.bind_some, so_L hn h2 h3 9 0 FU (G.1, G.2.1 + G.2.2.2 1, G.2.2) rfl (by rw [FU_eq]; decide) hw U]
  dsimp only
  have s1 : (fun j => if 0 ≤ j ∧ j < 9 then G.2.2.1 (j + 1) else if j = 9 then Value.ref r else G.2.2.1 j) = shS G.2.2.1 := by
    funext j
    unfold shS
    rw [h]
    by_cases c : j < 9
    · rw [if_pos ⟨Nat.zero_le _, c⟩, if_pos c]
    · rw [if_neg (fun q => c q.2), if_neg c]
  have s2 : (fun j => if 0 ≤ j ∧ j < 9 then G.2.2.2 (j + 1) else G.2.2.2 j) = shBy G.2.2.2 := by
    funext j
    unfold shBy
    by_cases c : j < 9
    · rw [if_pos ⟨Nat.zero_le _, c⟩, if_pos c]
    · rw [if_neg (fun q => c q.2), if_neg c]
  rw [s1, s2]
  rfl
end
