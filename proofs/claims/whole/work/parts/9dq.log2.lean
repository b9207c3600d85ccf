def byS (b : Nat → Int32) : Nat → Nat → Int32
  | 0, _ => 0
  | m + 1, i => b i + byS b m (i + 1)
def wwS (b : Nat → Int32) : Nat → Nat → Int32 → Nat
  | 0, i, _ => i - 1
  | m + 1, i, y => if b i ≤ y then wwS b m (i + 1) (y - b i) else i - 1
section
variable {n us d i w k : Nat} {f : Nat → am_C} {G : LGS} {v : Int32}
theorem stU.sh {s : HS} {st : Nat → Value} (U : stU s st) : stU s (shS st) := fun j hj => by
  unfold shS
  by_cases c : j < 9
  · rw [if_pos c]
    exact U (j + 1) (by omega)
  · rw [if_neg c, if_pos (by omega)]
    exact U 0 (by omega)
theorem seG_w : ∀ k G, (seG k G).1 = G.1 - k
  | 0, G => rfl
  | k + 1, G => by
    rw [seG, seG_w k (soG G)]
    show G.1 - 1 - k = _
    omega
theorem seG_st : ∀ k G j, k ≤ 9 → j < 10 → (seG k G).2.2.1 j = G.2.2.1 ((j + k) % 10)
  | 0, G, j, _, hj => by
    show G.2.2.1 j = _
    rw [Nat.add_zero, Nat.mod_eq_of_lt hj]
  | k + 1, G, j, hk, hj => by
    rw [seG, seG_st k (soG G) j (by omega) hj]
    show shS G.2.2.1 ((j + k) % 10) = _
    unfold shS
    by_cases c : (j + k) % 10 < 9
    · rw [if_pos c, show (j + k) % 10 + 1 = (j + (k + 1)) % 10 by omega]
    · rw [if_neg c, if_pos (by omega), show (j + (k + 1)) % 10 = 0 by omega]
theorem seG_by : ∀ k G j, j + k ≤ 9 → (seG k G).2.2.2 j = G.2.2.2 (j + k)
  | 0, G, j, _ => rfl
  | k + 1, G, j, h => by
    rw [seG, seG_by k (soG G) j (by omega)]
    show shBy G.2.2.2 (j + k) = _
    unfold shBy
    rw [if_pos (by omega)]
    congr 1
theorem seG_sb : ∀ (k : Nat) (G : LGS) (i : Nat), k ≤ 9 → (seG k G).2.1 = G.2.1 + byS G.2.2.2 k 1
  | 0, G, i, _ => (Int32.add_zero _).symm
  | k + 1, G, i, h => by
    have e : ∀ m j, j + m ≤ 9 → byS (shBy G.2.2.2) m j = byS G.2.2.2 m (j + 1) := fun m => by
      induction m with
      | zero => exact fun j _ => rfl
      | succ m ih =>
        intro j hj
        rw [byS, byS, ih (j + 1) (by omega)]
        unfold shBy
        rw [if_pos (by omega)]
    rw [seG, seG_sb k (soG G) i (by omega)]
    show G.2.1 + G.2.2.2 1 + byS (shBy G.2.2.2) k 1 = G.2.1 + (G.2.2.2 1 + byS G.2.2.2 k 2)
    rw [e k 1 (by omega), Int32.add_assoc]
theorem se_L (hn : 1311 ≤ n) {K : Nat} (hK : K ≤ 9) : ∀ m i M (G : LGS), i + m = K → m < M → m ≤ G.1 → G.1 ≤ 9 → (∀ j, j < m → ¬ G.2.2.1 j = .null) → stU (n, f, us) G.2.2.1 → loopK (seB d (nI K)) M (nI i, (n, HG f G, us)) = some ((), (n, HG f (seG m G), us)) := by
  intro m
  induction m with
  | zero =>
    intro i M G e1 e2 e3 e9 e4 U
    obtain ⟨M, rfl⟩ : ∃ M', M = M' + 1 := ⟨M - 1, by omega⟩
    rw [loopK_succ, seB_eq, if_pos (nI_le (by omega) (by omega))]
    rfl
  | succ m ih =>
    intro i M G e1 e2 e3 e9 e4 U
    obtain ⟨M, rfl⟩ : ∃ M', M = M' + 1 := ⟨M - 1, by omega⟩
    rw [loopK_succ, seB_eq, if_neg (fun q => absurd (nI_lt (a := i) (b := K) (by omega) (by omega)) (Int32.not_lt.mpr q)), l_gw hn, Option.bind_some]
    rw [if_neg (show ¬ nI G.1 ≤ 0 from fun q => absurd (nI_lt (a := 0) (b := G.1) (by omega) (by omega)) (Int32.not_lt.mpr q)), e_sOld hn (e4 0 (by omega)) (by omega) U, bnd_some, show nI i + 1 = nI (i + 1) from nI_add i 1, ih (i + 1) M (soG G) (by omega) (by omega) (by show m ≤ G.1 - 1; omega) (by show G.1 - 1 ≤ 9; omega) (fun j hj => by
      show ¬ shS G.2.2.1 j = .null
      unfold shS
      rw [if_pos (by omega)]
      exact e4 (j + 1) (by omega)) U.sh]
    rfl
theorem e_settle (hn : 1311 ≤ n) {K : Nat} (hK : K ≤ G.1) (hw : G.1 ≤ 9) (h : ∀ j, j < K → ¬ G.2.2.1 j = .null) (U : stU (n, f, us) G.2.2.1) : x_Log_settle (d + 1) 154 (nI K) (n, HG f G, us) = some ((), (n, HG f (seG K G), us)) := by
  have e : x_Log_settle (d + 1) 154 (nI K) (n, HG f G, us) = gd (n, HG f G, us) 154 7 (loopK (seB d (nI K)) FU (nI 0, (n, HG f G, us))) := rfl
  rw [e, l_gd hn, se_L hn (by omega) K 0 FU G (by omega) (by rw [FU_eq]; omega) hK hw h U]
theorem wb_L (hn : 1311 ≤ n) (hw : G.1 ≤ 9) : ∀ m i M y, i + m = G.1 + 1 → m < M → loopK wbB M (y, nI i, (n, HG f G, us)) = some (y + byS G.2.2.2 m i, (n, HG f G, us)) := by
  intro m
  induction m with
  | zero =>
    intro i M y e1 e2
    obtain ⟨M, rfl⟩ : ∃ M', M = M' + 1 := ⟨M - 1, by omega⟩
    rw [loopK_succ, wbB_eq, l_gw hn, Option.bind_some, if_pos (nI_lt (by omega) (by omega)), byS, Int32.add_zero]
  | succ m ih =>
    intro i M y e1 e2
    obtain ⟨M, rfl⟩ : ∃ M', M = M' + 1 := ⟨M - 1, by omega⟩
    rw [loopK_succ, wbB_eq, l_gw hn, Option.bind_some, if_neg (show ¬ nI G.1 < nI i from Int32.not_lt.mpr (nI_le (by omega) (by omega))), l_g1 hn, Option.bind_some, l_ab hn (by omega), Option.bind_some, show nI i + 1 = nI (i + 1) from nI_add i 1, ih (i + 1) M _ (by omega) (by omega), byS, Int32.add_assoc]
theorem e_wBytes (hn : 1311 ≤ n) (hw : G.1 ≤ 9) : x_Log_waitingBytes d 154 (n, HG f G, us) = some (byS G.2.2.2 G.1 1, (n, HG f G, us)) := by
  have e : x_Log_waitingBytes d 154 (n, HG f G, us) = gd (n, HG f G, us) 154 7 (loopK wbB FU (0, nI 1, (n, HG f G, us))) := rfl
  rw [e, l_gd hn, wb_L hn hw G.1 1 FU 0 (by omega) (by rw [FU_eq]; omega), Int32.zero_add]
theorem ww_L (hn : 1311 ≤ n) (hw : G.1 ≤ 9) : ∀ m i M y, i + m = G.1 + 1 → 1 ≤ i → m < M → loopK wwB M (y, nI i, (n, HG f G, us)) = some (nI (wwS G.2.2.2 m i y), (n, HG f G, us)) := by
  intro m
  induction m with
  | zero =>
    intro i M y e1 e0 e2
    obtain ⟨M, rfl⟩ : ∃ M', M = M' + 1 := ⟨M - 1, by omega⟩
    rw [loopK_succ, wwB_eq, l_gw hn, Option.bind_some, if_pos (nI_lt (by omega) (by omega)), Option.bind_some, wwS, show G.1 = i - 1 by omega]
  | succ m ih =>
    intro i M y e1 e0 e2
    obtain ⟨M, rfl⟩ : ∃ M', M = M' + 1 := ⟨M - 1, by omega⟩
    rw [loopK_succ, wwB_eq, l_gw hn, Option.bind_some, if_neg (show ¬ nI G.1 < nI i from Int32.not_lt.mpr (nI_le (by omega) (by omega))), l_g1 hn, Option.bind_some, l_ab hn (by omega), Option.bind_some, wwS]
    by_cases c : G.2.2.2 i ≤ y
    · rw [if_pos c, if_pos c, Option.bind_some, l_ab hn (by omega), Option.bind_some, show nI i + 1 = nI (i + 1) from nI_add i 1, ih (i + 1) M _ (by omega) (by omega) (by omega)]
    · rw [if_neg c, if_neg c, show nI i - 1 = nI (i - 1) from nI_sub e0]
theorem e_whole (hn : 1311 ≤ n) (hw : G.1 ≤ 9) : x_Log_wholeWithin d 154 v (n, HG f G, us) = some (nI (wwS G.2.2.2 G.1 1 v), (n, HG f G, us)) := by
  have e : x_Log_wholeWithin d 154 v (n, HG f G, us) = gd (n, HG f G, us) 154 7 (loopK wwB FU (v, nI 1, (n, HG f G, us))) := rfl
  rw [e, l_gd hn, ww_L hn hw G.1 1 FU v (by omega) (by omega) (by rw [FU_eq]; omega)]
theorem wwS_le (b : Nat → Int32) : ∀ m i y, 1 ≤ i → wwS b m i y ≤ i + m - 1
  | 0, i, y, h => Nat.le_refl _
  | m + 1, i, y, h => by
    rw [wwS]
    by_cases c : b i ≤ y
    · rw [if_pos c]
      have := wwS_le b m (i + 1) (y - b i) (by omega)
      omega
    · rw [if_neg c]
      omega
def apG (G : LGS) (v : Int32) : LGS := if G.1 < 8 then (G.1 + 1, G.2.1, G.2.2.1, upI G.2.2.2 (G.1 + 1) v) else seG 1 (G.1 + 1, G.2.1, G.2.2.1, upI G.2.2.2 (G.1 + 1) v)
theorem e_appendG (hn : 1311 ≤ n) (hw : G.1 ≤ 8) (h : ¬ G.2.2.1 0 = .null) (U : stU (n, f, us) G.2.2.1) : x_Log_append (d + 2) 154 v (n, HG f G, us) = some ((), (n, HG f (apG G v), us)) := by
  unfold x_Log_append apG
  dsimp only
  rw [l_gd hn, l_gw hn, Option.bind_some, show nI G.1 + 1 = nI (G.1 + 1) from nI_add G.1 1, l_pw hn, Option.bind_some, l_g1 hn, Option.bind_some, l_gw hn, Option.bind_some]
  dsimp only
  rw [l_sb hn (by omega), Option.bind_some, l_gw hn, Option.bind_some]
  dsimp only
  by_cases c : G.1 < 8
  · rw [if_pos (show nI (G.1 + 1) ≤ 8 from nI_le (a := G.1 + 1) (b := 8) (by omega) (by omega)), if_pos c]
  · rw [if_neg (show ¬ nI (G.1 + 1) ≤ 8 from nI_ge (a := 8) (by omega) (by omega)), if_neg c, show (1 : Int32) = nI 1 from rfl, e_settle (G := (G.1 + 1, G.2.1, G.2.2.1, upI G.2.2.2 (G.1 + 1) v)) hn (by show 1 ≤ G.1 + 1; omega) (by show G.1 + 1 ≤ 9; omega) (fun j hj => by
      rw [show j = 0 by omega]
      exact h) U, bnd_some]
end
