/-! is(..) of the reference -/
def alL (g : Nat → Int32) (q : Nat) (l : List Int32) : Nat → Nat → Bool
  | 0, _ => true
  | m + 1, i => decide (g (q + i) = l.getD i 0) && alL g q l m (i + 1)
theorem alL_iff {g : Nat → Int32} {q : Nat} {l : List Int32} : ∀ m i, alL g q l m i = true ↔ ∀ j, i ≤ j → j < i + m → g (q + j) = l.getD j 0
  | 0, i => ⟨fun _ j h1 h2 => by omega, fun _ => rfl⟩
  | m + 1, i => by
    rw [alL, Bool.and_eq_true, alL_iff m (i + 1), decide_eq_true_eq]
    constructor
    · rintro ⟨h1, h2⟩ j h3 h4
      by_cases e : j = i
      · rw [e]; exact h1
      · exact h2 j (by omega) (by omega)
    · intro h
      exact ⟨h i (Nat.le_refl _) (by omega), fun j h1 h2 => h j (by omega) (by omega)⟩
section
variable {n us d : Nat} {f : Nat → am_C} {g : Nat → Int32} {L : Nat} {tm om sz nx kd fr to fa ps : Int32} {nb : Int64} {R : List Value}
theorem e_is16 (hn : 1311 ≤ n) (U : f 161 = .inl (.byte, 1500, fun j => .int (g j))) (hL : L ≤ 1500) (hd : 3 ≤ d) {id : Nat} {l : List Int32} (hl : st_by id = some l) (hch : ∀ k, k < l.length → ((l.getD k 0 &&& 255).toUInt32 % 65536).toInt32 = l.getD k 0) (hlen : l.length < 1000) {q p : Nat} (hq : q ≤ p) (hp : p ≤ L) : x_Mod_is_b16 d 160 id (n, va_up f 160 (mdC tm om (nI L) nx kd (nI q) (nI p) fa ps nb R), us) = some (if p - q = l.length ∧ alL g q l l.length 0 = true then 1 else 0, (n, va_up f 160 (mdC tm om (nI L) nx kd (nI q) (nI p) fa ps nb R), us)) := by
  unfold x_Mod_is_b16
  have eL : strLen id = some (nI l.length) := by unfold strLen; rw [hl]; rfl
  have eA : ∀ k, k < l.length → strAt id (nI k) = some (l.getD k 0) := fun k hk => by
    unfold strAt
    rw [hl, Option.bind_some, if_pos ⟨nI_pos (by omega), by rw [nI_clamp (by omega)]; exact hk⟩, nI_clamp (by omega), hch k hk]
  simp only [gI, gL, gR, G_gV (show 128 ≤ 160 by decide) (show 160 < n by omega), List.getElem?_cons_succ, List.getElem?_cons_zero, asI_s, asL_s, asR_s, Option.bind_some, bnd_some, List.set_cons_succ, List.set_cons_zero, dp_of (show 1 ≤ d by omega), dp_of hd, eL, nI_sub hq]
  by_cases c : p - q = l.length
  · rw [if_pos (show nI (p - q) = nI l.length by rw [c])]
    simp only [c, true_and]
    refine loop_ind (fun z r => ∀ m i, i + m = l.length → z = (nI i, (n, va_up f 160 (mdC tm om (nI L) nx kd (nI q) (nI p) fa ps nb R), us)) → r = some (if alL g q l m i = true then 1 else 0, (n, va_up f 160 (mdC tm om (nI L) nx kd (nI q) (nI p) fa ps nb R), us))) (fun z => l.length - z.1.toNatClampNeg) (fun again z ih m i e ez => ?_) FU _ (by rw [FU_eq]; omega) l.length 0 (by omega) rfl
    subst ez
    cases m with
    | zero =>
      obtain rfl : i = l.length := by omega
      simp only [Option.bind_some, if_pos (Int32.le_refl (nI l.length)), alL, if_true]
    | succ m =>
      simp only [gI, gL, gR, G_gV (show 128 ≤ 160 by decide) (show 160 < n by omega), List.getElem?_cons_succ, List.getElem?_cons_zero, asI_s, asL_s, asR_s, Option.bind_some, bnd_some, List.set_cons_succ, List.set_cons_zero, if_neg (nI_ge (show i < l.length by omega) (show l.length < 2 ^ 31 by omega)), eA i (by omega), nI_add, M_aBn hn U hL (show q + i < 1500 by omega)]
      by_cases c3 : g (q + i) = l.getD i 0
      · rw [if_pos c3, ← nI_succ, ih _ (by simp only [nI_clamp (show i + 1 < 2 ^ 31 by omega), nI_clamp (show i < 2 ^ 31 by omega)]; omega) m (i + 1) (by omega) rfl, alL, decide_eq_true c3, Bool.true_and]
      · rw [if_neg c3, alL, decide_eq_false c3, Bool.false_and, if_neg (by decide)]
  · rw [if_neg (fun w => c (nI_inj (by omega) (by omega) w)), if_neg (fun w => c w.1)]
theorem e_is (hn : 1311 ≤ n) (U : f 161 = .inl (.byte, 1500, fun j => .int (g j))) (hL : L ≤ 1500) (hd : 3 ≤ d) {id : Nat} {l : List Int32} (hl : st_by id = some l) (hch : ∀ k, k < l.length → ((l.getD k 0 &&& 255).toUInt32 % 65536).toInt32 = l.getD k 0) (hlen : l.length < 1000) {q p : Nat} (hq : q ≤ p) (hp : p ≤ L) : x_Mod_is (d + 1) 160 id (n, va_up f 160 (mdC tm om (nI L) nx kd (nI q) (nI p) fa ps nb R), us) = some (if (kd = 2 ∨ kd = 5) ∧ p - q = l.length ∧ alL g q l l.length 0 = true then 1 else 0, (n, va_up f 160 (mdC tm om (nI L) nx kd (nI q) (nI p) fa ps nb R), us)) := by
  unfold x_Mod_is
  dsimp only
  rw [G_gd (by decide) (by omega)]
  simp only [gI, gL, gR, G_gV (show 128 ≤ 160 by decide) (show 160 < n by omega), List.getElem?_cons_succ, List.getElem?_cons_zero, asI_s, asL_s, asR_s, Option.bind_some, bnd_some, List.set_cons_succ, List.set_cons_zero, e_is16 hn U hL hd hl hch hlen hq hp]
  by_cases c1 : kd = 2
  · rw [if_pos c1]
    simp only [c1, true_or, true_and]
  · by_cases c2 : kd = 5
    · rw [if_neg c1, if_pos c2]
      simp only [c2, or_true, true_and]
    · simp only [if_neg c1, if_neg c2, c1, c2, or_self, false_and, if_false]
end

/-- the reference's texts from number 12 on: their kind and their bytes -/
def kS : List (Int32 × List Nat) := [(5, [102, 117, 110]), (40, [40]), (41, [41]), (44, [44]), (123, [123]), (125, [125]), (6, [108, 101, 116]), (61, [61]), (45, [45]), (33, [33]), (13, [110, 105, 108]), (14, [115, 105, 122, 101]), (15, [112, 117, 115, 104]), (16, [112, 111, 112]), (91, [91]), (58, [58]), (93, [93]), (46, [46]), (43, [43]), (42, [42]), (47, [47]), (37, [37]), (256, [61, 61]), (257, [33, 61]), (60, [60]), (258, [60, 61]), (260, [124, 124]), (259, [38, 38]), (59, [59]), (7, [105, 102]), (8, [101, 108, 115, 101]), (9, [119, 104, 105, 108, 101]), (10, [114, 101, 116, 117, 114, 110]), (11, [97, 98, 111, 114, 116]), (12, [112, 114, 105, 110, 116])]
theorem kS_st : ∀ i, i < 35 → st_by (2 * i + 12) = some ((kS.getD i (0, [])).2.map nI) ∧ (kS.getD i (0, [])).2.length < 1000 ∧ kS.getD i (0, []) ∈ KT := by decide +kernel
theorem kS_ch : ∀ i, i < 35 → ∀ k, k < ((kS.getD i (0, [])).2.map nI).length → (((((kS.getD i (0, [])).2.map nI).getD k 0) &&& 255).toUInt32 % 65536).toInt32 = ((kS.getD i (0, [])).2.map nI).getD k 0 := by decide +kernel
theorem KT_inj : ∀ e ∈ KT, ∀ e' ∈ KT, e.1 = e'.1 ↔ e.2 = e'.2 := by decide +kernel
theorem KT_big : ∀ e ∈ KT, ¬ e.1 = 0 ∧ ¬ e.1 = 1 ∧ ¬ e.1 = 2 ∧ ¬ e.1 = 3 ∧ ¬ e.1 = 4 ∧ ∀ x ∈ e.2, x < 128 := by decide +kernel
section
variable {n us d : Nat} {f : Nat → am_C} {g : Nat → Int32} {L : Nat} {tm om sz nx kd fr to fa ps : Int32} {nb : Int64} {R : List Value}
theorem is_tok (hn : 1311 ≤ n) (U : f 161 = .inl (.byte, 1500, fun j => .int (g j))) (hL : L ≤ 1500) (hd : 3 ≤ d) {q : Nat} {T : Nat × Int32 × Int32 × Int64 × Int64} {t : Nat × Int32 × Int64} (hT : TK g L q T t) (hq : q ≤ L) (ht : q ≤ t.1 ∧ t.1 ≤ L) {i : Nat} (hi : i < 35) : x_Mod_is (d + 1) 160 (2 * i + 12) (n, va_up f 160 (mdC tm om (nI L) (nI t.1) t.2.1 (nI q) (nI t.1) fa ps t.2.2 R), us) = some (if T.2.1 = (kS.getD i (0, [])).1 then 1 else 0, (n, va_up f 160 (mdC tm om (nI L) (nI t.1) t.2.1 (nI q) (nI t.1) fa ps t.2.2 R), us)) := by
  obtain ⟨k1, k2, k3⟩ := kS_st i hi
  rw [e_is hn U hL hd k1 (kS_ch i hi) (by rw [List.length_map]; exact k2) ht.1 ht.2]
  obtain ⟨n0, n1, n2, n3, n4, n5⟩ := KT_big _ k3
  have fin : ((t.2.1 = 2 ∨ t.2.1 = 5) ∧ t.1 - q = ((kS.getD i (0, [])).2.map nI).length ∧ alL g q ((kS.getD i (0, [])).2.map nI) ((kS.getD i (0, [])).2.map nI).length 0 = true) ↔ T.2.1 = (kS.getD i (0, [])).1 := by
    rcases hT with ⟨a1, a2⟩ | ⟨a0, a1, a2, h⟩
    · rw [a1, a2]
      exact ⟨fun w => absurd w.1 (by decide), fun w => absurd w.symm n1⟩
    · rcases h with ⟨c1, c2, -⟩ | ⟨c1, c2, -⟩ | ⟨c1, c2, -⟩ | ⟨c1, c2, -⟩ | ⟨e, he, c1, c2, c3, c4, c5⟩
      · rw [c1, c2]
        exact ⟨fun w => absurd w.1 (by decide), fun w => absurd w.symm n0⟩
      · rw [c1, c2]
        exact ⟨fun w => absurd w.1 (by decide), fun w => absurd w.symm n2⟩
      · rw [c1, c2]
        exact ⟨fun w => absurd w.1 (by decide), fun w => absurd w.symm n3⟩
      · rw [c1, c2]
        exact ⟨fun w => absurd w.1 (by decide), fun w => absurd w.symm n4⟩
      · rw [c1, KT_inj e he _ k3, ← a0, c2, Nat.add_sub_cancel_left, List.length_map, alL_iff]
        have k25 : t.2.1 = 2 ∨ t.2.1 = 5 := by
          rw [c4]
          split
          · exact Or.inl rfl
          · exact Or.inr rfl
        have m5 := (KT_big e he).2.2.2.2.2
        constructor
        · rintro ⟨-, w2, w3⟩
          apply List.ext_getElem w2
          intro j h1 h2
          have w4 := w3 j (by omega) (by omega)
          have g1 : (nmL g q e.2.length).getD j 0 = e.2.getD j 0 := by rw [c3]
          rw [nmL_get h1, w4] at g1
          have g2 : ((kS.getD i (0, [])).2.map nI).getD j 0 = nI ((kS.getD i (0, [])).2[j]) := by
            rw [List.getD_eq_getElem?_getD, List.getElem?_map, List.getElem?_eq_getElem h2]
            rfl
          have g3 : e.2.getD j 0 = e.2[j] := by
            rw [List.getD_eq_getElem?_getD, List.getElem?_eq_getElem h1]
            rfl
          have g4 := n5 _ (List.getElem_mem h2)
          rw [g2, nI_clamp (by omega), g3] at g1
          exact g1.symm
        · intro w
          refine ⟨k25, by rw [w], fun j h1 h2 => ?_⟩
          rw [← w]
          have hj : j < e.2.length := by rw [w]; omega
          have g1 : (nmL g q e.2.length).getD j 0 = e.2.getD j 0 := by rw [c3]
          rw [nmL_get hj] at g1
          have g2 : (e.2.map nI).getD j 0 = nI (e.2.getD j 0) := by
            rw [List.getD_eq_getElem?_getD, List.getElem?_map, List.getElem?_eq_getElem hj, List.getD_eq_getElem?_getD, List.getElem?_eq_getElem hj]
            rfl
          rw [g2, ← g1]
          refine (nI_back fun q' => ?_).symm
          have := Int32.lt_iff_toInt_lt.mp q'
          have := c5 j hj
          simp at *
          omega
  by_cases c : T.2.1 = (kS.getD i (0, [])).1
  · rw [if_pos (fin.mpr c), if_pos c]
  · rw [if_neg (fun w => c (fin.mp w)), if_neg c]
end
