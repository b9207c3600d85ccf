def wnB (d : Nat) (x2 : Int32) : (Int64 × Int32 × HS → Option (Int64 × HS)) → Int64 × Int32 × HS → Option (Int64 × HS) := (fun (again33 : Int64 × Int32 × HS → Option (Int64 × HS)) (z33 : Int64 × Int32 × HS) => (if x2 ≤ z33.2.1 then (some (z33.1, z33.2.2)) else ((aB z33.2.2 129 z33.2.1).bind fun v5 => (bnd (x_Lexer_isLetter d v5 z33.2.2) fun v7 s6 => (if v7 = 0 then ((aB s6 129 z33.2.1).bind fun v8 => (bnd (x_Lexer_isDigit d v8 s6) fun v10 s9 => (if v10 = 0 then (some (0, s9)) else ((aB s9 129 z33.2.1).bind fun v11 => (bnd (x_Cell_placed d v11 z33.2.1 s9) fun v13 s12 => (again33 ((z33.1 ||| v13), (z33.2.1 + 1), s12))))))) else ((aB s6 129 z33.2.1).bind fun v14 => (bnd (x_Cell_placed d v14 z33.2.1 s6) fun v16 s15 => (again33 ((z33.1 ||| v16), (z33.2.1 + 1), s15)))))))))
theorem wnB_eq {d : Nat} {x2 : Int32} {y : Int64} {z : Int32} {s : HS} {ag : Int64 × Int32 × HS → Option (Int64 × HS)} : wnB d x2 ag (y, z, s) = (if x2 ≤ z then (some (y, s)) else ((aB s 129 z).bind fun v5 => (bnd (x_Lexer_isLetter d v5 s) fun v7 s6 => (if v7 = 0 then ((aB s6 129 z).bind fun v8 => (bnd (x_Lexer_isDigit d v8 s6) fun v10 s9 => (if v10 = 0 then (some (0, s9)) else ((aB s9 129 z).bind fun v11 => (bnd (x_Cell_placed d v11 z s9) fun v13 s12 => (ag ((y ||| v13), (z + 1), s12))))))) else ((aB s6 129 z).bind fun v14 => (bnd (x_Cell_placed d v14 z s6) fun v16 s15 => (ag ((y ||| v16), (z + 1), s15)))))))) := rfl
def mrT (d : Nat) (y : Int64) (s : HS) : Option (Int64 × HS) := ((gR s 160 14 30).bind fun v3 => (bnd (x_State_findRoot d v3 y s) fun v5 s4 => (if 0 ≤ v5 then ((gR s4 160 14 30).bind fun v6 => ((gR s4 v6 13 6).bind fun v7 => ((gR s4 v7 11 0).bind fun v8 => ((aI s4 v8 v5).bind fun v9 => (if v9 = 1 then ((gR s4 160 14 30).bind fun v10 => ((gR s4 v10 13 6).bind fun v11 => ((gR s4 v11 11 2).bind fun v12 => ((aL s4 v12 v5).bind fun v13 => (some (v13, s4)))))) else (if v9 = 2 then ((gR s4 160 14 30).bind fun v14 => ((gR s4 v14 13 6).bind fun v15 => ((gR s4 v15 11 1).bind fun v16 => ((aI s4 v16 v5).bind fun v17 => (some ((1099511627777 + ((8 * v17) : Int32).toInt64), s4)))))) else (some (((1099511627776 + (v9 : Int32).toInt64) - 1), s4)))))))) else (some (1099511627776, s4)))))
def mrB (d : Nat) (v1 : Int32) : (Int64 × Int32 × HS → Option (Int64 × HS)) → Int64 × Int32 × HS → Option (Int64 × HS) := (fun (again15 : Int64 × Int32 × HS → Option (Int64 × HS)) (z15 : Int64 × Int32 × HS) => (if v1 ≤ z15.2.1 then (mrT d z15.1 z15.2.2) else (if 8 < v1 then (some (1099511627776, z15.2.2)) else ((gR z15.2.2 160 14 0).bind fun v18 => ((aB z15.2.2 v18 z15.2.1).bind fun v19 => (if v19 = 0 then (some (1099511627776, z15.2.2)) else ((gR z15.2.2 160 14 0).bind fun v20 => ((aB z15.2.2 v20 z15.2.1).bind fun v21 => (again15 ((((z15.1 : Int64) <<< ((8 : Int32).toInt64 &&& 63)) ||| ((v21 &&& 255) : Int32).toInt64), (z15.2.1 + 1), z15.2.2))))))))))
theorem mrB_eq {d : Nat} {v1 : Int32} {y : Int64} {z : Int32} {s : HS} {ag : Int64 × Int32 × HS → Option (Int64 × HS)} : mrB d v1 ag (y, z, s) = (if v1 ≤ z then (mrT d y s) else (if 8 < v1 then (some (1099511627776, s)) else ((gR s 160 14 0).bind fun v18 => ((aB s v18 z).bind fun v19 => (if v19 = 0 then (some (1099511627776, s)) else ((gR s 160 14 0).bind fun v20 => ((aB s v20 z).bind fun v21 => (ag ((((y : Int64) <<< ((8 : Int32).toInt64 &&& 63)) ||| ((v21 &&& 255) : Int32).toInt64), (z + 1), s))))))))) := rfl

/-! root on both sides -/
def ub (c : Int32) : Nat := (c &&& 255).toNatClampNeg
def uL (g : Nat → Int32) : Nat → Nat → List Nat
  | _, 0 => []
  | q, n + 1 => ub (g q) :: uL g (q + 1) n
def ok256 (w : List Nat) : Prop := ∀ x ∈ w, 1 ≤ x ∧ x < 256
theorem V256_posB : ∀ (w : List Nat), ok256 w → w ≠ [] → 1 ≤ V256 0 w := by
  intro w hw hne
  rcases List.eq_nil_or_concat w with rfl | ⟨v, x, rfl⟩
  · exact absurd rfl hne
  · rw [List.concat_eq_append] at *
    rw [V256_app]
    have := hw x (by simp)
    omega
theorem V256_injB : ∀ (n : Nat) (w w' : List Nat), w.length ≤ n → ok256 w → ok256 w' → V256 0 w = V256 0 w' → w = w'
  | n, w, w', hn, hw, hw', e => by
    rcases List.eq_nil_or_concat w with rfl | ⟨v, x, rfl⟩
    · by_cases h : w' = []
      · exact h.symm
      · have := V256_posB w' hw' h
        rw [← e] at this
        exact absurd this (by decide)
    · rw [List.concat_eq_append] at *
      rcases List.eq_nil_or_concat w' with rfl | ⟨v', x', rfl⟩
      · have := V256_posB (v ++ [x]) hw (by simp)
        rw [e] at this
        exact absurd this (by decide)
      · rw [List.concat_eq_append] at *
        rw [V256_app, V256_app] at e
        have h1 := hw x (by simp)
        have h2 := hw' x' (by simp)
        have ex : x = x' := by omega
        subst ex
        cases n with
        | zero => simp at hn
        | succ n => rw [V256_injB n v v' (by simp at hn; omega) (fun z hz => hw z (by simp [hz])) (fun z hz => hw' z (by simp [hz])) (by omega)]
theorem V256_ltB : ∀ (w : List Nat) (a k : Nat), ok256 w → a < 256 ^ k → V256 a w < 256 ^ (k + w.length)
  | [], a, k, _, h => h
  | x :: w, a, k, hw, h => by
    have h1 := hw x List.mem_cons_self
    have := V256_ltB w (a * 256 + x) (k + 1) (fun z hz => hw z (List.mem_cons_of_mem _ hz)) (by rw [Nat.pow_succ]; omega)
    rw [show k + (x :: w).length = k + 1 + w.length by simp; omega]
    exact this
theorem ofN_64 {a b : Nat} (ha : a < 2 ^ 64) (hb : b < 2 ^ 64) (h : Int64.ofNat a = Int64.ofNat b) : a = b := by
  have e : (BitVec.ofNat 64 a).toNat = (BitVec.ofNat 64 b).toNat := congrArg (fun x : Int64 => x.toBitVec.toNat) h
  rw [BitVec.toNat_ofNat, BitVec.toNat_ofNat, Nat.mod_eq_of_lt ha, Nat.mod_eq_of_lt hb] at e
  exact e
theorem V256_sameB {w w' : List Nat} (h : ok256 w) (h' : ok256 w') (hl : w.length ≤ 8) (hl' : w'.length ≤ 8) (e : Int64.ofNat (V256 0 w) = Int64.ofNat (V256 0 w')) : w = w' := by
  have b : ∀ v : List Nat, ok256 v → v.length ≤ 8 → V256 0 v < 2 ^ 64 := fun v hv hl => by
    have := V256_ltB v 0 0 hv (by decide)
    rw [Nat.zero_add] at this
    have := Nat.pow_le_pow_right (show 0 < 256 by omega) hl
    have e8 : (256 : Nat) ^ 8 = 2 ^ 64 := by decide
    omega
  exact V256_injB _ w w' (Nat.le_refl _) h h' (ofN_64 (b w h hl) (b w' h' hl') e)
theorem bt_ub : ∀ j, j < 256 → bt j &&& 255 = nI j := by decide +kernel
theorem bt_0 : ∀ j, j < 256 → (bt j = 0 ↔ j = 0) := by decide +kernel
theorem bt_l : ∀ j, j < 256 → (s_Lexer_isLetter (bt j) = 0 ↔ ¬ (97 ≤ j ∧ j ≤ 122)) := by decide +kernel
theorem bt_d : ∀ j, j < 256 → (s_Lexer_isDigit (bt j) = 0 ↔ ¬ (48 ≤ j ∧ j ≤ 57)) := by decide +kernel
theorem bt_7 : ∀ j, j < 128 → bt j = nI j := by decide +kernel
theorem b64' : ∀ x, x < 256 → (nI x).toInt64 = Int64.ofNat x := by decide +kernel
theorem nm_stepB {v x : Nat} (hx : x < 256) : ((Int64.ofNat v <<< ((8 : Int32).toInt64 &&& 63)) ||| (nI x).toInt64) = Int64.ofNat (v * 256 + x) := by
  rw [sh8, b64' x hx, or_natU, or_add (k := 8) (by omega) (by omega)]
theorem ub_of {c : Int32} (h : isBt c) : ub c < 256 ∧ c = bt (ub c) ∧ c &&& 255 = nI (ub c) := by
  obtain ⟨j, h1, rfl⟩ := bt_of h
  have e : ub (bt j) = j := by
    unfold ub
    rw [bt_ub j h1, nI_clamp (by omega)]
  rw [e]
  exact ⟨h1, rfl, bt_ub j h1⟩
theorem uL_len (g : Nat → Int32) : ∀ m q, (uL g q m).length = m
  | 0, _ => rfl
  | m + 1, q => by
    rw [uL, List.length_cons, uL_len g m]
theorem uL_mem (g : Nat → Int32) : ∀ m q x, x ∈ uL g q m → ∃ j, q ≤ j ∧ j < q + m ∧ x = ub (g j)
  | 0, _, x, h => by cases h
  | m + 1, q, x, h => by
    rw [uL] at h
    rcases List.mem_cons.mp h with e | h
    · exact ⟨q, Nat.le_refl _, by omega, e⟩
    · obtain ⟨j, j1, j2, j3⟩ := uL_mem g m (q + 1) x h
      exact ⟨j, by omega, by omega, j3⟩
theorem uL_in (g : Nat → Int32) : ∀ m q j, q ≤ j → j < q + m → ub (g j) ∈ uL g q m
  | 0, _, _, h1, h2 => by omega
  | m + 1, q, j, h1, h2 => by
    rw [uL]
    by_cases c : j = q
    · rw [c]
      exact List.mem_cons_self
    · exact List.mem_cons_of_mem _ (uL_in g m (q + 1) j (by omega) (by omega))
theorem uL_nm (g : Nat → Int32) : ∀ m q, (∀ j, q ≤ j → j < q + m → isBt (g j) ∧ ub (g j) < 128) → uL g q m = nmL g q m
  | 0, _, _ => rfl
  | m + 1, q, h => by
    obtain ⟨h1, h2⟩ := h q (Nat.le_refl _) (by omega)
    rw [uL, nmL, uL_nm g m (q + 1) (fun j j1 j2 => h j (by omega) (by omega))]
    congr 1
    have e := (ub_of h1).2.1
    rw [bt_7 _ h2] at e
    rw [show (g q).toNatClampNeg = (nI (ub (g q))).toNatClampNeg from congrArg _ e, nI_clamp (by omega)]
section
variable {s s' : HS} {c L n us d k y m r : Nat} {g : Nat → Int32} {f : Nat → am_C} {b : Nat → Value} {S : SC} {R : RS} {v : V2} {q : VQ}
def lok (g : Nat → Int32) (j : Nat) : Prop := nmX (ub (g j))
theorem lok_of (h : isBt (g k)) : (lok g k ∧ (¬ s_Lexer_isLetter (g k) = 0 ∨ (s_Lexer_isLetter (g k) = 0 ∧ ¬ s_Lexer_isDigit (g k) = 0))) ∨ (¬ lok g k ∧ s_Lexer_isLetter (g k) = 0 ∧ s_Lexer_isDigit (g k) = 0) := by
  obtain ⟨h1, h2, _⟩ := ub_of h
  have a := bt_l _ h1
  have a' := bt_d _ h1
  rw [← h2] at a a'
  unfold lok nmX
  by_cases c1 : 97 ≤ ub (g k) ∧ ub (g k) ≤ 122
  · exact Or.inl ⟨Or.inl c1, Or.inl (fun w => a.mp w c1)⟩
  · by_cases c2 : 48 ≤ ub (g k) ∧ ub (g k) ≤ 57
    · exact Or.inl ⟨Or.inr c2, Or.inr ⟨a.mpr c1, fun w => a'.mp w c2⟩⟩
    · exact Or.inr ⟨fun w => w.elim c1 c2, a.mpr c1, a'.mpr c2⟩
theorem wn_L (hn : 1311 ≤ n) (ht : f 129 = .inl (.byte, 1500, fun j => .int (g j))) (hL : L ≤ 8) (hb : ∀ j, j < 1500 → isBt (g j)) : ∀ m i M (a : Int64), i + m = L → m < M → ((∀ j, i ≤ j → j < L → lok g j) ∧ loopK (wnB d (nI L)) M (a, nI i, (n, f, us)) = some (pcN g 0 m i a, (n, f, us))) ∨ ((∃ j, i ≤ j ∧ j < L ∧ ¬ lok g j) ∧ loopK (wnB d (nI L)) M (a, nI i, (n, f, us)) = some (0, (n, f, us)))
  | _, _, 0, _, _, h => by omega
  | 0, i, M + 1, a, e, _ => by
    refine Or.inl ⟨fun j j1 j2 => by omega, ?_⟩
    rw [loopK_succ, wnB_eq, if_pos (nI_le (by omega) (by omega)), pcN]
  | m + 1, i, M + 1, a, e, hM => by
    have a0 := aB_of (s := (n, f, us)) (i := nI i) ht (by decide) (show 129 < n by omega) (nI_pos (by omega)) (by rw [nI_clamp (by omega)]; omega)
    rw [nI_clamp (by omega)] at a0
    have ih := wn_L hn ht hL hb m (i + 1) M (a ||| s_Cell_placed (g (0 + i)) (nI i)) (by omega) (by omega)
    have st : lok g i → loopK (wnB d (nI L)) (M + 1) (a, nI i, (n, f, us)) = loopK (wnB d (nI L)) M (a ||| s_Cell_placed (g (0 + i)) (nI i), nI (i + 1), (n, f, us)) := fun hl => by
      rw [loopK_succ, wnB_eq, if_neg (nI_ge (by omega) (by omega)), a0, Option.bind_some, e_Lexer_isLetter, bnd_some]
      rcases lok_of (hb i (by omega)) with ⟨_, c1 | ⟨c1, c2⟩⟩ | ⟨c1, _⟩
      · rw [if_neg c1, a0, Option.bind_some, e_Cell_placed, bnd_some, ← nI_succ, Nat.zero_add]
      · rw [if_pos c1, a0, Option.bind_some, e_Lexer_isDigit, bnd_some, if_neg c2, a0, Option.bind_some, e_Cell_placed, bnd_some, ← nI_succ, Nat.zero_add]
      · exact absurd hl c1
    by_cases hl : lok g i
    · rw [st hl]
      rcases ih with ⟨h1, h2⟩ | ⟨⟨j, j1, j2, j3⟩, h2⟩
      · refine Or.inl ⟨fun j j1 j2 => ?_, ?_⟩
        · by_cases c : j = i
          · rw [c]
            exact hl
          · exact h1 j (by omega) j2
        · rw [h2, pcN, if_neg (show ¬ (8 : Int32) ≤ nI i from nI_ge (b := 8) (by omega) (by decide))]
      · exact Or.inr ⟨⟨j, by omega, j2, j3⟩, h2⟩
    · refine Or.inr ⟨⟨i, Nat.le_refl _, by omega, hl⟩, ?_⟩
      rcases lok_of (hb i (by omega)) with ⟨c1, _⟩ | ⟨_, c1, c2⟩
      · exact absurd c1 hl
      · rw [loopK_succ, wnB_eq, if_neg (nI_ge (by omega) (by omega)), a0, Option.bind_some, e_Lexer_isLetter, bnd_some, if_pos c1, a0, Option.bind_some, e_Lexer_isDigit, bnd_some, if_pos c2]
theorem nmW_okN {w : List Nat} (h : nmW w) (hl : w.length ≤ 8) : okN w := ⟨fun x hx => by rcases h.2 x hx with q | q <;> omega, hl, h⟩
theorem e_wn (hn : 1311 ≤ n) (ht : f 129 = .inl (.byte, 1500, fun j => .int (g j))) (hL : L ≤ 1500) (hb : ∀ j, j < 1500 → isBt (g j)) : (L ≤ 8 ∧ nmW (uL g 0 L) ∧ x_Lexer_wholeName (d + 1) 129 (nI L) (n, f, us) = some (nC (uL g 0 L), (n, f, us))) ∨ (¬ (L ≤ 8 ∧ nmW (uL g 0 L)) ∧ x_Lexer_wholeName (d + 1) 129 (nI L) (n, f, us) = some (0, (n, f, us))) := by
  by_cases c1 : L < 1
  · refine Or.inr ⟨fun w => ?_, ?_⟩
    · obtain ⟨x, w', e, _⟩ := w.2.1
      obtain rfl : L = 0 := by omega
      rw [uL] at e
      cases e
    · unfold x_Lexer_wholeName
      dsimp only
      rw [if_pos (show nI L < 1 from nI_lt (b := 1) c1 (by decide))]
  by_cases c2 : 8 < L
  · refine Or.inr ⟨fun w => by omega, ?_⟩
    unfold x_Lexer_wholeName
    dsimp only
    rw [if_neg (show ¬ nI L < 1 from nI_nlt (b := 1) (by omega) (by omega)), if_pos (show 8 < nI L from nI_lt (a := 8) c2 (by omega))]
  obtain ⟨L, rfl⟩ : ∃ k, L = k + 1 := ⟨L - 1, by omega⟩
  have a0 := aB_of (s := (n, f, us)) (i := nI 0) ht (by decide) (show 129 < n by omega) (nI_pos (by omega)) (by rw [nI_clamp (by omega)]; omega)
  rw [nI_clamp (by omega)] at a0
  have hd : x_Lexer_wholeName (d + 1) 129 (nI (L + 1)) (n, f, us) = (if s_Lexer_isLetter (g 0) = 0 then some (0, (n, f, us)) else loopK (wnB d (nI (L + 1))) FU (0, 0, (n, f, us))) := by
    unfold x_Lexer_wholeName
    dsimp only
    rw [if_neg (show ¬ nI (L + 1) < 1 from nI_nlt (b := 1) (by omega) (by omega)), if_neg (show ¬ 8 < nI (L + 1) from nI_nlt (a := 8) (by omega) (by omega)), lenA_of (s := (n, f, us)) ht (by decide) (by decide) (show 129 < n by omega), Option.bind_some, if_neg (show ¬ nI 1500 < nI (L + 1) from nI_nlt (by omega) (by omega))]
    show (aB (n, f, us) 129 (nI 0)).bind _ = _
    rw [a0, Option.bind_some, e_Lexer_isLetter, bnd_some]
    rfl
  rw [hd]
  have l0 : (s_Lexer_isLetter (g 0) = 0 ↔ ¬ (97 ≤ ub (g 0) ∧ ub (g 0) ≤ 122)) := by
    obtain ⟨h1, h2, _⟩ := ub_of (hb 0 (by omega))
    have a := bt_l _ h1
    rw [← h2] at a
    exact a
  by_cases c3 : s_Lexer_isLetter (g 0) = 0
  · rw [if_pos c3]
    refine Or.inr ⟨fun w => ?_, rfl⟩
    obtain ⟨x, w', e, x1, x2⟩ := w.2.1
    rw [uL] at e
    injection e with e1 _
    exact l0.mp c3 (by rw [e1]; exact ⟨x1, x2⟩)
  · rw [if_neg c3]
    rcases wn_L (d := d) (us := us) hn ht (show L + 1 ≤ 8 by omega) hb (L + 1) 0 FU 0 (by omega) (by rw [FU_eq]; omega) with ⟨h1, h2⟩ | ⟨⟨j, j1, j2, j3⟩, h2⟩
    · have W : nmW (uL g 0 (L + 1)) := by
        refine ⟨⟨ub (g 0), uL g 1 L, rfl, ?_⟩, fun x hx => ?_⟩
        · by_cases q : 97 ≤ ub (g 0) ∧ ub (g 0) ≤ 122
          · exact q
          · exact absurd (l0.mpr q) c3
        · obtain ⟨j, j1, j2, rfl⟩ := uL_mem g (L + 1) 0 x hx
          exact h1 j j1 (by omega)
      have K := (nmW_okN W (by rw [uL_len]; omega)).1
      have b7 : ∀ j, 0 ≤ j → j < 0 + (L + 1) → isBt (g j) ∧ ub (g j) < 128 := fun j j1 j2 => ⟨hb j (by omega), (K _ (uL_in g (L + 1) 0 j j1 j2)).2⟩
      refine Or.inl ⟨by omega, W, ?_⟩
      rw [show (0 : Int32) = nI 0 from rfl, h2, show (0 : Int64) = Int64.ofNat 0 from rfl, pcN_eq 0 (L + 1) 0 0 (by omega) (by decide) (by decide) (fun j hj => ?_)]
      · unfold nC
        rw [uL_nm g (L + 1) 0 b7, Nat.zero_add]
      · have j8 := b7 (0 + 0 + j) (by omega) (by omega)
        have j9 := (K _ (uL_in g (L + 1) 0 (0 + 0 + j) (by omega) (by omega))).1
        have e := (ub_of j8.1).2.1
        rw [bt_7 _ j8.2] at e
        rw [e, nI_toInt (by omega)]
        omega
    · refine Or.inr ⟨fun w => j3 (w.2.2 _ (uL_in g (L + 1) 0 j j1 (by omega))), ?_⟩
      rw [show (0 : Int32) = nI 0 from rfl, h2]
theorem mr_L (hn : 1311 ≤ n) (M : OM f b) (b0 : b 0 = .ref 161) (ht : f 161 = .inl (.byte, 1500, fun j => .int (g j))) (hL : L ≤ 8) (hb : ∀ j, j < 1500 → isBt (g j)) : ∀ m i K v, i + m = L → m < K → ((∃ j, i ≤ j ∧ j < L ∧ ub (g j) = 0) ∧ loopK (mrB d (nI L)) K (Int64.ofNat v, nI i, (n, f, us)) = some (1099511627776, (n, f, us))) ∨ ((∀ j, i ≤ j → j < L → ¬ ub (g j) = 0) ∧ loopK (mrB d (nI L)) K (Int64.ofNat v, nI i, (n, f, us)) = mrT d (Int64.ofNat (V256 v (uL g i m))) (n, f, us))
  | _, _, 0, _, _, h => by omega
  | 0, i, K + 1, v, e, _ => by
    refine Or.inr ⟨fun j j1 j2 => by omega, ?_⟩
    rw [loopK_succ, mrB_eq, if_pos (nI_le (by omega) (by omega)), uL, V256]
  | m + 1, i, K + 1, v, e, hK => by
    have a0 := aB_of (s := (n, f, us)) (i := nI i) ht (by decide) (show 161 < n by omega) (nI_pos (by omega)) (by rw [nI_clamp (by omega)]; omega)
    rw [nI_clamp (by omega)] at a0
    obtain ⟨u1, u2, u3⟩ := ub_of (hb i (by omega))
    by_cases c : ub (g i) = 0
    · refine Or.inl ⟨⟨i, Nat.le_refl _, by omega, c⟩, ?_⟩
      rw [loopK_succ, mrB_eq, if_neg (nI_ge (by omega) (by omega)), if_neg (show ¬ 8 < nI L from nI_nlt (a := 8) (by omega) (by omega)), mo_gR M hn (by decide) b0, Option.bind_some, a0, Option.bind_some, if_pos (by rw [u2, c]; decide)]
    · have st : loopK (mrB d (nI L)) (K + 1) (Int64.ofNat v, nI i, (n, f, us)) = loopK (mrB d (nI L)) K (Int64.ofNat (v * 256 + ub (g i)), nI (i + 1), (n, f, us)) := by
        rw [loopK_succ, mrB_eq, if_neg (nI_ge (by omega) (by omega)), if_neg (show ¬ 8 < nI L from nI_nlt (a := 8) (by omega) (by omega)), mo_gR M hn (by decide) b0, Option.bind_some, a0, Option.bind_some, if_neg (fun w => c ((bt_0 _ u1).mp (by rw [← u2]; exact w))), Option.bind_some, a0, Option.bind_some, u3, nm_stepB u1, ← nI_succ]
      rw [st]
      rcases mr_L hn M b0 ht hL hb m (i + 1) K (v * 256 + ub (g i)) (by omega) (by omega) with ⟨⟨j, j1, j2, j3⟩, h2⟩ | ⟨h1, h2⟩
      · exact Or.inl ⟨⟨j, by omega, j2, j3⟩, h2⟩
      · refine Or.inr ⟨fun j j1 j2 => ?_, h2⟩
        by_cases e : j = i
        · rw [e]
          exact c
        · exact h1 j (by omega) j2
/-- what a ROOT's VALUE is told as -/
def ansR (v : V2) : Int64 := s_Stow_asAnswer v.1 v.2 + 8 * (if s_Cell_sortOf v.1 = 2 then (s_Cell_signsOf v.1 v.2).toInt64 else 0)
def ansQ (q : VQ) : Int64 := if q.1 = 1 then q.2.2.1 else if q.1 = 2 then 1099511627777 + ((8 * q.2.1) : Int32).toInt64 else (1099511627776 + q.1.toInt64) - 1
theorem a8 : ∀ k, k < 17 → 1099511627777 + 8 * (nI k).toInt64 = 1099511627777 + (8 * nI k : Int32).toInt64 := by decide +kernel
theorem ans_eq {kd : Nat → Int32} (h : VR kd v q) (h0 : ¬ q.1 = 0) : ansR v = ansQ q := by
  have hs := h.sort
  unfold ansR ansQ s_Stow_asAnswer
  rw [hs]
  rcases h with ⟨rfl, rfl⟩ | ⟨x, rfl, rfl⟩ | ⟨wd, h1, h2, rfl, rfl⟩ | ⟨o, k, o1, k1, o2, rfl, rfl⟩
  · exact absurd rfl h0
  · show x.toInt64 + 8 * 0 = x.toInt64
    simp
  · rw [t7_signs h1 h2]
    exact a8 _ (by omega)
  · rcases k1 with rfl | rfl
    · show (1099511627778 : Int64) + 8 * 0 = 1099511627776 + (3 : Int32).toInt64 - 1
      decide
    · show (1099511627779 : Int64) + 8 * 0 = 1099511627776 + (4 : Int32).toInt64 - 1
      decide
theorem e_b40 (h : ST f r S) (h1 : 128 ≤ r) (h2 : r + 7 < n) (hk : k < 12) : x_Stow_root_b40 (d + 1) r (nI k) (n, f, us) = some (ansR (S.2.2.2.2.1 k, S.2.2.2.2.2.1 k), (n, f, us)) := by
  unfold x_Stow_root_b40 x_Stow_root_b90 ansR
  rw [if_pos (nI_pos' (by omega)), u_g5 h h1 h2, Option.bind_some, u_a5 h h1 h2 hk, Option.bind_some, u_g6 h h1 h2, Option.bind_some, u_a6 h h1 h2 hk, Option.bind_some, e_Cell_sortOf, bnd_some]
  by_cases c : s_Cell_sortOf (S.2.2.2.2.1 k) = 2
  · rw [if_pos c, if_pos c, e_Cell_signsOf, bnd_some, e_Stow_asAnswer, bnd_some]
  · rw [if_neg c, if_neg c, e_Stow_asAnswer, bnd_some]
theorem mrT_no {nw : Nat} {y : Int64} (hn : 1311 ≤ n) (M : OM f b) (b30 : b 30 = .ref nw) (hw : nw = 187 ∨ nw = 204) (h : RSt f nw R) (hk : k ≤ 12) (ek : R.2.2.2.2.2.2.2.2.2.1 = nI k) (hf : s_find R.2.2.2.1 k y < 0) : mrT d y (n, f, us) = some (1099511627776, (n, f, us)) := by
  unfold mrT
  rw [mo_gR M hn (by decide) b30, Option.bind_some, e_findR h (by omega) (by omega) hk ek, bnd_some, if_neg (Int32.not_le.mpr hf)]
theorem RSt.vv (h : RSt f r R) (h1 : 128 ≤ r) (h2 : r + 16 < n) : VA (n, f, us) (r + 11) 12 (rVl R) := ⟨⟨(congrFun h.eq (r + 11)).trans HS_11, (congrFun h.eq (r + 12)).trans HS_12, (congrFun h.eq (r + 13)).trans HS_13, (congrFun h.eq (r + 14)).trans HS_14, (congrFun h.eq (r + 15)).trans HS_15⟩, by omega, by show r + 11 + 4 < n; omega, by decide⟩
theorem mrT_yes {nw j : Nat} {y : Int64} (hn : 1311 ≤ n) (M : OM f b) (b30 : b 30 = .ref nw) (hw : nw = 187 ∨ nw = 204) (h : RSt f nw R) (hk : k ≤ 12) (ek : R.2.2.2.2.2.2.2.2.2.1 = nI k) (hj : j < 12) (hf : s_find R.2.2.2.1 k y = nI j) : mrT d y (n, f, us) = some (ansQ (rVl R j), (n, f, us)) := by
  have c0 : f nw = _ := (congrFun h.eq nw).trans HS_0
  have V : VA (n, f, us) (nw + 11) 12 (rVl R) := h.vv (by omega) (by omega)
  have a0 := aI_of (s := (n, f, us)) (i := nI j) V.1.2.1 (by omega) (show nw + 11 + 1 < n by omega) (nI_pos (by omega)) (by rw [nI_clamp (by omega)]; exact hj)
  have a1 := aI_of (s := (n, f, us)) (i := nI j) V.1.2.2.1 (by omega) (show nw + 11 + 2 < n by omega) (nI_pos (by omega)) (by rw [nI_clamp (by omega)]; exact hj)
  have a2 := aL_of (s := (n, f, us)) (i := nI j) V.1.2.2.2.1 (by omega) (show nw + 11 + 3 < n by omega) (nI_pos (by omega)) (by rw [nI_clamp (by omega)]; exact hj)
  rw [nI_clamp (by omega)] at a0 a1 a2
  have g6 : gR (n, f, us) nw 13 6 = some (nw + 11) := gR_of (s := (n, f, us)) (k := 6) c0 (by omega) (show nw < n by omega) rfl
  unfold mrT ansQ
  rw [mo_gR M hn (by decide) b30, Option.bind_some, e_findR h (by omega) (by omega) hk ek, bnd_some, hf, if_pos (nI_pos' (by omega)), mo_gR M hn (by decide) b30, Option.bind_some, g6, Option.bind_some, gR_of (s := (n, f, us)) (k := 0) (x := nw + 11 + 1) V.1.1 (by omega) (show nw + 11 < n by omega) rfl, Option.bind_some, a0, Option.bind_some]
  by_cases c1 : (rVl R j).1 = 1
  · rw [if_pos c1, if_pos c1, Option.bind_some, g6, Option.bind_some, gR_of (s := (n, f, us)) (k := 2) (x := nw + 11 + 3) V.1.1 (by omega) (show nw + 11 < n by omega) rfl, Option.bind_some, a2, Option.bind_some]
  · rw [if_neg c1, if_neg c1]
    by_cases c2 : (rVl R j).1 = 2
    · rw [if_pos c2, if_pos c2, Option.bind_some, g6, Option.bind_some, gR_of (s := (n, f, us)) (k := 1) (x := nw + 11 + 2) V.1.1 (by omega) (show nw + 11 < n by omega) rfl, Option.bind_some, a1, Option.bind_some]
    · rw [if_neg c2, if_neg c2]
theorem BG.le {L' Nm : Nat} {N : N3} (h : BG c s L N Nm) (hL : L' ≤ L) : BG c s L' N Nm := ⟨by have := h.1; omega, by have := h.2; omega⟩
theorem nC_ne0 {w : List Nat} (h : okN w) : ¬ nC w = 0 := fun e => by
  obtain ⟨x, w', rfl, x1, x2⟩ := h.2.2.1
  have h8 := C128_lt 8 _ h.1
  have e8 : (128 : Nat) ^ 8 = 2 ^ 56 := by decide
  have e0 := ofN_inj (b := 0) (by omega) (by decide) e
  rw [C128] at e0
  have : 1 ≤ x * 128 ^ 7 := Nat.mul_pos (by omega) (by decide)
  omega
theorem fd_no {w : List Nat} (X : SR S R) (h : ok256 w) (hl : w.length ≤ 8) (hw : ¬ nmW w) : s_find R.2.2.2.1 S.2.2.2.2.2.2.1 (Int64.ofNat (V256 0 w)) < 0 := by
  have h12 := X.2.2.1
  rcases find_or (g := R.2.2.2.1) (k := S.2.2.2.2.2.2.1) (y := Int64.ofNat (V256 0 w)) (by omega) with c | ⟨j, hj, _, e⟩
  · exact c
  · obtain ⟨w', w1, _, w3, _⟩ := X.2.2.2.2.1 j hj
    rw [w3] at e
    unfold nV at e
    have := V256_sameB (fun x hx => ⟨(w1.1 x hx).1, by have := (w1.1 x hx).2; omega⟩) h w1.2.1 hl e
    rw [this] at w1
    exact absurd w1.2.2 hw
theorem J_root (H : INV c s) : JM c s (x_Stow_root (d + 3 + 1) 128) (x_Mod_root (d + 3 + 1) 160) := by
  obtain ⟨L, g, O, w, sb, bys, SS, FF, v, fu, om, ob, lg, Rn, Rs, WR, q0, ⟨I, N, hh, tt, Nm, st, rs, un, X, own, C, B⟩, ⟨b, nw, wr, pn, ps, pp, X', R⟩, Q⟩ := H
  obtain ⟨n, f, us⟩ := s
  have hn : 1311 ≤ n := C.nn
  have hL := C.1.2.1
  have hb := C.1.2.2
  have c1 : c128 f L v fu := C.1.1
  obtain ⟨f1, e1, e2, e3⟩ := c1.p1 (us := us) (L' := 0) hn
  have C1 : CKx (n, f1, us) 0 g I N hh tt Nm O (w, sb, st, bys) rs SS un FF v fu X own := C.top (Nat.le_refl _) (fun z _ z1 z2 _ _ => e3 z z1) e2 (by omega) ((e3 _ (by decide)).trans C.tape) hb (C.2.2.1.1.keep (e3 _ (by decide)) (e3 _ (by decide))) C.2.2.1.2
  obtain ⟨⟨n2, f2, us2⟩, ⟨w', sb', st', bys'⟩, rs', l1, l2, l3, l4, l5⟩ := e_latest (d := d) C1.2.2.2.2.1
  obtain ⟨own', ho, C2⟩ := C1.lg l2 l5 (fun _ _ => rfl) (p0 := w) (by have := C.2.2.2.2.1.2.2.1; show w < 10; have : w ≤ 8 := this; omega) l3 (fun z z1 z2 _ => l4 z z1 z2)
  have B2 : BG (c + 18) (n2, f2, us2) 0 N Nm := (show BG c (n, f1, us) 0 N Nm from (show BG c (n, f1, us) L N Nm from B).le (Nat.zero_le _)).lg l5 (by decide)
  have hw8 : w ≤ 8 := C.2.2.2.2.1.2.2.1
  have n12 : n ≤ n2 := l5.2.2.1
  have hn2 : 1311 ≤ n2 := by omega
  obtain ⟨rfl, rfl, rfl⟩ : w' = w ∧ sb' = sb ∧ bys' = bys := l5.1
  have R2 : RKx (n2, f2, us2) b L g om ob nw w' lg Rn Rs wr WR pn ps pp FF q0 fu X' := R.keep n12 (fun z z1 z2 => (l4 z (by show z < n; omega) (by omega)).trans (e3 z (by omega)))
  obtain ⟨f3, m1, m2, m3⟩ := mo_p (us := us2) (v := .int (nI 0)) R2.1.1 hn2 (show 2 < 53 by decide)
  have C3 : CKx (n2, f3, us2) 0 g I N hh tt Nm O (w', sb', st', bys') rs' SS un FF v fu X own' := C2.keep (Nat.le_refl _) (fun z z1 z2 => m3 z (by omega))
  have R3 : RKx (n2, f3, us2) (updV b 2 (.int (nI 0))) 0 g om ob nw w' lg Rn Rs wr WR pn ps pp FF q0 fu X' := R2.top (Nat.le_refl _) m2 R2.1.2.2.1.u2 (R2.2.1.chg ((m3 _ (by decide)).trans R2.tape) ((m3 _ (by decide)).trans R2.out) (fun z z1 z2 _ => m3 z (by omega))) (fun z z1 z2 _ => m3 z (by omega))
  have fin : INV (c + 19) (n2, f3, us2) := ⟨0, g, O, w', sb', bys', SS, FF, v, fu, om, ob, lg, Rn, Rs, WR, q0, ⟨I, N, hh, tt, Nm, st', rs', un, X, own', C3, (show BG (c + 18) (n2, f3, us2) 0 N Nm from B2).mono (by omega)⟩, ⟨_, nw, wr, pn, ps, pp, X', R3⟩, Q⟩
  have Q1 := Q.1
  have SI1 := Q1.si
  have h12 := Q1.2.2.1
  obtain ⟨S1, r1, r2⟩ : ST f2 (rs' w') (SS w') ∧ 1311 ≤ rs' w' ∧ rs' w' + 7 < n2 := by
    rcases l2.2.2.2.1 w' (by omega) with ⟨a, _⟩ | ⟨_, a⟩
    · exact absurd (l3.symm.trans a) rf_nn
    · exact a
  have e1' : pV (n, f, us) 128 9 1 (.int 0) = some (n, f1, us) := e1
  have m1' : pV (n2, f2, us2) 160 14 2 (.int 0) = some (n2, f3, us2) := m1
  have l1' : x_Log_latest (d + 3) 154 (n, f1, us) = some (rs' w', (n2, f2, us2)) := l1
  have b30 : updV b 2 (.int (nI 0)) 30 = .ref nw := R3.1.2.2.1.2.2.2.2.2.1
  have hnw := R3.1.2.2.2.2
  have RS1 : RSt f3 nw Rn := R3.2.2.1.1
  have ek := Q1.2.2.2.1
  have mh : ∀ {a : Option (Int64 × HS)}, loopK (mrB (d + 3) (nI L)) FU (0, 0, (n2, f3, us2)) = a → x_Mod_root (d + 3 + 1) 160 (n2, f2, us2) = a := fun {a} ha => by
    unfold x_Mod_root
    dsimp only
    rw [mo_gd R2.1.1 hn2, mo_gI R2.1.1 hn2 (by decide) R2.1.2.2.1.2.2.2.1, Option.bind_some, m1', Option.bind_some]
    exact ha
  rcases e_wn (d := d + 2) (us := us) hn C.tape hL hb with ⟨k1, k2, k3⟩ | ⟨k1, k3⟩
  · have K := nmW_okN k2 (by rw [uL_len]; omega)
    have ff := SR_fr Q1 K
    rcases mr_L (d := d + 3) (us := us2) hn2 R3.1.1 (R3.rf (by decide)) R3.tape k1 hb L 0 FU 0 (by omega) (by rw [FU_eq]; omega) with ⟨⟨j, j1, j2, j3⟩, _⟩ | ⟨_, k4⟩
    · have := (K.1 _ (uL_in g L 0 j j1 (by omega))).1
      omega
    · have hd : x_Stow_root (d + 3 + 1) 128 (n, f, us) = x_Stow_root_b40 (d + 3) (rs' w') (s_find (SS w').2.2.2.1 (SS w').2.2.2.2.2.2.1 (nC (uL g 0 L))) (n2, f2, us2) := by
        unfold x_Stow_root
        dsimp only
        rw [c1.lk hn, c1.gr hn (k := 0) rfl, Option.bind_some, c1.gi hn, Option.bind_some, k3, bnd_some, e1', Option.bind_some, e2.gr hn (k := 5) rfl, Option.bind_some, l1', bnd_some, if_neg (fun w => nC_ne0 K (lc_eq.mp w)), u_rootAt S1 (by omega) r2 SI1, bnd_some]
      rcases find_or (g := (SS w').2.2.2.1) (k := (SS w').2.2.2.2.2.2.1) (y := nC (uL g 0 L)) (by omega) with c0 | ⟨j, hj, c0, _⟩
      · refine ⟨1099511627776, (n2, f2, us2), (n2, f3, us2), ?_, mh (k4.trans (mrT_no hn2 R3.1.1 b30 hnw RS1 h12 ek ?_)), fin⟩
        · rw [hd]
          unfold x_Stow_root_b40
          rw [if_neg (Int32.not_le.mpr c0)]
        · rw [ff] at c0
          exact c0
      · obtain ⟨_, _, _, _, vv, v0⟩ := Q1.2.2.2.2.1 j hj
        refine ⟨ansR ((SS w').2.2.2.2.1 j, (SS w').2.2.2.2.2.1 j), (n2, f2, us2), (n2, f3, us2), ?_, mh (k4.trans ?_), fin⟩
        · rw [hd, c0, e_b40 S1 (by omega) r2 (by omega)]
        · rw [ans_eq vv v0]
          rw [ff] at c0
          exact mrT_yes hn2 R3.1.1 b30 hnw RS1 h12 ek (by omega) c0
  · have hc : x_Stow_root (d + 3 + 1) 128 (n, f, us) = some (1099511627776, (n2, f2, us2)) := by
      unfold x_Stow_root
      dsimp only
      rw [c1.lk hn, c1.gr hn (k := 0) rfl, Option.bind_some, c1.gi hn, Option.bind_some, k3, bnd_some, e1', Option.bind_some, e2.gr hn (k := 5) rfl, Option.bind_some, l1', bnd_some, if_pos (lc_eq.mpr rfl)]
      unfold x_Stow_root_b40
      rw [if_neg (by decide)]
    by_cases c8 : L ≤ 8
    · have hw : ¬ nmW (uL g 0 L) := fun w => k1 ⟨c8, w⟩
      rcases mr_L (d := d + 3) (us := us2) hn2 R3.1.1 (R3.rf (by decide)) R3.tape c8 hb L 0 FU 0 (by omega) (by rw [FU_eq]; omega) with ⟨_, k4⟩ | ⟨k5, k4⟩
      · exact ⟨_, _, _, hc, mh k4, fin⟩
      · refine ⟨_, _, _, hc, mh (k4.trans (mrT_no hn2 R3.1.1 b30 hnw RS1 h12 ek (fd_no Q1 (fun x hx => ?_) (by rw [uL_len]; exact c8) hw))), fin⟩
        obtain ⟨j, j1, j2, rfl⟩ := uL_mem g L 0 x hx
        have := k5 j j1 (by omega)
        have := (ub_of (hb j (by omega))).1
        omega
    · refine ⟨_, _, _, hc, mh ?_, fin⟩
      have key : ∀ M, 0 < M → loopK (mrB (d + 3) (nI L)) M (0, 0, (n2, f3, us2)) = some (1099511627776, (n2, f3, us2)) := fun M hM => by
        obtain ⟨M, rfl⟩ : ∃ k, M = k + 1 := ⟨M - 1, by omega⟩
        rw [loopK_succ, mrB_eq, if_neg (show ¬ nI L ≤ 0 from nI_nle (by omega) (by omega)), if_pos (show 8 < nI L from nI_lt (a := 8) (by omega) (by omega))]
      exact key FU (by rw [FU_eq]; omega)
end
