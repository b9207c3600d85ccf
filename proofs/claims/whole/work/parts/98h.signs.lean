theorem l_add {a b : Int64} (h1 : -2 ^ 63 ≤ a.toInt + b.toInt) (h2 : a.toInt + b.toInt < 2 ^ 63) : (a + b).toInt = a.toInt + b.toInt := by
  rw [Int64.toInt_add]
  exact Int.bmod_eq_of_le (by omega) (by omega)
theorem l_sub {a b : Int64} (h1 : -2 ^ 63 ≤ a.toInt - b.toInt) (h2 : a.toInt - b.toInt < 2 ^ 63) : (a - b).toInt = a.toInt - b.toInt := by
  rw [Int64.toInt_sub]
  exact Int.bmod_eq_of_le (by omega) (by omega)
theorem l_mul {a b : Int64} (h1 : -2 ^ 63 ≤ a.toInt * b.toInt) (h2 : a.toInt * b.toInt < 2 ^ 63) : (a * b).toInt = a.toInt * b.toInt := by
  rw [Int64.toInt_mul]
  exact Int.bmod_eq_of_le (by omega) (by omega)
def NR (x y : Int64) : Prop := (x = y ∧ 0 ≤ x.toInt ∧ x.toInt < 2147483648) ∨ (x = 2147483648 ∧ 2147483648 ≤ y.toInt ∧ y.toInt ≤ 1099511627776)
theorem bt_dig : ∀ j, j < 256 → ¬ s_Mod_isDigit (bt j) = 0 → 48 ≤ (bt j).toInt ∧ (bt j).toInt ≤ 57 := by decide +kernel
theorem NR_step {x y : Int64} {c : Int32} (h : NR x y) (hc : 48 ≤ c.toInt ∧ c.toInt ≤ 57) : NR (if 2147483648 < x * 10 + c.toInt64 - 48 then 2147483648 else x * 10 + c.toInt64 - 48) (if 10 * y + c.toInt64 - 48 < 1099511627776 then 10 * y + c.toInt64 - 48 else 1099511627776) := by
  have ec : c.toInt64.toInt = c.toInt := Int32.toInt_toInt64 c
  have e10 : (10 : Int64).toInt = 10 := rfl
  have e48 : (48 : Int64).toInt = 48 := rfl
  have e31 : (2147483648 : Int64).toInt = 2147483648 := rfl
  have e40 : (1099511627776 : Int64).toInt = 1099511627776 := rfl
  have hx : 0 ≤ x.toInt ∧ x.toInt ≤ 2147483648 := by
    rcases h with ⟨-, h1, h2⟩ | ⟨rfl, -, -⟩
    · omega
    · exact ⟨by decide, by decide⟩
  have hy : 0 ≤ y.toInt ∧ y.toInt ≤ 1099511627776 := by
    rcases h with ⟨rfl, h1, h2⟩ | ⟨-, h1, h2⟩ <;> omega
  have a1 : (x * 10).toInt = x.toInt * 10 := by rw [l_mul (by rw [e10]; omega) (by rw [e10]; omega), e10]
  have a2 : (x * 10 + c.toInt64).toInt = x.toInt * 10 + c.toInt := by rw [l_add (by rw [a1, ec]; omega) (by rw [a1, ec]; omega), a1, ec]
  have a3 : (x * 10 + c.toInt64 - 48).toInt = x.toInt * 10 + c.toInt - 48 := by rw [l_sub (by rw [a2, e48]; omega) (by rw [a2, e48]; omega), a2, e48]
  have b1 : (10 * y).toInt = 10 * y.toInt := by rw [l_mul (by rw [e10]; omega) (by rw [e10]; omega), e10]
  have b2 : (10 * y + c.toInt64).toInt = 10 * y.toInt + c.toInt := by rw [l_add (by rw [b1, ec]; omega) (by rw [b1, ec]; omega), b1, ec]
  have b3 : (10 * y + c.toInt64 - 48).toInt = 10 * y.toInt + c.toInt - 48 := by rw [l_sub (by rw [b2, e48]; omega) (by rw [b2, e48]; omega), b2, e48]
  have p1 : (2147483648 < x * 10 + c.toInt64 - 48) ↔ 2147483648 < x.toInt * 10 + c.toInt - 48 := by rw [Int64.lt_iff_toInt_lt, a3, e31]
  have p2 : (10 * y + c.toInt64 - 48 < 1099511627776) ↔ 10 * y.toInt + c.toInt - 48 < 1099511627776 := by rw [Int64.lt_iff_toInt_lt, b3, e40]
  unfold NR
  by_cases q1 : 2147483648 < x * 10 + c.toInt64 - 48
  · rw [if_pos q1]
    have q1' := p1.mp q1
    by_cases q2 : 10 * y + c.toInt64 - 48 < 1099511627776
    · rw [if_pos q2, b3]
      have q2' := p2.mp q2
      rcases h with ⟨rfl, h1, h2⟩ | ⟨rfl, h1, h2⟩
      · exact Or.inr ⟨rfl, by omega, by omega⟩
      · exact Or.inr ⟨rfl, by omega, by omega⟩
    · rw [if_neg q2, e40]
      exact Or.inr ⟨rfl, by omega, by omega⟩
  · rw [if_neg q1]
    have q1' : ¬ 2147483648 < x.toInt * 10 + c.toInt - 48 := fun w => q1 (p1.mpr w)
    rcases h with ⟨rfl, h1, h2⟩ | ⟨rfl, h1, h2⟩
    · have e : (10 * x + c.toInt64 - 48) = x * 10 + c.toInt64 - 48 := by rw [Int64.mul_comm]
      have q2 : 10 * x + c.toInt64 - 48 < 1099511627776 := p2.mpr (by omega)
      rw [if_pos q2, e]
      by_cases q3 : x.toInt * 10 + c.toInt - 48 < 2147483648
      · exact Or.inl ⟨rfl, by rw [a3]; omega, by rw [a3]; exact q3⟩
      · refine Or.inr ⟨?_, by rw [a3]; omega, by rw [a3]; omega⟩
        apply Int64.toInt_inj.mp
        rw [a3, e31]
        omega
    · exact absurd (by rw [e31]; omega) q1'
section
variable {g : Nat → Int32} {L : Nat}
theorem sd_eq (hL : L ≤ 1500) (hb : ∀ j, j < L → isBt (g j)) : ∀ m p x y, p + m = L → NR x y → (s_sd g L m p x).1 = (r_nu g m p y).1 ∧ NR (s_sd g L m p x).2 (r_nu g m p y).2
  | 0, p, x, y, _, hr => ⟨rfl, hr⟩
  | m + 1, p, x, y, h, hr => by
    obtain ⟨j, hj, e⟩ := bt_of (hb p (by omega))
    rw [s_sd, r_nu, ba_in hL (by omega), show s_Lexer_isDigit (g p &&& 255) = s_Mod_isDigit (g p) by rw [e]; exact bt_digit j hj]
    by_cases c2 : s_Mod_isDigit (g p) = 0
    · rw [if_pos c2, if_pos c2]
      exact ⟨rfl, hr⟩
    · rw [if_neg c2, if_neg c2, show g p &&& 255 = g p by rw [e]; exact bt_same j hj (Or.inr (Or.inl (by rw [← e]; exact c2)))]
      exact sd_eq hL hb m (p + 1) _ _ (by omega) (NR_step hr (by rw [e]; exact bt_dig j hj (by rw [← e]; exact c2)))
/-- the class's two longs of a text -/
def pcT (g : Nat → Int32) (q : Nat) : Nat → Nat → Int64 → Int64 → Int64 × Int64
  | 0, _, a, b => (a, b)
  | m + 1, i, a, b => pcT g q m (i + 1) (if 8 ≤ nI i then a else a ||| s_Cell_placed (g (q + i)) (nI i)) (if 8 ≤ nI i then (if 16 ≤ nI i then b else b ||| s_Cell_placed (g (q + i)) (nI i)) else b)
theorem st_eq (hL : L ≤ 1500) (hb : ∀ j, j < L → isBt (g j)) (q : Nat) : ∀ m p sz hd tl, p + m = L → p = q + sz → s_st g L m p sz hd tl = (r_tx g m p, r_tx g m p - q, pcT g q (r_tx g m p - p) sz hd tl)
  | 0, p, sz, hd, tl, _, hq => by
    rw [s_st, r_tx, Nat.sub_self, pcT]
    congr 2
    omega
  | m + 1, p, sz, hd, tl, h, hq => by
    obtain ⟨j, hj, e⟩ := bt_of (hb p (by omega))
    have ht : (s_Lexer_isTextSign (g p &&& 255) = 0) = (g p = 34 ∨ s_Mod_in (g p).toInt64 32 126 = 0) := by rw [e]; exact bt_text j hj
    rw [s_st, r_tx, ba_in hL (by omega)]
    have hle := r_tx_le (g := g) m (p + 1)
    by_cases c1 : g p = 34
    · rw [if_pos (by rw [ht]; exact Or.inl c1), if_pos c1, Nat.sub_self, pcT]
      congr 2
      omega
    · by_cases c2 : s_Mod_in (g p).toInt64 32 126 = 0
      · rw [if_pos (by rw [ht]; exact Or.inr c2), if_neg c1, if_pos c2, Nat.sub_self, pcT]
        congr 2
        omega
      · rw [if_neg (by rw [ht]; exact fun w => w.elim c1 c2), if_neg c1, if_neg c2, show g p &&& 255 = g p by rw [e]; exact bt_same j hj (Or.inr (Or.inr (by rw [← e]; exact c2))), st_eq hL hb q m (p + 1) (sz + 1) _ _ (by omega) (by omega)]
        rw [show r_tx g m (p + 1) - p = (r_tx g m (p + 1) - (p + 1)) + 1 by omega, pcT, hq]
end
/-! signs -/
def pk3 (c : Int32) (a b : Bool) : Int32 := if a = true then (if c = 61 then 256 else if c = 33 then 257 else if c = 60 then 258 else 1) else if b = true then (if c = 38 then 259 else if c = 124 then 260 else 1) else 1
def rt3 (c : Int32) (a b : Bool) : Int32 := if a = true then (if c = 61 then 1 else if c = 33 then 1 else if c = 60 then 1 else if b = true then (if c = 38 then 1 else if c = 124 then 1 else 0) else 0) else if b = true then (if c = 38 then 1 else if c = 124 then 1 else 0) else 0
theorem pk_3 {c e : Int32} : s_Lexer_pairKind c e = pk3 c (decide (e = 61)) (decide (c = e)) := by
  unfold s_Lexer_pairKind pk3
  simp only [decide_eq_true_eq]
theorem rt_3 {c e : Int32} : r_two c e = rt3 c (decide (e = 61)) (decide (e = c)) := by
  unfold r_two r_tw2 rt3
  simp only [decide_eq_true_eq]
theorem bt_pk : ∀ j, j < 256 → ∀ a b : Bool, (a = true → b = true → bt j = 61) → (pk3 (bt j &&& 255) a b = 1) = (rt3 (bt j) a b = 0) := by
  have h : ∀ j, j < 256 → ∀ a b : Bool, (a = true → b = true → bt j = 61) → ((pk3 (bt j &&& 255) a b = 1) ↔ (rt3 (bt j) a b = 0)) := by decide +kernel
  exact fun j hj a b w => propext (h j hj a b w)
theorem bt_sx : ∀ j, j < 256 → (s_sx (bt j &&& 255) < 0) = (r_one (bt j) = 0) := by
  have h : ∀ j, j < 256 → ((s_sx (bt j &&& 255) < 0) ↔ (r_one (bt j) = 0)) := by decide +kernel
  exact fun j hj => propext (h j hj)
theorem bt_61 : ∀ j, j < 256 → (bt j &&& 255 = 61) = (bt j = 61) := by
  have h : ∀ j, j < 256 → ((bt j &&& 255 = 61) ↔ (bt j = 61)) := by decide +kernel
  exact fun j hj => propext (h j hj)
theorem bt_inj : ∀ j, j < 256 → ∀ k, k < 256 → (bt j &&& 255 = bt k &&& 255) = (bt k = bt j) := by
  have h : ∀ j, j < 256 → bt j &&& 255 = Int32.ofNat j := by decide +kernel
  have h2 : ∀ j, j < 256 → (bt j &&& 255).toNatClampNeg = j := by decide +kernel
  intro j hj k hk
  refine propext ⟨fun e => ?_, fun e => by rw [e]⟩
  have := congrArg Int32.toNatClampNeg e
  rw [h2 j hj, h2 k hk] at this
  rw [this]
theorem bt_m1 : ∀ j, j < 256 → ¬ (bt j &&& 255) = -1 := by decide +kernel
theorem bt_rt0 : ∀ j, j < 256 → pk3 (bt j &&& 255) false false = 1 ∧ rt3 (bt j) false false = 0 ∧ rt3 (bt j) false (decide (0 = bt j)) = 0 := by decide +kernel
