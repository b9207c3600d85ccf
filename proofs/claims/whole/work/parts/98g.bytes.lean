/-! bytes: what the class reads of one (its low eight bits) and what the reference reads (the byte itself) -/
def bt (j : Nat) : Int32 := (Int8.ofNat j).toInt32
def isBt (c : Int32) : Prop := c.toInt8.toInt32 = c
theorem bt_of {c : Int32} (h : isBt c) : ∃ j : Nat, j < 256 ∧ c = bt j := by
  refine ⟨c.toInt8.toUInt8.toNat, UInt8.toNat_lt _, ?_⟩
  unfold bt
  rw [← h]
  congr 1
  rw [show c.toInt8.toInt32.toInt8 = c.toInt8 by simp]
  apply Int8.toBitVec_inj.mp
  simp
theorem bt_letter : ∀ j, j < 256 → s_Lexer_isLetter (bt j &&& 255) = s_Mod_isSmall (bt j) := by decide +kernel
theorem bt_digit : ∀ j, j < 256 → s_Lexer_isDigit (bt j &&& 255) = s_Mod_isDigit (bt j) := by decide +kernel
theorem bt_32 : ∀ j, j < 256 → ((bt j &&& 255 = 32) = (bt j = 32)) := by
  have h : ∀ j, j < 256 → ((bt j &&& 255 = 32) ↔ (bt j = 32)) := by decide +kernel
  exact fun j hj => propext (h j hj)
theorem bt_10 : ∀ j, j < 256 → ((bt j &&& 255 = 10) = (bt j = 10)) := by
  have h : ∀ j, j < 256 → ((bt j &&& 255 = 10) ↔ (bt j = 10)) := by decide +kernel
  exact fun j hj => propext (h j hj)
theorem bt_34 : ∀ j, j < 256 → ((bt j &&& 255 = 34) = (bt j = 34)) := by
  have h : ∀ j, j < 256 → ((bt j &&& 255 = 34) ↔ (bt j = 34)) := by decide +kernel
  exact fun j hj => propext (h j hj)
theorem bt_text : ∀ j, j < 256 → ((s_Lexer_isTextSign (bt j &&& 255) = 0) = (bt j = 34 ∨ s_Mod_in (bt j).toInt64 32 126 = 0)) := by
  have h : ∀ j, j < 256 → ((s_Lexer_isTextSign (bt j &&& 255) = 0) ↔ (bt j = 34 ∨ s_Mod_in (bt j).toInt64 32 126 = 0)) := by decide +kernel
  exact fun j hj => propext (h j hj)
theorem bt_same : ∀ j, j < 256 → (¬ s_Mod_isSmall (bt j) = 0 ∨ ¬ s_Mod_isDigit (bt j) = 0 ∨ ¬ s_Mod_in (bt j).toInt64 32 126 = 0) → bt j &&& 255 = bt j := by decide +kernel
theorem bt_pos : ∀ j, j < 256 → 0 ≤ bt j &&& 255 := by decide +kernel
section
variable {g : Nat → Int32} {L : Nat}
theorem ba_in (hL : L ≤ 1500) {p : Nat} (hp : p < L) : s_byteAt g L (nI p) = g p &&& 255 := by
  unfold s_byteAt
  rw [if_neg (nI_pos (by omega)), if_neg (nI_ge hp (by omega)), nI_clamp (by omega)]
theorem ba_out (hL : L ≤ 1500) {p : Nat} (hp : L ≤ p) (hp2 : p < 2 ^ 31) : s_byteAt g L (nI p) = -1 := by
  unfold s_byteAt
  rw [if_neg (nI_pos (by omega)), if_pos (nI_le hp hp2)]
theorem sk_eq (hL : L ≤ 1500) (hb : ∀ j, j < L → isBt (g j)) : ∀ m p, p + m = L → s_sk g L m p = r_sk g m p
  | 0, p, _ => rfl
  | m + 1, p, h => by
    rw [s_sk, r_sk, ba_in hL (by omega), sk_eq hL hb m (p + 1) (by omega)]
    obtain ⟨j, hj, e⟩ := bt_of (hb p (by omega))
    rw [e]
    simp only [bt_32 j hj, bt_10 j hj]
/-- the class's longs of a name or text: signs c from place i on -/
def pcN (g : Nat → Int32) (q : Nat) : Nat → Nat → Int64 → Int64
  | 0, _, a => a
  | m + 1, i, a => pcN g q m (i + 1) (if 8 ≤ nI i then a else a ||| s_Cell_placed (g (q + i)) (nI i))
theorem sn_eq (hL : L ≤ 1500) (hb : ∀ j, j < L → isBt (g j)) (q : Nat) : ∀ m p sz hd, p + m = L → p = q + sz → s_sn g L m p sz hd = (r_nm g m p, r_nm g m p - q, pcN g q (r_nm g m p - p) sz hd)
  | 0, p, sz, hd, _, hq => by
    rw [s_sn, r_nm, Nat.sub_self, pcN]
    congr 2
    omega
  | m + 1, p, sz, hd, h, hq => by
    obtain ⟨j, hj, e⟩ := bt_of (hb p (by omega))
    have hs := bt_same j hj
    rw [s_sn, r_nm, ba_in hL (by omega), e, bt_letter j hj, bt_digit j hj, ← e]
    have hle := r_nm_le (g := g) m (p + 1)
    have go : (¬ s_Mod_isSmall (g p) = 0 ∨ ¬ s_Mod_isDigit (g p) = 0) → s_sn g L m (p + 1) (sz + 1) (if 8 ≤ nI sz then hd else hd ||| s_Cell_placed (g p &&& 255) (nI sz)) = (r_nm g m (p + 1), r_nm g m (p + 1) - q, pcN g q (r_nm g m (p + 1) - p) sz hd) := fun hh => by
      rw [show g p &&& 255 = g p by rw [e]; exact hs (hh.elim (fun q => Or.inl (by rw [← e]; exact q)) (fun q => Or.inr (Or.inl (by rw [← e]; exact q)))), sn_eq hL hb q m (p + 1) (sz + 1) _ (by omega) (by omega)]
      rw [show r_nm g m (p + 1) - p = (r_nm g m (p + 1) - (p + 1)) + 1 by omega, pcN, hq]
    by_cases c1 : s_Mod_isSmall (g p) = 0
    · by_cases c2 : s_Mod_isDigit (g p) = 0
      · rw [if_pos ⟨c1, c2⟩, if_pos c1, if_pos c2, Nat.sub_self, pcN]
        congr 2
        omega
      · rw [if_neg (fun q => c2 q.2), if_pos c1, if_neg c2]
        exact go (Or.inr c2)
    · rw [if_neg (fun q => c1 q.1), if_neg c1]
      exact go (Or.inl c1)
end
