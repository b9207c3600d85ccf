/-! the two lexers go together -/
abbrev TKc : Type := Nat × Int32 × Int32 × Int64 × Int64
abbrev TKr : Type := Nat × Int32 × Int64
def TQ (g : Nat → Int32) (L q : Nat) (T : TKc) (t : TKr) : Prop := TK g L q T t ∧ q ≤ L ∧ q ≤ t.1 ∧ t.1 ≤ L
/-- what each side had counted of tokens when this began -/
abbrev W2 : Type := Int32 × Int32
def JX (g : Nat → Int32) (L : Nat) (w0 : W2) (u q : Nat) (T : TKc) (t : TKr) (a : LxS) (b : RLx) : Prop := TQ g L q T t ∧ AtC q T a ∧ AtR q t b ∧ a.2.1 = w0.1 + nI u ∧ b.2.2.2.2.2.1 = w0.2 + nI u ∧ u ≤ q
theorem KT_one : ∀ e ∈ KT, 1 ≤ e.2.length := by decide +kernel
theorem r_two0 {c : Int32} : r_two c 0 = 0 := by
  unfold r_two r_tw2
  rw [if_neg (show ¬ (0 : Int32) = 61 by decide)]
  by_cases h : (0 : Int32) = c
  · subst h
    decide
  · rw [if_neg h]
section
variable {g : Nat → Int32} {L q : Nat} {T : TKc} {t : TKr} {a : LxS} {b : RLx} {w0 : W2} {u : Nat}
theorem r_tok_in {nb : Int64} (hq : q ≤ L) : q ≤ (r_tok g L q nb).1 ∧ (r_tok g L q nb).1 ≤ L := by
  unfold r_tok
  by_cases h0 : q = L
  · rw [if_pos h0]
    exact ⟨Nat.le_refl _, by dsimp only; omega⟩
  · rw [if_neg h0]
    split
    · split
      · split
        · have := r_tx_le (g := g) (L - (q + 1)) (q + 1)
          dsimp only
          split <;> omega
        · dsimp only
          by_cases c : q + 1 < L
          · rw [if_pos c]
            split <;> omega
          · rw [if_neg c, if_pos r_two0]
            omega
      · have := r_nu_le (g := g) (L - q) q 0
        dsimp only
        omega
    · have := r_nm_le (g := g) (L - q) q
      dsimp only
      omega
theorem TQ.go (h : TQ g L q T t) (h0 : ¬ T.2.1 = 0) (h1 : ¬ T.2.1 = 1) : T.1 = t.1 ∧ q < t.1 := by
  rcases h.1 with k | ⟨k1, k2, k3, k⟩
  · exact absurd k.1 h1
  · refine ⟨k1, ?_⟩
    rw [← k1]
    rcases k with k | k | k | k | ⟨e, k4, k5, k6, k⟩
    · exact absurd k.1 h0
    · exact k.2.2.1
    · exact k.2.2.1
    · have := k.2.2.1
      omega
    · have := KT_one e k4
      omega
theorem TQ.name (h : TQ g L q T t) : t.2.1 = 1 ↔ T.2.1 = 2 := by
  rcases h.1 with ⟨k1, k2⟩ | ⟨_, _, _, ⟨k1, k2, _⟩ | ⟨k1, k2, _⟩ | ⟨k1, k2, _⟩ | ⟨k1, k2, _⟩ | ⟨e, k4, k1, _, _, k2, _⟩⟩
  · rw [k1, k2] <;> decide
  · rw [k1, k2] <;> decide
  · rw [k1, k2] <;> decide
  · rw [k1, k2] <;> decide
  · rw [k1, k2] <;> decide
  · rw [k1, k2]
    have := (KT_big e k4).2.2.1
    constructor
    · intro h
      split at h <;> exact absurd h (by decide)
    · intro h
      exact absurd h this
theorem TQ.num (h : TQ g L q T t) : t.2.1 = 3 ↔ T.2.1 = 3 := by
  rcases h.1 with ⟨k1, k2⟩ | ⟨_, _, _, ⟨k1, k2, _⟩ | ⟨k1, k2, _⟩ | ⟨k1, k2, _⟩ | ⟨k1, k2, _⟩ | ⟨e, k4, k1, _, _, k2, _⟩⟩
  · rw [k1, k2] <;> decide
  · rw [k1, k2] <;> decide
  · rw [k1, k2] <;> decide
  · rw [k1, k2]
  · rw [k1, k2] <;> decide
  · rw [k1, k2]
    have := (KT_big e k4).2.2.2.1
    constructor
    · intro h
      split at h <;> exact absurd h (by decide)
    · intro h
      exact absurd h this
theorem TQ.text (h : TQ g L q T t) : t.2.1 = 4 ↔ T.2.1 = 4 := by
  rcases h.1 with ⟨k1, k2⟩ | ⟨_, _, _, ⟨k1, k2, _⟩ | ⟨k1, k2, _⟩ | ⟨k1, k2, _⟩ | ⟨k1, k2, _⟩ | ⟨e, k4, k1, _, _, k2, _⟩⟩
  · rw [k1, k2] <;> decide
  · rw [k1, k2] <;> decide
  · rw [k1, k2] <;> decide
  · rw [k1, k2] <;> decide
  · rw [k1, k2]
  · rw [k1, k2]
    have := (KT_big e k4).2.2.2.2.1
    constructor
    · intro h
      split at h <;> exact absurd h (by decide)
    · intro h
      exact absurd h this
theorem TQ.fin (h : TQ g L q T t) : t.2.1 = 0 ↔ T.2.1 = 0 := by
  rcases h.1 with ⟨k1, k2⟩ | ⟨_, _, _, ⟨k1, k2, _⟩ | ⟨k1, k2, _⟩ | ⟨k1, k2, _⟩ | ⟨k1, k2, _⟩ | ⟨e, k4, k1, _, _, k2, _⟩⟩
  · rw [k1, k2] <;> decide
  · rw [k1, k2]
  · rw [k1, k2] <;> decide
  · rw [k1, k2] <;> decide
  · rw [k1, k2] <;> decide
  · rw [k1, k2]
    have := (KT_big e k4).1
    constructor
    · intro h
      split at h <;> exact absurd h (by decide)
    · intro h
      exact absurd h this
/-- a NAME, as the class and the reference have it -/
theorem TQ.nm (h : TQ g L q T t) (hk : T.2.1 = 2) : okN (nmL g q (t.1 - q)) ∧ T.2.2.2.1 = nC (nmL g q (t.1 - q)) ∧ nmB g q (t.1 - q) := by
  rcases h.1 with ⟨k1, k2⟩ | ⟨k0, _, _, ⟨k1, k2, _⟩ | ⟨k1, k2, k3, k4, k5, k6⟩ | ⟨k1, k2, _⟩ | ⟨k1, k2, _⟩ | ⟨e, k4, k1, _, _, k2, _⟩⟩
  · rw [hk] at k1; exact absurd k1 (by decide)
  · rw [hk] at k1; exact absurd k1 (by decide)
  · rw [k0] at k4 k5 k6
    exact ⟨⟨okL_nm k5, by rw [nmL_len]; omega, k6.2⟩, k6.1, k5⟩
  · rw [hk] at k1; exact absurd k1 (by decide)
  · rw [hk] at k1; exact absurd k1 (by decide)
  · exact absurd (k1.symm.trans hk) (KT_big e k4).2.2.1
theorem TQ.nu (h : TQ g L q T t) (hk : T.2.1 = 3) : t.2.2 = T.2.2.1.toInt64 := by
  rcases h.1 with ⟨k1, k2⟩ | ⟨k0, _, _, ⟨k1, k2, _⟩ | ⟨k1, k2, k3, k4, k5, k6⟩ | ⟨k1, k2, k3, k4, _⟩ | ⟨k1, k2, _⟩ | ⟨e, k4, k1, _, _, k2, _⟩⟩
  · rw [hk] at k1; exact absurd k1 (by decide)
  · rw [hk] at k1; exact absurd k1 (by decide)
  · rw [hk] at k1; exact absurd k1 (by decide)
  · exact k4
  · rw [hk] at k1; exact absurd k1 (by decide)
  · exact absurd (k1.symm.trans hk) (KT_big e k4).2.2.2.1
theorem txB_ok {p n : Nat} (h : txB g p n) : okL (nmL g p n) := by
  intro x hx
  rw [nmL_map] at hx
  obtain ⟨i, hi, rfl⟩ := List.mem_map.mp hx
  have := h i (List.mem_range.mp hi)
  have e : (g (p + i)).toNatClampNeg = (g (p + i)).toInt.toNat := rfl
  rw [e]
  omega
theorem txB_nI {p n i : Nat} (h : txB g p n) (hi : i < n) : g (p + i) = nI (g (p + i)).toNatClampNeg := by
  have := h i hi
  exact (Int32.ofNat_toNatClampNeg _ (Int32.le_iff_toInt_le.mpr (by show (0 : Int) ≤ _; omega))).symm
theorem nmL_snoc {p : Nat} : ∀ n, nmL g p (n + 1) = nmL g p n ++ [(g (p + n)).toNatClampNeg] := fun n => by
  rw [nmL_map, nmL_map, List.range_succ, List.map_append]
  rfl
theorem pcT_t7 {p N : Nat} (h : txB g p N) (hN : N ≤ 16) : ∀ m i, i + m = N → pcT g p m i (T7 (nmL g p i)).1 (T7 (nmL g p i)).2 = T7 (nmL g p N)
  | 0, i, e => by
    rw [pcT, show i = N by omega]
  | m + 1, i, e => by
    have ih := pcT_t7 h hN m (i + 1) (by omega)
    have hi : txB g p i := fun j hj => h j (by omega)
    have e1 := t7_app (w := nmL g p i) (x := (g (p + i)).toNatClampNeg) (txB_ok hi) (by
      have := h i (by omega)
      have e : (g (p + i)).toNatClampNeg = (g (p + i)).toInt.toNat := rfl
      rw [e]
      omega) (by rw [nmL_len]; omega)
    rw [← nmL_snoc, nmL_len, ← txB_nI h (by omega)] at e1
    rw [e1] at ih
    rw [pcT, ← ih]
    by_cases c : 8 ≤ nI i
    · rw [if_pos c, if_pos c, if_pos c, if_neg (show ¬ (16 : Int32) ≤ nI i from nI_ge (b := 16) (show i < 16 by omega) (by decide))]
    · rw [if_neg c, if_neg c, if_neg c]
theorem TQ.tx (h : TQ g L q T t) (hk : T.2.1 = 4) : ∃ n, n ≤ 16 ∧ t.1 = q + n + 2 ∧ txB g (q + 1) n ∧ T.2.2.2 = T7 (nmL g (q + 1) n) := by
  rcases h.1 with ⟨k1, k2⟩ | ⟨k0, _, _, ⟨k1, k2, _⟩ | ⟨k1, k2, _⟩ | ⟨k1, k2, k3, k4, _⟩ | ⟨k1, k2, k3, k4, k5, k6⟩ | ⟨e, k4, k1, _, _, k2, _⟩⟩
  · rw [hk] at k1; exact absurd k1 (by decide)
  · rw [hk] at k1; exact absurd k1 (by decide)
  · rw [hk] at k1; exact absurd k1 (by decide)
  · rw [hk] at k1; exact absurd k1 (by decide)
  · refine ⟨T.1 - q - 2, by omega, by omega, k5, k6.trans ?_⟩
    have := pcT_t7 k5 (by omega) (T.1 - q - 2) 0 (by omega)
    rw [show nmL g (q + 1) 0 = [] from rfl, t7_nil] at this
    exact this
  · exact absurd (k1.symm.trans hk) (KT_big e k4).2.2.2.2.1
theorem JX.adv {ws : Nat → Int64} (h : JX g L w0 u q T t a b) (h0 : ¬ T.2.1 = 0) (h1 : ¬ T.2.1 = 1) (hL : L ≤ 1500) (hb : ∀ j, j < L → isBt (g j)) (hws : ∀ i, i < 12 → ws i = Int64.ofNat (C128 8 (RWL.getD i []))) : ∃ q' T' t', JX g L w0 (u + 1) q' T' t' (advS g ws L t.1 a) (advR g L t.1 b) ∧ t.1 ≤ q' := by
  obtain ⟨hT, hA, hR, e1, e2, hu⟩ := h
  obtain ⟨g1, g2⟩ := hT.go h0 h1
  have hp := hT.2.2.2
  have hs := r_sk_le (g := g) (L - t.1) t.1
  have es := sk_eq hL hb (L - t.1) t.1 (by omega)
  refine ⟨r_sk g (L - t.1) t.1, s_tok g ws L (s_sk g L (L - t.1) t.1) a.2.2.2.2.1 a.2.2.2.2.2.1 a.2.2.2.2.2.2, r_tok g L (r_sk g (L - t.1) t.1) b.2.2.2.2.2.2, ⟨⟨?_, by omega, ?_⟩, ⟨rfl, rfl, by rw [← es]; rfl, rfl⟩, ⟨rfl, rfl, rfl, rfl, rfl⟩, ?_, ?_, by omega⟩, hs.1⟩
  · rw [es]
    exact tok_eq hL hb hws (by omega)
  · exact r_tok_in (by omega)
  · show a.2.1 + 1 = _
    rw [e1, Int32.add_assoc]
    congr 1
    rw [nI_succ]
  · show b.2.2.2.2.2.1 + 1 = _
    rw [e2, Int32.add_assoc]
    congr 1
    rw [nI_succ]
end
