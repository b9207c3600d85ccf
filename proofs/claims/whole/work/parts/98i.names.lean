/-! names: lists of bytes; the class's long (base 128, from the left of eight places) and the reference's (base 256) -/
def C128 : Nat → List Nat → Nat
  | 0, _ => 0
  | _ + 1, [] => 0
  | k + 1, x :: w => x * 128 ^ k + C128 k w
def V256 : Nat → List Nat → Nat
  | a, [] => a
  | a, x :: w => V256 (a * 256 + x) w
def nmL (g : Nat → Int32) : Nat → Nat → List Nat
  | _, 0 => []
  | q, n + 1 => (g q).toNatClampNeg :: nmL g (q + 1) n
/-- bytes that may stand in a name or a text -/
def okL (w : List Nat) : Prop := ∀ x ∈ w, 1 ≤ x ∧ x < 128
theorem C128_lt : ∀ (k : Nat) (w : List Nat), okL w → C128 k w < 128 ^ k
  | 0, _, _ => by simp [C128]
  | k + 1, [], _ => by
    rw [C128]
    exact Nat.pow_pos (by omega)
  | k + 1, x :: w, h => by
    have h1 := h x List.mem_cons_self
    have h2 := C128_lt k w (fun y hy => h y (List.mem_cons_of_mem _ hy))
    rw [C128, Nat.pow_succ]
    have : x * 128 ^ k ≤ 127 * 128 ^ k := Nat.mul_le_mul_right _ (by omega)
    omega
theorem C128_inj : ∀ (k : Nat) (w w' : List Nat), w.length ≤ k → w'.length ≤ k → okL w → okL w' → C128 k w = C128 k w' → w = w'
  | 0, [], [], _, _, _, _, _ => rfl
  | 0, _ :: _, _, h, _, _, _, _ => absurd h (by simp)
  | 0, [], _ :: _, _, h, _, _, _ => absurd h (by simp)
  | k + 1, [], [], _, _, _, _, _ => rfl
  | k + 1, [], x :: w, _, _, _, h, e => by
    have h1 := h x List.mem_cons_self
    rw [C128, C128] at e
    have : 1 * 128 ^ k ≤ x * 128 ^ k := Nat.mul_le_mul_right _ h1.1
    have : 0 < 128 ^ k := Nat.pow_pos (by omega)
    omega
  | k + 1, x :: w, [], _, _, h, _, e => by
    have h1 := h x List.mem_cons_self
    rw [C128, C128] at e
    have : 1 * 128 ^ k ≤ x * 128 ^ k := Nat.mul_le_mul_right _ h1.1
    have : 0 < 128 ^ k := Nat.pow_pos (by omega)
    omega
  | k + 1, x :: w, y :: v, hw, hv, hx, hy, e => by
    rw [C128, C128] at e
    have h1 := C128_lt k w (fun z hz => hx z (List.mem_cons_of_mem _ hz))
    have h2 := C128_lt k v (fun z hz => hy z (List.mem_cons_of_mem _ hz))
    have e1 : x = y := by
      have a : (x * 128 ^ k + C128 k w) / 128 ^ k = (y * 128 ^ k + C128 k v) / 128 ^ k := congrArg (fun z => z / 128 ^ k) e
      have p : 0 < 128 ^ k := Nat.pow_pos (by omega)
      rw [Nat.mul_comm x, Nat.mul_comm y, Nat.mul_add_div p, Nat.mul_add_div p, Nat.div_eq_of_lt h1, Nat.div_eq_of_lt h2] at a
      omega
    subst e1
    rw [C128_inj k w v (by simpa using hw) (by simpa using hv) (fun z hz => hx z (List.mem_cons_of_mem _ hz)) (fun z hz => hy z (List.mem_cons_of_mem _ hz)) (by omega)]
theorem V256_app : ∀ (w : List Nat) (a x : Nat), V256 a (w ++ [x]) = V256 a w * 256 + x
  | [], _, _ => rfl
  | y :: w, a, x => by
    show V256 (a * 256 + y) (w ++ [x]) = _
    rw [V256_app w]
    rfl
theorem V256_pos : ∀ (w : List Nat), okL w → w ≠ [] → 1 ≤ V256 0 w := by
  intro w hw hne
  rcases List.eq_nil_or_concat w with rfl | ⟨v, x, rfl⟩
  · exact absurd rfl hne
  · rw [List.concat_eq_append] at *
    rw [V256_app]
    have := hw x (by simp)
    omega
theorem V256_inj : ∀ (n : Nat) (w w' : List Nat), w.length ≤ n → okL w → okL w' → V256 0 w = V256 0 w' → w = w'
  | n, w, w', hn, hw, hw', e => by
    rcases List.eq_nil_or_concat w with rfl | ⟨v, x, rfl⟩
    · by_cases h : w' = []
      · exact h.symm
      · have := V256_pos w' hw' h
        rw [← e] at this
        exact absurd this (by decide)
    · rw [List.concat_eq_append] at *
      rcases List.eq_nil_or_concat w' with rfl | ⟨v', x', rfl⟩
      · have := V256_pos (v ++ [x]) hw (by simp)
        rw [e] at this
        exact absurd this (by decide)
      · rw [List.concat_eq_append] at *
        rw [V256_app, V256_app] at e
        have h1 := hw x (by simp)
        have h2 := hw' x' (by simp)
        have ex : x = x' := by omega
        subst ex
        cases n with
        | zero => simp at hn
        | succ n => rw [V256_inj n v v' (by simp at hn; omega) (fun z hz => hw z (by simp [hz])) (fun z hz => hw' z (by simp [hz])) (by omega)]
theorem V256_lt : ∀ (w : List Nat) (a k : Nat), okL w → a < 256 ^ k → V256 a w < 256 ^ (k + w.length)
  | [], a, k, _, h => h
  | x :: w, a, k, hw, h => by
    have h1 := hw x List.mem_cons_self
    have := V256_lt w (a * 256 + x) (k + 1) (fun z hz => hw z (List.mem_cons_of_mem _ hz)) (by rw [Nat.pow_succ]; omega)
    rw [show k + (x :: w).length = k + 1 + w.length by simp; omega]
    exact this
/-- the class's long is the list's number -/
theorem pl_nat : ∀ j, j < 128 → ∀ i, i < 8 → s_Cell_placed (nI j) (nI i) = Int64.ofNat (j * 128 ^ (7 - i)) := by decide +kernel
theorem or_nat (a b : Nat) (ha : a < 2 ^ 63) (hb : b < 2 ^ 63) : Int64.ofNat a ||| Int64.ofNat b = Int64.ofNat (a ||| b) := by
  apply Int64.toBitVec_inj.mp
  rw [Int64.toBitVec_or]
  show BitVec.ofNat 64 a ||| BitVec.ofNat 64 b = BitVec.ofNat 64 (a ||| b)
  apply BitVec.eq_of_getLsbD_eq
  intro i hi
  simp [hi]
theorem or_add {k A B : Nat} (hA : A % 2 ^ k = 0) (hB : B < 2 ^ k) : A ||| B = A + B := by
  have e : A = 2 ^ k * (A / 2 ^ k) := by
    have := Nat.div_add_mod A (2 ^ k)
    omega
  rw [e]
  exact (Nat.two_pow_add_eq_or_of_lt hB _).symm
section
variable {g : Nat → Int32} {L : Nat}
theorem clamp_back {c : Int32} (h : ¬ c < 0) : c = nI c.toNatClampNeg := (nI_back h).symm
theorem p128 (k : Nat) : (128 : Nat) ^ k = 2 ^ (7 * k) := by rw [Nat.pow_mul]
theorem pcN_eq (q : Nat) : ∀ m i A, i + m ≤ 8 → A % 128 ^ (8 - i) = 0 → A + 128 ^ (8 - i) ≤ 2 ^ 62 → (∀ j, j < m → 0 < (g (q + i + j)).toInt ∧ (g (q + i + j)).toInt < 128) → pcN g q m i (Int64.ofNat A) = Int64.ofNat (A + C128 (8 - i) (nmL g (q + i) m))
  | 0, i, A, _, _, _, _ => by
    rw [pcN, nmL]
    cases h : 8 - i <;> rfl
  | m + 1, i, A, hi, hA, hA2, hb => by
    have h0 := hb 0 (by omega)
    rw [Nat.add_zero] at h0
    have hneg : ¬ g (q + i) < 0 := fun w => by
      have := Int32.lt_iff_toInt_lt.mp w
      simp at this
      omega
    have hj : (g (q + i)).toNatClampNeg < 128 := by
      show (g (q + i)).toInt.toNat < 128
      omega
    have e8 : 8 - i = (8 - (i + 1)) + 1 := by omega
    have ew : 7 - i = 8 - (i + 1) := by omega
    rw [pcN, if_neg (show ¬ (8 : Int32) ≤ nI i from nI_ge (b := 8) (by omega) (by decide)), nmL, e8, C128]
    have hp := pl_nat _ hj i (by omega)
    rw [← clamp_back hneg, ew] at hp
    have hB : (g (q + i)).toNatClampNeg * 128 ^ (8 - (i + 1)) < 128 ^ (8 - i) := by
      rw [e8, Nat.pow_succ, Nat.mul_comm _ 128]
      exact Nat.mul_lt_mul_of_pos_right hj (Nat.pow_pos (by omega))
    have hB3 : (g (q + i)).toNatClampNeg * 128 ^ (8 - (i + 1)) + 128 ^ (8 - (i + 1)) ≤ 128 ^ (8 - i) := by
      rw [e8, Nat.pow_succ, Nat.mul_comm (128 ^ _) 128, ← Nat.succ_mul]
      exact Nat.mul_le_mul_right _ hj
    have hB2 : 128 ^ (8 - i) ≤ 128 ^ 8 := Nat.pow_le_pow_right (by omega) (by omega)
    rw [hp, or_nat _ _ (by omega) (by omega), or_add (k := 7 * (8 - i)) (by rw [← p128]; exact hA) (by rw [← p128]; exact hB)]
    have hA3 : (A + (g (q + i)).toNatClampNeg * 128 ^ (8 - (i + 1))) % 128 ^ (8 - (i + 1)) = 0 := by
      have d1 : 128 ^ (8 - (i + 1)) ∣ A := Nat.dvd_trans (Nat.pow_dvd_pow 128 (by omega)) (Nat.dvd_of_mod_eq_zero hA)
      exact Nat.mod_eq_zero_of_dvd (Nat.dvd_add d1 (Nat.dvd_mul_left _ _))
    rw [pcN_eq q m (i + 1) _ (by omega) hA3 (by omega) (fun j hj => by have := hb (j + 1) (by omega); rwa [show q + i + (j + 1) = q + (i + 1) + j by omega] at this), Nat.add_assoc, show q + (i + 1) = q + i + 1 by omega]
end
