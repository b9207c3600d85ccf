/-! TEXTS: the class's two longs and the reference's, of one list of signs -/
def E256 : List Nat → Nat
  | [] => 0
  | x :: w => x + 256 * E256 w
def T7 (w : List Nat) : V2 := (Int64.ofNat (2 * 2 ^ 56 + C128 8 (w.take 8)), Int64.ofNat (C128 8 (w.drop 8)))
def T8 (w : List Nat) : VQ := (2, nI w.length, Int64.ofNat (E256 (w.take 8)), Int64.ofNat (E256 (w.drop 8)))
theorem shr_nat {A k : Nat} (hk : k < 64) : ((Int64.ofNat A).toUInt64 >>> UInt64.ofNat k).toInt64.toInt32 = nI (A % 2 ^ 64 / 2 ^ k) := by
  apply Int32.toBitVec_inj.1
  rw [Int64.toBitVec_toInt32, UInt64.toBitVec_toInt64, UInt64.toBitVec_shiftRight]
  apply BitVec.eq_of_toNat_eq
  rw [BitVec.signExtend_eq_setWidth_of_le _ (by decide), BitVec.toNat_setWidth]
  show ((BitVec.ofNat 64 A) >>> (BitVec.ofNat 64 k % 64)).toNat % 2 ^ 32 = (BitVec.ofNat 32 (A % 2 ^ 64 / 2 ^ k)).toNat
  rw [BitVec.toNat_ofNat]
  have e : (BitVec.ofNat 64 k % 64).toNat = k := by
    rw [BitVec.toNat_umod, BitVec.toNat_ofNat]
    show k % 2 ^ 64 % 64 = k
    rw [Nat.mod_eq_of_lt (show k < 2 ^ 64 by omega), Nat.mod_eq_of_lt hk]
  show ((BitVec.ofNat 64 A) >>> (BitVec.ofNat 64 k % 64).toNat).toNat % 2 ^ 32 = _
  rw [e, BitVec.toNat_ushiftRight, BitVec.toNat_ofNat, Nat.shiftRight_eq_div_pow]
theorem and_7 {A : Nat} : nI A &&& 127 = nI (A % 128) := by
  apply Int32.toBitVec_inj.1
  apply BitVec.eq_of_toNat_eq
  rw [Int32.toBitVec_and, BitVec.toNat_and]
  show (BitVec.ofNat 32 A).toNat &&& 127 = (BitVec.ofNat 32 (A % 128)).toNat
  rw [BitVec.toNat_ofNat, BitVec.toNat_ofNat, show (127 : Nat) = 2 ^ 7 - 1 from rfl, Nat.and_two_pow_sub_one_eq_mod]
  omega
theorem and_8 {A : Nat} : nI A &&& 255 = nI (A % 256) := by
  apply Int32.toBitVec_inj.1
  apply BitVec.eq_of_toNat_eq
  rw [Int32.toBitVec_and, BitVec.toNat_and]
  show (BitVec.ofNat 32 A).toNat &&& 255 = (BitVec.ofNat 32 (A % 256)).toNat
  rw [BitVec.toNat_ofNat, BitVec.toNat_ofNat, show (255 : Nat) = 2 ^ 8 - 1 from rfl, Nat.and_two_pow_sub_one_eq_mod]
  omega
theorem okL.tl {x : Nat} {w : List Nat} (h : okL (x :: w)) : okL w := fun y hy => h y (List.mem_cons_of_mem _ hy)
theorem okL.hd {x : Nat} {w : List Nat} (h : okL (x :: w)) : 1 ≤ x ∧ x < 128 := h x List.mem_cons_self
theorem okL.take {w : List Nat} {n : Nat} (h : okL w) : okL (w.take n) := fun y hy => h y (List.mem_of_mem_take hy)
theorem okL.drop {w : List Nat} {n : Nat} (h : okL w) : okL (w.drop n) := fun y hy => h y (List.mem_of_mem_drop hy)
theorem C128_nil {k : Nat} : C128 k [] = 0 := by cases k <;> rfl
theorem C128_app : ∀ (k : Nat) (w : List Nat) (x : Nat), w.length < k → C128 k (w ++ [x]) = C128 k w + x * 128 ^ (k - 1 - w.length)
  | 0, _, _, h => by omega
  | k + 1, [], x, _ => by
    show x * 128 ^ k + C128 k [] = 0 + x * 128 ^ (k + 1 - 1 - 0)
    rw [C128_nil, Nat.add_sub_cancel, Nat.sub_zero]
    omega
  | k + 1, y :: w, x, h => by
    have h' : w.length < k := by simp at h; omega
    have ih := C128_app k w x h'
    show y * 128 ^ k + C128 k (w ++ [x]) = y * 128 ^ k + C128 k w + x * 128 ^ (k + 1 - 1 - (w.length + 1))
    rw [ih, Nat.add_assoc, show k + 1 - 1 - (w.length + 1) = k - 1 - w.length by omega]
theorem C128_mod : ∀ (k : Nat) (w : List Nat), w.length ≤ k → ∃ c, C128 k w = c * 128 ^ (k - w.length)
  | k, [], _ => ⟨0, by rw [C128_nil]; omega⟩
  | 0, x :: w, h => by simp at h
  | k + 1, x :: w, h => by
    have h' : w.length ≤ k := by simp at h; omega
    obtain ⟨c, e⟩ := C128_mod k w h'
    refine ⟨x * 128 ^ w.length + c, ?_⟩
    show x * 128 ^ k + C128 k w = (x * 128 ^ w.length + c) * 128 ^ (k + 1 - (w.length + 1))
    rw [e, Nat.add_mul, Nat.mul_assoc, ← Nat.pow_add, show w.length + (k + 1 - (w.length + 1)) = k by omega, show k + 1 - (w.length + 1) = k - w.length by omega]
theorem C128_dig : ∀ (k : Nat) (w : List Nat) (i : Nat), okL w → i < k → C128 k w / 128 ^ (k - 1 - i) % 128 = w.getD i 0
  | 0, _, _, _, h => by omega
  | k + 1, [], i, _, _ => by
    rw [C128_nil, Nat.zero_div]
    rfl
  | k + 1, x :: w, 0, h, _ => by
    show (x * 128 ^ k + C128 k w) / 128 ^ (k + 1 - 1 - 0) % 128 = x
    have hx := h.hd
    rw [Nat.add_sub_cancel, Nat.sub_zero, Nat.add_comm, Nat.add_mul_div_right _ _ (Nat.pow_pos (by omega)), Nat.div_eq_of_lt (C128_lt k w h.tl), Nat.zero_add, Nat.mod_eq_of_lt hx.2]
  | k + 1, x :: w, i + 1, h, hi => by
    have ih := C128_dig k w i h.tl (by omega)
    show (x * 128 ^ k + C128 k w) / 128 ^ (k + 1 - 1 - (i + 1)) % 128 = w.getD i 0
    rw [← ih, show k + 1 - 1 - (i + 1) = k - 1 - i by omega, show 128 ^ k = 128 ^ (i + 1) * 128 ^ (k - 1 - i) by rw [← Nat.pow_add]; congr 1; omega, ← Nat.mul_assoc, Nat.add_comm, Nat.add_mul_div_right _ _ (Nat.pow_pos (by omega)), Nat.pow_succ, ← Nat.mul_assoc, Nat.add_mul_mod_self_right]
theorem E256_lt : ∀ w : List Nat, okL w → E256 w * 2 < 256 ^ w.length
  | [], _ => by decide
  | x :: w, h => by
    have ih := E256_lt w h.tl
    have hx := h.hd
    show (x + 256 * E256 w) * 2 < 256 ^ (w.length + 1)
    rw [Nat.pow_succ]
    omega
theorem E8_lt {w : List Nat} (h : okL w) (hl : w.length ≤ 8) : E256 w < 2 ^ 63 := by
  have h1 := E256_lt w h
  have h2 : 256 ^ w.length ≤ 256 ^ 8 := Nat.pow_le_pow_right (by omega) hl
  have h3 : (256 : Nat) ^ 8 = 2 ^ 64 := by decide
  omega
theorem E256_app : ∀ (w : List Nat) (x : Nat), E256 (w ++ [x]) = E256 w + x * 256 ^ w.length
  | [], x => by show x + 256 * 0 = 0 + x * 1; omega
  | y :: w, x => by
    show y + 256 * E256 (w ++ [x]) = y + 256 * E256 w + x * 256 ^ (w.length + 1)
    rw [E256_app w x, Nat.pow_succ, Nat.mul_add, ← Nat.mul_assoc, Nat.add_assoc]
    congr 2
    rw [Nat.mul_comm 256 x, Nat.mul_assoc, Nat.mul_comm 256]
theorem E256_dig : ∀ (w : List Nat) (i : Nat), okL w → E256 w / 256 ^ i % 256 = w.getD i 0
  | [], i, _ => by
    show 0 / 256 ^ i % 256 = 0
    rw [Nat.zero_div]
  | x :: w, 0, h => by
    have hx := h.hd
    show (x + 256 * E256 w) / 256 ^ 0 % 256 = x
    rw [Nat.pow_zero, Nat.div_one]
    omega
  | x :: w, i + 1, h => by
    have hx := h.hd
    show (x + 256 * E256 w) / 256 ^ (i + 1) % 256 = w.getD i 0
    rw [← E256_dig w i h.tl, Nat.pow_succ, Nat.mul_comm (256 ^ i) 256, ← Nat.div_div_eq_div_mul, show (x + 256 * E256 w) / 256 = E256 w by omega]
theorem shA : ∀ i, i < 16 → (((7 * (7 - (nI i &&& 7))) : Int32).toInt64.toUInt64 &&& Int64.toUInt64 63) = UInt64.ofNat (7 * (7 - i % 8)) := by decide +kernel
theorem shB : ∀ i, i < 16 → ((8 * (nI i &&& 7) : Int32).toInt64.toUInt64 &&& Int64.toUInt64 63) = UInt64.ofNat (8 * (i % 8)) := by decide +kernel
theorem le8 : ∀ i, i < 16 → (8 ≤ nI i ↔ 8 ≤ i) := by decide +kernel
theorem getD_take {w : List Nat} {i n : Nat} (h : i < n) : (w.take n).getD i 0 = w.getD i 0 := by
  rw [List.getD_eq_getElem?_getD, List.getD_eq_getElem?_getD, List.getElem?_take_of_lt h]
theorem getD_drop {w : List Nat} {i n : Nat} : (w.drop n).getD i 0 = w.getD (n + i) 0 := by
  rw [List.getD_eq_getElem?_getD, List.getD_eq_getElem?_getD, List.getElem?_drop]
theorem okL.getD {w : List Nat} (h : okL w) {i : Nat} (hi : i < w.length) : 1 ≤ w.getD i 0 ∧ w.getD i 0 < 128 := by
  rw [List.getD_eq_getElem?_getD, List.getElem?_eq_getElem hi]
  exact h _ (List.getElem_mem hi)
theorem t7_sign {w : List Nat} (h : okL w) {i : Nat} (hi : i < 16) : s_Cell_signAt (T7 w).1 (T7 w).2 (nI i) = nI (w.getD i 0) := by
  unfold s_Cell_signAt T7
  dsimp only
  rw [shA i hi]
  by_cases c : 8 ≤ i
  · rw [if_pos ((le8 i hi).mpr c), shr_nat (by omega), and_7, Nat.mod_eq_of_lt (Nat.lt_of_lt_of_le (C8_lt h.drop) (by decide)), show i % 8 = i - 8 by omega]
    have e := C128_dig 8 (w.drop 8) (i - 8) h.drop (by omega)
    rw [p128, getD_drop, show 8 + (i - 8) = i by omega] at e
    rw [show 7 - (i - 8) = 8 - 1 - (i - 8) by omega, e]
  · rw [if_neg (fun q => c ((le8 i hi).mp q)), shr_nat (by omega), and_7, show i % 8 = i by omega]
    have hc := C128_lt 8 (w.take 8) h.take
    have h8 : (128 : Nat) ^ 8 = 2 ^ 56 := by decide
    rw [Nat.mod_eq_of_lt (show 2 * 2 ^ 56 + C128 8 (w.take 8) < 2 ^ 64 by omega)]
    have e := C128_dig 8 (w.take 8) i h.take (by omega)
    rw [getD_take (by omega)] at e
    have e2 : (2 * 2 ^ 56 + C128 8 (w.take 8)) / 2 ^ (7 * (7 - i)) % 128 = C128 8 (w.take 8) / 128 ^ (8 - 1 - i) % 128 := by
      rw [← p128, show 8 - 1 - i = 7 - i by omega, show 2 * 2 ^ 56 = 2 * 128 ^ (i + 1) * 128 ^ (7 - i) by rw [Nat.mul_assoc, ← Nat.pow_add, show i + 1 + (7 - i) = 8 by omega, h8], Nat.add_comm, Nat.add_mul_div_right _ _ (Nat.pow_pos (by omega)), Nat.pow_succ, ← Nat.mul_assoc, Nat.add_mul_mod_self_right]
    rw [e2, e]
theorem t8_sign {w : List Nat} (h : okL w) (hl : w.length ≤ 16) {i : Nat} (hi : i < 16) : s_Vals_sign (T8 w).2.2.1 (T8 w).2.2.2 (nI i) = nI (w.getD i 0) := by
  unfold s_Vals_sign T8
  dsimp only
  rw [shB i hi]
  by_cases c : 8 ≤ i
  · rw [if_pos ((le8 i hi).mpr c), shr_nat (by omega), and_8, Nat.mod_eq_of_lt (Nat.lt_of_lt_of_le (E8_lt h.drop (by rw [List.length_drop]; omega)) (by decide)), show i % 8 = i - 8 by omega]
    have e := E256_dig (w.drop 8) (i - 8) h.drop
    rw [getD_drop, show 8 + (i - 8) = i by omega, show (256 : Nat) ^ (i - 8) = 2 ^ (8 * (i - 8)) by rw [Nat.pow_mul]] at e
    rw [e]
  · rw [if_neg (fun q => c ((le8 i hi).mp q)), shr_nat (by omega), and_8, Nat.mod_eq_of_lt (Nat.lt_of_lt_of_le (E8_lt h.take (by rw [List.length_take]; omega)) (by decide)), show i % 8 = i by omega]
    have e := E256_dig (w.take 8) i h.take
    rw [getD_take (by omega), show (256 : Nat) ^ i = 2 ^ (8 * i) by rw [Nat.pow_mul]] at e
    rw [e]
theorem t7_so {w : List Nat} (h : okL w) (hl : w.length ≤ 16) : ∀ m i, i + m = 16 → i ≤ w.length → s_so (T7 w).1 (T7 w).2 m i = nI w.length
  | 0, i, e, h2 => by
    rw [show w.length = 16 by omega]
    rfl
  | m + 1, i, e, h2 => by
    rw [s_so, t7_sign h (by omega)]
    by_cases c : i = w.length
    · rw [if_pos ?_, c]
      rw [List.getD_eq_getElem?_getD, List.getElem?_eq_none (by omega)]
      rfl
    · have hi : i < w.length := by omega
      have g := h.getD hi
      rw [if_neg ?_, t7_so h hl m (i + 1) (by omega) hi]
      intro q
      have := nI_inj (b := 0) (by omega) (by decide) q
      omega
theorem t7_signs {w : List Nat} (h : okL w) (hl : w.length ≤ 16) : s_Cell_signsOf (T7 w).1 (T7 w).2 = nI w.length := t7_so h hl 16 0 rfl (Nat.zero_le _)
theorem t7_many {w : List Nat} (h : okL w) (hl : w.length ≤ 16) : s_signs (T7 w).1 (T7 w).2 = w.length := by
  unfold s_signs
  rw [t7_signs h hl, nI_clamp (by omega)]
theorem t7_sort {w : List Nat} (h : okL w) : s_Cell_sortOf (T7 w).1 = 2 := by
  unfold s_Cell_sortOf T7
  dsimp only
  have hc := C128_lt 8 (w.take 8) h.take
  have h8 : (128 : Nat) ^ 8 = 2 ^ 56 := by decide
  rw [show ((56 : Int32).toInt64.toUInt64 &&& Int64.toUInt64 63) = UInt64.ofNat 56 by decide, shr_nat (by omega), Nat.mod_eq_of_lt (by omega), show (2 * 2 ^ 56 + C128 8 (w.take 8)) / 2 ^ 56 = 2 by omega]
  rfl
theorem t7_nil : T7 [] = (s_Cell_headOf 2, 0) := by decide +kernel
theorem t8_nil : T8 [] = (2, 0, 0, 0) := by decide +kernel
theorem pl_16 {j i : Nat} (hj : j < 128) (hi : i < 16) : s_Cell_placed (nI j) (nI i) = Int64.ofNat (j * 128 ^ (7 - i % 8)) := by
  by_cases c : i < 8
  · rw [pl_nat j hj i c, show i % 8 = i by omega]
  · rw [← pl_nat j hj (i % 8) (by omega)]
    unfold s_Cell_placed
    rw [show nI i &&& 7 = nI (i % 8) &&& 7 from ?_]
    have : ∀ i, i < 16 → nI i &&& 7 = nI (i % 8) &&& 7 := by decide +kernel
    exact this i hi
/-- one sign more, as the class sets it -/
theorem t7_app {w : List Nat} {x : Nat} (h : okL w) (hx : x < 128) (hl : w.length < 16) : T7 (w ++ [x]) = if 8 ≤ nI w.length then ((T7 w).1, (T7 w).2 ||| s_Cell_placed (nI x) (nI w.length)) else ((T7 w).1 ||| s_Cell_placed (nI x) (nI w.length), (T7 w).2) := by
  rw [pl_16 hx hl]
  have key : ∀ (A c e : Nat), e ≤ 7 → A = c * 128 ^ (e + 1) → A + x * 128 ^ e < 2 ^ 63 → Int64.ofNat A ||| Int64.ofNat (x * 128 ^ e) = Int64.ofNat (A + x * 128 ^ e) := by
    intro A c e he hA hlt
    rw [or_nat _ _ (by omega) (by omega), or_add (k := 7 * (e + 1))]
    · rw [hA, p128]
      exact Nat.mul_mod_left _ _
    · rw [← p128, Nat.pow_succ, Nat.mul_comm]
      exact Nat.mul_lt_mul_of_pos_left hx (Nat.pow_pos (by omega))
  have h8 : (128 : Nat) ^ 8 = 2 ^ 56 := by decide
  have hxe : ∀ e, e ≤ 7 → x * 128 ^ e < 2 ^ 56 := by
    intro e he
    have h1 : 128 ^ e ≤ 128 ^ 7 := Nat.pow_le_pow_right (by omega) he
    have h2 : x * 128 ^ e ≤ 127 * 128 ^ 7 := Nat.mul_le_mul (by omega) h1
    have h3 : 127 * 128 ^ 7 < 2 ^ 56 := by decide
    omega
  by_cases c : 8 ≤ w.length
  · rw [if_pos ((le8 _ hl).mpr c)]
    unfold T7
    dsimp only
    rw [List.take_append_of_le_length c, List.drop_append_of_le_length c, C128_app 8 _ x (by rw [List.length_drop]; omega), List.length_drop, show w.length % 8 = w.length - 8 by omega, show 8 - 1 - (w.length - 8) = 7 - (w.length - 8) by omega]
    obtain ⟨q, hq⟩ := C128_mod 8 (w.drop 8) (by rw [List.length_drop]; omega)
    rw [List.length_drop] at hq
    have hc := C128_lt 8 (w.drop 8) h.drop
    rw [key _ q _ (by omega) (by rw [hq, show 8 - (w.length - 8) = 7 - (w.length - 8) + 1 by omega]) (by have := hxe (7 - (w.length - 8)) (by omega); omega)]
  · rw [if_neg (fun q => c ((le8 _ hl).mp q))]
    unfold T7
    dsimp only
    rw [List.take_of_length_le (show (w ++ [x]).length ≤ 8 by rw [List.length_append]; show w.length + 1 ≤ 8; omega), List.take_of_length_le (show w.length ≤ 8 by omega), List.drop_of_length_le (show (w ++ [x]).length ≤ 8 by rw [List.length_append]; show w.length + 1 ≤ 8; omega), List.drop_of_length_le (show w.length ≤ 8 by omega), C128_app 8 _ x (by omega), show w.length % 8 = w.length by omega, show 8 - 1 - w.length = 7 - w.length by omega]
    obtain ⟨q, hq⟩ := C128_mod 8 w (by omega)
    have hc := C128_lt 8 w h
    rw [key _ (2 * 128 ^ w.length + q) _ (by omega) ?_ (by have := hxe (7 - w.length) (by omega); omega), Nat.add_assoc]
    rw [hq, show 8 - w.length = 7 - w.length + 1 by omega, Nat.add_mul, Nat.mul_assoc, ← Nat.pow_add, show w.length + (7 - w.length + 1) = 8 by omega, h8]
theorem vadd_nat : ∀ j, j < 128 → ∀ i, i < 16 → vadd (nI j) (nI i) = Int64.ofNat (j * 256 ^ (i % 8)) := by decide +kernel
/-- one sign more, as the reference adds it -/
theorem t8_app {w : List Nat} {x : Nat} (h : okL w) (hx : x < 128) (hl : w.length < 16) : T8 (w ++ [x]) = vAd (T8 w) (nI x) := by
  have key : ∀ (A e : Nat), e ≤ 7 → A < 256 ^ e → Int64.ofNat A ||| Int64.ofNat (x * 256 ^ e) = Int64.ofNat (A + x * 256 ^ e) := by
    intro A e he hA
    have h1 : (256 : Nat) ^ e ≤ 256 ^ 7 := Nat.pow_le_pow_right (by omega) he
    have h2 : x * 256 ^ e ≤ 127 * 256 ^ 7 := Nat.mul_le_mul (by omega) h1
    have h3 : 127 * 256 ^ 7 < 2 ^ 63 := by decide
    have h4 : (256 : Nat) ^ 7 < 2 ^ 63 := by decide
    rw [or_nat _ _ (by omega) (by omega), Nat.or_comm, or_add (k := 8 * e), Nat.add_comm]
    · rw [show (256 : Nat) ^ e = 2 ^ (8 * e) by rw [Nat.pow_mul]]
      exact Nat.mul_mod_left _ _
    · rw [show (2 : Nat) ^ (8 * e) = 256 ^ e by rw [Nat.pow_mul]]
      exact hA
  unfold vAd T8
  dsimp only
  rw [vadd_nat x hx _ hl, List.length_append, show w.length + [x].length = w.length + 1 from rfl]
  have en : nI (w.length + 1) = nI w.length + 1 := Int32.ofNat_add _ _
  rw [en]
  by_cases c : 8 ≤ w.length
  · have ld : (w.drop 8).length = w.length - 8 := List.length_drop
    have hE := E256_lt (w.drop 8) h.drop
    rw [if_pos ((le8 _ hl).mpr c), if_pos ((le8 _ hl).mpr c), List.take_append_of_le_length c, List.drop_append_of_le_length c, E256_app, ld, show w.length % 8 = w.length - 8 by omega, key _ _ (by omega) (by rw [ld] at hE; omega)]
  · have hE := E256_lt w h
    rw [if_neg (fun q => c ((le8 _ hl).mp q)), if_neg (fun q => c ((le8 _ hl).mp q)), List.take_of_length_le (show (w ++ [x]).length ≤ 8 by rw [List.length_append]; show w.length + 1 ≤ 8; omega), List.take_of_length_le (show w.length ≤ 8 by omega), List.drop_of_length_le (show (w ++ [x]).length ≤ 8 by rw [List.length_append]; show w.length + 1 ≤ 8; omega), List.drop_of_length_le (show w.length ≤ 8 by omega), E256_app, show w.length % 8 = w.length by omega, key _ _ (by omega) (by omega)]
theorem list_getD {w w' : List Nat} (hl : w.length = w'.length) (h : ∀ i, i < w.length → w.getD i 0 = w'.getD i 0) : w = w' := by
  apply List.ext_getElem hl
  intro i h1 h2
  have := h i h1
  rw [List.getD_eq_getElem?_getD, List.getD_eq_getElem?_getD, List.getElem?_eq_getElem h1, List.getElem?_eq_getElem h2] at this
  exact this
theorem T7_inj {w w' : List Nat} (h : okL w) (h' : okL w') (hl : w.length ≤ 16) (hl' : w'.length ≤ 16) (e : T7 w = T7 w') : w = w' := by
  have e1 := t7_signs h hl
  rw [e, t7_signs h' hl'] at e1
  have e2 := nI_inj (by omega) (by omega) e1
  refine list_getD e2.symm fun i hi => ?_
  have e3 := t7_sign h (i := i) (by omega)
  rw [e, t7_sign h' (by omega)] at e3
  have g1 := h.getD hi
  have g2 := h'.getD (i := i) (by omega)
  exact (nI_inj (by omega) (by omega) e3).symm
theorem T8_inj {w w' : List Nat} (h : okL w) (h' : okL w') (hl : w.length ≤ 16) (hl' : w'.length ≤ 16) (e : T8 w = T8 w') : w = w' := by
  have e1 : nI w.length = nI w'.length := congrArg (fun z : VQ => z.2.1) e
  have e2 := nI_inj (by omega) (by omega) e1
  refine list_getD e2 fun i hi => ?_
  have e3 := t8_sign h hl (i := i) (by omega)
  rw [e, t8_sign h' hl' (by omega)] at e3
  have g1 := h.getD hi
  have g2 := h'.getD (i := i) (by omega)
  exact (nI_inj (by omega) (by omega) e3).symm
def ltL : List Nat → List Nat → Prop
  | _, [] => False
  | [], _ :: _ => True
  | x :: w, y :: v => x < y ∨ (x = y ∧ ltL w v)
theorem C128_ltL : ∀ (k : Nat) (w v : List Nat), w.length ≤ k → v.length ≤ k → okL w → okL v → (C128 k w < C128 k v ↔ ltL w v)
  | k, w, [], _, _, _, _ => by
    rw [C128_nil]
    exact ⟨fun q => absurd q (Nat.not_lt_zero _), fun q => by cases w <;> exact absurd q id⟩
  | 0, _, y :: v, _, h, _, _ => by simp at h
  | k + 1, [], y :: v, _, _, _, hv => by
    have hy := hv.hd
    refine ⟨fun _ => trivial, fun _ => ?_⟩
    show 0 < y * 128 ^ k + C128 k v
    have : 0 < y * 128 ^ k := Nat.mul_pos (by omega) (Nat.pow_pos (by omega))
    omega
  | k + 1, x :: w, y :: v, h1, h2, hw, hv => by
    have ih := C128_ltL k w v (by simp at h1; omega) (by simp at h2; omega) hw.tl hv.tl
    have c1 := C128_lt k w hw.tl
    have c2 := C128_lt k v hv.tl
    show x * 128 ^ k + C128 k w < y * 128 ^ k + C128 k v ↔ x < y ∨ (x = y ∧ ltL w v)
    rw [← ih]
    rcases Nat.lt_trichotomy x y with q | q | q
    · have : (x + 1) * 128 ^ k ≤ y * 128 ^ k := Nat.mul_le_mul_right _ q
      rw [Nat.add_mul] at this
      exact ⟨fun _ => Or.inl q, fun _ => by omega⟩
    · subst q
      exact ⟨fun z => Or.inr ⟨rfl, by omega⟩, fun z => by rcases z with z | z <;> omega⟩
    · have : (y + 1) * 128 ^ k ≤ x * 128 ^ k := Nat.mul_le_mul_right _ q
      rw [Nat.add_mul] at this
      exact ⟨fun z => by omega, fun z => by rcases z with z | z <;> omega⟩
theorem C128_split : ∀ (k m : Nat) (w : List Nat), C128 (k + m) w = C128 k (w.take k) * 128 ^ m + C128 m (w.drop k)
  | 0, m, w => by
    rw [Nat.zero_add]
    show _ = 0 * 128 ^ m + C128 m w
    omega
  | k + 1, m, [] => by
    rw [C128_nil]
    show 0 = 0 * 128 ^ m + C128 m []
    rw [C128_nil]
    omega
  | k + 1, m, x :: w => by
    show C128 (k + 1 + m) (x :: w) = (x * 128 ^ k + C128 k (w.take k)) * 128 ^ m + C128 m (w.drop k)
    rw [show k + 1 + m = k + m + 1 by omega]
    show x * 128 ^ (k + m) + C128 (k + m) w = _
    rw [C128_split k m w, Nat.add_mul, Nat.pow_add, Nat.mul_assoc, Nat.add_assoc]
theorem i64_lt {a b : Nat} (ha : a < 2 ^ 63) (hb : b < 2 ^ 63) : Int64.ofNat a < Int64.ofNat b ↔ a < b := by
  rw [Int64.lt_iff_toInt_lt]
  have e : ∀ a : Nat, a < 2 ^ 63 → (Int64.ofNat a).toInt = a := by
    intro a h
    have hs : Int64.size = 18446744073709551616 := rfl
    rw [Int64.toInt_ofNat', hs, Int.bmod_eq_of_le (by omega) (by omega)]
  rw [e a ha, e b hb]
  omega
theorem lex_n {A A' B B' M : Nat} (h : B < M) (h' : B' < M) : A * M + B < A' * M + B' ↔ A < A' ∨ (A = A' ∧ B < B') := by
  rcases Nat.lt_trichotomy A A' with q | q | q
  · have : (A + 1) * M ≤ A' * M := Nat.mul_le_mul_right _ q
    rw [Nat.add_mul] at this
    exact ⟨fun _ => Or.inl q, fun _ => by omega⟩
  · subst q
    exact ⟨fun z => Or.inr ⟨rfl, by omega⟩, fun z => by rcases z with z | z <;> omega⟩
  · have : (A' + 1) * M ≤ A * M := Nat.mul_le_mul_right _ q
    rw [Nat.add_mul] at this
    exact ⟨fun z => by omega, fun z => by rcases z with z | z <;> omega⟩
theorem T7_lt {w v : List Nat} (h : okL w) (h' : okL v) (hl : w.length ≤ 16) (hl' : v.length ≤ 16) : ((T7 w).1 < (T7 v).1 ∨ ((T7 w).1 = (T7 v).1 ∧ (T7 w).2 < (T7 v).2)) ↔ ltL w v := by
  have a1 := C128_lt 8 _ (h.take (n := 8))
  have a2 := C128_lt 8 _ (h.drop (n := 8))
  have b1 := C128_lt 8 _ (h'.take (n := 8))
  have b2 := C128_lt 8 _ (h'.drop (n := 8))
  rw [← C128_ltL 16 w v hl hl' h h', show (16 : Nat) = 8 + 8 from rfl, C128_split, C128_split, lex_n a2 b2]
  unfold T7
  dsimp only
  have h8 : (128 : Nat) ^ 8 = 72057594037927936 := by decide
  rw [h8] at a1 a2 b1 b2
  rw [i64_lt (by omega) (by omega), i64_lt (by omega) (by omega)]
  constructor
  · rintro (q | ⟨q1, q2⟩)
    · exact Or.inl (by omega)
    · have := ofN_inj (by omega) (by omega) q1
      exact Or.inr ⟨by omega, q2⟩
  · rintro (q | ⟨q1, q2⟩)
    · exact Or.inl (by omega)
    · exact Or.inr ⟨by rw [q1], q2⟩
