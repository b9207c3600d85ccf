section
variable {n us d : Nat} {f : Nat → am_C} {g : Nat → Int32} {L : Nat} {tm om sz nx kd fr to fa ps : Int32} {nb : Int64} {R : List Value}
theorem sh8 (v : Nat) : (Int64.ofNat v <<< ((8 : Int32).toInt64 &&& 63)) = Int64.ofNat (v * 256) := by
  rw [show ((8 : Int32).toInt64 &&& 63) = (8 : Int64) by decide]
  apply Int64.toBitVec_inj.mp
  rw [Int64.toBitVec_shiftLeft]
  show (BitVec.ofNat 64 v) <<< ((8 : Int64).toBitVec.smod 64) = BitVec.ofNat 64 (v * 256)
  rw [show ((8 : Int64).toBitVec.smod 64) = 8#64 by decide]
  apply BitVec.eq_of_toNat_eq
  simp [BitVec.toNat_shiftLeft, Nat.shiftLeft_eq]
theorem or_natU (a b : Nat) : Int64.ofNat a ||| Int64.ofNat b = Int64.ofNat (a ||| b) := by
  apply Int64.toBitVec_inj.mp
  rw [Int64.toBitVec_or]
  show BitVec.ofNat 64 a ||| BitVec.ofNat 64 b = BitVec.ofNat 64 (a ||| b)
  apply BitVec.eq_of_getLsbD_eq
  intro i hi
  simp [hi]
theorem b64 : ∀ x, x < 128 → (nI x).toInt64 = Int64.ofNat x := by decide +kernel
theorem nm_step {v x : Nat} (hx : x < 128) : ((Int64.ofNat v <<< ((8 : Int32).toInt64 &&& 63)) ||| (nI x).toInt64) = Int64.ofNat (v * 256 + x) := by
  rw [sh8, b64 x hx, or_natU, or_add (k := 8) (by omega) (by omega)]
theorem e_name (hn : 1311 ≤ n) (U : f 161 = .inl (.byte, 1500, fun j => .int (g j))) (hL : L ≤ 1500) {q p : Nat} (hq : q ≤ p) (hp : p ≤ L) (hb : nmB g q (p - q)) : x_Mod_name d 160 (n, va_up f 160 (mdC tm om (nI L) nx kd (nI q) (nI p) fa ps nb R), us) = some (Int64.ofNat (V256 0 (nmL g q (p - q))), (n, va_up f 160 (mdC tm om (nI L) nx kd (nI q) (nI p) fa ps nb R), us)) := by
  unfold x_Mod_name
  rw [G_gd (by decide) (by omega)]
  simp only [gI, gL, gR, G_gV (show 128 ≤ 160 by decide) (show 160 < n by omega), List.getElem?_cons_succ, List.getElem?_cons_zero, asI_s, asL_s, asR_s, Option.bind_some, bnd_some, List.set_cons_succ, List.set_cons_zero]
  refine loop_ind (fun z r => ∀ m k v, k + m = p → q ≤ k → z = (Int64.ofNat v, nI k, (n, va_up f 160 (mdC tm om (nI L) nx kd (nI q) (nI p) fa ps nb R), us)) → r = some (Int64.ofNat (V256 v (nmL g k m)), (n, va_up f 160 (mdC tm om (nI L) nx kd (nI q) (nI p) fa ps nb R), us))) (fun z => p - z.2.1.toNatClampNeg) (fun again z ih m k v e h0 ez => ?_) FU _ (by rw [FU_eq]; omega) (p - q) q 0 (by omega) (by omega) rfl
  subst ez
  simp only [gI, gL, gR, G_gV (show 128 ≤ 160 by decide) (show 160 < n by omega), List.getElem?_cons_succ, List.getElem?_cons_zero, asI_s, asL_s, asR_s, Option.bind_some, bnd_some, List.set_cons_succ, List.set_cons_zero]
  cases m with
  | zero =>
    obtain rfl : k = p := by omega
    rw [if_pos (Int32.le_refl _)]
    rfl
  | succ m =>
    have hk := hb (k - q) (by omega)
    rw [show q + (k - q) = k by omega] at hk
    have hneg : ¬ g k < 0 := fun w => by
      have := Int32.lt_iff_toInt_lt.mp w
      simp at this
      omega
    have hx : (g k).toNatClampNeg < 128 := by
      show (g k).toInt.toNat < 128
      omega
    rw [if_neg (nI_ge (show k < p by omega) (by omega)), M_aBn hn U hL (show k < 1500 by omega), Option.bind_some, nmL, V256]
    have st := nm_step (v := v) hx
    rw [← clamp_back hneg] at st
    rw [st, ← nI_succ]
    exact ih _ (by simp only [nI_clamp (show k + 1 < 2 ^ 31 by omega), nI_clamp (show k < 2 ^ 31 by omega)]; omega) m (k + 1) _ (by omega) (by omega) rfl
theorem e_bad (hn : 1311 ≤ n) (hf : fa < 0) : x_Mod_bad d 160 (n, va_up f 160 (mdC tm om sz nx kd fr to fa ps nb R), us) = some (0, (n, va_up f 160 (mdC tm om sz nx kd fr to fr ps nb R), us)) := by
  unfold x_Mod_bad
  rw [G_gd (by decide) (by omega)]
  simp only [gI, gL, gR, G_gV (show 128 ≤ 160 by decide) (show 160 < n by omega), List.getElem?_cons_succ, List.getElem?_cons_zero, asI_s, asL_s, asR_s, Option.bind_some, bnd_some, List.set_cons_succ, List.set_cons_zero, M_pV (k := 9) (by decide) hn, if_neg (show ¬ 0 ≤ fa from Int32.not_le.mpr hf)]
theorem V64 {a b : Nat} (ha : a < 2 ^ 64) (hb : b < 2 ^ 64) (h : Int64.ofNat a = Int64.ofNat b) : a = b := by
  have := congrArg (fun z : Int64 => z.toBitVec.toNat) h
  have e : ∀ x : Nat, x < 2 ^ 64 → (Int64.ofNat x).toBitVec.toNat = x := fun x hx => by
    show (BitVec.ofNat 64 x).toNat = x
    rw [BitVec.toNat_ofNat]
    exact Nat.mod_eq_of_lt hx
  rwa [e a ha, e b hb] at this
/-- names: equal for the class, equal for the reference, equal as lists -/
theorem nm_same {w w' : List Nat} (hw : okL w) (hw' : okL w') (h1 : w.length ≤ 8) (h2 : w'.length ≤ 8) : (Int64.ofNat (C128 8 w) = Int64.ofNat (C128 8 w') ↔ w = w') ∧ (Int64.ofNat (V256 0 w) = Int64.ofNat (V256 0 w') ↔ w = w') := by
  have b : ∀ v : List Nat, okL v → v.length ≤ 8 → V256 0 v < 2 ^ 64 := fun v hv hl => by
    have := V256_lt v 0 0 hv (by decide)
    rw [Nat.zero_add] at this
    exact Nat.lt_of_lt_of_le this (Nat.le_trans (Nat.pow_le_pow_right (by decide) hl) (by decide))
  refine ⟨⟨fun e => C128_inj 8 _ _ h1 h2 hw hw' (ofN_inj (C8_lt hw) (C8_lt hw') e), fun e => by rw [e]⟩, fun e => V256_inj 8 _ _ h1 hw hw' (V64 (b w hw h1) (b w' hw' h2) e), fun e => by rw [e]⟩
end
