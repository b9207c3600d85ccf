section
variable {n us d : Nat} {f : Nat → am_C} {g : Nat → Int32} {L : Nat} {tm om sz nx kd fr to fa ps : Int32} {nb : Int64} {R : List Value}
def r_nm (g : Nat → Int32) : Nat → Nat → Nat
  | 0, p => p
  | m + 1, p => if s_Mod_isSmall (g p) = 0 then (if s_Mod_isDigit (g p) = 0 then p else r_nm g m (p + 1)) else r_nm g m (p + 1)
def r_nu (g : Nat → Int32) : Nat → Nat → Int64 → Nat × Int64
  | 0, p, x => (p, x)
  | m + 1, p, x => if s_Mod_isDigit (g p) = 0 then (p, x) else r_nu g m (p + 1) (if 10 * x + (g p).toInt64 - 48 < 1099511627776 then 10 * x + (g p).toInt64 - 48 else 1099511627776)
def r_tx (g : Nat → Int32) : Nat → Nat → Nat
  | 0, p => p
  | m + 1, p => if g p = 34 then p else if s_Mod_in (g p).toInt64 32 126 = 0 then p else r_tx g m (p + 1)
def r_sk (g : Nat → Int32) : Nat → Nat → Nat
  | 0, p => p
  | m + 1, p => if g p = 32 then r_sk g m (p + 1) else if g p = 10 then r_sk g m (p + 1) else p
theorem r_nm_le : ∀ m p, p ≤ r_nm g m p ∧ r_nm g m p ≤ p + m
  | 0, p => ⟨Nat.le_refl _, Nat.le_refl _⟩
  | m + 1, p => by
    have := r_nm_le m (p + 1)
    rw [r_nm]
    (repeat' split) <;> omega
theorem r_tx_le : ∀ m p, p ≤ r_tx g m p ∧ r_tx g m p ≤ p + m
  | 0, p => ⟨Nat.le_refl _, Nat.le_refl _⟩
  | m + 1, p => by
    have := r_tx_le m (p + 1)
    rw [r_tx]
    (repeat' split) <;> omega
theorem r_sk_le : ∀ m p, p ≤ r_sk g m p ∧ r_sk g m p ≤ p + m
  | 0, p => ⟨Nat.le_refl _, Nat.le_refl _⟩
  | m + 1, p => by
    have := r_sk_le m (p + 1)
    rw [r_sk]
    (repeat' split) <;> omega
theorem r_nu_le : ∀ m p x, p ≤ (r_nu g m p x).1 ∧ (r_nu g m p x).1 ≤ p + m
  | 0, p, x => ⟨Nat.le_refl _, Nat.le_refl _⟩
  | m + 1, p, x => by
    have := fun y => r_nu_le m (p + 1) y
    rw [r_nu]
    split
    · omega
    · have := this (if 10 * x + (g p).toInt64 - 48 < 1099511627776 then 10 * x + (g p).toInt64 - 48 else 1099511627776)
      omega
theorem nI_st {q : Nat} {two : Int32} : nI q + r_st two = nI (if two = 0 then q + 1 else q + 2) := by
  unfold r_st
  split
  · rw [nI_succ]
  · exact nI_add q 2
def nxm (z : HS) : Nat := ((gI z 160 14 5).getD 0).toNatClampNeg
theorem nxm_md (hn : 1311 ≤ n) {q : Nat} (hq : q < 2 ^ 31) : nxm (n, va_up f 160 (mdC tm om sz (nI q) kd fr to fa ps nb R), us) = q := by
  unfold nxm
  simp only [gI, G_gV (show 128 ≤ 160 by decide) (show 160 < n by omega), List.getElem?_cons_succ, List.getElem?_cons_zero, asI, Option.getD_some]
  exact nI_clamp hq
/-- the reference's token at q: where it ends, its kind, its number -/
def r_tok (g : Nat → Int32) (L q : Nat) (nb : Int64) : Nat × Int32 × Int64 :=
  if q = L then (q, 0, nb)
  else if s_Mod_isSmall (g q) = 0 then
    if s_Mod_isDigit (g q) = 0 then
      if g q = 34 then
        (if r_tx g (L - (q + 1)) (q + 1) < L ∧ g (r_tx g (L - (q + 1)) (q + 1)) = 34 then r_tx g (L - (q + 1)) (q + 1) + 1 else r_tx g (L - (q + 1)) (q + 1),
          if r_tx g (L - (q + 1)) (q + 1) < L ∧ g (r_tx g (L - (q + 1)) (q + 1)) = 34 then (if 16 < nI (r_tx g (L - (q + 1)) (q + 1) - q) - 1 then 6 else 4) else 6, nb)
      else (if r_two (g q) (if q + 1 < L then g (q + 1) else 0) = 0 then q + 1 else q + 2, r_sk5 (r_one (g q)) (r_two (g q) (if q + 1 < L then g (q + 1) else 0)), nb)
    else ((r_nu g (L - q) q 0).1, if 0 < lg_cmp (r_nu g (L - q) q 0).2 2147483647 then 6 else 3, (r_nu g (L - q) q 0).2)
  else (r_nm g (L - q) q, if rsB g q (r_nm g (L - q) q - q) 60 0 = true then 2 else if 8 < nI (r_nm g (L - q) q - q) then 6 else 1, nb)

set_option maxHeartbeats 4000000 in
theorem e_b62 (hn : 1311 ≤ n) (U : f 161 = .inl (.byte, 1500, fun j => .int (g j))) (hL : L ≤ 1500) (hd : 4 ≤ d) {q : Nat} (hq : q ≤ L) : x_Mod_step_b62 d 160 (n, va_up f 160 (mdC tm om (nI L) (nI q) kd fr to fa ps nb R), us) = some ((), (fun t => (n, va_up f 160 (mdC tm om (nI L) (nI t.1) t.2.1 (nI q) (nI t.1) fa ps t.2.2 R), us)) (r_tok g L q nb)) := by
  unfold x_Mod_step_b62
  simp only [gI, gL, gR, G_gV (show 128 ≤ 160 by decide) (show 160 < n by omega), List.getElem?_cons_succ, List.getElem?_cons_zero, asI_s, asL_s, asR_s, Option.bind_some, bnd_some, List.set_cons_succ, List.set_cons_zero, M_pV (k := 5) (by decide) hn, M_pV (k := 6) (by decide) hn, M_pV (k := 7) (by decide) hn, M_pV (k := 8) (by decide) hn]
  unfold r_tok
  rcases Nat.lt_or_ge q L with h | h
  · have hne : ¬ nI q = nI L := fun e => by have := nI_inj (by omega) (by omega) e; omega
    have hne' : ¬ q = L := by omega
    simp only [if_neg hne, if_neg hne', M_aBn hn U hL (show q < 1500 by omega), e_Mod_isSmall, e_Mod_isDigit, gI, gL, gR, G_gV (show 128 ≤ 160 by decide) (show 160 < n by omega), List.getElem?_cons_succ, List.getElem?_cons_zero, asI_s, asL_s, asR_s, Option.bind_some, bnd_some, List.set_cons_succ, List.set_cons_zero, M_pV (k := 5) (by decide) hn, M_pV (k := 6) (by decide) hn, M_pV (k := 7) (by decide) hn, M_pV (k := 8) (by decide) hn]
    by_cases c1 : s_Mod_isSmall (g q) = 0
    · simp only [if_pos c1, gI, gL, gR, G_gV (show 128 ≤ 160 by decide) (show 160 < n by omega), List.getElem?_cons_succ, List.getElem?_cons_zero, asI_s, asL_s, asR_s, Option.bind_some, bnd_some, List.set_cons_succ, List.set_cons_zero, M_aBn hn U hL (show q < 1500 by omega), e_Mod_isDigit]
      by_cases c2 : s_Mod_isDigit (g q) = 0
      · simp only [if_pos c2, gI, gL, gR, G_gV (show 128 ≤ 160 by decide) (show 160 < n by omega), List.getElem?_cons_succ, List.getElem?_cons_zero, asI_s, asL_s, asR_s, Option.bind_some, bnd_some, List.set_cons_succ, List.set_cons_zero, M_aBn hn U hL (show q < 1500 by omega)]
        by_cases c3 : g q = 34
        · simp only [if_pos c3, gI, gL, gR, G_gV (show 128 ≤ 160 by decide) (show 160 < n by omega), List.getElem?_cons_succ, List.getElem?_cons_zero, asI_s, asL_s, asR_s, Option.bind_some, bnd_some, List.set_cons_succ, List.set_cons_zero, M_pV (k := 5) (by decide) hn, M_pV (k := 6) (by decide) hn, M_pV (k := 7) (by decide) hn, M_pV (k := 8) (by decide) hn]
          rw [← nI_succ]
          have hr := r_tx_le (g := g) (L - (q + 1)) (q + 1)
          refine loop_ind (fun z r => ∀ p, q < p → p ≤ L → z = (n, va_up f 160 (mdC tm om (nI L) (nI p) kd (nI q) to fa ps nb R), us) → r = some ((), (n, va_up f 160 (mdC tm om (nI L) (nI (if r_tx g (L - p) p < L ∧ g (r_tx g (L - p) p) = 34 then r_tx g (L - p) p + 1 else r_tx g (L - p) p)) (if r_tx g (L - p) p < L ∧ g (r_tx g (L - p) p) = 34 then (if 16 < nI (r_tx g (L - p) p - q) - 1 then 6 else 4) else 6) (nI q) (nI (if r_tx g (L - p) p < L ∧ g (r_tx g (L - p) p) = 34 then r_tx g (L - p) p + 1 else r_tx g (L - p) p)) fa ps nb R), us))) (fun z => L - nxm z) (fun again z ih p h0 hp e => ?_) FU _ (by rw [FU_eq]; omega) (q + 1) (by omega) (by omega) rfl
          subst e
          have G : ∀ (q' : Nat), q' ≤ L → nxm (n, va_up f 160 (mdC tm om (nI L) (nI q') kd (nI q) to fa ps nb R), us) = q' := fun q' hq' => nxm_md hn (by omega)
          rcases Nat.lt_or_ge p L with h5 | h5
          · obtain ⟨m, hm⟩ : ∃ m, L - p = m + 1 := ⟨L - p - 1, by omega⟩
            have em : m = L - (p + 1) := by omega
            simp only [gI, gL, gR, G_gV (show 128 ≤ 160 by decide) (show 160 < n by omega), List.getElem?_cons_succ, List.getElem?_cons_zero, asI_s, asL_s, asR_s, Option.bind_some, bnd_some, List.set_cons_succ, List.set_cons_zero, M_pV (k := 5) (by decide) hn, if_neg (nI_ge h5 (show L < 2 ^ 31 by omega)), M_aBn hn U hL (show p < 1500 by omega), e_Mod_in]
            rw [hm, r_tx, em]
            by_cases c5 : g p = 34
            · simp only [if_pos c5]
              rw [e_b396 hn U hL h0 hp]
              simp only [← nI_succ]
              split <;> rfl
            · by_cases c6 : s_Mod_in (g p).toInt64 32 126 = 0
              · simp only [if_neg c5, if_pos c6]
                rw [e_b396 hn U hL h0 hp]
                simp only [← nI_succ]
                split <;> rfl
              · simp only [if_neg c5, if_neg c6]
                rw [← nI_succ]
                exact ih _ (by simp only [G _ (show p + 1 ≤ L by omega), G _ hp]; omega) (p + 1) (by omega) (by omega) rfl
          · obtain rfl : p = L := by omega
            simp only [gI, gL, gR, G_gV (show 128 ≤ 160 by decide) (show 160 < n by omega), List.getElem?_cons_succ, List.getElem?_cons_zero, asI_s, asL_s, asR_s, Option.bind_some, bnd_some, List.set_cons_succ, List.set_cons_zero, if_pos (Int32.le_refl (nI p)), Nat.sub_self, r_tx]
            rw [e_b396 hn U hL h0 hp]
            simp only [← nI_succ]
            split <;> rfl
        · simp only [if_neg c3, gI, gL, gR, G_gV (show 128 ≤ 160 by decide) (show 160 < n by omega), List.getElem?_cons_succ, List.getElem?_cons_zero, asI_s, asL_s, asR_s, Option.bind_some, bnd_some, List.set_cons_succ, List.set_cons_zero, M_aBn hn U hL (show q < 1500 by omega)]
          rcases Nat.lt_or_ge (q + 1) L with h6 | h6
          · rw [← nI_succ]
            simp only [if_neg (nI_ge h6 (show L < 2 ^ 31 by omega)), if_pos h6, gI, gL, gR, G_gV (show 128 ≤ 160 by decide) (show 160 < n by omega), List.getElem?_cons_succ, List.getElem?_cons_zero, asI_s, asL_s, asR_s, Option.bind_some, bnd_some, List.set_cons_succ, List.set_cons_zero, M_aBn hn U hL (show q + 1 < 1500 by omega), Option.bind_some, e_b512_1 hn]
            simp only [nI_st]
          · rw [← nI_succ]
            have h6' : ¬ q + 1 < L := by omega
            simp only [if_pos (nI_le h6 (show q + 1 < 2 ^ 31 by omega)), if_neg h6', e_b512 hn]
            simp only [nI_st]
      · simp only [if_neg c2, gI, gL, gR, G_gV (show 128 ≤ 160 by decide) (show 160 < n by omega), List.getElem?_cons_succ, List.getElem?_cons_zero, asI_s, asL_s, asR_s, Option.bind_some, bnd_some, List.set_cons_succ, List.set_cons_zero, M_pV (k := 11) (by decide) hn]
        have hr := fun x => r_nu_le (g := g) (L - q) q x
        refine loop_ind (fun z r => ∀ p x, q ≤ p → p ≤ L → z = (n, va_up f 160 (mdC tm om (nI L) (nI p) kd (nI q) to fa ps x R), us) → r = some ((), (n, va_up f 160 (mdC tm om (nI L) (nI (r_nu g (L - p) p x).1) (if 0 < lg_cmp (r_nu g (L - p) p x).2 2147483647 then 6 else 3) (nI q) (nI (r_nu g (L - p) p x).1) fa ps (r_nu g (L - p) p x).2 R), us))) (fun z => L - nxm z) (fun again z ih p x h0 hp e => ?_) FU _ (by rw [FU_eq]; omega) q 0 (by omega) (by omega) rfl
        subst e
        have G : ∀ (q' : Nat) (nb : Int64), q' ≤ L → nxm (n, va_up f 160 (mdC tm om (nI L) (nI q') kd (nI q) to fa ps nb R), us) = q' := fun q' nb hq' => nxm_md hn (by omega)
        rcases Nat.lt_or_ge p L with h5 | h5
        · obtain ⟨m, hm⟩ : ∃ m, L - p = m + 1 := ⟨L - p - 1, by omega⟩
          have em : m = L - (p + 1) := by omega
          simp only [gI, gL, gR, G_gV (show 128 ≤ 160 by decide) (show 160 < n by omega), List.getElem?_cons_succ, List.getElem?_cons_zero, asI_s, asL_s, asR_s, Option.bind_some, bnd_some, List.set_cons_succ, List.set_cons_zero, M_pV (k := 5) (by decide) hn, M_pV (k := 11) (by decide) hn, if_neg (nI_ge h5 (show L < 2 ^ 31 by omega)), M_aBn hn U hL (show p < 1500 by omega), e_Mod_isDigit]
          rw [hm, r_nu, em]
          by_cases c5 : s_Mod_isDigit (g p) = 0
          · simp only [if_pos c5]
            exact e_b288 hn
          · simp only [if_neg c5]
            rw [← nI_succ]
            exact ih _ (by simp only [G _ _ (show p + 1 ≤ L by omega), G _ _ hp]; omega) (p + 1) _ (by omega) (by omega) rfl
        · obtain rfl : p = L := by omega
          simp only [gI, gL, gR, G_gV (show 128 ≤ 160 by decide) (show 160 < n by omega), List.getElem?_cons_succ, List.getElem?_cons_zero, asI_s, asL_s, asR_s, Option.bind_some, bnd_some, List.set_cons_succ, List.set_cons_zero, if_pos (Int32.le_refl (nI p)), Nat.sub_self, r_nu]
          exact e_b288 hn
    · simp only [if_neg c1]
      refine loop_ind (fun z r => ∀ p, q ≤ p → p ≤ L → z = (n, va_up f 160 (mdC tm om (nI L) (nI p) kd (nI q) to fa ps nb R), us) → r = some ((), (n, va_up f 160 (mdC tm om (nI L) (nI (r_nm g (L - p) p)) (if rsB g q (r_nm g (L - p) p - q) 60 0 = true then 2 else if 8 < nI (r_nm g (L - p) p - q) then 6 else 1) (nI q) (nI (r_nm g (L - p) p)) fa ps nb R), us))) (fun z => L - nxm z) (fun again z ih p h0 hp e => ?_) FU _ (by rw [FU_eq]; omega) q (by omega) (by omega) rfl
      subst e
      have G : ∀ (q' : Nat), q' ≤ L → nxm (n, va_up f 160 (mdC tm om (nI L) (nI q') kd (nI q) to fa ps nb R), us) = q' := fun q' hq' => nxm_md hn (by omega)
      rcases Nat.lt_or_ge p L with h5 | h5
      · obtain ⟨m, hm⟩ : ∃ m, L - p = m + 1 := ⟨L - p - 1, by omega⟩
        have em : m = L - (p + 1) := by omega
        simp only [gI, gL, gR, G_gV (show 128 ≤ 160 by decide) (show 160 < n by omega), List.getElem?_cons_succ, List.getElem?_cons_zero, asI_s, asL_s, asR_s, Option.bind_some, bnd_some, List.set_cons_succ, List.set_cons_zero, M_pV (k := 5) (by decide) hn, if_neg (nI_ge h5 (show L < 2 ^ 31 by omega)), M_aBn hn U hL (show p < 1500 by omega), e_Mod_isDigit, e_Mod_isSmall]
        rw [hm, r_nm, em]
        have go : again (n, va_up f 160 (mdC tm om (nI L) (nI p + 1) kd (nI q) to fa ps nb R), us) = some ((), (n, va_up f 160 (mdC tm om (nI L) (nI (r_nm g (L - (p + 1)) (p + 1))) (if rsB g q (r_nm g (L - (p + 1)) (p + 1) - q) 60 0 = true then 2 else if 8 < nI (r_nm g (L - (p + 1)) (p + 1) - q) then 6 else 1) (nI q) (nI (r_nm g (L - (p + 1)) (p + 1))) fa ps nb R), us)) := by
          rw [← nI_succ]
          exact ih _ (by simp only [G _ (show p + 1 ≤ L by omega), G _ hp]; omega) (p + 1) (by omega) (by omega) rfl
        by_cases c5 : s_Mod_isSmall (g p) = 0
        · by_cases c6 : s_Mod_isDigit (g p) = 0
          · simp only [if_pos c5, if_pos c6]
            exact e_b158 hn U hL hd h0 hp
          · simp only [if_pos c5, if_neg c6]
            exact go
        · simp only [if_neg c5]
          exact go
      · obtain rfl : p = L := by omega
        simp only [gI, gL, gR, G_gV (show 128 ≤ 160 by decide) (show 160 < n by omega), List.getElem?_cons_succ, List.getElem?_cons_zero, asI_s, asL_s, asR_s, Option.bind_some, bnd_some, List.set_cons_succ, List.set_cons_zero, if_pos (Int32.le_refl (nI p)), Nat.sub_self, r_nm]
        exact e_b158 hn U hL hd h0 hp
  · obtain rfl : q = L := by omega
    simp only [if_true]

set_option maxHeartbeats 4000000 in
theorem e_step (hn : 1311 ≤ n) (U : f 161 = .inl (.byte, 1500, fun j => .int (g j))) (hL : L ≤ 1500) (hd : 4 ≤ d) {p : Nat} (hp : p ≤ L) : x_Mod_step (d + 1) 160 (n, va_up f 160 (mdC tm om (nI L) (nI p) kd fr to fa ps nb R), us) = some ((), (fun q t => (n, va_up f 160 (mdC tm om (nI L) (nI t.1) t.2.1 (nI q) (nI t.1) fa (ps + 1) t.2.2 R), us)) (r_sk g (L - p) p) (r_tok g L (r_sk g (L - p) p) nb)) := by
  unfold x_Mod_step
  dsimp only
  rw [G_gd (by decide) (by omega)]
  simp only [gI, gL, gR, G_gV (show 128 ≤ 160 by decide) (show 160 < n by omega), List.getElem?_cons_succ, List.getElem?_cons_zero, asI_s, asL_s, asR_s, Option.bind_some, bnd_some, List.set_cons_succ, List.set_cons_zero, M_pV (k := 10) (by decide) hn]
  refine loop_ind (fun z r => ∀ p, p ≤ L → z = (n, va_up f 160 (mdC tm om (nI L) (nI p) kd fr to fa (ps + 1) nb R), us) → r = some ((), (fun q t => (n, va_up f 160 (mdC tm om (nI L) (nI t.1) t.2.1 (nI q) (nI t.1) fa (ps + 1) t.2.2 R), us)) (r_sk g (L - p) p) (r_tok g L (r_sk g (L - p) p) nb))) (fun z => L - nxm z) (fun again z ih p hp e => ?_) FU _ (by rw [FU_eq]; omega) p hp rfl
  subst e
  have G : ∀ (q' : Nat), q' ≤ L → nxm (n, va_up f 160 (mdC tm om (nI L) (nI q') kd fr to fa (ps + 1) nb R), us) = q' := fun q' hq' => nxm_md hn (by omega)
  rcases Nat.lt_or_ge p L with h5 | h5
  · obtain ⟨m, hm⟩ : ∃ m, L - p = m + 1 := ⟨L - p - 1, by omega⟩
    have em : m = L - (p + 1) := by omega
    simp only [gI, gL, gR, G_gV (show 128 ≤ 160 by decide) (show 160 < n by omega), List.getElem?_cons_succ, List.getElem?_cons_zero, asI_s, asL_s, asR_s, Option.bind_some, bnd_some, List.set_cons_succ, List.set_cons_zero, M_pV (k := 5) (by decide) hn, if_neg (nI_ge h5 (show L < 2 ^ 31 by omega)), M_aBn hn U hL (show p < 1500 by omega)]
    rw [hm, r_sk, em]
    have go : again (n, va_up f 160 (mdC tm om (nI L) (nI p + 1) kd fr to fa (ps + 1) nb R), us) = some ((), (fun q t => (n, va_up f 160 (mdC tm om (nI L) (nI t.1) t.2.1 (nI q) (nI t.1) fa (ps + 1) t.2.2 R), us)) (r_sk g (L - (p + 1)) (p + 1)) (r_tok g L (r_sk g (L - (p + 1)) (p + 1)) nb)) := by
      rw [← nI_succ]
      exact ih _ (by simp only [G _ (show p + 1 ≤ L by omega), G _ hp]; omega) (p + 1) (by omega) rfl
    by_cases c5 : g p = 32
    · simp only [if_pos c5]
      exact go
    · by_cases c6 : g p = 10
      · simp only [if_neg c5, if_pos c6]
        exact go
      · simp only [if_neg c5, if_neg c6]
        exact e_b62 hn U hL hd hp
  · obtain rfl : p = L := by omega
    simp only [gI, gL, gR, G_gV (show 128 ≤ 160 by decide) (show 160 < n by omega), List.getElem?_cons_succ, List.getElem?_cons_zero, asI_s, asL_s, asR_s, Option.bind_some, bnd_some, List.set_cons_succ, List.set_cons_zero, if_pos (Int32.le_refl (nI p)), Nat.sub_self, r_sk]
    exact e_b62 hn U hL hd hp
end
