section
variable {n us d : Nat} {f : Nat → am_C} {g : Nat → Int32} {ws : Nat → Int64} {L : Nat} {ln nx tk kd pl nu : Int32} {hd tl : Int64}
def s_st (g : Nat → Int32) (L : Nat) : Nat → Nat → Nat → Int64 → Int64 → Nat × Nat × Int64 × Int64
  | 0, p, sz, hd, tl => (p, sz, hd, tl)
  | m + 1, p, sz, hd, tl => if s_Lexer_isTextSign (s_byteAt g L (nI p)) = 0 then (p, sz, hd, tl) else s_st g L m (p + 1) (sz + 1) (if 8 ≤ nI sz then hd else hd ||| s_Cell_placed (s_byteAt g L (nI p)) (nI sz)) (if 8 ≤ nI sz then (if 16 ≤ nI sz then tl else tl ||| s_Cell_placed (s_byteAt g L (nI p)) (nI sz)) else tl)
def s_tk (g : Nat → Int32) (L p sz : Nat) : Int32 := if s_byteAt g L (nI p) = 34 then (if 16 < nI sz then 1 else 4) else 1

theorem e_st123 (hn : 1311 ≤ n) (U : f 129 = .inl (.byte, 1500, fun j => .int (g j))) (hL : L ≤ 1500) {p sz : Nat} : x_Lexer_scanText_b123 d 133 (nI sz) (n, va_up f 133 (lxC (nI L) (nI p) tk kd pl nu hd tl), us) = some ((), (n, va_up f 133 (lxC (nI L) (nI (p + 1)) tk (s_tk g L p sz) pl nu hd tl), us)) := by
  unfold x_Lexer_scanText_b123 x_Lexer_scanText_b147 s_tk
  simp only [gI, gL, gR, G_gV (show 128 ≤ 133 by decide) (show 133 < n by omega), G_pV (show 128 ≤ 133 by decide) (show 133 < n by omega), List.getElem?_cons_succ, List.getElem?_cons_zero, asI, asL, asR, Option.bind_some, e_byteAt hn U hL, bnd_some, List.length_cons, List.length_nil, List.set_cons_succ, List.set_cons_zero, Nat.reduceAdd, Nat.reduceLT, if_true, nI_succ]
  (repeat' split) <;> rfl

set_option maxHeartbeats 2000000 in
theorem e_scanText (hn : 1311 ≤ n) (U : f 129 = .inl (.byte, 1500, fun j => .int (g j))) (hL : L ≤ 1500) {p : Nat} (hp : p < L) : x_Lexer_scanText (d + 1) 133 (n, va_up f 133 (lxC (nI L) (nI p) tk kd pl nu hd tl), us) = some ((), (n, va_up f 133 (lxC (nI L) (nI ((s_st g L (L - (p + 1)) (p + 1) 0 (s_Cell_headOf 2) 0).1 + 1)) tk (s_tk g L (s_st g L (L - (p + 1)) (p + 1) 0 (s_Cell_headOf 2) 0).1 (s_st g L (L - (p + 1)) (p + 1) 0 (s_Cell_headOf 2) 0).2.1) pl nu (s_st g L (L - (p + 1)) (p + 1) 0 (s_Cell_headOf 2) 0).2.2.1 (s_st g L (L - (p + 1)) (p + 1) 0 (s_Cell_headOf 2) 0).2.2.2), us)) := by
  unfold x_Lexer_scanText
  dsimp only
  rw [G_gd (by decide) (by omega)]
  simp only [gI, gL, gR, G_gV (show 128 ≤ 133 by decide) (show 133 < n by omega), G_pV (show 128 ≤ 133 by decide) (show 133 < n by omega), List.getElem?_cons_succ, List.getElem?_cons_zero, asI, asL, asR, Option.bind_some, bnd_some, List.length_cons, List.length_nil, List.set_cons_succ, List.set_cons_zero, Nat.reduceAdd, Nat.reduceLT, if_true, e_Cell_headOf]
  rw [← nI_succ]
  refine loop_ind (fun z r => ∀ p sz hd tl, p ≤ L → sz ≤ p → z = (nI sz, (n, va_up f 133 (lxC (nI L) (nI p) tk kd pl nu hd tl), us)) → r = some ((), (n, va_up f 133 (lxC (nI L) (nI ((s_st g L (L - p) p sz hd tl).1 + 1)) tk (s_tk g L (s_st g L (L - p) p sz hd tl).1 (s_st g L (L - p) p sz hd tl).2.1) pl nu (s_st g L (L - p) p sz hd tl).2.2.1 (s_st g L (L - p) p sz hd tl).2.2.2), us))) (fun z => L - nxt z.2) (fun again z ih p sz hd tl hp hsz e => ?_) FU _ (by rw [FU_eq]; omega) (p + 1) 0 _ _ hp (by omega) rfl
  subst e
  have G : ∀ (q : Nat) (hd tl : Int64), q ≤ L → nxt (n, va_up f 133 (lxC (nI L) (nI q) tk kd pl nu hd tl), us) = q := fun q hd tl hq => nxt_lx hn (by omega)
  simp only [gI, gL, gR, G_gV (show 128 ≤ 133 by decide) (show 133 < n by omega), G_pV (show 128 ≤ 133 by decide) (show 133 < n by omega), List.getElem?_cons_succ, List.getElem?_cons_zero, asI, asL, asR, Option.bind_some, e_byteAt hn U hL, bnd_some, List.length_cons, List.length_nil, List.set_cons_succ, List.set_cons_zero, Nat.reduceAdd, Nat.reduceLT, if_true, e_Lexer_isTextSign, e_Cell_placed]
  rcases Nat.lt_or_ge p L with h | h
  · rw [if_neg (nI_ge h (by omega))]
    obtain ⟨m, hm⟩ : ∃ m, L - p = m + 1 := ⟨L - p - 1, by omega⟩
    have em : m = L - (p + 1) := by omega
    rw [hm, s_st, em]
    have go : ∀ hd' tl', again (nI sz + 1, (n, va_up f 133 (lxC (nI L) (nI p + 1) tk kd pl nu hd' tl'), us)) = some ((), (n, va_up f 133 (lxC (nI L) (nI ((s_st g L (L - (p + 1)) (p + 1) (sz + 1) hd' tl').1 + 1)) tk (s_tk g L (s_st g L (L - (p + 1)) (p + 1) (sz + 1) hd' tl').1 (s_st g L (L - (p + 1)) (p + 1) (sz + 1) hd' tl').2.1) pl nu (s_st g L (L - (p + 1)) (p + 1) (sz + 1) hd' tl').2.2.1 (s_st g L (L - (p + 1)) (p + 1) (sz + 1) hd' tl').2.2.2), us)) := fun hd' tl' => by
      rw [← nI_succ, ← nI_succ]
      exact ih _ (by simp only [G _ _ _ (show p + 1 ≤ L by omega), G _ _ _ hp]; omega) (p + 1) (sz + 1) hd' tl' h (by omega) rfl
    by_cases c1 : s_Lexer_isTextSign (s_byteAt g L (nI p)) = 0
    · simp only [if_pos c1]
      exact e_st123 hn U hL
    · by_cases c3 : 8 ≤ nI sz
      · by_cases c4 : 16 ≤ nI sz
        · simp only [if_neg c1, if_pos c3, if_pos c4]
          exact go _ _
        · simp only [if_neg c1, if_pos c3, if_neg c4]
          exact go _ _
      · simp only [if_neg c1, if_neg c3]
        exact go _ _
  · obtain rfl : p = L := by omega
    rw [if_pos (Int32.le_refl _), Nat.sub_self]
    exact e_st123 hn U hL

def SG : List Int32 := [123, 125, 40, 41, 91, 93, 44, 59, 58, 46, 61, 43, 45, 42, 47, 37, 60, 33]
def s_sx (c : Int32) : Int32 := s_ix (fun k => SG.getD k 0) c.toInt8.toInt32 18 0
theorem e_strIx {c : Int32} (h0 : ¬ c < 0) (h1 : c ≤ 255) : strIx 8 ((c.toUInt32 % 65536).toInt32) = some (s_sx c) := by
  have e : (c.toUInt32 % 65536).toInt32 = c := by
    obtain ⟨j, hj, rfl⟩ : ∃ j : Nat, j < 256 ∧ c = Int32.ofNat j := by
      have a0 : 0 ≤ c.toInt := by simpa using Int32.le_iff_toInt_le.mp (Int32.not_lt.mp h0)
      have a1 : c.toInt ≤ 255 := by simpa using Int32.le_iff_toInt_le.mp h1
      exact ⟨c.toInt.toNat, by omega, (nI_back h0).symm⟩
    revert j
    decide +kernel
  rw [e]
  unfold strIx
  rw [show st_by 8 = some SG from rfl]
  exact if_pos ⟨h0, h1, by decide⟩
def s_sg (c e : Int32) : Int32 := if s_Lexer_pairKind c e = 1 then (if s_sx c < 0 then 1 else c) else s_Lexer_pairKind c e
theorem e_scanSign (hn : 1311 ≤ n) (U : f 129 = .inl (.byte, 1500, fun j => .int (g j))) (hL : L ≤ 1500) {p : Nat} {c : Int32} (h0 : ¬ c < 0) (h1 : c ≤ 255) : x_Lexer_scanSign (d + 4) 133 c (n, va_up f 133 (lxC (nI L) (nI p) tk kd pl nu hd tl), us) = some ((), (n, va_up f 133 (lxC (nI L) (nI (if s_Lexer_pairKind c (s_byteAt g L (nI (p + 1))) = 1 then p + 1 else p + 2)) tk (s_sg c (s_byteAt g L (nI (p + 1)))) pl nu hd tl), us)) := by
  unfold x_Lexer_scanSign s_sg
  dsimp only
  rw [G_gd (by decide) (by omega)]
  simp only [gI, gL, gR, G_gV (show 128 ≤ 133 by decide) (show 133 < n by omega), G_pV (show 128 ≤ 133 by decide) (show 133 < n by omega), List.getElem?_cons_succ, List.getElem?_cons_zero, asI, asL, asR, Option.bind_some, e_byteAt hn U hL, bnd_some, List.length_cons, List.length_nil, List.set_cons_succ, List.set_cons_zero, Nat.reduceAdd, Nat.reduceLT, if_true, e_Lexer_pairKind, ← nI_succ, dp_of (show 3 ≤ d + 3 by omega), e_strIx h0 h1]
  by_cases c1 : s_Lexer_pairKind c (s_byteAt g L (nI (p + 1))) = 1
  · simp only [if_pos c1, c1]
    by_cases c2 : s_sx c < 0
    · simp only [if_pos c2, if_true]
    · simp only [if_neg c2, if_true]
  · simp only [if_neg c1]

/-- the token at q: where it ends, its kind, its number, its two longs -/
def s_tok (g : Nat → Int32) (ws : Nat → Int64) (L q : Nat) (nu : Int32) (hd tl : Int64) : Nat × Int32 × Int32 × Int64 × Int64 :=
  if 0 ≤ s_byteAt g L (nI q) then
    if s_Lexer_isLetter (s_byteAt g L (nI q)) = 0 then
      if s_Lexer_isDigit (s_byteAt g L (nI q)) = 0 then
        if s_byteAt g L (nI q) = 34 then
          let r := s_st g L (L - (q + 1)) (q + 1) 0 (s_Cell_headOf 2) 0
          (r.1 + 1, s_tk g L r.1 r.2.1, nu, r.2.2.1, r.2.2.2)
        else (if s_Lexer_pairKind (s_byteAt g L (nI q)) (s_byteAt g L (nI (q + 1))) = 1 then q + 1 else q + 2, s_sg (s_byteAt g L (nI q)) (s_byteAt g L (nI (q + 1))), nu, hd, tl)
      else
        let r := s_sd g L (L - q) q 0
        (r.1, if lg_cmp r.2 2147483648 = 0 then 1 else 3, r.2.toInt32, hd, tl)
    else
      let r := s_sn g L (L - q) q 0 0
      (r.1, s_nk ws r.2.1 r.2.2, nu, r.2.2, tl)
  else (q, 0, nu, hd, tl)
theorem s_sk_le {g : Nat → Int32} {L : Nat} : ∀ m p, p + m = L → s_sk g L m p ≤ L
  | 0, p, h => by rw [s_sk]; omega
  | m + 1, p, h => by
    rw [s_sk]
    (repeat' split)
    · exact s_sk_le m (p + 1) (by omega)
    · exact s_sk_le m (p + 1) (by omega)
    · omega
theorem ba_lt {q : Nat} (hL : L ≤ 1500) (h : 0 ≤ s_byteAt g L (nI q)) (hq : q ≤ L) : q < L := by
  unfold s_byteAt at h
  split at h
  · exact absurd h (by decide)
  · split at h
    · exact absurd h (by decide)
    · next h2 =>
      rcases Nat.lt_or_ge q L with h3 | h3
      · exact h3
      · exact absurd (nI_le h3 (by omega)) h2
theorem and255 (x : Int32) : ¬ (x &&& 255) < 0 ∧ (x &&& 255) ≤ 255 := by
  obtain ⟨j, hj, e⟩ := pk_andE x (m := 255) 8 (by decide)
  rw [e]
  clear e
  revert j
  decide +kernel
theorem ba_255 {x : Int32} (h : 0 ≤ s_byteAt g L x) : ¬ s_byteAt g L x < 0 ∧ s_byteAt g L x ≤ 255 := by
  refine ⟨Int32.not_lt.mpr h, ?_⟩
  unfold s_byteAt at h ⊢
  split
  · decide
  · split
    · decide
    · exact (and255 _).2
set_option maxHeartbeats 2000000 in
theorem e_advance (hn : 1311 ≤ n) (U : f 129 = .inl (.byte, 1500, fun j => .int (g j))) (hL : L ≤ 1500) (UW : f 134 = .inl (.long, 12, fun j => .long (ws j))) {p : Nat} (hp : p ≤ L) : x_Lexer_advance (d + 5) 133 (n, va_up f 133 (lxC (nI L) (nI p) tk kd pl nu hd tl), us) = some ((), (fun q t => (n, va_up f 133 (lxC (nI L) (nI t.1) (tk + 1) t.2.1 (nI q) t.2.2.1 t.2.2.2.1 t.2.2.2.2), us)) (s_sk g L (L - p) p) (s_tok g ws L (s_sk g L (L - p) p) nu hd tl)) := by
  unfold x_Lexer_advance
  dsimp only
  rw [G_gd (by decide) (by omega)]
  have hq := s_sk_le (g := g) (L := L) (L - p) p (by omega)
  simp only [gI, gL, gR, G_gV (show 128 ≤ 133 by decide) (show 133 < n by omega), G_pV (show 128 ≤ 133 by decide) (show 133 < n by omega), List.getElem?_cons_succ, List.getElem?_cons_zero, asI, asL, asR, Option.bind_some, e_byteAt hn U hL, bnd_some, List.length_cons, List.length_nil, List.set_cons_succ, List.set_cons_zero, Nat.reduceAdd, Nat.reduceLT, if_true, e_skip hn U hL hp]
  generalize s_sk g L (L - p) p = q at hq ⊢
  unfold s_tok
  by_cases c0 : 0 ≤ s_byteAt g L (nI q)
  · have hlt := ba_lt hL c0 hq
    have hb := ba_255 c0
    simp only [if_pos c0, e_Lexer_isLetter, bnd_some]
    by_cases c1 : s_Lexer_isLetter (s_byteAt g L (nI q)) = 0
    · simp only [if_pos c1, e_Lexer_isDigit, bnd_some]
      by_cases c2 : s_Lexer_isDigit (s_byteAt g L (nI q)) = 0
      · simp only [if_pos c2]
        by_cases c3 : s_byteAt g L (nI q) = 34
        · simp only [if_pos c3, e_scanText hn U hL hlt, bnd_some]
        · simp only [if_neg c3, e_scanSign hn U hL hb.1 hb.2, bnd_some]
      · simp only [if_neg c2, e_scanNumber hn U hL hq, bnd_some]
    · simp only [if_neg c1, e_scanName hn U UW hL hq, bnd_some]
  · simp only [if_neg c0]
end
