section
variable {n us d : Nat} {f : Nat → am_C} {g : Nat → Int32} {ws : Nat → Int64} {L : Nat} {ln nx tk kd pl nu : Int32} {hd tl : Int64}
def nxt (z : HS) : Nat := ((gI z 133 1 3).getD 0).toNatClampNeg
theorem nxt_lx (hn : 1311 ≤ n) {q : Nat} (hq : q < 2 ^ 31) : nxt (n, va_up f 133 (lxC ln (nI q) tk kd pl nu hd tl), us) = q := by
  unfold nxt
  simp only [gI, G_gV (show 128 ≤ 133 by decide) (show 133 < n by omega), List.getElem?_cons_succ, List.getElem?_cons_zero, asI, Option.getD_some]
  exact nI_clamp hq

theorem e_wordKind (hn : 1311 ≤ n) (UW : f 134 = .inl (.long, 12, fun j => .long (ws j))) {y : Int64} : x_Lexer_wordKind d 133 y (n, va_up f 133 (lxC (nI L) nx tk kd pl nu hd tl), us) = some (s_wk ws y 12 0, (n, va_up f 133 (lxC (nI L) nx tk kd pl nu hd tl), us)) := by
  unfold x_Lexer_wordKind
  rw [G_gd (by decide) (by omega)]
  refine loop_ind (fun z r => ∀ m i, i + m = 12 → z = (nI i, (n, va_up f 133 (lxC (nI L) nx tk kd pl nu hd tl), us)) → r = some (s_wk ws y m i, (n, va_up f 133 (lxC (nI L) nx tk kd pl nu hd tl), us))) (fun z => 12 - z.1.toNatClampNeg) (fun again z ih m i e ez => ?_) FU _ (by rw [FU_eq]; omega) 12 0 rfl rfl
  subst ez
  dsimp only
  cases m with
  | zero =>
    obtain rfl : i = 12 := by omega
    rfl
  | succ m =>
    rw [if_neg (show ¬ (12 : Int32) ≤ nI i from nI_ge (a := i) (b := 12) (by omega) (by decide))]
    simp only [gR, G_gV (show 128 ≤ 133 by decide) (show 133 < n by omega), List.getElem?_cons_zero, asR, Option.bind_some]
    rw [aL_of (show va_up f 133 (lxC (nI L) nx tk kd pl nu hd tl) 134 = _ from (va_up_ne _ _ (by decide)).trans UW) (by decide) (show 134 < n by omega) (nI_pos (by omega)) (by rw [nI_clamp (by omega)]; omega), Option.bind_some, nI_clamp (by omega), s_wk]
    split
    · rfl
    · rw [← nI_succ]
      exact ih _ (by simp only [nI_clamp (show i + 1 < 2 ^ 31 by omega), nI_clamp (show i < 2 ^ 31 by omega)]; omega) m (i + 1) (by omega) rfl

theorem e_sn80 (hn : 1311 ≤ n) (UW : f 134 = .inl (.long, 12, fun j => .long (ws j))) {sz : Nat} : x_Lexer_scanName_b80 d 133 (nI sz) (n, va_up f 133 (lxC (nI L) nx tk kd pl nu hd tl), us) = some ((), (n, va_up f 133 (lxC (nI L) nx tk (s_nk ws sz hd) pl nu hd tl), us)) := by
  unfold x_Lexer_scanName_b80 s_nk
  simp only [gI, gL, gR, G_gV (show 128 ≤ 133 by decide) (show 133 < n by omega), G_pV (show 128 ≤ 133 by decide) (show 133 < n by omega), List.getElem?_cons_succ, List.getElem?_cons_zero, asI, asL, asR, Option.bind_some, bnd_some, List.length_cons, List.length_nil, List.set_cons_succ, List.set_cons_zero, Nat.reduceAdd, Nat.reduceLT, if_true, e_wordKind hn UW]
  split <;> rfl

set_option maxHeartbeats 1000000 in
theorem e_scanName (hn : 1311 ≤ n) (U : f 129 = .inl (.byte, 1500, fun j => .int (g j))) (UW : f 134 = .inl (.long, 12, fun j => .long (ws j))) (hL : L ≤ 1500) {p : Nat} (hp : p ≤ L) : x_Lexer_scanName (d + 1) 133 (n, va_up f 133 (lxC (nI L) (nI p) tk kd pl nu hd tl), us) = some ((), (n, va_up f 133 (lxC (nI L) (nI (s_sn g L (L - p) p 0 0).1) tk (s_nk ws (s_sn g L (L - p) p 0 0).2.1 (s_sn g L (L - p) p 0 0).2.2) pl nu (s_sn g L (L - p) p 0 0).2.2 tl), us)) := by
  unfold x_Lexer_scanName
  dsimp only
  rw [G_gd (by decide) (by omega)]
  simp only [gI, gL, gR, G_gV (show 128 ≤ 133 by decide) (show 133 < n by omega), G_pV (show 128 ≤ 133 by decide) (show 133 < n by omega), List.getElem?_cons_succ, List.getElem?_cons_zero, asI, asL, asR, Option.bind_some, bnd_some, List.length_cons, List.length_nil, List.set_cons_succ, List.set_cons_zero, Nat.reduceAdd, Nat.reduceLT, if_true]
  refine loop_ind (fun z r => ∀ p sz hd, p ≤ L → sz ≤ p → z = (nI sz, (n, va_up f 133 (lxC (nI L) (nI p) tk kd pl nu hd tl), us)) → r = some ((), (n, va_up f 133 (lxC (nI L) (nI (s_sn g L (L - p) p sz hd).1) tk (s_nk ws (s_sn g L (L - p) p sz hd).2.1 (s_sn g L (L - p) p sz hd).2.2) pl nu (s_sn g L (L - p) p sz hd).2.2 tl), us))) (fun z => L - nxt z.2) (fun again z ih p sz hd hp hsz e => ?_) FU _ (by rw [FU_eq]; omega) p 0 0 hp (by omega) rfl
  subst e
  have G : ∀ (q : Nat) (hd : Int64), q ≤ L → nxt (n, va_up f 133 (lxC (nI L) (nI q) tk kd pl nu hd tl), us) = q := fun q hd hq => nxt_lx hn (by omega)
  simp only [gI, gL, gR, G_gV (show 128 ≤ 133 by decide) (show 133 < n by omega), G_pV (show 128 ≤ 133 by decide) (show 133 < n by omega), List.getElem?_cons_succ, List.getElem?_cons_zero, asI, asL, asR, Option.bind_some, e_byteAt hn U hL, bnd_some, List.length_cons, List.length_nil, List.set_cons_succ, List.set_cons_zero, Nat.reduceAdd, Nat.reduceLT, if_true, e_Lexer_isLetter, e_Lexer_isDigit, e_Cell_placed]
  rcases Nat.lt_or_ge p L with h | h
  · rw [if_neg (nI_ge h (by omega))]
    obtain ⟨m, hm⟩ : ∃ m, L - p = m + 1 := ⟨L - p - 1, by omega⟩
    have em : m = L - (p + 1) := by omega
    rw [hm, s_sn, em]
    have go : ∀ hd', again (nI sz + 1, (n, va_up f 133 (lxC (nI L) (nI p + 1) tk kd pl nu hd' tl), us)) = some ((), (n, va_up f 133 (lxC (nI L) (nI (s_sn g L (L - (p + 1)) (p + 1) (sz + 1) hd').1) tk (s_nk ws (s_sn g L (L - (p + 1)) (p + 1) (sz + 1) hd').2.1 (s_sn g L (L - (p + 1)) (p + 1) (sz + 1) hd').2.2) pl nu (s_sn g L (L - (p + 1)) (p + 1) (sz + 1) hd').2.2 tl), us)) := fun hd' => by
      rw [← nI_succ, ← nI_succ]
      exact ih _ (by simp only [G _ _ (show p + 1 ≤ L by omega), G _ _ hp]; omega) (p + 1) (sz + 1) hd' h (by omega) rfl
    by_cases c1 : s_Lexer_isLetter (s_byteAt g L (nI p)) = 0
    · by_cases c2 : s_Lexer_isDigit (s_byteAt g L (nI p)) = 0
      · have c12 : s_Lexer_isLetter (s_byteAt g L (nI p)) = 0 ∧ s_Lexer_isDigit (s_byteAt g L (nI p)) = 0 := ⟨c1, c2⟩
        simp only [if_pos c1, if_pos c2, if_pos c12]
        exact e_sn80 hn UW
      · have c12 : ¬ (s_Lexer_isLetter (s_byteAt g L (nI p)) = 0 ∧ s_Lexer_isDigit (s_byteAt g L (nI p)) = 0) := fun q => c2 q.2
        by_cases c3 : 8 ≤ nI sz
        · simp only [if_pos c1, if_neg c2, if_neg c12, if_pos c3]
          exact go _
        · simp only [if_pos c1, if_neg c2, if_neg c12, if_neg c3]
          exact go _
    · have c12 : ¬ (s_Lexer_isLetter (s_byteAt g L (nI p)) = 0 ∧ s_Lexer_isDigit (s_byteAt g L (nI p)) = 0) := fun q => c1 q.1
      by_cases c3 : 8 ≤ nI sz
      · simp only [if_neg c1, if_neg c12, if_pos c3]
        exact go _
      · simp only [if_neg c1, if_neg c12, if_neg c3]
        exact go _
  · obtain rfl : p = L := by omega
    rw [if_pos (Int32.le_refl _), Nat.sub_self]
    exact e_sn80 hn UW

def s_sd (g : Nat → Int32) (L : Nat) : Nat → Nat → Int64 → Nat × Int64
  | 0, p, x => (p, x)
  | m + 1, p, x => if s_Lexer_isDigit (s_byteAt g L (nI p)) = 0 then (p, x) else s_sd g L m (p + 1) (if 2147483648 < x * 10 + (s_byteAt g L (nI p)).toInt64 - 48 then 2147483648 else x * 10 + (s_byteAt g L (nI p)).toInt64 - 48)
theorem e_sd66 (hn : 1311 ≤ n) {x : Int64} : x_Lexer_scanNumber_b66 d 133 x (n, va_up f 133 (lxC (nI L) nx tk kd pl nu hd tl), us) = some ((), (n, va_up f 133 (lxC (nI L) nx tk (if lg_cmp x 2147483648 = 0 then 1 else 3) pl x.toInt32 hd tl), us)) := by
  unfold x_Lexer_scanNumber_b66
  simp only [gI, gL, gR, G_gV (show 128 ≤ 133 by decide) (show 133 < n by omega), G_pV (show 128 ≤ 133 by decide) (show 133 < n by omega), List.getElem?_cons_succ, List.getElem?_cons_zero, asI, asL, asR, Option.bind_some, bnd_some, List.length_cons, List.length_nil, List.set_cons_succ, List.set_cons_zero, Nat.reduceAdd, Nat.reduceLT, if_true]
  split <;> rfl
set_option maxHeartbeats 1000000 in
theorem e_scanNumber (hn : 1311 ≤ n) (U : f 129 = .inl (.byte, 1500, fun j => .int (g j))) (hL : L ≤ 1500) {p : Nat} (hp : p ≤ L) : x_Lexer_scanNumber (d + 1) 133 (n, va_up f 133 (lxC (nI L) (nI p) tk kd pl nu hd tl), us) = some ((), (n, va_up f 133 (lxC (nI L) (nI (s_sd g L (L - p) p 0).1) tk (if lg_cmp (s_sd g L (L - p) p 0).2 2147483648 = 0 then 1 else 3) pl (s_sd g L (L - p) p 0).2.toInt32 hd tl), us)) := by
  unfold x_Lexer_scanNumber
  dsimp only
  rw [G_gd (by decide) (by omega)]
  refine loop_ind (fun z r => ∀ p x, p ≤ L → z = (x, (n, va_up f 133 (lxC (nI L) (nI p) tk kd pl nu hd tl), us)) → r = some ((), (n, va_up f 133 (lxC (nI L) (nI (s_sd g L (L - p) p x).1) tk (if lg_cmp (s_sd g L (L - p) p x).2 2147483648 = 0 then 1 else 3) pl (s_sd g L (L - p) p x).2.toInt32 hd tl), us))) (fun z => L - nxt z.2) (fun again z ih p x hp e => ?_) FU _ (by rw [FU_eq]; omega) p 0 hp rfl
  subst e
  have G : ∀ (q : Nat), q ≤ L → nxt (n, va_up f 133 (lxC (nI L) (nI q) tk kd pl nu hd tl), us) = q := fun q hq => nxt_lx hn (by omega)
  simp only [gI, gL, gR, G_gV (show 128 ≤ 133 by decide) (show 133 < n by omega), G_pV (show 128 ≤ 133 by decide) (show 133 < n by omega), List.getElem?_cons_succ, List.getElem?_cons_zero, asI, asL, asR, Option.bind_some, e_byteAt hn U hL, bnd_some, List.length_cons, List.length_nil, List.set_cons_succ, List.set_cons_zero, Nat.reduceAdd, Nat.reduceLT, if_true, e_Lexer_isDigit]
  rcases Nat.lt_or_ge p L with h | h
  · rw [if_neg (nI_ge h (by omega))]
    obtain ⟨m, hm⟩ : ∃ m, L - p = m + 1 := ⟨L - p - 1, by omega⟩
    have em : m = L - (p + 1) := by omega
    rw [hm, s_sd, em]
    by_cases c2 : s_Lexer_isDigit (s_byteAt g L (nI p)) = 0
    · rw [if_pos c2, if_pos c2]
      exact e_sd66 hn
    · rw [if_neg c2, if_neg c2, ← nI_succ]
      exact ih _ (by simp only [G _ (show p + 1 ≤ L by omega), G _ hp]; omega) (p + 1) _ h rfl
  · obtain rfl : p = L := by omega
    rw [if_pos (Int32.le_refl _), Nat.sub_self]
    exact e_sd66 hn

end
