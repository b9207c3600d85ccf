/-! evaluating meanings: what a read or a write gives where the cells are known -/
section
variable {s : HS} {r a ci k N : Nat} {fs : List Value} {i : Int32}
theorem gV_of (h : s.2.1 r = .inr (ci, fs)) (h1 : 128 ≤ r) (h2 : r < s.1) : gV s r ci k = fs[k]? := by
  unfold gV
  rw [h]
  exact if_pos ⟨rfl, h1, h2⟩
theorem gI_of (h : s.2.1 r = .inr (ci, fs)) (h1 : 128 ≤ r) (h2 : r < s.1) {x : Int32} (hk : fs[k]? = some (.int x)) : gI s r ci k = some x := by
  unfold gI
  rw [gV_of h h1 h2, hk]
  rfl
theorem gL_of (h : s.2.1 r = .inr (ci, fs)) (h1 : 128 ≤ r) (h2 : r < s.1) {x : Int64} (hk : fs[k]? = some (.long x)) : gL s r ci k = some x := by
  unfold gL
  rw [gV_of h h1 h2, hk]
  rfl
theorem gR_of (h : s.2.1 r = .inr (ci, fs)) (h1 : 128 ≤ r) (h2 : r < s.1) {x : Nat} (hk : fs[k]? = some (.ref x)) : gR s r ci k = some x := by
  unfold gR
  rw [gV_of h h1 h2, hk]
  rfl
theorem pV_of (h : s.2.1 r = .inr (ci, fs)) (h1 : 128 ≤ r) (h2 : r < s.1) (hk : k < fs.length) {v : Value} : pV s r ci k v = some (s.1, va_up s.2.1 r (.inr (ci, fs.set k v)), s.2.2) := by
  unfold pV
  rw [h]
  exact if_pos ⟨rfl, h1, h2, hk⟩
theorem pZ_of (h : s.2.1 r = .inr (ci, fs)) (h1 : 128 ≤ r) (h2 : r < s.1) (hk : k < fs.length) {x : Int32} (hx : x = 0 ∨ x = 1) : pZ s r ci k x = some (s.1, va_up s.2.1 r (.inr (ci, fs.set k (.int x))), s.2.2) := by
  unfold pZ
  rw [if_pos hx]
  exact pV_of h h1 h2 hk
theorem gd_of {β : Type} {b : Option β} (h : s.2.1 r = .inr (ci, fs)) (h1 : 128 ≤ r) (h2 : r < s.1) : gd s r ci b = b := by
  unfold gd isO
  rw [h]
  exact if_pos (decide_eq_true ⟨rfl, h1, h2⟩)
theorem isO_of (h : s.2.1 r = .inr (ci, fs)) (h1 : 128 ≤ r) (h2 : r < s.1) : isO s r ci = true := by
  unfold isO
  rw [h]
  exact decide_eq_true ⟨rfl, h1, h2⟩
theorem aV_of {ty : FieldType} {g : Nat → Value} (h : s.2.1 a = .inl (ty, N, g)) (h1 : 128 ≤ a) (h2 : a < s.1) (h3 : ¬ i < 0) (h4 : i.toNatClampNeg < N) : aV s ty a i = some (g i.toNatClampNeg) := by
  unfold aV
  rw [h]
  exact if_pos ⟨rfl, h1, h2, h3, h4⟩
theorem aI_of {g : Nat → Int32} (h : s.2.1 a = .inl (.int, N, fun j => .int (g j))) (h1 : 128 ≤ a) (h2 : a < s.1) (h3 : ¬ i < 0) (h4 : i.toNatClampNeg < N) : aI s a i = some (g i.toNatClampNeg) := by
  unfold aI
  rw [aV_of h h1 h2 h3 h4]
  rfl
theorem aB_of {g : Nat → Int32} (h : s.2.1 a = .inl (.byte, N, fun j => .int (g j))) (h1 : 128 ≤ a) (h2 : a < s.1) (h3 : ¬ i < 0) (h4 : i.toNatClampNeg < N) : aB s a i = some (g i.toNatClampNeg) := by
  unfold aB
  rw [aV_of h h1 h2 h3 h4]
  rfl
theorem aZ_of {g : Nat → Int32} (h : s.2.1 a = .inl (.boolean, N, fun j => .int (g j))) (h1 : 128 ≤ a) (h2 : a < s.1) (h3 : ¬ i < 0) (h4 : i.toNatClampNeg < N) : aZ s a i = some (g i.toNatClampNeg) := by
  unfold aZ
  rw [aV_of h h1 h2 h3 h4]
  rfl
theorem aL_of {g : Nat → Int64} (h : s.2.1 a = .inl (.long, N, fun j => .long (g j))) (h1 : 128 ≤ a) (h2 : a < s.1) (h3 : ¬ i < 0) (h4 : i.toNatClampNeg < N) : aL s a i = some (g i.toNatClampNeg) := by
  unfold aL
  rw [aV_of h h1 h2 h3 h4]
  rfl
theorem sV_of {ty : FieldType} {g : Nat → Value} {v : Value} (h : s.2.1 a = .inl (ty, N, g)) (h1 : 128 ≤ a) (h2 : a < s.1) (h3 : ¬ i < 0) (h4 : i.toNatClampNeg < N) : sV s ty a i v = some (s.1, va_up s.2.1 a (.inl (ty, N, updV g i.toNatClampNeg v)), s.2.2) := by
  unfold sV
  rw [h]
  exact if_pos ⟨rfl, h1, h2, h3, h4⟩
theorem sI_of {g : Nat → Int32} {x : Int32} (h : s.2.1 a = .inl (.int, N, fun j => .int (g j))) (h1 : 128 ≤ a) (h2 : a < s.1) (h3 : ¬ i < 0) (h4 : i.toNatClampNeg < N) : sV s .int a i (.int x) = some (s.1, va_up s.2.1 a (.inl (.int, N, fun j => .int (upI g i.toNatClampNeg x j))), s.2.2) := by
  rw [sV_of h h1 h2 h3 h4, updV_I]
theorem sB_of {g : Nat → Int32} {x : Int32} (h : s.2.1 a = .inl (.byte, N, fun j => .int (g j))) (h1 : 128 ≤ a) (h2 : a < s.1) (h3 : ¬ i < 0) (h4 : i.toNatClampNeg < N) : sV s .byte a i (.int x) = some (s.1, va_up s.2.1 a (.inl (.byte, N, fun j => .int (upI g i.toNatClampNeg x j))), s.2.2) := by
  rw [sV_of h h1 h2 h3 h4, updV_I]
theorem sZ_of {g : Nat → Int32} {x : Int32} (hx : x = 0 ∨ x = 1) (h : s.2.1 a = .inl (.boolean, N, fun j => .int (g j))) (h1 : 128 ≤ a) (h2 : a < s.1) (h3 : ¬ i < 0) (h4 : i.toNatClampNeg < N) : sV s .boolean a i (narrow .boolean (.int x)) = some (s.1, va_up s.2.1 a (.inl (.boolean, N, fun j => .int (upI g i.toNatClampNeg x j))), s.2.2) := by
  rw [bz_nar hx]
  rw [sV_of h h1 h2 h3 h4, updV_I]
theorem sL_of {g : Nat → Int64} {x : Int64} (h : s.2.1 a = .inl (.long, N, fun j => .long (g j))) (h1 : 128 ≤ a) (h2 : a < s.1) (h3 : ¬ i < 0) (h4 : i.toNatClampNeg < N) : sV s .long a i (.long x) = some (s.1, va_up s.2.1 a (.inl (.long, N, fun j => .long (upL g i.toNatClampNeg x j))), s.2.2) := by
  rw [sV_of h h1 h2 h3 h4, updV_L]
theorem lenA_of {ty : FieldType} {g : Nat → Value} (h : s.2.1 a = .inl (ty, N, g)) (ht : ty ∈ am_tys) (h1 : 128 ≤ a) (h2 : a < s.1) : lenA s a = some (nI N) := by
  unfold lenA
  rw [h]
  exact if_pos ⟨ht, h1, h2⟩
theorem bnd_some {β γ : Type} {b : β} {t : HS} {c : β → HS → Option γ} : bnd (some (b, t)) c = c b t := rfl
theorem loopK_succ {σ ρ : Type} {b : (σ → Option ρ) → σ → Option ρ} {k : Nat} {x : σ} : loopK b (k + 1) x = b (loopK b k) x := rfl
theorem loop_ind {σ ρ : Type} {b : (σ → Option ρ) → σ → Option ρ} (P : σ → Option ρ → Prop) (μ : σ → Nat) (h : ∀ again x, (∀ y, μ y < μ x → P y (again y)) → P x (b again x)) : ∀ k x, μ x < k → P x (loopK b k x)
  | 0, _, hk => absurd hk (Nat.not_lt_zero _)
  | k + 1, x, hk => h (loopK b k) x fun y hy => loop_ind P μ h k y (by omega)
theorem FU_eq : FU = 2147483648 := rfl
theorem okB_of {β : Type} {x : Int32} {b : Option β} (h : x = 0 ∨ x = 1) : okB x b = b := if_pos h
theorem dp_of {β : Type} {k d : Nat} {b : Option β} (h : k ≤ d) : dp k d b = b := if_pos h
end
section
variable {s : HS} {d : Nat} {x0 x1 : Int64} {y0 y1 y2 : Int32}
theorem e_Cell_headOf : x_Cell_headOf d y0 s = some (s_Cell_headOf y0, s) := rfl
theorem e_Cell_sortOf : x_Cell_sortOf d x0 s = some (s_Cell_sortOf x0, s) := rfl
theorem e_Cell_placed : x_Cell_placed d y0 y1 s = some (s_Cell_placed y0 y1, s) := rfl
theorem e_Cell_isObject : x_Cell_isObject (d + 1) x0 s = some (s_Cell_isObject x0, s) := by
  unfold x_Cell_isObject s_Cell_isObject
  simp only [e_Cell_sortOf, bnd_some]
  (repeat' split) <;> rfl
theorem e_Cell_isTrue : x_Cell_isTrue (d + 1) x0 x1 s = some (s_Cell_isTrue x0 x1, s) := by
  unfold x_Cell_isTrue s_Cell_isTrue
  simp only [e_Cell_sortOf, bnd_some]
  (repeat' split) <;> rfl
theorem e_Cell_signAt : x_Cell_signAt d x0 x1 y0 s = some (s_Cell_signAt x0 x1 y0, s) := by
  unfold x_Cell_signAt s_Cell_signAt
  (repeat' split) <;> rfl
theorem e_Lexer_isLetter : x_Lexer_isLetter d y0 s = some (s_Lexer_isLetter y0, s) := by
  unfold x_Lexer_isLetter s_Lexer_isLetter
  (repeat' split) <;> rfl
theorem e_Lexer_isDigit : x_Lexer_isDigit d y0 s = some (s_Lexer_isDigit y0, s) := by
  unfold x_Lexer_isDigit s_Lexer_isDigit
  (repeat' split) <;> rfl
theorem e_Lexer_isTextSign : x_Lexer_isTextSign d y0 s = some (s_Lexer_isTextSign y0, s) := by
  unfold x_Lexer_isTextSign s_Lexer_isTextSign
  (repeat' split) <;> rfl
theorem e_Lexer_pairKind : x_Lexer_pairKind d y0 y1 s = some (s_Lexer_pairKind y0 y1, s) := by
  unfold x_Lexer_pairKind s_Lexer_pairKind
  (repeat' split) <;> rfl
theorem e_Mod_in {x2 : Int64} : x_Mod_in d x0 x1 x2 s = some (s_Mod_in x0 x1 x2, s) := by
  unfold x_Mod_in s_Mod_in
  (repeat' split) <;> rfl
theorem e_Mod_isSmall : x_Mod_isSmall d y0 s = some (s_Mod_isSmall y0, s) := by
  unfold x_Mod_isSmall s_Mod_isSmall
  (repeat' split) <;> rfl
theorem e_Mod_isDigit : x_Mod_isDigit d y0 s = some (s_Mod_isDigit y0, s) := by
  unfold x_Mod_isDigit s_Mod_isDigit
  (repeat' split) <;> rfl
theorem e_Pars_levelOf : x_Pars_levelOf d y0 s = some (s_Pars_levelOf y0, s) := by
  unfold x_Pars_levelOf s_Pars_levelOf
  (repeat' split) <;> rfl
theorem e_Pars_commandOf : x_Pars_commandOf d y0 s = some (s_Pars_commandOf y0, s) := by
  unfold x_Pars_commandOf s_Pars_commandOf
  (repeat' split) <;> rfl
theorem e_Mach_storeFor : x_Mach_storeFor d y0 s = some (s_Mach_storeFor y0, s) := rfl
theorem e_Stow_asAnswer : x_Stow_asAnswer (d + 1) x0 x1 s = some (s_Stow_asAnswer x0 x1, s) := by
  unfold x_Stow_asAnswer s_Stow_asAnswer
  simp only [e_Cell_sortOf, bnd_some]
  (repeat' split) <;> rfl
theorem e_so : ∀ m i k : Nat, i + m = 16 → m < k → loopK (fun (again3 : Int32 × HS → Option (Int32 × HS)) (z3 : Int32 × HS) => (if 16 ≤ z3.1 then (some (16, z3.2)) else (bnd (x_Cell_signAt d x0 x1 z3.1 z3.2) fun v2 s1 => (if v2 = 0 then (some (z3.1, s1)) else (again3 ((z3.1 + 1), s1)))))) k (nI i, s) = some (s_so x0 x1 m i, s) := by
  intro m
  induction m with
  | zero =>
    intro i k e hk
    obtain ⟨k, rfl⟩ : ∃ k', k = k' + 1 := ⟨k - 1, by omega⟩
    obtain rfl : i = 16 := by omega
    rw [loopK_succ]
    rfl
  | succ m ih =>
    intro i k e hk
    obtain ⟨k, rfl⟩ : ∃ k', k = k' + 1 := ⟨k - 1, by omega⟩
    rw [loopK_succ]
    dsimp only
    rw [if_neg (show ¬ (16 : Int32) ≤ nI i from nI_ge (a := i) (b := 16) (by omega) (by decide)), e_Cell_signAt, bnd_some, s_so]
    split
    · rfl
    · rw [← nI_succ]
      exact ih (i + 1) k (by omega) (by omega)
theorem e_Cell_signsOf : x_Cell_signsOf (d + 1) x0 x1 s = some (s_Cell_signsOf x0 x1, s) := e_so 16 0 FU rfl (by decide)
end
/-! one object in hand -/
section
variable {n us r ci k : Nat} {f : Nat → am_C} {fs : List Value}
theorem G_gV (h1 : 128 ≤ r) (h2 : r < n) : gV (n, va_up f r (.inr (ci, fs)), us) r ci k = fs[k]? := gV_of (va_up_self _ _ _) h1 h2
theorem G_gd {β : Type} {b : Option β} (h1 : 128 ≤ r) (h2 : r < n) : gd (n, va_up f r (.inr (ci, fs)), us) r ci b = b := gd_of (va_up_self _ _ _) h1 h2
theorem G_pV (h1 : 128 ≤ r) (h2 : r < n) {v : Value} : pV (n, va_up f r (.inr (ci, fs)), us) r ci k v = if k < fs.length then some (n, va_up f r (.inr (ci, fs.set k v)), us) else none := by
  by_cases h : k < fs.length
  · rw [if_pos h, pV_of (va_up_self _ _ _) h1 h2 h]
    show some (n, va_up (va_up f r _) r _, us) = _
    rw [bx_uu]
  · rw [if_neg h]
    unfold pV
    rw [show (n, va_up f r (.inr (ci, fs)), us).2.1 r = .inr (ci, fs) from va_up_self _ _ _]
    exact if_neg fun q => h q.2.2.2
end
/-! the class's Lexer -/
section
variable {n us d : Nat} {f : Nat → am_C} {g : Nat → Int32} {ws : Nat → Int64} {L : Nat} {ln nx tk kd pl nu : Int32} {hd tl : Int64}
abbrev lxC (ln nx tk kd pl nu : Int32) (hd tl : Int64) : am_C := .inr (1, [.ref 134, .ref 129, .int ln, .int nx, .int tk, .int kd, .int pl, .int nu, .long hd, .long tl])
theorem e_byteAt (hn : 1311 ≤ n) (U : f 129 = .inl (.byte, 1500, fun j => .int (g j))) (hL : L ≤ 1500) {x : Int32} : x_Lexer_byteAt d 133 x (n, va_up f 133 (lxC (nI L) nx tk kd pl nu hd tl), us) = some (s_byteAt g L x, (n, va_up f 133 (lxC (nI L) nx tk kd pl nu hd tl), us)) := by
  unfold x_Lexer_byteAt s_byteAt
  rw [G_gd (by decide) (by omega)]
  split
  · rfl
  · next h0 =>
    simp only [gI, gR, G_gV (show 128 ≤ 133 by decide) (show 133 < n by omega), List.getElem?_cons_succ, List.getElem?_cons_zero, asI, asR, Option.bind_some]
    split
    · rfl
    · next h1 =>
      rw [aB_of (show va_up f 133 (lxC (nI L) nx tk kd pl nu hd tl) 129 = _ from (va_up_ne _ _ (by decide)).trans U) (by decide) (show 129 < n by omega) h0 (Nat.lt_of_lt_of_le (lt_clamp h0 h1 (by omega)) hL)]
      rfl
theorem e_skip (hn : 1311 ≤ n) (U : f 129 = .inl (.byte, 1500, fun j => .int (g j))) (hL : L ≤ 1500) {p : Nat} (hp : p ≤ L) : x_Lexer_skipBlanks (d + 1) 133 (n, va_up f 133 (lxC (nI L) (nI p) tk kd pl nu hd tl), us) = some ((), (n, va_up f 133 (lxC (nI L) (nI (s_sk g L (L - p) p)) tk kd pl nu hd tl), us)) := by
  unfold x_Lexer_skipBlanks
  dsimp only
  rw [G_gd (by decide) (by omega)]
  refine loop_ind (fun z r => ∀ p, p ≤ L → z = (n, va_up f 133 (lxC (nI L) (nI p) tk kd pl nu hd tl), us) → r = some ((), (n, va_up f 133 (lxC (nI L) (nI (s_sk g L (L - p) p)) tk kd pl nu hd tl), us))) (fun z => L - ((gI z 133 1 3).getD 0).toNatClampNeg) (fun again z ih p hp e => ?_) FU _ (by rw [FU_eq]; omega) p hp rfl
  subst e
  have G : ∀ q : Nat, q ≤ L → ((gI (n, va_up f 133 (lxC (nI L) (nI q) tk kd pl nu hd tl), us) 133 1 3).getD 0).toNatClampNeg = q := fun q hq => by
    simp only [gI, G_gV (show 128 ≤ 133 by decide) (show 133 < n by omega), List.getElem?_cons_succ, List.getElem?_cons_zero, asI, Option.getD_some]
    exact nI_clamp (by omega)
  simp only [gI, G_gV (show 128 ≤ 133 by decide) (show 133 < n by omega), G_pV (show 128 ≤ 133 by decide) (show 133 < n by omega), List.getElem?_cons_succ, List.getElem?_cons_zero, asI, Option.bind_some, e_byteAt hn U hL, bnd_some, List.length_cons, List.length_nil, List.set_cons_succ, List.set_cons_zero, Nat.reduceAdd, Nat.reduceLT, if_true]
  rcases Nat.lt_or_ge p L with h | h
  · rw [if_neg (nI_ge h (by omega))]
    obtain ⟨m, hm⟩ : ∃ m, L - p = m + 1 := ⟨L - p - 1, by omega⟩
    rw [hm, s_sk]
    have em : m = L - (p + 1) := by omega
    split
    · rw [← nI_succ, em]
      exact ih _ (by simp only [G _ (show p + 1 ≤ L by omega), G _ hp]; omega) (p + 1) h rfl
    · split
      · rw [← nI_succ, em]
        exact ih _ (by simp only [G _ (show p + 1 ≤ L by omega), G _ hp]; omega) (p + 1) h rfl
      · rfl
  · obtain rfl : p = L := by omega
    rw [if_pos (Int32.le_refl _), Nat.sub_self]
    rfl
end
