/-! the class's Parser and Lexer: LxS is the Lexer's (next, taken, kind, place, number, head, tail) -/
abbrev LxS : Type := Int32 × Int32 × Int32 × Int32 × Int32 × Int64 × Int64
def lxS (L : Nat) (a : LxS) : am_C := lxC (nI L) a.1 a.2.1 a.2.2.1 a.2.2.2.1 a.2.2.2.2.1 a.2.2.2.2.2.1 a.2.2.2.2.2.2
def PW (n : Nat) (f : Nat → am_C) (L : Nat) (g : Nat → Int32) (ws : Nat → Int64) (a : LxS) (dr pg : Nat) (fa sg : Int32) : Prop :=
  f 132 = .inr (5, [.ref 133, .ref 136, .ref 140, .ref dr, .ref 144, .ref pg, .int fa, .int sg]) ∧ f 133 = lxS L a ∧ f 129 = .inl (.byte, 1500, fun j => .int (g j)) ∧ f 134 = .inl (.long, 12, fun j => .long (ws j)) ∧ 1311 ≤ n ∧ L ≤ 1500
/-- the Lexer behind advance: from place p on -/
def advS (g : Nat → Int32) (ws : Nat → Int64) (L p : Nat) (a : LxS) : LxS :=
  (nI (s_tok g ws L (s_sk g L (L - p) p) a.2.2.2.2.1 a.2.2.2.2.2.1 a.2.2.2.2.2.2).1, a.2.1 + 1, (s_tok g ws L (s_sk g L (L - p) p) a.2.2.2.2.1 a.2.2.2.2.2.1 a.2.2.2.2.2.2).2.1, nI (s_sk g L (L - p) p), (s_tok g ws L (s_sk g L (L - p) p) a.2.2.2.2.1 a.2.2.2.2.2.1 a.2.2.2.2.2.2).2.2)
def stopS (a : LxS) : LxS := (a.1, a.2.1, 1, a.2.2.2)
section
variable {n us d L p dr pg : Nat} {g : Nat → Int32} {ws : Nat → Int64} {a : LxS} {fa sg k : Int32} {f : Nat → am_C}
theorem PW.lex {a' : LxS} (V : PW n f L g ws a dr pg fa sg) : PW n (va_up f 133 (lxS L a')) L g ws a' dr pg fa sg :=
  ⟨(va_up_ne _ _ (by decide)).trans V.1, va_up_self _ _ _, (va_up_ne _ _ (by decide)).trans V.2.2.1, (va_up_ne _ _ (by decide)).trans V.2.2.2.1, V.2.2.2.2.1, V.2.2.2.2.2⟩
theorem PW.kept {n' : Nat} {f' : Nat → am_C} (V : PW n f L g ws a dr pg fa sg) (hn : n ≤ n') (h : ∀ x, x = 132 ∨ x = 133 ∨ x = 129 ∨ x = 134 → f' x = f x) : PW n' f' L g ws a dr pg fa sg :=
  ⟨(h _ (Or.inl rfl)).trans V.1, (h _ (Or.inr (Or.inl rfl))).trans V.2.1, (h _ (Or.inr (Or.inr (Or.inl rfl)))).trans V.2.2.1, (h _ (Or.inr (Or.inr (Or.inr rfl)))).trans V.2.2.2.1, Nat.le_trans V.2.2.2.2.1 hn, V.2.2.2.2.2⟩
theorem up_id {q : Nat} {c : am_C} (h : f q = c) : f = va_up f q c := (am_up_same h).symm
theorem p_kind (V : PW n f L g ws a dr pg fa sg) : x_Lexer_kind d 133 (n, f, us) = some (a.2.2.1, (n, f, us)) := by
  obtain ⟨v0, v1, v2, v3, v4, v5⟩ := V
  unfold x_Lexer_kind
  rw [gd_of (s := (n, f, us)) v1 (by decide) (show 133 < n by omega), gI_of (s := (n, f, us)) (k := 5) (x := a.2.2.1) v1 (by decide) (show 133 < n by omega) rfl, Option.bind_some]
theorem p_place (V : PW n f L g ws a dr pg fa sg) : x_Lexer_place d 133 (n, f, us) = some (a.2.2.2.1, (n, f, us)) := by
  obtain ⟨v0, v1, v2, v3, v4, v5⟩ := V
  unfold x_Lexer_place
  rw [gd_of (s := (n, f, us)) v1 (by decide) (show 133 < n by omega), gI_of (s := (n, f, us)) (k := 6) (x := a.2.2.2.1) v1 (by decide) (show 133 < n by omega) rfl, Option.bind_some]
theorem p_taken (V : PW n f L g ws a dr pg fa sg) : x_Lexer_taken d 133 (n, f, us) = some (a.2.1, (n, f, us)) := by
  obtain ⟨v0, v1, v2, v3, v4, v5⟩ := V
  unfold x_Lexer_taken
  rw [gd_of (s := (n, f, us)) v1 (by decide) (show 133 < n by omega), gI_of (s := (n, f, us)) (k := 4) (x := a.2.1) v1 (by decide) (show 133 < n by omega) rfl, Option.bind_some]
theorem p_number (V : PW n f L g ws a dr pg fa sg) : x_Lexer_number d 133 (n, f, us) = some (a.2.2.2.2.1, (n, f, us)) := by
  obtain ⟨v0, v1, v2, v3, v4, v5⟩ := V
  unfold x_Lexer_number
  rw [gd_of (s := (n, f, us)) v1 (by decide) (show 133 < n by omega), gI_of (s := (n, f, us)) (k := 7) (x := a.2.2.2.2.1) v1 (by decide) (show 133 < n by omega) rfl, Option.bind_some]
theorem p_head (V : PW n f L g ws a dr pg fa sg) : x_Lexer_head d 133 (n, f, us) = some (a.2.2.2.2.2.1, (n, f, us)) := by
  obtain ⟨v0, v1, v2, v3, v4, v5⟩ := V
  unfold x_Lexer_head
  rw [gd_of (s := (n, f, us)) v1 (by decide) (show 133 < n by omega), gL_of (s := (n, f, us)) (k := 8) (x := a.2.2.2.2.2.1) v1 (by decide) (show 133 < n by omega) rfl, Option.bind_some]
theorem p_tail (V : PW n f L g ws a dr pg fa sg) : x_Lexer_tail d 133 (n, f, us) = some (a.2.2.2.2.2.2, (n, f, us)) := by
  obtain ⟨v0, v1, v2, v3, v4, v5⟩ := V
  unfold x_Lexer_tail
  rw [gd_of (s := (n, f, us)) v1 (by decide) (show 133 < n by omega), gL_of (s := (n, f, us)) (k := 9) (x := a.2.2.2.2.2.2) v1 (by decide) (show 133 < n by omega) rfl, Option.bind_some]
theorem p_adv (V : PW n f L g ws a dr pg fa sg) (hp : a.1 = nI p) (hp2 : p ≤ L) : x_Lexer_advance (d + 5) 133 (n, f, us) = some ((), (n, va_up f 133 (lxS L (advS g ws L p a)), us)) := by
  obtain ⟨v0, v1, v2, v3, v4, v5⟩ := V
  have e := e_advance (d := d) (us := us) (tk := a.2.1) (kd := a.2.2.1) (pl := a.2.2.2.1) (nu := a.2.2.2.2.1) (hd := a.2.2.2.2.2.1) (tl := a.2.2.2.2.2.2) v4 v2 v5 v3 hp2
  have v1' : f 133 = lxC (nI L) (nI p) a.2.1 a.2.2.1 a.2.2.2.1 a.2.2.2.2.1 a.2.2.2.2.2.1 a.2.2.2.2.2.2 := by rw [v1, ← hp]; rfl
  rw [am_up_same v1'] at e
  exact e
theorem p_fail (V : PW n f L g ws a dr pg fa sg) : ∃ f', x_Pars_fail (d + 1) 132 (n, f, us) = some ((), (n, f', us)) ∧ PW n f' L g ws (stopS a) dr pg (if fa < 0 then a.2.2.2.1 else fa) sg ∧ ∀ x, x ≠ 132 → x ≠ 133 → f' x = f x := by
  have V0 := V
  obtain ⟨v0, v1, v2, v3, v4, v5⟩ := V
  have g0 : 132 < n := by omega
  unfold x_Pars_fail
  dsimp only
  rw [gd_of (s := (n, f, us)) v0 (by decide) g0, gI_of (s := (n, f, us)) (k := 6) (x := fa) v0 (by decide) g0 rfl, Option.bind_some]
  have stp : ∀ (f1 : Nat → am_C) (fa' : Int32), PW n f1 L g ws a dr pg fa' sg → (∀ x, x ≠ 132 → x ≠ 133 → f1 x = f x) → ∃ f', ((gR (n, f1, us) 132 5 0).bind fun v4 => bnd (x_Lexer_stop d v4 (n, f1, us)) fun _ s5 => some ((), s5)) = some ((), (n, f', us)) ∧ PW n f' L g ws (stopS a) dr pg fa' sg ∧ ∀ x, x ≠ 132 → x ≠ 133 → f' x = f x := by
    intro f1 fa' W hw
    have W0 := W
    obtain ⟨w0, w1, w2, w3, w4, w5⟩ := W
    rw [gR_of (s := (n, f1, us)) (k := 0) (x := 133) w0 (by decide) g0 rfl, Option.bind_some]
    unfold x_Lexer_stop
    rw [gd_of (s := (n, f1, us)) w1 (by decide) (show 133 < n by omega), pV_of (s := (n, f1, us)) (k := 5) w1 (by decide) (show 133 < n by omega) (Nat.le_of_ble_eq_true rfl), Option.bind_some, bnd_some]
    exact ⟨_, rfl, W0.lex (a' := stopS a), fun x h1 h2 => (va_up_ne _ _ h2).trans (hw x h1 h2)⟩
  by_cases c : 0 ≤ fa
  · rw [if_pos c, if_neg (Int32.not_lt.mpr c)]
    exact stp f fa V0 (fun _ _ _ => rfl)
  · rw [if_neg c, if_pos (Int32.not_le.mp c), gR_of (s := (n, f, us)) (k := 0) (x := 133) v0 (by decide) g0 rfl, Option.bind_some, p_place V0, bnd_some, pV_of (s := (n, f, us)) (k := 6) v0 (by decide) g0 (Nat.le_of_ble_eq_true rfl), Option.bind_some]
    exact stp _ _ ⟨va_up_self _ _ _, (va_up_ne _ _ (by decide)).trans v1, (va_up_ne _ _ (by decide)).trans v2, (va_up_ne _ _ (by decide)).trans v3, v4, v5⟩ (fun x h1 _ => va_up_ne _ _ h1)
theorem p_take (V : PW n f L g ws a dr pg fa sg) (hk : a.2.2.1 = k) (hp : a.1 = nI p) (hp2 : p ≤ L) : ∃ f', x_Pars_take (d + 6) 132 k (n, f, us) = some ((), (n, f', us)) ∧ PW n f' L g ws (advS g ws L p a) dr pg fa sg ∧ ∀ x, x ≠ 133 → f' x = f x := by
  have V0 := V
  obtain ⟨v0, v1, v2, v3, v4, v5⟩ := V
  have g0 : 132 < n := by omega
  unfold x_Pars_take
  dsimp only
  rw [gd_of (s := (n, f, us)) v0 (by decide) g0, gR_of (s := (n, f, us)) (k := 0) (x := 133) v0 (by decide) g0 rfl, Option.bind_some, p_kind V0, bnd_some, if_pos hk, gR_of (s := (n, f, us)) (k := 0) (x := 133) v0 (by decide) g0 rfl, Option.bind_some, p_adv V0 hp hp2, bnd_some]
  exact ⟨_, rfl, V0.lex, fun x hx => va_up_ne _ _ hx⟩
theorem p_takeNo (V : PW n f L g ws a dr pg fa sg) (hk : ¬ a.2.2.1 = k) : ∃ f', x_Pars_take (d + 2) 132 k (n, f, us) = some ((), (n, f', us)) ∧ PW n f' L g ws (stopS a) dr pg (if fa < 0 then a.2.2.2.1 else fa) sg ∧ ∀ x, x ≠ 132 → x ≠ 133 → f' x = f x := by
  have V0 := V
  obtain ⟨v0, v1, v2, v3, v4, v5⟩ := V
  have g0 : 132 < n := by omega
  unfold x_Pars_take
  dsimp only
  rw [gd_of (s := (n, f, us)) v0 (by decide) g0, gR_of (s := (n, f, us)) (k := 0) (x := 133) v0 (by decide) g0 rfl, Option.bind_some, p_kind V0, bnd_some, if_neg hk]
  obtain ⟨f', e1, e2, e3⟩ := p_fail (d := d) (us := us) V0
  rw [e1, bnd_some]
  exact ⟨f', rfl, e2, e3⟩
end
