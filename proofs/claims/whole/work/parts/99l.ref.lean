/-! the reference's lexer state: (next, kind, from, to, fault, passed, number) -/
abbrev RLx : Type := Int32 × Int32 × Int32 × Int32 × Int32 × Int32 × Int64
def mdS (tm om : Int32) (L : Nat) (b : RLx) (R : List Value) : am_C := mdC tm om (nI L) b.1 b.2.1 b.2.2.1 b.2.2.2.1 b.2.2.2.2.1 b.2.2.2.2.2.1 b.2.2.2.2.2.2 R
def RW (n : Nat) (f : Nat → am_C) (L : Nat) (g : Nat → Int32) (tm om : Int32) (b : RLx) (R : List Value) : Prop := f 160 = mdS tm om L b R ∧ f 161 = .inl (.byte, 1500, fun j => .int (g j)) ∧ 1311 ≤ n ∧ L ≤ 1500
def advR (g : Nat → Int32) (L p : Nat) (b : RLx) : RLx :=
  (nI (r_tok g L (r_sk g (L - p) p) b.2.2.2.2.2.2).1, (r_tok g L (r_sk g (L - p) p) b.2.2.2.2.2.2).2.1, nI (r_sk g (L - p) p), nI (r_tok g L (r_sk g (L - p) p) b.2.2.2.2.2.2).1, b.2.2.2.2.1, b.2.2.2.2.2.1 + 1, (r_tok g L (r_sk g (L - p) p) b.2.2.2.2.2.2).2.2)
/-- the reference stands at token t, which begins at q -/
def AtR (q : Nat) (t : Nat × Int32 × Int64) (b : RLx) : Prop := b.1 = nI t.1 ∧ b.2.1 = t.2.1 ∧ b.2.2.1 = nI q ∧ b.2.2.2.1 = nI t.1 ∧ b.2.2.2.2.2.2 = t.2.2
/-- the class stands at token T, which begins at q -/
def AtC (q : Nat) (T : Nat × Int32 × Int32 × Int64 × Int64) (a : LxS) : Prop := a.1 = nI T.1 ∧ a.2.2.1 = T.2.1 ∧ a.2.2.2.1 = nI q ∧ a.2.2.2.2 = T.2.2
section
variable {n us d L p : Nat} {g : Nat → Int32} {tm om : Int32} {b : RLx} {R : List Value} {f : Nat → am_C}
theorem RW.kept {n' : Nat} {f' : Nat → am_C} (V : RW n f L g tm om b R) (hn : n ≤ n') (h : ∀ x, x = 160 ∨ x = 161 → f' x = f x) : RW n' f' L g tm om b R :=
  ⟨(h _ (Or.inl rfl)).trans V.1, (h _ (Or.inr rfl)).trans V.2.1, Nat.le_trans V.2.2.1 hn, V.2.2.2⟩
theorem RW.put {b' : RLx} {R' : List Value} (V : RW n f L g tm om b R) : RW n (va_up f 160 (mdS tm om L b' R')) L g tm om b' R' := ⟨va_up_self _ _ _, (va_up_ne _ _ (by decide)).trans V.2.1, V.2.2.1, V.2.2.2⟩
theorem m_gd {β : Type} {x : Option β} (V : RW n f L g tm om b R) : gd (n, f, us) 160 14 x = x := gd_of (s := (n, f, us)) V.1 (by decide) (Nat.lt_of_lt_of_le (by decide) V.2.2.1)
theorem m_step (V : RW n f L g tm om b R) (hd : 4 ≤ d) (hp : b.1 = nI p) (hp2 : p ≤ L) : x_Mod_step (d + 1) 160 (n, f, us) = some ((), (n, va_up f 160 (mdS tm om L (advR g L p b) R), us)) := by
  obtain ⟨v0, v1, v2, v3⟩ := V
  have e := e_step (d := d) (us := us) (tm := tm) (om := om) (kd := b.2.1) (fr := b.2.2.1) (to := b.2.2.2.1) (fa := b.2.2.2.2.1) (ps := b.2.2.2.2.2.1) (nb := b.2.2.2.2.2.2) (R := R) v2 v1 v3 hd hp2
  have v0' : f 160 = mdC tm om (nI L) (nI p) b.2.1 b.2.2.1 b.2.2.2.1 b.2.2.2.2.1 b.2.2.2.2.2.1 b.2.2.2.2.2.2 R := by rw [v0, ← hp]; rfl
  rw [am_up_same v0'] at e
  exact e
theorem m_is (V : RW n f L g tm om b R) (hd : 3 ≤ d) {q : Nat} {T : Nat × Int32 × Int32 × Int64 × Int64} {t : Nat × Int32 × Int64} (hA : AtR q t b) (hT : TK g L q T t) (hq : q ≤ L) (ht : q ≤ t.1 ∧ t.1 ≤ L) {i : Nat} (hi : i < 35) : x_Mod_is (d + 1) 160 (2 * i + 12) (n, f, us) = some (if T.2.1 = (kS.getD i (0, [])).1 then 1 else 0, (n, f, us)) := by
  obtain ⟨v0, v1, v2, v3⟩ := V
  obtain ⟨a1, a2, a3, a4, a5⟩ := hA
  have e := is_tok (d := d) (us := us) (f := f) (tm := tm) (om := om) (fa := b.2.2.2.2.1) (ps := b.2.2.2.2.2.1) (R := R) v2 v1 v3 hd hT hq ht hi
  have v0' : f 160 = mdC tm om (nI L) (nI t.1) t.2.1 (nI q) (nI t.1) b.2.2.2.2.1 b.2.2.2.2.2.1 t.2.2 R := by rw [v0, ← a1, ← a2, ← a3, ← a5]; unfold mdS; rw [a4, a1]
  rw [am_up_same v0'] at e
  exact e
theorem m_name (V : RW n f L g tm om b R) {q e : Nat} (h1 : b.2.2.1 = nI q) (h2 : b.2.2.2.1 = nI e) (hq : q ≤ e) (he : e ≤ L) (hb : nmB g q (e - q)) : x_Mod_name d 160 (n, f, us) = some (Int64.ofNat (V256 0 (nmL g q (e - q))), (n, f, us)) := by
  obtain ⟨v0, v1, v2, v3⟩ := V
  have k := e_name (d := d) (us := us) (f := f) (tm := tm) (om := om) (nx := b.1) (kd := b.2.1) (fa := b.2.2.2.2.1) (ps := b.2.2.2.2.2.1) (nb := b.2.2.2.2.2.2) (R := R) v2 v1 v3 hq he hb
  have v0' : f 160 = mdC tm om (nI L) b.1 b.2.1 (nI q) (nI e) b.2.2.2.2.1 b.2.2.2.2.2.1 b.2.2.2.2.2.2 R := by rw [v0, ← h1, ← h2]; rfl
  rw [am_up_same v0'] at k
  exact k
def badR (b : RLx) : RLx := (b.1, b.2.1, b.2.2.1, b.2.2.2.1, b.2.2.1, b.2.2.2.2.2)
theorem m_bad (V : RW n f L g tm om b R) (hf : b.2.2.2.2.1 < 0) : x_Mod_bad d 160 (n, f, us) = some (0, (n, va_up f 160 (mdS tm om L (badR b) R), us)) := by
  obtain ⟨v0, v1, v2, v3⟩ := V
  have k := e_bad (d := d) (us := us) (f := f) (tm := tm) (om := om) (sz := nI L) (nx := b.1) (kd := b.2.1) (fr := b.2.2.1) (to := b.2.2.2.1) (ps := b.2.2.2.2.2.1) (nb := b.2.2.2.2.2.2) (R := R) v2 hf
  have v0' : f 160 = mdC tm om (nI L) b.1 b.2.1 b.2.2.1 b.2.2.2.1 b.2.2.2.2.1 b.2.2.2.2.2.1 b.2.2.2.2.2.2 R := v0
  rw [am_up_same v0'] at k
  exact k
theorem m_take (V : RW n f L g tm om b R) (hd : 4 ≤ d) {q : Nat} {T : Nat × Int32 × Int32 × Int64 × Int64} {t : Nat × Int32 × Int64} (hA : AtR q t b) (hT : TK g L q T t) (hq : q ≤ L) (ht : q ≤ t.1 ∧ t.1 ≤ L) {i : Nat} (hi : i < 35) (hk : T.2.1 = (kS.getD i (0, [])).1) : x_Mod_take (d + 2) 160 (2 * i + 12) (n, f, us) = some (1, (n, va_up f 160 (mdS tm om L (advR g L t.1 b) R), us)) := by
  unfold x_Mod_take
  dsimp only
  rw [m_gd V, m_is V (by omega) hA hT hq ht hi, bnd_some, if_pos hk, if_neg (by decide), m_step V hd hA.1 ht.2, bnd_some]
theorem m_takeNo (V : RW n f L g tm om b R) (hd : 4 ≤ d) {q : Nat} {T : Nat × Int32 × Int32 × Int64 × Int64} {t : Nat × Int32 × Int64} (hA : AtR q t b) (hT : TK g L q T t) (hq : q ≤ L) (ht : q ≤ t.1 ∧ t.1 ≤ L) {i : Nat} (hi : i < 35) (hk : ¬ T.2.1 = (kS.getD i (0, [])).1) (hf : b.2.2.2.2.1 < 0) : x_Mod_take (d + 2) 160 (2 * i + 12) (n, f, us) = some (0, (n, va_up f 160 (mdS tm om L (badR b) R), us)) := by
  unfold x_Mod_take
  dsimp only
  rw [m_gd V, m_is V (by omega) hA hT hq ht hi, bnd_some, if_neg hk, if_pos rfl, m_bad V hf, bnd_some, okB_of (Or.inl rfl)]
theorem r_tok_le {q : Nat} {nb : Int64} (hq : q ≤ L) : q ≤ (r_tok g L q nb).1 ∧ (r_tok g L q nb).1 ≤ L ∨ (r_tok g L q nb).2.1 = 6 ∨ (r_tok g L q nb).2.1 = 5 := by
  unfold r_tok
  split
  · exact Or.inl ⟨Nat.le_refl _, by omega⟩
  · split
    · split
      · split
        · have := r_tx_le (g := g) (L - (q + 1)) (q + 1)
          refine Or.inl ?_
          dsimp only
          split <;> omega
        · refine Or.inr ?_
          show r_sk5 _ _ = 6 ∨ r_sk5 _ _ = 5
          unfold r_sk5
          (repeat' split) <;> first | exact Or.inl rfl | exact Or.inr rfl
      · have := r_nu_le (g := g) (L - q) q 0
        exact Or.inl ⟨by dsimp only; omega, by dsimp only; omega⟩
    · have := r_nm_le (g := g) (L - q) q
      exact Or.inl ⟨by dsimp only; omega, by dsimp only; omega⟩
end
