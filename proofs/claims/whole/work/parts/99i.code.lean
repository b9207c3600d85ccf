section
variable {n us d r N i : Nat} {kd sz : Nat → Int32} {on tw : Nat → Int64} {f : Nat → am_C}
def vadd (x : Int32) (z : Int32) : Int64 := x.toInt64 <<< ((8 * (z &&& 7) : Int32).toInt64 &&& 63)
theorem e_Vadd50 (V : vR f r N kd sz on tw) (h1 : 128 ≤ r) (h2 : r + 4 < n) (hN : N < 2 ^ 31) (hi : i < N) : ∃ f', x_Vals_add_b50 d r (nI i) (n, f, us) = some ((), (n, f', us)) ∧ vR f' r N kd (upI sz i (sz i + 1)) on tw ∧ ∀ x, x ≠ r + 2 → f' x = f x := by
  obtain ⟨v0, v1, v2, v3, v4⟩ := V
  have b := cl0 (show i < 2 ^ 31 by omega)
  have hb : (nI i).toNatClampNeg < N := by rw [b.2]; exact hi
  unfold x_Vals_add_b50
  rw [gR_of (s := (n, f, us)) (k := 1) (x := r + 2) v0 h1 (show r < n by omega) rfl, Option.bind_some, aI_of (s := (n, f, us)) v2 (by omega) (show r + 2 < n by omega) b.1 hb, Option.bind_some, sI_of (s := (n, f, us)) v2 (by omega) (show r + 2 < n by omega) b.1 hb, Option.bind_some, b.2]
  refine ⟨_, rfl, ⟨?_, ?_, va_up_self _ _ _, ?_, ?_⟩, fun x hx => va_up_ne _ _ hx⟩
  · exact (va_up_ne _ _ (by omega)).trans v0
  · exact (va_up_ne _ _ (by omega)).trans v1
  · exact (va_up_ne _ _ (by omega)).trans v3
  · exact (va_up_ne _ _ (by omega)).trans v4
theorem e_Vadd (V : vR f r N kd sz on tw) (h1 : 128 ≤ r) (h2 : r + 4 < n) (hN : N < 2 ^ 31) (hi : i < N) {x : Int32} : ∃ f', x_Vals_add d r (nI i) x (n, f, us) = some ((), (n, f', us)) ∧ vR f' r N kd (upI sz i (sz i + 1)) (if 8 ≤ sz i then on else upL on i (on i ||| vadd x (sz i))) (if 8 ≤ sz i then upL tw i (tw i ||| vadd x (sz i)) else tw) ∧ ∀ x, x ≤ r ∨ r + 4 < x → f' x = f x := by
  obtain ⟨v0, v1, v2, v3, v4⟩ := V
  have b := cl0 (show i < 2 ^ 31 by omega)
  have hb : (nI i).toNatClampNeg < N := by rw [b.2]; exact hi
  have a2 := aI_of (s := (n, f, us)) v2 (by omega) (show r + 2 < n by omega) b.1 hb
  have a3 := aL_of (s := (n, f, us)) v3 (by omega) (show r + 3 < n by omega) b.1 hb
  have a4 := aL_of (s := (n, f, us)) v4 (by omega) (show r + 4 < n by omega) b.1 hb
  rw [b.2] at a2 a3 a4
  have G : ∀ k y, ([.ref (r + 1), .ref (r + 2), .ref (r + 3), .ref (r + 4)] : List Value)[k]? = some (.ref y) → gR (n, f, us) r 11 k = some y := fun k y hk => gR_of (s := (n, f, us)) v0 h1 (show r < n by omega) hk
  unfold x_Vals_add
  rw [gd_of (s := (n, f, us)) v0 h1 (show r < n by omega)]
  simp only [G 1 _ rfl, G 2 _ rfl, G 3 _ rfl, a2, a3, a4, Option.bind_some]
  by_cases c : 8 ≤ sz i
  · rw [if_pos c, if_pos c, if_pos c, sL_of (s := (n, f, us)) v4 (by omega) (show r + 4 < n by omega) b.1 hb, Option.bind_some, b.2]
    have W : vR (va_up f (r + 4) (.inl (.long, N, fun j => .long (upL tw i (tw i ||| vadd x (sz i)) j)))) r N kd sz on (upL tw i (tw i ||| vadd x (sz i))) := ⟨(va_up_ne _ _ (by omega)).trans v0, (va_up_ne _ _ (by omega)).trans v1, (va_up_ne _ _ (by omega)).trans v2, (va_up_ne _ _ (by omega)).trans v3, va_up_self _ _ _⟩
    obtain ⟨f', e1, e2, e3⟩ := e_Vadd50 (d := d) (us := us) W h1 h2 hN hi
    exact ⟨f', e1, e2, fun y hy => (e3 y (by omega)).trans (va_up_ne _ _ (by omega))⟩
  · rw [if_neg c, if_neg c, if_neg c, sL_of (s := (n, f, us)) v3 (by omega) (show r + 3 < n by omega) b.1 hb, Option.bind_some, b.2]
    have W : vR (va_up f (r + 3) (.inl (.long, N, fun j => .long (upL on i (on i ||| vadd x (sz i)) j)))) r N kd sz (upL on i (on i ||| vadd x (sz i))) tw := ⟨(va_up_ne _ _ (by omega)).trans v0, (va_up_ne _ _ (by omega)).trans v1, (va_up_ne _ _ (by omega)).trans v2, va_up_self _ _ _, (va_up_ne _ _ (by omega)).trans v4⟩
    obtain ⟨f', e1, e2, e3⟩ := e_Vadd50 (d := d) (us := us) W h1 h2 hN hi
    exact ⟨f', e1, e2, fun y hy => (e3 y (by omega)).trans (va_up_ne _ _ (by omega))⟩
end
/-! Code of the reference: m ints of steps, v values -/
def CR (f : Nat → am_C) (r Ns Nv m v : Nat) (st : Nat → Int32) (kd sz : Nat → Int32) (on tw : Nat → Int64) (tk pa lo ba vb ud : Int32) : Prop :=
  f r = .inr (12, [.ref (r + 1), .ref (r + 2), .int (nI m), .int (nI v), .int tk, .int pa, .int lo, .int ba, .int vb, .int ud]) ∧ f (r + 1) = .inl (.int, Ns, fun j => .int (st j)) ∧ vR f (r + 2) Nv kd sz on tw ∧ m ≤ Ns ∧ v ≤ Nv ∧ Ns < 2 ^ 31 ∧ Nv < 2 ^ 31
section
variable {n us d r Ns Nv m v : Nat} {st kd sz : Nat → Int32} {on tw : Nat → Int64} {tk pa lo ba vb ud : Int32} {f : Nat → am_C} {ms : List Value}
theorem e_put1 (hM : f 160 = .inr (14, ms)) (hc : ms[22]? = some (.ref r)) (V : CR f r Ns Nv m v st kd sz on tw tk pa lo ba vb ud) (h1 : 161 ≤ r) (h2 : r + 6 < n) (hm : m < Ns) {x : Int32} : ∃ f', x_Mod_put_I d 160 x (n, f, us) = some (nI m, (n, f', us)) ∧ CR f' r Ns Nv (m + 1) v (upI st m x) kd sz on tw tk pa lo ba vb ud ∧ ∀ y, y ≠ r → y ≠ r + 1 → f' y = f y := by
  obtain ⟨v0, v1, v2, v3, v4, v5, v6⟩ := V
  have b := cl0 (show m < 2 ^ 31 by omega)
  have g0 : 160 < n := by omega
  unfold x_Mod_put_I
  rw [gd_of (s := (n, f, us)) hM (by decide) g0, gR_of (s := (n, f, us)) (k := 22) (x := r) hM (by decide) g0 hc, Option.bind_some, gR_of (s := (n, f, us)) (k := 0) (x := r + 1) v0 (by omega) (show r < n by omega) rfl, Option.bind_some, Option.bind_some, gI_of (s := (n, f, us)) (k := 2) (x := nI m) v0 (by omega) (show r < n by omega) rfl, Option.bind_some, sI_of (s := (n, f, us)) v1 (by omega) (show r + 1 < n by omega) b.1 (by rw [b.2]; exact hm), Option.bind_some, b.2]
  have w0 : va_up f (r + 1) (.inl (.int, Ns, fun j => .int (upI st m x j))) 160 = .inr (14, ms) := (va_up_ne _ _ (by omega)).trans hM
  have w1 : va_up f (r + 1) (.inl (.int, Ns, fun j => .int (upI st m x j))) r = .inr (12, [.ref (r + 1), .ref (r + 2), .int (nI m), .int (nI v), .int tk, .int pa, .int lo, .int ba, .int vb, .int ud]) := (va_up_ne _ _ (by omega)).trans v0
  rw [gR_of (s := (n, va_up f (r + 1) _, us)) (k := 22) (x := r) w0 (by decide) g0 hc, Option.bind_some, gI_of (s := (n, va_up f (r + 1) _, us)) (k := 2) (x := nI m) w1 (by omega) (show r < n by omega) rfl, Option.bind_some, pV_of (s := (n, va_up f (r + 1) _, us)) (k := 2) w1 (by omega) (show r < n by omega) (Nat.le_of_ble_eq_true rfl), Option.bind_some]
  simp only [List.set_cons_succ, List.set_cons_zero]
  have w2 : va_up (va_up f (r + 1) (.inl (.int, Ns, fun j => .int (upI st m x j)))) r (.inr (12, [.ref (r + 1), .ref (r + 2), .int (nI m + 1), .int (nI v), .int tk, .int pa, .int lo, .int ba, .int vb, .int ud])) 160 = .inr (14, ms) := (va_up_ne _ _ (by omega)).trans w0
  rw [gR_of (s := (n, va_up (va_up f (r + 1) _) r _, us)) (k := 22) (x := r) w2 (by decide) g0 hc, Option.bind_some, gI_of (k := 2) (x := nI m + 1) (va_up_self _ _ _) (by omega) (show r < n by omega) rfl, Option.bind_some]
  refine ⟨_, by rw [show nI m + 1 - 1 = nI m by rw [Int32.add_sub_cancel]], ⟨?_, ?_, ?_, by omega, v4, v5, v6⟩, fun y h3 h4 => ?_⟩
  · rw [va_up_self, ← nI_succ]
  · exact (va_up_ne _ _ (by omega)).trans (va_up_self _ _ _)
  · exact v2.kept (fun y h3 h4 => (va_up_ne _ _ (by omega)).trans (va_up_ne _ _ (by omega)))
  · exact (va_up_ne _ _ h3).trans (va_up_ne _ _ h4)
theorem e_put2 (hM : f 160 = .inr (14, ms)) (hc : ms[22]? = some (.ref r)) (V : CR f r Ns Nv m v st kd sz on tw tk pa lo ba vb ud) (h1 : 161 ≤ r) (h2 : r + 6 < n) (hm : m + 1 < Ns) {x y : Int32} : ∃ f', x_Mod_put_II (d + 1) 160 x y (n, f, us) = some ((), (n, f', us)) ∧ CR f' r Ns Nv (m + 2) v (upI (upI st m x) (m + 1) y) kd sz on tw tk pa lo ba vb ud ∧ ∀ z, z ≠ r → z ≠ r + 1 → f' z = f z := by
  unfold x_Mod_put_II
  dsimp only
  rw [gd_of (s := (n, f, us)) hM (by decide) (show 160 < n by omega)]
  obtain ⟨f1, a1, a2, a3⟩ := e_put1 (d := d) (us := us) hM hc V h1 h2 (by omega) (x := x)
  rw [a1, bnd_some]
  obtain ⟨f2, b1, b2, b3⟩ := e_put1 (d := d) (us := us) ((a3 160 (by omega) (by omega)).trans hM) hc a2 h1 h2 hm (x := y)
  rw [b1, bnd_some]
  exact ⟨f2, rfl, b2, fun z h3 h4 => (b3 z h3 h4).trans (a3 z h3 h4)⟩
theorem e_nameValue (hM : f 160 = .inr (14, ms)) (hc : ms[22]? = some (.ref r)) (V : CR f r Ns Nv m v st kd sz on tw tk pa lo ba vb ud) (h1 : 161 ≤ r) (h2 : r + 6 < n) (hv : v < Nv) {y : Int64} : ∃ f', x_Mod_nameValue (d + 1) 160 y (n, f, us) = some (nI v, (n, f', us)) ∧ CR f' r Ns Nv m (v + 1) st (upI kd v 1) (upI sz v 0) (upL on v y) (upL tw v 0) tk pa lo ba vb ud ∧ ∀ z, z ≠ r → (z ≤ r + 2 ∨ r + 6 < z) → f' z = f z := by
  obtain ⟨v0, v1, v2, v3, v4, v5, v6⟩ := V
  have g0 : 160 < n := by omega
  unfold x_Mod_nameValue
  dsimp only
  rw [gd_of (s := (n, f, us)) hM (by decide) g0, gR_of (s := (n, f, us)) (k := 22) (x := r) hM (by decide) g0 hc, Option.bind_some, gR_of (s := (n, f, us)) (k := 1) (x := r + 2) v0 (by omega) (show r < n by omega) rfl, Option.bind_some, Option.bind_some, gI_of (s := (n, f, us)) (k := 3) (x := nI v) v0 (by omega) (show r < n by omega) rfl, Option.bind_some]
  obtain ⟨f1, a1, a2, a3⟩ := e_Vset (d := d) (us := us) (n := n) v2 (by omega) (by omega) v6 hv (x1 := 1) (x2 := 0) (y1 := y) (y2 := 0)
  rw [a1, bnd_some]
  have w0 : f1 160 = .inr (14, ms) := (a3 160 (by omega)).trans hM
  have w1 := (a3 r (by omega)).trans v0
  rw [gR_of (s := (n, f1, us)) (k := 22) (x := r) w0 (by decide) g0 hc, Option.bind_some, gI_of (s := (n, f1, us)) (k := 3) (x := nI v) w1 (by omega) (show r < n by omega) rfl, Option.bind_some, pV_of (s := (n, f1, us)) (k := 3) w1 (by omega) (show r < n by omega) (Nat.le_of_ble_eq_true rfl), Option.bind_some]
  simp only [List.set_cons_succ, List.set_cons_zero]
  have w2 : va_up f1 r (.inr (12, [.ref (r + 1), .ref (r + 2), .int (nI m), .int (nI v + 1), .int tk, .int pa, .int lo, .int ba, .int vb, .int ud])) 160 = .inr (14, ms) := (va_up_ne _ _ (by omega)).trans w0
  rw [gR_of (s := (n, va_up f1 r _, us)) (k := 22) (x := r) w2 (by decide) g0 hc, Option.bind_some, gI_of (k := 3) (x := nI v + 1) (va_up_self _ _ _) (by omega) (show r < n by omega) rfl, Option.bind_some]
  refine ⟨_, by rw [show nI v + 1 - 1 = nI v by rw [Int32.add_sub_cancel]], ⟨?_, ?_, ?_, v3, by omega, v5, v6⟩, fun y h3 h4 => ?_⟩
  · rw [va_up_self, ← nI_succ]
  · exact (va_up_ne _ _ (by omega)).trans ((a3 _ (by omega)).trans v1)
  · exact a2.kept (fun y h3 h4 => va_up_ne _ _ (by omega))
  · exact (va_up_ne _ _ h3).trans (a3 y h4)
end
