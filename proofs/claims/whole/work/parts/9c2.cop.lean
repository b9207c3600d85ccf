/-! the class's Parser with one Draft, as a state CA: the Lexer, fault, assignable, commands, pool, LOCALS, and what they are -/
abbrev CA : Type := LxS × Int32 × Int32 × Nat × Nat × Nat × (Nat → Int32) × (Nat → Int64) × (Nat → Int64)
abbrev ca_a (x : CA) : LxS := x.1
abbrev ca_f (x : CA) : Int32 := x.2.1
abbrev ca_s (x : CA) : Int32 := x.2.2.1
abbrev ca_h (x : CA) : Nat := x.2.2.2.1
abbrev ca_k (x : CA) : Nat := x.2.2.2.2.1
abbrev ca_t (x : CA) : Nat := x.2.2.2.2.2.1
abbrev ca_c (x : CA) : Nat → Int32 := x.2.2.2.2.2.2.1
abbrev ca_p (x : CA) : Nat → Int64 := x.2.2.2.2.2.2.2.1
abbrev ca_l (x : CA) : Nat → Int64 := x.2.2.2.2.2.2.2.2
/-- what stays: the text, and how all was when the Draft was begun -/
abbrev CE : Type := Nat × (Nat → Int32) × (Nat → Int64) × (Nat × Nat × (Nat → am_C)) × (Nat × Nat) × (Nat × Nat × Nat) × (Nat × Nat × Nat)
abbrev ce_L (E : CE) : Nat := E.1
abbrev ce_g (E : CE) : Nat → Int32 := E.2.1
abbrev ce_w (E : CE) : Nat → Int64 := E.2.2.1
abbrev ce_n (E : CE) : Nat := E.2.2.2.1.1
abbrev ce_u (E : CE) : Nat := E.2.2.2.1.2.1
abbrev ce_f (E : CE) : Nat → am_C := E.2.2.2.1.2.2
abbrev ce_d (E : CE) : Nat := E.2.2.2.2.1.1
abbrev ce_p (E : CE) : Nat := E.2.2.2.2.1.2
abbrev ce_c0 (E : CE) : Nat := E.2.2.2.2.2.1.1
abbrev ce_p0 (E : CE) : Nat := E.2.2.2.2.2.1.2.1
abbrev ce_l0 (E : CE) : Nat := E.2.2.2.2.2.1.2.2
abbrev ce_N (E : CE) : Nat := E.2.2.2.2.2.2.1 + E.2.2.2.2.2.2.2.1 + E.2.2.2.2.2.2.2.2
def EOK (E : CE) : Prop := ce_L E ≤ 1500 ∧ (∀ j, j < ce_L E → isBt (ce_g E j)) ∧ (∀ i, i < 12 → ce_w E i = Int64.ofNat (C128 8 (RWL.getD i []))) ∧ 1311 ≤ ce_n E ∧ 134 < ce_d E ∧ 134 < ce_c0 E ∧ 134 < ce_p0 E ∧ 134 < ce_l0 E ∧ ce_d E < ce_n E
def KC (E : CE) (s : HS) (x : CA) : Prop := ∃ (c p l Nc Np Nl : Nat) (co : Nat → Int32) (po lo : Nat → Int64), PW s.1 s.2.1 (ce_L E) (ce_g E) (ce_w E) (ca_a x) (ce_d E) (ce_p E) (ca_f x) (ca_s x) ∧ DR s.1 s.2.1 (ce_d E) c p l (2 * ca_h x) (ca_k x) (ca_t x) Nc Np Nl co po lo ∧ (∀ j, j < 2 * ca_h x → co j = ca_c x j) ∧ (∀ j, j < ca_k x → po j = ca_p x j) ∧ (∀ j, j < ca_t x → lo j = ca_l x j) ∧ ((c = ce_c0 E ∨ ce_n E ≤ c) ∧ (p = ce_p0 E ∨ ce_n E ≤ p) ∧ (l = ce_l0 E ∨ ce_n E ≤ l)) ∧ ce_n E ≤ s.1 ∧ (∀ z, z < ce_n E → z ≠ 132 → z ≠ 133 → z ≠ ce_d E → z ≠ ce_c0 E → z ≠ ce_p0 E → z ≠ ce_l0 E → s.2.1 z = ce_f E z) ∧ (s.2.2 + 2 * ce_N E = ce_u E + 2 * (Nc + Np + Nl) ∧ 16 * s.1 + ce_N E ≤ 16 * ce_n E + (Nc + Np + Nl)) ∧ (16 ≤ Nc ∧ 16 ≤ Np ∧ 16 ≤ Nl) ∧ (Nc ≤ 65536 ∧ Np ≤ 65536 ∧ Nl ≤ 65536)
abbrev caLex (x : CA) (a : LxS) : CA := (a, x.2)
abbrev caFail (x : CA) : CA := (stopS x.1, if x.2.1 < 0 then x.1.2.2.2.1 else x.2.1, x.2.2)
abbrev caAsg (x : CA) (v : Int32) : CA := (x.1, x.2.1, v, x.2.2.2)
abbrev caAdd (x : CA) (op ar : Int32) : CA := (x.1, x.2.1, x.2.2.1, x.2.2.2.1 + 1, x.2.2.2.2.1, x.2.2.2.2.2.1, upI (upI (ca_c x) (2 * ca_h x) op) (2 * ca_h x + 1) ar, x.2.2.2.2.2.2.2)
abbrev caKeep (x : CA) (y z : Int64) : CA := (x.1, x.2.1, x.2.2.1, x.2.2.2.1, x.2.2.2.2.1 + 2, x.2.2.2.2.2.1, x.2.2.2.2.2.2.1, upL (upL (ca_p x) (ca_k x) y) (ca_k x + 1) z, x.2.2.2.2.2.2.2.2)
abbrev caLocal (x : CA) (y : Int64) : CA := (x.1, x.2.1, x.2.2.1, x.2.2.2.1, x.2.2.2.2.1, x.2.2.2.2.2.1 + 1, x.2.2.2.2.2.2.1, x.2.2.2.2.2.2.2.1, upL (ca_l x) (ca_t x) y)
abbrev caAim (x : CA) (a : Nat) : CA := (x.1, x.2.1, x.2.2.1, x.2.2.2.1, x.2.2.2.2.1, x.2.2.2.2.2.1, upI (ca_c x) (2 * a + 1) (nI (ca_h x)), x.2.2.2.2.2.2.2)
abbrev caDrop (x : CA) (h : Nat) : CA := (x.1, x.2.1, x.2.2.1, h, x.2.2.2.2)
section
variable {E : CE} {s : HS} {x : CA} {d : Nat} {k dp : Int32}
theorem kc_gd {β : Type} {b : Option β} (V : KC E s x) : gd s 132 5 b = b := by
  obtain ⟨c, p, l, Nc, Np, Nl, co, po, lo, h1, _⟩ := V
  exact p_gd h1
theorem kc_lx (V : KC E s x) : gR s 132 5 0 = some 133 := by
  obtain ⟨c, p, l, Nc, Np, Nl, co, po, lo, h1, _⟩ := V
  exact p_lx h1
theorem kc_dr (V : KC E s x) : gR s 132 5 3 = some (ce_d E) := by
  obtain ⟨c, p, l, Nc, Np, Nl, co, po, lo, h1, _⟩ := V
  exact p_dr h1
theorem kc_fa (V : KC E s x) : gI s 132 5 6 = some (ca_f x) := by
  obtain ⟨c, p, l, Nc, Np, Nl, co, po, lo, h1, _⟩ := V
  exact p_fa h1
theorem kc_sg (V : KC E s x) : gI s 132 5 7 = some (ca_s x) := by
  obtain ⟨c, p, l, Nc, Np, Nl, co, po, lo, h1, _⟩ := V
  exact p_sg h1
theorem kc_kind (V : KC E s x) : x_Lexer_kind d 133 s = some ((ca_a x).2.2.1, s) := by
  obtain ⟨c, p, l, Nc, Np, Nl, co, po, lo, h1, _⟩ := V
  exact p_kind h1
theorem kc_taken (V : KC E s x) : x_Lexer_taken d 133 s = some ((ca_a x).2.1, s) := by
  obtain ⟨c, p, l, Nc, Np, Nl, co, po, lo, h1, _⟩ := V
  exact p_taken h1
theorem kc_number (V : KC E s x) : x_Lexer_number d 133 s = some ((ca_a x).2.2.2.2.1, s) := by
  obtain ⟨c, p, l, Nc, Np, Nl, co, po, lo, h1, _⟩ := V
  exact p_number h1
theorem kc_head (V : KC E s x) : x_Lexer_head d 133 s = some ((ca_a x).2.2.2.2.2.1, s) := by
  obtain ⟨c, p, l, Nc, Np, Nl, co, po, lo, h1, _⟩ := V
  exact p_head h1
theorem kc_tail (V : KC E s x) : x_Lexer_tail d 133 s = some ((ca_a x).2.2.2.2.2.2, s) := by
  obtain ⟨c, p, l, Nc, Np, Nl, co, po, lo, h1, _⟩ := V
  exact p_tail h1
/-- only the Parser and its Lexer have changed -/
theorem KC.lexer {a' : LxS} {fa' sg' : Int32} {f' : Nat → am_C} (e : EOK E) (V : KC E s x) (h : PW s.1 f' (ce_L E) (ce_g E) (ce_w E) a' (ce_d E) (ce_p E) fa' sg') (hf : ∀ z, z ≠ 132 → z ≠ 133 → f' z = s.2.1 z) : KC E (s.1, f', s.2.2) (a', fa', sg', x.2.2.2) := by
  obtain ⟨c, p, l, Nc, Np, Nl, co, po, lo, h1, h2, h3, h4, h5, h6, h7, h8, h9, h10, h11⟩ := V
  obtain ⟨e1, e2, e3, e4, e5, e6, e7, e8, e9⟩ := e
  have hc : c ≠ 132 ∧ c ≠ 133 := by rcases h6.1 with h | h <;> omega
  have hp : p ≠ 132 ∧ p ≠ 133 := by rcases h6.2.1 with h | h <;> omega
  have hl : l ≠ 132 ∧ l ≠ 133 := by rcases h6.2.2 with h | h <;> omega
  refine ⟨c, p, l, Nc, Np, Nl, co, po, lo, h, h2.kept (Nat.le_refl _) (fun z hz => ?_), h3, h4, h5, h6, h7, fun z a1 a2 a3 a4 a5 a6 a7 => (hf z a2 a3).trans (h8 z a1 a2 a3 a4 a5 a6 a7), h9, h10, h11⟩
  rcases hz with hz | hz | hz | hz
  · exact hf z (by omega) (by omega)
  · exact hf z (by omega) (by omega)
  · exact hf z (by omega) (by omega)
  · exact hf z (by omega) (by omega)
theorem KC.pw (V : KC E s x) : PW s.1 s.2.1 (ce_L E) (ce_g E) (ce_w E) (ca_a x) (ce_d E) (ce_p E) (ca_f x) (ca_s x) := by
  obtain ⟨c, p, l, Nc, Np, Nl, co, po, lo, h1, _⟩ := V
  exact h1
theorem kc_fail (e : EOK E) (V : KC E s x) : ∃ s', x_Pars_fail (d + 1) 132 s = some ((), s') ∧ KC E s' (caFail x) := by
  obtain ⟨f', e1, e2, e3⟩ := p_fail (d := d) (us := s.2.2) V.pw
  exact ⟨_, e1, V.lexer e e2 e3⟩
theorem kc_take {p : Nat} (e : EOK E) (V : KC E s x) (hk : (ca_a x).2.2.1 = k) (hp : (ca_a x).1 = nI p) (hp2 : p ≤ ce_L E) : ∃ s', x_Pars_take (d + 6) 132 k s = some ((), s') ∧ KC E s' (caLex x (advS (ce_g E) (ce_w E) (ce_L E) p (ca_a x))) := by
  obtain ⟨f', e1, e2, e3⟩ := p_take (d := d) (us := s.2.2) V.pw hk hp hp2
  exact ⟨_, e1, V.lexer e e2 (fun z _ h => e3 z h)⟩
theorem kc_takeNo (e : EOK E) (V : KC E s x) (hk : ¬ (ca_a x).2.2.1 = k) : ∃ s', x_Pars_take (d + 2) 132 k s = some ((), s') ∧ KC E s' (caFail x) := by
  obtain ⟨f', e1, e2, e3⟩ := p_takeNo (d := d) (us := s.2.2) V.pw hk
  exact ⟨_, e1, V.lexer e e2 e3⟩
theorem kc_open {p : Nat} (e : EOK E) (V : KC E s x) (hk : (ca_a x).2.2.1 = k) (hd : dp < 16) (hp : (ca_a x).1 = nI p) (hp2 : p ≤ ce_L E) : ∃ s', x_Pars_open (d + 6) 132 k dp s = some (1, s') ∧ KC E s' (caLex x (advS (ce_g E) (ce_w E) (ce_L E) p (ca_a x))) := by
  obtain ⟨f', e1, e2, e3⟩ := p_open (d := d) (us := s.2.2) V.pw hk hd hp hp2
  exact ⟨_, e1, V.lexer e e2 (fun z _ h => e3 z h)⟩
theorem kc_openNo (e : EOK E) (V : KC E s x) (hk : ¬ ((ca_a x).2.2.1 = k ∧ dp < 16)) : ∃ s', x_Pars_open (d + 2) 132 k dp s = some (0, s') ∧ KC E s' (caFail x) := by
  obtain ⟨f', e1, e2, e3⟩ := p_openNo (d := d) (us := s.2.2) V.pw hk
  exact ⟨_, e1, V.lexer e e2 e3⟩
theorem kc_takeName {p : Nat} (e : EOK E) (V : KC E s x) (hk : (ca_a x).2.2.1 = 2) (hp : (ca_a x).1 = nI p) (hp2 : p ≤ ce_L E) : ∃ s', x_Pars_takeName (d + 7) 132 s = some ((ca_a x).2.2.2.2.2.1, s') ∧ KC E s' (caLex x (advS (ce_g E) (ce_w E) (ce_L E) p (ca_a x))) := by
  obtain ⟨f', e1, e2, e3⟩ := p_takeName (d := d) (us := s.2.2) V.pw hk hp hp2
  exact ⟨_, e1, V.lexer e e2 (fun z _ h => e3 z h)⟩
theorem kc_takeNameNo (e : EOK E) (V : KC E s x) (hk : ¬ (ca_a x).2.2.1 = 2) : ∃ s', x_Pars_takeName (d + 3) 132 s = some ((ca_a x).2.2.2.2.2.1, s') ∧ KC E s' (caFail x) := by
  obtain ⟨f', e1, e2, e3⟩ := p_takeNameNo (d := d) (us := s.2.2) V.pw hk
  exact ⟨_, e1, V.lexer e e2 e3⟩
theorem kc_asg {v : Int32} (e : EOK E) (V : KC E s x) : ∃ s', pV s 132 5 7 (.int v) = some s' ∧ KC E s' (caAsg x v) := by
  obtain ⟨f', e1, e2, e3⟩ := p_asgV (us := s.2.2) (x := v) V.pw
  exact ⟨_, e1, V.lexer e e2 (fun z h _ => e3 z h)⟩
theorem kc_asgZ {v : Int32} (e : EOK E) (V : KC E s x) (hv : v = 0 ∨ v = 1) : ∃ s', pZ s 132 5 7 v = some s' ∧ KC E s' (caAsg x v) := by
  obtain ⟨f', e1, e2, e3⟩ := p_asg (us := s.2.2) V.pw hv
  exact ⟨_, e1, V.lexer e e2 (fun z h _ => e3 z h)⟩
/-- PW is kept by what leaves its four cells alone -/
theorem pw_kept {n n' : Nat} {f f' : Nat → am_C} {L : Nat} {g : Nat → Int32} {ws : Nat → Int64} {a : LxS} {dr pg : Nat} {fa sg : Int32} {r c : Nat} (h : PW n f L g ws a dr pg fa sg) (hn : n ≤ n') (hr : 134 < r) (hc : 134 < c) (hf : ∀ z, z ≠ r → z ≠ c → z < n → f' z = f z) : PW n' f' L g ws a dr pg fa sg := h.kept hn (fun z hz => hf z (by omega) (by omega) (by have := h.2.2.2.2.1; omega))
theorem kc_add {op ar : Int32} (e : EOK E) (V : KC E s x) (hs : ca_h x + 1 ≤ 16384) : ∃ s', x_Draft_add (d + 2) (ce_d E) op ar s = some ((), s') ∧ KC E s' (caAdd x op ar) := by
  obtain ⟨c, p, l, Nc, Np, Nl, co, po, lo, h1, h2, h3, h4, h5, h6, h7, h8, h9, h10, h11⟩ := V
  obtain ⟨e1, e2, e3, e4, e5, e6, e7, e8, e9⟩ := e
  obtain ⟨n', us', c', Nc', f', co', k1, k2, k3, k4, k5, k6, k7⟩ := e_add (d := d) (us := s.2.2) (op := op) (ar := ar) h2 (by omega) (by omega)
  have hc : 134 < c := by rcases h6.1 with h | h <;> omega
  have hn : s.1 ≤ n' := by rcases k6 with k | k <;> omega
  refine ⟨_, k1, c', p, l, Nc', Np, Nl, co', po, lo, pw_kept h1 hn e5 hc k7, ?_, ?_, h4, h5, ⟨?_, h6.2⟩, Nat.le_trans h7 hn, ?_, ?_, ?_, ?_⟩
  · rw [show 2 * (ca_h x + 1) = 2 * ca_h x + 2 by omega]
    exact k2
  · intro j hj
    show co' j = upI (upI (ca_c x) (2 * ca_h x) op) (2 * ca_h x + 1) ar j
    unfold upI
    by_cases j1 : j = 2 * ca_h x + 1
    · rw [if_pos j1, j1]
      exact k5
    · rw [if_neg j1]
      by_cases j2 : j = 2 * ca_h x
      · rw [if_pos j2, j2]
        exact k4
      · rw [if_neg j2]
        have hj' : j < 2 * (ca_h x + 1) := hj
        exact (k3 j (by omega)).trans (h3 j (by omega))
  · rcases k6 with k | k
    · rw [k.2.1]
      exact h6.1
    · right
      omega
  · intro z a1 a2 a3 a4 a5 a6 a7
    refine (k7 z a4 ?_ (by omega)).trans (h8 z a1 a2 a3 a4 a5 a6 a7)
    rcases h6.1 with h | h <;> omega
  · dsimp only
    rcases k6 with k | k <;> omega
  · rcases k6 with k | k <;> omega
  · rcases k6 with k | k <;> omega
theorem kc_keep {y z : Int64} (e : EOK E) (V : KC E s x) (hs : ca_k x + 2 ≤ 32768) : ∃ s', x_Draft_keep (d + 2) (ce_d E) y z s = some (nI (ca_k x), s') ∧ KC E s' (caKeep x y z) := by
  obtain ⟨c, p, l, Nc, Np, Nl, co, po, lo, h1, h2, h3, h4, h5, h6, h7, h8, h9, h10, h11⟩ := V
  obtain ⟨e1, e2, e3, e4, e5, e6, e7, e8, e9⟩ := e
  obtain ⟨n', us', p', Np', f', po', k1, k2, k3, k4, k5, k6, k7⟩ := e_keep (d := d) (us := s.2.2) (y1 := y) (y2 := z) h2 (by omega) (by omega)
  have hc : 134 < p := by rcases h6.2.1 with h | h <;> omega
  have hn : s.1 ≤ n' := by rcases k6 with k | k <;> omega
  refine ⟨_, k1, c, p', l, Nc, Np', Nl, co, po', lo, pw_kept h1 hn e5 hc k7, k2, h3, ?_, h5, ⟨h6.1, ?_, h6.2.2⟩, Nat.le_trans h7 hn, ?_, ?_, ?_, ?_⟩
  · intro j hj
    show po' j = upL (upL (ca_p x) (ca_k x) y) (ca_k x + 1) z j
    unfold upL
    by_cases j1 : j = ca_k x + 1
    · rw [if_pos j1, j1]
      exact k5
    · rw [if_neg j1]
      by_cases j2 : j = ca_k x
      · rw [if_pos j2, j2]
        exact k4
      · rw [if_neg j2]
        have hj' : j < ca_k x + 2 := hj
        exact (k3 j (by omega)).trans (h4 j (by omega))
  · rcases k6 with k | k
    · rw [k.2.1]
      exact h6.2.1
    · right
      omega
  · intro z a1 a2 a3 a4 a5 a6 a7
    refine (k7 z a4 ?_ (by omega)).trans (h8 z a1 a2 a3 a4 a5 a6 a7)
    rcases h6.2.1 with h | h <;> omega
  · dsimp only
    rcases k6 with k | k <;> omega
  · rcases k6 with k | k <;> omega
  · rcases k6 with k | k <;> omega
theorem fd_low {g1 g2 : Nat → Int64} {k : Nat} {y : Int64} (h : ∀ j, j < k → g1 j = g2 j) : s_find g1 k y = s_find g2 k y := find_eq fun j hj => by rw [h j hj]
theorem kc_localOf {y : Int64} (V : KC E s x) : x_Draft_localOf d (ce_d E) y s = some (s_find (ca_l x) (ca_t x) y, s) := by
  obtain ⟨c, p, l, Nc, Np, Nl, co, po, lo, h1, h2, h3, h4, h5, _⟩ := V
  rw [← fd_low h5]
  exact e_localOf h2
theorem kc_here (V : KC E s x) : x_Draft_here d (ce_d E) s = some (nI (ca_h x), s) := by
  obtain ⟨c, p, l, Nc, Np, Nl, co, po, lo, h1, h2, _⟩ := V
  exact e_here h2
theorem kc_lastOp {h : Nat} (V : KC E s x) (hh : ca_h x = h + 1) : x_Draft_lastOp d (ce_d E) s = some (ca_c x (2 * h), s) := by
  obtain ⟨c, p, l, Nc, Np, Nl, co, po, lo, h1, h2, h3, _⟩ := V
  rw [hh, show 2 * (h + 1) = 2 * h + 2 by omega] at h2
  rw [← h3 (2 * h) (by omega)]
  exact e_lastOp h2
theorem kc_lastArg {h : Nat} (V : KC E s x) (hh : ca_h x = h + 1) : x_Draft_lastArgument d (ce_d E) s = some (ca_c x (2 * h + 1), s) := by
  obtain ⟨c, p, l, Nc, Np, Nl, co, po, lo, h1, h2, h3, _⟩ := V
  rw [hh, show 2 * (h + 1) = 2 * h + 2 by omega] at h2
  rw [← h3 (2 * h + 1) (by omega)]
  exact e_lastArg h2
theorem kc_dropLast {h : Nat} (e : EOK E) (V : KC E s x) (hh : ca_h x = h + 1) : ∃ s', x_Draft_dropLast (d + 1) (ce_d E) s = some ((), s') ∧ KC E s' (caDrop x h) := by
  obtain ⟨c, p, l, Nc, Np, Nl, co, po, lo, h1, h2, h3, h4, h5, h6, h7, h8, h9, h10, h11⟩ := V
  obtain ⟨e1, e2, e3, e4, e5, e6, e7, e8, e9⟩ := e
  rw [hh, show 2 * (h + 1) = 2 * h + 2 by omega] at h2
  obtain ⟨f', k1, k2, k3⟩ := e_dropLast (d := d) (us := s.2.2) h2
  refine ⟨_, k1, c, p, l, Nc, Np, Nl, co, po, lo, pw_kept h1 (Nat.le_refl _) e5 e5 (fun z a _ _ => k3 z a), k2, fun j hj => h3 j ?_, h4, h5, h6, h7, fun z a1 a2 a3 a4 a5 a6 a7 => (k3 z a4).trans (h8 z a1 a2 a3 a4 a5 a6 a7), h9, h10, h11⟩
  have hj' : j < 2 * h := hj
  omega
theorem kc_aim {a : Nat} (e : EOK E) (V : KC E s x) (ha : a < ca_h x) : ∃ s', x_Draft_aimHere (d + 1) (ce_d E) (nI a) s = some ((), s') ∧ KC E s' (caAim x a) := by
  obtain ⟨c, p, l, Nc, Np, Nl, co, po, lo, h1, h2, h3, h4, h5, h6, h7, h8, h9, h10, h11⟩ := V
  obtain ⟨e1, e2, e3, e4, e5, e6, e7, e8, e9⟩ := e
  have hc : 134 < c := by rcases h6.1 with h | h <;> omega
  obtain ⟨f', k1, k2, k3⟩ := e_aimHere (d := d) (us := s.2.2) h2 ha
  refine ⟨_, k1, c, p, l, Nc, Np, Nl, _, po, lo, pw_kept h1 (Nat.le_refl _) hc hc (fun z a _ _ => k3 z a), k2, fun j hj => ?_, h4, h5, h6, h7, fun z a1 a2 a3 a4 a5 a6 a7 => (k3 z ?_).trans (h8 z a1 a2 a3 a4 a5 a6 a7), h9, h10, h11⟩
  · show upI co _ _ j = upI (ca_c x) _ _ j
    unfold upI
    by_cases c : j = 2 * a + 1
    · rw [if_pos c, if_pos c]
    · rw [if_neg c, if_neg c]
      exact h3 j hj
  · rcases h6.1 with h | h <;> omega
theorem kc_makeOld {y : Int64} (V : KC E s x) (hf : ¬ s_find (ca_l x) (ca_t x) y < 0) : x_Draft_makeLocal (d + 1) (ce_d E) y s = some (s_find (ca_l x) (ca_t x) y, s) := by
  obtain ⟨c, p, l, Nc, Np, Nl, co, po, lo, h1, h2, h3, h4, h5, _⟩ := V
  rw [← fd_low h5] at hf ⊢
  exact e_makeOld h2 hf
theorem kc_makeNew {y : Int64} (e : EOK E) (V : KC E s x) (ht : ca_t x + 1 ≤ 32768) (hf : s_find (ca_l x) (ca_t x) y < 0) : ∃ s', x_Draft_makeLocal (d + 2) (ce_d E) y s = some (nI (ca_t x), s') ∧ KC E s' (caLocal x y) := by
  obtain ⟨c, p, l, Nc, Np, Nl, co, po, lo, h1, h2, h3, h4, h5, h6, h7, h8, h9, h10, h11⟩ := V
  obtain ⟨e1, e2, e3, e4, e5, e6, e7, e8, e9⟩ := e
  rw [← fd_low h5] at hf
  obtain ⟨n', us', l', Nl', f', lo', k1, k2, k3, k4, k5, k6⟩ := e_makeNew (d := d) (us := s.2.2) (y := y) h2 (by omega) (by omega) hf
  have hc : 134 < l := by rcases h6.2.2 with h | h <;> omega
  have hn : s.1 ≤ n' := by rcases k5 with k | k <;> omega
  refine ⟨_, k1, c, p, l', Nc, Np, Nl', co, po, lo', pw_kept h1 hn e5 hc k6, k2, h3, h4, ?_, ⟨h6.1, h6.2.1, ?_⟩, Nat.le_trans h7 hn, ?_, ?_, ?_, ?_⟩
  · intro j hj
    show lo' j = upL (ca_l x) (ca_t x) y j
    unfold upL
    by_cases j1 : j = ca_t x
    · rw [if_pos j1, j1]
      exact k4
    · rw [if_neg j1]
      have hj' : j < ca_t x + 1 := hj
      exact (k3 j (by omega)).trans (h5 j (by omega))
  · rcases k5 with k | k
    · rw [k.2.1]
      exact h6.2.2
    · right
      omega
  · intro z a1 a2 a3 a4 a5 a6 a7
    refine (k6 z a4 ?_ (by omega)).trans (h8 z a1 a2 a3 a4 a5 a6 a7)
    rcases h6.2.2 with h | h <;> omega
  · dsimp only
    rcases k5 with k | k <;> omega
  · rcases k5 with k | k <;> omega
  · have := h2.2.2.2.2.1
    rcases k5 with k | k <;> omega
theorem kc_keepName {y : Int64} (e : EOK E) (V : KC E s x) (hs : ca_k x + 2 ≤ 32768) : ∃ s', x_Pars_keepName (d + 3) 132 y s = some (nI (ca_k x), s') ∧ KC E s' (caKeep x (s_Cell_headOf 2 ||| y) 0) := by
  obtain ⟨s', k1, k2⟩ := kc_keep (d := d) (y := s_Cell_headOf 2 ||| y) (z := 0) e V hs
  refine ⟨s', ?_, k2⟩
  unfold x_Pars_keepName
  dsimp only
  rw [kc_gd V, kc_dr V, Option.bind_some, e_Cell_headOf, bnd_some, k1, bnd_some]
end
