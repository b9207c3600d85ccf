/-! the reference's machine: one heap, by a list of its cells -/
abbrev VQ : Type := Int32 × Int32 × Int64 × Int64
/-- kind, size, name, root, function, item, value, code, objects, roots, functions, bytes -/
abbrev RS : Type := (Nat → Int32) × (Nat → Int32) × (Nat → Int64) × (Nat → Int64) × (Nat → Int64) × (Nat → VQ) × (Nat → VQ) × (Nat → Value) × Int32 × Int32 × Int32 × Int32
def HL : List (Nat × am_C) → (Nat → am_C) → Nat → am_C
  | [], f, x => f x
  | (k, c) :: l, f, x => if x = k then c else HL l f x
theorem HL_c {f : Nat → am_C} {k x : Nat} {c : am_C} {l : List (Nat × am_C)} : HL ((k, c) :: l) f x = if x = k then c else HL l f x := rfl
def lup (k : Nat) (v : am_C) : List (Nat × am_C) → List (Nat × am_C)
  | [] => []
  | (j, c) :: l => if j = k then (j, v) :: l else (j, c) :: lup k v l
theorem lup_c {k j : Nat} {v c : am_C} {l : List (Nat × am_C)} : lup k v ((j, c) :: l) = if j = k then (j, v) :: l else (j, c) :: lup k v l := rfl
def lhas (k : Nat) : List (Nat × am_C) → Bool
  | [] => false
  | (j, _) :: l => if j = k then true else lhas k l
theorem lhas_c {k j : Nat} {c : am_C} {l : List (Nat × am_C)} : lhas k ((j, c) :: l) = if j = k then true else lhas k l := rfl
theorem HL_up {f : Nat → am_C} {k : Nat} {v : am_C} : ∀ {l : List (Nat × am_C)}, lhas k l = true → va_up (HL l f) k v = HL (lup k v l) f
  | [], h => absurd h Bool.false_ne_true
  | (j, c) :: l, h => by
    by_cases e : j = k
    · subst e
      rw [lup_c, if_pos rfl]
      funext x
      rw [HL_c]
      by_cases q : x = j
      · rw [if_pos q, q]
        exact va_up_self _ _ _
      · rw [if_neg q, va_up_ne _ _ q, HL_c, if_neg q]
    · rw [lhas_c, if_neg e] at h
      have ih := HL_up (f := f) (v := v) h
      rw [lup_c, if_neg e]
      funext x
      rw [HL_c, ← ih]
      by_cases q : x = k
      · subst q
        rw [va_up_self, va_up_self, if_neg (fun w => e w.symm)]
      · rw [va_up_ne _ _ q, va_up_ne _ _ q, HL_c]
abbrev aInt (N : Nat) (g : Nat → Int32) : am_C := .inl (.int, N, fun j => .int (g j))
abbrev aLong (N : Nat) (g : Nat → Int64) : am_C := .inl (.long, N, fun j => .long (g j))
def vaL (r N : Nat) (q : Nat → VQ) : List (Nat × am_C) := [(r, .inr (11, [.ref (r + 1), .ref (r + 2), .ref (r + 3), .ref (r + 4)])), (r + 1, aInt N fun j => (q j).1), (r + 2, aInt N fun j => (q j).2.1), (r + 3, aLong N fun j => (q j).2.2.1), (r + 4, aLong N fun j => (q j).2.2.2)]
def stL (r : Nat) (R : RS) : List (Nat × am_C) := [(r, .inr (13, [.ref (r + 1), .ref (r + 2), .ref (r + 3), .ref (r + 4), .ref (r + 5), .ref (r + 6), .ref (r + 11), .ref (r + 16), .int R.2.2.2.2.2.2.2.2.1, .int R.2.2.2.2.2.2.2.2.2.1, .int R.2.2.2.2.2.2.2.2.2.2.1, .int R.2.2.2.2.2.2.2.2.2.2.2])), (r + 1, aInt 100 R.1), (r + 2, aInt 100 R.2.1), (r + 3, aLong 800 R.2.2.1), (r + 4, aLong 12 R.2.2.2.1), (r + 5, aLong 10 R.2.2.2.2.1)] ++ vaL (r + 6) 2000 R.2.2.2.2.2.1 ++ vaL (r + 11) 12 R.2.2.2.2.2.2.1 ++ [(r + 16, .inl (.object "StowTongueModel$Code", 10, R.2.2.2.2.2.2.2.1))]
def rF (b : Nat → Value) (om : Int32) (r : Nat) (T P fu u fr pc : Int32) : List Value := [.ref 161, .ref 162, b 2, .int om, b 4, b 5, b 6, b 7, b 8, b 9, b 10, b 11, .ref 163, .ref 170, .ref 171, .ref 172, .ref 173, .ref 174, .ref 175, .ref 176, b 20, .ref 177, b 22, .ref 184, b 24, b 25, .ref 185, b 27, .ref 186, b 29, b 30, .ref r, .ref 221, .ref 238, b 34, b 35, .ref 239, .ref 240, .ref 245, .ref 250, .ref 255, .int T, .int P, .int fu, .int u, .int fr, .int pc, .ref 260, .ref 261, .ref 262, .ref 263, .ref 264, b 52]
def MM (f : Nat → am_C) (b : Nat → Value) (sk pk g0 hk : Nat → VQ) (cu : Nat → Value) (bk bs ob : Nat → Int32) (r : Nat) (R : RS) (om T P fu u fr pc : Int32) : Nat → am_C := HL ([(160, .inr (14, rF b om r T P fu u fr pc)), (162, .inl (.byte, 600, fun j => .int (ob j)))] ++ vaL 240 8000 sk ++ vaL 245 4000 pk ++ vaL 250 1 g0 ++ vaL 255 4 hk ++ [(260, .inl (.object "StowTongueModel$Code", 9, cu)), (261, aInt 9 bk), (262, aInt 9 bs)] ++ stL r R) f
def RD (n r : Nat) : Prop := 1311 ≤ n ∧ (r = 187 ∨ r = 204)
def upQ (q : Nat → VQ) (i : Nat) (v : VQ) : Nat → VQ := fun j => if j = i then v else q j
def VA (s : HS) (r N : Nat) (q : Nat → VQ) : Prop := vR s.2.1 r N (fun j => (q j).1) (fun j => (q j).2.1) (fun j => (q j).2.2.1) (fun j => (q j).2.2.2) ∧ 128 ≤ r ∧ r + 4 < s.1 ∧ N < 2 ^ 31
def vUp (f : Nat → am_C) (r N : Nat) (q : Nat → VQ) : Nat → am_C := va_up (va_up (va_up (va_up f (r + 1) (aInt N fun j => (q j).1)) (r + 2) (aInt N fun j => (q j).2.1)) (r + 3) (aLong N fun j => (q j).2.2.1)) (r + 4) (aLong N fun j => (q j).2.2.2)
section
variable {d r N i : Nat} {q : Nat → VQ} {s : HS}
theorem vUp_of {f f' : Nat → am_C} (V : vR f' r N (fun j => (q j).1) (fun j => (q j).2.1) (fun j => (q j).2.2.1) (fun j => (q j).2.2.2)) (h : ∀ x, x ≤ r ∨ r + 4 < x → f' x = f x) : f' = vUp f r N q := by
  funext x
  unfold vUp
  by_cases e4 : x = r + 4
  · subst e4
    rw [va_up_self]
    exact V.2.2.2.2
  rw [va_up_ne _ _ e4]
  by_cases e3 : x = r + 3
  · subst e3
    rw [va_up_self]
    exact V.2.2.2.1
  rw [va_up_ne _ _ e3]
  by_cases e2 : x = r + 2
  · subst e2
    rw [va_up_self]
    exact V.2.2.1
  rw [va_up_ne _ _ e2]
  by_cases e1 : x = r + 1
  · subst e1
    rw [va_up_self]
    exact V.2.1
  rw [va_up_ne _ _ e1]
  exact h x (by omega)
theorem up1 {v : VQ} : (fun j => (upQ q i v j).1) = upI (fun j => (q j).1) i v.1 := by
  funext j
  unfold upQ upI
  by_cases c : j = i
  · rw [if_pos c, if_pos c]
  · rw [if_neg c, if_neg c]
theorem up2 {v : VQ} : (fun j => (upQ q i v j).2.1) = upI (fun j => (q j).2.1) i v.2.1 := by
  funext j
  unfold upQ upI
  by_cases c : j = i
  · rw [if_pos c, if_pos c]
  · rw [if_neg c, if_neg c]
theorem up3 {v : VQ} : (fun j => (upQ q i v j).2.2.1) = upL (fun j => (q j).2.2.1) i v.2.2.1 := by
  funext j
  unfold upQ upL
  by_cases c : j = i
  · rw [if_pos c, if_pos c]
  · rw [if_neg c, if_neg c]
theorem up4 {v : VQ} : (fun j => (upQ q i v j).2.2.2) = upL (fun j => (q j).2.2.2) i v.2.2.2 := by
  funext j
  unfold upQ upL
  by_cases c : j = i
  · rw [if_pos c, if_pos c]
  · rw [if_neg c, if_neg c]
theorem upI_id {g : Nat → Int32} : upI g i (g i) = g := by
  funext j
  unfold upI
  by_cases c : j = i
  · rw [if_pos c, c]
  · rw [if_neg c]
theorem upL_id {g : Nat → Int64} : upL g i (g i) = g := by
  funext j
  unfold upL
  by_cases c : j = i
  · rw [if_pos c, c]
  · rw [if_neg c]
theorem e_set (V : VA s r N q) (hi : i < N) {x1 x2 : Int32} {y1 y2 : Int64} : x_Vals_set d r (nI i) x1 x2 y1 y2 s = some ((), (s.1, vUp s.2.1 r N (upQ q i (x1, x2, y1, y2)), s.2.2)) := by
  obtain ⟨f', e1, e2, e3⟩ := e_Vset (d := d) (us := s.2.2) V.1 V.2.1 V.2.2.1 V.2.2.2 hi (x1 := x1) (x2 := x2) (y1 := y1) (y2 := y2)
  rw [show s = (s.1, s.2.1, s.2.2) from rfl, e1, ← vUp_of (q := upQ q i (x1, x2, y1, y2)) (by rw [up1, up2, up3, up4]; exact e2) e3]
theorem e_cpy {r2 N2 j : Nat} {q2 : Nat → VQ} (V : VA s r N q) (hi : i < N) (W : VA s r2 N2 q2) (hj : j < N2) : x_Vals_copy (d + 1) r (nI i) r2 (nI j) s = some ((), (s.1, vUp s.2.1 r N (upQ q i (q2 j)), s.2.2)) := by
  obtain ⟨f', e1, e2, e3⟩ := e_Vcopy (d := d) (us := s.2.2) V.1 V.2.1 V.2.2.1 V.2.2.2 hi W.1 W.2.1 W.2.2.1 W.2.2.2 hj
  rw [show s = (s.1, s.2.1, s.2.2) from rfl, e1, ← vUp_of (q := upQ q i (q2 j)) (by rw [up1, up2, up3, up4]; exact e2) e3]
theorem e_sgn (V : VA s r N q) (hi : i < N) {x : Int32} : x_Vals_sign d r (nI i) x s = some (s_Vals_sign (q i).2.2.1 (q i).2.2.2 x, s) := by
  have e := e_Vsign (d := d) (us := s.2.2) V.1 V.2.1 V.2.2.1 V.2.2.2 hi (x := x)
  exact e
theorem e_lik {r2 N2 j : Nat} {q2 : Nat → VQ} (V : VA s r N q) (hi : i < N) (W : VA s r2 N2 q2) (hj : j < N2) : x_Vals_isLike d r (nI i) r2 (nI j) s = some (if (q i).1 = (q2 j).1 ∧ (q i).2.1 = (q2 j).2.1 ∧ (q i).2.2.1 = (q2 j).2.2.1 ∧ (q i).2.2.2 = (q2 j).2.2.2 then 1 else 0, s) := by
  have e := e_Vlike (d := d) (us := s.2.2) V.1 V.2.1 V.2.2.1 V.2.2.2 hi W.1 W.2.1 W.2.2.1 W.2.2.2 hj
  exact e
def vAd (v : VQ) (x : Int32) : VQ := (v.1, v.2.1 + 1, if 8 ≤ v.2.1 then v.2.2.1 else v.2.2.1 ||| vadd x v.2.1, if 8 ≤ v.2.1 then v.2.2.2 ||| vadd x v.2.1 else v.2.2.2)
theorem e_ad (V : VA s r N q) (hi : i < N) {x : Int32} : x_Vals_add d r (nI i) x s = some ((), (s.1, vUp s.2.1 r N (upQ q i (vAd (q i) x)), s.2.2)) := by
  obtain ⟨f', e1, e2, e3⟩ := e_Vadd (d := d) (us := s.2.2) V.1 V.2.1 V.2.2.1 V.2.2.2 hi (x := x)
  rw [show s = (s.1, s.2.1, s.2.2) from rfl, e1, ← vUp_of (q := upQ q i (vAd (q i) x)) ?_ e3]
  rw [up1, up2, up3, up4]
  have h1 : upI (fun j => (q j).1) i (vAd (q i) x).1 = fun j => (q j).1 := upI_id
  have h2 : (vAd (q i) x).2.1 = (q i).2.1 + 1 := rfl
  have h3 : upL (fun j => (q j).2.2.1) i (vAd (q i) x).2.2.1 = if 8 ≤ (q i).2.1 then (fun j => (q j).2.2.1) else upL (fun j => (q j).2.2.1) i ((q i).2.2.1 ||| vadd x (q i).2.1) := by
    unfold vAd
    dsimp only
    by_cases c : 8 ≤ (q i).2.1
    · rw [if_pos c, if_pos c]
      exact upL_id
    · rw [if_neg c, if_neg c]
  have h4 : upL (fun j => (q j).2.2.2) i (vAd (q i) x).2.2.2 = if 8 ≤ (q i).2.1 then upL (fun j => (q j).2.2.2) i ((q i).2.2.2 ||| vadd x (q i).2.1) else (fun j => (q j).2.2.2) := by
    unfold vAd
    dsimp only
    by_cases c : 8 ≤ (q i).2.1
    · rw [if_pos c, if_pos c]
    · rw [if_neg c, if_neg c]
      exact upL_id
  rw [h1, h2, h3, h4]
  exact e2
end
section
variable {n us : Nat} {f : Nat → am_C} {b : Nat → Value} {sk pk g0 hk : Nat → VQ} {cu : Nat → Value} {bk bs ob : Nat → Int32} {r : Nat} {R : RS} {om T P fu u fr pc : Int32}
theorem M160 : MM f b sk pk g0 hk cu bk bs ob r R om T P fu u fr pc 160 = .inr (14, rF b om r T P fu u fr pc) := rfl
theorem M162 : MM f b sk pk g0 hk cu bk bs ob r R om T P fu u fr pc 162 = .inl (.byte, 600, fun j => .int (ob j)) := rfl
theorem M260 : MM f b sk pk g0 hk cu bk bs ob r R om T P fu u fr pc 260 = .inl (.object "StowTongueModel$Code", 9, cu) := rfl
theorem M261 : MM f b sk pk g0 hk cu bk bs ob r R om T P fu u fr pc 261 = aInt 9 bk := rfl
theorem M262 : MM f b sk pk g0 hk cu bk bs ob r R om T P fu u fr pc 262 = aInt 9 bs := rfl
theorem Ms0 (D : RD n r) : MM f b sk pk g0 hk cu bk bs ob r R om T P fu u fr pc r = .inr (13, [.ref (r + 1), .ref (r + 2), .ref (r + 3), .ref (r + 4), .ref (r + 5), .ref (r + 6), .ref (r + 11), .ref (r + 16), .int R.2.2.2.2.2.2.2.2.1, .int R.2.2.2.2.2.2.2.2.2.1, .int R.2.2.2.2.2.2.2.2.2.2.1, .int R.2.2.2.2.2.2.2.2.2.2.2]) := by
  rcases D.2 with e | e <;> (subst e; rfl)
theorem Ms1 (D : RD n r) : MM f b sk pk g0 hk cu bk bs ob r R om T P fu u fr pc (r + 1) = aInt 100 R.1 := by
  rcases D.2 with e | e <;> (subst e; rfl)
theorem Ms2 (D : RD n r) : MM f b sk pk g0 hk cu bk bs ob r R om T P fu u fr pc (r + 2) = aInt 100 R.2.1 := by
  rcases D.2 with e | e <;> (subst e; rfl)
theorem Ms3 (D : RD n r) : MM f b sk pk g0 hk cu bk bs ob r R om T P fu u fr pc (r + 3) = aLong 800 R.2.2.1 := by
  rcases D.2 with e | e <;> (subst e; rfl)
theorem Ms4 (D : RD n r) : MM f b sk pk g0 hk cu bk bs ob r R om T P fu u fr pc (r + 4) = aLong 12 R.2.2.2.1 := by
  rcases D.2 with e | e <;> (subst e; rfl)
theorem Ms5 (D : RD n r) : MM f b sk pk g0 hk cu bk bs ob r R om T P fu u fr pc (r + 5) = aLong 10 R.2.2.2.2.1 := by
  rcases D.2 with e | e <;> (subst e; rfl)
theorem Ms16 (D : RD n r) : MM f b sk pk g0 hk cu bk bs ob r R om T P fu u fr pc (r + 16) = .inl (.object "StowTongueModel$Code", 10, R.2.2.2.2.2.2.2.1) := by
  rcases D.2 with e | e <;> (subst e; rfl)
theorem VA_sk (D : RD n r) : VA (n, MM f b sk pk g0 hk cu bk bs ob r R om T P fu u fr pc, us) 240 8000 sk := ⟨⟨rfl, rfl, rfl, rfl, rfl⟩, by decide, Nat.lt_of_lt_of_le (by decide) D.1, by decide⟩
theorem vu_sk {q : Nat → VQ} : vUp (MM f b sk pk g0 hk cu bk bs ob r R om T P fu u fr pc) 240 8000 q = MM f b q pk g0 hk cu bk bs ob r R om T P fu u fr pc := by
  unfold vUp MM
  rw [HL_up rfl, HL_up rfl, HL_up rfl, HL_up rfl]
  rfl
theorem VA_pk (D : RD n r) : VA (n, MM f b sk pk g0 hk cu bk bs ob r R om T P fu u fr pc, us) 245 4000 pk := ⟨⟨rfl, rfl, rfl, rfl, rfl⟩, by decide, Nat.lt_of_lt_of_le (by decide) D.1, by decide⟩
theorem vu_pk {q : Nat → VQ} : vUp (MM f b sk pk g0 hk cu bk bs ob r R om T P fu u fr pc) 245 4000 q = MM f b sk q g0 hk cu bk bs ob r R om T P fu u fr pc := by
  unfold vUp MM
  rw [HL_up rfl, HL_up rfl, HL_up rfl, HL_up rfl]
  rfl
theorem VA_g0 (D : RD n r) : VA (n, MM f b sk pk g0 hk cu bk bs ob r R om T P fu u fr pc, us) 250 1 g0 := ⟨⟨rfl, rfl, rfl, rfl, rfl⟩, by decide, Nat.lt_of_lt_of_le (by decide) D.1, by decide⟩
theorem vu_g0 {q : Nat → VQ} : vUp (MM f b sk pk g0 hk cu bk bs ob r R om T P fu u fr pc) 250 1 q = MM f b sk pk q hk cu bk bs ob r R om T P fu u fr pc := by
  unfold vUp MM
  rw [HL_up rfl, HL_up rfl, HL_up rfl, HL_up rfl]
  rfl
theorem VA_hk (D : RD n r) : VA (n, MM f b sk pk g0 hk cu bk bs ob r R om T P fu u fr pc, us) 255 4 hk := ⟨⟨rfl, rfl, rfl, rfl, rfl⟩, by decide, Nat.lt_of_lt_of_le (by decide) D.1, by decide⟩
theorem vu_hk {q : Nat → VQ} : vUp (MM f b sk pk g0 hk cu bk bs ob r R om T P fu u fr pc) 255 4 q = MM f b sk pk g0 q cu bk bs ob r R om T P fu u fr pc := by
  unfold vUp MM
  rw [HL_up rfl, HL_up rfl, HL_up rfl, HL_up rfl]
  rfl
theorem VA_it (D : RD n r) : VA (n, MM f b sk pk g0 hk cu bk bs ob r R om T P fu u fr pc, us) (r + 6) 2000 R.2.2.2.2.2.1 := by
  have h := D.1
  rcases D.2 with e | e <;> (subst e; exact ⟨⟨rfl, rfl, rfl, rfl, rfl⟩, by decide, Nat.lt_of_lt_of_le (by decide) h, by decide⟩)
theorem vu_it (D : RD n r) {q : Nat → VQ} : vUp (MM f b sk pk g0 hk cu bk bs ob r R om T P fu u fr pc) (r + 6) 2000 q = MM f b sk pk g0 hk cu bk bs ob r (R.1, R.2.1, R.2.2.1, R.2.2.2.1, R.2.2.2.2.1, q, R.2.2.2.2.2.2.1, R.2.2.2.2.2.2.2.1, R.2.2.2.2.2.2.2.2.1, R.2.2.2.2.2.2.2.2.2.1, R.2.2.2.2.2.2.2.2.2.2.1, R.2.2.2.2.2.2.2.2.2.2.2) om T P fu u fr pc := by
  unfold vUp MM
  rcases D.2 with e | e <;> (subst e; rw [HL_up rfl, HL_up rfl, HL_up rfl, HL_up rfl]; rfl)
theorem VA_vl (D : RD n r) : VA (n, MM f b sk pk g0 hk cu bk bs ob r R om T P fu u fr pc, us) (r + 11) 12 R.2.2.2.2.2.2.1 := by
  have h := D.1
  rcases D.2 with e | e <;> (subst e; exact ⟨⟨rfl, rfl, rfl, rfl, rfl⟩, by decide, Nat.lt_of_lt_of_le (by decide) h, by decide⟩)
theorem vu_vl (D : RD n r) {q : Nat → VQ} : vUp (MM f b sk pk g0 hk cu bk bs ob r R om T P fu u fr pc) (r + 11) 12 q = MM f b sk pk g0 hk cu bk bs ob r (R.1, R.2.1, R.2.2.1, R.2.2.2.1, R.2.2.2.2.1, R.2.2.2.2.2.1, q, R.2.2.2.2.2.2.2.1, R.2.2.2.2.2.2.2.2.1, R.2.2.2.2.2.2.2.2.2.1, R.2.2.2.2.2.2.2.2.2.2.1, R.2.2.2.2.2.2.2.2.2.2.2) om T P fu u fr pc := by
  unfold vUp MM
  rcases D.2 with e | e <;> (subst e; rw [HL_up rfl, HL_up rfl, HL_up rfl, HL_up rfl]; rfl)
theorem r_gd {β : Type} {x : Option β} (D : RD n r) : gd (n, MM f b sk pk g0 hk cu bk bs ob r R om T P fu u fr pc, us) 160 14 x = x := gd_of (s := (n, MM f b sk pk g0 hk cu bk bs ob r R om T P fu u fr pc, us)) (M160 (f := f) (b := b) (sk := sk) (pk := pk) (g0 := g0) (hk := hk) (cu := cu) (bk := bk) (bs := bs) (ob := ob) (r := r) (R := R) (om := om) (T := T) (P := P) (fu := fu) (u := u) (fr := fr) (pc := pc)) (by decide) (Nat.lt_of_lt_of_le (by decide) D.1)
theorem r_g3 (D : RD n r) : gI (n, MM f b sk pk g0 hk cu bk bs ob r R om T P fu u fr pc, us) 160 14 3 = some om := gI_of (s := (n, MM f b sk pk g0 hk cu bk bs ob r R om T P fu u fr pc, us)) (M160 (f := f) (b := b) (sk := sk) (pk := pk) (g0 := g0) (hk := hk) (cu := cu) (bk := bk) (bs := bs) (ob := ob) (r := r) (R := R) (om := om) (T := T) (P := P) (fu := fu) (u := u) (fr := fr) (pc := pc)) (by decide) (Nat.lt_of_lt_of_le (by decide) D.1) rfl
theorem r_p3 (D : RD n r) {x : Int32} : pV (n, MM f b sk pk g0 hk cu bk bs ob r R om T P fu u fr pc, us) 160 14 3 (.int x) = some (n, MM f b sk pk g0 hk cu bk bs ob r R x T P fu u fr pc, us) := by
  rw [pV_of (s := (n, MM f b sk pk g0 hk cu bk bs ob r R om T P fu u fr pc, us)) (M160 (f := f) (b := b) (sk := sk) (pk := pk) (g0 := g0) (hk := hk) (cu := cu) (bk := bk) (bs := bs) (ob := ob) (r := r) (R := R) (om := om) (T := T) (P := P) (fu := fu) (u := u) (fr := fr) (pc := pc)) (by decide) (Nat.lt_of_lt_of_le (by decide) D.1) (Nat.le_of_ble_eq_true rfl)]
  refine congrArg (fun F => some (n, F, us)) ?_
  unfold MM
  exact HL_up rfl
theorem r_g41 (D : RD n r) : gI (n, MM f b sk pk g0 hk cu bk bs ob r R om T P fu u fr pc, us) 160 14 41 = some T := gI_of (s := (n, MM f b sk pk g0 hk cu bk bs ob r R om T P fu u fr pc, us)) (M160 (f := f) (b := b) (sk := sk) (pk := pk) (g0 := g0) (hk := hk) (cu := cu) (bk := bk) (bs := bs) (ob := ob) (r := r) (R := R) (om := om) (T := T) (P := P) (fu := fu) (u := u) (fr := fr) (pc := pc)) (by decide) (Nat.lt_of_lt_of_le (by decide) D.1) rfl
theorem r_p41 (D : RD n r) {x : Int32} : pV (n, MM f b sk pk g0 hk cu bk bs ob r R om T P fu u fr pc, us) 160 14 41 (.int x) = some (n, MM f b sk pk g0 hk cu bk bs ob r R om x P fu u fr pc, us) := by
  rw [pV_of (s := (n, MM f b sk pk g0 hk cu bk bs ob r R om T P fu u fr pc, us)) (M160 (f := f) (b := b) (sk := sk) (pk := pk) (g0 := g0) (hk := hk) (cu := cu) (bk := bk) (bs := bs) (ob := ob) (r := r) (R := R) (om := om) (T := T) (P := P) (fu := fu) (u := u) (fr := fr) (pc := pc)) (by decide) (Nat.lt_of_lt_of_le (by decide) D.1) (Nat.le_of_ble_eq_true rfl)]
  refine congrArg (fun F => some (n, F, us)) ?_
  unfold MM
  exact HL_up rfl
theorem r_g42 (D : RD n r) : gI (n, MM f b sk pk g0 hk cu bk bs ob r R om T P fu u fr pc, us) 160 14 42 = some P := gI_of (s := (n, MM f b sk pk g0 hk cu bk bs ob r R om T P fu u fr pc, us)) (M160 (f := f) (b := b) (sk := sk) (pk := pk) (g0 := g0) (hk := hk) (cu := cu) (bk := bk) (bs := bs) (ob := ob) (r := r) (R := R) (om := om) (T := T) (P := P) (fu := fu) (u := u) (fr := fr) (pc := pc)) (by decide) (Nat.lt_of_lt_of_le (by decide) D.1) rfl
theorem r_p42 (D : RD n r) {x : Int32} : pV (n, MM f b sk pk g0 hk cu bk bs ob r R om T P fu u fr pc, us) 160 14 42 (.int x) = some (n, MM f b sk pk g0 hk cu bk bs ob r R om T x fu u fr pc, us) := by
  rw [pV_of (s := (n, MM f b sk pk g0 hk cu bk bs ob r R om T P fu u fr pc, us)) (M160 (f := f) (b := b) (sk := sk) (pk := pk) (g0 := g0) (hk := hk) (cu := cu) (bk := bk) (bs := bs) (ob := ob) (r := r) (R := R) (om := om) (T := T) (P := P) (fu := fu) (u := u) (fr := fr) (pc := pc)) (by decide) (Nat.lt_of_lt_of_le (by decide) D.1) (Nat.le_of_ble_eq_true rfl)]
  refine congrArg (fun F => some (n, F, us)) ?_
  unfold MM
  exact HL_up rfl
theorem r_g43 (D : RD n r) : gI (n, MM f b sk pk g0 hk cu bk bs ob r R om T P fu u fr pc, us) 160 14 43 = some fu := gI_of (s := (n, MM f b sk pk g0 hk cu bk bs ob r R om T P fu u fr pc, us)) (M160 (f := f) (b := b) (sk := sk) (pk := pk) (g0 := g0) (hk := hk) (cu := cu) (bk := bk) (bs := bs) (ob := ob) (r := r) (R := R) (om := om) (T := T) (P := P) (fu := fu) (u := u) (fr := fr) (pc := pc)) (by decide) (Nat.lt_of_lt_of_le (by decide) D.1) rfl
theorem r_g44 (D : RD n r) : gI (n, MM f b sk pk g0 hk cu bk bs ob r R om T P fu u fr pc, us) 160 14 44 = some u := gI_of (s := (n, MM f b sk pk g0 hk cu bk bs ob r R om T P fu u fr pc, us)) (M160 (f := f) (b := b) (sk := sk) (pk := pk) (g0 := g0) (hk := hk) (cu := cu) (bk := bk) (bs := bs) (ob := ob) (r := r) (R := R) (om := om) (T := T) (P := P) (fu := fu) (u := u) (fr := fr) (pc := pc)) (by decide) (Nat.lt_of_lt_of_le (by decide) D.1) rfl
theorem r_p44 (D : RD n r) {x : Int32} : pV (n, MM f b sk pk g0 hk cu bk bs ob r R om T P fu u fr pc, us) 160 14 44 (.int x) = some (n, MM f b sk pk g0 hk cu bk bs ob r R om T P fu x fr pc, us) := by
  rw [pV_of (s := (n, MM f b sk pk g0 hk cu bk bs ob r R om T P fu u fr pc, us)) (M160 (f := f) (b := b) (sk := sk) (pk := pk) (g0 := g0) (hk := hk) (cu := cu) (bk := bk) (bs := bs) (ob := ob) (r := r) (R := R) (om := om) (T := T) (P := P) (fu := fu) (u := u) (fr := fr) (pc := pc)) (by decide) (Nat.lt_of_lt_of_le (by decide) D.1) (Nat.le_of_ble_eq_true rfl)]
  refine congrArg (fun F => some (n, F, us)) ?_
  unfold MM
  exact HL_up rfl
theorem r_g45 (D : RD n r) : gI (n, MM f b sk pk g0 hk cu bk bs ob r R om T P fu u fr pc, us) 160 14 45 = some fr := gI_of (s := (n, MM f b sk pk g0 hk cu bk bs ob r R om T P fu u fr pc, us)) (M160 (f := f) (b := b) (sk := sk) (pk := pk) (g0 := g0) (hk := hk) (cu := cu) (bk := bk) (bs := bs) (ob := ob) (r := r) (R := R) (om := om) (T := T) (P := P) (fu := fu) (u := u) (fr := fr) (pc := pc)) (by decide) (Nat.lt_of_lt_of_le (by decide) D.1) rfl
theorem r_p45 (D : RD n r) {x : Int32} : pV (n, MM f b sk pk g0 hk cu bk bs ob r R om T P fu u fr pc, us) 160 14 45 (.int x) = some (n, MM f b sk pk g0 hk cu bk bs ob r R om T P fu u x pc, us) := by
  rw [pV_of (s := (n, MM f b sk pk g0 hk cu bk bs ob r R om T P fu u fr pc, us)) (M160 (f := f) (b := b) (sk := sk) (pk := pk) (g0 := g0) (hk := hk) (cu := cu) (bk := bk) (bs := bs) (ob := ob) (r := r) (R := R) (om := om) (T := T) (P := P) (fu := fu) (u := u) (fr := fr) (pc := pc)) (by decide) (Nat.lt_of_lt_of_le (by decide) D.1) (Nat.le_of_ble_eq_true rfl)]
  refine congrArg (fun F => some (n, F, us)) ?_
  unfold MM
  exact HL_up rfl
theorem r_g46 (D : RD n r) : gI (n, MM f b sk pk g0 hk cu bk bs ob r R om T P fu u fr pc, us) 160 14 46 = some pc := gI_of (s := (n, MM f b sk pk g0 hk cu bk bs ob r R om T P fu u fr pc, us)) (M160 (f := f) (b := b) (sk := sk) (pk := pk) (g0 := g0) (hk := hk) (cu := cu) (bk := bk) (bs := bs) (ob := ob) (r := r) (R := R) (om := om) (T := T) (P := P) (fu := fu) (u := u) (fr := fr) (pc := pc)) (by decide) (Nat.lt_of_lt_of_le (by decide) D.1) rfl
theorem r_p46 (D : RD n r) {x : Int32} : pV (n, MM f b sk pk g0 hk cu bk bs ob r R om T P fu u fr pc, us) 160 14 46 (.int x) = some (n, MM f b sk pk g0 hk cu bk bs ob r R om T P fu u fr x, us) := by
  rw [pV_of (s := (n, MM f b sk pk g0 hk cu bk bs ob r R om T P fu u fr pc, us)) (M160 (f := f) (b := b) (sk := sk) (pk := pk) (g0 := g0) (hk := hk) (cu := cu) (bk := bk) (bs := bs) (ob := ob) (r := r) (R := R) (om := om) (T := T) (P := P) (fu := fu) (u := u) (fr := fr) (pc := pc)) (by decide) (Nat.lt_of_lt_of_le (by decide) D.1) (Nat.le_of_ble_eq_true rfl)]
  refine congrArg (fun F => some (n, F, us)) ?_
  unfold MM
  exact HL_up rfl
theorem r_g1 (D : RD n r) : gR (n, MM f b sk pk g0 hk cu bk bs ob r R om T P fu u fr pc, us) 160 14 1 = some 162 := gR_of (s := (n, MM f b sk pk g0 hk cu bk bs ob r R om T P fu u fr pc, us)) (M160 (f := f) (b := b) (sk := sk) (pk := pk) (g0 := g0) (hk := hk) (cu := cu) (bk := bk) (bs := bs) (ob := ob) (r := r) (R := R) (om := om) (T := T) (P := P) (fu := fu) (u := u) (fr := fr) (pc := pc)) (by decide) (Nat.lt_of_lt_of_le (by decide) D.1) rfl
theorem r_g12 (D : RD n r) : gR (n, MM f b sk pk g0 hk cu bk bs ob r R om T P fu u fr pc, us) 160 14 12 = some 163 := gR_of (s := (n, MM f b sk pk g0 hk cu bk bs ob r R om T P fu u fr pc, us)) (M160 (f := f) (b := b) (sk := sk) (pk := pk) (g0 := g0) (hk := hk) (cu := cu) (bk := bk) (bs := bs) (ob := ob) (r := r) (R := R) (om := om) (T := T) (P := P) (fu := fu) (u := u) (fr := fr) (pc := pc)) (by decide) (Nat.lt_of_lt_of_le (by decide) D.1) rfl
theorem r_g31 (D : RD n r) : gR (n, MM f b sk pk g0 hk cu bk bs ob r R om T P fu u fr pc, us) 160 14 31 = some r := gR_of (s := (n, MM f b sk pk g0 hk cu bk bs ob r R om T P fu u fr pc, us)) (M160 (f := f) (b := b) (sk := sk) (pk := pk) (g0 := g0) (hk := hk) (cu := cu) (bk := bk) (bs := bs) (ob := ob) (r := r) (R := R) (om := om) (T := T) (P := P) (fu := fu) (u := u) (fr := fr) (pc := pc)) (by decide) (Nat.lt_of_lt_of_le (by decide) D.1) rfl
theorem r_g37 (D : RD n r) : gR (n, MM f b sk pk g0 hk cu bk bs ob r R om T P fu u fr pc, us) 160 14 37 = some 240 := gR_of (s := (n, MM f b sk pk g0 hk cu bk bs ob r R om T P fu u fr pc, us)) (M160 (f := f) (b := b) (sk := sk) (pk := pk) (g0 := g0) (hk := hk) (cu := cu) (bk := bk) (bs := bs) (ob := ob) (r := r) (R := R) (om := om) (T := T) (P := P) (fu := fu) (u := u) (fr := fr) (pc := pc)) (by decide) (Nat.lt_of_lt_of_le (by decide) D.1) rfl
theorem r_g38 (D : RD n r) : gR (n, MM f b sk pk g0 hk cu bk bs ob r R om T P fu u fr pc, us) 160 14 38 = some 245 := gR_of (s := (n, MM f b sk pk g0 hk cu bk bs ob r R om T P fu u fr pc, us)) (M160 (f := f) (b := b) (sk := sk) (pk := pk) (g0 := g0) (hk := hk) (cu := cu) (bk := bk) (bs := bs) (ob := ob) (r := r) (R := R) (om := om) (T := T) (P := P) (fu := fu) (u := u) (fr := fr) (pc := pc)) (by decide) (Nat.lt_of_lt_of_le (by decide) D.1) rfl
theorem r_g39 (D : RD n r) : gR (n, MM f b sk pk g0 hk cu bk bs ob r R om T P fu u fr pc, us) 160 14 39 = some 250 := gR_of (s := (n, MM f b sk pk g0 hk cu bk bs ob r R om T P fu u fr pc, us)) (M160 (f := f) (b := b) (sk := sk) (pk := pk) (g0 := g0) (hk := hk) (cu := cu) (bk := bk) (bs := bs) (ob := ob) (r := r) (R := R) (om := om) (T := T) (P := P) (fu := fu) (u := u) (fr := fr) (pc := pc)) (by decide) (Nat.lt_of_lt_of_le (by decide) D.1) rfl
theorem r_g40 (D : RD n r) : gR (n, MM f b sk pk g0 hk cu bk bs ob r R om T P fu u fr pc, us) 160 14 40 = some 255 := gR_of (s := (n, MM f b sk pk g0 hk cu bk bs ob r R om T P fu u fr pc, us)) (M160 (f := f) (b := b) (sk := sk) (pk := pk) (g0 := g0) (hk := hk) (cu := cu) (bk := bk) (bs := bs) (ob := ob) (r := r) (R := R) (om := om) (T := T) (P := P) (fu := fu) (u := u) (fr := fr) (pc := pc)) (by decide) (Nat.lt_of_lt_of_le (by decide) D.1) rfl
theorem r_g47 (D : RD n r) : gR (n, MM f b sk pk g0 hk cu bk bs ob r R om T P fu u fr pc, us) 160 14 47 = some 260 := gR_of (s := (n, MM f b sk pk g0 hk cu bk bs ob r R om T P fu u fr pc, us)) (M160 (f := f) (b := b) (sk := sk) (pk := pk) (g0 := g0) (hk := hk) (cu := cu) (bk := bk) (bs := bs) (ob := ob) (r := r) (R := R) (om := om) (T := T) (P := P) (fu := fu) (u := u) (fr := fr) (pc := pc)) (by decide) (Nat.lt_of_lt_of_le (by decide) D.1) rfl
theorem r_g48 (D : RD n r) : gR (n, MM f b sk pk g0 hk cu bk bs ob r R om T P fu u fr pc, us) 160 14 48 = some 261 := gR_of (s := (n, MM f b sk pk g0 hk cu bk bs ob r R om T P fu u fr pc, us)) (M160 (f := f) (b := b) (sk := sk) (pk := pk) (g0 := g0) (hk := hk) (cu := cu) (bk := bk) (bs := bs) (ob := ob) (r := r) (R := R) (om := om) (T := T) (P := P) (fu := fu) (u := u) (fr := fr) (pc := pc)) (by decide) (Nat.lt_of_lt_of_le (by decide) D.1) rfl
theorem r_g49 (D : RD n r) : gR (n, MM f b sk pk g0 hk cu bk bs ob r R om T P fu u fr pc, us) 160 14 49 = some 262 := gR_of (s := (n, MM f b sk pk g0 hk cu bk bs ob r R om T P fu u fr pc, us)) (M160 (f := f) (b := b) (sk := sk) (pk := pk) (g0 := g0) (hk := hk) (cu := cu) (bk := bk) (bs := bs) (ob := ob) (r := r) (R := R) (om := om) (T := T) (P := P) (fu := fu) (u := u) (fr := fr) (pc := pc)) (by decide) (Nat.lt_of_lt_of_le (by decide) D.1) rfl
theorem r_sk0 (D : RD n r) : gR (n, MM f b sk pk g0 hk cu bk bs ob r R om T P fu u fr pc, us) 240 11 0 = some 241 := gR_of (s := (n, MM f b sk pk g0 hk cu bk bs ob r R om T P fu u fr pc, us)) (VA_sk (us := us) (f := f) (b := b) (sk := sk) (pk := pk) (g0 := g0) (hk := hk) (cu := cu) (bk := bk) (bs := bs) (ob := ob) (r := r) (R := R) (om := om) (T := T) (P := P) (fu := fu) (u := u) (fr := fr) (pc := pc) D).1.1 (by decide) (Nat.lt_of_lt_of_le (by decide) D.1) rfl
theorem r_sk1 (D : RD n r) : gR (n, MM f b sk pk g0 hk cu bk bs ob r R om T P fu u fr pc, us) 240 11 1 = some 242 := gR_of (s := (n, MM f b sk pk g0 hk cu bk bs ob r R om T P fu u fr pc, us)) (VA_sk (us := us) (f := f) (b := b) (sk := sk) (pk := pk) (g0 := g0) (hk := hk) (cu := cu) (bk := bk) (bs := bs) (ob := ob) (r := r) (R := R) (om := om) (T := T) (P := P) (fu := fu) (u := u) (fr := fr) (pc := pc) D).1.1 (by decide) (Nat.lt_of_lt_of_le (by decide) D.1) rfl
theorem r_sk2 (D : RD n r) : gR (n, MM f b sk pk g0 hk cu bk bs ob r R om T P fu u fr pc, us) 240 11 2 = some 243 := gR_of (s := (n, MM f b sk pk g0 hk cu bk bs ob r R om T P fu u fr pc, us)) (VA_sk (us := us) (f := f) (b := b) (sk := sk) (pk := pk) (g0 := g0) (hk := hk) (cu := cu) (bk := bk) (bs := bs) (ob := ob) (r := r) (R := R) (om := om) (T := T) (P := P) (fu := fu) (u := u) (fr := fr) (pc := pc) D).1.1 (by decide) (Nat.lt_of_lt_of_le (by decide) D.1) rfl
theorem r_sk3 (D : RD n r) : gR (n, MM f b sk pk g0 hk cu bk bs ob r R om T P fu u fr pc, us) 240 11 3 = some 244 := gR_of (s := (n, MM f b sk pk g0 hk cu bk bs ob r R om T P fu u fr pc, us)) (VA_sk (us := us) (f := f) (b := b) (sk := sk) (pk := pk) (g0 := g0) (hk := hk) (cu := cu) (bk := bk) (bs := bs) (ob := ob) (r := r) (R := R) (om := om) (T := T) (P := P) (fu := fu) (u := u) (fr := fr) (pc := pc) D).1.1 (by decide) (Nat.lt_of_lt_of_le (by decide) D.1) rfl
theorem r_pk0 (D : RD n r) : gR (n, MM f b sk pk g0 hk cu bk bs ob r R om T P fu u fr pc, us) 245 11 0 = some 246 := gR_of (s := (n, MM f b sk pk g0 hk cu bk bs ob r R om T P fu u fr pc, us)) (VA_pk (us := us) (f := f) (b := b) (sk := sk) (pk := pk) (g0 := g0) (hk := hk) (cu := cu) (bk := bk) (bs := bs) (ob := ob) (r := r) (R := R) (om := om) (T := T) (P := P) (fu := fu) (u := u) (fr := fr) (pc := pc) D).1.1 (by decide) (Nat.lt_of_lt_of_le (by decide) D.1) rfl
theorem r_pk1 (D : RD n r) : gR (n, MM f b sk pk g0 hk cu bk bs ob r R om T P fu u fr pc, us) 245 11 1 = some 247 := gR_of (s := (n, MM f b sk pk g0 hk cu bk bs ob r R om T P fu u fr pc, us)) (VA_pk (us := us) (f := f) (b := b) (sk := sk) (pk := pk) (g0 := g0) (hk := hk) (cu := cu) (bk := bk) (bs := bs) (ob := ob) (r := r) (R := R) (om := om) (T := T) (P := P) (fu := fu) (u := u) (fr := fr) (pc := pc) D).1.1 (by decide) (Nat.lt_of_lt_of_le (by decide) D.1) rfl
theorem r_pk2 (D : RD n r) : gR (n, MM f b sk pk g0 hk cu bk bs ob r R om T P fu u fr pc, us) 245 11 2 = some 248 := gR_of (s := (n, MM f b sk pk g0 hk cu bk bs ob r R om T P fu u fr pc, us)) (VA_pk (us := us) (f := f) (b := b) (sk := sk) (pk := pk) (g0 := g0) (hk := hk) (cu := cu) (bk := bk) (bs := bs) (ob := ob) (r := r) (R := R) (om := om) (T := T) (P := P) (fu := fu) (u := u) (fr := fr) (pc := pc) D).1.1 (by decide) (Nat.lt_of_lt_of_le (by decide) D.1) rfl
theorem r_pk3 (D : RD n r) : gR (n, MM f b sk pk g0 hk cu bk bs ob r R om T P fu u fr pc, us) 245 11 3 = some 249 := gR_of (s := (n, MM f b sk pk g0 hk cu bk bs ob r R om T P fu u fr pc, us)) (VA_pk (us := us) (f := f) (b := b) (sk := sk) (pk := pk) (g0 := g0) (hk := hk) (cu := cu) (bk := bk) (bs := bs) (ob := ob) (r := r) (R := R) (om := om) (T := T) (P := P) (fu := fu) (u := u) (fr := fr) (pc := pc) D).1.1 (by decide) (Nat.lt_of_lt_of_le (by decide) D.1) rfl
theorem r_g00 (D : RD n r) : gR (n, MM f b sk pk g0 hk cu bk bs ob r R om T P fu u fr pc, us) 250 11 0 = some 251 := gR_of (s := (n, MM f b sk pk g0 hk cu bk bs ob r R om T P fu u fr pc, us)) (VA_g0 (us := us) (f := f) (b := b) (sk := sk) (pk := pk) (g0 := g0) (hk := hk) (cu := cu) (bk := bk) (bs := bs) (ob := ob) (r := r) (R := R) (om := om) (T := T) (P := P) (fu := fu) (u := u) (fr := fr) (pc := pc) D).1.1 (by decide) (Nat.lt_of_lt_of_le (by decide) D.1) rfl
theorem r_g01 (D : RD n r) : gR (n, MM f b sk pk g0 hk cu bk bs ob r R om T P fu u fr pc, us) 250 11 1 = some 252 := gR_of (s := (n, MM f b sk pk g0 hk cu bk bs ob r R om T P fu u fr pc, us)) (VA_g0 (us := us) (f := f) (b := b) (sk := sk) (pk := pk) (g0 := g0) (hk := hk) (cu := cu) (bk := bk) (bs := bs) (ob := ob) (r := r) (R := R) (om := om) (T := T) (P := P) (fu := fu) (u := u) (fr := fr) (pc := pc) D).1.1 (by decide) (Nat.lt_of_lt_of_le (by decide) D.1) rfl
theorem r_g02 (D : RD n r) : gR (n, MM f b sk pk g0 hk cu bk bs ob r R om T P fu u fr pc, us) 250 11 2 = some 253 := gR_of (s := (n, MM f b sk pk g0 hk cu bk bs ob r R om T P fu u fr pc, us)) (VA_g0 (us := us) (f := f) (b := b) (sk := sk) (pk := pk) (g0 := g0) (hk := hk) (cu := cu) (bk := bk) (bs := bs) (ob := ob) (r := r) (R := R) (om := om) (T := T) (P := P) (fu := fu) (u := u) (fr := fr) (pc := pc) D).1.1 (by decide) (Nat.lt_of_lt_of_le (by decide) D.1) rfl
theorem r_g03 (D : RD n r) : gR (n, MM f b sk pk g0 hk cu bk bs ob r R om T P fu u fr pc, us) 250 11 3 = some 254 := gR_of (s := (n, MM f b sk pk g0 hk cu bk bs ob r R om T P fu u fr pc, us)) (VA_g0 (us := us) (f := f) (b := b) (sk := sk) (pk := pk) (g0 := g0) (hk := hk) (cu := cu) (bk := bk) (bs := bs) (ob := ob) (r := r) (R := R) (om := om) (T := T) (P := P) (fu := fu) (u := u) (fr := fr) (pc := pc) D).1.1 (by decide) (Nat.lt_of_lt_of_le (by decide) D.1) rfl
theorem r_hk0 (D : RD n r) : gR (n, MM f b sk pk g0 hk cu bk bs ob r R om T P fu u fr pc, us) 255 11 0 = some 256 := gR_of (s := (n, MM f b sk pk g0 hk cu bk bs ob r R om T P fu u fr pc, us)) (VA_hk (us := us) (f := f) (b := b) (sk := sk) (pk := pk) (g0 := g0) (hk := hk) (cu := cu) (bk := bk) (bs := bs) (ob := ob) (r := r) (R := R) (om := om) (T := T) (P := P) (fu := fu) (u := u) (fr := fr) (pc := pc) D).1.1 (by decide) (Nat.lt_of_lt_of_le (by decide) D.1) rfl
theorem r_hk1 (D : RD n r) : gR (n, MM f b sk pk g0 hk cu bk bs ob r R om T P fu u fr pc, us) 255 11 1 = some 257 := gR_of (s := (n, MM f b sk pk g0 hk cu bk bs ob r R om T P fu u fr pc, us)) (VA_hk (us := us) (f := f) (b := b) (sk := sk) (pk := pk) (g0 := g0) (hk := hk) (cu := cu) (bk := bk) (bs := bs) (ob := ob) (r := r) (R := R) (om := om) (T := T) (P := P) (fu := fu) (u := u) (fr := fr) (pc := pc) D).1.1 (by decide) (Nat.lt_of_lt_of_le (by decide) D.1) rfl
theorem r_hk2 (D : RD n r) : gR (n, MM f b sk pk g0 hk cu bk bs ob r R om T P fu u fr pc, us) 255 11 2 = some 258 := gR_of (s := (n, MM f b sk pk g0 hk cu bk bs ob r R om T P fu u fr pc, us)) (VA_hk (us := us) (f := f) (b := b) (sk := sk) (pk := pk) (g0 := g0) (hk := hk) (cu := cu) (bk := bk) (bs := bs) (ob := ob) (r := r) (R := R) (om := om) (T := T) (P := P) (fu := fu) (u := u) (fr := fr) (pc := pc) D).1.1 (by decide) (Nat.lt_of_lt_of_le (by decide) D.1) rfl
theorem r_hk3 (D : RD n r) : gR (n, MM f b sk pk g0 hk cu bk bs ob r R om T P fu u fr pc, us) 255 11 3 = some 259 := gR_of (s := (n, MM f b sk pk g0 hk cu bk bs ob r R om T P fu u fr pc, us)) (VA_hk (us := us) (f := f) (b := b) (sk := sk) (pk := pk) (g0 := g0) (hk := hk) (cu := cu) (bk := bk) (bs := bs) (ob := ob) (r := r) (R := R) (om := om) (T := T) (P := P) (fu := fu) (u := u) (fr := fr) (pc := pc) D).1.1 (by decide) (Nat.lt_of_lt_of_le (by decide) D.1) rfl
theorem r_it0 (D : RD n r) : gR (n, MM f b sk pk g0 hk cu bk bs ob r R om T P fu u fr pc, us) (r + 6) 11 0 = some (r + 7) := gR_of (s := (n, MM f b sk pk g0 hk cu bk bs ob r R om T P fu u fr pc, us)) (VA_it (us := us) (f := f) (b := b) (sk := sk) (pk := pk) (g0 := g0) (hk := hk) (cu := cu) (bk := bk) (bs := bs) (ob := ob) (r := r) (R := R) (om := om) (T := T) (P := P) (fu := fu) (u := u) (fr := fr) (pc := pc) D).1.1 (VA_it (us := us) (f := f) (b := b) (sk := sk) (pk := pk) (g0 := g0) (hk := hk) (cu := cu) (bk := bk) (bs := bs) (ob := ob) (r := r) (R := R) (om := om) (T := T) (P := P) (fu := fu) (u := u) (fr := fr) (pc := pc) D).2.1 (Nat.lt_of_le_of_lt (Nat.le_add_right _ 4) (VA_it (us := us) (f := f) (b := b) (sk := sk) (pk := pk) (g0 := g0) (hk := hk) (cu := cu) (bk := bk) (bs := bs) (ob := ob) (r := r) (R := R) (om := om) (T := T) (P := P) (fu := fu) (u := u) (fr := fr) (pc := pc) D).2.2.1) rfl
theorem r_it1 (D : RD n r) : gR (n, MM f b sk pk g0 hk cu bk bs ob r R om T P fu u fr pc, us) (r + 6) 11 1 = some (r + 8) := gR_of (s := (n, MM f b sk pk g0 hk cu bk bs ob r R om T P fu u fr pc, us)) (VA_it (us := us) (f := f) (b := b) (sk := sk) (pk := pk) (g0 := g0) (hk := hk) (cu := cu) (bk := bk) (bs := bs) (ob := ob) (r := r) (R := R) (om := om) (T := T) (P := P) (fu := fu) (u := u) (fr := fr) (pc := pc) D).1.1 (VA_it (us := us) (f := f) (b := b) (sk := sk) (pk := pk) (g0 := g0) (hk := hk) (cu := cu) (bk := bk) (bs := bs) (ob := ob) (r := r) (R := R) (om := om) (T := T) (P := P) (fu := fu) (u := u) (fr := fr) (pc := pc) D).2.1 (Nat.lt_of_le_of_lt (Nat.le_add_right _ 4) (VA_it (us := us) (f := f) (b := b) (sk := sk) (pk := pk) (g0 := g0) (hk := hk) (cu := cu) (bk := bk) (bs := bs) (ob := ob) (r := r) (R := R) (om := om) (T := T) (P := P) (fu := fu) (u := u) (fr := fr) (pc := pc) D).2.2.1) rfl
theorem r_it2 (D : RD n r) : gR (n, MM f b sk pk g0 hk cu bk bs ob r R om T P fu u fr pc, us) (r + 6) 11 2 = some (r + 9) := gR_of (s := (n, MM f b sk pk g0 hk cu bk bs ob r R om T P fu u fr pc, us)) (VA_it (us := us) (f := f) (b := b) (sk := sk) (pk := pk) (g0 := g0) (hk := hk) (cu := cu) (bk := bk) (bs := bs) (ob := ob) (r := r) (R := R) (om := om) (T := T) (P := P) (fu := fu) (u := u) (fr := fr) (pc := pc) D).1.1 (VA_it (us := us) (f := f) (b := b) (sk := sk) (pk := pk) (g0 := g0) (hk := hk) (cu := cu) (bk := bk) (bs := bs) (ob := ob) (r := r) (R := R) (om := om) (T := T) (P := P) (fu := fu) (u := u) (fr := fr) (pc := pc) D).2.1 (Nat.lt_of_le_of_lt (Nat.le_add_right _ 4) (VA_it (us := us) (f := f) (b := b) (sk := sk) (pk := pk) (g0 := g0) (hk := hk) (cu := cu) (bk := bk) (bs := bs) (ob := ob) (r := r) (R := R) (om := om) (T := T) (P := P) (fu := fu) (u := u) (fr := fr) (pc := pc) D).2.2.1) rfl
theorem r_it3 (D : RD n r) : gR (n, MM f b sk pk g0 hk cu bk bs ob r R om T P fu u fr pc, us) (r + 6) 11 3 = some (r + 10) := gR_of (s := (n, MM f b sk pk g0 hk cu bk bs ob r R om T P fu u fr pc, us)) (VA_it (us := us) (f := f) (b := b) (sk := sk) (pk := pk) (g0 := g0) (hk := hk) (cu := cu) (bk := bk) (bs := bs) (ob := ob) (r := r) (R := R) (om := om) (T := T) (P := P) (fu := fu) (u := u) (fr := fr) (pc := pc) D).1.1 (VA_it (us := us) (f := f) (b := b) (sk := sk) (pk := pk) (g0 := g0) (hk := hk) (cu := cu) (bk := bk) (bs := bs) (ob := ob) (r := r) (R := R) (om := om) (T := T) (P := P) (fu := fu) (u := u) (fr := fr) (pc := pc) D).2.1 (Nat.lt_of_le_of_lt (Nat.le_add_right _ 4) (VA_it (us := us) (f := f) (b := b) (sk := sk) (pk := pk) (g0 := g0) (hk := hk) (cu := cu) (bk := bk) (bs := bs) (ob := ob) (r := r) (R := R) (om := om) (T := T) (P := P) (fu := fu) (u := u) (fr := fr) (pc := pc) D).2.2.1) rfl
theorem r_vl0 (D : RD n r) : gR (n, MM f b sk pk g0 hk cu bk bs ob r R om T P fu u fr pc, us) (r + 11) 11 0 = some (r + 12) := gR_of (s := (n, MM f b sk pk g0 hk cu bk bs ob r R om T P fu u fr pc, us)) (VA_vl (us := us) (f := f) (b := b) (sk := sk) (pk := pk) (g0 := g0) (hk := hk) (cu := cu) (bk := bk) (bs := bs) (ob := ob) (r := r) (R := R) (om := om) (T := T) (P := P) (fu := fu) (u := u) (fr := fr) (pc := pc) D).1.1 (VA_vl (us := us) (f := f) (b := b) (sk := sk) (pk := pk) (g0 := g0) (hk := hk) (cu := cu) (bk := bk) (bs := bs) (ob := ob) (r := r) (R := R) (om := om) (T := T) (P := P) (fu := fu) (u := u) (fr := fr) (pc := pc) D).2.1 (Nat.lt_of_le_of_lt (Nat.le_add_right _ 4) (VA_vl (us := us) (f := f) (b := b) (sk := sk) (pk := pk) (g0 := g0) (hk := hk) (cu := cu) (bk := bk) (bs := bs) (ob := ob) (r := r) (R := R) (om := om) (T := T) (P := P) (fu := fu) (u := u) (fr := fr) (pc := pc) D).2.2.1) rfl
theorem r_vl1 (D : RD n r) : gR (n, MM f b sk pk g0 hk cu bk bs ob r R om T P fu u fr pc, us) (r + 11) 11 1 = some (r + 13) := gR_of (s := (n, MM f b sk pk g0 hk cu bk bs ob r R om T P fu u fr pc, us)) (VA_vl (us := us) (f := f) (b := b) (sk := sk) (pk := pk) (g0 := g0) (hk := hk) (cu := cu) (bk := bk) (bs := bs) (ob := ob) (r := r) (R := R) (om := om) (T := T) (P := P) (fu := fu) (u := u) (fr := fr) (pc := pc) D).1.1 (VA_vl (us := us) (f := f) (b := b) (sk := sk) (pk := pk) (g0 := g0) (hk := hk) (cu := cu) (bk := bk) (bs := bs) (ob := ob) (r := r) (R := R) (om := om) (T := T) (P := P) (fu := fu) (u := u) (fr := fr) (pc := pc) D).2.1 (Nat.lt_of_le_of_lt (Nat.le_add_right _ 4) (VA_vl (us := us) (f := f) (b := b) (sk := sk) (pk := pk) (g0 := g0) (hk := hk) (cu := cu) (bk := bk) (bs := bs) (ob := ob) (r := r) (R := R) (om := om) (T := T) (P := P) (fu := fu) (u := u) (fr := fr) (pc := pc) D).2.2.1) rfl
theorem r_vl2 (D : RD n r) : gR (n, MM f b sk pk g0 hk cu bk bs ob r R om T P fu u fr pc, us) (r + 11) 11 2 = some (r + 14) := gR_of (s := (n, MM f b sk pk g0 hk cu bk bs ob r R om T P fu u fr pc, us)) (VA_vl (us := us) (f := f) (b := b) (sk := sk) (pk := pk) (g0 := g0) (hk := hk) (cu := cu) (bk := bk) (bs := bs) (ob := ob) (r := r) (R := R) (om := om) (T := T) (P := P) (fu := fu) (u := u) (fr := fr) (pc := pc) D).1.1 (VA_vl (us := us) (f := f) (b := b) (sk := sk) (pk := pk) (g0 := g0) (hk := hk) (cu := cu) (bk := bk) (bs := bs) (ob := ob) (r := r) (R := R) (om := om) (T := T) (P := P) (fu := fu) (u := u) (fr := fr) (pc := pc) D).2.1 (Nat.lt_of_le_of_lt (Nat.le_add_right _ 4) (VA_vl (us := us) (f := f) (b := b) (sk := sk) (pk := pk) (g0 := g0) (hk := hk) (cu := cu) (bk := bk) (bs := bs) (ob := ob) (r := r) (R := R) (om := om) (T := T) (P := P) (fu := fu) (u := u) (fr := fr) (pc := pc) D).2.2.1) rfl
theorem r_vl3 (D : RD n r) : gR (n, MM f b sk pk g0 hk cu bk bs ob r R om T P fu u fr pc, us) (r + 11) 11 3 = some (r + 15) := gR_of (s := (n, MM f b sk pk g0 hk cu bk bs ob r R om T P fu u fr pc, us)) (VA_vl (us := us) (f := f) (b := b) (sk := sk) (pk := pk) (g0 := g0) (hk := hk) (cu := cu) (bk := bk) (bs := bs) (ob := ob) (r := r) (R := R) (om := om) (T := T) (P := P) (fu := fu) (u := u) (fr := fr) (pc := pc) D).1.1 (VA_vl (us := us) (f := f) (b := b) (sk := sk) (pk := pk) (g0 := g0) (hk := hk) (cu := cu) (bk := bk) (bs := bs) (ob := ob) (r := r) (R := R) (om := om) (T := T) (P := P) (fu := fu) (u := u) (fr := fr) (pc := pc) D).2.1 (Nat.lt_of_le_of_lt (Nat.le_add_right _ 4) (VA_vl (us := us) (f := f) (b := b) (sk := sk) (pk := pk) (g0 := g0) (hk := hk) (cu := cu) (bk := bk) (bs := bs) (ob := ob) (r := r) (R := R) (om := om) (T := T) (P := P) (fu := fu) (u := u) (fr := fr) (pc := pc) D).2.2.1) rfl
theorem r_gdS {β : Type} {x : Option β} (D : RD n r) : gd (n, MM f b sk pk g0 hk cu bk bs ob r R om T P fu u fr pc, us) r 13 x = x := gd_of (s := (n, MM f b sk pk g0 hk cu bk bs ob r R om T P fu u fr pc, us)) (Ms0 (f := f) (b := b) (sk := sk) (pk := pk) (g0 := g0) (hk := hk) (cu := cu) (bk := bk) (bs := bs) (ob := ob) (r := r) (R := R) (om := om) (T := T) (P := P) (fu := fu) (u := u) (fr := fr) (pc := pc) D) (show 128 ≤ r by have := D.2; omega) (show r < n by have := D.1; have := D.2; omega)
theorem r_s0 (D : RD n r) : gR (n, MM f b sk pk g0 hk cu bk bs ob r R om T P fu u fr pc, us) r 13 0 = some (r + 1) := gR_of (s := (n, MM f b sk pk g0 hk cu bk bs ob r R om T P fu u fr pc, us)) (Ms0 (f := f) (b := b) (sk := sk) (pk := pk) (g0 := g0) (hk := hk) (cu := cu) (bk := bk) (bs := bs) (ob := ob) (r := r) (R := R) (om := om) (T := T) (P := P) (fu := fu) (u := u) (fr := fr) (pc := pc) D) (show 128 ≤ r by have := D.2; omega) (show r < n by have := D.1; have := D.2; omega) rfl
theorem r_s1 (D : RD n r) : gR (n, MM f b sk pk g0 hk cu bk bs ob r R om T P fu u fr pc, us) r 13 1 = some (r + 2) := gR_of (s := (n, MM f b sk pk g0 hk cu bk bs ob r R om T P fu u fr pc, us)) (Ms0 (f := f) (b := b) (sk := sk) (pk := pk) (g0 := g0) (hk := hk) (cu := cu) (bk := bk) (bs := bs) (ob := ob) (r := r) (R := R) (om := om) (T := T) (P := P) (fu := fu) (u := u) (fr := fr) (pc := pc) D) (show 128 ≤ r by have := D.2; omega) (show r < n by have := D.1; have := D.2; omega) rfl
theorem r_s2 (D : RD n r) : gR (n, MM f b sk pk g0 hk cu bk bs ob r R om T P fu u fr pc, us) r 13 2 = some (r + 3) := gR_of (s := (n, MM f b sk pk g0 hk cu bk bs ob r R om T P fu u fr pc, us)) (Ms0 (f := f) (b := b) (sk := sk) (pk := pk) (g0 := g0) (hk := hk) (cu := cu) (bk := bk) (bs := bs) (ob := ob) (r := r) (R := R) (om := om) (T := T) (P := P) (fu := fu) (u := u) (fr := fr) (pc := pc) D) (show 128 ≤ r by have := D.2; omega) (show r < n by have := D.1; have := D.2; omega) rfl
theorem r_s3 (D : RD n r) : gR (n, MM f b sk pk g0 hk cu bk bs ob r R om T P fu u fr pc, us) r 13 3 = some (r + 4) := gR_of (s := (n, MM f b sk pk g0 hk cu bk bs ob r R om T P fu u fr pc, us)) (Ms0 (f := f) (b := b) (sk := sk) (pk := pk) (g0 := g0) (hk := hk) (cu := cu) (bk := bk) (bs := bs) (ob := ob) (r := r) (R := R) (om := om) (T := T) (P := P) (fu := fu) (u := u) (fr := fr) (pc := pc) D) (show 128 ≤ r by have := D.2; omega) (show r < n by have := D.1; have := D.2; omega) rfl
theorem r_s4 (D : RD n r) : gR (n, MM f b sk pk g0 hk cu bk bs ob r R om T P fu u fr pc, us) r 13 4 = some (r + 5) := gR_of (s := (n, MM f b sk pk g0 hk cu bk bs ob r R om T P fu u fr pc, us)) (Ms0 (f := f) (b := b) (sk := sk) (pk := pk) (g0 := g0) (hk := hk) (cu := cu) (bk := bk) (bs := bs) (ob := ob) (r := r) (R := R) (om := om) (T := T) (P := P) (fu := fu) (u := u) (fr := fr) (pc := pc) D) (show 128 ≤ r by have := D.2; omega) (show r < n by have := D.1; have := D.2; omega) rfl
theorem r_s5 (D : RD n r) : gR (n, MM f b sk pk g0 hk cu bk bs ob r R om T P fu u fr pc, us) r 13 5 = some (r + 6) := gR_of (s := (n, MM f b sk pk g0 hk cu bk bs ob r R om T P fu u fr pc, us)) (Ms0 (f := f) (b := b) (sk := sk) (pk := pk) (g0 := g0) (hk := hk) (cu := cu) (bk := bk) (bs := bs) (ob := ob) (r := r) (R := R) (om := om) (T := T) (P := P) (fu := fu) (u := u) (fr := fr) (pc := pc) D) (show 128 ≤ r by have := D.2; omega) (show r < n by have := D.1; have := D.2; omega) rfl
theorem r_s6 (D : RD n r) : gR (n, MM f b sk pk g0 hk cu bk bs ob r R om T P fu u fr pc, us) r 13 6 = some (r + 11) := gR_of (s := (n, MM f b sk pk g0 hk cu bk bs ob r R om T P fu u fr pc, us)) (Ms0 (f := f) (b := b) (sk := sk) (pk := pk) (g0 := g0) (hk := hk) (cu := cu) (bk := bk) (bs := bs) (ob := ob) (r := r) (R := R) (om := om) (T := T) (P := P) (fu := fu) (u := u) (fr := fr) (pc := pc) D) (show 128 ≤ r by have := D.2; omega) (show r < n by have := D.1; have := D.2; omega) rfl
theorem r_s7 (D : RD n r) : gR (n, MM f b sk pk g0 hk cu bk bs ob r R om T P fu u fr pc, us) r 13 7 = some (r + 16) := gR_of (s := (n, MM f b sk pk g0 hk cu bk bs ob r R om T P fu u fr pc, us)) (Ms0 (f := f) (b := b) (sk := sk) (pk := pk) (g0 := g0) (hk := hk) (cu := cu) (bk := bk) (bs := bs) (ob := ob) (r := r) (R := R) (om := om) (T := T) (P := P) (fu := fu) (u := u) (fr := fr) (pc := pc) D) (show 128 ≤ r by have := D.2; omega) (show r < n by have := D.1; have := D.2; omega) rfl
theorem r_s8 (D : RD n r) : gI (n, MM f b sk pk g0 hk cu bk bs ob r R om T P fu u fr pc, us) r 13 8 = some R.2.2.2.2.2.2.2.2.1 := gI_of (s := (n, MM f b sk pk g0 hk cu bk bs ob r R om T P fu u fr pc, us)) (Ms0 (f := f) (b := b) (sk := sk) (pk := pk) (g0 := g0) (hk := hk) (cu := cu) (bk := bk) (bs := bs) (ob := ob) (r := r) (R := R) (om := om) (T := T) (P := P) (fu := fu) (u := u) (fr := fr) (pc := pc) D) (show 128 ≤ r by have := D.2; omega) (show r < n by have := D.1; have := D.2; omega) rfl
theorem r_s9 (D : RD n r) : gI (n, MM f b sk pk g0 hk cu bk bs ob r R om T P fu u fr pc, us) r 13 9 = some R.2.2.2.2.2.2.2.2.2.1 := gI_of (s := (n, MM f b sk pk g0 hk cu bk bs ob r R om T P fu u fr pc, us)) (Ms0 (f := f) (b := b) (sk := sk) (pk := pk) (g0 := g0) (hk := hk) (cu := cu) (bk := bk) (bs := bs) (ob := ob) (r := r) (R := R) (om := om) (T := T) (P := P) (fu := fu) (u := u) (fr := fr) (pc := pc) D) (show 128 ≤ r by have := D.2; omega) (show r < n by have := D.1; have := D.2; omega) rfl
theorem r_s10 (D : RD n r) : gI (n, MM f b sk pk g0 hk cu bk bs ob r R om T P fu u fr pc, us) r 13 10 = some R.2.2.2.2.2.2.2.2.2.2.1 := gI_of (s := (n, MM f b sk pk g0 hk cu bk bs ob r R om T P fu u fr pc, us)) (Ms0 (f := f) (b := b) (sk := sk) (pk := pk) (g0 := g0) (hk := hk) (cu := cu) (bk := bk) (bs := bs) (ob := ob) (r := r) (R := R) (om := om) (T := T) (P := P) (fu := fu) (u := u) (fr := fr) (pc := pc) D) (show 128 ≤ r by have := D.2; omega) (show r < n by have := D.1; have := D.2; omega) rfl
theorem r_sp8 (D : RD n r) {x : Int32} : pV (n, MM f b sk pk g0 hk cu bk bs ob r R om T P fu u fr pc, us) r 13 8 (.int x) = some (n, MM f b sk pk g0 hk cu bk bs ob r (R.1, R.2.1, R.2.2.1, R.2.2.2.1, R.2.2.2.2.1, R.2.2.2.2.2.1, R.2.2.2.2.2.2.1, R.2.2.2.2.2.2.2.1, x, R.2.2.2.2.2.2.2.2.2.1, R.2.2.2.2.2.2.2.2.2.2.1, R.2.2.2.2.2.2.2.2.2.2.2) om T P fu u fr pc, us) := by
  rw [pV_of (s := (n, MM f b sk pk g0 hk cu bk bs ob r R om T P fu u fr pc, us)) (Ms0 (f := f) (b := b) (sk := sk) (pk := pk) (g0 := g0) (hk := hk) (cu := cu) (bk := bk) (bs := bs) (ob := ob) (r := r) (R := R) (om := om) (T := T) (P := P) (fu := fu) (u := u) (fr := fr) (pc := pc) D) (show 128 ≤ r by have := D.2; omega) (show r < n by have := D.1; have := D.2; omega) (by show 8 < 12; decide)]
  refine congrArg (fun F => some (n, F, us)) ?_
  unfold MM
  rcases D.2 with e | e <;> (subst e; exact HL_up rfl)
theorem r_sp9 (D : RD n r) {x : Int32} : pV (n, MM f b sk pk g0 hk cu bk bs ob r R om T P fu u fr pc, us) r 13 9 (.int x) = some (n, MM f b sk pk g0 hk cu bk bs ob r (R.1, R.2.1, R.2.2.1, R.2.2.2.1, R.2.2.2.2.1, R.2.2.2.2.2.1, R.2.2.2.2.2.2.1, R.2.2.2.2.2.2.2.1, R.2.2.2.2.2.2.2.2.1, x, R.2.2.2.2.2.2.2.2.2.2.1, R.2.2.2.2.2.2.2.2.2.2.2) om T P fu u fr pc, us) := by
  rw [pV_of (s := (n, MM f b sk pk g0 hk cu bk bs ob r R om T P fu u fr pc, us)) (Ms0 (f := f) (b := b) (sk := sk) (pk := pk) (g0 := g0) (hk := hk) (cu := cu) (bk := bk) (bs := bs) (ob := ob) (r := r) (R := R) (om := om) (T := T) (P := P) (fu := fu) (u := u) (fr := fr) (pc := pc) D) (show 128 ≤ r by have := D.2; omega) (show r < n by have := D.1; have := D.2; omega) (by show 9 < 12; decide)]
  refine congrArg (fun F => some (n, F, us)) ?_
  unfold MM
  rcases D.2 with e | e <;> (subst e; exact HL_up rfl)
theorem a_sk0 (D : RD n r) {i : Nat} (hi : i < 8000) : aI (n, MM f b sk pk g0 hk cu bk bs ob r R om T P fu u fr pc, us) 241 (nI i) = some ((sk i).1) := by
  have c := cl0 (show i < 2 ^ 31 by omega)
  have e := aI_of (s := (n, MM f b sk pk g0 hk cu bk bs ob r R om T P fu u fr pc, us)) (i := nI i) (VA_sk (us := us) (f := f) (b := b) (sk := sk) (pk := pk) (g0 := g0) (hk := hk) (cu := cu) (bk := bk) (bs := bs) (ob := ob) (r := r) (R := R) (om := om) (T := T) (P := P) (fu := fu) (u := u) (fr := fr) (pc := pc) D).1.2.1 (by decide) (Nat.lt_of_lt_of_le (by decide) D.1) c.1 (by rw [c.2]; exact hi)
  rw [c.2] at e
  exact e
theorem a_sk1 (D : RD n r) {i : Nat} (hi : i < 8000) : aI (n, MM f b sk pk g0 hk cu bk bs ob r R om T P fu u fr pc, us) 242 (nI i) = some ((sk i).2.1) := by
  have c := cl0 (show i < 2 ^ 31 by omega)
  have e := aI_of (s := (n, MM f b sk pk g0 hk cu bk bs ob r R om T P fu u fr pc, us)) (i := nI i) (VA_sk (us := us) (f := f) (b := b) (sk := sk) (pk := pk) (g0 := g0) (hk := hk) (cu := cu) (bk := bk) (bs := bs) (ob := ob) (r := r) (R := R) (om := om) (T := T) (P := P) (fu := fu) (u := u) (fr := fr) (pc := pc) D).1.2.2.1 (by decide) (Nat.lt_of_lt_of_le (by decide) D.1) c.1 (by rw [c.2]; exact hi)
  rw [c.2] at e
  exact e
theorem a_sk2 (D : RD n r) {i : Nat} (hi : i < 8000) : aL (n, MM f b sk pk g0 hk cu bk bs ob r R om T P fu u fr pc, us) 243 (nI i) = some ((sk i).2.2.1) := by
  have c := cl0 (show i < 2 ^ 31 by omega)
  have e := aL_of (s := (n, MM f b sk pk g0 hk cu bk bs ob r R om T P fu u fr pc, us)) (i := nI i) (VA_sk (us := us) (f := f) (b := b) (sk := sk) (pk := pk) (g0 := g0) (hk := hk) (cu := cu) (bk := bk) (bs := bs) (ob := ob) (r := r) (R := R) (om := om) (T := T) (P := P) (fu := fu) (u := u) (fr := fr) (pc := pc) D).1.2.2.2.1 (by decide) (Nat.lt_of_lt_of_le (by decide) D.1) c.1 (by rw [c.2]; exact hi)
  rw [c.2] at e
  exact e
theorem a_sk3 (D : RD n r) {i : Nat} (hi : i < 8000) : aL (n, MM f b sk pk g0 hk cu bk bs ob r R om T P fu u fr pc, us) 244 (nI i) = some ((sk i).2.2.2) := by
  have c := cl0 (show i < 2 ^ 31 by omega)
  have e := aL_of (s := (n, MM f b sk pk g0 hk cu bk bs ob r R om T P fu u fr pc, us)) (i := nI i) (VA_sk (us := us) (f := f) (b := b) (sk := sk) (pk := pk) (g0 := g0) (hk := hk) (cu := cu) (bk := bk) (bs := bs) (ob := ob) (r := r) (R := R) (om := om) (T := T) (P := P) (fu := fu) (u := u) (fr := fr) (pc := pc) D).1.2.2.2.2 (by decide) (Nat.lt_of_lt_of_le (by decide) D.1) c.1 (by rw [c.2]; exact hi)
  rw [c.2] at e
  exact e
theorem a_pk0 (D : RD n r) {i : Nat} (hi : i < 4000) : aI (n, MM f b sk pk g0 hk cu bk bs ob r R om T P fu u fr pc, us) 246 (nI i) = some ((pk i).1) := by
  have c := cl0 (show i < 2 ^ 31 by omega)
  have e := aI_of (s := (n, MM f b sk pk g0 hk cu bk bs ob r R om T P fu u fr pc, us)) (i := nI i) (VA_pk (us := us) (f := f) (b := b) (sk := sk) (pk := pk) (g0 := g0) (hk := hk) (cu := cu) (bk := bk) (bs := bs) (ob := ob) (r := r) (R := R) (om := om) (T := T) (P := P) (fu := fu) (u := u) (fr := fr) (pc := pc) D).1.2.1 (by decide) (Nat.lt_of_lt_of_le (by decide) D.1) c.1 (by rw [c.2]; exact hi)
  rw [c.2] at e
  exact e
theorem a_pk1 (D : RD n r) {i : Nat} (hi : i < 4000) : aI (n, MM f b sk pk g0 hk cu bk bs ob r R om T P fu u fr pc, us) 247 (nI i) = some ((pk i).2.1) := by
  have c := cl0 (show i < 2 ^ 31 by omega)
  have e := aI_of (s := (n, MM f b sk pk g0 hk cu bk bs ob r R om T P fu u fr pc, us)) (i := nI i) (VA_pk (us := us) (f := f) (b := b) (sk := sk) (pk := pk) (g0 := g0) (hk := hk) (cu := cu) (bk := bk) (bs := bs) (ob := ob) (r := r) (R := R) (om := om) (T := T) (P := P) (fu := fu) (u := u) (fr := fr) (pc := pc) D).1.2.2.1 (by decide) (Nat.lt_of_lt_of_le (by decide) D.1) c.1 (by rw [c.2]; exact hi)
  rw [c.2] at e
  exact e
theorem a_pk2 (D : RD n r) {i : Nat} (hi : i < 4000) : aL (n, MM f b sk pk g0 hk cu bk bs ob r R om T P fu u fr pc, us) 248 (nI i) = some ((pk i).2.2.1) := by
  have c := cl0 (show i < 2 ^ 31 by omega)
  have e := aL_of (s := (n, MM f b sk pk g0 hk cu bk bs ob r R om T P fu u fr pc, us)) (i := nI i) (VA_pk (us := us) (f := f) (b := b) (sk := sk) (pk := pk) (g0 := g0) (hk := hk) (cu := cu) (bk := bk) (bs := bs) (ob := ob) (r := r) (R := R) (om := om) (T := T) (P := P) (fu := fu) (u := u) (fr := fr) (pc := pc) D).1.2.2.2.1 (by decide) (Nat.lt_of_lt_of_le (by decide) D.1) c.1 (by rw [c.2]; exact hi)
  rw [c.2] at e
  exact e
theorem a_pk3 (D : RD n r) {i : Nat} (hi : i < 4000) : aL (n, MM f b sk pk g0 hk cu bk bs ob r R om T P fu u fr pc, us) 249 (nI i) = some ((pk i).2.2.2) := by
  have c := cl0 (show i < 2 ^ 31 by omega)
  have e := aL_of (s := (n, MM f b sk pk g0 hk cu bk bs ob r R om T P fu u fr pc, us)) (i := nI i) (VA_pk (us := us) (f := f) (b := b) (sk := sk) (pk := pk) (g0 := g0) (hk := hk) (cu := cu) (bk := bk) (bs := bs) (ob := ob) (r := r) (R := R) (om := om) (T := T) (P := P) (fu := fu) (u := u) (fr := fr) (pc := pc) D).1.2.2.2.2 (by decide) (Nat.lt_of_lt_of_le (by decide) D.1) c.1 (by rw [c.2]; exact hi)
  rw [c.2] at e
  exact e
theorem a_g00 (D : RD n r) {i : Nat} (hi : i < 1) : aI (n, MM f b sk pk g0 hk cu bk bs ob r R om T P fu u fr pc, us) 251 (nI i) = some ((g0 i).1) := by
  have c := cl0 (show i < 2 ^ 31 by omega)
  have e := aI_of (s := (n, MM f b sk pk g0 hk cu bk bs ob r R om T P fu u fr pc, us)) (i := nI i) (VA_g0 (us := us) (f := f) (b := b) (sk := sk) (pk := pk) (g0 := g0) (hk := hk) (cu := cu) (bk := bk) (bs := bs) (ob := ob) (r := r) (R := R) (om := om) (T := T) (P := P) (fu := fu) (u := u) (fr := fr) (pc := pc) D).1.2.1 (by decide) (Nat.lt_of_lt_of_le (by decide) D.1) c.1 (by rw [c.2]; exact hi)
  rw [c.2] at e
  exact e
theorem a_g01 (D : RD n r) {i : Nat} (hi : i < 1) : aI (n, MM f b sk pk g0 hk cu bk bs ob r R om T P fu u fr pc, us) 252 (nI i) = some ((g0 i).2.1) := by
  have c := cl0 (show i < 2 ^ 31 by omega)
  have e := aI_of (s := (n, MM f b sk pk g0 hk cu bk bs ob r R om T P fu u fr pc, us)) (i := nI i) (VA_g0 (us := us) (f := f) (b := b) (sk := sk) (pk := pk) (g0 := g0) (hk := hk) (cu := cu) (bk := bk) (bs := bs) (ob := ob) (r := r) (R := R) (om := om) (T := T) (P := P) (fu := fu) (u := u) (fr := fr) (pc := pc) D).1.2.2.1 (by decide) (Nat.lt_of_lt_of_le (by decide) D.1) c.1 (by rw [c.2]; exact hi)
  rw [c.2] at e
  exact e
theorem a_g02 (D : RD n r) {i : Nat} (hi : i < 1) : aL (n, MM f b sk pk g0 hk cu bk bs ob r R om T P fu u fr pc, us) 253 (nI i) = some ((g0 i).2.2.1) := by
  have c := cl0 (show i < 2 ^ 31 by omega)
  have e := aL_of (s := (n, MM f b sk pk g0 hk cu bk bs ob r R om T P fu u fr pc, us)) (i := nI i) (VA_g0 (us := us) (f := f) (b := b) (sk := sk) (pk := pk) (g0 := g0) (hk := hk) (cu := cu) (bk := bk) (bs := bs) (ob := ob) (r := r) (R := R) (om := om) (T := T) (P := P) (fu := fu) (u := u) (fr := fr) (pc := pc) D).1.2.2.2.1 (by decide) (Nat.lt_of_lt_of_le (by decide) D.1) c.1 (by rw [c.2]; exact hi)
  rw [c.2] at e
  exact e
theorem a_g03 (D : RD n r) {i : Nat} (hi : i < 1) : aL (n, MM f b sk pk g0 hk cu bk bs ob r R om T P fu u fr pc, us) 254 (nI i) = some ((g0 i).2.2.2) := by
  have c := cl0 (show i < 2 ^ 31 by omega)
  have e := aL_of (s := (n, MM f b sk pk g0 hk cu bk bs ob r R om T P fu u fr pc, us)) (i := nI i) (VA_g0 (us := us) (f := f) (b := b) (sk := sk) (pk := pk) (g0 := g0) (hk := hk) (cu := cu) (bk := bk) (bs := bs) (ob := ob) (r := r) (R := R) (om := om) (T := T) (P := P) (fu := fu) (u := u) (fr := fr) (pc := pc) D).1.2.2.2.2 (by decide) (Nat.lt_of_lt_of_le (by decide) D.1) c.1 (by rw [c.2]; exact hi)
  rw [c.2] at e
  exact e
theorem a_hk0 (D : RD n r) {i : Nat} (hi : i < 4) : aI (n, MM f b sk pk g0 hk cu bk bs ob r R om T P fu u fr pc, us) 256 (nI i) = some ((hk i).1) := by
  have c := cl0 (show i < 2 ^ 31 by omega)
  have e := aI_of (s := (n, MM f b sk pk g0 hk cu bk bs ob r R om T P fu u fr pc, us)) (i := nI i) (VA_hk (us := us) (f := f) (b := b) (sk := sk) (pk := pk) (g0 := g0) (hk := hk) (cu := cu) (bk := bk) (bs := bs) (ob := ob) (r := r) (R := R) (om := om) (T := T) (P := P) (fu := fu) (u := u) (fr := fr) (pc := pc) D).1.2.1 (by decide) (Nat.lt_of_lt_of_le (by decide) D.1) c.1 (by rw [c.2]; exact hi)
  rw [c.2] at e
  exact e
theorem a_hk1 (D : RD n r) {i : Nat} (hi : i < 4) : aI (n, MM f b sk pk g0 hk cu bk bs ob r R om T P fu u fr pc, us) 257 (nI i) = some ((hk i).2.1) := by
  have c := cl0 (show i < 2 ^ 31 by omega)
  have e := aI_of (s := (n, MM f b sk pk g0 hk cu bk bs ob r R om T P fu u fr pc, us)) (i := nI i) (VA_hk (us := us) (f := f) (b := b) (sk := sk) (pk := pk) (g0 := g0) (hk := hk) (cu := cu) (bk := bk) (bs := bs) (ob := ob) (r := r) (R := R) (om := om) (T := T) (P := P) (fu := fu) (u := u) (fr := fr) (pc := pc) D).1.2.2.1 (by decide) (Nat.lt_of_lt_of_le (by decide) D.1) c.1 (by rw [c.2]; exact hi)
  rw [c.2] at e
  exact e
theorem a_hk2 (D : RD n r) {i : Nat} (hi : i < 4) : aL (n, MM f b sk pk g0 hk cu bk bs ob r R om T P fu u fr pc, us) 258 (nI i) = some ((hk i).2.2.1) := by
  have c := cl0 (show i < 2 ^ 31 by omega)
  have e := aL_of (s := (n, MM f b sk pk g0 hk cu bk bs ob r R om T P fu u fr pc, us)) (i := nI i) (VA_hk (us := us) (f := f) (b := b) (sk := sk) (pk := pk) (g0 := g0) (hk := hk) (cu := cu) (bk := bk) (bs := bs) (ob := ob) (r := r) (R := R) (om := om) (T := T) (P := P) (fu := fu) (u := u) (fr := fr) (pc := pc) D).1.2.2.2.1 (by decide) (Nat.lt_of_lt_of_le (by decide) D.1) c.1 (by rw [c.2]; exact hi)
  rw [c.2] at e
  exact e
theorem a_hk3 (D : RD n r) {i : Nat} (hi : i < 4) : aL (n, MM f b sk pk g0 hk cu bk bs ob r R om T P fu u fr pc, us) 259 (nI i) = some ((hk i).2.2.2) := by
  have c := cl0 (show i < 2 ^ 31 by omega)
  have e := aL_of (s := (n, MM f b sk pk g0 hk cu bk bs ob r R om T P fu u fr pc, us)) (i := nI i) (VA_hk (us := us) (f := f) (b := b) (sk := sk) (pk := pk) (g0 := g0) (hk := hk) (cu := cu) (bk := bk) (bs := bs) (ob := ob) (r := r) (R := R) (om := om) (T := T) (P := P) (fu := fu) (u := u) (fr := fr) (pc := pc) D).1.2.2.2.2 (by decide) (Nat.lt_of_lt_of_le (by decide) D.1) c.1 (by rw [c.2]; exact hi)
  rw [c.2] at e
  exact e
theorem a_it0 (D : RD n r) {i : Nat} (hi : i < 2000) : aI (n, MM f b sk pk g0 hk cu bk bs ob r R om T P fu u fr pc, us) (r + 7) (nI i) = some ((R.2.2.2.2.2.1 i).1) := by
  have c := cl0 (show i < 2 ^ 31 by omega)
  have e := aI_of (s := (n, MM f b sk pk g0 hk cu bk bs ob r R om T P fu u fr pc, us)) (i := nI i) (VA_it (us := us) (f := f) (b := b) (sk := sk) (pk := pk) (g0 := g0) (hk := hk) (cu := cu) (bk := bk) (bs := bs) (ob := ob) (r := r) (R := R) (om := om) (T := T) (P := P) (fu := fu) (u := u) (fr := fr) (pc := pc) D).1.2.1 (show 128 ≤ r + 6 + 1 by have := D.2; omega) (show r + 6 + 1 < n by have := D.1; have := D.2; omega) c.1 (by rw [c.2]; exact hi)
  rw [c.2] at e
  exact e
theorem a_it1 (D : RD n r) {i : Nat} (hi : i < 2000) : aI (n, MM f b sk pk g0 hk cu bk bs ob r R om T P fu u fr pc, us) (r + 8) (nI i) = some ((R.2.2.2.2.2.1 i).2.1) := by
  have c := cl0 (show i < 2 ^ 31 by omega)
  have e := aI_of (s := (n, MM f b sk pk g0 hk cu bk bs ob r R om T P fu u fr pc, us)) (i := nI i) (VA_it (us := us) (f := f) (b := b) (sk := sk) (pk := pk) (g0 := g0) (hk := hk) (cu := cu) (bk := bk) (bs := bs) (ob := ob) (r := r) (R := R) (om := om) (T := T) (P := P) (fu := fu) (u := u) (fr := fr) (pc := pc) D).1.2.2.1 (show 128 ≤ r + 6 + 2 by have := D.2; omega) (show r + 6 + 2 < n by have := D.1; have := D.2; omega) c.1 (by rw [c.2]; exact hi)
  rw [c.2] at e
  exact e
theorem a_it2 (D : RD n r) {i : Nat} (hi : i < 2000) : aL (n, MM f b sk pk g0 hk cu bk bs ob r R om T P fu u fr pc, us) (r + 9) (nI i) = some ((R.2.2.2.2.2.1 i).2.2.1) := by
  have c := cl0 (show i < 2 ^ 31 by omega)
  have e := aL_of (s := (n, MM f b sk pk g0 hk cu bk bs ob r R om T P fu u fr pc, us)) (i := nI i) (VA_it (us := us) (f := f) (b := b) (sk := sk) (pk := pk) (g0 := g0) (hk := hk) (cu := cu) (bk := bk) (bs := bs) (ob := ob) (r := r) (R := R) (om := om) (T := T) (P := P) (fu := fu) (u := u) (fr := fr) (pc := pc) D).1.2.2.2.1 (show 128 ≤ r + 6 + 3 by have := D.2; omega) (show r + 6 + 3 < n by have := D.1; have := D.2; omega) c.1 (by rw [c.2]; exact hi)
  rw [c.2] at e
  exact e
theorem a_it3 (D : RD n r) {i : Nat} (hi : i < 2000) : aL (n, MM f b sk pk g0 hk cu bk bs ob r R om T P fu u fr pc, us) (r + 10) (nI i) = some ((R.2.2.2.2.2.1 i).2.2.2) := by
  have c := cl0 (show i < 2 ^ 31 by omega)
  have e := aL_of (s := (n, MM f b sk pk g0 hk cu bk bs ob r R om T P fu u fr pc, us)) (i := nI i) (VA_it (us := us) (f := f) (b := b) (sk := sk) (pk := pk) (g0 := g0) (hk := hk) (cu := cu) (bk := bk) (bs := bs) (ob := ob) (r := r) (R := R) (om := om) (T := T) (P := P) (fu := fu) (u := u) (fr := fr) (pc := pc) D).1.2.2.2.2 (show 128 ≤ r + 6 + 4 by have := D.2; omega) (show r + 6 + 4 < n by have := D.1; have := D.2; omega) c.1 (by rw [c.2]; exact hi)
  rw [c.2] at e
  exact e
theorem a_vl0 (D : RD n r) {i : Nat} (hi : i < 12) : aI (n, MM f b sk pk g0 hk cu bk bs ob r R om T P fu u fr pc, us) (r + 12) (nI i) = some ((R.2.2.2.2.2.2.1 i).1) := by
  have c := cl0 (show i < 2 ^ 31 by omega)
  have e := aI_of (s := (n, MM f b sk pk g0 hk cu bk bs ob r R om T P fu u fr pc, us)) (i := nI i) (VA_vl (us := us) (f := f) (b := b) (sk := sk) (pk := pk) (g0 := g0) (hk := hk) (cu := cu) (bk := bk) (bs := bs) (ob := ob) (r := r) (R := R) (om := om) (T := T) (P := P) (fu := fu) (u := u) (fr := fr) (pc := pc) D).1.2.1 (show 128 ≤ r + 11 + 1 by have := D.2; omega) (show r + 11 + 1 < n by have := D.1; have := D.2; omega) c.1 (by rw [c.2]; exact hi)
  rw [c.2] at e
  exact e
theorem a_vl1 (D : RD n r) {i : Nat} (hi : i < 12) : aI (n, MM f b sk pk g0 hk cu bk bs ob r R om T P fu u fr pc, us) (r + 13) (nI i) = some ((R.2.2.2.2.2.2.1 i).2.1) := by
  have c := cl0 (show i < 2 ^ 31 by omega)
  have e := aI_of (s := (n, MM f b sk pk g0 hk cu bk bs ob r R om T P fu u fr pc, us)) (i := nI i) (VA_vl (us := us) (f := f) (b := b) (sk := sk) (pk := pk) (g0 := g0) (hk := hk) (cu := cu) (bk := bk) (bs := bs) (ob := ob) (r := r) (R := R) (om := om) (T := T) (P := P) (fu := fu) (u := u) (fr := fr) (pc := pc) D).1.2.2.1 (show 128 ≤ r + 11 + 2 by have := D.2; omega) (show r + 11 + 2 < n by have := D.1; have := D.2; omega) c.1 (by rw [c.2]; exact hi)
  rw [c.2] at e
  exact e
theorem a_vl2 (D : RD n r) {i : Nat} (hi : i < 12) : aL (n, MM f b sk pk g0 hk cu bk bs ob r R om T P fu u fr pc, us) (r + 14) (nI i) = some ((R.2.2.2.2.2.2.1 i).2.2.1) := by
  have c := cl0 (show i < 2 ^ 31 by omega)
  have e := aL_of (s := (n, MM f b sk pk g0 hk cu bk bs ob r R om T P fu u fr pc, us)) (i := nI i) (VA_vl (us := us) (f := f) (b := b) (sk := sk) (pk := pk) (g0 := g0) (hk := hk) (cu := cu) (bk := bk) (bs := bs) (ob := ob) (r := r) (R := R) (om := om) (T := T) (P := P) (fu := fu) (u := u) (fr := fr) (pc := pc) D).1.2.2.2.1 (show 128 ≤ r + 11 + 3 by have := D.2; omega) (show r + 11 + 3 < n by have := D.1; have := D.2; omega) c.1 (by rw [c.2]; exact hi)
  rw [c.2] at e
  exact e
theorem a_vl3 (D : RD n r) {i : Nat} (hi : i < 12) : aL (n, MM f b sk pk g0 hk cu bk bs ob r R om T P fu u fr pc, us) (r + 15) (nI i) = some ((R.2.2.2.2.2.2.1 i).2.2.2) := by
  have c := cl0 (show i < 2 ^ 31 by omega)
  have e := aL_of (s := (n, MM f b sk pk g0 hk cu bk bs ob r R om T P fu u fr pc, us)) (i := nI i) (VA_vl (us := us) (f := f) (b := b) (sk := sk) (pk := pk) (g0 := g0) (hk := hk) (cu := cu) (bk := bk) (bs := bs) (ob := ob) (r := r) (R := R) (om := om) (T := T) (P := P) (fu := fu) (u := u) (fr := fr) (pc := pc) D).1.2.2.2.2 (show 128 ≤ r + 11 + 4 by have := D.2; omega) (show r + 11 + 4 < n by have := D.1; have := D.2; omega) c.1 (by rw [c.2]; exact hi)
  rw [c.2] at e
  exact e
theorem a_kd (D : RD n r) {i : Nat} (hi : i < 100) : aI (n, MM f b sk pk g0 hk cu bk bs ob r R om T P fu u fr pc, us) (r + 1) (nI i) = some (R.1 i) := by
  have c := cl0 (show i < 2 ^ 31 by omega)
  have e := aI_of (s := (n, MM f b sk pk g0 hk cu bk bs ob r R om T P fu u fr pc, us)) (i := nI i) (Ms1 (f := f) (b := b) (sk := sk) (pk := pk) (g0 := g0) (hk := hk) (cu := cu) (bk := bk) (bs := bs) (ob := ob) (r := r) (R := R) (om := om) (T := T) (P := P) (fu := fu) (u := u) (fr := fr) (pc := pc) D) (show 128 ≤ r + 1 by have := D.2; omega) (show r + 1 < n by have := D.1; have := D.2; omega) c.1 (by rw [c.2]; exact hi)
  rw [c.2] at e
  exact e
theorem a_sz (D : RD n r) {i : Nat} (hi : i < 100) : aI (n, MM f b sk pk g0 hk cu bk bs ob r R om T P fu u fr pc, us) (r + 2) (nI i) = some (R.2.1 i) := by
  have c := cl0 (show i < 2 ^ 31 by omega)
  have e := aI_of (s := (n, MM f b sk pk g0 hk cu bk bs ob r R om T P fu u fr pc, us)) (i := nI i) (Ms2 (f := f) (b := b) (sk := sk) (pk := pk) (g0 := g0) (hk := hk) (cu := cu) (bk := bk) (bs := bs) (ob := ob) (r := r) (R := R) (om := om) (T := T) (P := P) (fu := fu) (u := u) (fr := fr) (pc := pc) D) (show 128 ≤ r + 2 by have := D.2; omega) (show r + 2 < n by have := D.1; have := D.2; omega) c.1 (by rw [c.2]; exact hi)
  rw [c.2] at e
  exact e
theorem a_nm (D : RD n r) {i : Nat} (hi : i < 800) : aL (n, MM f b sk pk g0 hk cu bk bs ob r R om T P fu u fr pc, us) (r + 3) (nI i) = some (R.2.2.1 i) := by
  have c := cl0 (show i < 2 ^ 31 by omega)
  have e := aL_of (s := (n, MM f b sk pk g0 hk cu bk bs ob r R om T P fu u fr pc, us)) (i := nI i) (Ms3 (f := f) (b := b) (sk := sk) (pk := pk) (g0 := g0) (hk := hk) (cu := cu) (bk := bk) (bs := bs) (ob := ob) (r := r) (R := R) (om := om) (T := T) (P := P) (fu := fu) (u := u) (fr := fr) (pc := pc) D) (show 128 ≤ r + 3 by have := D.2; omega) (show r + 3 < n by have := D.1; have := D.2; omega) c.1 (by rw [c.2]; exact hi)
  rw [c.2] at e
  exact e
theorem a_rt (D : RD n r) {i : Nat} (hi : i < 12) : aL (n, MM f b sk pk g0 hk cu bk bs ob r R om T P fu u fr pc, us) (r + 4) (nI i) = some (R.2.2.2.1 i) := by
  have c := cl0 (show i < 2 ^ 31 by omega)
  have e := aL_of (s := (n, MM f b sk pk g0 hk cu bk bs ob r R om T P fu u fr pc, us)) (i := nI i) (Ms4 (f := f) (b := b) (sk := sk) (pk := pk) (g0 := g0) (hk := hk) (cu := cu) (bk := bk) (bs := bs) (ob := ob) (r := r) (R := R) (om := om) (T := T) (P := P) (fu := fu) (u := u) (fr := fr) (pc := pc) D) (show 128 ≤ r + 4 by have := D.2; omega) (show r + 4 < n by have := D.1; have := D.2; omega) c.1 (by rw [c.2]; exact hi)
  rw [c.2] at e
  exact e
theorem a_fn (D : RD n r) {i : Nat} (hi : i < 10) : aL (n, MM f b sk pk g0 hk cu bk bs ob r R om T P fu u fr pc, us) (r + 5) (nI i) = some (R.2.2.2.2.1 i) := by
  have c := cl0 (show i < 2 ^ 31 by omega)
  have e := aL_of (s := (n, MM f b sk pk g0 hk cu bk bs ob r R om T P fu u fr pc, us)) (i := nI i) (Ms5 (f := f) (b := b) (sk := sk) (pk := pk) (g0 := g0) (hk := hk) (cu := cu) (bk := bk) (bs := bs) (ob := ob) (r := r) (R := R) (om := om) (T := T) (P := P) (fu := fu) (u := u) (fr := fr) (pc := pc) D) (show 128 ≤ r + 5 by have := D.2; omega) (show r + 5 < n by have := D.1; have := D.2; omega) c.1 (by rw [c.2]; exact hi)
  rw [c.2] at e
  exact e
theorem a_bk (D : RD n r) {i : Nat} (hi : i < 9) : aI (n, MM f b sk pk g0 hk cu bk bs ob r R om T P fu u fr pc, us) 261 (nI i) = some (bk i) := by
  have c := cl0 (show i < 2 ^ 31 by omega)
  have e := aI_of (s := (n, MM f b sk pk g0 hk cu bk bs ob r R om T P fu u fr pc, us)) (i := nI i) (a := 261) (g := bk) (M261 (f := f) (b := b) (sk := sk) (pk := pk) (g0 := g0) (hk := hk) (cu := cu) (bk := bk) (bs := bs) (ob := ob) (r := r) (R := R) (om := om) (T := T) (P := P) (fu := fu) (u := u) (fr := fr) (pc := pc)) (by decide) (Nat.lt_of_lt_of_le (by decide) D.1) c.1 (by rw [c.2]; exact hi)
  rw [c.2] at e
  exact e
theorem a_bs (D : RD n r) {i : Nat} (hi : i < 9) : aI (n, MM f b sk pk g0 hk cu bk bs ob r R om T P fu u fr pc, us) 262 (nI i) = some (bs i) := by
  have c := cl0 (show i < 2 ^ 31 by omega)
  have e := aI_of (s := (n, MM f b sk pk g0 hk cu bk bs ob r R om T P fu u fr pc, us)) (i := nI i) (a := 262) (g := bs) (M262 (f := f) (b := b) (sk := sk) (pk := pk) (g0 := g0) (hk := hk) (cu := cu) (bk := bk) (bs := bs) (ob := ob) (r := r) (R := R) (om := om) (T := T) (P := P) (fu := fu) (u := u) (fr := fr) (pc := pc)) (by decide) (Nat.lt_of_lt_of_le (by decide) D.1) c.1 (by rw [c.2]; exact hi)
  rw [c.2] at e
  exact e
theorem a_cu (D : RD n r) {i q : Nat} (hi : i < 9) (hq : cu i = .ref q) : aR "StowTongueModel$Code" (n, MM f b sk pk g0 hk cu bk bs ob r R om T P fu u fr pc, us) 260 (nI i) = some q := by
  have c := cl0 (show i < 2 ^ 31 by omega)
  unfold aR
  rw [aV_of (s := (n, MM f b sk pk g0 hk cu bk bs ob r R om T P fu u fr pc, us)) (M260 (f := f) (b := b) (sk := sk) (pk := pk) (g0 := g0) (hk := hk) (cu := cu) (bk := bk) (bs := bs) (ob := ob) (r := r) (R := R) (om := om) (T := T) (P := P) (fu := fu) (u := u) (fr := fr) (pc := pc)) (by decide) (Nat.lt_of_lt_of_le (by decide) D.1) c.1 (by rw [c.2]; exact hi), c.2, hq]
  rfl
theorem a_cd (D : RD n r) {i q : Nat} (hi : i < 10) (hq : R.2.2.2.2.2.2.2.1 i = .ref q) : aR "StowTongueModel$Code" (n, MM f b sk pk g0 hk cu bk bs ob r R om T P fu u fr pc, us) (r + 16) (nI i) = some q := by
  have c := cl0 (show i < 2 ^ 31 by omega)
  unfold aR
  rw [aV_of (s := (n, MM f b sk pk g0 hk cu bk bs ob r R om T P fu u fr pc, us)) (Ms16 (f := f) (b := b) (sk := sk) (pk := pk) (g0 := g0) (hk := hk) (cu := cu) (bk := bk) (bs := bs) (ob := ob) (r := r) (R := R) (om := om) (T := T) (P := P) (fu := fu) (u := u) (fr := fr) (pc := pc) D) (show 128 ≤ r + 16 by have := D.2; omega) (show r + 16 < n by have := D.1; have := D.2; omega) c.1 (by rw [c.2]; exact hi), c.2, hq]
  rfl
theorem s_cu (D : RD n r) {i q : Nat} (hi : i < 9) (hq : isO (n, MM f b sk pk g0 hk cu bk bs ob r R om T P fu u fr pc, us) q 12 = true) : sR "StowTongueModel$Code" 12 (n, MM f b sk pk g0 hk cu bk bs ob r R om T P fu u fr pc, us) 260 (nI i) q = some (n, MM f b sk pk g0 hk (updV cu i (.ref q)) bk bs ob r R om T P fu u fr pc, us) := by
  have c := cl0 (show i < 2 ^ 31 by omega)
  unfold sR
  rw [if_pos hq, sV_of (s := (n, MM f b sk pk g0 hk cu bk bs ob r R om T P fu u fr pc, us)) (M260 (f := f) (b := b) (sk := sk) (pk := pk) (g0 := g0) (hk := hk) (cu := cu) (bk := bk) (bs := bs) (ob := ob) (r := r) (R := R) (om := om) (T := T) (P := P) (fu := fu) (u := u) (fr := fr) (pc := pc)) (by decide) (Nat.lt_of_lt_of_le (by decide) D.1) c.1 (by rw [c.2]; exact hi), c.2]
  refine congrArg (fun F => some (n, F, us)) ?_
  unfold MM
  exact HL_up rfl
theorem s_bk (D : RD n r) {i : Nat} (hi : i < 9) {x : Int32} : sV (n, MM f b sk pk g0 hk cu bk bs ob r R om T P fu u fr pc, us) .int 261 (nI i) (.int x) = some (n, MM f b sk pk g0 hk cu (upI bk i x) bs ob r R om T P fu u fr pc, us) := by
  have c := cl0 (show i < 2 ^ 31 by omega)
  rw [sI_of (s := (n, MM f b sk pk g0 hk cu bk bs ob r R om T P fu u fr pc, us)) (M261 (f := f) (b := b) (sk := sk) (pk := pk) (g0 := g0) (hk := hk) (cu := cu) (bk := bk) (bs := bs) (ob := ob) (r := r) (R := R) (om := om) (T := T) (P := P) (fu := fu) (u := u) (fr := fr) (pc := pc)) (by decide) (Nat.lt_of_lt_of_le (by decide) D.1) c.1 (by rw [c.2]; exact hi), c.2]
  refine congrArg (fun F => some (n, F, us)) ?_
  unfold MM
  exact HL_up rfl
theorem s_bs (D : RD n r) {i : Nat} (hi : i < 9) {x : Int32} : sV (n, MM f b sk pk g0 hk cu bk bs ob r R om T P fu u fr pc, us) .int 262 (nI i) (.int x) = some (n, MM f b sk pk g0 hk cu bk (upI bs i x) ob r R om T P fu u fr pc, us) := by
  have c := cl0 (show i < 2 ^ 31 by omega)
  rw [sI_of (s := (n, MM f b sk pk g0 hk cu bk bs ob r R om T P fu u fr pc, us)) (M262 (f := f) (b := b) (sk := sk) (pk := pk) (g0 := g0) (hk := hk) (cu := cu) (bk := bk) (bs := bs) (ob := ob) (r := r) (R := R) (om := om) (T := T) (P := P) (fu := fu) (u := u) (fr := fr) (pc := pc)) (by decide) (Nat.lt_of_lt_of_le (by decide) D.1) c.1 (by rw [c.2]; exact hi), c.2]
  refine congrArg (fun F => some (n, F, us)) ?_
  unfold MM
  exact HL_up rfl
theorem s_ob (D : RD n r) {i : Nat} (hi : i < 600) {x : Int32} : sV (n, MM f b sk pk g0 hk cu bk bs ob r R om T P fu u fr pc, us) .byte 162 (nI i) (.int x) = some (n, MM f b sk pk g0 hk cu bk bs (upI ob i x) r R om T P fu u fr pc, us) := by
  have c := cl0 (show i < 2 ^ 31 by omega)
  rw [sB_of (s := (n, MM f b sk pk g0 hk cu bk bs ob r R om T P fu u fr pc, us)) (M162 (f := f) (b := b) (sk := sk) (pk := pk) (g0 := g0) (hk := hk) (cu := cu) (bk := bk) (bs := bs) (ob := ob) (r := r) (R := R) (om := om) (T := T) (P := P) (fu := fu) (u := u) (fr := fr) (pc := pc)) (by decide) (Nat.lt_of_lt_of_le (by decide) D.1) c.1 (by rw [c.2]; exact hi), c.2]
  refine congrArg (fun F => some (n, F, us)) ?_
  unfold MM
  exact HL_up rfl
theorem s_kd (D : RD n r) {i : Nat} (hi : i < 100) {x : Int32} : sV (n, MM f b sk pk g0 hk cu bk bs ob r R om T P fu u fr pc, us) .int (r + 1) (nI i) (.int x) = some (n, MM f b sk pk g0 hk cu bk bs ob r (upI R.1 i x, R.2.1, R.2.2.1, R.2.2.2.1, R.2.2.2.2.1, R.2.2.2.2.2.1, R.2.2.2.2.2.2.1, R.2.2.2.2.2.2.2.1, R.2.2.2.2.2.2.2.2.1, R.2.2.2.2.2.2.2.2.2.1, R.2.2.2.2.2.2.2.2.2.2.1, R.2.2.2.2.2.2.2.2.2.2.2) om T P fu u fr pc, us) := by
  have c := cl0 (show i < 2 ^ 31 by omega)
  rw [sI_of (s := (n, MM f b sk pk g0 hk cu bk bs ob r R om T P fu u fr pc, us)) (Ms1 (f := f) (b := b) (sk := sk) (pk := pk) (g0 := g0) (hk := hk) (cu := cu) (bk := bk) (bs := bs) (ob := ob) (r := r) (R := R) (om := om) (T := T) (P := P) (fu := fu) (u := u) (fr := fr) (pc := pc) D) (show 128 ≤ r + 1 by have := D.2; omega) (show r + 1 < n by have := D.1; have := D.2; omega) c.1 (by rw [c.2]; exact hi), c.2]
  refine congrArg (fun F => some (n, F, us)) ?_
  unfold MM
  rcases D.2 with e | e <;> (subst e; exact HL_up rfl)
theorem s_sz (D : RD n r) {i : Nat} (hi : i < 100) {x : Int32} : sV (n, MM f b sk pk g0 hk cu bk bs ob r R om T P fu u fr pc, us) .int (r + 2) (nI i) (.int x) = some (n, MM f b sk pk g0 hk cu bk bs ob r (R.1, upI R.2.1 i x, R.2.2.1, R.2.2.2.1, R.2.2.2.2.1, R.2.2.2.2.2.1, R.2.2.2.2.2.2.1, R.2.2.2.2.2.2.2.1, R.2.2.2.2.2.2.2.2.1, R.2.2.2.2.2.2.2.2.2.1, R.2.2.2.2.2.2.2.2.2.2.1, R.2.2.2.2.2.2.2.2.2.2.2) om T P fu u fr pc, us) := by
  have c := cl0 (show i < 2 ^ 31 by omega)
  rw [sI_of (s := (n, MM f b sk pk g0 hk cu bk bs ob r R om T P fu u fr pc, us)) (Ms2 (f := f) (b := b) (sk := sk) (pk := pk) (g0 := g0) (hk := hk) (cu := cu) (bk := bk) (bs := bs) (ob := ob) (r := r) (R := R) (om := om) (T := T) (P := P) (fu := fu) (u := u) (fr := fr) (pc := pc) D) (show 128 ≤ r + 2 by have := D.2; omega) (show r + 2 < n by have := D.1; have := D.2; omega) c.1 (by rw [c.2]; exact hi), c.2]
  refine congrArg (fun F => some (n, F, us)) ?_
  unfold MM
  rcases D.2 with e | e <;> (subst e; exact HL_up rfl)
theorem s_nm (D : RD n r) {i : Nat} (hi : i < 800) {x : Int64} : sV (n, MM f b sk pk g0 hk cu bk bs ob r R om T P fu u fr pc, us) .long (r + 3) (nI i) (.long x) = some (n, MM f b sk pk g0 hk cu bk bs ob r (R.1, R.2.1, upL R.2.2.1 i x, R.2.2.2.1, R.2.2.2.2.1, R.2.2.2.2.2.1, R.2.2.2.2.2.2.1, R.2.2.2.2.2.2.2.1, R.2.2.2.2.2.2.2.2.1, R.2.2.2.2.2.2.2.2.2.1, R.2.2.2.2.2.2.2.2.2.2.1, R.2.2.2.2.2.2.2.2.2.2.2) om T P fu u fr pc, us) := by
  have c := cl0 (show i < 2 ^ 31 by omega)
  rw [sL_of (s := (n, MM f b sk pk g0 hk cu bk bs ob r R om T P fu u fr pc, us)) (Ms3 (f := f) (b := b) (sk := sk) (pk := pk) (g0 := g0) (hk := hk) (cu := cu) (bk := bk) (bs := bs) (ob := ob) (r := r) (R := R) (om := om) (T := T) (P := P) (fu := fu) (u := u) (fr := fr) (pc := pc) D) (show 128 ≤ r + 3 by have := D.2; omega) (show r + 3 < n by have := D.1; have := D.2; omega) c.1 (by rw [c.2]; exact hi), c.2]
  refine congrArg (fun F => some (n, F, us)) ?_
  unfold MM
  rcases D.2 with e | e <;> (subst e; exact HL_up rfl)
theorem s_rt (D : RD n r) {i : Nat} (hi : i < 12) {x : Int64} : sV (n, MM f b sk pk g0 hk cu bk bs ob r R om T P fu u fr pc, us) .long (r + 4) (nI i) (.long x) = some (n, MM f b sk pk g0 hk cu bk bs ob r (R.1, R.2.1, R.2.2.1, upL R.2.2.2.1 i x, R.2.2.2.2.1, R.2.2.2.2.2.1, R.2.2.2.2.2.2.1, R.2.2.2.2.2.2.2.1, R.2.2.2.2.2.2.2.2.1, R.2.2.2.2.2.2.2.2.2.1, R.2.2.2.2.2.2.2.2.2.2.1, R.2.2.2.2.2.2.2.2.2.2.2) om T P fu u fr pc, us) := by
  have c := cl0 (show i < 2 ^ 31 by omega)
  rw [sL_of (s := (n, MM f b sk pk g0 hk cu bk bs ob r R om T P fu u fr pc, us)) (Ms4 (f := f) (b := b) (sk := sk) (pk := pk) (g0 := g0) (hk := hk) (cu := cu) (bk := bk) (bs := bs) (ob := ob) (r := r) (R := R) (om := om) (T := T) (P := P) (fu := fu) (u := u) (fr := fr) (pc := pc) D) (show 128 ≤ r + 4 by have := D.2; omega) (show r + 4 < n by have := D.1; have := D.2; omega) c.1 (by rw [c.2]; exact hi), c.2]
  refine congrArg (fun F => some (n, F, us)) ?_
  unfold MM
  rcases D.2 with e | e <;> (subst e; exact HL_up rfl)
theorem s_one (D : RD n r) {i : Nat} (hi : i < 8000) {x : Int64} : sV (n, MM f b sk pk g0 hk cu bk bs ob r R om T P fu u fr pc, us) .long 243 (nI i) (.long x) = some (n, MM f b (upQ sk i ((sk i).1, (sk i).2.1, x, (sk i).2.2.2)) pk g0 hk cu bk bs ob r R om T P fu u fr pc, us) := by
  have c := cl0 (show i < 2 ^ 31 by omega)
  rw [sL_of (s := (n, MM f b sk pk g0 hk cu bk bs ob r R om T P fu u fr pc, us)) (VA_sk (us := us) (f := f) (b := b) (sk := sk) (pk := pk) (g0 := g0) (hk := hk) (cu := cu) (bk := bk) (bs := bs) (ob := ob) (r := r) (R := R) (om := om) (T := T) (P := P) (fu := fu) (u := u) (fr := fr) (pc := pc) D).1.2.2.2.1 (by decide) (Nat.lt_of_lt_of_le (by decide) D.1) c.1 (by rw [c.2]; exact hi), c.2]
  refine congrArg (fun F => some (n, F, us)) ?_
  refine Eq.trans ?_ (vu_sk (sk := sk))
  refine vUp_of ?_ (fun x hx => va_up_ne _ _ (by omega))
  rw [up1, up2, up3, up4]
  have h1 : upI (fun j => (sk j).1) i (sk i).1 = fun j => (sk j).1 := upI_id
  have h2 : upI (fun j => (sk j).2.1) i (sk i).2.1 = fun j => (sk j).2.1 := upI_id
  have h4 : upL (fun j => (sk j).2.2.2) i (sk i).2.2.2 = fun j => (sk j).2.2.2 := upL_id
  rw [h1, h2, h4]
  exact ⟨rfl, rfl, rfl, va_up_self _ _ _, rfl⟩
theorem v_set_sk (D : RD n r) {d i : Nat} (hi : i < 8000) {x1 x2 : Int32} {y1 y2 : Int64} : x_Vals_set d 240 (nI i) x1 x2 y1 y2 (n, MM f b sk pk g0 hk cu bk bs ob r R om T P fu u fr pc, us) = some ((), (n, MM f b (upQ sk i (x1, x2, y1, y2)) pk g0 hk cu bk bs ob r R om T P fu u fr pc, us)) := by
  rw [e_set (VA_sk (us := us) (f := f) (b := b) (sk := sk) (pk := pk) (g0 := g0) (hk := hk) (cu := cu) (bk := bk) (bs := bs) (ob := ob) (r := r) (R := R) (om := om) (T := T) (P := P) (fu := fu) (u := u) (fr := fr) (pc := pc) D) hi]
  exact congrArg (fun F => some ((), (n, F, us))) vu_sk
theorem v_cpy_sk (D : RD n r) {d i r2 N2 j : Nat} {q2 : Nat → VQ} (hi : i < 8000) (W : VA (n, MM f b sk pk g0 hk cu bk bs ob r R om T P fu u fr pc, us) r2 N2 q2) (hj : j < N2) : x_Vals_copy (d + 1) 240 (nI i) r2 (nI j) (n, MM f b sk pk g0 hk cu bk bs ob r R om T P fu u fr pc, us) = some ((), (n, MM f b (upQ sk i (q2 j)) pk g0 hk cu bk bs ob r R om T P fu u fr pc, us)) := by
  rw [e_cpy (VA_sk (us := us) (f := f) (b := b) (sk := sk) (pk := pk) (g0 := g0) (hk := hk) (cu := cu) (bk := bk) (bs := bs) (ob := ob) (r := r) (R := R) (om := om) (T := T) (P := P) (fu := fu) (u := u) (fr := fr) (pc := pc) D) hi W hj]
  exact congrArg (fun F => some ((), (n, F, us))) vu_sk
theorem v_set_pk (D : RD n r) {d i : Nat} (hi : i < 4000) {x1 x2 : Int32} {y1 y2 : Int64} : x_Vals_set d 245 (nI i) x1 x2 y1 y2 (n, MM f b sk pk g0 hk cu bk bs ob r R om T P fu u fr pc, us) = some ((), (n, MM f b sk (upQ pk i (x1, x2, y1, y2)) g0 hk cu bk bs ob r R om T P fu u fr pc, us)) := by
  rw [e_set (VA_pk (us := us) (f := f) (b := b) (sk := sk) (pk := pk) (g0 := g0) (hk := hk) (cu := cu) (bk := bk) (bs := bs) (ob := ob) (r := r) (R := R) (om := om) (T := T) (P := P) (fu := fu) (u := u) (fr := fr) (pc := pc) D) hi]
  exact congrArg (fun F => some ((), (n, F, us))) vu_pk
theorem v_cpy_pk (D : RD n r) {d i r2 N2 j : Nat} {q2 : Nat → VQ} (hi : i < 4000) (W : VA (n, MM f b sk pk g0 hk cu bk bs ob r R om T P fu u fr pc, us) r2 N2 q2) (hj : j < N2) : x_Vals_copy (d + 1) 245 (nI i) r2 (nI j) (n, MM f b sk pk g0 hk cu bk bs ob r R om T P fu u fr pc, us) = some ((), (n, MM f b sk (upQ pk i (q2 j)) g0 hk cu bk bs ob r R om T P fu u fr pc, us)) := by
  rw [e_cpy (VA_pk (us := us) (f := f) (b := b) (sk := sk) (pk := pk) (g0 := g0) (hk := hk) (cu := cu) (bk := bk) (bs := bs) (ob := ob) (r := r) (R := R) (om := om) (T := T) (P := P) (fu := fu) (u := u) (fr := fr) (pc := pc) D) hi W hj]
  exact congrArg (fun F => some ((), (n, F, us))) vu_pk
theorem v_set_g0 (D : RD n r) {d i : Nat} (hi : i < 1) {x1 x2 : Int32} {y1 y2 : Int64} : x_Vals_set d 250 (nI i) x1 x2 y1 y2 (n, MM f b sk pk g0 hk cu bk bs ob r R om T P fu u fr pc, us) = some ((), (n, MM f b sk pk (upQ g0 i (x1, x2, y1, y2)) hk cu bk bs ob r R om T P fu u fr pc, us)) := by
  rw [e_set (VA_g0 (us := us) (f := f) (b := b) (sk := sk) (pk := pk) (g0 := g0) (hk := hk) (cu := cu) (bk := bk) (bs := bs) (ob := ob) (r := r) (R := R) (om := om) (T := T) (P := P) (fu := fu) (u := u) (fr := fr) (pc := pc) D) hi]
  exact congrArg (fun F => some ((), (n, F, us))) vu_g0
theorem v_cpy_g0 (D : RD n r) {d i r2 N2 j : Nat} {q2 : Nat → VQ} (hi : i < 1) (W : VA (n, MM f b sk pk g0 hk cu bk bs ob r R om T P fu u fr pc, us) r2 N2 q2) (hj : j < N2) : x_Vals_copy (d + 1) 250 (nI i) r2 (nI j) (n, MM f b sk pk g0 hk cu bk bs ob r R om T P fu u fr pc, us) = some ((), (n, MM f b sk pk (upQ g0 i (q2 j)) hk cu bk bs ob r R om T P fu u fr pc, us)) := by
  rw [e_cpy (VA_g0 (us := us) (f := f) (b := b) (sk := sk) (pk := pk) (g0 := g0) (hk := hk) (cu := cu) (bk := bk) (bs := bs) (ob := ob) (r := r) (R := R) (om := om) (T := T) (P := P) (fu := fu) (u := u) (fr := fr) (pc := pc) D) hi W hj]
  exact congrArg (fun F => some ((), (n, F, us))) vu_g0
theorem v_set_hk (D : RD n r) {d i : Nat} (hi : i < 4) {x1 x2 : Int32} {y1 y2 : Int64} : x_Vals_set d 255 (nI i) x1 x2 y1 y2 (n, MM f b sk pk g0 hk cu bk bs ob r R om T P fu u fr pc, us) = some ((), (n, MM f b sk pk g0 (upQ hk i (x1, x2, y1, y2)) cu bk bs ob r R om T P fu u fr pc, us)) := by
  rw [e_set (VA_hk (us := us) (f := f) (b := b) (sk := sk) (pk := pk) (g0 := g0) (hk := hk) (cu := cu) (bk := bk) (bs := bs) (ob := ob) (r := r) (R := R) (om := om) (T := T) (P := P) (fu := fu) (u := u) (fr := fr) (pc := pc) D) hi]
  exact congrArg (fun F => some ((), (n, F, us))) vu_hk
theorem v_cpy_hk (D : RD n r) {d i r2 N2 j : Nat} {q2 : Nat → VQ} (hi : i < 4) (W : VA (n, MM f b sk pk g0 hk cu bk bs ob r R om T P fu u fr pc, us) r2 N2 q2) (hj : j < N2) : x_Vals_copy (d + 1) 255 (nI i) r2 (nI j) (n, MM f b sk pk g0 hk cu bk bs ob r R om T P fu u fr pc, us) = some ((), (n, MM f b sk pk g0 (upQ hk i (q2 j)) cu bk bs ob r R om T P fu u fr pc, us)) := by
  rw [e_cpy (VA_hk (us := us) (f := f) (b := b) (sk := sk) (pk := pk) (g0 := g0) (hk := hk) (cu := cu) (bk := bk) (bs := bs) (ob := ob) (r := r) (R := R) (om := om) (T := T) (P := P) (fu := fu) (u := u) (fr := fr) (pc := pc) D) hi W hj]
  exact congrArg (fun F => some ((), (n, F, us))) vu_hk
theorem v_cpy_it (D : RD n r) {d i r2 N2 j : Nat} {q2 : Nat → VQ} (hi : i < 2000) (W : VA (n, MM f b sk pk g0 hk cu bk bs ob r R om T P fu u fr pc, us) r2 N2 q2) (hj : j < N2) : x_Vals_copy (d + 1) (r + 6) (nI i) r2 (nI j) (n, MM f b sk pk g0 hk cu bk bs ob r R om T P fu u fr pc, us) = some ((), (n, MM f b sk pk g0 hk cu bk bs ob r (R.1, R.2.1, R.2.2.1, R.2.2.2.1, R.2.2.2.2.1, upQ R.2.2.2.2.2.1 i (q2 j), R.2.2.2.2.2.2.1, R.2.2.2.2.2.2.2.1, R.2.2.2.2.2.2.2.2.1, R.2.2.2.2.2.2.2.2.2.1, R.2.2.2.2.2.2.2.2.2.2.1, R.2.2.2.2.2.2.2.2.2.2.2) om T P fu u fr pc, us)) := by
  rw [e_cpy (VA_it (us := us) (f := f) (b := b) (sk := sk) (pk := pk) (g0 := g0) (hk := hk) (cu := cu) (bk := bk) (bs := bs) (ob := ob) (r := r) (R := R) (om := om) (T := T) (P := P) (fu := fu) (u := u) (fr := fr) (pc := pc) D) hi W hj]
  exact congrArg (fun F => some ((), (n, F, us))) (vu_it D)
theorem v_cpy_vl (D : RD n r) {d i r2 N2 j : Nat} {q2 : Nat → VQ} (hi : i < 12) (W : VA (n, MM f b sk pk g0 hk cu bk bs ob r R om T P fu u fr pc, us) r2 N2 q2) (hj : j < N2) : x_Vals_copy (d + 1) (r + 11) (nI i) r2 (nI j) (n, MM f b sk pk g0 hk cu bk bs ob r R om T P fu u fr pc, us) = some ((), (n, MM f b sk pk g0 hk cu bk bs ob r (R.1, R.2.1, R.2.2.1, R.2.2.2.1, R.2.2.2.2.1, R.2.2.2.2.2.1, upQ R.2.2.2.2.2.2.1 i (q2 j), R.2.2.2.2.2.2.2.1, R.2.2.2.2.2.2.2.2.1, R.2.2.2.2.2.2.2.2.2.1, R.2.2.2.2.2.2.2.2.2.2.1, R.2.2.2.2.2.2.2.2.2.2.2) om T P fu u fr pc, us)) := by
  rw [e_cpy (VA_vl (us := us) (f := f) (b := b) (sk := sk) (pk := pk) (g0 := g0) (hk := hk) (cu := cu) (bk := bk) (bs := bs) (ob := ob) (r := r) (R := R) (om := om) (T := T) (P := P) (fu := fu) (u := u) (fr := fr) (pc := pc) D) hi W hj]
  exact congrArg (fun F => some ((), (n, F, us))) (vu_vl D)
theorem v_add_sk (D : RD n r) {d i : Nat} (hi : i < 8000) {x : Int32} : x_Vals_add d 240 (nI i) x (n, MM f b sk pk g0 hk cu bk bs ob r R om T P fu u fr pc, us) = some ((), (n, MM f b (upQ sk i (vAd (sk i) x)) pk g0 hk cu bk bs ob r R om T P fu u fr pc, us)) := by
  rw [e_ad (VA_sk (us := us) (f := f) (b := b) (sk := sk) (pk := pk) (g0 := g0) (hk := hk) (cu := cu) (bk := bk) (bs := bs) (ob := ob) (r := r) (R := R) (om := om) (T := T) (P := P) (fu := fu) (u := u) (fr := fr) (pc := pc) D) hi]
  exact congrArg (fun F => some ((), (n, F, us))) vu_sk
theorem v_sgn_sk (D : RD n r) {d i : Nat} (hi : i < 8000) {x : Int32} : x_Vals_sign d 240 (nI i) x (n, MM f b sk pk g0 hk cu bk bs ob r R om T P fu u fr pc, us) = some (s_Vals_sign (sk i).2.2.1 (sk i).2.2.2 x, (n, MM f b sk pk g0 hk cu bk bs ob r R om T P fu u fr pc, us)) := e_sgn (VA_sk (us := us) (f := f) (b := b) (sk := sk) (pk := pk) (g0 := g0) (hk := hk) (cu := cu) (bk := bk) (bs := bs) (ob := ob) (r := r) (R := R) (om := om) (T := T) (P := P) (fu := fu) (u := u) (fr := fr) (pc := pc) D) hi
theorem v_lik_sk (D : RD n r) {d i j : Nat} (hi : i < 8000) (hj : j < 8000) : x_Vals_isLike d 240 (nI i) 240 (nI j) (n, MM f b sk pk g0 hk cu bk bs ob r R om T P fu u fr pc, us) = some (if (sk i).1 = (sk j).1 ∧ (sk i).2.1 = (sk j).2.1 ∧ (sk i).2.2.1 = (sk j).2.2.1 ∧ (sk i).2.2.2 = (sk j).2.2.2 then 1 else 0, (n, MM f b sk pk g0 hk cu bk bs ob r R om T P fu u fr pc, us)) := e_lik (VA_sk (us := us) (f := f) (b := b) (sk := sk) (pk := pk) (g0 := g0) (hk := hk) (cu := cu) (bk := bk) (bs := bs) (ob := ob) (r := r) (R := R) (om := om) (T := T) (P := P) (fu := fu) (u := u) (fr := fr) (pc := pc) D) hi (VA_sk (us := us) (f := f) (b := b) (sk := sk) (pk := pk) (g0 := g0) (hk := hk) (cu := cu) (bk := bk) (bs := bs) (ob := ob) (r := r) (R := R) (om := om) (T := T) (P := P) (fu := fu) (u := u) (fr := fr) (pc := pc) D) hj
theorem M_off (D : RD n r) {x : Nat} (hx : (163 ≤ x ∧ x ≤ 169) ∨ 401 ≤ x) : MM f b sk pk g0 hk cu bk bs ob r R om T P fu u fr pc x = f x := by
  have h := D.2
  unfold MM vaL stL vaL
  simp only [List.cons_append, List.nil_append]
  repeat rw [HL_c, if_neg (by omega)]
  rfl
end
