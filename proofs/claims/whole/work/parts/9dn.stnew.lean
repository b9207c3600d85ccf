/-! a Store made anew -/
def ST (f : Nat → am_C) (r : Nat) (S : SC) : Prop := HT f r S = f
def S00 : SC := (fun _ => 0, fun _ => 0, fun j => if j < 100 then -1 else 0, fun _ => 0, fun _ => 0, fun _ => 0, 0, fun _ => .null, 0)
section
variable {n us r d N : Nat} {f f' : Nat → am_C} {S S' : SC}
theorem HT_in {x : Nat} (h : r ≤ x ∧ x ≤ r + 7) : HT f r S x = HT f' r S x := by
  have e : x = r ∨ x = r + 1 ∨ x = r + 2 ∨ x = r + 3 ∨ x = r + 4 ∨ x = r + 5 ∨ x = r + 6 ∨ x = r + 7 := by omega
  rcases e with rfl | rfl | rfl | rfl | rfl | rfl | rfl | rfl
  · rw [HT_0, HT_0]
  · rw [HT_1, HT_1]
  · rw [HT_2, HT_2]
  · rw [HT_3, HT_3]
  · rw [HT_4, HT_4]
  · rw [HT_5, HT_5]
  · rw [HT_6, HT_6]
  · rw [HT_7, HT_7]
theorem ST.keep (h : ST f r S) (hf : ∀ x, r ≤ x → x ≤ r + 7 → f' x = f x) : ST f' r S := by
  funext x
  by_cases c : r ≤ x ∧ x ≤ r + 7
  · rw [HT_in (f' := f) c, show HT f r S x = f x from congrFun h x, hf x c.1 c.2]
  · exact HT_off (by omega)
theorem ST.mk : ST (HT f r S) r S := by
  funext x
  by_cases c : r ≤ x ∧ x ≤ r + 7
  · exact HT_in c
  · exact HT_off (by omega)
theorem ST.eq (h : ST f r S) : f = HT f r S := Eq.symm h
theorem sN {α : Type} {fs : List Value} {k : Nat} {ty : FieldType} {i : Int32} {c : HS → Option α} (h : f r = .inr (10, fs)) (h1 : 128 ≤ r) (h2 : r < n) (hk : k < fs.length) (hi : i.toNatClampNeg = N) (h0 : ¬ i < 0) (hN : N * componentBytes ty ≤ 536870912) : ((newA (n, f, us) ty i).bind fun s1 => ((pV s1 r 10 k (.ref n)).bind c)) = c (n + 1, va_up (va_up f n (.inl (ty, N, fun _ => defaultValue ty))) r (.inr (10, fs.set k (.ref n))), us + N) := by
  unfold newA
  rw [hi, if_pos ⟨h0, hN⟩, Option.bind_some]
  dsimp only
  have e : va_up f n (.inl (ty, N, fun _ => defaultValue ty)) r = .inr (10, fs) := (va_up_ne _ _ (by omega)).trans h
  rw [pV_of (s := (n + 1, va_up f n (.inl (ty, N, fun _ => defaultValue ty)), us + N)) e h1 (by show r < n + 1; omega) hk, Option.bind_some]
theorem fill_L {a : Nat} {v : Int32} (h1 : 128 ≤ a) (hN : N < 2 ^ 30) : ∀ m i M s (g : Nat → Int32), i + m = N → m < M → a < s.1 → s.2.1 a = .inl (.int, N, fun j => .int (g j)) → loopK (fun (again5 : Int32 × HS → Option (Unit × HS)) (z5 : Int32 × HS) => (if nI N ≤ z5.1 then (some ((), z5.2)) else ((sV z5.2 .int a z5.1 (.int v)).bind fun s2 => (again5 ((z5.1 + 1), s2))))) M (nI i, s) = some ((), (s.1, va_up s.2.1 a (.inl (.int, N, fun j => .int (if i ≤ j ∧ j < N then v else g j))), s.2.2)) := by
  intro m
  induction m with
  | zero =>
    intro i M s g e1 e2 e3 e4
    obtain ⟨M, rfl⟩ : ∃ M', M = M' + 1 := ⟨M - 1, by omega⟩
    rw [loopK_succ]
    dsimp only
    rw [if_pos (nI_le (by omega) (by omega))]
    have e : (fun j => Value.int (if i ≤ j ∧ j < N then v else g j)) = fun j => Value.int (g j) := by
      funext j
      rw [if_neg (by omega)]
    rw [e, am_up_same e4]
  | succ m ih =>
    intro i M s g e1 e2 e3 e4
    obtain ⟨M, rfl⟩ : ∃ M', M = M' + 1 := ⟨M - 1, by omega⟩
    have b := cl0 (show i < 2 ^ 31 by omega)
    rw [loopK_succ]
    dsimp only
    rw [if_neg (fun q => absurd (nI_lt (a := i) (b := N) (by omega) (by omega)) (Int32.not_lt.mpr q)), sI_of e4 h1 e3 b.1 (by rw [b.2]; omega), b.2, Option.bind_some, show nI i + 1 = nI (i + 1) from nI_add i 1, ih (i + 1) M (s.1, va_up s.2.1 a (.inl (.int, N, fun j => .int (upI g i v j))), s.2.2) (upI g i v) (by omega) (by omega) e3 (va_up_self _ _ _)]
    dsimp only
    rw [bx_uu]
    have e : (fun j => Value.int (if i + 1 ≤ j ∧ j < N then v else upI g i v j)) = fun j => Value.int (if i ≤ j ∧ j < N then v else g j) := by
     funext j
     unfold upI
     by_cases c : j = i
     · subst c
       rw [if_neg (by omega), if_pos rfl, if_pos (by omega)]
     · rw [if_neg c]
       by_cases q : i + 1 ≤ j ∧ j < N
       · rw [if_pos q, if_pos (by omega)]
       · rw [if_neg q, if_neg (by omega)]
    rw [e]
theorem e_fillI {a : Nat} {v : Int32} {g : Nat → Int32} (h1 : 128 ≤ a) (h2 : a < n) (hN : N < 2 ^ 30) (h : f a = .inl (.int, N, fun j => .int (g j))) : x_Arr_fill_aII d a v (n, f, us) = some ((), (n, va_up f a (.inl (.int, N, fun j => .int (if j < N then v else g j))), us)) := by
  unfold x_Arr_fill_aII
  rw [lenA_of (s := (n, f, us)) h (by decide) h1 h2, Option.bind_some]
  have e := fill_L (v := v) h1 hN N 0 FU (n, f, us) g (by omega) (by rw [FU_eq]; omega) h2 h
  have e2 : (fun j => Value.int (if 0 ≤ j ∧ j < N then v else g j)) = fun j => Value.int (if j < N then v else g j) := by
    funext j
    by_cases c : j < N
    · rw [if_pos ⟨Nat.zero_le _, c⟩, if_pos c]
    · rw [if_neg (fun q => c q.2), if_neg c]
  rw [e2] at e
  exact e
theorem sNR {α : Type} {C : String} {fs : List Value} {k : Nat} {i : Int32} {c : HS → Option α} (h : f r = .inr (10, fs)) (h1 : 128 ≤ r) (h2 : r < n) (hk : k < fs.length) (hi : i.toNatClampNeg = N) (h0 : ¬ i < 0) (hN : N * 4 ≤ 536870912) : ((newR C (n, f, us) i).bind fun s1 => ((pV s1 r 10 k (.ref n)).bind c)) = c (n + 1, va_up (va_up f n (.inl (.object C, N, fun _ => .null))) r (.inr (10, fs.set k (.ref n))), us + N) := by
  unfold newR
  rw [hi, if_pos ⟨h0, hN⟩, Option.bind_some]
  dsimp only
  have e : va_up f n (.inl (.object C, N, fun _ => .null)) r = .inr (10, fs) := (va_up_ne _ _ (by omega)).trans h
  rw [pV_of (s := (n + 1, va_up f n (.inl (.object C, N, fun _ => .null)), us + N)) e h1 (by show r < n + 1; omega) hk, Option.bind_some]
theorem e_stNew (hn : 1311 ≤ n) : x_Store_init (d + 1) n (newO (n, f, us) 10 [.null, .null, .null, .null, .null, .null, .int 0, .null, .int 0]) = some ((), (n + 8, HT f n S00, us + 4155)) := by
  unfold x_Store_init newO
  dsimp only
  rw [sN (N := 2000) (va_up_self _ _ _) (by omega) (by omega) (by show 0 < 9; decide) rfl (by decide) (by decide)]
  rw [sN (N := 2000) (va_up_self _ _ _) (by omega) (by omega) (by show 1 < 9; decide) rfl (by decide) (by decide)]
  rw [sN (N := 100) (va_up_self _ _ _) (by omega) (by omega) (by show 2 < 9; decide) rfl (by decide) (by decide)]
  rw [sN (N := 12) (va_up_self _ _ _) (by omega) (by omega) (by show 3 < 9; decide) rfl (by decide) (by decide)]
  rw [sN (N := 12) (va_up_self _ _ _) (by omega) (by omega) (by show 4 < 9; decide) rfl (by decide) (by decide)]
  rw [sN (N := 12) (va_up_self _ _ _) (by omega) (by omega) (by show 5 < 9; decide) rfl (by decide) (by decide)]
  rw [sNR (N := 10) (va_up_self _ _ _) (by omega) (by omega) (by show 7 < 9; decide) rfl (by decide) (by decide)]
  dsimp only [List.set_cons_succ, List.set_cons_zero]
  generalize hF : va_up (va_up _ _ _) n _ = F
  have F0 : F n = .inr (10, [.ref (n + 1), .ref (n + 2), .ref (n + 3), .ref (n + 4), .ref (n + 5), .ref (n + 6), .int 0, .ref (n + 7), .int 0]) := by
    rw [← hF]
    exact va_up_self _ _ _
  have F1 : F (n + 1) = .inl (.long, 2000, fun _ => .long 0) := by
    rw [← hF]
    unfold va_up
    repeat rw [if_neg (by omega)]
    rw [if_pos (by omega)]
    rfl
  have F2 : F (n + 2) = .inl (.long, 2000, fun _ => .long 0) := by
    rw [← hF]
    unfold va_up
    repeat rw [if_neg (by omega)]
    rw [if_pos (by omega)]
    rfl
  have F3 : F (n + 3) = .inl (.int, 100, fun j => .int ((fun _ => 0) j)) := by
    rw [← hF]
    unfold va_up
    repeat rw [if_neg (by omega)]
    rw [if_pos (by omega)]
    rfl
  have F4 : F (n + 4) = .inl (.long, 12, fun _ => .long 0) := by
    rw [← hF]
    unfold va_up
    repeat rw [if_neg (by omega)]
    rw [if_pos (by omega)]
    rfl
  have F5 : F (n + 5) = .inl (.long, 12, fun _ => .long 0) := by
    rw [← hF]
    unfold va_up
    repeat rw [if_neg (by omega)]
    rw [if_pos (by omega)]
    rfl
  have F6 : F (n + 6) = .inl (.long, 12, fun _ => .long 0) := by
    rw [← hF]
    unfold va_up
    repeat rw [if_neg (by omega)]
    rw [if_pos (by omega)]
    rfl
  have F7 : F (n + 7) = .inl (.object "StowTongue$Unit", 10, fun _ => .null) := by
    rw [← hF]
    unfold va_up
    repeat rw [if_neg (by omega)]
    rw [if_pos (by omega)]
  have Fo : ∀ x, x < n ∨ n + 7 < x → F x = f x := fun x hx => by
    rw [← hF]
    unfold va_up
    repeat rw [if_neg (by omega)]
  clear hF
  rw [show ([.null, .null, .null, .null, .null, .null, .int 0, .null, .int 0] : List Value).length = 9 from rfl]
  rw [gR_of (s := (n + 1 + 1 + 1 + 1 + 1 + 1 + 1 + 1, F, us + 9 + 2000 + 2000 + 100 + 12 + 12 + 12 + 10)) (k := 2) (x := n + 3) F0 (by omega) (by show n < n + 1 + 1 + 1 + 1 + 1 + 1 + 1 + 1; omega) rfl, Option.bind_some, e_fillI (N := 100) (by omega) (by omega) (by decide) F3, bnd_some]
  have e : va_up F (n + 3) (.inl (.int, 100, fun j => .int (if j < 100 then -1 else (fun _ => 0) j))) = HT f n S00 := by
    funext x
    by_cases c : n ≤ x ∧ x ≤ n + 7
    · have q : x = n ∨ x = n + 1 ∨ x = n + 2 ∨ x = n + 3 ∨ x = n + 4 ∨ x = n + 5 ∨ x = n + 6 ∨ x = n + 7 := by omega
      rcases q with rfl | rfl | rfl | rfl | rfl | rfl | rfl | rfl
      · rw [va_up_ne _ _ (by omega), F0, HT_0]
        rfl
      · rw [va_up_ne _ _ (by omega), F1, HT_1]
        rfl
      · rw [va_up_ne _ _ (by omega), F2, HT_2]
        rfl
      · rw [va_up_self, HT_3]
        rfl
      · rw [va_up_ne _ _ (by omega), F4, HT_4]
        rfl
      · rw [va_up_ne _ _ (by omega), F5, HT_5]
        rfl
      · rw [va_up_ne _ _ (by omega), F6, HT_6]
        rfl
      · rw [va_up_ne _ _ (by omega), F7, HT_7]
        rfl
    · rw [va_up_ne _ _ (by omega), Fo x (by omega), HT_off (by omega)]
  rw [e]
end
