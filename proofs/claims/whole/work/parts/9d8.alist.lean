/-! ArrayList 144 of what is told: k Units in an array of N at a -/
def ALR (s : HS) (k N a : Nat) (un : Nat → Nat) : Prop := ∃ (md : Int32) (g : Nat → Value), s.2.1 144 = .inr (3, [.ref a, .int (nI k), .int md]) ∧ 144 < s.1 ∧ k ≤ N ∧ N ≤ 300 ∧ ((a = 1 ∧ N = 0) ∨ (134 < a ∧ a ≠ 144 ∧ a < s.1 ∧ s.2.1 a = .inl (.object "java/lang/Object", N, g) ∧ 10 ≤ N ∧ ∀ i, i < k → g i = .ref (un i)))
def upU (un : Nat → Nat) (k v : Nat) : Nat → Nat := fun i => if i = k then v else un i
section
variable {s : HS} {k N a v d : Nat} {un : Nat → Nat}
theorem al_lenX {g : Nat → Value} (h : s.2.1 a = .inl (.object "java/lang/Object", N, g)) (h1 : 128 ≤ a) (h2 : a < s.1) : lenX s a = some (nI N) := by
  unfold lenX
  rw [if_neg (by omega)]
  exact lenA_of h (by decide) h1 h2
theorem al_grow1 {md : Int32} (h1 : s.2.1 144 = .inr (3, [.ref 1, .int (nI 0), .int md])) (hn : 144 < s.1) : x_AL_grow_ (d + 2) 144 s = some (s.1, (s.1 + 1, va_up (va_up s.2.1 s.1 (.inl (.object "java/lang/Object", 10, fun _ => .null))) 144 (.inr (3, [.ref s.1, .int (nI 0), .int md])), s.2.2 + 10)) := by
  have e0 : va_up s.2.1 s.1 (.inl (.object "java/lang/Object", 10, fun _ => .null)) 144 = .inr (3, [.ref 1, .int (nI 0), .int md]) := (va_up_ne _ _ (by omega)).trans h1
  unfold x_AL_grow_
  dsimp only
  rw [gd_of h1 (by omega) hn, gI_of (k := 1) (x := nI 0) h1 (by omega) hn rfl, Option.bind_some]
  unfold x_AL_grow_I
  dsimp only
  rw [gd_of h1 (by omega) hn, gR_of (k := 0) (x := 1) h1 (by omega) hn rfl, Option.bind_some, show lenX s 1 = some 0 from rfl, Option.bind_some, if_neg (by decide), Option.bind_some, if_pos rfl]
  unfold newR
  rw [if_pos (by decide), Option.bind_some, show (if 10 < nI 0 + 1 then nI 0 + 1 else 10 : Int32).toNatClampNeg = 10 from by decide, pV_of (s := (s.1 + 1, va_up s.2.1 s.1 (.inl (.object "java/lang/Object", 10, fun _ => .null)), s.2.2 + 10)) e0 (by omega) (by show 144 < s.1 + 1; omega) (by show 0 < 3; omega)]
  rfl
theorem al_half {N : Nat} (hN : N ≤ 300) : nI N >>> ((1 : Int32) &&& 31) = nI (N / 2) := by
  have key : ∀ M, M ≤ 300 → nI M >>> ((1 : Int32) &&& 31) = nI (M / 2) := by decide +kernel
  exact key N hN
theorem al_growN {md : Int32} {g : Nat → Value} (h1 : s.2.1 144 = .inr (3, [.ref a, .int (nI N), .int md])) (hn : 144 < s.1) (ha : 134 < a) (ha2 : a < s.1) (ha3 : a ≠ 144) (h2 : s.2.1 a = .inl (.object "java/lang/Object", N, g)) (hN : 10 ≤ N) (hN2 : N ≤ 190) (hu : ∀ i, i < N → g i = .ref (un i)) (ho : ∀ i, i < N → isO s (un i) 4 = true) : ∃ g', x_AL_grow_ (d + 4) 144 s = some (s.1, (s.1 + 1, va_up (va_up s.2.1 s.1 (.inl (.object "java/lang/Object", N + N / 2, g'))) 144 (.inr (3, [.ref s.1, .int (nI N), .int md])), s.2.2 + (N + N / 2))) ∧ ∀ i, i < N → g' i = .ref (un i) := by
  have hM2 : N + N / 2 < 2 ^ 31 := by omega
  have eM : (nI (N + N / 2)).toNatClampNeg = N + N / 2 := nI_clamp hM2
  have eN : (nI N).toNatClampNeg = N := nI_clamp (by omega)
  have z0 : ((0 : Int32).toNatClampNeg) = 0 := rfl
  refine ⟨va_cpy g (fun _ => .null) 0 0 N, ?_, fun i hi => ?_⟩
  · unfold x_AL_grow_
    dsimp only
    rw [gd_of h1 (by omega) hn, gI_of (k := 1) (x := nI N) h1 (by omega) hn rfl, Option.bind_some]
    unfold x_AL_grow_I
    dsimp only
    rw [gd_of h1 (by omega) hn, gR_of (k := 0) (x := a) h1 (by omega) hn rfl, Option.bind_some, al_lenX h2 (by omega) ha2, Option.bind_some, if_pos (show (0 : Int32) < nI N from nI_lt (a := 0) (by omega) (by omega))]
    unfold x_AL_grow_I_b20 x_AS_newLength
    dsimp only
    have e1 : nI N + 1 - nI N = nI 1 := by rw [show nI N + 1 = nI (N + 1) from nI_add N 1, nI_sub (by omega)]; congr 1; omega
    rw [e1, al_half (by omega), if_pos (nI_lt (a := 1) (b := N / 2) (by omega) (by omega)), nI_ad2, if_neg (show ¬ nI (N + N / 2) ≤ 0 from fun q => absurd (nI_lt (a := 0) (b := N + N / 2) (by omega) hM2) (Int32.not_lt.mpr q)), if_neg (show ¬ (2147483639 : Int32) < nI (N + N / 2) from Int32.not_lt.mpr (nI_le (a := N + N / 2) (b := 2147483639) (by omega) (by omega))), bnd_some, gR_of (k := 0) (x := a) h1 (by omega) hn rfl, Option.bind_some]
    unfold x_Arr_copyOf_aLObjectI
    dsimp only
    have hA : isA s a = true := by
      unfold isA
      rw [h2]
      exact decide_eq_true ⟨rfl, by omega, ha2⟩
    rw [if_pos hA]
    unfold x_Arr_copyOf_aLObjectILClass
    dsimp only
    rw [if_pos rfl]
    unfold newR
    rw [eM, if_pos ⟨nI_pos hM2, by omega⟩, Option.bind_some]
    unfold x_Arr_copyOf_aLObjectILClass_b24
    have e2 : va_up s.2.1 s.1 (.inl (.object "java/lang/Object", N + N / 2, fun _ => .null)) a = .inl (.object "java/lang/Object", N, g) := (va_up_ne _ _ (by omega)).trans h2
    rw [al_lenX (s := (s.1 + 1, va_up s.2.1 s.1 (.inl (.object "java/lang/Object", N + N / 2, fun _ => .null)), s.2.2 + (N + N / 2))) e2 (by omega) (by show a < s.1 + 1; omega), Option.bind_some, if_neg (fun q => absurd (nI_le (a := N) (b := N + N / 2) (by omega) hM2) (Int32.not_le.mpr q))]
    unfold cpO
    rw [show (s.1 + 1, va_up s.2.1 s.1 (.inl (.object "java/lang/Object", N + N / 2, fun _ => .null)), s.2.2 + (N + N / 2)).2.1 a = _ from e2, show (s.1 + 1, va_up s.2.1 s.1 (.inl (.object "java/lang/Object", N + N / 2, fun _ => Value.null)), s.2.2 + (N + N / 2)).2.1 s.1 = _ from va_up_self _ _ _]
    dsimp only
    rw [eN, z0, if_pos ⟨rfl, rfl, by omega, by omega, by omega, by omega, by decide, by decide, nI_pos (by omega), by omega, by omega, by
      rw [List.all_eq_true]
      intro i hi
      have hi := List.mem_range.mp hi
      rw [Nat.zero_add, hu i hi]
      dsimp only
      have := ho i hi
      unfold isO at this ⊢
      dsimp only
      by_cases c : un i = s.1
      · rw [c] at this
        cases q : s.2.1 s.1 with
        | inl o => rw [q] at this; exact absurd this Bool.false_ne_true
        | inr o =>
          rw [q] at this
          have := of_decide_eq_true this
          omega
      · rw [va_up_ne _ _ c]
        cases q : s.2.1 (un i) with
        | inl o => rw [q] at this; exact absurd this Bool.false_ne_true
        | inr o =>
          rw [q] at this
          have := of_decide_eq_true this
          exact decide_eq_true ⟨this.1, this.2.1, by omega⟩⟩, Option.bind_some, bx_uu, bnd_some, bnd_some]
    have e3 : va_up s.2.1 s.1 (.inl (.object "java/lang/Object", N + N / 2, va_cpy g (fun _ => .null) 0 0 N)) 144 = .inr (3, [.ref a, .int (nI N), .int md]) := (va_up_ne _ _ (by omega)).trans h1
    rw [pV_of (s := (s.1 + 1, va_up s.2.1 s.1 (.inl (.object "java/lang/Object", N + N / 2, va_cpy g (fun _ => .null) 0 0 N)), s.2.2 + (N + N / 2))) e3 (by omega) (by show 144 < s.1 + 1; omega) (by show 0 < 3; omega)]
    rfl
  · unfold va_cpy
    rw [if_pos ⟨Nat.zero_le _, by omega⟩, Nat.zero_add, Nat.sub_zero, hu i hi]
end
