section
variable {n us d hh tt N r u : Nat} {f : Nat → am_C} {hd tl : Nat → Int64} {cu : Nat → Value} {cn cb : Nat → Int32} {S : SC} {O : oS} {fu tp bs pc cl tk er dn : Int32} {rh rt : Int64} {mf : List Value}
variable {x : Int32}
theorem W_cellsOf (D : DW n hh tt r) (I : SI S) : x_Store_cellsOf d r x (n, WK f mf hh tt N hd tl cu cn cb r S O, us) = some (nI (cOf S x), (n, WK f mf hh tt N hd tl cu cn cb r (S) O, us)) := e_cellsOf (show 128 ≤ r by have := D.2.2.2.2.2.1; omega) D.2.2.2.2.2.2.1 I
theorem W_firstCell (D : DW n hh tt r) : x_Store_firstCell d r x (n, WK f mf hh tt N hd tl cu cn cb r S O, us) = some (nI (fO x), (n, WK f mf hh tt N hd tl cu cn cb r (S) O, us)) := e_firstCell (show 128 ≤ r by have := D.2.2.2.2.2.1; omega) D.2.2.2.2.2.2.1 
theorem W_make (D : DW n hh tt r) : x_Store_make d r (n, WK f mf hh tt N hd tl cu cn cb r S O, us) = some ((match (c_make S).1 with | none => -1 | some i => nI i), (n, WK f mf hh tt N hd tl cu cn cb r ((c_make S).2) O, us)) := e_make (show 128 ≤ r by have := D.2.2.2.2.2.1; omega) D.2.2.2.2.2.2.1 
theorem W_append (D : DW n hh tt r) (I : SI S) {h t : Int64} : x_Store_append (d + 1) r x h t (n, WK f mf hh tt N hd tl cu cn cb r S O, us) = some (if (c_app S x h t).1 = true then 1 else 0, (n, WK f mf hh tt N hd tl cu cn cb r ((c_app S x h t).2) O, us)) := e_append (show 128 ≤ r by have := D.2.2.2.2.2.1; omega) D.2.2.2.2.2.2.1 I
theorem W_dropLast (D : DW n hh tt r) (I : SI S) : x_Store_dropLast (d + 1) r x (n, WK f mf hh tt N hd tl cu cn cb r S O, us) = some ((), (n, WK f mf hh tt N hd tl cu cn cb r (c_dl S x) O, us)) := e_dropLastS (show 128 ≤ r by have := D.2.2.2.2.2.1; omega) D.2.2.2.2.2.2.1 I
theorem W_fieldCell (D : DW n hh tt r) (I : SI S) {y : Int64} : x_Store_fieldCell (d + 1) r x y (n, WK f mf hh tt N hd tl cu cn cb r S O, us) = some (c_fc S x y, (n, WK f mf hh tt N hd tl cu cn cb r (S) O, us)) := e_fieldCell (show 128 ≤ r by have := D.2.2.2.2.2.1; omega) D.2.2.2.2.2.2.1 I
theorem W_setField (D : DW n hh tt r) (I : SI S) {y h t : Int64} : x_Store_setField (d + 2) r x y h t (n, WK f mf hh tt N hd tl cu cn cb r S O, us) = some (if (c_setF S x y h t).1 = true then 1 else 0, (n, WK f mf hh tt N hd tl cu cn cb r ((c_setF S x y h t).2) O, us)) := e_setField (show 128 ≤ r by have := D.2.2.2.2.2.1; omega) D.2.2.2.2.2.2.1 I
theorem W_rootAt (D : DW n hh tt r) (I : SI S) {y : Int64} : x_Store_rootAt d r y (n, WK f mf hh tt N hd tl cu cn cb r S O, us) = some (s_find S.2.2.2.1 S.2.2.2.2.2.2.1 y, (n, WK f mf hh tt N hd tl cu cn cb r (S) O, us)) := e_rootAtS (show 128 ≤ r by have := D.2.2.2.2.2.1; omega) D.2.2.2.2.2.2.1 I
theorem W_setRoot (D : DW n hh tt r) (I : SI S) {y h t : Int64} : x_Store_setRoot (d + 1) r y h t (n, WK f mf hh tt N hd tl cu cn cb r S O, us) = some (if (c_setR S y h t).1 = true then 1 else 0, (n, WK f mf hh tt N hd tl cu cn cb r ((c_setR S y h t).2) O, us)) := e_setRoot (show 128 ≤ r by have := D.2.2.2.2.2.1; omega) D.2.2.2.2.2.2.1 I
theorem W_g1 (D : DW n hh tt r) : gR (n, WK f mf hh tt N hd tl cu cn cb r S O, us) r 10 0 = some (r + 1) := t_g1 (show 128 ≤ r by have := D.2.2.2.2.2.1; omega) D.2.2.2.2.2.2.1
theorem W_g2 (D : DW n hh tt r) : gR (n, WK f mf hh tt N hd tl cu cn cb r S O, us) r 10 1 = some (r + 2) := t_g2 (show 128 ≤ r by have := D.2.2.2.2.2.1; omega) D.2.2.2.2.2.2.1
theorem W_g5 (D : DW n hh tt r) : gR (n, WK f mf hh tt N hd tl cu cn cb r S O, us) r 10 4 = some (r + 5) := t_g5 (show 128 ≤ r by have := D.2.2.2.2.2.1; omega) D.2.2.2.2.2.2.1
theorem W_g6 (D : DW n hh tt r) : gR (n, WK f mf hh tt N hd tl cu cn cb r S O, us) r 10 5 = some (r + 6) := t_g6 (show 128 ≤ r by have := D.2.2.2.2.2.1; omega) D.2.2.2.2.2.2.1
theorem W_a1 (D : DW n hh tt r) {i : Nat} (hi : i < 2000) : aL (n, WK f mf hh tt N hd tl cu cn cb r S O, us) (r + 1) (nI i) = some (S.1 i) := t_a1 (show 128 ≤ r by have := D.2.2.2.2.2.1; omega) D.2.2.2.2.2.2.1 hi
theorem W_a2 (D : DW n hh tt r) {i : Nat} (hi : i < 2000) : aL (n, WK f mf hh tt N hd tl cu cn cb r S O, us) (r + 2) (nI i) = some (S.2.1 i) := t_a2 (show 128 ≤ r by have := D.2.2.2.2.2.1; omega) D.2.2.2.2.2.2.1 hi
theorem W_a5 (D : DW n hh tt r) {i : Nat} (hi : i < 12) : aL (n, WK f mf hh tt N hd tl cu cn cb r S O, us) (r + 5) (nI i) = some (S.2.2.2.2.1 i) := t_a5 (show 128 ≤ r by have := D.2.2.2.2.2.1; omega) D.2.2.2.2.2.2.1 hi
theorem W_a6 (D : DW n hh tt r) {i : Nat} (hi : i < 12) : aL (n, WK f mf hh tt N hd tl cu cn cb r S O, us) (r + 6) (nI i) = some (S.2.2.2.2.2.1 i) := t_a6 (show 128 ≤ r by have := D.2.2.2.2.2.1; omega) D.2.2.2.2.2.2.1 hi
theorem W_s1 (D : DW n hh tt r) {i : Nat} (hi : i < 2000) {v : Int64} : sV (n, WK f mf hh tt N hd tl cu cn cb r S O, us) .long (r + 1) (nI i) (.long v) = some (n, WK f mf hh tt N hd tl cu cn cb r ((upL S.1 i v, S.2)) O, us) := t_s1 (show 128 ≤ r by have := D.2.2.2.2.2.1; omega) D.2.2.2.2.2.2.1 hi
theorem W_s2 (D : DW n hh tt r) {i : Nat} (hi : i < 2000) {v : Int64} : sV (n, WK f mf hh tt N hd tl cu cn cb r S O, us) .long (r + 2) (nI i) (.long v) = some (n, WK f mf hh tt N hd tl cu cn cb r ((S.1, upL S.2.1 i v, S.2.2)) O, us) := t_s2 (show 128 ≤ r by have := D.2.2.2.2.2.1; omega) D.2.2.2.2.2.2.1 hi
theorem W_OutAdd (D : DW n hh tt r) (hO : O.1 ≤ 600) : x_Out_add d 130 x (n, WK f mf hh tt N hd tl cu cn cb r S O, us) = some ((), (n, WK f mf hh tt N hd tl cu cn cb r S (s_add O x), us)) := by
  rw [W_out D, e_OutAdd (show 131 < n by have := D.2.2.2.2.2.2.1; have := D.2.2.2.2.2.1; omega) hO, ← W_out D]
theorem W_OutNum (D : DW n hh tt r) (hO : O.1 ≤ 600) {y : Int64} : x_Out_addNumber (d + 1) 130 y (n, WK f mf hh tt N hd tl cu cn cb r S O, us) = some ((), (n, WK f mf hh tt N hd tl cu cn cb r S (s_num y O), us)) := by
  rw [W_out D, e_OutNum (show 131 < n by have := D.2.2.2.2.2.2.1; have := D.2.2.2.2.2.1; omega) hO, ← W_out D]
theorem W_OutText (D : DW n hh tt r) (hO : O.1 ≤ 600) {y z : Int64} : x_Out_addText (d + 2) 130 y z (n, WK f mf hh tt N hd tl cu cn cb r S O, us) = some ((), (n, WK f mf hh tt N hd tl cu cn cb r S (s_at y z (s_signs y z) 0 O), us)) := by
  rw [W_out D, e_OutText (show 131 < n by have := D.2.2.2.2.2.2.1; have := D.2.2.2.2.2.1; omega) hO, ← W_out D]
theorem W_spilled (D : DW n hh tt r) (h : O.2.1 = 0 ∨ O.2.1 = 1) : x_Out_spilled d 130 (n, WK f mf hh tt N hd tl cu cn cb r S O, us) = some (O.2.1, (n, WK f mf hh tt N hd tl cu cn cb r S O, us)) := by
  rw [W_out D, e_OutSpilled (show 131 < n by have := D.2.2.2.2.2.2.1; have := D.2.2.2.2.2.1; omega) h]
theorem lc_lt {x y : Int64} : lg_cmp x y < 0 ↔ x < y := by
  constructor
  · intro h
    apply Classical.byContradiction
    intro w
    have w2 : ¬ x.toInt < y.toInt := fun q => w (Int64.lt_iff_toInt_lt.mpr q)
    unfold lg_cmp at h
    (repeat' split at h) <;> first | exact absurd h (by decide) | (rename_i a b; first | exact a (Int64.toInt_inj.mp (by simp [Int64.lt_iff_toInt_lt] at *; omega)) | exact b (Int64.toInt_inj.mp (by simp [Int64.lt_iff_toInt_lt] at *; omega)) | (simp [Int64.lt_iff_toInt_lt] at *; omega))
  · intro h
    have h' := Int64.lt_iff_toInt_lt.mp h
    unfold lg_cmp
    (repeat' split) <;> first | decide | (exfalso; rename_i a; subst a; omega) | (exfalso; simp [Int64.lt_iff_toInt_lt] at *; omega)

end
/-- how the Machine's memory grows -/
def GM (r n us : Nat) (f : Nat → am_C) (hh tt N n' us' : Nat) (f' : Nat → am_C) (hh' tt' N' : Nat) : Prop :=
  DW n' hh' tt' r ∧ n ≤ n' ∧ (hh' = hh ∨ n ≤ hh') ∧ (tt' = tt ∨ n ≤ tt') ∧ (∀ x, x < n → x ≠ hh → x ≠ tt → f' x = f x) ∧ us' + 4 * N = us + 4 * N' ∧ 32 * n' + N ≤ 32 * n + N' ∧ N ≤ N' ∧ (N' ≤ 16384 ∨ N' = N)
theorem GM.rfl' {r n us : Nat} {f : Nat → am_C} {hh tt N : Nat} (D : DW n hh tt r) : GM r n us f hh tt N n us f hh tt N := ⟨D, Nat.le_refl _, Or.inl rfl, Or.inl rfl, fun _ _ _ _ => rfl, rfl, Nat.le_refl _, Nat.le_refl _, Or.inr rfl⟩
theorem GM.trans {r n us : Nat} {f : Nat → am_C} {hh tt N n1 us1 : Nat} {f1 : Nat → am_C} {hh1 tt1 N1 n2 us2 : Nat} {f2 : Nat → am_C} {hh2 tt2 N2 : Nat} (a : GM r n us f hh tt N n1 us1 f1 hh1 tt1 N1) (b : GM r n1 us1 f1 hh1 tt1 N1 n2 us2 f2 hh2 tt2 N2) : GM r n us f hh tt N n2 us2 f2 hh2 tt2 N2 := by
  obtain ⟨a1, a2, a3, a4, a5, a6, a7, a8, a9⟩ := a
  obtain ⟨b1, b2, b3, b4, b5, b6, b7, b8, b9⟩ := b
  exact ⟨b1, by omega, by omega, by omega, fun x h1 h2 h3 => (b5 x (by omega) (by omega) (by omega)).trans (a5 x h1 h2 h3), by omega, by omega, by omega, by omega⟩
section
variable {n us d hh tt N r u : Nat} {f : Nat → am_C} {hd tl : Nat → Int64} {cu : Nat → Value} {cn cb : Nat → Int32} {S : SC} {O : oS} {fu tp bs pc cl tk er dn : Int32} {rh rt : Int64} {mf : List Value}
variable {T : Nat}
theorem grow_eq (D : DW n hh tt r) {g1 g2 : Nat → Int64} {mg mk : List Value} : va_up (va_up (va_up (va_up (WK f mf hh tt N hd tl cu cn cb r S O) n (.inl (.long, 2 * N, fun j => .long (g1 j)))) 148 (.inr (6, mg))) (n + 1) (.inl (.long, 2 * N, fun j => .long (g2 j)))) 148 (.inr (6, mk)) = WK (va_up (va_up f hh (.inl (.long, N, fun j => .long (hd j)))) tt (.inl (.long, N, fun j => .long (tl j)))) mk n (n + 1) (2 * N) g1 g2 cu cn cb r S O := by
  have D' := D
  obtain ⟨d1, d2, d3, d4, d5, d6, d7, d8, d9, d10, d11, d12, d13, d14, d15, d16, d17, d18, d19, d20, d21⟩ := D
  have E : DW (n + 2) n (n + 1) r := ⟨by omega, by omega, by omega, by omega, by omega, d6, by omega, by omega, by omega, by omega, by omega, by omega, by omega, by omega, by omega, by omega, by omega, by omega, by omega, by omega, by omega⟩
  funext x
  by_cases h1 : x = 148
  · rw [h1, va_up_self, W_M E]
  · rw [va_up_ne _ _ h1]
    by_cases h2 : x = n + 1
    · rw [h2, va_up_self, W_T E]
    · rw [va_up_ne _ _ h2, va_up_ne _ _ h1]
      by_cases h3 : x = n
      · rw [h3, va_up_self, W_H E]
      · rw [va_up_ne _ _ h3]
        by_cases h4 : x = hh
        · rw [h4, W_H D', W_off E (by omega) (by omega) (by omega) (by omega) (by omega) (by omega) (by omega) (by omega) (by omega), va_up_ne _ _ d5, va_up_self]
        · by_cases h5 : x = tt
          · rw [h5, W_T D', W_off E (by omega) (by omega) (by omega) (by omega) (by omega) (by omega) (by omega) (by omega) (by omega), va_up_self]
          · unfold WK
            by_cases k1 : x < r ∨ r + 7 < x
            · rw [HT_off k1, HT_off k1]
              by_cases k2 : x = 130 ∨ x = 131
              · rcases k2 with rfl | rfl <;> rfl
              · rw [HO_off (by omega) (by omega), HO_off (by omega) (by omega)]
                unfold HK
                simp only [if_neg h1, if_neg h2, if_neg h3, if_neg h4, if_neg h5, va_up_ne _ _ h5, va_up_ne _ _ h4]
            · unfold HT
              (repeat' split) <;> first | rfl | omega
theorem k_layG (D : DW n hh tt r) (h64 : 64 ≤ N) (hN : N ≤ 16384) (hT : T ≤ N) (hT2 : T < 8192) {h t : Int64} : ∃ (n' us' hh' tt' N' : Nat) (f' : Nat → am_C) (hd' tl' : Nat → Int64), x_Mach_lay (d + 2) 148 h t (n, WW f hh tt N hd tl cu cn cb r S O fu (nI T) bs u pc cl tk er dn rh rt, us) = some ((), (n', WW (f') (hh') (tt') (N') (hd') (tl') cu cn cb r S O fu (nI (T + 1)) bs u pc cl tk er dn rh rt, us')) ∧ GM r n us f hh tt N n' us' f' hh' tt' N' ∧ (∀ j, j < T → hd' j = hd j ∧ tl' j = tl j) ∧ hd' T = h ∧ tl' T = t ∧ T + 1 ≤ N' := by
  by_cases c : T < N
  · refine ⟨n, us, hh, tt, N, f, upL hd T h, upL tl T t, k_lay D (by omega) c, GM.rfl' D, fun j hj => ⟨if_neg (by omega), if_neg (by omega)⟩, if_pos rfl, if_pos rfl, c⟩
  · obtain rfl : T = N := by omega
    have D' := D
    obtain ⟨d1, d2, d3, d4, d5, d6, d7, d8, d9, d10, d11, d12, d13, d14, d15, d16, d17, d18, d19, d20, d21⟩ := D
    have E : DW (n + 2) n (n + 1) r := ⟨by omega, by omega, by omega, by omega, by omega, d6, by omega, by omega, by omega, by omega, by omega, by omega, by omega, by omega, by omega, by omega, by omega, by omega, by omega, by omega, by omega⟩
    obtain ⟨g1, p1, p2, p3⟩ := e_copyJ (d := d) (us := us) (M := 2 * T) (W_H D' (f := f) (mf := mF hh tt r fu (nI T) bs u pc cl tk er dn rh rt) (N := T) (hd := hd) (tl := tl) (cu := cu) (cn := cn) (cb := cb) (S := S) (O := O)) d1 d2 (by omega) (by omega)
    have e2 : (2 : Int32) * nI T = nI (2 * T) := nI_mul 2 T
    unfold x_Mach_lay
    dsimp only
    rw [m_gd0 D', m_g2 D', Option.bind_some, m_g0 D', Option.bind_some, w_lH D', Option.bind_some, if_pos rfl, Option.bind_some, if_pos (show nI T < 8192 from nI_lt (b := 8192) hT2 (by decide)), Option.bind_some, Option.bind_some, e2, p1, bnd_some]
    have c1 : va_up (WW f hh tt (T) hd tl cu cn cb r S O fu (nI T) bs u pc cl tk er dn rh rt) n (.inl (.long, 2 * T, fun j => .long (g1 j))) 148 = .inr (6, mF hh tt r fu (nI T) bs u pc cl tk er dn rh rt) := (va_up_ne _ _ (by omega)).trans (W_M D')
    rw [pV_of (s := (n + 1, va_up (WW f hh tt (T) hd tl cu cn cb r S O fu (nI T) bs u pc cl tk er dn rh rt) n (.inl (.long, 2 * T, fun j => .long (g1 j))), us + 2 * T)) c1 (by decide) (show 148 < n + 1 by omega) (Nat.le_of_ble_eq_true rfl), Option.bind_some]
    simp only [List.set_cons_succ, List.set_cons_zero]
    have c2 : ∀ q, q ≠ 148 → q ≠ n → va_up (va_up (WW f hh tt (T) hd tl cu cn cb r S O fu (nI T) bs u pc cl tk er dn rh rt) n (.inl (.long, 2 * T, fun j => .long (g1 j)))) 148 (.inr (6, [.ref n, .ref tt, .int (nI T), .int bs, .ref u, .int pc, .ref 151, .ref 152, .ref 153, .int cl, .ref r, .ref 130, .int fu, .int tk, .int er, .int dn, .long rh, .long rt])) q = (WW f hh tt (T) hd tl cu cn cb r S O fu (nI T) bs u pc cl tk er dn rh rt) q := fun q h1 h2 => (va_up_ne _ _ h1).trans (va_up_ne _ _ h2)
    obtain ⟨g2, q1, q2, q3⟩ := e_copyJ (d := d) (us := us + 2 * T) (M := 2 * T) (n := n + 1) ((c2 tt (by omega) (by omega)).trans (W_T D')) d3 (by omega) (by omega) (by omega)
    have gg1 := gR_of (s := (n + 1, va_up (va_up (WW f hh tt (T) hd tl cu cn cb r S O fu (nI T) bs u pc cl tk er dn rh rt) n (.inl (.long, 2 * T, fun j => .long (g1 j)))) 148 (.inr (6, [.ref n, .ref tt, .int (nI T), .int bs, .ref u, .int pc, .ref 151, .ref 152, .ref 153, .int cl, .ref r, .ref 130, .int fu, .int tk, .int er, .int dn, .long rh, .long rt])), us + 2 * T)) (k := 1) (x := tt) (va_up_self _ _ _) (by decide) (show 148 < n + 1 by omega) rfl
    have gg2 := gI_of (s := (n + 1, va_up (va_up (WW f hh tt (T) hd tl cu cn cb r S O fu (nI T) bs u pc cl tk er dn rh rt) n (.inl (.long, 2 * T, fun j => .long (g1 j)))) 148 (.inr (6, [.ref n, .ref tt, .int (nI T), .int bs, .ref u, .int pc, .ref 151, .ref 152, .ref 153, .int cl, .ref r, .ref 130, .int fu, .int tk, .int er, .int dn, .long rh, .long rt])), us + 2 * T)) (k := 2) (x := nI T) (va_up_self _ _ _) (by decide) (show 148 < n + 1 by omega) rfl
    rw [gg1, Option.bind_some, gg2, Option.bind_some, e2, q1, bnd_some]
    rw [pV_of (s := (n + 1 + 1, va_up (va_up (va_up (WW f hh tt (T) hd tl cu cn cb r S O fu (nI T) bs u pc cl tk er dn rh rt) n (.inl (.long, 2 * T, fun j => .long (g1 j)))) 148 (.inr (6, [.ref n, .ref tt, .int (nI T), .int bs, .ref u, .int pc, .ref 151, .ref 152, .ref 153, .int cl, .ref r, .ref 130, .int fu, .int tk, .int er, .int dn, .long rh, .long rt]))) (n + 1) (.inl (.long, 2 * T, fun j => .long (g2 j))), us + 2 * T + 2 * T)) ((va_up_ne _ _ (by omega)).trans (va_up_self _ _ _)) (by decide) (show 148 < n + 1 + 1 by omega) (Nat.le_of_ble_eq_true rfl), Option.bind_some]
    simp only [List.set_cons_succ, List.set_cons_zero]
    rw [grow_eq D']
    rw [show n + 1 + 1 = n + 2 from rfl, k_lay63 E (by omega) (show T < 2 * T by omega)]
    refine ⟨n + 2, us + 2 * T + 2 * T, n, n + 1, 2 * T, _, _, _, rfl, ⟨E, by omega, Or.inr (Nat.le_refl _), Or.inr (by omega), fun x h1 h2 h3 => (va_up_ne _ _ h3).trans (va_up_ne _ _ h2), by omega, by omega, by omega, by omega⟩, fun j hj => ⟨(if_neg (by omega)).trans (p2 j hj (by omega)), (if_neg (by omega)).trans (q2 j hj (by omega))⟩, if_pos rfl, if_pos rfl, by omega⟩
end
