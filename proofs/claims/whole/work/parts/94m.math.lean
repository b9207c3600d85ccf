/-! Math.min and Math.abs of longs -/
section AMML
variable {K : am_K} {X : Nat → am_C} {M : am_M} {d kc ks uc us pc : Nat} {lv : List (Nat × Value)} {st : List Value} {h : am_H} {post : Option Value → am_H → Prop}
theorem am_mminL {ix : Nat} {x y : Int64} (hw : Cond.methodLink M.1.cls ix Lib.MathLoose.min_long.x ∈ am_tbl) (hw2 : Cond.static Lib.MathLoose.min_long.x ∈ am_tbl) (hw3 : Cond.initialized "java/lang/Math" ∈ am_tbl) (hw4 : Cond.code Lib.MathLoose.min_long.x Lib.MathLoose.min_long.code 4 (some .long) ∈ am_tbl) (hd : decode M.2.1 pc = .ok (.invokestatic ix, 3)) (hst : (st.map fun v => v.category).sum ≤ 8) (hdd : 1 ≤ d) (kk : am_W K X M d kc ks uc us (pc + 3) lv (.long (if y < x then y else x) :: st) h post) : am_W K X M d kc ks uc us pc lv (.long y :: .long x :: st) h post := by
  intro p l e R s m args below meth c H locs cells slots ls z hH hL hl h1 h2
  have hcat : ((st.map (am_tr K)).map fun v => v.category).sum ≤ 8 := by
    rw [List.map_map, show ((fun v : Value => v.category) ∘ am_tr K) = fun v => v.category from funext (am_cat K)]
    exact hst
  obtain ⟨z1, z2, z3, z4, z5, z6, z7, z8, z9, z10, z11⟩ := id z
  exact va_mmin_long z1 z2 (by rw [z3]; exact hl.1.symm) z4 (z5 _ hw) (z5 _ hw2) (z5 _ hw3) (z5 _ hw4) (by omega) (by omega) (by omega) (by omega) hd (kk p l e R s m args below meth c H locs cells slots ls z hH hL hl h1 h2)
theorem am_mabsL {ix : Nat} {x : Int64} (hw : Cond.methodLink M.1.cls ix Lib.MathLoose.abs_long.x ∈ am_tbl) (hw2 : Cond.static Lib.MathLoose.abs_long.x ∈ am_tbl) (hw3 : Cond.initialized "java/lang/Math" ∈ am_tbl) (hw4 : Cond.code Lib.MathLoose.abs_long.x Lib.MathLoose.abs_long.code 2 (some .long) ∈ am_tbl) (hd : decode M.2.1 pc = .ok (.invokestatic ix, 3)) (hst : (st.map fun v => v.category).sum ≤ 8) (hdd : 1 ≤ d) (kk : am_W K X M d kc ks uc us (pc + 3) lv (.long (if 0 < x then x else -x) :: st) h post) : am_W K X M d kc ks uc us pc lv (.long x :: st) h post := by
  intro p l e R s m args below meth c H locs cells slots ls z hH hL hl h1 h2
  have hcat : ((st.map (am_tr K)).map fun v => v.category).sum ≤ 8 := by
    rw [List.map_map, show ((fun v : Value => v.category) ∘ am_tr K) = fun v => v.category from funext (am_cat K)]
    exact hst
  obtain ⟨z1, z2, z3, z4, z5, z6, z7, z8, z9, z10, z11⟩ := id z
  exact va_mabs_long z1 z2 (by rw [z3]; exact hl.1.symm) z4 (z5 _ hw) (z5 _ hw2) (z5 _ hw3) (z5 _ hw4) (by omega) (by omega) (by omega) (by omega) hd (kk p l e R s m args below meth c H locs cells slots ls z hH hL hl h1 h2)
end AMML
