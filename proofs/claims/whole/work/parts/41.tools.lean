section
variable {K : am_K} {X : Nat → am_C}
theorem am_topi {M : am_M} {d kc ks uc us pc : Nat} {lv : List (Nat × Value)} {st : List Value} {h : am_H} {post : Option Value → am_H → Prop} {x : Int32} (v : Int32) (e : x = v) (k : am_W K X M d kc ks uc us pc lv (.int v :: st) h post) : am_W K X M d kc ks uc us pc lv (.int x :: st) h post := by
  rw [e]
  exact k
theorem am_topl {M : am_M} {d kc ks uc us pc : Nat} {lv : List (Nat × Value)} {st : List Value} {h : am_H} {post : Option Value → am_H → Prop} {x : Int64} (v : Int64) (e : x = v) (k : am_W K X M d kc ks uc us pc lv (.long v :: st) h post) : am_W K X M d kc ks uc us pc lv (.long x :: st) h post := by
  rw [e]
  exact k
theorem am_in {i : Int32} {n : Nat} (h : ¬ i < 0) (h2 : i.toNatClampNeg < n) : vp_in i n := fun q => q.elim h (fun q => absurd h2 (Nat.not_lt.mpr q))

theorem am_for {M : am_M} {d kc ks uc us pc : Nat} {post : Option Value → am_H → Prop} (B : Nat) (lvk : Nat → List (Nat × Value)) (hk : Nat → am_H) (body : ∀ k, k < B → am_W K X M d kc ks uc us pc (lvk (k + 1)) [] (hk (k + 1)) post → am_W K X M d kc ks uc us pc (lvk k) [] (hk k) post) (fin : am_W K X M d kc ks uc us pc (lvk B) [] (hk B) post) : am_W K X M d kc ks uc us pc (lvk 0) [] (hk 0) post := by
  have key : ∀ m k : Nat, k + m = B → am_W K X M d kc ks uc us pc (lvk k) [] (hk k) post := by
    intro m
    induction m with
    | zero => intro k e; rw [show k = B by omega]; exact fin
    | succ m ih => intro k e; exact body k (by omega) (ih (k + 1) (by omega))
  exact key B 0 (by omega)
end
