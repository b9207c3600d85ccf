section
variable {K : am_K} {X : Nat → am_C}
theorem in_lo {x : Int32} {k : Int} (h : x.toInt < k) {c : Int64} (hc : c.toInt = k) : x.toInt64 < c := by
  rw [Int64.lt_iff_toInt_lt, hc, Int32.toInt_toInt64]
  exact h
theorem in_hi {x : Int32} {k : Int} (h : k < x.toInt) {c : Int64} (hc : c.toInt = k) : c < x.toInt64 := by
  rw [Int64.lt_iff_toInt_lt, hc, Int32.toInt_toInt64]
  exact h
theorem in_le {x : Int32} {k : Int} (h : k ≤ x.toInt) {c : Int64} (hc : c.toInt = k) : c ≤ x.toInt64 := by
  rw [Int64.le_iff_toInt_le, hc, Int32.toInt_toInt64]
  exact h
theorem in_ge {x : Int32} {k : Int} (h : x.toInt ≤ k) {c : Int64} (hc : c.toInt = k) : x.toInt64 ≤ c := by
  rw [Int64.le_iff_toInt_le, hc, Int32.toInt_toInt64]
  exact h
theorem xl {x c : Int32} {k : Int} (h : x.toInt < k) (hc : c.toInt = k) : x < c := by
  rw [Int32.lt_iff_toInt_lt, hc]
  exact h
theorem xg {x c : Int32} {k : Int} (h : k < x.toInt) (hc : c.toInt = k) : c < x := by
  rw [Int32.lt_iff_toInt_lt, hc]
  exact h
theorem xle {x c : Int32} {k : Int} (h : x.toInt ≤ k) (hc : c.toInt = k) : x ≤ c := by
  rw [Int32.le_iff_toInt_le, hc]
  exact h
theorem xge {x c : Int32} {k : Int} (h : k ≤ x.toInt) (hc : c.toInt = k) : c ≤ x := by
  rw [Int32.le_iff_toInt_le, hc]
  exact h
theorem xne {x c : Int32} {k : Int} (h : ¬ x.toInt = k) (hc : c.toInt = k) : ¬ x = c := fun e => h (by rw [e, hc])
end
