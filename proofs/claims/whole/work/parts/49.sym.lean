section
variable {K : am_K} {X : Nat → am_C}
set_option maxRecDepth 100000 in
set_option maxHeartbeats 4000000 in
theorem c_in1 {a lo hi : Int64} (h1 : lo ≤ a) (h2 : a ≤ hi) {h : am_H} : am_Mt K X m_Mod_in 0 0 0 [.long a, .long lo, .long hi] h (fun v h' => v = some (.int 1) ∧ h' = h) := by
  refine am_enter (by decide +kernel) (Nat.le_of_ble_eq_true rfl) ?_
  refine am_lload_n d_Mod_in_0 rfl rfl ?_
  refine am_lload_n d_Mod_in_1 rfl rfl ?_
  refine am_lcmp d_Mod_in_2 ?_
  refine am_if_lt (tgt := 17) d_Mod_in_3 (by decide) (fun c => absurd ((lg_cmp_lt _ _).mp c) (Int64.not_lt.mpr h1)) (fun _ => ?_)
  refine am_lload_n d_Mod_in_6 rfl rfl ?_
  refine am_lload d_Mod_in_7 rfl ?_
  refine am_lcmp d_Mod_in_9 ?_
  refine am_if_gt (tgt := 17) d_Mod_in_10 (by decide) (fun c => absurd ((lg_cmp_gt _ _).mp c) (Int64.not_lt.mpr h2)) (fun _ => ?_)
  refine am_iconst (v := 1) d_Mod_in_13 (by decide) ?_
  refine am_goto (tgt := 18) d_Mod_in_14 (by decide) ?_
  exact am_zret rfl rfl d_Mod_in_18 ⟨rfl, rfl⟩

set_option maxRecDepth 100000 in
set_option maxHeartbeats 4000000 in
theorem c_in0 {a lo hi : Int64} (h1 : a < lo ∨ hi < a) {h : am_H} : am_Mt K X m_Mod_in 0 0 0 [.long a, .long lo, .long hi] h (fun v h' => v = some (.int 0) ∧ h' = h) := by
  refine am_enter (by decide +kernel) (Nat.le_of_ble_eq_true rfl) ?_
  refine am_lload_n d_Mod_in_0 rfl rfl ?_
  refine am_lload_n d_Mod_in_1 rfl rfl ?_
  refine am_lcmp d_Mod_in_2 ?_
  refine am_if_lt (tgt := 17) d_Mod_in_3 (by decide) (fun c => ?_) (fun c => ?_)
  · refine am_iconst (v := 0) d_Mod_in_17 (by decide) ?_
    exact am_zret rfl rfl d_Mod_in_18 ⟨rfl, rfl⟩
  · refine am_lload_n d_Mod_in_6 rfl rfl ?_
    refine am_lload d_Mod_in_7 rfl ?_
    refine am_lcmp d_Mod_in_9 ?_
    refine am_if_gt (tgt := 17) d_Mod_in_10 (by decide) (fun _ => ?_) (fun c2 => ?_)
    · refine am_iconst (v := 0) d_Mod_in_17 (by decide) ?_
      exact am_zret rfl rfl d_Mod_in_18 ⟨rfl, rfl⟩
    · exact absurd h1 (fun q => q.elim (fun q => c ((lg_cmp_lt _ _).mpr q)) (fun q => c2 ((lg_cmp_gt _ _).mpr q)))

theorem in_lo {x : Int32} {k : Int} (h : x.toInt < k) {c : Int64} (hc : c.toInt = k) : x.toInt64 < c := by
  rw [Int64.lt_iff_toInt_lt, hc, Int32.toInt_toInt64]
  exact h
theorem in_hi {x : Int32} {k : Int} (h : k < x.toInt) {c : Int64} (hc : c.toInt = k) : c < x.toInt64 := by
  rw [Int64.lt_iff_toInt_lt, hc, Int32.toInt_toInt64]
  exact h
theorem in_le {x : Int32} {k : Int} (h : k ≤ x.toInt) {c : Int64} (hc : c.toInt = k) : c ≤ x.toInt64 := by
  rw [Int64.le_iff_toInt_le, hc, Int32.toInt_toInt64]
  exact h
theorem in_ge {x : Int32} {k : Int} (h : x.toInt ≤ k) {c : Int64} (hc : c.toInt = k) : x.toInt64 ≤ c := by
  rw [Int64.le_iff_toInt_le, hc, Int32.toInt_toInt64]
  exact h
theorem xl {x c : Int32} {k : Int} (h : x.toInt < k) (hc : c.toInt = k) : x < c := by
  rw [Int32.lt_iff_toInt_lt, hc]
  exact h
theorem xg {x c : Int32} {k : Int} (h : k < x.toInt) (hc : c.toInt = k) : c < x := by
  rw [Int32.lt_iff_toInt_lt, hc]
  exact h
theorem xle {x c : Int32} {k : Int} (h : x.toInt ≤ k) (hc : c.toInt = k) : x ≤ c := by
  rw [Int32.le_iff_toInt_le, hc]
  exact h
theorem xge {x c : Int32} {k : Int} (h : k ≤ x.toInt) (hc : c.toInt = k) : c ≤ x := by
  rw [Int32.le_iff_toInt_le, hc]
  exact h
theorem xne {x c : Int32} {k : Int} (h : ¬ x.toInt = k) (hc : c.toInt = k) : ¬ x = c := fun e => h (by rw [e, hc])
end
