/-! the cells behind the two constructors -/
set_option maxRecDepth 100000 in
set_option maxHeartbeats 4000000 in
theorem k_131 {X : Nat → am_C} {aL : Nat → Int64} : p1_f X aL 131 = .inl (.byte, 600, fun _ => .int 0) := by
  unfold p1_f
  rw [F_Mod_init_lt (by omega) (by omega), va_up_ne _ _ (by omega)]
  rfl
set_option maxRecDepth 100000 in
set_option maxHeartbeats 4000000 in
theorem k_134 {X : Nat → am_C} {aL : Nat → Int64} : p1_f X aL 134 = .inl (.long, 12, fun j => .long (aL j)) := by
  unfold p1_f
  rw [F_Mod_init_lt (by omega) (by omega), va_up_ne _ _ (by omega)]
  rfl
set_option maxRecDepth 100000 in
set_option maxHeartbeats 4000000 in
theorem k_139 {X : Nat → am_C} {aL : Nat → Int64} : p1_f X aL 139 = .inl (.long, 16, fun _ => .long 0) := by
  unfold p1_f
  rw [F_Mod_init_lt (by omega) (by omega), va_up_ne _ _ (by omega)]
  rfl
set_option maxRecDepth 100000 in
set_option maxHeartbeats 4000000 in
theorem k_140 {X : Nat → am_C} {aL : Nat → Int64} : p1_f X aL 140 = .inr (2, [.ref 141, .int 0, .ref 142, .int 0, .ref 143, .int 0]) := by
  unfold p1_f
  rw [F_Mod_init_lt (by omega) (by omega), va_up_ne _ _ (by omega)]
  rfl
set_option maxRecDepth 100000 in
set_option maxHeartbeats 4000000 in
theorem k_141 {X : Nat → am_C} {aL : Nat → Int64} : p1_f X aL 141 = .inl (.int, 128, fun _ => .int 0) := by
  unfold p1_f
  rw [F_Mod_init_lt (by omega) (by omega), va_up_ne _ _ (by omega)]
  rfl
set_option maxRecDepth 100000 in
set_option maxHeartbeats 4000000 in
theorem k_142 {X : Nat → am_C} {aL : Nat → Int64} : p1_f X aL 142 = .inl (.long, 32, fun _ => .long 0) := by
  unfold p1_f
  rw [F_Mod_init_lt (by omega) (by omega), va_up_ne _ _ (by omega)]
  rfl
set_option maxRecDepth 100000 in
set_option maxHeartbeats 4000000 in
theorem k_143 {X : Nat → am_C} {aL : Nat → Int64} : p1_f X aL 143 = .inl (.long, 16, fun _ => .long 0) := by
  unfold p1_f
  rw [F_Mod_init_lt (by omega) (by omega), va_up_ne _ _ (by omega)]
  rfl
set_option maxRecDepth 100000 in
set_option maxHeartbeats 4000000 in
theorem k_151 {X : Nat → am_C} {aL : Nat → Int64} : p1_f X aL 151 = .inl (.object "StowTongue$Unit", 8, fun _ => .null) := by
  unfold p1_f
  rw [F_Mod_init_lt (by omega) (by omega), va_up_ne _ _ (by omega)]
  rfl
set_option maxRecDepth 100000 in
set_option maxHeartbeats 4000000 in
theorem k_152 {X : Nat → am_C} {aL : Nat → Int64} : p1_f X aL 152 = .inl (.int, 8, fun _ => .int 0) := by
  unfold p1_f
  rw [F_Mod_init_lt (by omega) (by omega), va_up_ne _ _ (by omega)]
  rfl
set_option maxRecDepth 100000 in
set_option maxHeartbeats 4000000 in
theorem k_153 {X : Nat → am_C} {aL : Nat → Int64} : p1_f X aL 153 = .inl (.int, 8, fun _ => .int 0) := by
  unfold p1_f
  rw [F_Mod_init_lt (by omega) (by omega), va_up_ne _ _ (by omega)]
  rfl
set_option maxRecDepth 100000 in
set_option maxHeartbeats 4000000 in
theorem k_159 {X : Nat → am_C} {aL : Nat → Int64} : p1_f X aL 159 = .inl (.int, 100, fun _ => .int 0) := by
  unfold p1_f
  rw [F_Mod_init_lt (by omega) (by omega), va_up_ne _ _ (by omega)]
  rfl
set_option maxRecDepth 100000 in
set_option maxHeartbeats 4000000 in
theorem k_162 {X : Nat → am_C} {aL : Nat → Int64} : p1_f X aL 162 = .inl (.byte, 600, fun _ => .int 0) := by
  unfold p1_f F_Mod_init
  rw [pl_f_lt (by omega) (by omega)]
  rfl
set_option maxRecDepth 100000 in
set_option maxHeartbeats 4000000 in
theorem k_165 {X : Nat → am_C} {aL : Nat → Int64} : p1_f X aL 165 = .inr (11, [.ref 166, .ref 167, .ref 168, .ref 169]) := by
  unfold p1_f F_Mod_init
  rw [pl_f_lt (by omega) (by omega)]
  rfl
set_option maxRecDepth 100000 in
set_option maxHeartbeats 4000000 in
theorem k_166 {X : Nat → am_C} {aL : Nat → Int64} : p1_f X aL 166 = .inl (.int, 1500, fun _ => .int 0) := by
  unfold p1_f F_Mod_init
  rw [pl_f_lt (by omega) (by omega)]
  rfl
set_option maxRecDepth 100000 in
set_option maxHeartbeats 4000000 in
theorem k_167 {X : Nat → am_C} {aL : Nat → Int64} : p1_f X aL 167 = .inl (.int, 1500, fun _ => .int 0) := by
  unfold p1_f F_Mod_init
  rw [pl_f_lt (by omega) (by omega)]
  rfl
set_option maxRecDepth 100000 in
set_option maxHeartbeats 4000000 in
theorem k_168 {X : Nat → am_C} {aL : Nat → Int64} : p1_f X aL 168 = .inl (.long, 1500, fun _ => .long 0) := by
  unfold p1_f F_Mod_init
  rw [pl_f_lt (by omega) (by omega)]
  rfl
set_option maxRecDepth 100000 in
set_option maxHeartbeats 4000000 in
theorem k_169 {X : Nat → am_C} {aL : Nat → Int64} : p1_f X aL 169 = .inl (.long, 1500, fun _ => .long 0) := by
  unfold p1_f F_Mod_init
  rw [pl_f_lt (by omega) (by omega)]
  rfl
set_option maxRecDepth 100000 in
set_option maxHeartbeats 4000000 in
theorem k_170 {X : Nat → am_C} {aL : Nat → Int64} : p1_f X aL 170 = .inl (.long, 200, fun _ => .long 0) := by
  unfold p1_f F_Mod_init
  rw [pl_f_lt (by omega) (by omega)]
  rfl
set_option maxRecDepth 100000 in
set_option maxHeartbeats 4000000 in
theorem k_171 {X : Nat → am_C} {aL : Nat → Int64} : p1_f X aL 171 = .inl (.int, 200, fun _ => .int 0) := by
  unfold p1_f F_Mod_init
  rw [pl_f_lt (by omega) (by omega)]
  rfl
set_option maxRecDepth 100000 in
set_option maxHeartbeats 4000000 in
theorem k_172 {X : Nat → am_C} {aL : Nat → Int64} : p1_f X aL 172 = .inl (.int, 200, fun _ => .int 0) := by
  unfold p1_f F_Mod_init
  rw [pl_f_lt (by omega) (by omega)]
  rfl
set_option maxRecDepth 100000 in
set_option maxHeartbeats 4000000 in
theorem k_173 {X : Nat → am_C} {aL : Nat → Int64} : p1_f X aL 173 = .inl (.int, 200, fun _ => .int 0) := by
  unfold p1_f F_Mod_init
  rw [pl_f_lt (by omega) (by omega)]
  rfl
set_option maxRecDepth 100000 in
set_option maxHeartbeats 4000000 in
theorem k_174 {X : Nat → am_C} {aL : Nat → Int64} : p1_f X aL 174 = .inl (.int, 200, fun _ => .int 0) := by
  unfold p1_f F_Mod_init
  rw [pl_f_lt (by omega) (by omega)]
  rfl
set_option maxRecDepth 100000 in
set_option maxHeartbeats 4000000 in
theorem k_175 {X : Nat → am_C} {aL : Nat → Int64} : p1_f X aL 175 = .inl (.int, 200, fun _ => .int 0) := by
  unfold p1_f F_Mod_init
  rw [pl_f_lt (by omega) (by omega)]
  rfl
set_option maxRecDepth 100000 in
set_option maxHeartbeats 4000000 in
theorem k_176 {X : Nat → am_C} {aL : Nat → Int64} : p1_f X aL 176 = .inl (.int, 200, fun _ => .int 0) := by
  unfold p1_f F_Mod_init
  rw [pl_f_lt (by omega) (by omega)]
  rfl
set_option maxRecDepth 100000 in
set_option maxHeartbeats 4000000 in
theorem k_178 {X : Nat → am_C} {aL : Nat → Int64} : p1_f X aL 178 = .inl (.int, 6000, fun _ => .int 0) := by
  unfold p1_f F_Mod_init
  rw [pl_f_lt (by omega) (by omega)]
  rfl
set_option maxRecDepth 100000 in
set_option maxHeartbeats 4000000 in
theorem k_179 {X : Nat → am_C} {aL : Nat → Int64} : p1_f X aL 179 = .inr (11, [.ref 180, .ref 181, .ref 182, .ref 183]) := by
  unfold p1_f F_Mod_init
  rw [pl_f_lt (by omega) (by omega)]
  rfl
set_option maxRecDepth 100000 in
set_option maxHeartbeats 4000000 in
theorem k_180 {X : Nat → am_C} {aL : Nat → Int64} : p1_f X aL 180 = .inl (.int, 1500, fun _ => .int 0) := by
  unfold p1_f F_Mod_init
  rw [pl_f_lt (by omega) (by omega)]
  rfl
set_option maxRecDepth 100000 in
set_option maxHeartbeats 4000000 in
theorem k_181 {X : Nat → am_C} {aL : Nat → Int64} : p1_f X aL 181 = .inl (.int, 1500, fun _ => .int 0) := by
  unfold p1_f F_Mod_init
  rw [pl_f_lt (by omega) (by omega)]
  rfl
set_option maxRecDepth 100000 in
set_option maxHeartbeats 4000000 in
theorem k_182 {X : Nat → am_C} {aL : Nat → Int64} : p1_f X aL 182 = .inl (.long, 1500, fun _ => .long 0) := by
  unfold p1_f F_Mod_init
  rw [pl_f_lt (by omega) (by omega)]
  rfl
set_option maxRecDepth 100000 in
set_option maxHeartbeats 4000000 in
theorem k_183 {X : Nat → am_C} {aL : Nat → Int64} : p1_f X aL 183 = .inl (.long, 1500, fun _ => .long 0) := by
  unfold p1_f F_Mod_init
  rw [pl_f_lt (by omega) (by omega)]
  rfl
set_option maxRecDepth 100000 in
set_option maxHeartbeats 4000000 in
theorem k_184 {X : Nat → am_C} {aL : Nat → Int64} : p1_f X aL 184 = .inl (.long, 1500, fun _ => .long 0) := by
  unfold p1_f F_Mod_init
  rw [pl_f_lt (by omega) (by omega)]
  rfl
set_option maxRecDepth 100000 in
set_option maxHeartbeats 4000000 in
theorem k_185 {X : Nat → am_C} {aL : Nat → Int64} : p1_f X aL 185 = .inl (.long, 1500, fun _ => .long 0) := by
  unfold p1_f F_Mod_init
  rw [pl_f_lt (by omega) (by omega)]
  rfl
set_option maxRecDepth 100000 in
set_option maxHeartbeats 4000000 in
theorem k_186 {X : Nat → am_C} {aL : Nat → Int64} : p1_f X aL 186 = .inl (.int, 1500, fun _ => .int 0) := by
  unfold p1_f F_Mod_init
  rw [pl_f_lt (by omega) (by omega)]
  rfl
set_option maxRecDepth 100000 in
set_option maxHeartbeats 4000000 in
theorem k_198 {X : Nat → am_C} {aL : Nat → Int64} : p1_f X aL 198 = .inr (11, [.ref 199, .ref 200, .ref 201, .ref 202]) := by
  unfold p1_f F_Mod_init
  rw [pl_f_lt (by omega) (by omega)]
  rfl
set_option maxRecDepth 100000 in
set_option maxHeartbeats 4000000 in
theorem k_199 {X : Nat → am_C} {aL : Nat → Int64} : p1_f X aL 199 = .inl (.int, 12, fun _ => .int 0) := by
  unfold p1_f F_Mod_init
  rw [pl_f_lt (by omega) (by omega)]
  rfl
set_option maxRecDepth 100000 in
set_option maxHeartbeats 4000000 in
theorem k_200 {X : Nat → am_C} {aL : Nat → Int64} : p1_f X aL 200 = .inl (.int, 12, fun _ => .int 0) := by
  unfold p1_f F_Mod_init
  rw [pl_f_lt (by omega) (by omega)]
  rfl
set_option maxRecDepth 100000 in
set_option maxHeartbeats 4000000 in
theorem k_201 {X : Nat → am_C} {aL : Nat → Int64} : p1_f X aL 201 = .inl (.long, 12, fun _ => .long 0) := by
  unfold p1_f F_Mod_init
  rw [pl_f_lt (by omega) (by omega)]
  rfl
set_option maxRecDepth 100000 in
set_option maxHeartbeats 4000000 in
theorem k_202 {X : Nat → am_C} {aL : Nat → Int64} : p1_f X aL 202 = .inl (.long, 12, fun _ => .long 0) := by
  unfold p1_f F_Mod_init
  rw [pl_f_lt (by omega) (by omega)]
  rfl
set_option maxRecDepth 100000 in
set_option maxHeartbeats 4000000 in
theorem k_215 {X : Nat → am_C} {aL : Nat → Int64} : p1_f X aL 215 = .inr (11, [.ref 216, .ref 217, .ref 218, .ref 219]) := by
  unfold p1_f F_Mod_init
  rw [pl_f_lt (by omega) (by omega)]
  rfl
set_option maxRecDepth 100000 in
set_option maxHeartbeats 4000000 in
theorem k_216 {X : Nat → am_C} {aL : Nat → Int64} : p1_f X aL 216 = .inl (.int, 12, fun _ => .int 0) := by
  unfold p1_f F_Mod_init
  rw [pl_f_lt (by omega) (by omega)]
  rfl
set_option maxRecDepth 100000 in
set_option maxHeartbeats 4000000 in
theorem k_217 {X : Nat → am_C} {aL : Nat → Int64} : p1_f X aL 217 = .inl (.int, 12, fun _ => .int 0) := by
  unfold p1_f F_Mod_init
  rw [pl_f_lt (by omega) (by omega)]
  rfl
set_option maxRecDepth 100000 in
set_option maxHeartbeats 4000000 in
theorem k_218 {X : Nat → am_C} {aL : Nat → Int64} : p1_f X aL 218 = .inl (.long, 12, fun _ => .long 0) := by
  unfold p1_f F_Mod_init
  rw [pl_f_lt (by omega) (by omega)]
  rfl
set_option maxRecDepth 100000 in
set_option maxHeartbeats 4000000 in
theorem k_219 {X : Nat → am_C} {aL : Nat → Int64} : p1_f X aL 219 = .inl (.long, 12, fun _ => .long 0) := by
  unfold p1_f F_Mod_init
  rw [pl_f_lt (by omega) (by omega)]
  rfl
set_option maxRecDepth 100000 in
set_option maxHeartbeats 4000000 in
theorem k_232 {X : Nat → am_C} {aL : Nat → Int64} : p1_f X aL 232 = .inr (11, [.ref 233, .ref 234, .ref 235, .ref 236]) := by
  unfold p1_f F_Mod_init
  rw [pl_f_lt (by omega) (by omega)]
  rfl
set_option maxRecDepth 100000 in
set_option maxHeartbeats 4000000 in
theorem k_233 {X : Nat → am_C} {aL : Nat → Int64} : p1_f X aL 233 = .inl (.int, 12, fun _ => .int 0) := by
  unfold p1_f F_Mod_init
  rw [pl_f_lt (by omega) (by omega)]
  rfl
set_option maxRecDepth 100000 in
set_option maxHeartbeats 4000000 in
theorem k_234 {X : Nat → am_C} {aL : Nat → Int64} : p1_f X aL 234 = .inl (.int, 12, fun _ => .int 0) := by
  unfold p1_f F_Mod_init
  rw [pl_f_lt (by omega) (by omega)]
  rfl
set_option maxRecDepth 100000 in
set_option maxHeartbeats 4000000 in
theorem k_235 {X : Nat → am_C} {aL : Nat → Int64} : p1_f X aL 235 = .inl (.long, 12, fun _ => .long 0) := by
  unfold p1_f F_Mod_init
  rw [pl_f_lt (by omega) (by omega)]
  rfl
set_option maxRecDepth 100000 in
set_option maxHeartbeats 4000000 in
theorem k_236 {X : Nat → am_C} {aL : Nat → Int64} : p1_f X aL 236 = .inl (.long, 12, fun _ => .long 0) := by
  unfold p1_f F_Mod_init
  rw [pl_f_lt (by omega) (by omega)]
  rfl
set_option maxRecDepth 100000 in
set_option maxHeartbeats 4000000 in
theorem k_245 {X : Nat → am_C} {aL : Nat → Int64} : p1_f X aL 245 = .inr (11, [.ref 246, .ref 247, .ref 248, .ref 249]) := by
  unfold p1_f F_Mod_init
  rw [pl_f_lt (by omega) (by omega)]
  rfl
set_option maxRecDepth 100000 in
set_option maxHeartbeats 4000000 in
theorem k_246 {X : Nat → am_C} {aL : Nat → Int64} : p1_f X aL 246 = .inl (.int, 4000, fun _ => .int 0) := by
  unfold p1_f F_Mod_init
  rw [pl_f_lt (by omega) (by omega)]
  rfl
set_option maxRecDepth 100000 in
set_option maxHeartbeats 4000000 in
theorem k_247 {X : Nat → am_C} {aL : Nat → Int64} : p1_f X aL 247 = .inl (.int, 4000, fun _ => .int 0) := by
  unfold p1_f F_Mod_init
  rw [pl_f_lt (by omega) (by omega)]
  rfl
set_option maxRecDepth 100000 in
set_option maxHeartbeats 4000000 in
theorem k_248 {X : Nat → am_C} {aL : Nat → Int64} : p1_f X aL 248 = .inl (.long, 4000, fun _ => .long 0) := by
  unfold p1_f F_Mod_init
  rw [pl_f_lt (by omega) (by omega)]
  rfl
set_option maxRecDepth 100000 in
set_option maxHeartbeats 4000000 in
theorem k_249 {X : Nat → am_C} {aL : Nat → Int64} : p1_f X aL 249 = .inl (.long, 4000, fun _ => .long 0) := by
  unfold p1_f F_Mod_init
  rw [pl_f_lt (by omega) (by omega)]
  rfl
set_option maxRecDepth 100000 in
set_option maxHeartbeats 4000000 in
theorem k_264 {X : Nat → am_C} {aL : Nat → Int64} : p1_f X aL 264 = .inl (.int, 100, fun _ => .int 0) := by
  unfold p1_f F_Mod_init
  rw [pl_f_lt (by omega) (by omega)]
  rfl

/-- an empty State -/
def R00 : RS := (fun _ => 0, fun _ => 0, fun _ => 0, fun _ => 0, fun _ => 0, fun _ => (0, 0, 0, 0), fun _ => (0, 0, 0, 0), fun _ => .null, 0, 0, 0, 0)
section
variable {f : Nat → am_C} {r N q n : Nat} {R : RS} {X : Nat → am_C} {aL : Nat → Int64}
theorem RSt_of (h : ∀ x, r ≤ x → x ≤ r + 16 → f x = HSt f r R x) : RSt f r R := by
  funext x
  by_cases c : r ≤ x ∧ x ≤ r + 16
  · exact (h x c.1 c.2).symm
  · exact HS_off (by omega)
theorem RSt_17 (h0 : f r = .inr (13, [.ref (r + 1), .ref (r + 2), .ref (r + 3), .ref (r + 4), .ref (r + 5), .ref (r + 6), .ref (r + 11), .ref (r + 16), .int 0, .int 0, .int 0, .int 0])) (h1 : f (r + 1) = .inl (.int, 100, fun _ => .int 0)) (h2 : f (r + 2) = .inl (.int, 100, fun _ => .int 0)) (h3 : f (r + 3) = .inl (.long, 800, fun _ => .long 0)) (h4 : f (r + 4) = .inl (.long, 12, fun _ => .long 0)) (h5 : f (r + 5) = .inl (.long, 10, fun _ => .long 0)) (h6 : f (r + 6) = .inr (11, [.ref (r + 7), .ref (r + 8), .ref (r + 9), .ref (r + 10)])) (h7 : f (r + 7) = .inl (.int, 2000, fun _ => .int 0)) (h8 : f (r + 8) = .inl (.int, 2000, fun _ => .int 0)) (h9 : f (r + 9) = .inl (.long, 2000, fun _ => .long 0)) (h10 : f (r + 10) = .inl (.long, 2000, fun _ => .long 0)) (h11 : f (r + 11) = .inr (11, [.ref (r + 12), .ref (r + 13), .ref (r + 14), .ref (r + 15)])) (h12 : f (r + 12) = .inl (.int, 12, fun _ => .int 0)) (h13 : f (r + 13) = .inl (.int, 12, fun _ => .int 0)) (h14 : f (r + 14) = .inl (.long, 12, fun _ => .long 0)) (h15 : f (r + 15) = .inl (.long, 12, fun _ => .long 0)) (h16 : f (r + 16) = .inl (.object "StowTongueModel$Code", 10, fun _ => .null)) : RSt f r R00 := RSt_of (fun x x1 x2 => by
  obtain ⟨i, hi, rfl⟩ : ∃ i, i ≤ 16 ∧ x = r + i := ⟨x - r, by omega, by omega⟩
  have c : i = 0 ∨ i = 1 ∨ i = 2 ∨ i = 3 ∨ i = 4 ∨ i = 5 ∨ i = 6 ∨ i = 7 ∨ i = 8 ∨ i = 9 ∨ i = 10 ∨ i = 11 ∨ i = 12 ∨ i = 13 ∨ i = 14 ∨ i = 15 ∨ i = 16 := by omega
  rcases c with rfl | rfl | rfl | rfl | rfl | rfl | rfl | rfl | rfl | rfl | rfl | rfl | rfl | rfl | rfl | rfl | rfl
  · exact h0.trans (HS_0 (f := f) (r := r) (R := R00)).symm
  · exact h1.trans (HS_1 (f := f) (r := r) (R := R00)).symm
  · exact h2.trans (HS_2 (f := f) (r := r) (R := R00)).symm
  · exact h3.trans (HS_3 (f := f) (r := r) (R := R00)).symm
  · exact h4.trans (HS_4 (f := f) (r := r) (R := R00)).symm
  · exact h5.trans (HS_5 (f := f) (r := r) (R := R00)).symm
  · exact h6.trans (HS_6 (f := f) (r := r) (R := R00)).symm
  · exact h7.trans (HS_7 (f := f) (r := r) (R := R00)).symm
  · exact h8.trans (HS_8 (f := f) (r := r) (R := R00)).symm
  · exact h9.trans (HS_9 (f := f) (r := r) (R := R00)).symm
  · exact h10.trans (HS_10 (f := f) (r := r) (R := R00)).symm
  · exact h11.trans (HS_11 (f := f) (r := r) (R := R00)).symm
  · exact h12.trans (HS_12 (f := f) (r := r) (R := R00)).symm
  · exact h13.trans (HS_13 (f := f) (r := r) (R := R00)).symm
  · exact h14.trans (HS_14 (f := f) (r := r) (R := R00)).symm
  · exact h15.trans (HS_15 (f := f) (r := r) (R := R00)).symm
  · exact h16.trans (HS_16 (f := f) (r := r) (R := R00)).symm)
set_option maxHeartbeats 4000000 in
theorem F_State_st : RSt (F_State_init (r + 1) f r) r R00 := by
  refine RSt_17 ?_ ?_ ?_ ?_ ?_ ?_ ?_ ?_ ?_ ?_ ?_ ?_ ?_ ?_ ?_ ?_ ?_
  all_goals unfold F_State_init F_Vals
  all_goals (repeat (first | (rw [va_up_self]; done) | rw [va_up_ne _ _ (by omega)]))
theorem wl_st (hq : q < N) : ∀ k t, t < k → RSt (wl_f N q f k).1 (N + 17 * t) R00
  | 0, _, h => absurd h (Nat.not_lt_zero _)
  | k + 1, t, h => by
    show RSt (va_up (F_State_init (N + 17 * k + 1) (va_up (wl_f N q f k).1 (N + 17 * k) _) (N + 17 * k)) q _) (N + 17 * t) R00
    by_cases e : t = k
    · rw [e]
      exact F_State_st.keep (fun z z1 z2 => va_up_ne _ _ (by omega))
    · refine (wl_st hq k t (by omega)).keep (fun z z1 z2 => ?_)
      rw [va_up_ne _ _ (by omega), F_State_init_lt (by omega) (by omega), va_up_ne _ _ (by omega)]
theorem pl_at (hq : q < N) : ∀ k p, p < k → (pl_f N q f k).1 (N + 7 * p) = .inr (12, [.ref (N + 7 * p + 1), .ref (N + 7 * p + 2), .int 0, .int 0, .int 0, .int 0, .int 0, .int 0, .int 0, .int 0]) ∧ (pl_f N q f k).1 (N + 7 * p + 1) = .inl (.int, 1600, fun _ => .int 0) ∧ vR (pl_f N q f k).1 (N + 7 * p + 2) 400 (fun _ => 0) (fun _ => 0) (fun _ => 0) (fun _ => 0)
  | 0, _, h => absurd h (Nat.not_lt_zero _)
  | k + 1, p, h => by
    by_cases e : p = k
    · subst e
      have ev : ∀ x, ¬ x = q → (pl_f N q f (p + 1)).1 x = F_Code_init_400 (N + 7 * p + 1) (va_up (pl_f N q f p).1 (N + 7 * p) (.inr (12, [.null, .null, .int 0, .int 0, .int 0, .int 0, .int 0, .int 0, .int 0, .int 0]))) (N + 7 * p) x := fun x hx => va_up_ne _ _ hx
      refine ⟨?_, ?_, ?_, ?_, ?_, ?_, ?_⟩
      all_goals rw [ev _ (by omega)]
      all_goals unfold F_Code_init_400 F_Vals
      all_goals (repeat (first | (rw [va_up_self]; done) | rw [va_up_ne _ _ (by omega)]))
    · obtain ⟨a1, a2, a3⟩ := pl_at hq k p (by omega)
      have ev : ∀ x, N ≤ x → x < N + 7 * k → (pl_f N q f (k + 1)).1 x = (pl_f N q f k).1 x := fun x x1 x2 => by
        show va_up (F_Code_init_400 (N + 7 * k + 1) (va_up (pl_f N q f k).1 (N + 7 * k) _) (N + 7 * k)) q _ x = _
        rw [va_up_ne _ _ (by omega), F_Code_init_400_lt (by omega) (by omega), va_up_ne _ _ (by omega)]
      exact ⟨(ev _ (by omega) (by omega)).trans a1, (ev _ (by omega) (by omega)).trans a2, a3.kept (fun x x1 x2 => ev x (by omega) (by omega))⟩
theorem pl_2 : ∀ k j, j < k → (pl_f N q f k).2 j = .ref (N + 7 * j)
  | 0, _, h => absurd h (Nat.not_lt_zero _)
  | k + 1, j, h => by
    show updV (pl_f N q f k).2 k (.ref (N + 7 * k)) j = _
    unfold updV
    by_cases e : j = k
    · rw [if_pos e, e]
    · rw [if_neg e]
      exact pl_2 k j (by omega)
end
