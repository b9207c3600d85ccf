section
variable {K : am_K} {X : Nat → am_C}
def p1_f (X : Nat → am_C) (aL : Nat → Int64) : Nat → am_C := F_Mod_init 161 (va_up (F_Stow_init 129 (va_up X 128 (.inr (9, [.null, .int 0, .null, .null, .null, .null, .null, .long 0, .long 0, .int 0]))) 128 aL) 160 (.inr (14, [.null, .null, .int 0, .int 0, .int 0, .int 0, .int 0, .int 0, .int 0, .int 0, .int 0, .long 0, .null, .null, .null, .null, .null, .null, .null, .null, .int 0, .null, .null, .null, .int 0, .int 0, .null, .int 0, .null, .int 0, .null, .null, .null, .null, .int 0, .int 0, .null, .null, .null, .null, .null, .int 0, .int 0, .int 0, .int 0, .int 0, .int 0, .null, .null, .null, .null, .null, .int 0]))) 160

set_option maxRecDepth 100000 in
set_option maxHeartbeats 4000000 in
theorem q_128 {X : Nat → am_C} {aL : Nat → Int64} : p1_f X aL 128 = .inr (9, [.ref 129, .int 0, .ref 130, .ref 132, .ref 148, .ref 154, .ref 157, .long 0, .long 0, .int 0]) := by
  unfold p1_f
  rw [F_Mod_init_lt (by omega) (by omega), va_up_ne _ _ (by omega)]
  rfl

set_option maxRecDepth 100000 in
set_option maxHeartbeats 4000000 in
theorem q_129 {X : Nat → am_C} {aL : Nat → Int64} : p1_f X aL 129 = .inl (.byte, 1500, (fun _ => .int 0)) := by
  unfold p1_f
  rw [F_Mod_init_lt (by omega) (by omega), va_up_ne _ _ (by omega)]
  rfl

set_option maxRecDepth 100000 in
set_option maxHeartbeats 4000000 in
theorem q_130 {X : Nat → am_C} {aL : Nat → Int64} : p1_f X aL 130 = .inr (0, [.ref 131, .int 0, .int 0]) := by
  unfold p1_f
  rw [F_Mod_init_lt (by omega) (by omega), va_up_ne _ _ (by omega)]
  rfl

set_option maxRecDepth 100000 in
set_option maxHeartbeats 4000000 in
theorem q_132 {X : Nat → am_C} {aL : Nat → Int64} : p1_f X aL 132 = .inr (5, [.ref 133, .ref 136, .ref 140, .ref 136, .ref 144, .ref 145, .int 0, .int 0]) := by
  unfold p1_f
  rw [F_Mod_init_lt (by omega) (by omega), va_up_ne _ _ (by omega)]
  rfl

set_option maxRecDepth 100000 in
set_option maxHeartbeats 4000000 in
theorem q_133 {X : Nat → am_C} {aL : Nat → Int64} : p1_f X aL 133 = .inr (1, [.ref 134, .ref 135, .int 0, .int 0, .int 0, .int 0, .int 0, .int 0, .long 0, .long 0]) := by
  unfold p1_f
  rw [F_Mod_init_lt (by omega) (by omega), va_up_ne _ _ (by omega)]
  rfl

set_option maxRecDepth 100000 in
set_option maxHeartbeats 4000000 in
theorem q_136 {X : Nat → am_C} {aL : Nat → Int64} : p1_f X aL 136 = .inr (2, [.ref 137, .int 0, .ref 138, .int 0, .ref 139, .int 0]) := by
  unfold p1_f
  rw [F_Mod_init_lt (by omega) (by omega), va_up_ne _ _ (by omega)]
  rfl

set_option maxRecDepth 100000 in
set_option maxHeartbeats 4000000 in
theorem q_137 {X : Nat → am_C} {aL : Nat → Int64} : p1_f X aL 137 = .inl (.int, 128, (fun _ => .int 0)) := by
  unfold p1_f
  rw [F_Mod_init_lt (by omega) (by omega), va_up_ne _ _ (by omega)]
  rfl

set_option maxRecDepth 100000 in
set_option maxHeartbeats 4000000 in
theorem q_138 {X : Nat → am_C} {aL : Nat → Int64} : p1_f X aL 138 = .inl (.long, 32, (fun _ => .long 0)) := by
  unfold p1_f
  rw [F_Mod_init_lt (by omega) (by omega), va_up_ne _ _ (by omega)]
  rfl

set_option maxRecDepth 100000 in
set_option maxHeartbeats 4000000 in
theorem q_144 {X : Nat → am_C} {aL : Nat → Int64} : p1_f X aL 144 = .inr (3, [.ref 1, .int 0, .int 0]) := by
  unfold p1_f
  rw [F_Mod_init_lt (by omega) (by omega), va_up_ne _ _ (by omega)]
  rfl

set_option maxRecDepth 100000 in
set_option maxHeartbeats 4000000 in
theorem q_148 {X : Nat → am_C} {aL : Nat → Int64} : p1_f X aL 148 = .inr (6, [.ref 149, .ref 150, .int 0, .int 0, .null, .int 0, .ref 151, .ref 152, .ref 153, .int 0, .null, .null, .int 0, .int 0, .int 0, .int 0, .long 0, .long 0]) := by
  unfold p1_f
  rw [F_Mod_init_lt (by omega) (by omega), va_up_ne _ _ (by omega)]
  rfl

set_option maxRecDepth 100000 in
set_option maxHeartbeats 4000000 in
theorem q_149 {X : Nat → am_C} {aL : Nat → Int64} : p1_f X aL 149 = .inl (.long, 64, (fun _ => .long 0)) := by
  unfold p1_f
  rw [F_Mod_init_lt (by omega) (by omega), va_up_ne _ _ (by omega)]
  rfl

set_option maxRecDepth 100000 in
set_option maxHeartbeats 4000000 in
theorem q_150 {X : Nat → am_C} {aL : Nat → Int64} : p1_f X aL 150 = .inl (.long, 64, (fun _ => .long 0)) := by
  unfold p1_f
  rw [F_Mod_init_lt (by omega) (by omega), va_up_ne _ _ (by omega)]
  rfl

set_option maxRecDepth 100000 in
set_option maxHeartbeats 4000000 in
theorem q_154 {X : Nat → am_C} {aL : Nat → Int64} : p1_f X aL 154 = .inr (7, [.ref 155, .ref 156, .int 0, .int 0]) := by
  unfold p1_f
  rw [F_Mod_init_lt (by omega) (by omega), va_up_ne _ _ (by omega)]
  rfl

set_option maxRecDepth 100000 in
set_option maxHeartbeats 4000000 in
theorem q_155 {X : Nat → am_C} {aL : Nat → Int64} : p1_f X aL 155 = .inl (.object "StowTongue$Store", 10, (fun _ => .null)) := by
  unfold p1_f
  rw [F_Mod_init_lt (by omega) (by omega), va_up_ne _ _ (by omega)]
  rfl

set_option maxRecDepth 100000 in
set_option maxHeartbeats 4000000 in
theorem q_156 {X : Nat → am_C} {aL : Nat → Int64} : p1_f X aL 156 = .inl (.int, 10, (fun _ => .int 0)) := by
  unfold p1_f
  rw [F_Mod_init_lt (by omega) (by omega), va_up_ne _ _ (by omega)]
  rfl

set_option maxRecDepth 100000 in
set_option maxHeartbeats 4000000 in
theorem q_157 {X : Nat → am_C} {aL : Nat → Int64} : p1_f X aL 157 = .inr (8, [.ref 158, .ref 159, .int 0]) := by
  unfold p1_f
  rw [F_Mod_init_lt (by omega) (by omega), va_up_ne _ _ (by omega)]
  rfl

set_option maxRecDepth 100000 in
set_option maxHeartbeats 4000000 in
theorem q_158 {X : Nat → am_C} {aL : Nat → Int64} : p1_f X aL 158 = .inl (.boolean, 100, (fun _ => .int 0)) := by
  unfold p1_f
  rw [F_Mod_init_lt (by omega) (by omega), va_up_ne _ _ (by omega)]
  rfl

set_option maxRecDepth 100000 in
set_option maxHeartbeats 4000000 in
theorem q_160 {X : Nat → am_C} {aL : Nat → Int64} : p1_f X aL 160 = .inr (14, [.ref 161, .ref 162, .int 0, .int 0, .int 0, .int 0, .int 0, .int 0, .int 0, .int 0, .int 0, .long 0, .ref 163, .ref 170, .ref 171, .ref 172, .ref 173, .ref 174, .ref 175, .ref 176, .int 0, .ref 177, .null, .ref 184, .int 0, .int 0, .ref 185, .int 0, .ref 186, .int 0, .ref 187, .ref 204, .ref 221, .ref 238, .int 0, .int 0, .ref 239, .ref 240, .ref 245, .ref 250, .ref 255, .int 0, .int 0, .int 0, .int 0, .int 0, .int 0, .ref 260, .ref 261, .ref 262, .ref 263, .ref 264, .int 0]) := by
  unfold p1_f F_Mod_init
  rw [pl_f_lt (by omega) (by omega)]
  rfl

set_option maxRecDepth 100000 in
set_option maxHeartbeats 4000000 in
theorem q_161 {X : Nat → am_C} {aL : Nat → Int64} : p1_f X aL 161 = .inl (.byte, 1500, (fun _ => .int 0)) := by
  unfold p1_f F_Mod_init
  rw [pl_f_lt (by omega) (by omega)]
  rfl

set_option maxRecDepth 100000 in
set_option maxHeartbeats 4000000 in
theorem q_163 {X : Nat → am_C} {aL : Nat → Int64} : p1_f X aL 163 = .inr (12, [.ref 164, .ref 165, .int 0, .int 0, .int 0, .int 0, .int 0, .int 0, .int 0, .int 0]) := by
  unfold p1_f F_Mod_init
  rw [pl_f_lt (by omega) (by omega)]
  rfl

set_option maxRecDepth 100000 in
set_option maxHeartbeats 4000000 in
theorem q_164 {X : Nat → am_C} {aL : Nat → Int64} : p1_f X aL 164 = .inl (.int, 6000, (fun _ => .int 0)) := by
  unfold p1_f F_Mod_init
  rw [pl_f_lt (by omega) (by omega)]
  rfl

set_option maxRecDepth 100000 in
set_option maxHeartbeats 4000000 in
theorem q_177 {X : Nat → am_C} {aL : Nat → Int64} : p1_f X aL 177 = .inr (12, [.ref 178, .ref 179, .int 0, .int 0, .int 0, .int 0, .int 0, .int 0, .int 0, .int 0]) := by
  unfold p1_f F_Mod_init
  rw [pl_f_lt (by omega) (by omega)]
  rfl

set_option maxRecDepth 100000 in
set_option maxHeartbeats 4000000 in
theorem q_187 {X : Nat → am_C} {aL : Nat → Int64} : p1_f X aL 187 = .inr (13, [.ref 188, .ref 189, .ref 190, .ref 191, .ref 192, .ref 193, .ref 198, .ref 203, .int 0, .int 0, .int 0, .int 0]) := by
  unfold p1_f F_Mod_init
  rw [pl_f_lt (by omega) (by omega)]
  rfl

set_option maxRecDepth 100000 in
set_option maxHeartbeats 4000000 in
theorem q_188 {X : Nat → am_C} {aL : Nat → Int64} : p1_f X aL 188 = .inl (.int, 100, (fun _ => .int 0)) := by
  unfold p1_f F_Mod_init
  rw [pl_f_lt (by omega) (by omega)]
  rfl

set_option maxRecDepth 100000 in
set_option maxHeartbeats 4000000 in
theorem q_189 {X : Nat → am_C} {aL : Nat → Int64} : p1_f X aL 189 = .inl (.int, 100, (fun _ => .int 0)) := by
  unfold p1_f F_Mod_init
  rw [pl_f_lt (by omega) (by omega)]
  rfl

set_option maxRecDepth 100000 in
set_option maxHeartbeats 4000000 in
theorem q_190 {X : Nat → am_C} {aL : Nat → Int64} : p1_f X aL 190 = .inl (.long, 800, (fun _ => .long 0)) := by
  unfold p1_f F_Mod_init
  rw [pl_f_lt (by omega) (by omega)]
  rfl

set_option maxRecDepth 100000 in
set_option maxHeartbeats 4000000 in
theorem q_191 {X : Nat → am_C} {aL : Nat → Int64} : p1_f X aL 191 = .inl (.long, 12, (fun _ => .long 0)) := by
  unfold p1_f F_Mod_init
  rw [pl_f_lt (by omega) (by omega)]
  rfl

set_option maxRecDepth 100000 in
set_option maxHeartbeats 4000000 in
theorem q_192 {X : Nat → am_C} {aL : Nat → Int64} : p1_f X aL 192 = .inl (.long, 10, (fun _ => .long 0)) := by
  unfold p1_f F_Mod_init
  rw [pl_f_lt (by omega) (by omega)]
  rfl

set_option maxRecDepth 100000 in
set_option maxHeartbeats 4000000 in
theorem q_193 {X : Nat → am_C} {aL : Nat → Int64} : p1_f X aL 193 = .inr (11, [.ref 194, .ref 195, .ref 196, .ref 197]) := by
  unfold p1_f F_Mod_init
  rw [pl_f_lt (by omega) (by omega)]
  rfl

set_option maxRecDepth 100000 in
set_option maxHeartbeats 4000000 in
theorem q_194 {X : Nat → am_C} {aL : Nat → Int64} : p1_f X aL 194 = .inl (.int, 2000, (fun _ => .int 0)) := by
  unfold p1_f F_Mod_init
  rw [pl_f_lt (by omega) (by omega)]
  rfl

set_option maxRecDepth 100000 in
set_option maxHeartbeats 4000000 in
theorem q_195 {X : Nat → am_C} {aL : Nat → Int64} : p1_f X aL 195 = .inl (.int, 2000, (fun _ => .int 0)) := by
  unfold p1_f F_Mod_init
  rw [pl_f_lt (by omega) (by omega)]
  rfl

set_option maxRecDepth 100000 in
set_option maxHeartbeats 4000000 in
theorem q_196 {X : Nat → am_C} {aL : Nat → Int64} : p1_f X aL 196 = .inl (.long, 2000, (fun _ => .long 0)) := by
  unfold p1_f F_Mod_init
  rw [pl_f_lt (by omega) (by omega)]
  rfl

set_option maxRecDepth 100000 in
set_option maxHeartbeats 4000000 in
theorem q_197 {X : Nat → am_C} {aL : Nat → Int64} : p1_f X aL 197 = .inl (.long, 2000, (fun _ => .long 0)) := by
  unfold p1_f F_Mod_init
  rw [pl_f_lt (by omega) (by omega)]
  rfl

set_option maxRecDepth 100000 in
set_option maxHeartbeats 4000000 in
theorem q_203 {X : Nat → am_C} {aL : Nat → Int64} : p1_f X aL 203 = .inl (.object "StowTongueModel$Code", 10, (fun _ => .null)) := by
  unfold p1_f F_Mod_init
  rw [pl_f_lt (by omega) (by omega)]
  rfl

set_option maxRecDepth 100000 in
set_option maxHeartbeats 4000000 in
theorem q_204 {X : Nat → am_C} {aL : Nat → Int64} : p1_f X aL 204 = .inr (13, [.ref 205, .ref 206, .ref 207, .ref 208, .ref 209, .ref 210, .ref 215, .ref 220, .int 0, .int 0, .int 0, .int 0]) := by
  unfold p1_f F_Mod_init
  rw [pl_f_lt (by omega) (by omega)]
  rfl

set_option maxRecDepth 100000 in
set_option maxHeartbeats 4000000 in
theorem q_205 {X : Nat → am_C} {aL : Nat → Int64} : p1_f X aL 205 = .inl (.int, 100, (fun _ => .int 0)) := by
  unfold p1_f F_Mod_init
  rw [pl_f_lt (by omega) (by omega)]
  rfl

set_option maxRecDepth 100000 in
set_option maxHeartbeats 4000000 in
theorem q_206 {X : Nat → am_C} {aL : Nat → Int64} : p1_f X aL 206 = .inl (.int, 100, (fun _ => .int 0)) := by
  unfold p1_f F_Mod_init
  rw [pl_f_lt (by omega) (by omega)]
  rfl

set_option maxRecDepth 100000 in
set_option maxHeartbeats 4000000 in
theorem q_207 {X : Nat → am_C} {aL : Nat → Int64} : p1_f X aL 207 = .inl (.long, 800, (fun _ => .long 0)) := by
  unfold p1_f F_Mod_init
  rw [pl_f_lt (by omega) (by omega)]
  rfl

set_option maxRecDepth 100000 in
set_option maxHeartbeats 4000000 in
theorem q_208 {X : Nat → am_C} {aL : Nat → Int64} : p1_f X aL 208 = .inl (.long, 12, (fun _ => .long 0)) := by
  unfold p1_f F_Mod_init
  rw [pl_f_lt (by omega) (by omega)]
  rfl

set_option maxRecDepth 100000 in
set_option maxHeartbeats 4000000 in
theorem q_209 {X : Nat → am_C} {aL : Nat → Int64} : p1_f X aL 209 = .inl (.long, 10, (fun _ => .long 0)) := by
  unfold p1_f F_Mod_init
  rw [pl_f_lt (by omega) (by omega)]
  rfl

set_option maxRecDepth 100000 in
set_option maxHeartbeats 4000000 in
theorem q_210 {X : Nat → am_C} {aL : Nat → Int64} : p1_f X aL 210 = .inr (11, [.ref 211, .ref 212, .ref 213, .ref 214]) := by
  unfold p1_f F_Mod_init
  rw [pl_f_lt (by omega) (by omega)]
  rfl

set_option maxRecDepth 100000 in
set_option maxHeartbeats 4000000 in
theorem q_211 {X : Nat → am_C} {aL : Nat → Int64} : p1_f X aL 211 = .inl (.int, 2000, (fun _ => .int 0)) := by
  unfold p1_f F_Mod_init
  rw [pl_f_lt (by omega) (by omega)]
  rfl

set_option maxRecDepth 100000 in
set_option maxHeartbeats 4000000 in
theorem q_212 {X : Nat → am_C} {aL : Nat → Int64} : p1_f X aL 212 = .inl (.int, 2000, (fun _ => .int 0)) := by
  unfold p1_f F_Mod_init
  rw [pl_f_lt (by omega) (by omega)]
  rfl

set_option maxRecDepth 100000 in
set_option maxHeartbeats 4000000 in
theorem q_213 {X : Nat → am_C} {aL : Nat → Int64} : p1_f X aL 213 = .inl (.long, 2000, (fun _ => .long 0)) := by
  unfold p1_f F_Mod_init
  rw [pl_f_lt (by omega) (by omega)]
  rfl

set_option maxRecDepth 100000 in
set_option maxHeartbeats 4000000 in
theorem q_214 {X : Nat → am_C} {aL : Nat → Int64} : p1_f X aL 214 = .inl (.long, 2000, (fun _ => .long 0)) := by
  unfold p1_f F_Mod_init
  rw [pl_f_lt (by omega) (by omega)]
  rfl

set_option maxRecDepth 100000 in
set_option maxHeartbeats 4000000 in
theorem q_220 {X : Nat → am_C} {aL : Nat → Int64} : p1_f X aL 220 = .inl (.object "StowTongueModel$Code", 10, (fun _ => .null)) := by
  unfold p1_f F_Mod_init
  rw [pl_f_lt (by omega) (by omega)]
  rfl

set_option maxRecDepth 100000 in
set_option maxHeartbeats 4000000 in
theorem q_221 {X : Nat → am_C} {aL : Nat → Int64} : p1_f X aL 221 = .inr (13, [.ref 222, .ref 223, .ref 224, .ref 225, .ref 226, .ref 227, .ref 232, .ref 237, .int 0, .int 0, .int 0, .int 0]) := by
  unfold p1_f F_Mod_init
  rw [pl_f_lt (by omega) (by omega)]
  rfl

set_option maxRecDepth 100000 in
set_option maxHeartbeats 4000000 in
theorem q_222 {X : Nat → am_C} {aL : Nat → Int64} : p1_f X aL 222 = .inl (.int, 100, (fun _ => .int 0)) := by
  unfold p1_f F_Mod_init
  rw [pl_f_lt (by omega) (by omega)]
  rfl

set_option maxRecDepth 100000 in
set_option maxHeartbeats 4000000 in
theorem q_223 {X : Nat → am_C} {aL : Nat → Int64} : p1_f X aL 223 = .inl (.int, 100, (fun _ => .int 0)) := by
  unfold p1_f F_Mod_init
  rw [pl_f_lt (by omega) (by omega)]
  rfl

set_option maxRecDepth 100000 in
set_option maxHeartbeats 4000000 in
theorem q_224 {X : Nat → am_C} {aL : Nat → Int64} : p1_f X aL 224 = .inl (.long, 800, (fun _ => .long 0)) := by
  unfold p1_f F_Mod_init
  rw [pl_f_lt (by omega) (by omega)]
  rfl

set_option maxRecDepth 100000 in
set_option maxHeartbeats 4000000 in
theorem q_225 {X : Nat → am_C} {aL : Nat → Int64} : p1_f X aL 225 = .inl (.long, 12, (fun _ => .long 0)) := by
  unfold p1_f F_Mod_init
  rw [pl_f_lt (by omega) (by omega)]
  rfl

set_option maxRecDepth 100000 in
set_option maxHeartbeats 4000000 in
theorem q_226 {X : Nat → am_C} {aL : Nat → Int64} : p1_f X aL 226 = .inl (.long, 10, (fun _ => .long 0)) := by
  unfold p1_f F_Mod_init
  rw [pl_f_lt (by omega) (by omega)]
  rfl

set_option maxRecDepth 100000 in
set_option maxHeartbeats 4000000 in
theorem q_227 {X : Nat → am_C} {aL : Nat → Int64} : p1_f X aL 227 = .inr (11, [.ref 228, .ref 229, .ref 230, .ref 231]) := by
  unfold p1_f F_Mod_init
  rw [pl_f_lt (by omega) (by omega)]
  rfl

set_option maxRecDepth 100000 in
set_option maxHeartbeats 4000000 in
theorem q_228 {X : Nat → am_C} {aL : Nat → Int64} : p1_f X aL 228 = .inl (.int, 2000, (fun _ => .int 0)) := by
  unfold p1_f F_Mod_init
  rw [pl_f_lt (by omega) (by omega)]
  rfl

set_option maxRecDepth 100000 in
set_option maxHeartbeats 4000000 in
theorem q_229 {X : Nat → am_C} {aL : Nat → Int64} : p1_f X aL 229 = .inl (.int, 2000, (fun _ => .int 0)) := by
  unfold p1_f F_Mod_init
  rw [pl_f_lt (by omega) (by omega)]
  rfl

set_option maxRecDepth 100000 in
set_option maxHeartbeats 4000000 in
theorem q_230 {X : Nat → am_C} {aL : Nat → Int64} : p1_f X aL 230 = .inl (.long, 2000, (fun _ => .long 0)) := by
  unfold p1_f F_Mod_init
  rw [pl_f_lt (by omega) (by omega)]
  rfl

set_option maxRecDepth 100000 in
set_option maxHeartbeats 4000000 in
theorem q_231 {X : Nat → am_C} {aL : Nat → Int64} : p1_f X aL 231 = .inl (.long, 2000, (fun _ => .long 0)) := by
  unfold p1_f F_Mod_init
  rw [pl_f_lt (by omega) (by omega)]
  rfl

set_option maxRecDepth 100000 in
set_option maxHeartbeats 4000000 in
theorem q_237 {X : Nat → am_C} {aL : Nat → Int64} : p1_f X aL 237 = .inl (.object "StowTongueModel$Code", 10, (fun _ => .null)) := by
  unfold p1_f F_Mod_init
  rw [pl_f_lt (by omega) (by omega)]
  rfl

set_option maxRecDepth 100000 in
set_option maxHeartbeats 4000000 in
theorem q_238 {X : Nat → am_C} {aL : Nat → Int64} : p1_f X aL 238 = .inl (.object "StowTongueModel$State", 8, (updV (updV (updV (updV (updV (updV (updV (updV (fun _ => .null) 0 (.ref 265)) 1 (.ref 282)) 2 (.ref 299)) 3 (.ref 316)) 4 (.ref 333)) 5 (.ref 350)) 6 (.ref 367)) 7 (.ref 384))) := by
  unfold p1_f F_Mod_init
  rw [pl_f_lt (by omega) (by omega)]
  rfl

set_option maxRecDepth 100000 in
set_option maxHeartbeats 4000000 in
theorem q_240 {X : Nat → am_C} {aL : Nat → Int64} : p1_f X aL 240 = .inr (11, [.ref 241, .ref 242, .ref 243, .ref 244]) := by
  unfold p1_f F_Mod_init
  rw [pl_f_lt (by omega) (by omega)]
  rfl

set_option maxRecDepth 100000 in
set_option maxHeartbeats 4000000 in
theorem q_241 {X : Nat → am_C} {aL : Nat → Int64} : p1_f X aL 241 = .inl (.int, 8000, (fun _ => .int 0)) := by
  unfold p1_f F_Mod_init
  rw [pl_f_lt (by omega) (by omega)]
  rfl

set_option maxRecDepth 100000 in
set_option maxHeartbeats 4000000 in
theorem q_242 {X : Nat → am_C} {aL : Nat → Int64} : p1_f X aL 242 = .inl (.int, 8000, (fun _ => .int 0)) := by
  unfold p1_f F_Mod_init
  rw [pl_f_lt (by omega) (by omega)]
  rfl

set_option maxRecDepth 100000 in
set_option maxHeartbeats 4000000 in
theorem q_243 {X : Nat → am_C} {aL : Nat → Int64} : p1_f X aL 243 = .inl (.long, 8000, (fun _ => .long 0)) := by
  unfold p1_f F_Mod_init
  rw [pl_f_lt (by omega) (by omega)]
  rfl

set_option maxRecDepth 100000 in
set_option maxHeartbeats 4000000 in
theorem q_244 {X : Nat → am_C} {aL : Nat → Int64} : p1_f X aL 244 = .inl (.long, 8000, (fun _ => .long 0)) := by
  unfold p1_f F_Mod_init
  rw [pl_f_lt (by omega) (by omega)]
  rfl

set_option maxRecDepth 100000 in
set_option maxHeartbeats 4000000 in
theorem q_250 {X : Nat → am_C} {aL : Nat → Int64} : p1_f X aL 250 = .inr (11, [.ref 251, .ref 252, .ref 253, .ref 254]) := by
  unfold p1_f F_Mod_init
  rw [pl_f_lt (by omega) (by omega)]
  rfl

set_option maxRecDepth 100000 in
set_option maxHeartbeats 4000000 in
theorem q_251 {X : Nat → am_C} {aL : Nat → Int64} : p1_f X aL 251 = .inl (.int, 1, (fun _ => .int 0)) := by
  unfold p1_f F_Mod_init
  rw [pl_f_lt (by omega) (by omega)]
  rfl

set_option maxRecDepth 100000 in
set_option maxHeartbeats 4000000 in
theorem q_252 {X : Nat → am_C} {aL : Nat → Int64} : p1_f X aL 252 = .inl (.int, 1, (fun _ => .int 0)) := by
  unfold p1_f F_Mod_init
  rw [pl_f_lt (by omega) (by omega)]
  rfl

set_option maxRecDepth 100000 in
set_option maxHeartbeats 4000000 in
theorem q_253 {X : Nat → am_C} {aL : Nat → Int64} : p1_f X aL 253 = .inl (.long, 1, (fun _ => .long 0)) := by
  unfold p1_f F_Mod_init
  rw [pl_f_lt (by omega) (by omega)]
  rfl

set_option maxRecDepth 100000 in
set_option maxHeartbeats 4000000 in
theorem q_254 {X : Nat → am_C} {aL : Nat → Int64} : p1_f X aL 254 = .inl (.long, 1, (fun _ => .long 0)) := by
  unfold p1_f F_Mod_init
  rw [pl_f_lt (by omega) (by omega)]
  rfl

set_option maxRecDepth 100000 in
set_option maxHeartbeats 4000000 in
theorem q_255 {X : Nat → am_C} {aL : Nat → Int64} : p1_f X aL 255 = .inr (11, [.ref 256, .ref 257, .ref 258, .ref 259]) := by
  unfold p1_f F_Mod_init
  rw [pl_f_lt (by omega) (by omega)]
  rfl

set_option maxRecDepth 100000 in
set_option maxHeartbeats 4000000 in
theorem q_256 {X : Nat → am_C} {aL : Nat → Int64} : p1_f X aL 256 = .inl (.int, 4, (fun _ => .int 0)) := by
  unfold p1_f F_Mod_init
  rw [pl_f_lt (by omega) (by omega)]
  rfl

set_option maxRecDepth 100000 in
set_option maxHeartbeats 4000000 in
theorem q_257 {X : Nat → am_C} {aL : Nat → Int64} : p1_f X aL 257 = .inl (.int, 4, (fun _ => .int 0)) := by
  unfold p1_f F_Mod_init
  rw [pl_f_lt (by omega) (by omega)]
  rfl

set_option maxRecDepth 100000 in
set_option maxHeartbeats 4000000 in
theorem q_258 {X : Nat → am_C} {aL : Nat → Int64} : p1_f X aL 258 = .inl (.long, 4, (fun _ => .long 0)) := by
  unfold p1_f F_Mod_init
  rw [pl_f_lt (by omega) (by omega)]
  rfl

set_option maxRecDepth 100000 in
set_option maxHeartbeats 4000000 in
theorem q_259 {X : Nat → am_C} {aL : Nat → Int64} : p1_f X aL 259 = .inl (.long, 4, (fun _ => .long 0)) := by
  unfold p1_f F_Mod_init
  rw [pl_f_lt (by omega) (by omega)]
  rfl

set_option maxRecDepth 100000 in
set_option maxHeartbeats 4000000 in
theorem q_260 {X : Nat → am_C} {aL : Nat → Int64} : p1_f X aL 260 = .inl (.object "StowTongueModel$Code", 9, (fun _ => .null)) := by
  unfold p1_f F_Mod_init
  rw [pl_f_lt (by omega) (by omega)]
  rfl

set_option maxRecDepth 100000 in
set_option maxHeartbeats 4000000 in
theorem q_261 {X : Nat → am_C} {aL : Nat → Int64} : p1_f X aL 261 = .inl (.int, 9, (fun _ => .int 0)) := by
  unfold p1_f F_Mod_init
  rw [pl_f_lt (by omega) (by omega)]
  rfl

set_option maxRecDepth 100000 in
set_option maxHeartbeats 4000000 in
theorem q_262 {X : Nat → am_C} {aL : Nat → Int64} : p1_f X aL 262 = .inl (.int, 9, (fun _ => .int 0)) := by
  unfold p1_f F_Mod_init
  rw [pl_f_lt (by omega) (by omega)]
  rfl

set_option maxRecDepth 100000 in
set_option maxHeartbeats 4000000 in
theorem q_263 {X : Nat → am_C} {aL : Nat → Int64} : p1_f X aL 263 = .inl (.boolean, 100, (fun _ => .int 0)) := by
  unfold p1_f F_Mod_init
  rw [pl_f_lt (by omega) (by omega)]
  rfl

set_option maxRecDepth 100000 in
set_option maxHeartbeats 4000000 in
theorem q_265 {X : Nat → am_C} {aL : Nat → Int64} : p1_f X aL 265 = .inr (13, [.ref 266, .ref 267, .ref 268, .ref 269, .ref 270, .ref 271, .ref 276, .ref 281, .int 0, .int 0, .int 0, .int 0]) := by
  unfold p1_f F_Mod_init
  rw [pl_f_lt (by omega) (by omega)]
  rfl

set_option maxRecDepth 100000 in
set_option maxHeartbeats 4000000 in
theorem q_266 {X : Nat → am_C} {aL : Nat → Int64} : p1_f X aL 266 = .inl (.int, 100, (fun _ => .int 0)) := by
  unfold p1_f F_Mod_init
  rw [pl_f_lt (by omega) (by omega)]
  rfl

set_option maxRecDepth 100000 in
set_option maxHeartbeats 4000000 in
theorem q_267 {X : Nat → am_C} {aL : Nat → Int64} : p1_f X aL 267 = .inl (.int, 100, (fun _ => .int 0)) := by
  unfold p1_f F_Mod_init
  rw [pl_f_lt (by omega) (by omega)]
  rfl

set_option maxRecDepth 100000 in
set_option maxHeartbeats 4000000 in
theorem q_268 {X : Nat → am_C} {aL : Nat → Int64} : p1_f X aL 268 = .inl (.long, 800, (fun _ => .long 0)) := by
  unfold p1_f F_Mod_init
  rw [pl_f_lt (by omega) (by omega)]
  rfl

set_option maxRecDepth 100000 in
set_option maxHeartbeats 4000000 in
theorem q_269 {X : Nat → am_C} {aL : Nat → Int64} : p1_f X aL 269 = .inl (.long, 12, (fun _ => .long 0)) := by
  unfold p1_f F_Mod_init
  rw [pl_f_lt (by omega) (by omega)]
  rfl

set_option maxRecDepth 100000 in
set_option maxHeartbeats 4000000 in
theorem q_270 {X : Nat → am_C} {aL : Nat → Int64} : p1_f X aL 270 = .inl (.long, 10, (fun _ => .long 0)) := by
  unfold p1_f F_Mod_init
  rw [pl_f_lt (by omega) (by omega)]
  rfl

set_option maxRecDepth 100000 in
set_option maxHeartbeats 4000000 in
theorem q_271 {X : Nat → am_C} {aL : Nat → Int64} : p1_f X aL 271 = .inr (11, [.ref 272, .ref 273, .ref 274, .ref 275]) := by
  unfold p1_f F_Mod_init
  rw [pl_f_lt (by omega) (by omega)]
  rfl

set_option maxRecDepth 100000 in
set_option maxHeartbeats 4000000 in
theorem q_272 {X : Nat → am_C} {aL : Nat → Int64} : p1_f X aL 272 = .inl (.int, 2000, (fun _ => .int 0)) := by
  unfold p1_f F_Mod_init
  rw [pl_f_lt (by omega) (by omega)]
  rfl

set_option maxRecDepth 100000 in
set_option maxHeartbeats 4000000 in
theorem q_273 {X : Nat → am_C} {aL : Nat → Int64} : p1_f X aL 273 = .inl (.int, 2000, (fun _ => .int 0)) := by
  unfold p1_f F_Mod_init
  rw [pl_f_lt (by omega) (by omega)]
  rfl

set_option maxRecDepth 100000 in
set_option maxHeartbeats 4000000 in
theorem q_274 {X : Nat → am_C} {aL : Nat → Int64} : p1_f X aL 274 = .inl (.long, 2000, (fun _ => .long 0)) := by
  unfold p1_f F_Mod_init
  rw [pl_f_lt (by omega) (by omega)]
  rfl

set_option maxRecDepth 100000 in
set_option maxHeartbeats 4000000 in
theorem q_275 {X : Nat → am_C} {aL : Nat → Int64} : p1_f X aL 275 = .inl (.long, 2000, (fun _ => .long 0)) := by
  unfold p1_f F_Mod_init
  rw [pl_f_lt (by omega) (by omega)]
  rfl

set_option maxRecDepth 100000 in
set_option maxHeartbeats 4000000 in
theorem q_281 {X : Nat → am_C} {aL : Nat → Int64} : p1_f X aL 281 = .inl (.object "StowTongueModel$Code", 10, (fun _ => .null)) := by
  unfold p1_f F_Mod_init
  rw [pl_f_lt (by omega) (by omega)]
  rfl
end
