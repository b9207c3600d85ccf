/-! at the start all holds: the two sides -/
def F00 : FTb := (0, fun _ => ([], 0, 0, 0, 0, 0, 0, 0, sNop))
def l00 : List Value := [.ref 161, .ref 162, .int 0, .int 0, .int 0, .int 0, .int 0, .int 0, .int 0, .int 0, .int 0, .long 0, .ref 163, .ref 170, .ref 171, .ref 172, .ref 173, .ref 174, .ref 175, .ref 176, .int 0, .ref 177, .null, .ref 184, .int 0, .int 0, .ref 185, .int 0, .ref 186, .int 0, .ref 187, .ref 204, .ref 221, .ref 238, .int 0, .int 0, .ref 239, .ref 240, .ref 245, .ref 250, .ref 255, .int 0, .int 0, .int 0, .int 0, .int 0, .int 0, .ref 260, .ref 261, .ref 262, .ref 263, .ref 264, .int 0]
def b00 : Nat → Value := fun j => l00.getD j .null
section
variable {X : Nat → am_C} {aL : Nat → Int64}
theorem l00_b : (List.range 53).map b00 = l00 := rfl
theorem s_OM : OM (p2_f X aL) b00 := by
  unfold OM
  rw [p2_o (by decide) (by decide), q_160, l00_b]
  rfl
theorem s_RB : RBf b00 0 0 187 0 0 0 0 := by
  refine ⟨fun p hp => ?_, fun k hk => ?_, ⟨0, rfl⟩, rfl, rfl, rfl, rfl, rfl, rfl, rfl, rfl⟩
  · simp only [rfL, List.mem_cons, List.not_mem_nil, or_false] at hp
    rcases hp with rfl | rfl | rfl | rfl | rfl | rfl | rfl | rfl | rfl | rfl | rfl | rfl | rfl | rfl | rfl | rfl | rfl | rfl | rfl | rfl | rfl | rfl | rfl | rfl | rfl | rfl
    all_goals rfl
  · simp only [inL, List.mem_cons, List.not_mem_nil, or_false] at hk
    rcases hk with rfl | rfl | rfl | rfl | rfl | rfl | rfl | rfl | rfl | rfl | rfl | rfl | rfl | rfl | rfl | rfl | rfl
    all_goals exact ⟨0, rfl⟩
theorem s_vr {r N : Nat} (h0 : p1_f X aL r = .inr (11, [.ref (r + 1), .ref (r + 2), .ref (r + 3), .ref (r + 4)])) (h1 : p1_f X aL (r + 1) = .inl (.int, N, fun _ => .int 0)) (h2 : p1_f X aL (r + 2) = .inl (.int, N, fun _ => .int 0)) (h3 : p1_f X aL (r + 3) = .inl (.long, N, fun _ => .long 0)) (h4 : p1_f X aL (r + 4) = .inl (.long, N, fun _ => .long 0)) (hr : r + 4 < 238 ∨ 239 < r) : vQ (p2_f X aL) r N (fun _ => (0, 0, 0, 0)) := vR_q ⟨(p2_o (by omega) (by omega)).trans h0, (p2_o (by omega) (by omega)).trans h1, (p2_o (by omega) (by omega)).trans h2, (p2_o (by omega) (by omega)).trans h3, (p2_o (by omega) (by omega)).trans h4⟩
theorem s_163 : RCd (p2_f X aL) 163 0 0 0 0 0 0 0 0 (fun _ => 0) (fun _ => (0, 0, 0, 0)) := ⟨(p2_o (by decide) (by decide)).trans q_163, (p2_o (by decide) (by decide)).trans q_164, s_vr k_165 k_166 k_167 k_168 k_169 (by decide)⟩
theorem s_177 : RCd (p2_f X aL) 177 0 0 0 0 0 0 0 0 (fun _ => 0) (fun _ => (0, 0, 0, 0)) := ⟨(p2_o (by decide) (by decide)).trans q_177, (p2_o (by decide) (by decide)).trans k_178, s_vr k_179 k_180 k_181 k_182 k_183 (by decide)⟩
theorem s_TA : TA (p2_f X aL) (fun _ => 0, fun _ _ => 0) := by
  refine ⟨(p2_o (by decide) (by decide)).trans k_170, fun z z1 z2 => ?_⟩
  obtain rfl | rfl | rfl | rfl | rfl | rfl : z = 171 ∨ z = 172 ∨ z = 173 ∨ z = 174 ∨ z = 175 ∨ z = 176 := by omega
  · exact (p2_o (by decide) (by decide)).trans k_171
  · exact (p2_o (by decide) (by decide)).trans k_172
  · exact (p2_o (by decide) (by decide)).trans k_173
  · exact (p2_o (by decide) (by decide)).trans k_174
  · exact (p2_o (by decide) (by decide)).trans k_175
  · exact (p2_o (by decide) (by decide)).trans k_176
theorem s_RC : RCl (p2_f X aL) (fun _ => 0) (fun _ => 0) (0, 0, 0, 0) := ⟨(p2_o (by decide) (by decide)).trans q_161, (p2_o (by decide) (by decide)).trans k_162, ⟨0, 0, 0, 0, 0, 0, _, _, s_163⟩, ⟨0, 0, 0, 0, 0, 0, 0, 0, _, _, s_177⟩, ⟨fun _ => 0, (p2_o (by decide) (by decide)).trans k_184⟩, ⟨fun _ => 0, (p2_o (by decide) (by decide)).trans k_185⟩, ⟨fun _ => 0, (p2_o (by decide) (by decide)).trans k_186⟩, ⟨_, s_TA⟩, ⟨_, s_vr q_240 q_241 q_242 q_243 q_244 (by decide)⟩, ⟨_, s_vr k_245 k_246 k_247 k_248 k_249 (by decide)⟩, ⟨_, s_vr q_250 q_251 q_252 q_253 q_254 (by decide), rfl⟩, ⟨_, s_vr q_255 q_256 q_257 q_258 q_259 (by decide)⟩, ⟨fun _ => .null, (p2_o (by decide) (by decide)).trans q_260⟩, ⟨fun _ => 0, (p2_o (by decide) (by decide)).trans q_261⟩, ⟨fun _ => 0, (p2_o (by decide) (by decide)).trans q_262⟩⟩
theorem s_RT : RTb (p2_f X aL) R00 (fun _ => 0) F00 := ⟨⟨Nat.zero_le _, rfl, fun j hj => absurd hj (Nat.not_lt_zero _)⟩, fun j hj => absurd hj (Nat.not_lt_zero _)⟩
theorem s_CD : CDq R00 := fun i _ => Or.inl rfl
theorem s_RR : RRm (p2_f X aL) (fun _ => 0, fun _ => 0, 0) := ⟨(p2_o (by decide) (by decide)).trans q_263, (p2_o (by decide) (by decide)).trans k_264, fun _ => Or.inl rfl⟩
theorem start_R : RKx (1311, p2_f X aL, 0) b00 0 (fun _ => 0) 0 (fun _ => 0) 187 0 0 R00 R00 (fun k => 265 + 17 * k) (fun _ => R00) (fun _ => 0) (fun _ => 0) (fun _ _ => 0) (fun _ => F00) (0, 0, 0, 0) 0 (fun _ => 0, fun _ => 0, 0) := ⟨⟨s_OM, Nat.le_refl _, s_RB, Nat.zero_le _, Or.inl rfl⟩, s_RC, ⟨p2_187, s_RT, s_CD⟩, ⟨p2_221, s_RT, s_CD⟩, ⟨R00, p2_204⟩, ⟨p2_W8, fun t ht => absurd ht (Nat.not_lt_zero _)⟩, p2_PL, s_RR⟩
theorem s_DR (r : Nat) (hr : r = 136 ∨ r = 140) (h0 : p1_f X aL r = .inr (2, [.ref (r + 1), .int 0, .ref (r + 2), .int 0, .ref (r + 3), .int 0])) (h1 : p1_f X aL (r + 1) = .inl (.int, 128, fun _ => .int 0)) (h2 : p1_f X aL (r + 2) = .inl (.long, 32, fun _ => .long 0)) (h3 : p1_f X aL (r + 3) = .inl (.long, 16, fun _ => .long 0)) : DRest (1311, p2_f X aL, 0) r (r + 1) (r + 2) (r + 3) 176 := by
  have a0 := (p2_o (X := X) (aL := aL) (z := r) (by omega) (by omega)).trans h0
  have a1 := (p2_o (X := X) (aL := aL) (z := r + 1) (by omega) (by omega)).trans h1
  have a2 := (p2_o (X := X) (aL := aL) (z := r + 2) (by omega) (by omega)).trans h2
  have a3 := (p2_o (X := X) (aL := aL) (z := r + 3) (by omega) (by omega)).trans h3
  generalize p2_f X aL = f at a0 a1 a2 a3 ⊢
  exact ⟨0, 0, 0, 128, 32, 16, fun _ => 0, fun _ => 0, fun _ => 0, ⟨a0, a1, a2, a3, ⟨by omega, by omega, by omega, by omega, by omega, by omega, by omega, by omega, by omega⟩, ⟨by omega, by omega, by omega, by omega⟩, ⟨by show r < 1311; omega, by show r + 1 < 1311; omega, by show r + 2 < 1311; omega, by show r + 3 < 1311; omega⟩, ⟨by omega, by omega, by omega, by omega, by omega, by omega⟩⟩, ⟨by omega, by omega, by omega⟩, ⟨by omega, by omega, by omega⟩, ⟨by omega, by omega, by omega, by omega⟩, rfl⟩
theorem s_PI : ∀ z, PI (137, 138, 139, 141, 142, 143, 1) z → z = 132 ∨ z = 133 ∨ z = 136 ∨ z = 140 ∨ z = 144 ∨ z = 137 ∨ z = 138 ∨ z = 139 ∨ z = 141 ∨ z = 142 ∨ z = 143 ∨ z = 1 := fun z hz => hz
theorem s_PX : PX (137, 138, 139, 141, 142, 143, 1) := by
  refine ⟨fun z hz => ?_, fun z hz => ?_, Or.inl rfl, by decide, by decide, by decide⟩
  · have hz : z = 137 ∨ z = 138 ∨ z = 139 := hz
    show 134 < z ∧ z ≠ 140 ∧ z ≠ 144 ∧ z ≠ 141 ∧ z ≠ 142 ∧ z ≠ 143 ∧ z ≠ 1
    omega
  · have hz : z = 141 ∨ z = 142 ∨ z = 143 := hz
    show 134 < z ∧ z ≠ 136 ∧ z ≠ 144 ∧ z ≠ 1
    omega
theorem s_AL : ALR (1311, p2_f X aL, 0) 0 0 1 (fun _ => 0) := by
  have a := (p2_o (X := X) (aL := aL) (z := 144) (by decide) (by decide)).trans q_144
  generalize p2_f X aL = f at a ⊢
  exact ⟨0, fun _ => .null, a, by show 144 < 1311; decide, Nat.le_refl _, Nat.zero_le _, Or.inl ⟨rfl, rfl⟩⟩
theorem s_CY : CY (1311, p2_f X aL, 0) (fun _ => 0) aL (137, 138, 139, 141, 142, 143, 1) (176, 176, 0) := by
  have a1 := (p2_o (X := X) (aL := aL) (z := 132) (by decide) (by decide)).trans q_132
  have a2 := (p2_o (X := X) (aL := aL) (z := 133) (by decide) (by decide)).trans q_133
  have a3 := (p2_o (X := X) (aL := aL) (z := 129) (by decide) (by decide)).trans q_129
  have a4 := (p2_o (X := X) (aL := aL) (z := 134) (by decide) (by decide)).trans k_134
  have d1 := s_DR (X := X) (aL := aL) 136 (Or.inl rfl) q_136 q_137 q_138 k_139
  have d2 := s_DR (X := X) (aL := aL) 140 (Or.inr rfl) k_140 k_141 k_142 k_143
  have al := s_AL (X := X) (aL := aL)
  generalize p2_f X aL = f at a1 a2 a3 a4 d1 d2 al ⊢
  refine ⟨⟨136, 145, 0, 0, a1⟩, ⟨135, 0, (0, 0, 0, 0, 0, 0, 0), a2⟩, a3, a4, Nat.le_refl _, d1, d2, ⟨0, _, al⟩, s_PX, fun z hz => ?_⟩
  have := s_PI z hz
  show z < 1311
  omega
theorem s_MK : MKc (1311, p2_f X aL, 0) 149 150 64 := by
  have a1 := (p2_o (X := X) (aL := aL) (z := 148) (by decide) (by decide)).trans q_148
  have a2 := (p2_o (X := X) (aL := aL) (z := 149) (by decide) (by decide)).trans q_149
  have a3 := (p2_o (X := X) (aL := aL) (z := 150) (by decide) (by decide)).trans q_150
  have a4 := (p2_o (X := X) (aL := aL) (z := 151) (by decide) (by decide)).trans k_151
  have a5 := (p2_o (X := X) (aL := aL) (z := 152) (by decide) (by decide)).trans k_152
  have a6 := (p2_o (X := X) (aL := aL) (z := 153) (by decide) (by decide)).trans k_153
  generalize p2_f X aL = f at a1 a2 a3 a4 a5 a6 ⊢
  exact ⟨⟨_, _, _, _, _, _, _, _, _, _, _, _, _, a1⟩, ⟨fun _ => 0, a2⟩, ⟨fun _ => 0, a3⟩, ⟨fun _ => .null, a4⟩, ⟨fun _ => 0, a5⟩, ⟨fun _ => 0, a6⟩, Or.inl rfl, Or.inl rfl, by decide, by show 149 < 1311; decide, by show 150 < 1311; decide, by decide, by decide⟩
theorem s_HG : HG (p2_f X aL) (0, 0, fun _ => .null, fun _ => 0) = p2_f X aL := by
  funext z
  unfold HG
  by_cases c : z = 154
  · rw [if_pos c, c, p2_o (by decide) (by decide), q_154]
    rfl
  rw [if_neg c]
  by_cases c : z = 155
  · rw [if_pos c, c, p2_o (by decide) (by decide), q_155]
  rw [if_neg c]
  by_cases c : z = 156
  · rw [if_pos c, c, p2_o (by decide) (by decide), q_156]
  rw [if_neg c]
theorem s_OW : OWt fxT (137, 138, 139, 141, 142, 143, 1) 149 150 (0, 0, fun _ => .null, fun _ => 0) (fun _ => 0) := by
  refine ⟨fun z _ => rfl, fun z hz => ?_, ⟨by decide, by decide⟩, fun p _ h => absurd rfl h⟩
  rcases s_PI z hz with rfl | rfl | rfl | rfl | rfl | rfl | rfl | rfl | rfl | rfl | rfl | rfl <;> decide
theorem s_CL : CL (1311, p2_f X aL, 0) (0, 0, fun _ => .null, fun _ => 0) (fun _ => 0) (fun _ => S00) := ⟨s_HG, Nat.le_refl _, Nat.zero_le _, fun p _ => Or.inl ⟨rfl, rfl⟩, fun p q _ _ _ h => absurd rfl h, fun h => absurd (show 1 ≤ 0 from h) (by decide)⟩
theorem s_UP (p : Nat) : UPl (1311, p2_f X aL, 0) fxT 0 S00 (fun _ => 0) F00 := ⟨⟨rfl, Nat.zero_le _, fun j hj => absurd hj (Nat.not_lt_zero _)⟩, Nat.zero_le _, fun i _ => Or.inl rfl⟩
theorem s_bt (j : Nat) : isBt ((fun _ => 0 : Nat → Int32) j) := by
  show isBt 0
  unfold isBt
  decide
theorem s_128 : c128 (p2_f X aL) 0 (0, 0) 0 := (p2_o (by decide) (by decide)).trans q_128
theorem s_OC : OCc (p2_f X aL) (0, 0, fun _ => 0) := ⟨(p2_o (by decide) (by decide)).trans q_130, (p2_o (by decide) (by decide)).trans k_131⟩
theorem s_SW : SWc (p2_f X aL) (fun _ => 0, fun _ => 0, 0) := ⟨(p2_o (by decide) (by decide)).trans q_157, (p2_o (by decide) (by decide)).trans q_158, (p2_o (by decide) (by decide)).trans k_159⟩
theorem start_C (hw : WSP aL) : CKx (1311, p2_f X aL, 0) 0 (fun _ => 0) (137, 138, 139, 141, 142, 143, 1) (176, 176, 0) 149 150 64 (0, 0, fun _ => 0) (0, 0, fun _ => .null, fun _ => 0) (fun _ => 0) (fun _ => S00) (fun _ _ => 0) (fun _ => F00) (0, 0) 0 (fun _ => 0, fun _ => 0, 0) fxT := ⟨⟨s_128, Nat.zero_le _, fun j _ => s_bt j⟩, ⟨aL, s_CY, hw⟩, ⟨s_OC, Nat.zero_le _, Or.inl rfl⟩, s_MK, s_CL, fun p _ => s_UP p, ⟨s_SW, fun _ => Or.inl rfl⟩, s_OW⟩
theorem s_BG {f : Nat → am_C} : BG 0 (1311, f, 0) 0 (176, 176, 0) 64 := ⟨by show 0 + 24 * 0 ≤ 500 * 0 + 2 * (176 + 176) + 4 * 0 + 4 * 64; decide, by show 32 * 1311 + 144 * 0 ≤ 41952 + 160 * 0 + 2 * (176 + 176) + 32 * 0 + 64; decide⟩
theorem INV_0 (hw : WSP aL) : INV 0 (1311, p2_f X aL, 0) := ⟨0, fun _ => 0, (0, 0, fun _ => 0), 0, 0, fun _ => 0, fun _ => S00, fun _ => F00, (0, 0), 0, 0, fun _ => 0, 0, R00, R00, fun _ => R00, (0, 0, 0, 0), ⟨_, _, _, _, _, _, _, _, _, _, start_C hw, s_BG⟩, ⟨_, _, _, _, _, _, _, start_R⟩, SR_00, SR_00, fun t ht => absurd ht (Nat.not_lt_zero _), rfl, ⟨rfl, Nat.zero_le _, fun j hj => absurd hj (Nat.not_lt_zero _)⟩, fun _ => 0, VR.nil⟩
end
