/-! at the start all holds -/
theorem arrV_cg {c : ClassId} {N : Nat} {f g : Nat → Value} (h : ∀ j, j < N → f j = g j) : arrV c N f = arrV c N g := by
  have e : (fun j : Fin N => f j.val) = (fun j : Fin N => g j.val) := funext fun j => h j.val j.isLt
  unfold arrV
  rw [e]
/-- what lies in an array behind its end does not count -/
theorem am_jk {K : am_K} {X : Nat → am_C} {M : am_M} {d kc ks uc us pc n : Nat} {lv : List (Nat × Value)} {st : List Value} {f f' : Nat → am_C} {post : Option Value → am_H → Prop} (h : am_W K X M d kc ks uc us pc lv st (n, f') post) (hj : ∀ x, f' x = f x ∨ (128 ≤ x ∧ ∃ ty N g g', f x = .inl (ty, N, g) ∧ f' x = .inl (ty, N, g') ∧ ∀ j, j < N → g j = g' j)) : am_W K X M d kc ks uc us pc lv st (n, f) post := by
  intro p l e R s m args below meth c H locs cells slots ls z hH
  refine h p l e R s m args below meth c H locs cells slots ls z ?_
  obtain ⟨h1, h2, h3, h4, h5⟩ := hH
  refine ⟨h1, h2, h3, fun r hr => ?_, fun r hr hr2 => ?_⟩
  · rcases hj r with q | ⟨q, _⟩
    · exact q.trans (h4 r hr)
    · omega
  · have a := h5 r hr hr2
    rcases hj r with q | ⟨_, ty, N, g, g', q1, q2, q3⟩
    · show am_at K (am_ad K r) (f' r) H
      rw [q]
      exact a
    · show am_at K (am_ad K r) (f' r) H
      have a : am_at K (am_ad K r) (f r) H := a
      rw [q1] at a
      rw [q2]
      have a : H[am_ad K r]? = some (arrV (K.2.2.1 ty) N (fun j => am_tr K (g j))) := a
      show H[am_ad K r]? = some (arrV (K.2.2.1 ty) N (fun j => am_tr K (g' j)))
      rw [a, arrV_cg (fun j hj => by rw [q3 j hj])]
theorem pl_q1 {N q k : Nat} {f : Nat → am_C} : (pl_f N q f (k + 1)).1 q = .inl (.object "StowTongueModel$Code", 130, (pl_f N q f (k + 1)).2) := va_up_self _ _ _
/-- the heap behind the two constructors, its two arrays of objects told to their ends -/
def p2_f (X : Nat → am_C) (aL : Nat → Int64) : Nat → am_C := va_up (va_up (p1_f X aL) 238 (.inl (.object "StowTongueModel$State", 8, fun k => .ref (265 + 17 * k)))) 239 (.inl (.object "StowTongueModel$Code", 130, fun k => .ref (401 + 7 * k)))
section
variable {X : Nat → am_C} {aL : Nat → Int64}
theorem p2_o {z : Nat} (h : ¬ z = 238) (h' : ¬ z = 239) : p2_f X aL z = p1_f X aL z := (va_up_ne _ _ h').trans (va_up_ne _ _ h)
theorem p2_jk (x : Nat) : p2_f X aL x = p1_f X aL x ∨ (128 ≤ x ∧ ∃ ty N g g', p1_f X aL x = .inl (ty, N, g) ∧ p2_f X aL x = .inl (ty, N, g') ∧ ∀ j, j < N → g j = g' j) := by
  by_cases h : x = 238
  · subst h
    refine Or.inr ⟨by decide, _, _, _, _, q_238, (va_up_ne _ _ (by decide)).trans (va_up_self _ _ _), fun j hj => ?_⟩
    have c : j = 0 ∨ j = 1 ∨ j = 2 ∨ j = 3 ∨ j = 4 ∨ j = 5 ∨ j = 6 ∨ j = 7 := by omega
    rcases c with rfl | rfl | rfl | rfl | rfl | rfl | rfl | rfl <;> rfl
  · by_cases h' : x = 239
    · subst h'
      have e : ∃ base k, k + 1 = 130 ∧ p1_f X aL = (pl_f 401 239 base (k + 1)).1 := ⟨_, 129, rfl, rfl⟩
      obtain ⟨base, k, ek, e1⟩ := e
      refine Or.inr ⟨by decide, _, _, _, _, by rw [e1]; exact pl_q1, va_up_self _ _ _, fun j hj => pl_2 (k + 1) j (by omega)⟩
    · exact Or.inl (p2_o h h')
theorem vR_q {f : Nat → am_C} {r N : Nat} (h : vR f r N (fun _ => 0) (fun _ => 0) (fun _ => 0) (fun _ => 0)) : vQ f r N (fun _ => (0, 0, 0, 0)) := fun kc hk => by
  unfold vaL at hk
  rcases List.mem_cons.mp hk with e | hk
  · rw [e]
    exact h.1
  rcases List.mem_cons.mp hk with e | hk
  · rw [e]
    exact h.2.1
  rcases List.mem_cons.mp hk with e | hk
  · rw [e]
    exact h.2.2.1
  rcases List.mem_cons.mp hk with e | hk
  · rw [e]
    exact h.2.2.2.1
  rcases List.mem_cons.mp hk with e | hk
  · rw [e]
    exact h.2.2.2.2
  cases hk
theorem p2_187 : RSt (p2_f X aL) 187 R00 := (RSt_17 q_187 q_188 q_189 q_190 q_191 q_192 q_193 q_194 q_195 q_196 q_197 k_198 k_199 k_200 k_201 k_202 q_203).keep (fun z z1 z2 => p2_o (by omega) (by omega))
theorem p2_204 : RSt (p2_f X aL) 204 R00 := (RSt_17 q_204 q_205 q_206 q_207 q_208 q_209 q_210 q_211 q_212 q_213 q_214 k_215 k_216 k_217 k_218 k_219 q_220).keep (fun z z1 z2 => p2_o (by omega) (by omega))
theorem p2_221 : RSt (p2_f X aL) 221 R00 := (RSt_17 q_221 q_222 q_223 q_224 q_225 q_226 q_227 q_228 q_229 q_230 q_231 k_232 k_233 k_234 k_235 k_236 q_237).keep (fun z z1 z2 => p2_o (by omega) (by omega))
theorem p2_W8 : W8 (p2_f X aL) (fun k => 265 + 17 * k) (fun _ => R00) := by
  refine ⟨(va_up_ne _ _ (by decide)).trans (va_up_self _ _ _), fun k hk => ⟨?_, by show 265 ≤ 265 + 17 * k; omega, by show 265 + 17 * k + 16 ≤ 400; omega⟩, fun j k hj hk hne => by show 265 + 17 * j + 16 < 265 + 17 * k ∨ 265 + 17 * k + 16 < 265 + 17 * j; omega⟩
  have e : ∃ base, p1_f X aL = (pl_f 401 239 (wl_f 265 238 base 8).1 130).1 := ⟨_, rfl⟩
  obtain ⟨base, e1⟩ := e
  refine (wl_st (N := 265) (q := 238) (f := base) (by decide) 8 k hk).keep (fun z z1 z2 => ?_)
  rw [p2_o (by omega) (by omega), e1, pl_f_lt (by omega) (by omega)]
theorem p2_PL : PLh (p2_f X aL) := by
  have e : ∃ base, p1_f X aL = (pl_f 401 239 base 130).1 := ⟨_, rfl⟩
  obtain ⟨base, e1⟩ := e
  have hi : ∀ z, 401 ≤ z → p2_f X aL z = (pl_f 401 239 base 130).1 z := fun z hz => by rw [p2_o (by omega) (by omega), e1]
  have at_ := fun p hp => pl_at (N := 401) (q := 239) (f := base) (by decide) 130 p hp
  refine ⟨⟨fun _ => (0, 0, 0, 0, 0, 0, 0), fun _ => 0, ?_⟩, va_up_self _ _ _, fun p hp => ⟨⟨fun _ => 0, ?_⟩, fun _ => (0, 0, 0, 0), ?_⟩⟩
  · funext x
    by_cases c : 401 ≤ x ∧ x < 1311 ∧ (x - 401) % 7 = 0
    · obtain ⟨p, hp, rfl⟩ : ∃ p, p < 130 ∧ x = 401 + 7 * p := ⟨(x - 401) / 7, by omega, by omega⟩
      rw [HP_at hp, hi _ (by omega), (at_ p hp).1]
      rfl
    · exact HP_off c
  · exact (hi _ (by show 401 ≤ 401 + 7 * p + 1; omega)).trans (at_ p hp).2.1
  · exact (at_ p hp).2.2.kept (fun z z1 z2 => hi z (by omega))
theorem cntK_0 : ∀ n, cntK (fun _ => 0) n = 0
  | 0 => rfl
  | n + 1 => by
    rw [cntK, cntK_0 n, if_pos rfl]
theorem SR_00 : SR S00 R00 := ⟨fun o ho => Or.inl ⟨if_pos ho, rfl⟩, by show (0 : Int32) = nI (cntK (fun _ => 0) 100); rw [cntK_0]; rfl, Nat.zero_le _, rfl, fun i hi => absurd hi (Nat.not_lt_zero _), Nat.zero_le _, rfl⟩
end
