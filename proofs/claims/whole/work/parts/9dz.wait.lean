/-! the reference's States, and wait() -/
def waB (d : Nat) (x1 : Int32) (v10 : Nat) : (Int32 × HS → Option (Unit × HS)) → Int32 × HS → Option (Unit × HS) := (fun (again41 : Int32 × HS → Option (Unit × HS)) (z41 : Int32 × HS) => (if 8 ≤ z41.1 then ((gR z41.2 160 14 33).bind fun v11 => ((sR "StowTongueModel$State" 13 z41.2 v11 7 v10).bind fun s12 => ((gI s12 160 14 34).bind fun v13 => ((pV s12 160 14 34 (.int (v13 - 1))).bind fun s14 => (x_Mod_wait_b85 d 160 x1 s14))))) else ((gR z41.2 160 14 33).bind fun v27 => ((gR z41.2 160 14 33).bind fun v28 => ((aR "StowTongueModel$State" z41.2 v28 z41.1).bind fun v29 => ((sR "StowTongueModel$State" 13 z41.2 v27 (z41.1 - 1) v29).bind fun s30 => (again41 ((z41.1 + 1), s30))))))))
theorem waB_eq {d : Nat} {x1 : Int32} {v10 : Nat} {z : Int32} {s : HS} {ag : Int32 × HS → Option (Unit × HS)} : waB d x1 v10 ag (z, s) = (if 8 ≤ z then ((gR s 160 14 33).bind fun v11 => ((sR "StowTongueModel$State" 13 s v11 7 v10).bind fun s12 => ((gI s12 160 14 34).bind fun v13 => ((pV s12 160 14 34 (.int (v13 - 1))).bind fun s14 => (x_Mod_wait_b85 d 160 x1 s14))))) else ((gR s 160 14 33).bind fun v27 => ((gR s 160 14 33).bind fun v28 => ((aR "StowTongueModel$State" s v28 z).bind fun v29 => ((sR "StowTongueModel$State" 13 s v27 (z - 1) v29).bind fun s30 => (ag ((z + 1), s30))))))) := rfl
/-- a State's Codes are there -/
def CDs (s : HS) (R : RS) : Prop := ∀ i, i < 10 → R.2.2.2.2.2.2.2.1 i = .null ∨ ∃ u, R.2.2.2.2.2.2.2.1 i = .ref u ∧ isO s u 12 = true ∧ 401 ≤ u
def kR (R : RS) : Prop := ∃ k, k ≤ 12 ∧ R.2.2.2.2.2.2.2.2.2.1 = nI k
/-- the bytes that a State keeps -/
def bsR (R : RS) (v : Int32) : RS := (R.1, R.2.1, R.2.2.1, R.2.2.2.1, R.2.2.2.2.1, R.2.2.2.2.2.1, R.2.2.2.2.2.2.1, R.2.2.2.2.2.2.2.1, R.2.2.2.2.2.2.2.2.1, R.2.2.2.2.2.2.2.2.2.1, R.2.2.2.2.2.2.2.2.2.2.1, v)
/-- now, work, safe, and those that wait -/
def W8 (f : Nat → am_C) (wr : Nat → Nat) (WR : Nat → RS) : Prop := f 238 = .inl (.object "StowTongueModel$State", 8, fun k => .ref (wr k)) ∧ (∀ k, k < 8 → RSt f (wr k) (WR k) ∧ 265 ≤ wr k ∧ wr k + 16 ≤ 400) ∧ ∀ j k, j < 8 → k < 8 → ¬ j = k → wr j + 16 < wr k ∨ wr k + 16 < wr j
def upRR (WR : Nat → RS) (p : Nat) (R : RS) : Nat → RS := fun q => if q = p then R else WR q
section
variable {n us d r q i w nw : Nat} {f f' : Nat → am_C} {b : Nat → Value} {R Q Rn Rs : RS} {wr : Nat → Nat} {WR : Nat → RS} {v lg : Int32}
theorem st_copy (hR : RSt f r R) (r1 : 128 ≤ r) (r2 : r + 16 < n) (hQ : RSt f q Q) (q1 : 128 ≤ q) (q2 : q + 16 < n) (D : q + 16 < r ∨ r + 16 < q) (r4 : r + 16 ≤ 400) {k : Nat} (hk : k ≤ 12) (ek : Q.2.2.2.2.2.2.2.2.2.1 = nI k) (C : CDs (n, f, us) Q) : x_State_copy (d + 2) r q (n, f, us) = some ((), (n, HSt f r (cpR R Q k), us)) := by
  have e := e_stCopy (d := d) (R := R) (us := us) r1 r2 q1 q2 hQ D hk ek (fun i hi => by
    rcases C i hi with w | ⟨u, w1, w2, w3⟩
    · exact Or.inl w
    · have w4 : 401 ≤ u := w3
      exact Or.inr ⟨u, w1, w2, Or.inr (Nat.lt_of_le_of_lt r4 w4)⟩)
  rw [show HSt f r R = f from hR] at e
  exact e
theorem CDs.keep {s s' : HS} (h : CDs s R) (hn : s.1 ≤ s'.1) (hf : ∀ u, 401 ≤ u → isO s u 12 = true → s'.2.1 u = s.2.1 u) : CDs s' R := fun i hi => by
  rcases h i hi with w | ⟨u, w1, w2, w3⟩
  · exact Or.inl w
  · exact Or.inr ⟨u, w1, isO_keep w2 (hf u w3 w2) hn, w3⟩
theorem W8.keep (h : W8 f wr WR) (hf : ∀ z, 238 ≤ z → z ≤ 400 → f' z = f z) : W8 f' wr WR := ⟨(hf 238 (by omega) (by omega)).trans h.1, fun k hk => ⟨(h.2.1 k hk).1.keep (fun x h1 h2 => hf x (by have := (h.2.1 k hk).2; omega) (by have := (h.2.1 k hk).2; omega)), (h.2.1 k hk).2⟩, h.2.2⟩
theorem W8.ar (h : W8 f wr WR) (hn : 1311 ≤ n) (hi : i < 8) : aR "StowTongueModel$State" (n, f, us) 238 (nI i) = some (wr i) := by
  have b0 := cl0 (show i < 2 ^ 31 by omega)
  unfold aR
  rw [aV_of (s := (n, f, us)) h.1 (by decide) (show 238 < n by omega) b0.1 (by rw [b0.2]; omega), b0.2]
  rfl
/-- from the place to be filled on -/
theorem e_wait85 (hn : 1311 ≤ n) (O : OM f b) (b30 : b 30 = .ref nw) (b33 : b 33 = .ref 238) (b34 : b 34 = .int (nI w)) (hw : w < 8) (hnw : nw = 187 ∨ nw = 204) (hN : RSt f nw Rn) (W : W8 f wr WR) {k : Nat} (hk : k ≤ 12) (ek : Rn.2.2.2.2.2.2.2.2.2.1 = nI k) (C : CDs (n, f, us) Rn) : ∃ f', x_Mod_wait_b85 (d + 2) 160 v (n, f, us) = some ((), (n, f', us)) ∧ OM f' (updV b 34 (.int (nI (w + 1)))) ∧ W8 f' wr (upRR WR w (bsR (cpR (WR w) Rn k) v)) ∧ ∀ z, ¬ z = 160 → (z < 265 ∨ 400 < z) → f' z = f z := by
  obtain ⟨Ww, Wl, Wh⟩ := W.2.1 w hw
  have nd : nw + 16 < wr w := by omega
  have cp := st_copy (d := d) (us := us) Ww (by omega) (show wr w + 16 < n by omega) hN (by omega) (by omega) (Or.inl nd) Wh hk ek C
  have O1 : OM (HSt f (wr w) (cpR (WR w) Rn k)) b := (HS_off (by omega)).trans O
  have W1 : HSt f (wr w) (cpR (WR w) Rn k) 238 = .inl (.object "StowTongueModel$State", 8, fun k => .ref (wr k)) := (HS_off (by omega)).trans W.1
  have ar1 : aR "StowTongueModel$State" (n, HSt f (wr w) (cpR (WR w) Rn k), us) 238 (nI w) = some (wr w) := by
    have b0 := cl0 (show w < 2 ^ 31 by omega)
    unfold aR
    rw [aV_of (s := (n, HSt f (wr w) (cpR (WR w) Rn k), us)) W1 (by decide) (show 238 < n by omega) b0.1 (by rw [b0.2]; omega), b0.2]
    rfl
  have O2 : OM (HSt f (wr w) (bsR (cpR (WR w) Rn k) v)) b := (HS_off (by omega)).trans O
  have run : x_Mod_wait_b85 (d + 2) 160 v (n, f, us) = some ((), (n, va_up (HSt f (wr w) (bsR (cpR (WR w) Rn k) v)) 160 (.inr (14, (List.range 53).map (updV b 34 (.int (nI (w + 1)))))), us)) := by
    unfold x_Mod_wait_b85
    rw [mo_gR O hn (by decide) b33, Option.bind_some, mo_gI O hn (by decide) b34, Option.bind_some, W.ar hn hw, Option.bind_some, mo_gR O hn (by decide) b30, Option.bind_some, cp, bnd_some, mo_gR O1 hn (by decide) b33, Option.bind_some, mo_gI O1 hn (by decide) b34, Option.bind_some, ar1, Option.bind_some, s_pb (by omega) (by omega), Option.bind_some]
    have e : HSt f (wr w) ((cpR (WR w) Rn k).1, (cpR (WR w) Rn k).2.1, (cpR (WR w) Rn k).2.2.1, (cpR (WR w) Rn k).2.2.2.1, (cpR (WR w) Rn k).2.2.2.2.1, (cpR (WR w) Rn k).2.2.2.2.2.1, (cpR (WR w) Rn k).2.2.2.2.2.2.1, (cpR (WR w) Rn k).2.2.2.2.2.2.2.1, (cpR (WR w) Rn k).2.2.2.2.2.2.2.2.1, (cpR (WR w) Rn k).2.2.2.2.2.2.2.2.2.1, (cpR (WR w) Rn k).2.2.2.2.2.2.2.2.2.2.1, v) = HSt f (wr w) (bsR (cpR (WR w) Rn k) v) := rfl
    rw [e, mo_gI O2 hn (by decide) b34, Option.bind_some, show nI w + 1 = nI (w + 1) from nI_add w 1, mo_pV O2 hn (by decide), Option.bind_some]
  refine ⟨_, run, OM.up _ _, ⟨?_, fun j hj => ?_, W.2.2⟩, fun z z1 z2 => ?_⟩
  · rw [va_up_ne _ _ (by decide), HS_off (by omega)]
    exact W.1
  · unfold upRR
    by_cases c : j = w
    · subst c
      rw [if_pos rfl]
      exact ⟨RSt.mk.keep (fun x h1 h2 => va_up_ne _ _ (by omega)), Wl, Wh⟩
    · rw [if_neg c]
      have D := W.2.2 j w hj hw c
      obtain ⟨a1, a2, a3⟩ := W.2.1 j hj
      exact ⟨a1.keep (fun x h1 h2 => by rw [va_up_ne _ _ (by omega), HS_off (by omega)]), a2, a3⟩
  · rw [va_up_ne _ _ z1, HS_off (by omega)]
end
