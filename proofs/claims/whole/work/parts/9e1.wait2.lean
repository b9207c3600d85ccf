def FW (f : Nat → am_C) (g : Nat → Nat) : Nat → am_C := va_up f 238 (.inl (.object "StowTongueModel$State", 8, fun k => .ref (g k)))
def rotW (wr : Nat → Nat) : Nat → Nat := fun j => if j < 7 then wr (j + 1) else if j = 7 then wr 0 else wr j
def rotR (WR : Nat → RS) : Nat → RS := fun j => if j < 7 then WR (j + 1) else if j = 7 then WR 0 else WR j
section
variable {n us d r q i w nw : Nat} {f f' : Nat → am_C} {b : Nat → Value} {R Q Rn Rs : RS} {wr g : Nat → Nat} {WR : Nat → RS} {v lg : Int32}
theorem FW_upd {r : Nat} (hn : 1311 ≤ n) (hi : i < 8) (h : isO (n, f, us) r 13 = true) (hr : ¬ r = 238) : sR "StowTongueModel$State" 13 (n, FW f g, us) 238 (nI i) r = some (n, FW f (upU g i r), us) := by
  have b0 := cl0 (show i < 2 ^ 31 by omega)
  have h' : isO (n, FW f g, us) r 13 = true := isO_keep h (va_up_ne _ _ hr) (Nat.le_refl _)
  unfold sR
  rw [if_pos h', sV_of (s := (n, FW f g, us)) (va_up_self _ _ _) (by decide) (show 238 < n by omega) b0.1 (by rw [b0.2]; omega), b0.2]
  unfold FW
  dsimp only
  rw [bx_uu]
  have e : updV (fun k => Value.ref (g k)) i (.ref r) = fun k => .ref (upU g i r k) := by
    funext j
    unfold updV upU
    by_cases c : j = i
    · rw [if_pos c, if_pos c]
    · rw [if_neg c, if_neg c]
  rw [e]
theorem FW_ar (hn : 1311 ≤ n) (hi : i < 8) : aR "StowTongueModel$State" (n, FW f g, us) 238 (nI i) = some (g i) := by
  have b0 := cl0 (show i < 2 ^ 31 by omega)
  unfold aR
  rw [aV_of (s := (n, FW f g, us)) (va_up_self _ _ _) (by decide) (show 238 < n by omega) b0.1 (by rw [b0.2]; omega), b0.2]
  rfl
theorem wa_L (hn : 1311 ≤ n) (O : OM f b) (b33 : b 33 = .ref 238) (b34 : b 34 = .int (nI 8)) {r0 : Nat} (h0 : isO (n, f, us) r0 13 = true) (hr0 : ¬ r0 = 238) : ∀ m i M (g : Nat → Nat), i + m = 8 → 1 ≤ i → m < M → (∀ j, j < 8 → isO (n, f, us) (g j) 13 = true ∧ ¬ g j = 238) → loopK (waB d v r0) M (nI i, (n, FW f g, us)) = x_Mod_wait_b85 d 160 v (n, va_up (FW f (fun j => if i ≤ j + 1 ∧ j < 7 then g (j + 1) else if j = 7 then r0 else g j)) 160 (.inr (14, (List.range 53).map (updV b 34 (.int (nI 7))))), us) := by
  have O1 : ∀ g, OM (FW f g) b := fun g => (va_up_ne _ _ (by decide)).trans O
  intro m
  induction m with
  | zero =>
    intro i M g e1 e0 e2 U
    obtain ⟨M, rfl⟩ : ∃ M', M = M' + 1 := ⟨M - 1, by omega⟩
    have e : upU g 7 r0 = (fun j => if i ≤ j + 1 ∧ j < 7 then g (j + 1) else if j = 7 then r0 else g j) := by
      funext j
      unfold upU
      rw [if_neg (show ¬ (i ≤ j + 1 ∧ j < 7) by omega)]
    rw [loopK_succ, waB_eq, if_pos (show (8 : Int32) ≤ nI i from nI_le (a := 8) (by omega) (by omega)), mo_gR (O1 g) hn (by decide) b33, Option.bind_some, show (7 : Int32) = nI 7 from rfl, FW_upd hn (by decide) h0 hr0, Option.bind_some, mo_gI (O1 _) hn (by decide) b34, Option.bind_some, show nI 8 - 1 = nI 7 from rfl, mo_pV (O1 _) hn (by decide), Option.bind_some, e]
  | succ m ih =>
    intro i M g e1 e0 e2 U
    obtain ⟨M, rfl⟩ : ∃ M', M = M' + 1 := ⟨M - 1, by omega⟩
    rw [loopK_succ, waB_eq, if_neg (show ¬ (8 : Int32) ≤ nI i from nI_ge (b := 8) (by omega) (by omega)), mo_gR (O1 g) hn (by decide) b33, Option.bind_some, Option.bind_some, FW_ar hn (by omega), Option.bind_some, show nI i - 1 = nI (i - 1) from nI_sub e0, FW_upd hn (by omega) (U i (by omega)).1 (U i (by omega)).2, Option.bind_some, show nI i + 1 = nI (i + 1) from nI_add i 1, ih (i + 1) M (upU g (i - 1) (g i)) (by omega) (by omega) (by omega) (fun j hj => by
      unfold upU
      by_cases c : j = i - 1
      · rw [if_pos c]
        exact U i (by omega)
      · rw [if_neg c]
        exact U j hj)]
    have e : (fun j => if i + 1 ≤ j + 1 ∧ j < 7 then upU g (i - 1) (g i) (j + 1) else if j = 7 then r0 else upU g (i - 1) (g i) j) = (fun j => if i ≤ j + 1 ∧ j < 7 then g (j + 1) else if j = 7 then r0 else g j) := by
      funext j
      unfold upU
      by_cases c : i + 1 ≤ j + 1 ∧ j < 7
      · rw [if_pos c, if_neg (by omega), if_pos (by omega)]
      · rw [if_neg c]
        by_cases c7 : j = 7
        · rw [if_pos c7, if_neg (show ¬ (i ≤ j + 1 ∧ j < 7) by omega), if_pos c7]
        · rw [if_neg c7]
          by_cases ci : j = i - 1
          · rw [if_pos ci, if_pos (show i ≤ j + 1 ∧ j < 7 by omega)]
            congr 1
            omega
          · rw [if_neg ci, if_neg (show ¬ (i ≤ j + 1 ∧ j < 7) by omega), if_neg c7]
    rw [e]
/-- wait(): the new place holds what now is -/
theorem e_wait (hn : 1311 ≤ n) (O : OM f b) (b30 : b 30 = .ref nw) (b32 : b 32 = .ref 221) (b33 : b 33 = .ref 238) (b34 : b 34 = .int (nI w)) (b35 : b 35 = .int lg) (hw : w ≤ 8) (hnw : nw = 187 ∨ nw = 204) (hN : RSt f nw Rn) (hS : RSt f 221 Rs) (W : W8 f wr WR) {k k0 : Nat} (hk : k ≤ 12) (ek : Rn.2.2.2.2.2.2.2.2.2.1 = nI k) (C : CDs (n, f, us) Rn) (hk0 : k0 ≤ 12) (ek0 : w = 8 → (WR 0).2.2.2.2.2.2.2.2.2.1 = nI k0) (C0 : w = 8 → CDs (n, f, us) (WR 0)) : ∃ f' b' wr', x_Mod_wait (d + 3) 160 v (n, f, us) = some ((), (n, f', us)) ∧ OM f' b' ∧ (b' 34 = .int (nI (if w < 8 then w + 1 else 8)) ∧ b' 35 = .int (lg + v) ∧ ∀ i, ¬ i = 34 → ¬ i = 35 → b' i = b i) ∧ (if w < 8 then RSt f' 221 Rs else RSt f' 221 (cpR Rs (WR 0) k0)) ∧ W8 f' wr' (if w < 8 then upRR WR w (bsR (cpR (WR w) Rn k) v) else upRR (rotR WR) 7 (bsR (cpR (WR 0) Rn k) v)) ∧ ∀ z, ¬ z = 160 → (z < 221 ∨ (238 < z ∧ z < 265) ∨ 400 < z) → f' z = f z := by
  have O1 : OM (va_up f 160 (.inr (14, (List.range 53).map (updV b 35 (.int (lg + v)))))) (updV b 35 (.int (lg + v))) := OM.up _ _
  obtain ⟨f1, hf1⟩ : ∃ f1, f1 = va_up f 160 (.inr (14, (List.range 53).map (updV b 35 (.int (lg + v))))) := ⟨_, rfl⟩
  rw [← hf1] at O1
  have fr1 : ∀ z, ¬ z = 160 → f1 z = f z := fun z hz => by rw [hf1]; exact va_up_ne _ _ hz
  have p35 : pV (n, f, us) 160 14 35 (.int (lg + v)) = some (n, f1, us) := by rw [hf1]; exact mo_pV O hn (by decide)
  clear hf1
  obtain ⟨b1, hb1⟩ : ∃ b1, b1 = updV b 35 (.int (lg + v)) := ⟨_, rfl⟩
  rw [← hb1] at O1
  have v1 : ∀ i, ¬ i = 35 → b1 i = b i := fun i hi => by rw [hb1]; exact ub_ne hi
  have v35 : b1 35 = .int (lg + v) := by rw [hb1]; exact ub_self
  clear hb1
  have hN1 : RSt f1 nw Rn := hN.keep (fun x h1 h2 => fr1 x (by omega))
  have hS1 : RSt f1 221 Rs := hS.keep (fun x h1 h2 => fr1 x (by omega))
  have W1 : W8 f1 wr WR := W.keep (fun z h1 h2 => fr1 z (by omega))
  have C1 : CDs (n, f1, us) Rn := C.keep (Nat.le_refl _) (fun u h1 h2 => fr1 u (by omega))
  unfold x_Mod_wait
  dsimp only
  rw [mo_gd O hn, mo_gI O hn (by decide) b35, Option.bind_some, p35, Option.bind_some, mo_gI O1 hn (by decide) ((v1 34 (by decide)).trans b34), Option.bind_some]
  by_cases c8 : w < 8
  · rw [if_neg (show ¬ nI w = 8 from fun h => by have := nI_inj (a := w) (b := 8) (by omega) (by decide) h; omega)]
    obtain ⟨f', e1, e2, e3, e4⟩ := e_wait85 (d := d) (v := v) hn O1 ((v1 30 (by decide)).trans b30) ((v1 33 (by decide)).trans b33) ((v1 34 (by decide)).trans b34) c8 hnw hN1 W1 hk ek C1
    refine ⟨f', _, wr, e1, e2, ⟨?_, ?_, fun i h1 h2 => ?_⟩, ?_, ?_, fun z z1 z2 => (e4 z z1 (by omega)).trans (fr1 z z1)⟩
    · rw [if_pos c8]
      exact ub_self
    · rw [ub_ne (by decide)]
      exact v35
    · rw [ub_ne h1]
      exact v1 i h2
    · rw [if_pos c8]
      exact hS1.keep (fun x h1 h2 => e4 x (by omega) (by omega))
    · rw [if_pos c8]
      exact e3
  · have w8 : w = 8 := by omega
    subst w8
    have C01 : CDs (n, f1, us) (WR 0) := (C0 rfl).keep (Nat.le_refl _) (fun u h1 h2 => fr1 u (by omega))
    obtain ⟨W0, W0l, W0h⟩ := W1.2.1 0 (by decide)
    have cp := st_copy (d := d) (us := us) hS1 (by decide) (show 221 + 16 < n by omega) W0 (by omega) (by omega) (Or.inr (by omega)) (by decide) hk0 (ek0 rfl) C01
    have O2 : OM (HSt f1 221 (cpR Rs (WR 0) k0)) b1 := (HS_off (by omega)).trans O1
    have W2 : W8 (HSt f1 221 (cpR Rs (WR 0) k0)) wr WR := W1.keep (fun z h1 h2 => HS_off (by omega))
    have FWe : HSt f1 221 (cpR Rs (WR 0) k0) = FW (HSt f1 221 (cpR Rs (WR 0) k0)) wr := by
      unfold FW
      exact (am_up_same W2.1).symm
    have io : ∀ j, j < 8 → isO (n, HSt f1 221 (cpR Rs (WR 0) k0), us) (wr j) 13 = true ∧ ¬ wr j = 238 := fun j hj => by
      obtain ⟨a1, a2, a3⟩ := W2.2.1 j hj
      exact ⟨isO_of (s := (n, HSt f1 221 (cpR Rs (WR 0) k0), us)) ((congrFun a1.eq (wr j)).trans HS_0) (by omega) (by show wr j < n; omega), by omega⟩
    have L := wa_L (d := d + 2) (us := us) (v := v) hn O2 ((v1 33 (by decide)).trans b33) ((v1 34 (by decide)).trans b34) (io 0 (by decide)).1 (io 0 (by decide)).2 7 1 FU wr (by decide) (by decide) (by rw [FU_eq]; decide) io
    have eR : (fun j => if 1 ≤ j + 1 ∧ j < 7 then wr (j + 1) else if j = 7 then wr 0 else wr j) = rotW wr := by
      funext j
      unfold rotW
      by_cases c : j < 7
      · rw [if_pos ⟨by omega, c⟩, if_pos c]
      · rw [if_neg (fun w => c w.2), if_neg c]
    rw [eR] at L
    rw [if_pos (show nI 8 = 8 from rfl), mo_gR O1 hn (by decide) ((v1 32 (by decide)).trans b32), Option.bind_some, mo_gR O1 hn (by decide) ((v1 33 (by decide)).trans b33), Option.bind_some, show (0 : Int32) = nI 0 from rfl, W1.ar hn (by decide), Option.bind_some, cp, bnd_some, mo_gR O2 hn (by decide) ((v1 33 (by decide)).trans b33), Option.bind_some, W2.ar hn (by decide), Option.bind_some]
    obtain ⟨f3, hf3⟩ : ∃ f3, f3 = va_up (FW (HSt f1 221 (cpR Rs (WR 0) k0)) (rotW wr)) 160 (.inr (14, (List.range 53).map (updV b1 34 (.int (nI 7))))) := ⟨_, rfl⟩
    have O3 : OM f3 (updV b1 34 (.int (nI 7))) := by rw [hf3]; exact OM.up _ _
    have fr3 : ∀ z, ¬ z = 160 → ¬ z = 238 → f3 z = HSt f1 221 (cpR Rs (WR 0) k0) z := fun z z1 z2 => by
      rw [hf3, va_up_ne _ _ z1]
      exact va_up_ne _ _ z2
    have f238 : f3 238 = .inl (.object "StowTongueModel$State", 8, fun k => .ref (rotW wr k)) := by
      rw [hf3, va_up_ne _ _ (by decide)]
      exact va_up_self _ _ _
    have rot : ∀ j, j < 8 → ∃ i, i < 8 ∧ rotW wr j = wr i ∧ rotR WR j = WR i ∧ i = (j + 1) % 8 := fun j hj => by
      unfold rotW rotR
      by_cases c : j < 7
      · exact ⟨j + 1, by omega, if_pos c, if_pos c, by omega⟩
      · exact ⟨0, by omega, by rw [if_neg c, if_pos (by omega)], by rw [if_neg c, if_pos (by omega)], by omega⟩
    have W3 : W8 f3 (rotW wr) (rotR WR) := by
      refine ⟨f238, fun j hj => ?_, fun i j hi hj hij => ?_⟩
      · obtain ⟨i, hi, e1, e2, _⟩ := rot j hj
        obtain ⟨a1, a2, a3⟩ := W2.2.1 i hi
        rw [e1, e2]
        exact ⟨a1.keep (fun x h1 h2 => fr3 x (by omega) (by omega)), a2, a3⟩
      · obtain ⟨i', hi', e1, _, e1'⟩ := rot i hi
        obtain ⟨j', hj', e2, _, e2'⟩ := rot j hj
        rw [e1, e2]
        exact W2.2.2 i' j' hi' hj' (by omega)
    have hN3 : RSt f3 nw Rn := hN1.keep (fun x h1 h2 => by rw [fr3 x (by omega) (by omega), HS_off (by omega)])
    have C3 : CDs (n, f3, us) Rn := C1.keep (Nat.le_refl _) (fun u h1 h2 => (fr3 u (by omega) (by omega)).trans (HS_off (by omega)))
    obtain ⟨f', e1, e2, e3, e4⟩ := e_wait85 (d := d) (v := v) (us := us) hn O3 ((ub_ne (by decide)).trans ((v1 30 (by decide)).trans b30)) ((ub_ne (by decide)).trans ((v1 33 (by decide)).trans b33)) (ub_self (v := .int (nI 7))) (by decide) hnw hN3 W3 hk ek C3
    have run : loopK (waB (d + 2) v (wr 0)) FU (nI 1, (n, HSt f1 221 (cpR Rs (WR 0) k0), us)) = some ((), (n, f', us)) := by
      rw [← FWe] at L
      rw [L, ← hf3]
      exact e1
    refine ⟨f', _, rotW wr, run, e2, ⟨?_, ?_, fun i h1 h2 => ?_⟩, ?_, ?_, fun z z1 z2 => ?_⟩
    · rw [if_neg c8]
      exact ub_self
    · rw [ub_ne (by decide), ub_ne (by decide)]
      exact v35
    · rw [ub_ne h1, ub_ne h1]
      exact v1 i h2
    · rw [if_neg c8]
      exact RSt.mk.keep (fun x h1 h2 => (e4 x (by omega) (by omega)).trans (fr3 x (by omega) (by omega)))
    · rw [if_neg c8]
      have e : rotR WR 7 = WR 0 := by
        unfold rotR
        rw [if_neg (by decide), if_pos rfl]
      rw [e] at e3
      exact e3
    · rw [e4 z z1 (by omega), fr3 z z1 (by omega), HS_off (by omega), fr1 z z1]
end
