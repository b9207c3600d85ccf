/-! what is printed -/
def OR (O : oS) (om : Int32) (ob : Nat → Int32) : Prop := om = nI O.1 ∧ O.1 ≤ 600 ∧ ∀ j, j < O.1 → ob j = O.2.2 j ∧ ∃ x, x < 128 ∧ ob j = nI x
def SpI (O : oS) : Prop := O.1 ≤ 600 ∧ (O.2.1 = 0 ∨ O.1 = 600)
theorem SpI_add {O : oS} {x : Int32} (h : SpI O) : SpI (s_add O x) := by
  unfold s_add SpI at *
  dsimp only
  by_cases c : O.1 < 600
  · rw [if_pos c, if_pos c]
    exact ⟨by omega, Or.inl (h.2.resolve_right (by omega))⟩
  · rw [if_neg c, if_neg c]
    exact ⟨h.1, Or.inr (by omega)⟩
theorem SpI_at {x0 x1 : Int64} : ∀ m i (O : oS), SpI O → SpI (s_at x0 x1 m i O)
  | 0, _, _, h => h
  | m + 1, i, O, h => by
    rw [s_at]
    exact SpI_at m (i + 1) _ (SpI_add h)
theorem SpI_dg {x : Int64} : ∀ m u (O : oS), SpI O → SpI (s_dg x m u O)
  | 0, _, _, h => h
  | m + 1, u, O, h => by
    rw [s_dg]
    by_cases c : lg_cmp u 0 ≤ 0
    · rw [if_pos c]
      exact h
    · rw [if_neg c]
      exact SpI_dg m _ _ (SpI_add h)
theorem SpI_pre {O : oS} {v : V2} (h : SpI O) : SpI (d_pre O v) := by
  unfold d_pre s_num
  repeat' split
  · exact SpI_dg _ _ _ h
  · exact SpI_dg _ _ _ (SpI_add h)
  · exact SpI_at _ _ _ h
  · exact SpI_add h
  · exact SpI_add h
  · exact SpI_add h
theorem out_sp {O : oS} {v : V2} (h : SpI O) : ((d_out O v).2.1 = 0 ↔ ¬ (d_pre O v).1 = 600) := by
  have k := SpI_pre (v := v) h
  unfold d_out s_add
  dsimp only
  by_cases c : (d_pre O v).1 < 600
  · rw [if_pos c]
    exact ⟨fun _ => by omega, fun _ => k.2.resolve_right (by omega)⟩
  · rw [if_neg c]
    exact ⟨fun q => absurd q (by decide), fun q => absurd (Nat.le_antisymm k.1 (by omega)) q⟩
theorem by_8 : ∀ x, x < 128 → (nI x).toInt8.toInt32 = nI x := by decide +kernel
theorem ofN_div {X U : Nat} (hx : X < 2 ^ 62) (hu : U < 2 ^ 62) : Int64.ofNat X / Int64.ofNat U = Int64.ofNat (X / U) := by
  apply Int64.toInt_inj.mp
  have hs : Int64.size = 18446744073709551616 := rfl
  have e : ∀ a : Nat, a < 2 ^ 62 → (Int64.ofNat a).toInt = a := by
    intro a h
    rw [Int64.toInt_ofNat', hs, Int.bmod_eq_of_le (by omega) (by omega)]
  have hd : X / U ≤ X := Nat.div_le_self _ _
  rw [Int64.toInt_div, e X hx, e U hu, e (X / U) (by omega)]
  rw [show (X : Int).tdiv (U : Int) = ((X / U : Nat) : Int) from rfl]
  generalize X / U = q at hd ⊢
  rw [Int.bmod_eq_of_le (by omega) (by omega)]
theorem dig_n {X U : Nat} (hx : X < 2 ^ 62) (hu : U < 2 ^ 62) : ((48 + ((Int64.ofNat X / Int64.ofNat U) - (Int64.ofNat X / Int64.ofNat U) / 10 * 10)) : Int64).toInt32 = nI (48 + X / U % 10) := by
  have hd : X / U ≤ X := Nat.div_le_self _ _
  rw [ofN_div hx hu, show (10 : Int64) = Int64.ofNat 10 from rfl, ofN_div (by omega) (by decide), ← Int64.ofNat_mul, ← Int64.ofNat_sub _ _ (Nat.div_mul_le_self _ _), show (48 : Int64) = Int64.ofNat 48 from rfl, ← Int64.ofNat_add, Int64.toInt32_ofNat']
  congr 2
  have := Nat.div_add_mod (X / U) 10
  omega
theorem abs_n (x : Int32) : ∃ X, X ≤ 2 ^ 31 ∧ s_abs x.toInt64 = Int64.ofNat X := by
  have h1 := Int32.le_toInt x
  have h2 := Int32.toInt_lt x
  refine ⟨x.toInt.natAbs, by omega, ?_⟩
  have hs : Int64.size = 18446744073709551616 := rfl
  apply Int64.toInt_inj.mp
  rw [Int64.toInt_ofNat', hs, Int.bmod_eq_of_le (by omega) (by omega)]
  unfold s_abs
  by_cases c : 0 < x.toInt64
  · rw [if_pos c, Int32.toInt_toInt64]
    have := Int64.lt_iff_toInt_lt.mp c
    rw [Int32.toInt_toInt64] at this
    have z : (0 : Int64).toInt = 0 := rfl
    omega
  · rw [if_neg c, Int64.toInt_neg, Int32.toInt_toInt64]
    have : ¬ (0 : Int64).toInt < x.toInt64.toInt := fun w => c (Int64.lt_iff_toInt_lt.mpr w)
    rw [Int32.toInt_toInt64] at this
    have z : (0 : Int64).toInt = 0 := rfl
    rw [Int.bmod_eq_of_le (by omega) (by omega)]
    omega
theorem le9 {a : Int64} : lg_cmp a 9 ≤ 0 ↔ lg_cmp a 10 < 0 := by
  rw [lc_lt]
  constructor
  · intro h
    have h' : ¬ 0 < lg_cmp a 9 := Int32.not_lt.mpr h
    rw [lc_gt, Int64.lt_iff_toInt_lt] at h'
    rw [Int64.lt_iff_toInt_lt]
    have z : (9 : Int64).toInt = 9 := rfl
    have z2 : (10 : Int64).toInt = 10 := rfl
    omega
  · intro h
    refine Int32.not_lt.mp (fun w => ?_)
    rw [lc_gt, Int64.lt_iff_toInt_lt] at w
    rw [Int64.lt_iff_toInt_lt] at h
    have z : (9 : Int64).toInt = 9 := rfl
    have z2 : (10 : Int64).toInt = 10 := rfl
    omega
theorem p10_62 : ∀ k, k ≤ 10 → 10 ^ k < 2 ^ 62 := by decide
theorem p10_pos : ∀ k, k ≤ 10 → ¬ lg_cmp (Int64.ofNat (10 ^ k)) 0 ≤ 0 := by decide +kernel
section
variable {n us : Nat} {f : Nat → am_C} {b : Nat → Value} {sk pk g0 hk : Nat → VQ} {cu : Nat → Value} {bk bs ob : Nat → Int32} {r : Nat} {R : RS} {om T P fu u fr pc : Int32} {t d : Nat} {v : V2} {O : oS}
theorem e_say (D : RD n r) (hO : OR O om ob) {x : Nat} (hx : x < 128) : ∃ om' ob', x_Mod_say d 160 (nI x) (n, MM f b sk pk g0 hk cu bk bs ob r R om T P fu u fr pc, us) = some (if O.1 = 600 then 0 else 1, (n, MM f b sk pk g0 hk cu bk bs ob' r R om' T P fu u fr pc, us)) ∧ OR (s_add O (nI x)) om' ob' := by
  obtain ⟨rfl, h2, h3⟩ := hO
  unfold x_Mod_say
  rw [r_gd D, r_g3 D, Option.bind_some]
  by_cases c : O.1 = 600
  · rw [if_pos (show nI O.1 = 600 by rw [c]; rfl), if_pos c]
    refine ⟨_, _, rfl, ?_⟩
    unfold s_add
    rw [if_neg (by omega), if_neg (by omega), if_neg (by omega)]
    exact ⟨rfl, h2, h3⟩
  · rw [if_neg (show ¬ nI O.1 = 600 from fun w => c (nI_inj (b := 600) (by omega) (by decide) w)), if_neg c, r_g1 D, Option.bind_some, Option.bind_some, s_ob D (show O.1 < 600 by omega), Option.bind_some, r_g3 D, Option.bind_some, na1, r_p3 D, Option.bind_some, by_8 x hx, by_8 x hx]
    refine ⟨_, _, rfl, ?_⟩
    unfold s_add
    rw [if_pos (by omega), if_pos (by omega), if_pos (by omega), by_8 x hx]
    refine ⟨rfl, by show O.1 + 1 ≤ 600; omega, fun j hj => ?_⟩
    have hj' : j < O.1 + 1 := hj
    show upI ob O.1 (nI x) j = upI O.2.2 O.1 (nI x) j ∧ ∃ x', x' < 128 ∧ upI ob O.1 (nI x) j = nI x'
    unfold upI
    by_cases q : j = O.1
    · rw [if_pos q, if_pos q]
      exact ⟨rfl, x, hx, rfl⟩
    · rw [if_neg q, if_neg q]
      exact h3 j (by omega)
/-- the last sign of a print -/
theorem e_end (D : RD n r) (hO : OR O om ob) : ∃ om' ob', (bnd (x_Mod_say d 160 10 (n, MM f b sk pk g0 hk cu bk bs ob r R om T P fu u fr pc, us)) fun v16 s15 => (if v16 = 0 then (some ((9 : Int32), s15)) else (some ((-1), s15)))) = some (if O.1 = 600 then (9 : Int32) else -1, (n, MM f b sk pk g0 hk cu bk bs ob' r R om' T P fu u fr pc, us)) ∧ OR (s_add O 10) om' ob' := by
  obtain ⟨om', ob', k1, k2⟩ := e_say (d := d) (n := n) (us := us) (f := f) (b := b) (sk := sk) (pk := pk) (g0 := g0) (hk := hk) (cu := cu) (bk := bk) (bs := bs) (R := R) (T := T) (P := P) (fu := fu) (u := u) (fr := fr) (pc := pc) D hO (show 10 < 128 by decide)
  refine ⟨om', ob', ?_, k2⟩
  have k1' : x_Mod_say d 160 10 (n, MM f b sk pk g0 hk cu bk bs ob r R om T P fu u fr pc, us) = some (if O.1 = 600 then 0 else 1, (n, MM f b sk pk g0 hk cu bk bs ob' r R om' T P fu u fr pc, us)) := k1
  rw [k1', bnd_some]
  by_cases c : O.1 = 600
  · rw [if_pos c, if_pos c, if_pos rfl]
  · rw [if_neg c, if_neg c, if_neg (by decide)]
theorem e_dig (D : RD n r) {X : Nat} (hX : X ≤ 2 ^ 31) : ∀ (j M m : Nat) (O : oS) (om : Int32) (ob : Nat → Int32), j ≤ 11 → j ≤ m → OR O om ob → ∃ om' ob', loopK (fun (again97 : Int64 × HS → Option (Int32 × HS)) (z97 : Int64 × HS) => (if (lg_cmp z97.1 0) ≤ 0 then (bnd (x_Mod_say d 160 10 z97.2) fun v16 s15 => (if v16 = 0 then (some (9, s15)) else (some ((-1), s15)))) else (if z97.1 = 0 then none else (bnd (x_Mod_say d 160 ((48 + ((Int64.ofNat X / z97.1) - (Int64.ofNat X / z97.1) / 10 * 10)) : Int64).toInt32 z97.2) fun v18 s17 => (again97 ((z97.1 / 10), s17)))))) (M + j + 1) ((if j = 0 then 0 else Int64.ofNat (10 ^ (j - 1))), (n, MM f b sk pk g0 hk cu bk bs ob r R om T P fu u fr pc, us)) = some (if (s_dg (Int64.ofNat X) m (if j = 0 then 0 else Int64.ofNat (10 ^ (j - 1))) O).1 = 600 then 9 else -1, (n, MM f b sk pk g0 hk cu bk bs ob' r R om' T P fu u fr pc, us)) ∧ OR (s_add (s_dg (Int64.ofNat X) m (if j = 0 then 0 else Int64.ofNat (10 ^ (j - 1))) O) 10) om' ob'
  | 0, M, m, O, om, ob, _, _, hO => by
    rw [if_pos rfl, loopK_succ]
    dsimp only
    rw [if_pos (by decide)]
    have e : s_dg (Int64.ofNat X) m 0 O = O := by
      cases m with
      | zero => rfl
      | succ m => rw [s_dg, if_pos (by decide)]
    rw [e]
    exact e_end D hO
  | j + 1, M, 0, O, om, ob, _, h, _ => by omega
  | j + 1, M, m + 1, O, om, ob, hj, hm, hO => by
    rw [if_neg (by omega), Nat.add_sub_cancel, ← Nat.add_assoc, loopK_succ, s_dg]
    dsimp only
    rw [if_neg (p10_pos j (by omega)), if_neg (p10_pos j (by omega)), if_neg (p10_ne j (by omega)), dig_n (by omega) (p10_62 j (by omega))]
    obtain ⟨om1, ob1, k1, k2⟩ := e_say (d := d) (n := n) (us := us) (f := f) (b := b) (sk := sk) (pk := pk) (g0 := g0) (hk := hk) (cu := cu) (bk := bk) (bs := bs) (R := R) (T := T) (P := P) (fu := fu) (u := u) (fr := fr) (pc := pc) D hO (show 48 + X / 10 ^ j % 10 < 128 by omega)
    rw [k1, bnd_some]
    have ed : Int64.ofNat (10 ^ j) / 10 = if j = 0 then 0 else Int64.ofNat (10 ^ (j - 1)) := by
      rw [show (10 : Int64) = Int64.ofNat 10 from rfl, ofN_div (p10_62 j (by omega)) (by decide)]
      cases j with
      | zero => rfl
      | succ j => rw [if_neg (by omega), Nat.add_sub_cancel, Nat.pow_succ, Nat.mul_div_cancel _ (by decide)]
    rw [ed]
    exact e_dig D hX j M m _ om1 ob1 (by omega) (by omega) k2
theorem e_num (D : RD n r) {X : Nat} (hX : X ≤ 2 ^ 31) (hO : OR O om ob) : ∀ (m k M : Nat), k + m = 10 → ∃ om' ob', loopK (fun (again71 : Int64 × HS → Option (Int32 × HS)) (z71 : Int64 × HS) => (if z71.1 = 0 then none else (if (lg_cmp (Int64.ofNat X / z71.1) 9) ≤ 0 then (loopK (fun (again97 : Int64 × HS → Option (Int32 × HS)) (z97 : Int64 × HS) => (if (lg_cmp z97.1 0) ≤ 0 then (bnd (x_Mod_say d 160 10 z97.2) fun v16 s15 => (if v16 = 0 then (some (9, s15)) else (some ((-1), s15)))) else (if z97.1 = 0 then none else (bnd (x_Mod_say d 160 ((48 + ((Int64.ofNat X / z97.1) - (Int64.ofNat X / z97.1) / 10 * 10)) : Int64).toInt32 z97.2) fun v18 s17 => (again97 ((z97.1 / 10), s17)))))) FU (z71.1, z71.2)) else (again71 ((z71.1 * 10), z71.2))))) (M + m + 1) (Int64.ofNat (10 ^ k), (n, MM f b sk pk g0 hk cu bk bs ob r R om T P fu u fr pc, us)) = some (if (s_dg (Int64.ofNat X) 11 (s_un (Int64.ofNat X) m (Int64.ofNat (10 ^ k))) O).1 = 600 then 9 else -1, (n, MM f b sk pk g0 hk cu bk bs ob' r R om' T P fu u fr pc, us)) ∧ OR (s_add (s_dg (Int64.ofNat X) 11 (s_un (Int64.ofNat X) m (Int64.ofNat (10 ^ k))) O) 10) om' ob' := by
  intro m
  have fin : ∀ k, k ≤ 10 → ∃ om' ob', loopK (fun (again97 : Int64 × HS → Option (Int32 × HS)) (z97 : Int64 × HS) => (if (lg_cmp z97.1 0) ≤ 0 then (bnd (x_Mod_say d 160 10 z97.2) fun v16 s15 => (if v16 = 0 then (some (9, s15)) else (some ((-1), s15)))) else (if z97.1 = 0 then none else (bnd (x_Mod_say d 160 ((48 + ((Int64.ofNat X / z97.1) - (Int64.ofNat X / z97.1) / 10 * 10)) : Int64).toInt32 z97.2) fun v18 s17 => (again97 ((z97.1 / 10), s17)))))) FU (Int64.ofNat (10 ^ k), (n, MM f b sk pk g0 hk cu bk bs ob r R om T P fu u fr pc, us)) = some (if (s_dg (Int64.ofNat X) 11 (Int64.ofNat (10 ^ k)) O).1 = 600 then 9 else -1, (n, MM f b sk pk g0 hk cu bk bs ob' r R om' T P fu u fr pc, us)) ∧ OR (s_add (s_dg (Int64.ofNat X) 11 (Int64.ofNat (10 ^ k)) O) 10) om' ob' := by
    intro k hk'
    have h := e_dig (d := d) (n := n) (us := us) (f := f) (b := b) (sk := sk) (pk := pk) (g0 := g0) (hk := hk) (cu := cu) (bk := bk) (bs := bs) (R := R) (T := T) (P := P) (fu := fu) (u := u) (fr := fr) (pc := pc) D hX (k + 1) (FU - (k + 2)) 11 O om ob (by omega) (by omega) hO
    rw [if_neg (by omega), Nat.add_sub_cancel, show FU - (k + 2) + (k + 1) + 1 = FU by rw [FU_eq]; omega] at h
    exact h
  induction m with
  | zero =>
    intro k M e
    obtain rfl : k = 10 := by omega
    rw [loopK_succ, s_un]
    dsimp only
    rw [if_neg (p10_ne 10 (by omega)), if_pos ?_]
    · exact fin 10 (Nat.le_refl _)
    · have h10 : (10 : Nat) ^ 10 = 10000000000 := by decide
      rw [ofN_div (by omega) (p10_62 10 (by omega)), show X / 10 ^ 10 = 0 from Nat.div_eq_of_lt (by omega)]
      decide
  | succ m ih =>
    intro k M e
    rw [← Nat.add_assoc, loopK_succ, s_un]
    dsimp only
    rw [if_neg (p10_ne k (by omega))]
    by_cases c : lg_cmp (Int64.ofNat X / Int64.ofNat (10 ^ k)) 10 < 0
    · rw [if_pos (le9.mpr c), if_pos c]
      exact fin k (by omega)
    · rw [if_neg (fun w => c (le9.mp w)), if_neg c, show Int64.ofNat (10 ^ k) * 10 = Int64.ofNat (10 ^ (k + 1)) by rw [Nat.pow_succ, Int64.ofNat_mul]; rfl]
      exact ih (k + 1) M (by omega)
theorem e_txt (D : RD n r) (ht : t < 8000) {w : List Nat} (hw : okL w) (hl : w.length ≤ 16) (hs : sk t = T8 w) (hO : OR O om ob) : ∃ om' ob', loopK (fun (again143 : Int32 × HS → Option (Int32 × HS)) (z143 : Int32 × HS) => ((gR z143.2 160 14 37).bind fun v25 => ((gR z143.2 v25 11 1).bind fun v26 => ((gI z143.2 160 14 41).bind fun v27 => ((aI z143.2 v26 v27).bind fun v28 => (if v28 ≤ z143.1 then (bnd (x_Mod_say d 160 10 z143.2) fun v30 s29 => (if v30 = 0 then (some (9, s29)) else (some ((-1), s29)))) else ((gR z143.2 160 14 37).bind fun v31 => ((gI z143.2 160 14 41).bind fun v32 => (bnd (x_Vals_sign d v31 v32 z143.1 z143.2) fun v34 s33 => (bnd (x_Mod_say d 160 v34 s33) fun v36 s35 => (again143 ((z143.1 + 1), s35)))))))))))) FU (0, (n, MM f b sk pk g0 hk cu bk bs ob r R om (nI (t)) P fu u fr pc, us)) = some (if (s_at (T7 w).1 (T7 w).2 w.length 0 O).1 = 600 then 9 else -1, (n, MM f b sk pk g0 hk cu bk bs ob' r R om' (nI t) P fu u fr pc, us)) ∧ OR (s_add (s_at (T7 w).1 (T7 w).2 w.length 0 O) 10) om' ob' := by
  have s1 : (T8 w).2.1 = nI w.length := rfl
  refine loop_ind (fun z q => ∀ k i (O : oS) (om : Int32) (ob : Nat → Int32), i + k = w.length → OR O om ob → z = (nI i, (n, MM f b sk pk g0 hk cu bk bs ob r R om (nI (t)) P fu u fr pc, us)) → ∃ om' ob', q = some (if (s_at (T7 w).1 (T7 w).2 k i O).1 = 600 then 9 else -1, (n, MM f b sk pk g0 hk cu bk bs ob' r R om' (nI t) P fu u fr pc, us)) ∧ OR (s_add (s_at (T7 w).1 (T7 w).2 k i O) 10) om' ob') (fun z => 17 - z.1.toNatClampNeg) (fun again z ih k i O om ob e hO ez => ?_) FU _ (by rw [FU_eq]; omega) w.length 0 O om ob (by omega) hO rfl
  subst ez
  dsimp only
  rw [r_g37 D, Option.bind_some, r_sk1 D, Option.bind_some, r_g41 D, Option.bind_some, a_sk1 D ht, Option.bind_some, hs, s1]
  cases k with
  | zero =>
    obtain rfl : i = w.length := by omega
    rw [if_pos (Int32.le_refl _), s_at]
    exact e_end D hO
  | succ k =>
    have b0 := cl0 (show i < 2 ^ 31 by omega)
    have hi : i < w.length := by omega
    have g := hw.getD hi
    obtain ⟨om1, ob1, k1, k2⟩ := e_say (d := d) (n := n) (us := us) (f := f) (b := b) (sk := sk) (pk := pk) (g0 := g0) (hk := hk) (cu := cu) (bk := bk) (bs := bs) (R := R) (T := nI t) (P := P) (fu := fu) (u := u) (fr := fr) (pc := pc) D hO g.2
    rw [if_neg (nI_ge (by omega) (by omega)), Option.bind_some, Option.bind_some, v_sgn_sk D ht, bnd_some, hs, t8_sign hw hl (show i < 16 by omega), k1, bnd_some, s_at, t7_sign hw (show i < 16 by omega), na1]
    exact ih _ (by simp only [nI_clamp (show i + 1 < 2 ^ 31 by omega), b0.2]; omega) k (i + 1) _ om1 ob1 (by omega) k2 rfl
theorem e_207 (D : RD n r) (hO : OR O om ob) {x : Nat} (hx : x < 128) : ∃ om' ob', x_Mod_print_b207 d 160 160 (nI x) (n, MM f b sk pk g0 hk cu bk bs ob r R om T P fu u fr pc, us) = some (if (s_add O (nI x)).1 = 600 then 9 else -1, (n, MM f b sk pk g0 hk cu bk bs ob' r R om' T P fu u fr pc, us)) ∧ OR (s_add (s_add O (nI x)) 10) om' ob' := by
  obtain ⟨om1, ob1, k1, k2⟩ := e_say (d := d) (n := n) (us := us) (f := f) (b := b) (sk := sk) (pk := pk) (g0 := g0) (hk := hk) (cu := cu) (bk := bk) (bs := bs) (R := R) (T := T) (P := P) (fu := fu) (u := u) (fr := fr) (pc := pc) D hO hx
  unfold x_Mod_print_b207
  rw [k1, bnd_some]
  exact e_end D k2
theorem q_print (D : RD n r) (ht : t < 8000) {kd : Nat → Int32} (hv : VR kd v (sk t)) (hO : OR O om ob) : ∃ om' ob', x_Mod_print (d + 1) 160 (n, MM f b sk pk g0 hk cu bk bs ob r R om (nI (t + 1)) P fu u fr pc, us) = some (if (d_pre O v).1 = 600 then 9 else -1, (n, MM f b sk pk g0 hk cu bk bs ob' r R om' (nI t) P fu u fr pc, us)) ∧ OR (d_out O v) om' ob' := by
  unfold x_Mod_print d_out d_pre
  dsimp only
  rw [r_gd D, r_g41 D, Option.bind_some, ns1, r_p41 D, Option.bind_some, r_g37 D, Option.bind_some, r_sk0 D, Option.bind_some, r_g41 D, Option.bind_some, a_sk0 D ht, Option.bind_some, hv.sort]
  by_cases c1 : (sk t).1 = 1
  · obtain ⟨x, rfl, x2⟩ := hv.is1 c1
    rw [if_pos c1, if_pos c1]
    simp only [r_g37 D, r_sk2 D, r_g41 D, a_sk2 D ht, Option.bind_some, x2]
    obtain ⟨X, X1, X2⟩ := abs_n x
    have X2' : (if 0 < x.toInt64 then x.toInt64 else -x.toInt64) = Int64.ofNat X := X2
    unfold s_num
    rw [X2, X2']
    have hFU : FU = FU - 11 + 10 + 1 := by rw [FU_eq]
    by_cases c : 0 ≤ lg_cmp x.toInt64 0
    · rw [if_pos c, if_pos c]
      have h := e_num (d := d) (n := n) (us := us) (f := f) (b := b) (sk := sk) (pk := pk) (g0 := g0) (hk := hk) (cu := cu) (bk := bk) (bs := bs) (R := R) (T := nI t) (P := P) (fu := fu) (u := u) (fr := fr) (pc := pc) D X1 hO 10 0 (FU - 11) rfl
      rw [← hFU] at h
      exact h
    · rw [if_neg c, if_neg c]
      obtain ⟨om1, ob1, k1, k2⟩ := e_say (d := d) (n := n) (us := us) (f := f) (b := b) (sk := sk) (pk := pk) (g0 := g0) (hk := hk) (cu := cu) (bk := bk) (bs := bs) (R := R) (T := nI t) (P := P) (fu := fu) (u := u) (fr := fr) (pc := pc) D hO (show 45 < 128 by decide)
      have k1' : x_Mod_say d 160 45 (n, MM f b sk pk g0 hk cu bk bs ob r R om (nI (t)) P fu u fr pc, us) = _ := k1
      rw [k1', bnd_some]
      have h := e_num (d := d) (n := n) (us := us) (f := f) (b := b) (sk := sk) (pk := pk) (g0 := g0) (hk := hk) (cu := cu) (bk := bk) (bs := bs) (R := R) (T := nI t) (P := P) (fu := fu) (u := u) (fr := fr) (pc := pc) D X1 k2 10 0 (FU - 11) rfl
      rw [← hFU] at h
      exact h
  · rw [if_neg c1, if_neg c1]
    by_cases c2 : (sk t).1 = 2
    · obtain ⟨w, w1, w2, rfl, w4⟩ := hv.is2 c2
      rw [if_pos c2, if_pos c2, t7_many w1 w2]
      exact e_txt D ht w1 w2 w4 hO
    · rw [if_neg c2, if_neg c2]
      by_cases c0 : (sk t).1 = 0
      · rw [if_pos c0, c0, if_neg (show ¬ (0 : Int32) = 3 by decide), if_neg (show ¬ (0 : Int32) = 4 by decide)]
        exact e_207 D hO (show 110 < 128 by decide)
      · rw [if_neg c0]
        by_cases c3 : (sk t).1 = 3
        · rw [if_pos c3, if_pos c3]
          exact e_207 D hO (show 114 < 128 by decide)
        · have c4 : (sk t).1 = 4 := by
            rcases hv.kinds with e | e | e | e | e
            · exact absurd e c0
            · exact absurd e c1
            · exact absurd e c2
            · exact absurd e c3
            · exact e
          rw [if_neg c3, if_neg c3, if_pos c4]
          exact e_207 D hO (show 119 < 128 by decide)
end
