/-! the reference's pool of Codes: mark(), fresh() -/
def mkB (x1 : Nat) : (Int32 × HS → Option (Unit × HS)) → Int32 × HS → Option (Unit × HS) := (fun (again2 : Int32 × HS → Option (Unit × HS)) (z2 : Int32 × HS) => ((gI z2.2 x1 13 10).bind fun v1 => (if v1 ≤ z2.1 then (some ((), z2.2)) else ((gR z2.2 x1 13 7).bind fun v2 => ((aR "StowTongueModel$Code" z2.2 v2 z2.1).bind fun v3 => ((pV z2.2 v3 12 9 (.int 1)).bind fun s4 => (again2 ((z2.1 + 1), s4))))))))
theorem mkB_eq {x1 : Nat} {z : Int32} {s : HS} {ag : Int32 × HS → Option (Unit × HS)} : mkB x1 ag (z, s) = ((gI s x1 13 10).bind fun v1 => (if v1 ≤ z then (some ((), s)) else ((gR s x1 13 7).bind fun v2 => ((aR "StowTongueModel$Code" s v2 z).bind fun v3 => ((pV s v3 12 9 (.int 1)).bind fun s4 => (ag ((z + 1), s4))))))) := rfl
def fr2  : (Int32 × HS → Option (Nat × HS)) → Int32 × HS → Option (Nat × HS) := (fun (again84 : Int32 × HS → Option (Nat × HS)) (z84 : Int32 × HS) => ((gR z84.2 160 14 36).bind fun v13 => ((aR "StowTongueModel$Code" z84.2 v13 z84.1).bind fun v14 => ((gI z84.2 v14 12 9).bind fun v15 => (if v15 = 0 then ((gR z84.2 160 14 36).bind fun v16 => ((aR "StowTongueModel$Code" z84.2 v16 z84.1).bind fun v17 => (some (v17, z84.2)))) else (again84 ((z84.1 + 1), z84.2)))))))
theorem fr2_eq {z : Int32} {s : HS} {ag : Int32 × HS → Option (Nat × HS)} : fr2 ag (z, s) = ((gR s 160 14 36).bind fun v13 => ((aR "StowTongueModel$Code" s v13 z).bind fun v14 => ((gI s v14 12 9).bind fun v15 => (if v15 = 0 then ((gR s 160 14 36).bind fun v16 => ((aR "StowTongueModel$Code" s v16 z).bind fun v17 => (some (v17, s)))) else (ag ((z + 1), s)))))) := rfl
def fr1 (d : Nat) : (Int32 × HS → Option (Nat × HS)) → Int32 × HS → Option (Nat × HS) := (fun (again58 : Int32 × HS → Option (Nat × HS)) (z58 : Int32 × HS) => ((gI z58.2 160 14 34).bind fun v12 => (if v12 ≤ z58.1 then (loopK fr2 FU (0, z58.2)) else ((gR z58.2 160 14 33).bind fun v18 => ((aR "StowTongueModel$State" z58.2 v18 z58.1).bind fun v19 => (bnd (x_Mod_mark d 160 v19 z58.2) fun v21 s20 => (again58 ((z58.1 + 1), s20))))))))
theorem fr1_eq {d : Nat} {z : Int32} {s : HS} {ag : Int32 × HS → Option (Nat × HS)} : fr1 d ag (z, s) = ((gI s 160 14 34).bind fun v12 => (if v12 ≤ z then (loopK fr2 FU (0, s)) else ((gR s 160 14 33).bind fun v18 => ((aR "StowTongueModel$State" s v18 z).bind fun v19 => (bnd (x_Mod_mark d 160 v19 s) fun v21 s20 => (ag ((z + 1), s20))))))) := rfl
def frM (d : Nat) (s : HS) : Option (Nat × HS) := ((gR s 160 14 30).bind fun v3 => (bnd (x_Mod_mark d 160 v3 s) fun v5 s4 => ((gR s4 160 14 31).bind fun v6 => (bnd (x_Mod_mark d 160 v6 s4) fun v8 s7 => ((gR s7 160 14 32).bind fun v9 => (bnd (x_Mod_mark d 160 v9 s7) fun v11 s10 => (loopK (fr1 d) FU (0, s10))))))))
def fr0 (d v1 : Nat) (v2 : Int32) : (Int32 × HS → Option (Nat × HS)) → Int32 × HS → Option (Nat × HS) := (fun (again10 : Int32 × HS → Option (Nat × HS)) (z10 : Int32 × HS) => (if v2 ≤ z10.1 then (frM d z10.2) else ((aR "StowTongueModel$Code" z10.2 v1 z10.1).bind fun v22 => ((pV z10.2 v22 12 9 (.int 0)).bind fun s23 => (again10 ((z10.1 + 1), s23))))))
theorem fr0_eq {d v1 : Nat} {v2 : Int32} {z : Int32} {s : HS} {ag : Int32 × HS → Option (Nat × HS)} : fr0 d v1 v2 ag (z, s) = (if v2 ≤ z then (frM d s) else ((aR "StowTongueModel$Code" s v1 z).bind fun v22 => ((pV s v22 12 9 (.int 0)).bind fun s23 => (ag ((z + 1), s23))))) := rfl
abbrev PH : Type := Nat → Int32 × Int32 × Int32 × Int32 × Int32 × Int32 × Int32
def pcC (H : PH) (ud : Nat → Int32) (p : Nat) : am_C := .inr (12, [.ref (401 + 7 * p + 1), .ref (401 + 7 * p + 2), .int (H p).1, .int (H p).2.1, .int (H p).2.2.1, .int (H p).2.2.2.1, .int (H p).2.2.2.2.1, .int (H p).2.2.2.2.2.1, .int (H p).2.2.2.2.2.2, .int (ud p)])
def HP (f : Nat → am_C) (H : PH) (ud : Nat → Int32) : Nat → am_C := fun x => if 401 ≤ x ∧ x < 1311 ∧ (x - 401) % 7 = 0 then pcC H ud ((x - 401) / 7) else f x
/-- a State's functions lie in the pool -/
def CdT (R : RS) (k : Nat) (pc : Nat → Nat) : Prop := k ≤ 10 ∧ R.2.2.2.2.2.2.2.2.2.2.1 = nI k ∧ ∀ j, j < k → R.2.2.2.2.2.2.2.1 j = .ref (401 + 7 * pc j) ∧ pc j < 130
theorem pig : ∀ (n : Nat) (l : List Nat), (∀ p, p < n → p ∈ l) → n ≤ l.length
  | 0, l, _ => Nat.zero_le _
  | n + 1, l, h => by
    have hm := h n (by omega)
    have k := pig n (l.erase n) (fun p hp => (List.mem_erase_of_ne (by omega)).mpr (h p (by omega)))
    have e := List.length_erase_of_mem hm
    have := List.length_pos_of_mem hm
    omega
section
variable {n us d r p i k : Nat} {f f' : Nat → am_C} {H : PH} {ud : Nat → Int32} {b : Nat → Value} {R Rn Rw Rs : RS} {v : Int32} {pc : Nat → Nat}
theorem HP_at (hp : p < 130) : HP f H ud (401 + 7 * p) = pcC H ud p := by
  unfold HP
  rw [if_pos (by omega), show (401 + 7 * p - 401) / 7 = p by omega]
theorem HP_off {x : Nat} (h : ¬ (401 ≤ x ∧ x < 1311 ∧ (x - 401) % 7 = 0)) : HP f H ud x = f x := if_neg h
theorem HPu (hp : p < 130) : va_up (HP f H ud) (401 + 7 * p) (pcC H (upI ud p v) p) = HP f H (upI ud p v) := by
  funext x
  by_cases c : x = 401 + 7 * p
  · rw [c, va_up_self, HP_at hp]
  · rw [va_up_ne _ _ c]
    unfold HP
    by_cases q : 401 ≤ x ∧ x < 1311 ∧ (x - 401) % 7 = 0
    · rw [if_pos q, if_pos q]
      unfold pcC upI
      rw [if_neg (show ¬ (x - 401) / 7 = p by omega)]
    · rw [if_neg q, if_neg q]
theorem p_set (hn : 1311 ≤ n) (hp : p < 130) : pV (n, HP f H ud, us) (401 + 7 * p) 12 9 (.int v) = some (n, HP f H (upI ud p v), us) := by
  rw [pV_of (s := (n, HP f H ud, us)) (HP_at hp) (by omega) (by show 401 + 7 * p < n; omega) (by show 9 < 10; decide)]
  have e : va_up (HP f H ud) (401 + 7 * p) (pcC H (upI ud p v) p) = HP f H (upI ud p v) := HPu hp
  rw [← e]
  unfold pcC upI
  rw [if_pos rfl]
  rfl
theorem p_get (hn : 1311 ≤ n) (hp : p < 130) : gI (n, HP f H ud, us) (401 + 7 * p) 12 9 = some (ud p) := gI_of (s := (n, HP f H ud, us)) (HP_at hp) (by omega) (by show 401 + 7 * p < n; omega) rfl
theorem RSt.hp (h : RSt f r R) (hr : r + 16 ≤ 400) : RSt (HP f H ud) r R := h.keep (fun x h1 h2 => HP_off (by omega))
/-- mark() -/
theorem mk_L (hn : 1311 ≤ n) (h : RSt f r R) (r1 : 128 ≤ r) (r2 : r + 16 ≤ 400) (C : CdT R k pc) : ∀ m i M ud, i + m = k → m < M → ∃ ud', loopK (mkB r) M (nI i, (n, HP f H ud, us)) = some ((), (n, HP f H ud', us)) ∧ ∀ p, ud' p = 0 ↔ (ud p = 0 ∧ ∀ j, i ≤ j → j < k → ¬ pc j = p) := by
  have hk := C.1
  intro m
  induction m with
  | zero =>
    intro i M ud e1 e2
    obtain ⟨M, rfl⟩ : ∃ M', M = M' + 1 := ⟨M - 1, by omega⟩
    have c0 : HP f H ud r = _ := (congrFun (RSt.hp (H := H) (ud := ud) h r2).eq r).trans HS_0
    refine ⟨ud, ?_, fun p => ⟨fun w => ⟨w, fun j h1 h2 => by omega⟩, fun w => w.1⟩⟩
    rw [loopK_succ, mkB_eq, gI_of (s := (n, HP f H ud, us)) (k := 10) (x := R.2.2.2.2.2.2.2.2.2.2.1) c0 r1 (show r < n by omega) rfl, Option.bind_some, C.2.1, if_pos (nI_le (by omega) (by omega))]
  | succ m ih =>
    intro i M ud e1 e2
    obtain ⟨M, rfl⟩ : ∃ M', M = M' + 1 := ⟨M - 1, by omega⟩
    have hh := RSt.hp (H := H) (ud := ud) h r2
    have c0 : HP f H ud r = _ := (congrFun hh.eq r).trans HS_0
    have c16 : HP f H ud (r + 16) = _ := (congrFun hh.eq (r + 16)).trans HS_16
    obtain ⟨a1, a2⟩ := C.2.2 i (by omega)
    have b0 := cl0 (show i < 2 ^ 31 by omega)
    have ar : aR "StowTongueModel$Code" (n, HP f H ud, us) (r + 16) (nI i) = some (401 + 7 * pc i) := by
      unfold aR
      rw [aV_of (s := (n, HP f H ud, us)) c16 (by omega) (show r + 16 < n by omega) b0.1 (by rw [b0.2]; omega), b0.2, a1]
      rfl
    obtain ⟨ud', x, y⟩ := ih (i + 1) M (upI ud (pc i) 1) (by omega) (by omega)
    refine ⟨ud', ?_, fun p => ?_⟩
    · rw [loopK_succ, mkB_eq, gI_of (s := (n, HP f H ud, us)) (k := 10) (x := R.2.2.2.2.2.2.2.2.2.2.1) c0 r1 (show r < n by omega) rfl, Option.bind_some, C.2.1, if_neg (fun w => absurd (nI_lt (a := i) (b := k) (by omega) (by omega)) (Int32.not_lt.mpr w)), gR_of (s := (n, HP f H ud, us)) (k := 7) (x := r + 16) c0 r1 (show r < n by omega) rfl, Option.bind_some, ar, Option.bind_some, p_set hn a2, Option.bind_some, show nI i + 1 = nI (i + 1) from nI_add i 1, x]
    · rw [y p]
      unfold upI
      by_cases c : p = pc i
      · rw [if_pos c]
        exact ⟨fun w => absurd w.1 (by decide), fun w => absurd c.symm (w.2 i (Nat.le_refl _) (by omega))⟩
      · rw [if_neg c]
        refine ⟨fun w => ⟨w.1, fun j h1 h2 => ?_⟩, fun w => ⟨w.1, fun j h1 h2 => w.2 j (by omega) h2⟩⟩
        by_cases cj : j = i
        · rw [cj]
          exact fun q => c q.symm
        · exact w.2 j (by omega) h2
theorem e_mark (hn : 1311 ≤ n) (O : OM f b) (h : RSt f r R) (r1 : 128 ≤ r) (r2 : r + 16 ≤ 400) (C : CdT R k pc) : ∃ ud', x_Mod_mark d 160 r (n, HP f H ud, us) = some ((), (n, HP f H ud', us)) ∧ ∀ p, ud' p = 0 ↔ (ud p = 0 ∧ ∀ j, j < k → ¬ pc j = p) := by
  obtain ⟨ud', x, y⟩ := mk_L (H := H) (us := us) hn h r1 r2 C k 0 FU ud (by omega) (by rw [FU_eq]; have := C.1; omega)
  have O' : OM (HP f H ud) b := (HP_off (by omega)).trans O
  have e : x_Mod_mark d 160 r (n, HP f H ud, us) = gd (n, HP f H ud, us) 160 14 (loopK (mkB r) FU (nI 0, (n, HP f H ud, us))) := rfl
  refine ⟨ud', by rw [e, mo_gd O' hn, x], fun p => ?_⟩
  rw [y p]
  exact ⟨fun w => ⟨w.1, fun j hj => w.2 j (Nat.zero_le _) hj⟩, fun w => ⟨w.1, fun j _ hj => w.2 j hj⟩⟩
/-- the first that is not used -/
theorem fr2_L (hn : 1311 ≤ n) (O : OM f b) (b36 : b 36 = .ref 239) (P : f 239 = .inl (.object "StowTongueModel$Code", 130, fun k => .ref (401 + 7 * k))) : ∀ m i M, i + m < 130 → ud (i + m) = 0 → m < M → ∃ p, p < 130 ∧ ud p = 0 ∧ loopK fr2 M (nI i, (n, HP f H ud, us)) = some (401 + 7 * p, (n, HP f H ud, us)) := by
  have O' : OM (HP f H ud) b := (HP_off (by omega)).trans O
  have P' : HP f H ud 239 = .inl (.object "StowTongueModel$Code", 130, fun k => .ref (401 + 7 * k)) := (HP_off (by omega)).trans P
  have ar : ∀ i, i < 130 → aR "StowTongueModel$Code" (n, HP f H ud, us) 239 (nI i) = some (401 + 7 * i) := fun i hi => by
    have b0 := cl0 (show i < 2 ^ 31 by omega)
    unfold aR
    rw [aV_of (s := (n, HP f H ud, us)) P' (by decide) (show 239 < n by omega) b0.1 (by rw [b0.2]; omega), b0.2]
    rfl
  intro m
  induction m with
  | zero =>
    intro i M e1 e0 e2
    obtain ⟨M, rfl⟩ : ∃ M', M = M' + 1 := ⟨M - 1, by omega⟩
    have e1 : i < 130 := e1
    have e0 : ud i = 0 := e0
    refine ⟨i, e1, e0, ?_⟩
    rw [loopK_succ, fr2_eq, mo_gR O' hn (by decide) b36, Option.bind_some, ar i e1, Option.bind_some, p_get hn e1, Option.bind_some, if_pos e0, Option.bind_some, ar i e1, Option.bind_some]
  | succ m ih =>
    intro i M e1 e0 e2
    obtain ⟨M, rfl⟩ : ∃ M', M = M' + 1 := ⟨M - 1, by omega⟩
    have h1 : i < 130 := by omega
    by_cases c : ud i = 0
    · refine ⟨i, h1, c, ?_⟩
      rw [loopK_succ, fr2_eq, mo_gR O' hn (by decide) b36, Option.bind_some, ar i h1, Option.bind_some, p_get hn h1, Option.bind_some, if_pos c, Option.bind_some, ar i h1, Option.bind_some]
    · obtain ⟨p, x, y, z⟩ := ih (i + 1) M (by omega) (by rw [show i + 1 + m = i + (m + 1) by omega]; exact e0) (by omega)
      refine ⟨p, x, y, ?_⟩
      rw [loopK_succ, fr2_eq, mo_gR O' hn (by decide) b36, Option.bind_some, ar i h1, Option.bind_some, p_get hn h1, Option.bind_some, if_neg c, show nI i + 1 = nI (i + 1) from nI_add i 1, z]
end
