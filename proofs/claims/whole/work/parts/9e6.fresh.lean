section
variable {n us d r p i k w : Nat} {f f' : Nat → am_C} {H : PH} {ud : Nat → Int32} {b : Nat → Value} {R Rn Rw Rs : RS} {v : Int32} {pc : Nat → Nat} {wr : Nat → Nat} {WR : Nat → RS} {kk : Nat → Nat} {pp : Nat → Nat → Nat}
theorem fr1_L (hn : 1311 ≤ n) (O : OM f b) (b33 : b 33 = .ref 238) (b34 : b 34 = .int (nI w)) (hw : w ≤ 8) (W : W8 f wr WR) (C : ∀ t, t < w → CdT (WR t) (kk t) (pp t)) : ∀ m i M ud, i + m = w → m < M → ∃ ud', loopK (fr1 d) M (nI i, (n, HP f H ud, us)) = loopK fr2 FU (nI 0, (n, HP f H ud', us)) ∧ ∀ p, ud' p = 0 ↔ (ud p = 0 ∧ ∀ t, i ≤ t → t < w → ∀ j, j < kk t → ¬ pp t j = p) := by
  have O' : ∀ ud, OM (HP f H ud) b := fun ud => (HP_off (by omega)).trans O
  intro m
  induction m with
  | zero =>
    intro i M ud e1 e2
    obtain ⟨M, rfl⟩ : ∃ M', M = M' + 1 := ⟨M - 1, by omega⟩
    refine ⟨ud, ?_, fun p => ⟨fun q => ⟨q, fun t h1 h2 => by omega⟩, fun q => q.1⟩⟩
    rw [loopK_succ, fr1_eq, mo_gI (O' ud) hn (by decide) b34, Option.bind_some, if_pos (nI_le (by omega) (by omega))]
    rfl
  | succ m ih =>
    intro i M ud e1 e2
    obtain ⟨M, rfl⟩ : ∃ M', M = M' + 1 := ⟨M - 1, by omega⟩
    obtain ⟨a1, a2, a3⟩ := W.2.1 i (by omega)
    have W' : W8 (HP f H ud) wr WR := W.keep (fun z h1 h2 => HP_off (by omega))
    obtain ⟨ud1, x1, y1⟩ := e_mark (d := d) (H := H) (ud := ud) (us := us) hn O a1 (by omega) a3 (C i (by omega))
    obtain ⟨ud2, x2, y2⟩ := ih (i + 1) M ud1 (by omega) (by omega)
    refine ⟨ud2, ?_, fun p => ?_⟩
    · rw [loopK_succ, fr1_eq, mo_gI (O' ud) hn (by decide) b34, Option.bind_some, if_neg (fun q => absurd (nI_lt (a := i) (b := w) (by omega) (by omega)) (Int32.not_lt.mpr q)), mo_gR (O' ud) hn (by decide) b33, Option.bind_some, W'.ar hn (by omega), Option.bind_some, x1, bnd_some, show nI i + 1 = nI (i + 1) from nI_add i 1, x2]
    · rw [y2 p, y1 p]
      refine ⟨fun q => ⟨q.1.1, fun t h1 h2 => ?_⟩, fun q => ⟨⟨q.1, q.2 i (Nat.le_refl _) (by omega)⟩, fun t h1 h2 => q.2 t (by omega) h2⟩⟩
      by_cases c : t = i
      · rw [c]
        exact q.1.2
      · exact q.2 t (by omega) h2
theorem fr0_L (hn : 1311 ≤ n) (P : f 239 = .inl (.object "StowTongueModel$Code", 130, fun k => .ref (401 + 7 * k))) : ∀ m i M ud, i + m = 130 → m < M → ∃ ud', loopK (fr0 d 239 (nI 130)) M (nI i, (n, HP f H ud, us)) = frM d (n, HP f H ud', us) ∧ (∀ p, p < 130 → i ≤ p → ud' p = 0) ∧ ∀ p, p < i → ud' p = ud p := by
  intro m
  induction m with
  | zero =>
    intro i M ud e1 e2
    obtain ⟨M, rfl⟩ : ∃ M', M = M' + 1 := ⟨M - 1, by omega⟩
    refine ⟨ud, ?_, fun p h1 h2 => by omega, fun _ _ => rfl⟩
    rw [loopK_succ, fr0_eq, if_pos (nI_le (by omega) (by omega))]
  | succ m ih =>
    intro i M ud e1 e2
    obtain ⟨M, rfl⟩ : ∃ M', M = M' + 1 := ⟨M - 1, by omega⟩
    have b0 := cl0 (show i < 2 ^ 31 by omega)
    have P' : HP f H ud 239 = .inl (.object "StowTongueModel$Code", 130, fun k => .ref (401 + 7 * k)) := (HP_off (by omega)).trans P
    have ar : aR "StowTongueModel$Code" (n, HP f H ud, us) 239 (nI i) = some (401 + 7 * i) := by
      unfold aR
      rw [aV_of (s := (n, HP f H ud, us)) P' (by decide) (show 239 < n by omega) b0.1 (by rw [b0.2]; omega), b0.2]
      rfl
    obtain ⟨ud', x, y, z⟩ := ih (i + 1) M (upI ud i 0) (by omega) (by omega)
    refine ⟨ud', ?_, fun p h1 h2 => ?_, fun p h1 => ?_⟩
    · rw [loopK_succ, fr0_eq, if_neg (fun q => absurd (nI_lt (a := i) (b := 130) (by omega) (by omega)) (Int32.not_lt.mpr q)), ar, Option.bind_some, p_set hn (by omega), Option.bind_some, show nI i + 1 = nI (i + 1) from nI_add i 1, x]
    · by_cases c : p = i
      · rw [z p (by omega)]
        unfold upI
        rw [if_pos c]
      · exact y p h1 (by omega)
    · rw [z p (by omega)]
      unfold upI
      rw [if_neg (by omega)]
theorem fl_len : ∀ w, (∀ t, t < w → kk t ≤ 10) → ((List.range w).flatMap (fun t => (List.range (kk t)).map (pp t))).length ≤ 10 * w
  | 0, _ => Nat.le_refl _
  | w + 1, h => by
    have := fl_len w (fun t ht => h t (by omega))
    have := h w (by omega)
    rw [List.range_succ, List.flatMap_append, List.length_append, List.flatMap_cons, List.flatMap_nil, List.append_nil, List.length_map, List.length_range]
    omega
/-- fresh(): a Code that no State holds -/
theorem e_fresh {nw kn kw ks : Nat} {pn pw ps : Nat → Nat} (hn : 1311 ≤ n) (O : OM f b) (b30 : b 30 = .ref nw) (b31 : b 31 = .ref (391 - nw)) (b32 : b 32 = .ref 221) (b33 : b 33 = .ref 238) (b34 : b 34 = .int (nI w)) (b36 : b 36 = .ref 239) (hw : w ≤ 8) (hnw : nw = 187 ∨ nw = 204) (hN : RSt f nw Rn) (hW : RSt f (391 - nw) Rw) (hS : RSt f 221 Rs) (W : W8 f wr WR) (P : f 239 = .inl (.object "StowTongueModel$Code", 130, fun k => .ref (401 + 7 * k))) (Cn : CdT Rn kn pn) (Cw : CdT Rw kw pw) (Cs : CdT Rs ks ps) (C : ∀ t, t < w → CdT (WR t) (kk t) (pp t)) : ∃ p ud', p < 130 ∧ x_Mod_fresh (d + 1) 160 (n, HP f H ud, us) = some (401 + 7 * p, (n, HP f H ud', us)) ∧ (∀ j, j < kn → ¬ pn j = p) ∧ (∀ j, j < kw → ¬ pw j = p) ∧ (∀ j, j < ks → ¬ ps j = p) ∧ ∀ t, t < w → ∀ j, j < kk t → ¬ pp t j = p := by
  have O' : ∀ ud, OM (HP f H ud) b := fun ud => (HP_off (by omega)).trans O
  have P' : HP f H ud 239 = .inl (.object "StowTongueModel$Code", 130, fun k => .ref (401 + 7 * k)) := (HP_off (by omega)).trans P
  obtain ⟨u0, x0, y0, _⟩ := fr0_L (d := d) (H := H) (us := us) hn P 130 0 FU ud (by omega) (by rw [FU_eq]; decide)
  obtain ⟨u1, x1, y1⟩ := e_mark (d := d) (H := H) (ud := u0) (us := us) hn O hN (by omega) (by omega) Cn
  obtain ⟨u2, x2, y2⟩ := e_mark (d := d) (H := H) (ud := u1) (us := us) hn O hW (by omega) (by omega) Cw
  obtain ⟨u3, x3, y3⟩ := e_mark (d := d) (H := H) (ud := u2) (us := us) hn O hS (by omega) (by omega) Cs
  obtain ⟨u4, x4, y4⟩ := fr1_L (d := d) (H := H) (us := us) hn O b33 b34 hw W C w 0 FU u3 (by omega) (by rw [FU_eq]; omega)
  have all : ∀ p, p < 130 → (u4 p = 0 ↔ ((∀ j, j < kn → ¬ pn j = p) ∧ (∀ j, j < kw → ¬ pw j = p) ∧ (∀ j, j < ks → ¬ ps j = p) ∧ ∀ t, t < w → ∀ j, j < kk t → ¬ pp t j = p)) := fun p hp => by
    rw [y4 p, y3 p, y2 p, y1 p]
    have z := y0 p hp (Nat.zero_le _)
    exact ⟨fun q => ⟨q.1.1.1.2, q.1.1.2, q.1.2, fun t ht => q.2 t (Nat.zero_le _) ht⟩, fun q => ⟨⟨⟨⟨z, q.1⟩, q.2.1⟩, q.2.2.1⟩, fun t _ ht => q.2.2.2 t ht⟩⟩
  have ex : ∃ p, p < 130 ∧ u4 p = 0 := by
    by_cases c : ∃ p, p < 130 ∧ u4 p = 0
    · exact c
    · exfalso
      have mem : ∀ p, p < 130 → p ∈ (List.range kn).map pn ++ (List.range kw).map pw ++ (List.range ks).map ps ++ (List.range w).flatMap (fun t => (List.range (kk t)).map (pp t)) := fun p hp => by
        by_cases m : p ∈ (List.range kn).map pn ++ (List.range kw).map pw ++ (List.range ks).map ps ++ (List.range w).flatMap (fun t => (List.range (kk t)).map (pp t))
        · exact m
        · exfalso
          refine c ⟨p, hp, (all p hp).mpr ⟨fun j hj q => m ?_, fun j hj q => m ?_, fun j hj q => m ?_, fun t ht j hj q => m ?_⟩⟩
          · exact List.mem_append_left _ (List.mem_append_left _ (List.mem_append_left _ (List.mem_map.mpr ⟨j, List.mem_range.mpr hj, q⟩)))
          · exact List.mem_append_left _ (List.mem_append_left _ (List.mem_append_right _ (List.mem_map.mpr ⟨j, List.mem_range.mpr hj, q⟩)))
          · exact List.mem_append_left _ (List.mem_append_right _ (List.mem_map.mpr ⟨j, List.mem_range.mpr hj, q⟩))
          · exact List.mem_append_right _ (List.mem_flatMap.mpr ⟨t, List.mem_range.mpr ht, List.mem_map.mpr ⟨j, List.mem_range.mpr hj, q⟩⟩)
      have len := pig 130 _ mem
      have fl := fl_len (kk := kk) (pp := pp) w (fun t ht => (C t ht).1)
      rw [List.length_append, List.length_append, List.length_append, List.length_map, List.length_map, List.length_map, List.length_range, List.length_range, List.length_range] at len
      have := Cn.1
      have := Cw.1
      have := Cs.1
      omega
  obtain ⟨p0, hp0, z0⟩ := ex
  obtain ⟨p, hp, z, x5⟩ := fr2_L (H := H) (ud := u4) (us := us) hn O b36 P p0 0 FU (by omega) (by rw [Nat.zero_add]; exact z0) (by rw [FU_eq]; omega)
  refine ⟨p, u4, hp, ?_, (all p hp).mp z⟩
  have e : x_Mod_fresh (d + 1) 160 (n, HP f H ud, us) = gd (n, HP f H ud, us) 160 14 ((gR (n, HP f H ud, us) 160 14 36).bind fun v1 => ((lenA (n, HP f H ud, us) v1).bind fun v2 => (loopK (fr0 d v1 v2) FU (nI 0, (n, HP f H ud, us))))) := rfl
  rw [e, mo_gd (O' ud) hn, mo_gR (O' ud) hn (by decide) b36, Option.bind_some, lenA_of (s := (n, HP f H ud, us)) P' (by decide) (by decide) (show 239 < n by omega), Option.bind_some, x0]
  unfold frM
  rw [mo_gR (O' u0) hn (by decide) b30, Option.bind_some, x1, bnd_some, mo_gR (O' u1) hn (by decide) b31, Option.bind_some, x2, bnd_some, mo_gR (O' u2) hn (by decide) b32, Option.bind_some, x3, bnd_some]
  exact x4.trans x5
end
