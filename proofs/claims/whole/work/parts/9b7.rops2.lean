/-! items, FIELDS and ROOTS of the reference -/
theorem lc_gt {x y : Int64} : 0 < lg_cmp x y ↔ y < x := by
  unfold lg_cmp
  by_cases c : x > y
  · rw [if_pos c]
    exact ⟨fun _ => c, fun _ => by decide⟩
  · rw [if_neg c]
    refine ⟨fun w => ?_, fun w => absurd w c⟩
    by_cases c2 : x = y
    · rw [if_pos c2] at w
      exact absurd w (by decide)
    · rw [if_neg c2] at w
      exact absurd w (by decide)
theorem in_rel {x : Int32} {m : Nat} (hm : m ≤ 20) : (c_in (s_Cell_headOf 1, x.toInt64) (nI m) = 0 ∧ s_Mod_in x.toInt64 0 (nI m - 1).toInt64 = 1 ∧ ∃ j, j < m ∧ x = nI j) ∨ (c_in (s_Cell_headOf 1, x.toInt64) (nI m) = 3 ∧ s_Mod_in x.toInt64 0 (nI m - 1).toInt64 = 0) := by
  have e0 : (0 : Int64).toInt = 0 := rfl
  have em : (nI m).toInt = m := nI_toInt (by omega)
  have em1 : (nI m - 1).toInt = (m : Int) - 1 := by
    rw [Int32.toInt_sub, em, show (1 : Int32).toInt = 1 from rfl, Int.bmod_eq_of_le (by omega) (by omega)]
  have hx := Int32.toInt_toInt64 x
  have h1 : lg_cmp x.toInt64 0 < 0 ↔ x.toInt < 0 := by rw [lc_lt, Int64.lt_iff_toInt_lt, hx, e0]
  have h2 : lg_cmp x.toInt64 (nI m).toInt64 < 0 ↔ x.toInt < m := by rw [lc_lt, Int64.lt_iff_toInt_lt, hx, Int32.toInt_toInt64, em]
  have h3 : 0 < lg_cmp x.toInt64 (nI m - 1).toInt64 ↔ (m : Int) - 1 < x.toInt := by rw [lc_gt, Int64.lt_iff_toInt_lt, hx, Int32.toInt_toInt64, em1]
  unfold c_in s_Mod_in
  dsimp only
  rw [if_pos so_1]
  by_cases a : x.toInt < 0
  · rw [if_pos (h1.mpr a), if_pos (h1.mpr a)]
    exact Or.inr ⟨rfl, rfl⟩
  · rw [if_neg (fun w => a (h1.mp w)), if_neg (fun w => a (h1.mp w))]
    by_cases b : x.toInt < m
    · rw [if_pos (h2.mpr b), if_neg (fun w => by have := h3.mp w; omega)]
      refine Or.inl ⟨rfl, rfl, x.toInt.toNat, by omega, ?_⟩
      apply Int32.toInt_inj.mp
      rw [nI_toInt (by omega)]
      omega
    · rw [if_neg (fun w => b (h2.mp w)), if_pos (h3.mpr (by omega))]
      exact Or.inr ⟨rfl, rfl⟩
theorem c_in2 {v : V2} {k : Int32} (h : ¬ s_Cell_sortOf v.1 = 1) : c_in v k = 2 := by
  unfold c_in
  rw [if_neg h]
section
variable {n us : Nat} {f : Nat → am_C} {b : Nat → Value} {sk pk g0 hk : Nat → VQ} {cu : Nat → Value} {bk bs ob : Nat → Int32} {r : Nat} {R : RS} {om T P fu u fr pc : Int32} {t pl p F c Ns Nv pa lo ba vb d : Nat} {sp : Nat → Int32} {cq : Nat → VQ} {S : SC} {v a i : V2}
def plc (i : V2) (m : Nat) : Int32 := if c_in i (nI m) = 0 then i.2.toInt32 else -1 - c_in i (nI m)
theorem e_b93 (D : RD n r) {m : Nat} (hm : m ≤ 20) (ht : t < 8000) {x : Int32} (hx : sk t = (1, 0, x.toInt64, 0)) : x_Mod_placeOf_b93 d 160 (nI t) (nI m) (n, MM f b sk pk g0 hk cu bk bs ob r R om T P fu u fr pc, us) = some (plc (s_Cell_headOf 1, x.toInt64) m, (n, MM f b sk pk g0 hk cu bk bs ob r R om T P fu u fr pc, us)) := by
  unfold x_Mod_placeOf_b93 plc
  simp only [r_g37 D, r_sk2 D, a_sk2 D ht, Option.bind_some, hx, e_Mod_in, bnd_some]
  rcases in_rel (x := x) hm with ⟨h1, h2, _⟩ | ⟨h1, h2⟩
  · rw [h2, h1, if_neg (by decide), if_pos rfl]
  · rw [h2, h1, if_pos rfl, if_neg (by decide)]
    rfl
theorem e_plRow (D : RD n r) (X : SR S R) (ht : t + 1 < 8000) (hi : VR R.1 i (sk (t + 1))) {o m : Nat} (ho : o < 100) (hm : m ≤ 20) (hz : R.2.1 o = nI m) (hs : sk t = (4, 0, (nI o).toInt64, 0)) {tx : Int32} : x_Mod_placeOf (d + 1) 160 (nI t) (nI (t + 1)) tx (n, MM f b sk pk g0 hk cu bk bs ob r R om T P fu u fr pc, us) = some (plc i m, (n, MM f b sk pk g0 hk cu bk bs ob r R om T P fu u fr pc, us)) := by
  have h0 : t < 8000 := by omega
  have e4 : (sk t).1 = 4 := by rw [hs]
  unfold x_Mod_placeOf
  dsimp only
  simp only [r_gd D, r_g37 D, r_g38 D, r_g39 D, r_g40 D, r_g41 D, r_g42 D, r_g44 D, r_g45 D, r_g46 D, r_g47 D, r_g48 D, r_g49 D, r_g31 D, r_g3 D, r_g1 D, r_sk0 D, r_sk1 D, r_sk2 D, r_s0 D, r_s1 D, r_s2 D, r_s3 D, r_s4 D, r_s5 D, r_s6 D, r_s7 D, r_s8 D, r_s9 D, r_s10 D, ns1, ns2, ns21, ns3, Option.bind_some, if_true, if_false, a_sk0 D h0, e4]
  unfold x_Mod_placeOf_b18 x_Mod_placeOf_b42
  rw [if_neg (show ¬ (1 : Int32) = 0 by decide)]
  simp only [r_gd D, r_g37 D, r_g38 D, r_g39 D, r_g40 D, r_g41 D, r_g42 D, r_g44 D, r_g45 D, r_g46 D, r_g47 D, r_g48 D, r_g49 D, r_g31 D, r_g3 D, r_g1 D, r_sk0 D, r_sk1 D, r_sk2 D, r_s0 D, r_s1 D, r_s2 D, r_s3 D, r_s4 D, r_s5 D, r_s6 D, r_s7 D, r_s8 D, r_s9 D, r_s10 D, ns1, ns2, ns21, ns3, Option.bind_some, if_true, if_false, a_sk0 D ht, a_sk2 D h0, hs]
  by_cases c : (sk (t + 1)).1 = 1
  · obtain ⟨x, rfl, x2⟩ := hi.is1 c
    rw [if_pos c, i32_64, a_sz D ho, Option.bind_some, hz, if_neg (show ¬ (1 : Int32) = 0 by decide), e_b93 D hm ht x2]
  · rw [if_neg c]
    unfold plc
    rw [c_in2 (by rw [hi.sort]; exact c), if_neg (by decide)]
    rfl
theorem e_plText (D : RD n r) (ht : t + 1 < 8000) {kd : Nat → Int32} (hi : VR kd i (sk (t + 1))) {w : List Nat} (hw : w.length ≤ 16) (hs : sk t = T8 w) : x_Mod_placeOf (d + 1) 160 (nI t) (nI (t + 1)) 1 (n, MM f b sk pk g0 hk cu bk bs ob r R om T P fu u fr pc, us) = some (plc i w.length, (n, MM f b sk pk g0 hk cu bk bs ob r R om T P fu u fr pc, us)) := by
  have h0 : t < 8000 := by omega
  have e4 : (sk t).1 = 2 := by rw [hs]; rfl
  unfold x_Mod_placeOf
  dsimp only
  simp only [r_gd D, r_g37 D, r_g38 D, r_g39 D, r_g40 D, r_g41 D, r_g42 D, r_g44 D, r_g45 D, r_g46 D, r_g47 D, r_g48 D, r_g49 D, r_g31 D, r_g3 D, r_g1 D, r_sk0 D, r_sk1 D, r_sk2 D, r_s0 D, r_s1 D, r_s2 D, r_s3 D, r_s4 D, r_s5 D, r_s6 D, r_s7 D, r_s8 D, r_s9 D, r_s10 D, ns1, ns2, ns21, ns3, Option.bind_some, if_true, if_false, a_sk0 D h0, e4]
  rw [if_neg (show ¬ (2 : Int32) = 4 by decide)]
  unfold x_Mod_placeOf_b18
  rw [if_pos rfl, if_neg (show ¬ (1 : Int32) = 0 by decide)]
  simp only [r_gd D, r_g37 D, r_g38 D, r_g39 D, r_g40 D, r_g41 D, r_g42 D, r_g44 D, r_g45 D, r_g46 D, r_g47 D, r_g48 D, r_g49 D, r_g31 D, r_g3 D, r_g1 D, r_sk0 D, r_sk1 D, r_sk2 D, r_s0 D, r_s1 D, r_s2 D, r_s3 D, r_s4 D, r_s5 D, r_s6 D, r_s7 D, r_s8 D, r_s9 D, r_s10 D, ns1, ns2, ns21, ns3, Option.bind_some, if_true, if_false, a_sk0 D h0, e4]
  unfold x_Mod_placeOf_b42
  simp only [r_gd D, r_g37 D, r_g38 D, r_g39 D, r_g40 D, r_g41 D, r_g42 D, r_g44 D, r_g45 D, r_g46 D, r_g47 D, r_g48 D, r_g49 D, r_g31 D, r_g3 D, r_g1 D, r_sk0 D, r_sk1 D, r_sk2 D, r_s0 D, r_s1 D, r_s2 D, r_s3 D, r_s4 D, r_s5 D, r_s6 D, r_s7 D, r_s8 D, r_s9 D, r_s10 D, ns1, ns2, ns21, ns3, Option.bind_some, if_true, if_false, a_sk0 D ht, a_sk1 D h0, hs]
  by_cases c : (sk (t + 1)).1 = 1
  · obtain ⟨x, rfl, x2⟩ := hi.is1 c
    rw [if_pos c]
    exact e_b93 D (by omega) ht x2
  · rw [if_neg c]
    unfold plc
    rw [c_in2 (by rw [hi.sort]; exact c), if_neg (by decide)]
    rfl
theorem e_plNo (D : RD n r) (ht : t < 8000) (h4 : ¬ (sk t).1 = 4) {tx : Int32} (h2 : tx = 0 ∨ ¬ (sk t).1 = 2) : x_Mod_placeOf (d + 1) 160 (nI t) (nI (t + 1)) tx (n, MM f b sk pk g0 hk cu bk bs ob r R om T P fu u fr pc, us) = some (-3, (n, MM f b sk pk g0 hk cu bk bs ob r R om T P fu u fr pc, us)) := by
  unfold x_Mod_placeOf
  dsimp only
  simp only [r_gd D, r_g37 D, r_g38 D, r_g39 D, r_g40 D, r_g41 D, r_g42 D, r_g44 D, r_g45 D, r_g46 D, r_g47 D, r_g48 D, r_g49 D, r_g31 D, r_g3 D, r_g1 D, r_sk0 D, r_sk1 D, r_sk2 D, r_s0 D, r_s1 D, r_s2 D, r_s3 D, r_s4 D, r_s5 D, r_s6 D, r_s7 D, r_s8 D, r_s9 D, r_s10 D, ns1, ns2, ns21, ns3, Option.bind_some, if_true, if_false, a_sk0 D ht]
  rw [if_neg h4]
  unfold x_Mod_placeOf_b18
  rw [if_pos rfl]
  by_cases c : tx = 0
  · rw [if_pos c]
  · rw [if_neg c]
    simp only [r_gd D, r_g37 D, r_g38 D, r_g39 D, r_g40 D, r_g41 D, r_g42 D, r_g44 D, r_g45 D, r_g46 D, r_g47 D, r_g48 D, r_g49 D, r_g31 D, r_g3 D, r_g1 D, r_sk0 D, r_sk1 D, r_sk2 D, r_s0 D, r_s1 D, r_s2 D, r_s3 D, r_s4 D, r_s5 D, r_s6 D, r_s7 D, r_s8 D, r_s9 D, r_s10 D, ns1, ns2, ns21, ns3, Option.bind_some, if_true, if_false, a_sk0 D ht]
    rw [if_neg (h2.resolve_left c)]
theorem plc_0 {m : Nat} (hm : m ≤ 20) {kd : Nat → Int32} {q : VQ} (hi : VR kd i q) (h : c_in i (nI m) = 0) : ∃ j, j < m ∧ i.2.toInt32 = nI j := by
  by_cases c : q.1 = 1
  · obtain ⟨x, rfl, _⟩ := hi.is1 c
    rcases in_rel (x := x) hm with ⟨_, _, j, h1, h2⟩ | ⟨h1, _⟩
    · exact ⟨j, h1, by dsimp only; rw [Int32.toInt32_toInt64, h2]⟩
    · rw [h] at h1
      exact absurd h1 (by decide)
  · rw [c_in2 (by rw [hi.sort]; exact c)] at h
    exact absurd h (by decide)
theorem plc_n {m : Nat} (h : ¬ c_in i (nI m) = 0) : plc i m = -1 - c_in i (nI m) ∧ ¬ 0 ≤ plc i m ∧ -1 - plc i m = c_in i (nI m) := by
  have e : plc i m = -1 - c_in i (nI m) := if_neg h
  have k : c_in i (nI m) = 2 ∨ c_in i (nI m) = 3 := by
    unfold c_in at h ⊢
    split
    · rename_i h1
      rw [if_pos h1] at h
      split
      · exact Or.inr rfl
      · rename_i h2
        rw [if_neg h2] at h
        split
        · rename_i h3
          rw [if_pos h3] at h
          exact absurd rfl h
        · exact Or.inr rfl
    · exact Or.inl rfl
  refine ⟨e, ?_, ?_⟩
  · rw [e]
    rcases k with k | k <;> (rw [k]; decide)
  · rw [e]
    rcases k with k | k <;> (rw [k]; decide)
theorem q_item (D : RD n r) (X : SR S R) (ht : t + 1 < 8000) (ha : VR R.1 a (sk t)) (hi : VR R.1 i (sk (t + 1))) : RO1 (RKm n us f b pk g0 hk cu bk bs ob r om P fu u fr) t sk R pc (x_Mod_parts (d + 3) 160 7 (n, MM f b sk pk g0 hk cu bk bs ob r R om (nI (t + 2)) P fu u fr pc, us)) (d_item S a i) := by
  have h0 : t < 8000 := by omega
  unfold x_Mod_parts d_item
  dsimp only
  rw [r_gd D, if_neg (show ¬ (7 : Int32) = 5 by decide), if_neg (show ¬ (7 : Int32) = 6 by decide), if_pos rfl, r_g41 D, Option.bind_some, ns2]
  unfold x_Mod_parts_b213
  rw [if_pos rfl, na1]
  unfold x_Mod_parts_b230
  rw [ha.sort]
  by_cases c4 : (sk t).1 = 4
  · obtain ⟨o, o1, o2, rfl, o4⟩ := ha.isO (Or.inr rfl) c4
    obtain ⟨m, m1, m2, m3, m4⟩ := X.row o1 o2
    rw [if_pos c4, e_plRow D X ht hi o1 m1 m3 o4, bnd_some]
    dsimp only
    rw [i32_64, cOf_o o1 m2 (by omega)]
    by_cases c : c_in i (nI m) = 0
    · obtain ⟨j, j1, j2⟩ := plc_0 m1 hi c
      have ep : plc i m = nI j := by unfold plc; rw [if_pos c, j2]
      rw [if_pos c, ep, if_pos (nI_nlt0 (show j < 2 ^ 31 by omega)), if_neg (show ¬ (7 : Int32) = 8 by decide), j2]
      simp only [r_gd D, r_g37 D, r_g38 D, r_g39 D, r_g40 D, r_g41 D, r_g42 D, r_g44 D, r_g45 D, r_g46 D, r_g47 D, r_g48 D, r_g49 D, r_g31 D, r_g3 D, r_g1 D, r_sk0 D, r_sk1 D, r_sk2 D, r_s0 D, r_s1 D, r_s2 D, r_s3 D, r_s4 D, r_s5 D, r_s6 D, r_s7 D, r_s8 D, r_s9 D, r_s10 D, ns1, ns2, ns21, ns3, Option.bind_some, if_true, if_false, r_p41 D, a_sk0 D h0, c4, a_sk2 D h0, o4]
      rw [i32_64, n20, nI_ad2, v_cpy_sk D h0 (VA_it D) (show 20 * o + j < 2000 by omega), bnd_some, fO_n o1, nI_clamp (show j < 2 ^ 31 by omega)]
      exact RO1.ok (fun j hj => upQ_lt hj) X KG.rfl' (by rw [upQ_at]; exact m4 j j1)
    · obtain ⟨e1, e2, e3⟩ := plc_n c
      rw [if_neg c, if_neg e2, e3]
      exact RO1.er c
  · rw [if_neg c4]
    by_cases c2 : (sk t).1 = 2
    · obtain ⟨w, w1, w2, rfl, w4⟩ := ha.is2 c2
      rw [if_pos c2, e_plText D ht hi w2 w4, bnd_some, t7_signs w1 w2]
      by_cases c : c_in i (nI w.length) = 0
      · obtain ⟨j, j1, j2⟩ := plc_0 (show w.length ≤ 20 by omega) hi c
        have ep : plc i w.length = nI j := by unfold plc; rw [if_pos c, j2]
        rw [if_pos c, ep, if_pos (nI_nlt0 (show j < 2 ^ 31 by omega)), if_neg (show ¬ (7 : Int32) = 8 by decide), j2]
        simp only [r_gd D, r_g37 D, r_g38 D, r_g39 D, r_g40 D, r_g41 D, r_g42 D, r_g44 D, r_g45 D, r_g46 D, r_g47 D, r_g48 D, r_g49 D, r_g31 D, r_g3 D, r_g1 D, r_sk0 D, r_sk1 D, r_sk2 D, r_s0 D, r_s1 D, r_s2 D, r_s3 D, r_s4 D, r_s5 D, r_s6 D, r_s7 D, r_s8 D, r_s9 D, r_s10 D, ns1, ns2, ns21, ns3, Option.bind_some, if_true, if_false, r_p41 D, a_sk0 D h0]
        rw [if_neg c4]
        simp only [v_sgn_sk D h0, bnd_some, r_g37 D, Option.bind_some, v_set_sk D h0]
        have g := w1.getD j1
        rw [v_add_sk D h0, bnd_some, w4, t8_sign w1 w2 (show j < 16 by omega), upQ_at, t7_sign w1 (show j < 16 by omega)]
        have e7 : T7 ([] ++ [w.getD j 0]) = (s_Cell_headOf 2 ||| s_Cell_placed (nI (w.getD j 0)) 0, 0) := by
          have := t7_app (w := []) (x := w.getD j 0) (fun _ h => absurd h (List.not_mem_nil)) g.2 (by decide)
          rw [this, t7_nil]
          rfl
        have e8 : T8 ([] ++ [w.getD j 0]) = vAd (2, 0, 0, 0) (nI (w.getD j 0)) := by
          have := t8_app (w := []) (x := w.getD j 0) (fun _ h => absurd h (List.not_mem_nil)) g.2 (by decide)
          rw [this, t8_nil]
        refine RO1.ok (fun j hj => (upQ_lt hj).trans (upQ_lt hj)) X KG.rfl' ?_
        rw [upQ_at, ← e7, ← e8]
        exact VR.text (fun y hy => by rw [List.mem_singleton.mp hy]; exact g) (show 1 ≤ 16 by decide)
      · obtain ⟨e1, e2, e3⟩ := plc_n c
        rw [if_neg c, if_neg e2, e3]
        exact RO1.er c
    · rw [if_neg c2, e_plNo D h0 c4 (Or.inr c2), bnd_some, if_neg (show ¬ (0 : Int32) ≤ -3 by decide)]
      exact RO1.er (e := 2) (by decide)
theorem q_stI (D : RD n r) (X : SR S R) (ht : t + 2 < 8000) (ha : VR R.1 a (sk t)) (hi : VR R.1 i (sk (t + 1))) (hv : VR R.1 v (sk (t + 2))) : RO0 (RKm n us f b pk g0 hk cu bk bs ob r om P fu u fr) t sk R pc (x_Mod_parts (d + 3) 160 8 (n, MM f b sk pk g0 hk cu bk bs ob r R om (nI (t + 3)) P fu u fr pc, us)) (d_stI S a i v) := by
  have h0 : t < 8000 := by omega
  unfold x_Mod_parts d_stI
  dsimp only
  rw [r_gd D, if_neg (show ¬ (8 : Int32) = 5 by decide), if_neg (show ¬ (8 : Int32) = 6 by decide), if_neg (show ¬ (8 : Int32) = 7 by decide), r_g41 D, Option.bind_some, ns3]
  unfold x_Mod_parts_b213
  rw [if_neg (show ¬ (8 : Int32) = 7 by decide), na1]
  unfold x_Mod_parts_b230
  rw [ha.sort]
  by_cases c4 : (sk t).1 = 4
  · obtain ⟨o, o1, o2, rfl, o4⟩ := ha.isO (Or.inr rfl) c4
    obtain ⟨m, m1, m2, m3, m4⟩ := X.row o1 o2
    rw [if_pos c4, e_plRow D X (by omega) hi o1 m1 m3 o4, bnd_some]
    dsimp only
    rw [i32_64, cOf_o o1 m2 (by omega)]
    by_cases c : c_in i (nI m) = 0
    · obtain ⟨j, j1, j2⟩ := plc_0 m1 hi c
      have ep : plc i m = nI j := by unfold plc; rw [if_pos c, j2]
      rw [if_pos c, ep, if_pos (nI_nlt0 (show j < 2 ^ 31 by omega)), if_pos rfl, j2]
      simp only [r_gd D, r_g37 D, r_g38 D, r_g39 D, r_g40 D, r_g41 D, r_g42 D, r_g44 D, r_g45 D, r_g46 D, r_g47 D, r_g48 D, r_g49 D, r_g31 D, r_g3 D, r_g1 D, r_sk0 D, r_sk1 D, r_sk2 D, r_s0 D, r_s1 D, r_s2 D, r_s3 D, r_s4 D, r_s5 D, r_s6 D, r_s7 D, r_s8 D, r_s9 D, r_s10 D, ns1, ns2, ns21, ns3, Option.bind_some, if_true, if_false, r_p41 D, a_sk2 D h0, o4]
      rw [i32_64, n20, nI_ad2, na2, v_cpy_it D (show 20 * o + j < 2000 by omega) (VA_sk D) ht, bnd_some, fO_n o1, nI_clamp (show j < 2 ^ 31 by omega)]
      exact RO0.ok (fun j hj => rfl) (SR_setI X o1 o2 m2 m1 j1 hv) ⟨fun _ _ _ => rfl, rfl, rfl, rfl⟩
    · obtain ⟨e1, e2, e3⟩ := plc_n c
      rw [if_neg c, if_neg e2, e3]
      exact RO0.er c
  · rw [if_neg c4, e_plNo D h0 c4 (Or.inl rfl), bnd_some, if_neg (show ¬ (0 : Int32) ≤ -3 by decide)]
    exact RO0.er (e := 2) (by decide)
theorem shL_s {g : Nat → Int64} {x y : Nat} (h : x ≤ y) : upL (shL g x y) y (shL g x y (y + 1)) = shL g x (y + 1) := by
  funext j
  unfold upL shL
  by_cases c : j = y
  · rw [if_pos c, c, if_neg (by omega), if_pos (by omega)]
  · rw [if_neg c]
    by_cases c2 : x ≤ j ∧ j < y
    · rw [if_pos c2, if_pos (by omega)]
    · rw [if_neg c2, if_neg (by omega)]
theorem shQ_s {g : Nat → VQ} {x y : Nat} (h : x ≤ y) : upQ (shQ g x y) y (shQ g x y (y + 1)) = shQ g x (y + 1) := by
  funext j
  unfold upQ shQ
  by_cases c : j = y
  · rw [if_pos c, c, if_neg (by omega), if_pos (by omega)]
  · rw [if_neg c]
    by_cases c2 : x ≤ j ∧ j < y
    · rw [if_pos c2, if_pos (by omega)]
    · rw [if_neg c2, if_neg (by omega)]
theorem shL_0 {g : Nat → Int64} {x : Nat} : shL g x x = g := by
  funext j
  unfold shL
  rw [if_neg (by omega)]
theorem shQ_0 {g : Nat → VQ} {x : Nat} : shQ g x x = g := by
  funext j
  unfold shQ
  rw [if_neg (by omega)]
/-- the middle of dropping a FIELD -/
def fdM (R : RS) (o j i m : Nat) : RS := (R.1, upI R.2.1 o (nI m), shL R.2.2.1 (8 * o + j) (8 * o + i), R.2.2.2.1, R.2.2.2.2.1, shQ (rIt R) (20 * o + j) (20 * o + i), R.2.2.2.2.2.2)
theorem e_setF (D : RD n r) (X : SR S R) {o x : Nat} (ho : o < 100) (h3 : R.1 o = 3) {w : List Nat} (hw : okN w) (hx : x < 8000) (hv : VR R.1 v (sk x)) : ∃ R', x_Mod_setField (d + 2) 160 (nI o) (nV w) 240 (nI x) (n, MM f b sk pk g0 hk cu bk bs ob r R om T P fu u fr pc, us) = some (if (c_setF S (nI o) (nF w) v.1 v.2).1 = true then -1 else 4, (n, MM f b sk pk g0 hk cu bk bs ob r R' om T P fu u fr pc, us)) ∧ SR (c_setF S (nI o) (nF w) v.1 v.2).2 R' ∧ KG R R' := by
  obtain ⟨m, m1, m2, m3, m4⟩ := X.rec ho h3
  unfold x_Mod_setField
  dsimp only
  rw [r_gd D, r_g31 D, Option.bind_some, e_fF D ho m1 m3, bnd_some, r_sk0 D, Option.bind_some, a_sk0 D hx, Option.bind_some]
  rcases SR_setF X ho h3 m3 m1 hw hv with ⟨q0, f1, f2⟩ | ⟨j, q0, j1, f1, f2, f3⟩ | ⟨j, q0, j1, f1, f2, f3⟩ | ⟨q0, q8, f1, f2, f3⟩ | ⟨q0, q8, f1, f2⟩
  · rw [if_pos q0, f1, if_neg (show ¬ (0 : Int32) ≤ -1 by decide), f2]
    exact ⟨R, rfl, X, KG.rfl'⟩
  · rw [if_pos q0, f1, if_pos (nI_nlt0 (show j < 2 ^ 31 by omega)), f2, if_pos rfl]
    refine ⟨fdR R o j (m - 1), ?_, f3, ⟨fun _ _ _ => rfl, rfl, rfl, rfl⟩⟩
    have em : nI m - 1 = nI (m - 1) := nI_sub (a := m) (b := 1) (by omega)
    simp only [r_gd D, r_g37 D, r_g38 D, r_g39 D, r_g40 D, r_g41 D, r_g42 D, r_g44 D, r_g45 D, r_g46 D, r_g47 D, r_g48 D, r_g49 D, r_g31 D, r_g3 D, r_g1 D, r_sk0 D, r_sk1 D, r_sk2 D, r_s0 D, r_s1 D, r_s2 D, r_s3 D, r_s4 D, r_s5 D, r_s6 D, r_s7 D, r_s8 D, r_s9 D, r_s10 D, ns1, ns2, ns21, ns3, Option.bind_some, if_true, if_false, a_sz D ho, m3, em, s_sz D ho]
    refine loop_ind (fun z q => ∀ k i, i + k = m - 1 → j ≤ i → z = (nI i, (n, MM f b sk pk g0 hk cu bk bs ob r (fdM R o j i (m - 1)) om T P fu u fr pc, us)) → q = some (-1, (n, MM f b sk pk g0 hk cu bk bs ob r (fdR R o j (m - 1)) om T P fu u fr pc, us))) (fun z => m - z.1.toNatClampNeg) (fun again z ih k i e hji ez => ?_) FU _ (by rw [FU_eq]; omega) (m - 1 - j) j (by omega) (Nat.le_refl _) (by unfold fdM; rw [shL_0, shQ_0])
    subst ez
    dsimp only
    rw [r_g31 D, Option.bind_some, r_s1 D, Option.bind_some, a_sz D ho, Option.bind_some, show (fdM R o j i (m - 1)).2.1 o = nI (m - 1) from if_pos rfl]
    cases k with
    | zero =>
      obtain rfl : i = m - 1 := by omega
      rw [if_pos (Int32.le_refl _)]
      rfl
    | succ k =>
      have b0 := cl0 (show i < 2 ^ 31 by omega)
      rw [if_neg (nI_ge (by omega) (by omega))]
      simp only [r_gd D, r_g37 D, r_g38 D, r_g39 D, r_g40 D, r_g41 D, r_g42 D, r_g44 D, r_g45 D, r_g46 D, r_g47 D, r_g48 D, r_g49 D, r_g31 D, r_g3 D, r_g1 D, r_sk0 D, r_sk1 D, r_sk2 D, r_s0 D, r_s1 D, r_s2 D, r_s3 D, r_s4 D, r_s5 D, r_s6 D, r_s7 D, r_s8 D, r_s9 D, r_s10 D, ns1, ns2, ns21, ns3, Option.bind_some, if_true, if_false, n8, n20, nI_ad2, na1, a_nm D (show 8 * o + i + 1 < 800 by omega), s_nm D (show 8 * o + i < 800 by omega)]
      rw [v_cpy_it D (show 20 * o + i < 2000 by omega) (VA_it D) (show 20 * o + i + 1 < 2000 by omega), bnd_some]
      refine ih _ (by simp only [nI_clamp (show i + 1 < 2 ^ 31 by omega), b0.2]; omega) k (i + 1) (by omega) (by omega) ?_
      unfold fdM
      dsimp only
      rw [shL_s (by omega), shQ_s (by omega)]
      rfl
  · rw [if_neg q0, f1, if_pos (nI_nlt0 (show j < 2 ^ 31 by omega)), f2, if_pos rfl]
    unfold x_Mod_setField_b196
    refine ⟨stR R (20 * o + j) (sk x), ?_, f3, ⟨fun _ _ _ => rfl, rfl, rfl, rfl⟩⟩
    simp only [r_gd D, r_g37 D, r_g38 D, r_g39 D, r_g40 D, r_g41 D, r_g42 D, r_g44 D, r_g45 D, r_g46 D, r_g47 D, r_g48 D, r_g49 D, r_g31 D, r_g3 D, r_g1 D, r_sk0 D, r_sk1 D, r_sk2 D, r_s0 D, r_s1 D, r_s2 D, r_s3 D, r_s4 D, r_s5 D, r_s6 D, r_s7 D, r_s8 D, r_s9 D, r_s10 D, ns1, ns2, ns21, ns3, Option.bind_some, if_true, if_false, n20, nI_ad2]
    rw [v_cpy_it D (show 20 * o + j < 2000 by omega) (VA_sk D) hx, bnd_some]
    rfl
  · rw [if_neg q0, f1, if_neg (show ¬ (0 : Int32) ≤ -1 by decide), f2, if_pos rfl]
    refine ⟨faR R o m (nV w) (sk x), ?_, f3, ⟨fun _ _ _ => rfl, rfl, rfl, rfl⟩⟩
    simp only [r_gd D, r_g37 D, r_g38 D, r_g39 D, r_g40 D, r_g41 D, r_g42 D, r_g44 D, r_g45 D, r_g46 D, r_g47 D, r_g48 D, r_g49 D, r_g31 D, r_g3 D, r_g1 D, r_sk0 D, r_sk1 D, r_sk2 D, r_s0 D, r_s1 D, r_s2 D, r_s3 D, r_s4 D, r_s5 D, r_s6 D, r_s7 D, r_s8 D, r_s9 D, r_s10 D, ns1, ns2, ns21, ns3, Option.bind_some, if_true, if_false, a_sz D ho, m3]
    rw [if_neg (fun e => by have := nI_inj (b := 8) (by omega) (by decide) e; omega), na1]
    simp only [r_gd D, r_g37 D, r_g38 D, r_g39 D, r_g40 D, r_g41 D, r_g42 D, r_g44 D, r_g45 D, r_g46 D, r_g47 D, r_g48 D, r_g49 D, r_g31 D, r_g3 D, r_g1 D, r_sk0 D, r_sk1 D, r_sk2 D, r_s0 D, r_s1 D, r_s2 D, r_s3 D, r_s4 D, r_s5 D, r_s6 D, r_s7 D, r_s8 D, r_s9 D, r_s10 D, ns1, ns2, ns21, ns3, Option.bind_some, if_true, if_false, s_sz D ho, n8, nI_ad2, s_nm D (show 8 * o + m < 800 by omega)]
    unfold x_Mod_setField_b196
    simp only [r_gd D, r_g37 D, r_g38 D, r_g39 D, r_g40 D, r_g41 D, r_g42 D, r_g44 D, r_g45 D, r_g46 D, r_g47 D, r_g48 D, r_g49 D, r_g31 D, r_g3 D, r_g1 D, r_sk0 D, r_sk1 D, r_sk2 D, r_s0 D, r_s1 D, r_s2 D, r_s3 D, r_s4 D, r_s5 D, r_s6 D, r_s7 D, r_s8 D, r_s9 D, r_s10 D, ns1, ns2, ns21, ns3, Option.bind_some, if_true, if_false, n20, nI_ad2]
    rw [v_cpy_it D (show 20 * o + m < 2000 by omega) (VA_sk D) hx, bnd_some]
    rfl
  · rw [if_neg q0, f1, if_neg (show ¬ (0 : Int32) ≤ -1 by decide), f2]
    refine ⟨R, ?_, X, KG.rfl'⟩
    subst q8
    simp only [r_gd D, r_g37 D, r_g38 D, r_g39 D, r_g40 D, r_g41 D, r_g42 D, r_g44 D, r_g45 D, r_g46 D, r_g47 D, r_g48 D, r_g49 D, r_g31 D, r_g3 D, r_g1 D, r_sk0 D, r_sk1 D, r_sk2 D, r_s0 D, r_s1 D, r_s2 D, r_s3 D, r_s4 D, r_s5 D, r_s6 D, r_s7 D, r_s8 D, r_s9 D, r_s10 D, ns1, ns2, ns21, ns3, Option.bind_some, if_true, if_false, a_sz D ho, m3]
    rfl
theorem q_stF (D : RD n r) (C : CD f c Ns Nv sp cq pa lo ba vb) (hF : F < 9) (hc : cu F = .ref c) (hp : p < Ns) {x : Nat} (hx : sp p = nI x) (hx1 : vb ≤ x) (hx2 : x - vb < Nv) {w : List Nat} (hw : okN w) (hxw : (cq (x - vb)).2.2.1 = nV w) (X : SR S R) (ht : t + 1 < 8000) (ha : VR R.1 a (sk t)) (hv : VR R.1 v (sk (t + 1))) : RO0 (RKm n us f b pk g0 hk cu bk bs ob r om P fu u (nI (F + 1))) t sk R (nI (p + 1)) (x_Mod_parts (d + 3) 160 6 (n, MM f b sk pk g0 hk cu bk bs ob r R om (nI (t + 2)) P fu u (nI (F + 1)) (nI (p)), us)) (d_stF S (nF w) a v) := by
  have h0 : t < 8000 := by omega
  unfold x_Mod_parts d_stF
  dsimp only
  rw [r_gd D, if_neg (show ¬ (6 : Int32) = 5 by decide), if_pos rfl, e_next D C hF hc hp, bnd_some, hx, e_text D C hF hc hx1 hx2, bnd_some, hxw]
  simp only [r_gd D, r_g37 D, r_g38 D, r_g39 D, r_g40 D, r_g41 D, r_g42 D, r_g44 D, r_g45 D, r_g46 D, r_g47 D, r_g48 D, r_g49 D, r_g31 D, r_g3 D, r_g1 D, r_sk0 D, r_sk1 D, r_sk2 D, r_s0 D, r_s1 D, r_s2 D, r_s3 D, r_s4 D, r_s5 D, r_s6 D, r_s7 D, r_s8 D, r_s9 D, r_s10 D, ns1, ns2, ns21, ns3, Option.bind_some, if_true, if_false, r_p41 D, a_sk0 D h0, a_sk2 D h0]
  rw [ha.sort]
  by_cases c3 : (sk t).1 = 3
  · obtain ⟨o, o1, o2, rfl, o4⟩ := ha.isO (Or.inl rfl) c3
    rw [if_pos c3, if_pos c3, o4]
    dsimp only
    obtain ⟨R', k1, k2, k3⟩ := e_setF (d := d) (us := us) (f := f) (b := b) (pk := pk) (g0 := g0) (hk := hk) (cu := cu) (bk := bk) (bs := bs) (ob := ob) (om := om) (T := nI t) (P := P) (fu := fu) (u := u) (fr := nI (F + 1)) (pc := nI (p + 1)) D X o1 o2 hw ht hv
    rw [i32_64, na1, k1, bnd_some]
    by_cases c : (c_setF S (nI o) (nF w) v.1 v.2).1 = true
    · rw [if_pos c, if_pos c]
      exact RO0.ok (fun j hj => rfl) k2 k3
    · rw [if_neg c, if_neg c]
      exact RO0.er (by decide)
  · rw [if_neg c3, if_neg c3]
    exact RO0.er (e := 2) (by decide)
theorem q_stR (D : RD n r) {w : List Nat} (hw : okN w) (X : SR S R) (ht : t < 8000) (hv : VR R.1 v (sk t)) : RO0 (RKm n us f b pk g0 hk cu bk bs ob r om P fu u fr) t sk R pc (x_Mod_setRoot (d + 2) 160 (nV w) (n, MM f b sk pk g0 hk cu bk bs ob r R om (nI (t + 1)) P fu u fr pc, us)) (d_stR S (nC w) v) := by
  have h12 := X.2.2.1
  have e0 := X.2.2.2.1
  unfold x_Mod_setRoot d_stR
  dsimp only
  rw [r_gd D, r_g41 D, Option.bind_some, ns1, r_p41 D, Option.bind_some, r_g31 D, Option.bind_some, e_fR D h12 e0, bnd_some, r_g37 D, Option.bind_some, r_sk0 D, Option.bind_some, r_g41 D, Option.bind_some, a_sk0 D ht, Option.bind_some]
  rcases SR_setR X hw hv with ⟨q0, f1, f2⟩ | ⟨j, q0, j1, f1, f2, f3⟩ | ⟨j, q0, j1, f1, f2, f3, f4⟩ | ⟨q0, q8, f1, f2, f3⟩ | ⟨q0, q8, f1, f2⟩
  · rw [if_pos q0, f1, if_neg (show ¬ (0 : Int32) ≤ -1 by decide), f2]
    exact RO0.ok (fun j hj => rfl) X KG.rfl'
  · rw [if_pos q0, f1, if_pos (nI_nlt0 (show j < 2 ^ 31 by omega)), f2, if_pos rfl]
    have em : nI S.2.2.2.2.2.2.1 - 1 = nI (S.2.2.2.2.2.2.1 - 1) := nI_sub (a := S.2.2.2.2.2.2.1) (b := 1) (by omega)
    simp only [r_gd D, r_g37 D, r_g38 D, r_g39 D, r_g40 D, r_g41 D, r_g42 D, r_g44 D, r_g45 D, r_g46 D, r_g47 D, r_g48 D, r_g49 D, r_g31 D, r_g3 D, r_g1 D, r_sk0 D, r_sk1 D, r_sk2 D, r_s0 D, r_s1 D, r_s2 D, r_s3 D, r_s4 D, r_s5 D, r_s6 D, r_s7 D, r_s8 D, r_s9 D, r_s10 D, ns1, ns2, ns21, ns3, Option.bind_some, if_true, if_false, e0, em, r_sp9 D, a_rt D (show S.2.2.2.2.2.2.1 - 1 < 12 by omega), s_rt D (show j < 12 by omega)]
    rw [v_cpy_vl D (show j < 12 by omega) (VA_vl D) (show S.2.2.2.2.2.2.1 - 1 < 12 by omega), bnd_some]
    exact RO0.ok (fun j hj => rfl) f3 ⟨fun _ _ _ => rfl, rfl, rfl, rfl⟩
  · rw [if_neg q0, f1, if_pos (nI_nlt0 (show j < 2 ^ 31 by omega)), f2, if_pos rfl]
    unfold x_Mod_setRoot_b154
    simp only [r_gd D, r_g37 D, r_g38 D, r_g39 D, r_g40 D, r_g41 D, r_g42 D, r_g44 D, r_g45 D, r_g46 D, r_g47 D, r_g48 D, r_g49 D, r_g31 D, r_g3 D, r_g1 D, r_sk0 D, r_sk1 D, r_sk2 D, r_s0 D, r_s1 D, r_s2 D, r_s3 D, r_s4 D, r_s5 D, r_s6 D, r_s7 D, r_s8 D, r_s9 D, r_s10 D, ns1, ns2, ns21, ns3, Option.bind_some, if_true, if_false]
    rw [v_cpy_vl D (show j < 12 by omega) (VA_sk D) ht, bnd_some]
    have er : rpR R j S.2.2.2.2.2.2.1 (nV w) (sk t) = (R.1, R.2.1, R.2.2.1, R.2.2.2.1, R.2.2.2.2.1, R.2.2.2.2.2.1, upQ (rVl R) j (sk t), R.2.2.2.2.2.2.2.1, R.2.2.2.2.2.2.2.2.1, R.2.2.2.2.2.2.2.2.2.1, R.2.2.2.2.2.2.2.2.2.2.1, R.2.2.2.2.2.2.2.2.2.2.2) := by
      unfold rpR
      rw [← f4, upL_id, ← e0]
    rw [er] at f3
    exact RO0.ok (fun j hj => rfl) f3 ⟨fun _ _ _ => rfl, rfl, rfl, rfl⟩
  · rw [if_neg q0, f1, if_neg (show ¬ (0 : Int32) ≤ -1 by decide), f2, if_pos rfl]
    simp only [r_gd D, r_g37 D, r_g38 D, r_g39 D, r_g40 D, r_g41 D, r_g42 D, r_g44 D, r_g45 D, r_g46 D, r_g47 D, r_g48 D, r_g49 D, r_g31 D, r_g3 D, r_g1 D, r_sk0 D, r_sk1 D, r_sk2 D, r_s0 D, r_s1 D, r_s2 D, r_s3 D, r_s4 D, r_s5 D, r_s6 D, r_s7 D, r_s8 D, r_s9 D, r_s10 D, ns1, ns2, ns21, ns3, Option.bind_some, if_true, if_false, e0]
    rw [if_neg (fun e => by have := nI_inj (b := 12) (by omega) (by decide) e; omega), na1]
    simp only [r_gd D, r_g37 D, r_g38 D, r_g39 D, r_g40 D, r_g41 D, r_g42 D, r_g44 D, r_g45 D, r_g46 D, r_g47 D, r_g48 D, r_g49 D, r_g31 D, r_g3 D, r_g1 D, r_sk0 D, r_sk1 D, r_sk2 D, r_s0 D, r_s1 D, r_s2 D, r_s3 D, r_s4 D, r_s5 D, r_s6 D, r_s7 D, r_s8 D, r_s9 D, r_s10 D, ns1, ns2, ns21, ns3, Option.bind_some, if_true, if_false, r_sp9 D, s_rt D (show S.2.2.2.2.2.2.1 < 12 by omega)]
    unfold x_Mod_setRoot_b154
    simp only [r_gd D, r_g37 D, r_g38 D, r_g39 D, r_g40 D, r_g41 D, r_g42 D, r_g44 D, r_g45 D, r_g46 D, r_g47 D, r_g48 D, r_g49 D, r_g31 D, r_g3 D, r_g1 D, r_sk0 D, r_sk1 D, r_sk2 D, r_s0 D, r_s1 D, r_s2 D, r_s3 D, r_s4 D, r_s5 D, r_s6 D, r_s7 D, r_s8 D, r_s9 D, r_s10 D, ns1, ns2, ns21, ns3, Option.bind_some, if_true, if_false]
    rw [v_cpy_vl D (show S.2.2.2.2.2.2.1 < 12 by omega) (VA_sk D) ht, bnd_some]
    exact RO0.ok (fun j hj => rfl) f3 ⟨fun _ _ _ => rfl, rfl, rfl, rfl⟩
  · rw [if_neg q0, f1, if_neg (show ¬ (0 : Int32) ≤ -1 by decide), f2]
    simp only [r_gd D, r_g37 D, r_g38 D, r_g39 D, r_g40 D, r_g41 D, r_g42 D, r_g44 D, r_g45 D, r_g46 D, r_g47 D, r_g48 D, r_g49 D, r_g31 D, r_g3 D, r_g1 D, r_sk0 D, r_sk1 D, r_sk2 D, r_s0 D, r_s1 D, r_s2 D, r_s3 D, r_s4 D, r_s5 D, r_s6 D, r_s7 D, r_s8 D, r_s9 D, r_s10 D, ns1, ns2, ns21, ns3, Option.bind_some, if_true, if_false, e0, q8]
    exact RO0.er (e := 8) (by decide)
end
