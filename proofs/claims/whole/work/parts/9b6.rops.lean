theorem nI_nlt0 {a : Nat} (h : a < 2 ^ 31) : (0 : Int32) ≤ nI a := Int32.not_lt.mp (nI_pos h)
/-! the reference's operations against the denotations' -/
abbrev RK : Type := (Nat → VQ) → RS → Int32 → Int32 → HS
abbrev RKm (n us : Nat) (f : Nat → am_C) (b : Nat → Value) (pk g0 hk : Nat → VQ) (cu : Nat → Value) (bk bs ob : Nat → Int32) (r : Nat) (om P fu u fr : Int32) : RK := fun sk R T pc => (n, MM f b sk pk g0 hk cu bk bs ob r R om T P fu u fr pc, us)
def KG (R R' : RS) : Prop := KM R.1 R'.1 ∧ R'.2.2.2.2.1 = R.2.2.2.2.1 ∧ R'.2.2.2.2.2.2.2.1 = R.2.2.2.2.2.2.2.1 ∧ R'.2.2.2.2.2.2.2.2.2.2.1 = R.2.2.2.2.2.2.2.2.2.2.1
def RO1 (mk : RK) (t : Nat) (sk : Nat → VQ) (R : RS) (pc : Int32) (out : Option (Int32 × HS)) (res : RV) : Prop := (res.2.1 = 0 → ∃ sk' R', out = some (-1, mk sk' R' (nI (t + 1)) pc) ∧ (∀ j, j < t → sk' j = sk j) ∧ SR res.1 R' ∧ KG R R' ∧ VR R'.1 res.2.2 (sk' t)) ∧ (¬ res.2.1 = 0 → ∃ sk' R' T' pc', out = some (res.2.1, mk sk' R' T' pc'))
def RO0 (mk : RK) (t : Nat) (sk : Nat → VQ) (R : RS) (pc : Int32) (out : Option (Int32 × HS)) (res : SC × Int32) : Prop := (res.2 = 0 → ∃ sk' R', out = some (-1, mk sk' R' (nI t) pc) ∧ (∀ j, j < t → sk' j = sk j) ∧ SR res.1 R' ∧ KG R R') ∧ (¬ res.2 = 0 → ∃ sk' R' T' pc', out = some (res.2, mk sk' R' T' pc'))
section
variable {mk : RK} {t : Nat} {sk sk' : Nat → VQ} {R R' : RS} {pc pc' T' : Int32} {S S' : SC} {e : Int32} {v : V2}
theorem KG.rfl' : KG R R := ⟨fun _ _ _ => rfl, rfl, rfl, rfl⟩
theorem KG.trans {R'' : RS} (a : KG R R') (b : KG R' R'') : KG R R'' := ⟨fun o h1 h2 => (b.1 o h1 (by rw [a.1 o h1 h2]; exact h2)).trans (a.1 o h1 h2), b.2.1.trans a.2.1, b.2.2.1.trans a.2.2.1, b.2.2.2.trans a.2.2.2⟩
theorem RO1.er (he : ¬ e = 0) : RO1 mk t sk R pc (some (e, mk sk' R' T' pc')) (S', e, v) := ⟨fun q => absurd q he, fun _ => ⟨_, _, _, _, rfl⟩⟩
theorem RO0.er (he : ¬ e = 0) : RO0 mk t sk R pc (some (e, mk sk' R' T' pc')) (S', e) := ⟨fun q => absurd q he, fun _ => ⟨_, _, _, _, rfl⟩⟩
theorem RO1.ok (h1 : ∀ j, j < t → sk' j = sk j) (h2 : SR S' R') (h3 : KG R R') (h4 : VR R'.1 v (sk' t)) : RO1 mk t sk R pc (some (-1, mk sk' R' (nI (t + 1)) pc)) (S', 0, v) := ⟨fun _ => ⟨_, _, rfl, h1, h2, h3, h4⟩, fun q => absurd rfl q⟩
theorem RO0.ok (h1 : ∀ j, j < t → sk' j = sk j) (h2 : SR S' R') (h3 : KG R R') : RO0 mk t sk R pc (some (-1, mk sk' R' (nI t) pc)) (S', 0) := ⟨fun _ => ⟨_, _, rfl, h1, h2, h3⟩, fun q => absurd rfl q⟩
theorem upQ_lt {q : Nat → VQ} {i j : Nat} {v : VQ} (h : j < i) : upQ q i v j = q j := if_neg (by omega)
theorem upQ_at {q : Nat → VQ} {i : Nat} {v : VQ} : upQ q i v i = v := if_pos rfl
theorem i32_64 {o : Nat} : (nI o).toInt64.toInt32 = nI o := Int32.toInt32_toInt64 _
end
section
variable {n us : Nat} {f : Nat → am_C} {b : Nat → Value} {sk pk g0 hk : Nat → VQ} {cu : Nat → Value} {bk bs ob : Nat → Int32} {r : Nat} {R : RS} {om T P fu u fr pc : Int32} {t pl p F c Ns Nv pa lo ba vb d : Nat} {sp : Nat → Int32} {cq : Nat → VQ} {S : SC} {v a i : V2}
theorem q_size (D : RD n r) (X : SR S R) (ht : t < 8000) (hv : VR R.1 v (sk t)) : RO1 (RKm n us f b pk g0 hk cu bk bs ob r om P fu u fr) t sk R pc (x_Mod_things (d + 2) 160 17 (n, MM f b sk pk g0 hk cu bk bs ob r R om (nI (t + 1)) P fu u fr pc, us)) (d_size S v) := by
  unfold x_Mod_things d_size
  dsimp only
  simp only [r_gd D, if_true, if_false, show ((19 : Int32) = 17) = False from eq_false (by decide), show ((19 : Int32) = 18) = False from eq_false (by decide), show ((18 : Int32) = 17) = False from eq_false (by decide), r_g37 D, r_sk0 D, r_sk1 D, r_sk2 D, r_g41 D, ns1, a_sk0 D ht, a_sk1 D ht, a_sk2 D ht, Option.bind_some, r_g31 D, r_s1 D]
  rw [hv.sort]
  rcases hv.kinds with e | e | e | e | e
  · rw [e, if_neg (by decide), if_neg (by decide), if_neg (by decide), if_neg (by decide)]
    exact RO1.er (e := 2) (by decide)
  · rw [e, if_neg (by decide), if_neg (by decide), if_neg (by decide), if_neg (by decide)]
    exact RO1.er (e := 2) (by decide)
  · obtain ⟨w, w1, w2, rfl, w4⟩ := hv.is2 e
    rw [e, if_pos (by decide), if_pos rfl, if_pos rfl, v_set_sk D ht, bnd_some, w4, t7_signs w1 w2]
    exact RO1.ok (fun j hj => upQ_lt hj) X KG.rfl' (by rw [upQ_at]; exact VR.int)
  · obtain ⟨o, o1, o2, rfl, o4⟩ := hv.isO (Or.inl rfl) e
    obtain ⟨m, m1, m2, m3, m4⟩ := X.rec o1 o2
    rw [e, if_pos (by decide), if_neg (by decide), if_neg (by decide), if_pos rfl, o4]
    dsimp only
    rw [i32_64, a_sz D o1, Option.bind_some, m3, v_set_sk D ht, bnd_some, cOf_o o1 m2 (by omega)]
    have e2 : nI (2 * m) / 2 = nI m := by
      have : ∀ m, m ≤ 8 → nI (2 * m) / 2 = nI m := by decide
      exact this m m1
    rw [e2]
    exact RO1.ok (fun j hj => upQ_lt hj) X KG.rfl' (by rw [upQ_at]; exact VR.int)
  · obtain ⟨o, o1, o2, rfl, o4⟩ := hv.isO (Or.inr rfl) e
    obtain ⟨m, m1, m2, m3, m4⟩ := X.row o1 o2
    rw [e, if_pos (by decide), if_neg (by decide), if_neg (by decide), if_neg (by decide), if_pos rfl, o4]
    dsimp only
    rw [i32_64, a_sz D o1, Option.bind_some, m3, v_set_sk D ht, bnd_some, cOf_o o1 m2 (by omega)]
    exact RO1.ok (fun j hj => upQ_lt hj) X KG.rfl' (by rw [upQ_at]; exact VR.int)
theorem q_pop (D : RD n r) (X : SR S R) (ht : t < 8000) (hv : VR R.1 v (sk t)) : RO1 (RKm n us f b pk g0 hk cu bk bs ob r om P fu u fr) t sk R pc (x_Mod_things (d + 2) 160 19 (n, MM f b sk pk g0 hk cu bk bs ob r R om (nI (t + 1)) P fu u fr pc, us)) (d_pop S v) := by
  unfold x_Mod_things d_pop
  dsimp only
  simp only [r_gd D, if_true, if_false, show ((19 : Int32) = 17) = False from eq_false (by decide), show ((19 : Int32) = 18) = False from eq_false (by decide), show ((18 : Int32) = 17) = False from eq_false (by decide), r_g37 D, r_sk0 D, r_sk2 D, r_g41 D, ns1, a_sk0 D ht, a_sk2 D ht, Option.bind_some, r_g31 D, r_s1 D]
  rw [hv.sort]
  by_cases c : (sk t).1 = 4
  · obtain ⟨o, o1, o2, rfl, o4⟩ := hv.isO (Or.inr rfl) c
    obtain ⟨m, m1, m2, m3, m4⟩ := X.row o1 o2
    rw [if_pos c, if_pos c, o4]
    dsimp only
    rw [i32_64, a_sz D o1, Option.bind_some, m3, cOf_o o1 m2 (by omega)]
    cases m with
    | zero =>
      rw [if_pos (show nI 0 = 0 from rfl), if_pos rfl]
      exact RO1.er (e := 3) (by decide)
    | succ m =>
      rw [if_neg (fun w => by have := nI_inj (b := 0) (by omega) (by decide) w; omega), if_neg (by omega)]
      simp only [Option.bind_some, ns1, s_sz D o1, r_g37 D, r_g41 D, r_g31 D, r_s5 D, r_s1 D, a_sz D o1]
      rw [show upI R.2.1 o (nI m) o = nI m from if_pos rfl, n20, nI_ad2, v_cpy_sk D ht (VA_it D) (by omega), bnd_some, fO_n o1, show 20 * o + (m + 1) - 1 = 20 * o + m by omega]
      exact RO1.ok (fun j hj => upQ_lt hj) (SR_pop X o1 o2 m2 (by omega)) ⟨fun _ _ _ => rfl, rfl, rfl, rfl⟩ (by rw [upQ_at]; exact m4 m (by omega))
  · rw [if_neg c, if_neg c]
    exact RO1.er (e := 2) (by decide)
theorem q_push (D : RD n r) (X : SR S R) (ht : t + 1 < 8000) (ha : VR R.1 a (sk t)) (hv : VR R.1 v (sk (t + 1))) : RO1 (RKm n us f b pk g0 hk cu bk bs ob r om P fu u fr) t sk R pc (x_Mod_things (d + 2) 160 18 (n, MM f b sk pk g0 hk cu bk bs ob r R om (nI (t + 2)) P fu u fr pc, us)) (d_push S a v) := by
  have h0 : t < 8000 := by omega
  unfold x_Mod_things d_push
  dsimp only
  simp only [r_gd D, if_true, if_false, show ((19 : Int32) = 17) = False from eq_false (by decide), show ((19 : Int32) = 18) = False from eq_false (by decide), show ((18 : Int32) = 17) = False from eq_false (by decide), r_g41 D, Option.bind_some, ns21, r_p41 D, r_g37 D, r_sk0 D, r_sk2 D, ns1, a_sk0 D h0, a_sk2 D h0, r_g31 D, r_s1 D, r_s5 D]
  rw [ha.sort]
  by_cases c : (sk t).1 = 4
  · obtain ⟨o, o1, o2, rfl, o4⟩ := ha.isO (Or.inr rfl) c
    obtain ⟨m, m1, m2, m3, m4⟩ := X.row o1 o2
    have hvt := ha
    rw [if_pos c, if_pos c, o4]
    dsimp only
    rw [i32_64, a_sz D o1, Option.bind_some, m3]
    by_cases c20 : m = 20
    · subst c20
      rw [if_pos (show nI 20 = 20 from rfl), app_full o1 m2]
      exact RO1.er (by show ¬ (4 : Int32) = 0; decide)
    · rw [if_neg (fun w => by have := nI_inj (b := 20) (by omega) (by decide) w; omega), Option.bind_some, n20, nI_ad2, v_cpy_it D (by omega) (VA_sk D) ht, bnd_some]
      obtain ⟨p1, p2⟩ := SR_push X o1 o2 m2 (by omega) hv
      simp only [r_g31 D, Option.bind_some, r_s1 D, a_sz D o1]
      rw [m3, na1, s_sz D o1, Option.bind_some, p1]
      exact RO1.ok (fun j hj => rfl) p2 ⟨fun _ _ _ => rfl, rfl, rfl, rfl⟩ hvt
  · rw [if_neg c, if_neg c]
    exact RO1.er (e := 2) (by decide)
theorem q_field (D : RD n r) (C : CD f c Ns Nv sp cq pa lo ba vb) (hF : F < 9) (hc : cu F = .ref c) (hp : p < Ns) {x : Nat} (hx : sp p = nI x) (hx1 : vb ≤ x) (hx2 : x - vb < Nv) {w : List Nat} (hw : okN w) (hxw : (cq (x - vb)).2.2.1 = nV w) (X : SR S R) (ht : t < 8000) (hv : VR R.1 v (sk t)) : RO1 (RKm n us f b pk g0 hk cu bk bs ob r om P fu u (nI (F + 1))) t sk R (nI (p + 1)) (x_Mod_parts (d + 2) 160 5 (n, MM f b sk pk g0 hk cu bk bs ob r R om (nI (t + 1)) P fu u (nI (F + 1)) (nI (p)), us)) (d_field S (nF w) v) := by
  unfold x_Mod_parts d_field
  dsimp only
  rw [r_gd D, if_pos rfl, e_next D C hF hc hp, bnd_some, hx, e_text D C hF hc hx1 hx2, bnd_some, hxw]
  simp only [r_g37 D, r_sk0 D, r_sk2 D, r_g41 D, ns1, a_sk0 D ht, a_sk2 D ht, Option.bind_some, r_g31 D, r_s5 D]
  rw [hv.sort]
  by_cases c : (sk t).1 = 3
  · obtain ⟨o, o1, o2, rfl, o4⟩ := hv.isO (Or.inl rfl) c
    obtain ⟨m, m1, m2, m3, m4⟩ := X.rec o1 o2
    rw [if_pos c, if_pos c, o4]
    dsimp only
    rw [i32_64, e_fF D o1 m1 m3, bnd_some]
    rcases SR_fc X o1 o2 m3 m1 hw with ⟨f1, f2⟩ | ⟨j, f1, f2, f3⟩
    · rw [f1, f2, if_neg (show ¬ (0 : Int32) ≤ -1 by decide), if_pos (show (-1 : Int32) < 0 by decide)]
      simp only [r_gd D, r_g37 D, r_g38 D, r_g39 D, r_g40 D, r_g41 D, r_g42 D, r_g44 D, r_g45 D, r_g46 D, r_g47 D, r_g48 D, r_g49 D, r_g31 D, r_g3 D, r_g1 D, r_sk0 D, r_sk1 D, r_sk2 D, r_s0 D, r_s1 D, r_s2 D, r_s3 D, r_s4 D, r_s5 D, r_s6 D, r_s7 D, r_s8 D, r_s9 D, r_s10 D, ns1, ns2, ns21, ns3, Option.bind_some, if_true, if_false]
      rw [v_set_sk D ht, bnd_some]
      exact RO1.ok (fun j hj => upQ_lt hj) X KG.rfl' (by rw [upQ_at]; exact VR.nil)
    · rw [f2, f3, if_pos (nI_nlt0 (show j < 2 ^ 31 by omega)), if_neg (nI_pos (show 20 * o + 2 * j + 1 < 2 ^ 31 by omega)), n20, nI_ad2]
      simp only [r_gd D, r_g37 D, r_g38 D, r_g39 D, r_g40 D, r_g41 D, r_g42 D, r_g44 D, r_g45 D, r_g46 D, r_g47 D, r_g48 D, r_g49 D, r_g31 D, r_g3 D, r_g1 D, r_sk0 D, r_sk1 D, r_sk2 D, r_s0 D, r_s1 D, r_s2 D, r_s3 D, r_s4 D, r_s5 D, r_s6 D, r_s7 D, r_s8 D, r_s9 D, r_s10 D, ns1, ns2, ns21, ns3, Option.bind_some, if_true, if_false]
      rw [v_cpy_sk D ht (VA_it D) (show 20 * o + j < 2000 by omega), bnd_some, nI_clamp (show 20 * o + 2 * j + 1 < 2 ^ 31 by omega)]
      exact RO1.ok (fun j hj => upQ_lt hj) X KG.rfl' (by rw [upQ_at]; exact (m4 j f1).2)
  · rw [if_neg c, if_neg c]
    exact RO1.er (e := 2) (by decide)
end
