/-! reckoning of the reference -/
theorem ltL_at : ∀ (w v : List Nat) (i : Nat), i < w.length → i < v.length → (∀ j, j < i → w.getD j 0 = v.getD j 0) → ¬ w.getD i 0 = v.getD i 0 → ((ltL w v ↔ w.getD i 0 < v.getD i 0) ∧ ¬ w = v)
  | [], _, _, h, _, _, _ => absurd h (Nat.not_lt_zero _)
  | _ :: _, [], _, _, h, _, _ => absurd h (Nat.not_lt_zero _)
  | x :: w, y :: v, 0, _, _, _, hn => by
    have hn' : ¬ x = y := hn
    refine ⟨?_, fun e => hn' (by injection e)⟩
    show x < y ∨ (x = y ∧ ltL w v) ↔ x < y
    exact ⟨fun q => q.elim id (fun q => absurd q.1 hn'), Or.inl⟩
  | x :: w, y :: v, i + 1, h1, h2, hp, hn => by
    have e0 : x = y := hp 0 (by omega)
    obtain ⟨k1, k2⟩ := ltL_at w v i (by simpa using h1) (by simpa using h2) (fun j hj => hp (j + 1) (by omega)) hn
    subst e0
    refine ⟨?_, fun e => k2 (by injection e)⟩
    show x < x ∨ (x = x ∧ ltL w v) ↔ w.getD i 0 < v.getD i 0
    rw [← k1]
    exact ⟨fun q => q.elim (fun q => absurd q (Nat.lt_irrefl _)) (fun q => q.2), fun q => Or.inr ⟨rfl, q⟩⟩
theorem ltL_end : ∀ (w v : List Nat), (∀ j, j < min w.length v.length → w.getD j 0 = v.getD j 0) → ((ltL w v ↔ w.length < v.length) ∧ (w = v ↔ w.length = v.length))
  | [], [], _ => ⟨⟨fun q => absurd q id, fun q => absurd q (Nat.lt_irrefl _)⟩, ⟨fun _ => rfl, fun _ => rfl⟩⟩
  | [], y :: v, _ => ⟨⟨fun _ => Nat.succ_pos _, fun _ => trivial⟩, ⟨fun q => (by cases q), fun q => (by simp at q)⟩⟩
  | x :: w, [], _ => ⟨⟨fun q => absurd q id, fun q => absurd q (Nat.not_lt_zero _)⟩, ⟨fun q => (by cases q), fun q => (by simp at q)⟩⟩
  | x :: w, y :: v, hp => by
    have e0 : x = y := hp 0 (by simp only [List.length_cons]; omega)
    obtain ⟨k1, k2⟩ := ltL_end w v (fun j hj => hp (j + 1) (by simp only [List.length_cons]; omega))
    subst e0
    refine ⟨?_, ?_⟩
    · show x < x ∨ (x = x ∧ ltL w v) ↔ w.length + 1 < v.length + 1
      rw [k1]
      exact ⟨fun q => q.elim (fun q => absurd q (Nat.lt_irrefl _)) (fun q => by omega), fun q => Or.inr ⟨rfl, by omega⟩⟩
    · show x :: w = x :: v ↔ w.length + 1 = v.length + 1
      rw [List.cons.injEq]
      exact ⟨fun q => by rw [k2.mp q.2], fun q => ⟨rfl, k2.mpr (by omega)⟩⟩
theorem nI_dif {a b : Nat} (ha : a < 2 ^ 30) (hb : b < 2 ^ 30) : (nI a - nI b < 0 ↔ a < b) ∧ (nI a - nI b = 0 ↔ a = b) := by
  have e : (nI a - nI b).toInt = (a : Int) - b := by
    rw [Int32.toInt_sub, nI_toInt (by omega), nI_toInt (by omega), Int.bmod_eq_of_le (by omega) (by omega)]
  have z : (0 : Int32).toInt = 0 := rfl
  refine ⟨?_, ?_⟩
  · rw [Int32.lt_iff_toInt_lt, e, z]
    omega
  · rw [← Int32.toInt_inj, e, z]
    omega
theorem dv_64 (x y : Int32) : (x.toInt64 / y.toInt64).toInt32 = x / y := by
  apply Int32.toInt_inj.mp
  rw [Int64.toInt_toInt32, Int64.toInt_div, Int32.toInt_div, Int32.toInt_toInt64, Int32.toInt_toInt64]
  rw [Int.bmod_bmod_of_dvd (by decide)]
theorem sb_64 (x y : Int32) : (x.toInt64 - y.toInt64).toInt = x.toInt - y.toInt := by
  have h1 := Int32.le_toInt x
  have h2 := Int32.toInt_lt x
  have h3 := Int32.le_toInt y
  have h4 := Int32.toInt_lt y
  rw [Int64.toInt_sub, Int32.toInt_toInt64, Int32.toInt_toInt64, Int.bmod_eq_of_le (by omega) (by omega)]
section
variable {n us : Nat} {f : Nat → am_C} {b : Nat → Value} {sk pk g0 hk : Nat → VQ} {cu : Nat → Value} {bk bs ob : Nat → Int32} {r : Nat} {R : RS} {om T P fu u fr pc : Int32} {t pl p F c Ns Nv pa lo ba vb d : Nat} {sp : Nat → Int32} {cq : Nat → VQ} {S : SC} {v a i : V2}
theorem reck_un (D : RD n r) (ht : t < 8000) {op : Int32} : ∃ l2 l5 t0, x_Mod_reckon (d + 1) 160 op (n, MM f b sk pk g0 hk cu bk bs ob r R om (nI (t + 1)) P fu u fr pc, us) = x_Mod_reckon_b86 d 160 op l2 (nI t) l5 t0 (n, MM f b sk pk g0 hk cu bk bs ob r R om (nI (t + 1)) P fu u fr pc, us) := by
  unfold x_Mod_reckon
  dsimp only
  simp only [r_gd D, r_g37 D, r_g38 D, r_g39 D, r_g40 D, r_g41 D, r_g42 D, r_g44 D, r_g45 D, r_g46 D, r_g47 D, r_g48 D, r_g49 D, r_g31 D, r_g3 D, r_g1 D, r_sk0 D, r_sk1 D, r_sk2 D, r_s0 D, r_s1 D, r_s2 D, r_s3 D, r_s4 D, r_s5 D, r_s6 D, r_s7 D, r_s8 D, r_s9 D, r_s10 D, ns1, ns2, ns21, ns3, Option.bind_some, if_true, if_false]
  cases t with
  | zero =>
    rw [if_pos (by decide)]
    unfold x_Mod_reckon_b48 x_Mod_reckon_b49
    rw [if_pos (by decide)]
    exact ⟨_, _, _, rfl⟩
  | succ t =>
    have h0 : t < 8000 := by omega
    have hp : ¬ nI t < 0 := nI_pos (by omega)
    have e : nI (t + 1 + 1) - 2 = nI t := ns2
    rw [e, if_neg hp]
    unfold x_Mod_reckon_b48 x_Mod_reckon_b49
    simp only [r_gd D, r_g37 D, r_g38 D, r_g39 D, r_g40 D, r_g41 D, r_g42 D, r_g44 D, r_g45 D, r_g46 D, r_g47 D, r_g48 D, r_g49 D, r_g31 D, r_g3 D, r_g1 D, r_sk0 D, r_sk1 D, r_sk2 D, r_s0 D, r_s1 D, r_s2 D, r_s3 D, r_s4 D, r_s5 D, r_s6 D, r_s7 D, r_s8 D, r_s9 D, r_s10 D, ns1, ns2, ns21, ns3, Option.bind_some, if_true, if_false, a_sk0 D h0, a_sk0 D ht, hp]
    unfold x_Mod_reckon_b85
    repeat' split
    all_goals exact ⟨_, _, _, rfl⟩
theorem reck_bin (D : RD n r) (ht : t + 1 < 8000) {op : Int32} : x_Mod_reckon (d + 1) 160 op (n, MM f b sk pk g0 hk cu bk bs ob r R om (nI (t + 2)) P fu u fr pc, us) = x_Mod_reckon_b86 d 160 op (nI t) (nI (t + 1)) (if (sk t).1 = 1 ∧ (sk (t + 1)).1 = 1 then 1 else 0) (if (sk t).1 = 2 ∧ (sk (t + 1)).1 = 2 then 1 else 0) (n, MM f b sk pk g0 hk cu bk bs ob r R om (nI (t + 2)) P fu u fr pc, us) := by
  have h0 : t < 8000 := by omega
  have hp : ¬ nI t < 0 := nI_pos (by omega)
  unfold x_Mod_reckon
  dsimp only
  simp only [r_gd D, r_g37 D, r_g38 D, r_g39 D, r_g40 D, r_g41 D, r_g42 D, r_g44 D, r_g45 D, r_g46 D, r_g47 D, r_g48 D, r_g49 D, r_g31 D, r_g3 D, r_g1 D, r_sk0 D, r_sk1 D, r_sk2 D, r_s0 D, r_s1 D, r_s2 D, r_s3 D, r_s4 D, r_s5 D, r_s6 D, r_s7 D, r_s8 D, r_s9 D, r_s10 D, ns1, ns2, ns21, ns3, Option.bind_some, if_true, if_false]
  unfold x_Mod_reckon_b48 x_Mod_reckon_b49
  simp only [r_gd D, r_g37 D, r_g38 D, r_g39 D, r_g40 D, r_g41 D, r_g42 D, r_g44 D, r_g45 D, r_g46 D, r_g47 D, r_g48 D, r_g49 D, r_g31 D, r_g3 D, r_g1 D, r_sk0 D, r_sk1 D, r_sk2 D, r_s0 D, r_s1 D, r_s2 D, r_s3 D, r_s4 D, r_s5 D, r_s6 D, r_s7 D, r_s8 D, r_s9 D, r_s10 D, ns1, ns2, ns21, ns3, Option.bind_some, if_true, if_false, a_sk0 D h0, a_sk0 D ht, hp]
  unfold x_Mod_reckon_b85
  have l12 : ((1 : Int32) = 2) = False := eq_false (by decide)
  by_cases a1 : (sk t).1 = 1
  · by_cases b1 : (sk (t + 1)).1 = 1
    · simp only [a1, b1, l12, if_true, if_false, and_true, and_false]
    · simp only [a1, b1, l12, if_true, if_false, and_true, and_false, false_and]
  · by_cases a2 : (sk t).1 = 2
    · by_cases b2 : (sk (t + 1)).1 = 2
      · simp only [a2, b2, if_true, if_false, show ((2 : Int32) = 1) = False from eq_false (by decide), and_true, and_false]
      · simp only [a2, b2, if_true, if_false, show ((2 : Int32) = 1) = False from eq_false (by decide), and_true, and_false, false_and]
    · simp only [a1, a2, if_true, if_false, and_true, and_false, false_and]
theorem q_minus (D : RD n r) (X : SR S R) (ht : t < 8000) (hv : VR R.1 v (sk t)) : RO1 (RKm n us f b pk g0 hk cu bk bs ob r om P fu u fr) t sk R pc (x_Mod_reckon (d + 1) 160 10 (n, MM f b sk pk g0 hk cu bk bs ob r R om (nI (t + 1)) P fu u fr pc, us)) (d_minus S v) := by
  obtain ⟨l2, l5, t0, e⟩ := reck_un (d := d) (op := 10) (us := us) (f := f) (b := b) (pk := pk) (g0 := g0) (hk := hk) (cu := cu) (bk := bk) (bs := bs) (ob := ob) (om := om) (P := P) (fu := fu) (u := u) (fr := fr) (pc := pc) (R := R) D ht
  rw [e]
  unfold x_Mod_reckon_b86 d_minus
  rw [if_pos rfl, hv.sort]
  simp only [r_gd D, r_g37 D, r_g38 D, r_g39 D, r_g40 D, r_g41 D, r_g42 D, r_g44 D, r_g45 D, r_g46 D, r_g47 D, r_g48 D, r_g49 D, r_g31 D, r_g3 D, r_g1 D, r_sk0 D, r_sk1 D, r_sk2 D, r_s0 D, r_s1 D, r_s2 D, r_s3 D, r_s4 D, r_s5 D, r_s6 D, r_s7 D, r_s8 D, r_s9 D, r_s10 D, ns1, ns2, ns21, ns3, Option.bind_some, if_true, if_false, a_sk0 D ht, a_sk2 D ht]
  by_cases c : (sk t).1 = 1
  · obtain ⟨x, rfl, x2⟩ := hv.is1 c
    rw [if_pos c, if_pos c, s_one D ht, Option.bind_some, x2]
    dsimp only
    rw [Int64.toInt32_neg, Int32.toInt32_toInt64]
    exact RO1.ok (fun j hj => upQ_lt hj) X KG.rfl' (by rw [upQ_at]; exact VR.int)
  · rw [if_neg c, if_neg c]
    exact RO1.er (e := 2) (by decide)
theorem q_not (D : RD n r) (X : SR S R) (ht : t < 8000) (hv : VR R.1 v (sk t)) : RO1 (RKm n us f b pk g0 hk cu bk bs ob r om P fu u fr) t sk R pc (x_Mod_reckon (d + 1) 160 11 (n, MM f b sk pk g0 hk cu bk bs ob r R om (nI (t + 1)) P fu u fr pc, us)) (d_not S v) := by
  obtain ⟨l2, l5, t0, e⟩ := reck_un (d := d) (op := 11) (us := us) (f := f) (b := b) (pk := pk) (g0 := g0) (hk := hk) (cu := cu) (bk := bk) (bs := bs) (ob := ob) (om := om) (P := P) (fu := fu) (u := u) (fr := fr) (pc := pc) (R := R) D ht
  rw [e]
  unfold x_Mod_reckon_b86 d_not
  rw [if_neg (show ¬ (11 : Int32) = 10 by decide), if_pos rfl, r_g37 D, Option.bind_some, e_true D ht, bnd_some]
  have ht' := hv.true
  by_cases c : (sk t).1 = 0 ∨ ((sk t).1 = 1 ∧ (sk t).2.2.1 = 0)
  · rw [if_pos c, if_pos rfl, v_set_sk D ht, bnd_some, if_pos (ht'.mpr c)]
    exact RO1.ok (fun j hj => upQ_lt hj) X KG.rfl' (by rw [upQ_at]; exact VR.int (x := 1))
  · rw [if_neg c, if_neg (show ¬ (1 : Int32) = 0 by decide), v_set_sk D ht, bnd_some, if_neg (fun w => c (ht'.mp w))]
    exact RO1.ok (fun j hj => upQ_lt hj) X KG.rfl' (by rw [upQ_at]; exact VR.int (x := 0))
theorem e_376 (D : RD n r) (ht : t + 1 < 8000) {x : Int32} : x_Mod_reckon_b376 d 160 (nI t) x (n, MM f b sk pk g0 hk cu bk bs ob r R om (nI (t + 2)) P fu u fr pc, us) = some (-1, (n, MM f b (upQ sk t (1, 0, if x = 0 then 0 else 1, 0)) pk g0 hk cu bk bs ob r R om (nI (t + 1)) P fu u fr pc, us)) := by
  unfold x_Mod_reckon_b376
  simp only [r_gd D, r_g37 D, r_g38 D, r_g39 D, r_g40 D, r_g41 D, r_g42 D, r_g44 D, r_g45 D, r_g46 D, r_g47 D, r_g48 D, r_g49 D, r_g31 D, r_g3 D, r_g1 D, r_sk0 D, r_sk1 D, r_sk2 D, r_s0 D, r_s1 D, r_s2 D, r_s3 D, r_s4 D, r_s5 D, r_s6 D, r_s7 D, r_s8 D, r_s9 D, r_s10 D, ns1, ns2, ns21, ns3, Option.bind_some, if_true, if_false, r_p41 D]
  by_cases c : x = 0
  · rw [if_pos c, if_pos c, v_set_sk D (by omega), bnd_some]
  · rw [if_neg c, if_neg c, v_set_sk D (by omega), bnd_some]
theorem VR.bit {kd : Nat → Int32} {x : Int32} : VR kd (s_Cell_headOf 1, if x = 0 then 0 else 1) (1, 0, if x = 0 then 0 else 1, 0) := by
  by_cases c : x = 0
  · rw [if_pos c]
    exact VR.int (x := 0)
  · rw [if_neg c]
    exact VR.int (x := 1)
theorem q_same (D : RD n r) (C : CD f c Ns Nv sp cq pa lo ba vb) (hF : F < 9) (hc : cu F = .ref c) (hp : p < Ns) {w : Bool} (hx : sp p = if w = true then 0 else 1) (X : SR S R) (ht : t + 1 < 8000) (ha : VR R.1 a (sk t)) (hv : VR R.1 v (sk (t + 1))) : RO1 (RKm n us f b pk g0 hk cu bk bs ob r om P fu u (nI (F + 1))) t sk R (nI (p + 1)) (x_Mod_reckon (d + 1) 160 12 (n, MM f b sk pk g0 hk cu bk bs ob r R om (nI (t + 2)) P fu u (nI (F + 1)) (nI (p)), us)) (d_same S w a v) := by
  rw [reck_bin D ht]
  unfold x_Mod_reckon_b86 d_same
  rw [if_neg (show ¬ (12 : Int32) = 10 by decide), if_neg (show ¬ (12 : Int32) = 11 by decide), if_pos rfl, r_g37 D, Option.bind_some, Option.bind_some, v_lik_sk D (by omega) ht, bnd_some, e_next D C hF hc hp, bnd_some, hx]
  have hs := ha.same hv
  unfold x_Mod_reckon_b209 x_Mod_reckon_b217
  have ok : ∀ (x : Int32) (y : Int64), y = (if x = 0 then 0 else 1) → RO1 (RKm n us f b pk g0 hk cu bk bs ob r om P fu u (nI (F + 1))) t sk R (nI (p + 1)) (x_Mod_reckon_b376 d 160 (nI t) x (n, MM f b sk pk g0 hk cu bk bs ob r R om (nI (t + 2)) P fu u (nI (F + 1)) (nI (p + 1)), us)) (S, 0, s_Cell_headOf 1, y) := by
    intro x y hy
    rw [e_376 D ht, hy]
    exact RO1.ok (fun j hj => upQ_lt hj) X KG.rfl' (by rw [upQ_at]; exact VR.bit)
  by_cases c : (sk t).1 = (sk (t + 1)).1 ∧ (sk t).2.1 = (sk (t + 1)).2.1 ∧ (sk t).2.2.1 = (sk (t + 1)).2.2.1 ∧ (sk t).2.2.2 = (sk (t + 1)).2.2.2
  · rw [if_pos c, decide_eq_true (hs.mpr c)]
    cases w
    · rw [if_neg (show ¬ (if false = true then (0 : Int32) else 1) = 0 by decide), if_neg (show ¬ (1 : Int32) = 0 by decide)]
      exact ok 0 _ rfl
    · rw [if_pos (show (if true = true then (0 : Int32) else 1) = 0 by decide), if_pos rfl]
      exact ok 1 _ rfl
  · rw [if_neg c, decide_eq_false (fun q => c (hs.mp q))]
    cases w
    · rw [if_neg (show ¬ (if false = true then (0 : Int32) else 1) = 0 by decide), if_pos rfl]
      exact ok 1 _ rfl
    · rw [if_pos (show (if true = true then (0 : Int32) else 1) = 0 by decide), if_neg (show ¬ (0 : Int32) = 1 by decide)]
      exact ok 0 _ rfl
theorem e_order (D : RD n r) (ht : t + 1 < 8000) {w x : List Nat} (hw : okL w) (hx : okL x) (hl : w.length ≤ 16) (hl' : x.length ≤ 16) (h1 : sk t = T8 w) (h2 : sk (t + 1) = T8 x) : ∃ v, x_Mod_order (d + 1) 160 (nI t) (nI (t + 1)) (n, MM f b sk pk g0 hk cu bk bs ob r R om T P fu u fr pc, us) = some (v, (n, MM f b sk pk g0 hk cu bk bs ob r R om T P fu u fr pc, us)) ∧ (v < 0 ↔ ltL w x) ∧ (v = 0 ↔ w = x) := by
  have h0 : t < 8000 := by omega
  have s1 : (T8 w).2.1 = nI w.length := rfl
  have s2 : (T8 x).2.1 = nI x.length := rfl
  unfold x_Mod_order
  dsimp only
  simp only [r_gd D, r_g37 D, r_g38 D, r_g39 D, r_g40 D, r_g41 D, r_g42 D, r_g44 D, r_g45 D, r_g46 D, r_g47 D, r_g48 D, r_g49 D, r_g31 D, r_g3 D, r_g1 D, r_sk0 D, r_sk1 D, r_sk2 D, r_s0 D, r_s1 D, r_s2 D, r_s3 D, r_s4 D, r_s5 D, r_s6 D, r_s7 D, r_s8 D, r_s9 D, r_s10 D, ns1, ns2, ns21, ns3, Option.bind_some, if_true, if_false, a_sk1 D h0, a_sk1 D ht, h1, h2, s1, s2]
  have mn : (if nI x.length < nI w.length then nI x.length else nI w.length) = nI (min w.length x.length) := by
    rw [nI_min (by omega) (by omega), Nat.min_comm]
  rw [mn]
  refine loop_ind (fun z q => ∀ k i, i + k = min w.length x.length → (∀ j, j < i → w.getD j 0 = x.getD j 0) → z = (nI i, (n, MM f b sk pk g0 hk cu bk bs ob r R om T P fu u fr pc, us)) → ∃ v, q = some (v, (n, MM f b sk pk g0 hk cu bk bs ob r R om T P fu u fr pc, us)) ∧ (v < 0 ↔ ltL w x) ∧ (v = 0 ↔ w = x)) (fun z => 17 - z.1.toNatClampNeg) (fun again z ih k i e hp ez => ?_) FU _ (by rw [FU_eq]; omega) (min w.length x.length) 0 (by omega) (fun j hj => absurd hj (Nat.not_lt_zero _)) rfl
  subst ez
  dsimp only
  cases k with
  | zero =>
    obtain rfl : i = min w.length x.length := by omega
    rw [if_pos (Int32.le_refl _)]
    simp only [r_gd D, r_g37 D, r_g38 D, r_g39 D, r_g40 D, r_g41 D, r_g42 D, r_g44 D, r_g45 D, r_g46 D, r_g47 D, r_g48 D, r_g49 D, r_g31 D, r_g3 D, r_g1 D, r_sk0 D, r_sk1 D, r_sk2 D, r_s0 D, r_s1 D, r_s2 D, r_s3 D, r_s4 D, r_s5 D, r_s6 D, r_s7 D, r_s8 D, r_s9 D, r_s10 D, ns1, ns2, ns21, ns3, Option.bind_some, if_true, if_false, a_sk1 D h0, a_sk1 D ht, h1, h2, s1, s2]
    obtain ⟨k1, k2⟩ := ltL_end w x hp
    obtain ⟨k3, k4⟩ := nI_dif (a := w.length) (b := x.length) (by omega) (by omega)
    exact ⟨_, rfl, k3.trans k1.symm, k4.trans k2.symm⟩
  | succ k =>
    have b0 := cl0 (show i < 2 ^ 31 by omega)
    have i1 : i < w.length := by omega
    have i2 : i < x.length := by omega
    rw [if_neg (nI_ge (by omega) (by omega))]
    simp only [r_g37 D, Option.bind_some, v_sgn_sk D h0, v_sgn_sk D ht, bnd_some, h1, h2, t8_sign hw hl (show i < 16 by omega), t8_sign hx hl' (show i < 16 by omega)]
    have g1 := hw.getD i1
    have g2 := hx.getD i2
    by_cases c : w.getD i 0 = x.getD i 0
    · rw [c, if_pos rfl, na1]
      exact ih _ (by simp only [nI_clamp (show i + 1 < 2 ^ 31 by omega), b0.2]; omega) k (i + 1) (by omega) (fun j hj => by
        by_cases q : j = i
        · rw [q]
          exact c
        · exact hp j (by omega)) rfl
    · rw [if_neg (fun q => c (nI_inj (by omega) (by omega) q))]
      obtain ⟨k1, k2⟩ := ltL_at w x i i1 i2 hp c
      obtain ⟨k3, k4⟩ := nI_dif (a := w.getD i 0) (b := x.getD i 0) (by omega) (by omega)
      exact ⟨_, rfl, k3.trans k1.symm, ⟨fun q => absurd (k4.mp q) c, fun q => absurd q k2⟩⟩
theorem e_274 (D : RD n r) (ht : t + 1 < 8000) {w : Bool} {l : Int64} : x_Mod_reckon_b274 d 160 (nI t) (if w = true then 1 else 0) l (n, MM f b sk pk g0 hk cu bk bs ob r R om (nI (t + 2)) P fu u fr pc, us) = some (-1, (n, MM f b (upQ sk t (1, 0, if l < 0 ∨ (l = 0 ∧ w = true) then 1 else 0, 0)) pk g0 hk cu bk bs ob r R om (nI (t + 1)) P fu u fr pc, us)) := by
  unfold x_Mod_reckon_b274 x_Mod_reckon_b296 x_Mod_reckon_b300 x_Mod_reckon_b301
  rw [e_376 D ht, e_376 D ht, if_neg (show ¬ (1 : Int32) = 0 by decide), if_pos (show (0 : Int32) = 0 from rfl)]
  by_cases c : l < 0
  · rw [if_pos (lc_lt.mpr c), if_pos (Or.inl c)]
  · rw [if_neg (fun q => c (lc_lt.mp q))]
    by_cases c2 : l = 0
    · rw [if_pos (lc_eq.mpr c2)]
      cases w
      · rw [if_neg (show ¬ (if false = true then (1 : Int32) else 0) = 1 by decide), if_neg (fun q => q.elim c (fun q => Bool.false_ne_true q.2))]
      · rw [if_pos (show (if true = true then (1 : Int32) else 0) = 1 by decide), if_pos (Or.inr ⟨c2, rfl⟩)]
    · rw [if_neg (fun q => c2 (lc_eq.mp q)), if_neg (fun q => q.elim c (fun q => c2 q.1))]
theorem VR.bit2 {kd : Nat → Int32} {A B : Prop} [Decidable A] [Decidable B] (h : A ↔ B) : VR kd (s_Cell_headOf 1, if A then 1 else 0) (1, 0, if B then 1 else 0, 0) := by
  by_cases c : A
  · rw [if_pos c, if_pos (h.mp c)]
    exact VR.int (x := 1)
  · rw [if_neg c, if_neg (fun q => c (h.mpr q))]
    exact VR.int (x := 0)
theorem q_cmp (D : RD n r) (C : CD f c Ns Nv sp cq pa lo ba vb) (hF : F < 9) (hc : cu F = .ref c) (hp : p < Ns) {w : Bool} (hx : sp p = if w = true then 1 else 0) (X : SR S R) (ht : t + 1 < 8000) (ha : VR R.1 a (sk t)) (hv : VR R.1 v (sk (t + 1))) : RO1 (RKm n us f b pk g0 hk cu bk bs ob r om P fu u (nI (F + 1))) t sk R (nI (p + 1)) (x_Mod_reckon (d + 2) 160 13 (n, MM f b sk pk g0 hk cu bk bs ob r R om (nI (t + 2)) P fu u (nI (F + 1)) (nI (p)), us)) (d_cmp S w a v) := by
  have h0 : t < 8000 := by omega
  rw [reck_bin D ht]
  unfold x_Mod_reckon_b86 d_cmp
  rw [if_neg (show ¬ (13 : Int32) = 10 by decide), if_neg (show ¬ (13 : Int32) = 11 by decide), if_neg (show ¬ (13 : Int32) = 12 by decide), if_pos rfl, e_next D C hF hc hp, bnd_some, hx, ha.sort, hv.sort]
  unfold x_Mod_reckon_b240
  by_cases a1 : (sk t).1 = 1 ∧ (sk (t + 1)).1 = 1
  · obtain ⟨y, rfl, y2⟩ := ha.is1 a1.1
    obtain ⟨z, rfl, z2⟩ := hv.is1 a1.2
    rw [if_pos a1, if_neg (show ¬ (1 : Int32) = 0 by decide), if_neg (show ¬ (1 : Int32) = 0 by decide), if_pos (show (sk t).1 = (sk (t + 1)).1 ∧ ((sk t).1 = 1 ∨ (sk t).1 = 2) from ⟨a1.1.trans a1.2.symm, Or.inl a1.1⟩)]
    simp only [r_gd D, r_g37 D, r_g38 D, r_g39 D, r_g40 D, r_g41 D, r_g42 D, r_g44 D, r_g45 D, r_g46 D, r_g47 D, r_g48 D, r_g49 D, r_g31 D, r_g3 D, r_g1 D, r_sk0 D, r_sk1 D, r_sk2 D, r_s0 D, r_s1 D, r_s2 D, r_s3 D, r_s4 D, r_s5 D, r_s6 D, r_s7 D, r_s8 D, r_s9 D, r_s10 D, ns1, ns2, ns21, ns3, Option.bind_some, if_true, if_false, a_sk2 D h0, a_sk2 D ht, y2, z2]
    rw [e_274 D ht]
    refine RO1.ok (fun j hj => upQ_lt hj) X KG.rfl' ?_
    rw [upQ_at]
    refine VR.bit2 ?_
    have e1 : (y.toInt64 - z.toInt64 < 0) ↔ y.toInt64 < z.toInt64 := by
      rw [Int64.lt_iff_toInt_lt, Int64.lt_iff_toInt_lt, sb_64, Int32.toInt_toInt64, Int32.toInt_toInt64, show (0 : Int64).toInt = 0 from rfl]
      omega
    have e2 : (y.toInt64 - z.toInt64 = 0) ↔ y.toInt64 = z.toInt64 := by
      rw [← Int64.toInt_inj, ← Int64.toInt_inj, sb_64, Int32.toInt_toInt64, Int32.toInt_toInt64, show (0 : Int64).toInt = 0 from rfl]
      omega
    rw [e1, e2]
    have ir : ¬ s_Cell_headOf 1 < s_Cell_headOf 1 := Int64.lt_irrefl
    constructor
    · rintro (⟨q1, q2, q3⟩ | q | ⟨q1, q2⟩)
      · exact Or.inr ⟨q3, q1⟩
      · exact absurd q ir
      · exact Or.inl q2
    · rintro (q | ⟨q1, q2⟩)
      · exact Or.inr (Or.inr ⟨trivial, q⟩)
      · exact Or.inl ⟨q2, trivial, q1⟩
  · rw [if_neg a1, if_pos rfl, if_pos rfl]
    by_cases a2 : (sk t).1 = 2 ∧ (sk (t + 1)).1 = 2
    · obtain ⟨y, y1, y2, rfl, y4⟩ := ha.is2 a2.1
      obtain ⟨z, z1, z2, rfl, z4⟩ := hv.is2 a2.2
      obtain ⟨o, o1, o2, o3⟩ := e_order (d := d) (us := us) (f := f) (b := b) (pk := pk) (g0 := g0) (hk := hk) (cu := cu) (bk := bk) (bs := bs) (ob := ob) (om := om) (T := nI (t + 2)) (P := P) (fu := fu) (u := u) (fr := nI (F + 1)) (pc := nI (p + 1)) (R := R) D ht y1 z1 y2 z2 y4 z4
      rw [if_pos a2, if_neg (show ¬ (1 : Int32) = 0 by decide), o1, bnd_some, if_pos (show (sk t).1 = (sk (t + 1)).1 ∧ ((sk t).1 = 1 ∨ (sk t).1 = 2) from ⟨a2.1.trans a2.2.symm, Or.inr a2.1⟩), e_274 D ht]
      refine RO1.ok (fun j hj => upQ_lt hj) X KG.rfl' ?_
      rw [upQ_at]
      refine VR.bit2 ?_
      have e1 : o.toInt64 < 0 ↔ ltL y z := by
        rw [← o2, Int64.lt_iff_toInt_lt, Int32.lt_iff_toInt_lt, Int32.toInt_toInt64]
        exact Iff.rfl
      have e2 : o.toInt64 = 0 ↔ y = z := by
        rw [← o3]
        exact ⟨fun q => i64_inj (y := 0) q, fun q => by rw [q]; rfl⟩
      rw [e1, e2, ← T7_lt y1 z1 y2 z2]
      constructor
      · rintro (⟨q1, q2⟩ | q)
        · exact Or.inr ⟨T7_inj y1 z1 y2 z2 (Prod.ext q2.1 q2.2), q1⟩
        · exact Or.inl q
      · rintro (q | ⟨q1, q2⟩)
        · exact Or.inr q
        · exact Or.inl ⟨q2, by rw [q1], by rw [q1]⟩
    · rw [if_neg a2, if_pos rfl, if_neg ?_]
      · exact RO1.er (e := 2) (by decide)
      · rintro ⟨q1, q2 | q2⟩
        · exact a1 ⟨q2, q1.symm.trans q2⟩
        · exact a2 ⟨q2, q1.symm.trans q2⟩
theorem jn_eq {w x : List Nat} (hw : okL w) (hx : okL x) (hl : w.length + x.length ≤ 16) : ∀ m i, i + m = x.length → s_jn (T7 x) w.length m i (T7 (w ++ x.take i)) = T7 (w ++ x)
  | 0, i, e => by
    rw [s_jn, List.take_of_length_le (by omega)]
  | m + 1, i, e => by
    have hi : i < x.length := by omega
    have g := hx.getD hi
    have tk : x.take (i + 1) = x.take i ++ [x.getD i 0] := by
      rw [List.take_succ, List.getD_eq_getElem?_getD, List.getElem?_eq_getElem hi]
      rfl
    have ln : (w ++ x.take i).length = w.length + i := by rw [List.length_append, List.length_take]; omega
    have ok : okL (w ++ x.take i) := fun y hy => (List.mem_append.mp hy).elim (hw y) (fun q => hx y (List.mem_of_mem_take q))
    rw [s_jn, t7_sign hx (show i < 16 by omega), nI_ad2]
    have ap := t7_app ok g.2 (show (w ++ x.take i).length < 16 by omega)
    rw [ln] at ap
    rw [← ap, List.append_assoc, ← tk]
    exact jn_eq hw hx hl m (i + 1) (by omega)
theorem e_join (D : RD n r) (ht : t + 1 < 8000) {w x : List Nat} (hw : okL w) (hx : okL x) (hl : w.length ≤ 16) (hl' : x.length ≤ 16) (h1 : sk t = T8 w) (h2 : sk (t + 1) = T8 x) : x_Mod_join (d + 1) 160 (nI t) (nI (t + 1)) (n, MM f b sk pk g0 hk cu bk bs ob r R om T P fu u fr pc, us) = if w.length + x.length ≤ 16 then some (-1, (n, MM f b (upQ sk t (T8 (w ++ x))) pk g0 hk cu bk bs ob r R om T P fu u fr pc, us)) else some (4, (n, MM f b sk pk g0 hk cu bk bs ob r R om T P fu u fr pc, us)) := by
  have h0 : t < 8000 := by omega
  have s1 : (T8 w).2.1 = nI w.length := rfl
  have s2 : (T8 x).2.1 = nI x.length := rfl
  unfold x_Mod_join
  dsimp only
  simp only [r_gd D, r_g37 D, r_g38 D, r_g39 D, r_g40 D, r_g41 D, r_g42 D, r_g44 D, r_g45 D, r_g46 D, r_g47 D, r_g48 D, r_g49 D, r_g31 D, r_g3 D, r_g1 D, r_sk0 D, r_sk1 D, r_sk2 D, r_s0 D, r_s1 D, r_s2 D, r_s3 D, r_s4 D, r_s5 D, r_s6 D, r_s7 D, r_s8 D, r_s9 D, r_s10 D, ns1, ns2, ns21, ns3, Option.bind_some, if_true, if_false, a_sk1 D h0, a_sk1 D ht, h1, h2, s1, s2, nI_ad2]
  by_cases c : w.length + x.length ≤ 16
  · rw [if_pos c, if_pos (show nI (w.length + x.length) ≤ 16 by
      have e : (16 : Int32) = nI 16 := rfl
      rw [e, Int32.le_iff_toInt_le, nI_toInt (by omega), nI_toInt (by omega)]
      omega)]
    refine loop_ind (fun z q => ∀ k i (sk' : Nat → VQ), i + k = x.length → sk' = upQ sk t (T8 (w ++ x.take i)) → z = (nI i, (n, MM f b sk' pk g0 hk cu bk bs ob r R om T P fu u fr pc, us)) → q = some (-1, (n, MM f b (upQ sk t (T8 (w ++ x))) pk g0 hk cu bk bs ob r R om T P fu u fr pc, us))) (fun z => 17 - z.1.toNatClampNeg) (fun again z ih k i sk' e hs ez => ?_) FU _ (by rw [FU_eq]; omega) x.length 0 sk (by omega) (by
        funext j
        unfold upQ
        by_cases q : j = t
        · rw [if_pos q, q, h1, List.take_zero, List.append_nil]
        · rw [if_neg q]) rfl
    subst ez
    dsimp only
    have n1 : sk' (t + 1) = T8 x := by
      rw [hs]
      exact (if_neg (by omega)).trans h2
    have n0 : sk' t = T8 (w ++ x.take i) := by
      rw [hs]
      exact if_pos rfl
    rw [r_g37 D, Option.bind_some, r_sk1 D, Option.bind_some, a_sk1 D ht, Option.bind_some, n1, s2]
    cases k with
    | zero =>
      obtain rfl : i = x.length := by omega
      rw [if_pos (Int32.le_refl _), hs, List.take_of_length_le (Nat.le_refl _)]
    | succ k =>
      have b0 := cl0 (show i < 2 ^ 31 by omega)
      have hi : i < x.length := by omega
      have g := hx.getD hi
      have tk : x.take (i + 1) = x.take i ++ [x.getD i 0] := by
        rw [List.take_succ, List.getD_eq_getElem?_getD, List.getElem?_eq_getElem hi]
        rfl
      have ln : (w ++ x.take i).length = w.length + i := by rw [List.length_append, List.length_take]; omega
      have ok : okL (w ++ x.take i) := fun y hy => (List.mem_append.mp hy).elim (hw y) (fun q => hx y (List.mem_of_mem_take q))
      rw [if_neg (nI_ge (by omega) (by omega)), Option.bind_some, Option.bind_some, v_sgn_sk D ht, bnd_some, n1, t8_sign hx hl' (show i < 16 by omega), v_add_sk D h0, bnd_some, n0, ← t8_app ok g.2 (by omega), na1]
      refine ih _ (by simp only [nI_clamp (show i + 1 < 2 ^ 31 by omega), b0.2]; omega) k (i + 1) _ (by omega) ?_ rfl
      rw [tk, ← List.append_assoc, hs]
      funext j
      unfold upQ
      by_cases q : j = t
      · rw [if_pos q, if_pos q]
      · rw [if_neg q, if_neg q, if_neg q]
  · rw [if_neg c, if_neg (fun q => by
      have e : (16 : Int32) = nI 16 := rfl
      rw [e, Int32.le_iff_toInt_le, nI_toInt (by omega), nI_toInt (by omega)] at q
      omega)]
/-- the reference's sign of a command -/
def rSg (op : Int32) : Int32 := if op = 32 then 43 else if op = 33 then 45 else if op = 34 then 42 else if op = 35 then 47 else 37
theorem q_reck (D : RD n r) (C : CD f c Ns Nv sp cq pa lo ba vb) (hF : F < 9) (hc : cu F = .ref c) (hp : p < Ns) {op : Int32} (ho : op = 32 ∨ op = 33 ∨ op = 34 ∨ op = 35 ∨ op = 36) (hx : sp p = rSg op) (X : SR S R) (ht : t + 1 < 8000) (ha : VR R.1 a (sk t)) (hv : VR R.1 v (sk (t + 1))) : RO1 (RKm n us f b pk g0 hk cu bk bs ob r om P fu u (nI (F + 1))) t sk R (nI (p + 1)) (x_Mod_reckon (d + 2) 160 9 (n, MM f b sk pk g0 hk cu bk bs ob r R om (nI (t + 2)) P fu u (nI (F + 1)) (nI (p)), us)) (d_reck S op a v) := by
  have h0 : t < 8000 := by omega
  rw [reck_bin D ht]
  unfold x_Mod_reckon_b86 d_reck
  rw [if_neg (show ¬ (9 : Int32) = 10 by decide), if_neg (show ¬ (9 : Int32) = 11 by decide), if_neg (show ¬ (9 : Int32) = 12 by decide), if_neg (show ¬ (9 : Int32) = 13 by decide), e_next D C hF hc hp, bnd_some, hx, ha.sort, hv.sort, r_g41 D, Option.bind_some, ns21, r_p41 D, Option.bind_some]
  by_cases c1 : op = 32 ∧ (sk t).1 = 2 ∧ (sk (t + 1)).1 = 2
  · obtain ⟨rfl, c2⟩ := c1
    obtain ⟨y, y1, y2, rfl, y4⟩ := ha.is2 c2.1
    obtain ⟨z, z1, z2, rfl, z4⟩ := hv.is2 c2.2
    rw [if_pos (show rSg 32 = 43 by decide), if_pos c2, if_neg (show ¬ (1 : Int32) = 0 by decide), if_pos ⟨rfl, c2⟩, e_join D ht y1 z1 y2 z2 y4 z4]
    unfold d_join
    rw [t7_many y1 y2, t7_many z1 z2]
    by_cases cl : y.length + z.length ≤ 16
    · rw [if_pos cl, if_pos cl, bnd_some]
      have jn := jn_eq y1 z1 cl z.length 0 (by omega)
      rw [List.take_zero, List.append_nil] at jn
      rw [jn]
      refine RO1.ok (fun j hj => upQ_lt hj) X KG.rfl' ?_
      rw [upQ_at]
      exact VR.text (fun y hy => (List.mem_append.mp hy).elim (y1 y) (z1 y)) (by rw [List.length_append]; exact cl)
    · rw [if_neg cl, if_neg cl, bnd_some]
      exact RO1.er (e := 4) (by decide)
  · rw [if_neg c1]
    have key : RO1 (RKm n us f b pk g0 hk cu bk bs ob r om P fu u (nI (F + 1))) t sk R (nI (p + 1)) (x_Mod_reckon_b341 (d + 1) 160 (nI t) (nI (t + 1)) (rSg op) (if (sk t).1 = 1 ∧ (sk (t + 1)).1 = 1 then 1 else 0) (n, MM f b sk pk g0 hk cu bk bs ob r R om (nI (t + 1)) P fu u (nI (F + 1)) (nI (p + 1)), us)) (if (sk t).1 = 1 ∧ (sk (t + 1)).1 = 1 then (if (op = 35 ∨ op = 36) ∧ v.2 = 0 then (S, 5, 0, 0) else (S, 0, a.1, (s_found op a.2.toInt32 v.2.toInt32).toInt64)) else (S, 2, 0, 0)) := by
      unfold x_Mod_reckon_b341
      by_cases ci : (sk t).1 = 1 ∧ (sk (t + 1)).1 = 1
      · obtain ⟨y, rfl, y2⟩ := ha.is1 ci.1
        obtain ⟨z, rfl, z2⟩ := hv.is1 ci.2
        rw [if_pos ci, if_pos ci, if_neg (show ¬ (1 : Int32) = 0 by decide)]
        simp only [r_gd D, r_g37 D, r_g38 D, r_g39 D, r_g40 D, r_g41 D, r_g42 D, r_g44 D, r_g45 D, r_g46 D, r_g47 D, r_g48 D, r_g49 D, r_g31 D, r_g3 D, r_g1 D, r_sk0 D, r_sk1 D, r_sk2 D, r_s0 D, r_s1 D, r_s2 D, r_s3 D, r_s4 D, r_s5 D, r_s6 D, r_s7 D, r_s8 D, r_s9 D, r_s10 D, ns1, ns2, ns21, ns3, Option.bind_some, if_true, if_false, a_sk2 D h0, a_sk2 D ht, y2, z2]
        have z0 : z.toInt64 = 0 ↔ z = 0 := ⟨fun q => i64_inj (y := 0) q, fun q => by rw [q]; rfl⟩
        have done : ∀ (l : Int64) (x : Int32), l.toInt32 = x → RO1 (RKm n us f b pk g0 hk cu bk bs ob r om P fu u (nI (F + 1))) t sk R (nI (p + 1)) (bnd (x_Mod_sum_IIJJ_b77 (d + 1) 160 (nI t) l (n, MM f b sk pk g0 hk cu bk bs ob r R om (nI (t + 1)) P fu u (nI (F + 1)) (nI (p + 1)), us)) fun v53 s52 => some (v53, s52)) (S, 0, s_Cell_headOf 1, x.toInt64) := by
          intro l x hl
          unfold x_Mod_sum_IIJJ_b77
          rw [r_g37 D, Option.bind_some, r_sk2 D, Option.bind_some, s_one D h0, Option.bind_some, bnd_some, hl, y2]
          refine RO1.ok (fun j hj => upQ_lt hj) X KG.rfl' ?_
          rw [upQ_at]
          exact VR.int
        unfold x_Mod_sum_IIJJ
        rw [r_gd D]
        unfold x_Mod_sum_IIJJ_b12 x_Mod_sum_IIJJ_b21
        have i1 := Int32.toInt32_toInt64 y
        have i2 := Int32.toInt32_toInt64 z
        rw [i1, i2]
        rcases ho with e | e | e | e | e <;> subst e
        · rw [show rSg 32 = 43 by decide, if_neg (show ¬ (((32 : Int32) = 35 ∨ (32 : Int32) = 36) ∧ z.toInt64 = 0) from fun q => absurd q.1 (by decide)), if_neg (show ¬ (43 : Int32) = 47 by decide), if_neg (show ¬ (43 : Int32) = 37 by decide), if_pos rfl]
          exact done _ _ (by rw [Int64.toInt32_add, i1, i2]; rfl)
        · rw [show rSg 33 = 45 by decide, if_neg (show ¬ (((33 : Int32) = 35 ∨ (33 : Int32) = 36) ∧ z.toInt64 = 0) from fun q => absurd q.1 (by decide)), if_neg (show ¬ (45 : Int32) = 47 by decide), if_neg (show ¬ (45 : Int32) = 37 by decide), if_neg (show ¬ (45 : Int32) = 43 by decide), if_pos rfl]
          exact done _ _ (by rw [Int64.toInt32_sub, i1, i2]; rfl)
        · rw [show rSg 34 = 42 by decide, if_neg (show ¬ (((34 : Int32) = 35 ∨ (34 : Int32) = 36) ∧ z.toInt64 = 0) from fun q => absurd q.1 (by decide)), if_neg (show ¬ (42 : Int32) = 47 by decide), if_neg (show ¬ (42 : Int32) = 37 by decide), if_neg (show ¬ (42 : Int32) = 43 by decide), if_neg (show ¬ (42 : Int32) = 45 by decide), if_pos rfl]
          exact done _ _ (by rw [Int64.toInt32_mul, i1, i2]; rfl)
        · rw [show rSg 35 = 47 by decide, if_pos rfl]
          by_cases cz : z.toInt64 = 0
          · rw [if_pos (show ((35 : Int32) = 35 ∨ (35 : Int32) = 36) ∧ z.toInt64 = 0 from ⟨Or.inl rfl, cz⟩), if_pos (lc_eq.mpr cz), bnd_some]
            exact RO1.er (e := 5) (by decide)
          · rw [if_neg (show ¬ (((35 : Int32) = 35 ∨ (35 : Int32) = 36) ∧ z.toInt64 = 0) from fun q => cz q.2), if_neg (fun q => cz (lc_eq.mp q)), if_neg (show ¬ (47 : Int32) = 43 by decide), if_neg (show ¬ (47 : Int32) = 45 by decide), if_neg (show ¬ (47 : Int32) = 42 by decide), if_pos rfl, if_neg cz]
            refine done _ _ ?_
            rw [dv_64]
            unfold s_found
            rw [if_neg (by decide), if_neg (by decide), if_neg (by decide), if_pos rfl, if_neg (fun q => cz (z0.mpr q))]
        · rw [show rSg 36 = 37 by decide, if_neg (show ¬ (37 : Int32) = 47 by decide), if_pos rfl]
          by_cases cz : z.toInt64 = 0
          · rw [if_pos (show ((36 : Int32) = 35 ∨ (36 : Int32) = 36) ∧ z.toInt64 = 0 from ⟨Or.inr rfl, cz⟩), if_pos (lc_eq.mpr cz), bnd_some]
            exact RO1.er (e := 5) (by decide)
          · rw [if_neg (show ¬ (((36 : Int32) = 35 ∨ (36 : Int32) = 36) ∧ z.toInt64 = 0) from fun q => cz q.2), if_neg (fun q => cz (lc_eq.mp q)), if_neg (show ¬ (37 : Int32) = 43 by decide), if_neg (show ¬ (37 : Int32) = 45 by decide), if_neg (show ¬ (37 : Int32) = 42 by decide), if_neg (show ¬ (37 : Int32) = 47 by decide), if_neg cz]
            refine done _ _ ?_
            rw [Int64.toInt32_sub, Int64.toInt32_mul, dv_64, i1, i2]
            unfold s_found
            rw [if_neg (by decide), if_neg (by decide), if_neg (by decide), if_neg (by decide), if_neg (fun q => cz (z0.mpr q))]
      · rw [if_neg ci, if_neg ci, if_pos rfl]
        exact RO1.er (e := 2) (by decide)
    by_cases c43 : rSg op = 43
    · have e32 : op = 32 := by
        rcases ho with e | e | e | e | e <;> subst e
        · rfl
        all_goals exact absurd c43 (by decide)
      rw [if_pos c43, if_neg (fun q => c1 ⟨e32, q⟩), if_pos rfl]
      exact key
    · rw [if_neg c43]
      exact key
end
