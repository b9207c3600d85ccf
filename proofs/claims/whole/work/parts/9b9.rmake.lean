/-! ROWS and RECORDS of the reference -/
def itF (g : Nat → VQ) (o : Nat) (vs : Nat → VQ) : Nat → Nat → VQ
  | 0 => g
  | k + 1 => upQ (itF g o vs k) (20 * o + k) (vs k)
def rwR (R : RS) (o : Nat) (vs : Nat → VQ) (k z : Nat) : RS := (R.1, upI R.2.1 o (nI z), R.2.2.1, R.2.2.2.1, R.2.2.2.2.1, itF (rIt R) o vs k, R.2.2.2.2.2.2)
theorem upI_up {g : Nat → Int32} {o : Nat} {x y : Int32} : upI (upI g o x) o y = upI g o y := by
  funext j
  unfold upI
  by_cases c : j = o
  · rw [if_pos c, if_pos c]
  · rw [if_neg c, if_neg c, if_neg c]
theorem SR_rows {R : RS} {o M : Nat} {vs : Nat → V2} {qs : Nat → VQ} (ho : o < 100) (hk : R.1 o = 4) (hM : M ≤ 20) (hv : ∀ i, i < M → VR R.1 (vs i) (qs i)) : ∀ m i S, i + m = M → SR S (rwR R o qs i i) → (d_rwL (nI o) vs m i S).2 = 0 ∧ SR (d_rwL (nI o) vs m i S).1 (rwR R o qs M M)
  | 0, i, S, e, X => by
    obtain rfl : i = M := by omega
    exact ⟨rfl, X⟩
  | m + 1, i, S, e, X => by
    obtain ⟨m', a1, a2, a3, _⟩ := X.row ho (show (rwR R o qs i i).1 o = 4 from hk)
    have em : m' = i := nI_inj (by omega) (by omega) (a3.symm.trans (show (rwR R o qs i i).2.1 o = nI i from if_pos rfl))
    subst em
    obtain ⟨p1, p2⟩ := SR_push X ho (show (rwR R o qs m' m').1 o = 4 from hk) a2 (by omega) (hv m' (by omega))
    unfold d_rwL
    rw [p1, if_pos rfl]
    refine SR_rows ho hk hM hv m (m' + 1) _ (by omega) ?_
    have e2 : apR (rwR R o qs m' m') o m' (qs m') = rwR R o qs (m' + 1) (m' + 1) := by
      unfold apR rwR
      dsimp only
      rw [upI_up]
      rfl
    rw [← e2]
    exact p2
theorem rwL_long {o : Nat} {vs : Nat → V2} (ho : o < 100) : ∀ m i S, i ≤ 20 → 20 < i + m → S.2.2.1 o = nI i → (d_rwL (nI o) vs m i S).2 = 4
  | 0, i, S, h1, h2, _ => by omega
  | m + 1, i, S, h1, h2, hc => by
    unfold d_rwL
    by_cases c : i = 20
    · subst c
      rw [app_full ho hc, if_neg Bool.false_ne_true]
    · rw [app_o ho hc (by omega), if_pos rfl]
      exact rwL_long ho m (i + 1) _ (by omega) (by omega) (if_pos rfl)
section
variable {n us : Nat} {f : Nat → am_C} {b : Nat → Value} {sk pk g0 hk : Nat → VQ} {cu : Nat → Value} {bk bs ob : Nat → Int32} {r : Nat} {R : RS} {om T P fu u fr pc : Int32} {t pl p F c Ns Nv pa lo ba vb d m : Nat} {sp : Nat → Int32} {cq : Nat → VQ} {S : SC} {v a i : V2} {vs : Nat → V2}
theorem q_row (D : RD n r) (C : CD f c Ns Nv sp cq pa lo ba vb) (hF : F < 9) (hc : cu F = .ref c) (hp : p < Ns) (hx : sp p = nI m) (hm : m < 2 ^ 20) (X : SR S R) (ht : t + m < 8000) (h1 : t < 8000) (hv : ∀ i, i < m → VR R.1 (vs i) (sk (t + i))) : RO1 (RKm n us f b pk g0 hk cu bk bs ob r om P fu u (nI (F + 1))) t sk R (nI (p + 1)) (x_Mod_things (d + 2) 160 21 (n, MM f b sk pk g0 hk cu bk bs ob r R om (nI (t + m)) P fu u (nI (F + 1)) (nI (p)), us)) (d_row S m vs) := by
  unfold x_Mod_things d_row
  dsimp only
  rw [r_gd D, if_neg (show ¬ (21 : Int32) = 17 by decide), if_neg (show ¬ (21 : Int32) = 18 by decide), if_neg (show ¬ (21 : Int32) = 19 by decide), if_neg (show ¬ (21 : Int32) = 20 by decide), e_next D C hF hc hp, bnd_some, hx]
  rcases SR_make X with ⟨h1, h2⟩ | ⟨o, o1, o2, o3, o4, o5, o6⟩
  · rw [e_makeN D h2, bnd_some, if_neg (show ¬ (0 : Int32) ≤ -1 by decide), h1]
    exact RO1.er (e := 8) (by decide)
  · obtain ⟨Xm, Km, cm⟩ := o6 4 (Or.inr rfl)
    rw [e_makeR D o1 o5 o3 o4, bnd_some, if_pos (nI_nlt0 (show o < 2 ^ 31 by omega)), o2]
    dsimp only
    by_cases c20 : m ≤ 20
    · rw [if_pos (show nI m ≤ 20 by
        have e : (20 : Int32) = nI 20 := rfl
        rw [e, Int32.le_iff_toInt_le, nI_toInt (by omega), nI_toInt (by omega)]
        omega), r_g41 D, Option.bind_some, nsm, r_p41 D, Option.bind_some]
      have hk4 : (mkR R o 4).1 o = 4 := if_pos rfl
      have e0 : rwR (mkR R o 4) o (fun i => sk (t + i)) 0 0 = mkR R o 4 := by
        unfold rwR mkR
        dsimp only
        rw [upI_up]
        rfl
      obtain ⟨r1, r2⟩ := SR_rows (R := mkR R o 4) (qs := fun i => sk (t + i)) o1 hk4 c20 (fun i hi => (hv i hi).mono Km) m 0 (c_make S).2 (by omega) (by rw [e0]; exact Xm)
      rw [r1]
      have lp := loop_ind (b := fun (again463 : Int32 × HS → Option (Int32 × HS)) (z463 : Int32 × HS) => (if nI m ≤ z463.1 then ((gR z463.2 160 14 31).bind fun v98 => ((gR z463.2 v98 13 1).bind fun v99 => ((sV z463.2 .int v99 (nI o) (.int (nI m))).bind fun s100 => (bnd (x_Mod_push (d + 1) 160 4 (nI o : Int32).toInt64 s100) fun v102 s101 => (some ((-1), s101)))))) else ((gR z463.2 160 14 31).bind fun v103 => ((gR z463.2 v103 13 5).bind fun v104 => ((gR z463.2 160 14 37).bind fun v105 => ((gI z463.2 160 14 41).bind fun v106 => (bnd (x_Vals_copy (d + 1) v104 ((20 * nI o) + z463.1) v105 (v106 + z463.1) z463.2) fun v108 s107 => (again463 ((z463.1 + 1), s107))))))))) (fun z q => ∀ k i, i + k = m → z = (nI i, (n, MM f b sk pk g0 hk cu bk bs ob r (rwR (mkR R o 4) o (fun i => sk (t + i)) i 0) om (nI (t)) P fu u (nI (F + 1)) (nI (p + 1)), us)) → q = some (-1, (n, MM f b (upQ sk t (4, 0, (nI o).toInt64, 0)) pk g0 hk cu bk bs ob r (rwR (mkR R o 4) o (fun i => sk (t + i)) m m) om (nI (t + 1)) P fu u (nI (F + 1)) (nI (p + 1)), us))) (fun z => m - z.1.toNatClampNeg) (fun again z ih k i e ez => ?_) FU (0, (n, MM f b sk pk g0 hk cu bk bs ob r (mkR R o 4) om (nI (t)) P fu u (nI (F + 1)) (nI (p + 1)), us)) (by rw [FU_eq]; omega) m 0 (by omega) (by rw [e0]; rfl)
      · rw [lp]
        refine RO1.ok (fun j hj => upQ_lt hj) r2 ⟨Km, rfl, rfl, rfl⟩ ?_
        rw [upQ_at]
        exact VR.obj o1 (Or.inr rfl) hk4
      · subst ez
        dsimp only
        cases k with
        | zero =>
          obtain rfl : i = m := by omega
          rw [if_pos (Int32.le_refl _)]
          simp only [r_gd D, r_g37 D, r_g38 D, r_g39 D, r_g40 D, r_g41 D, r_g42 D, r_g44 D, r_g45 D, r_g46 D, r_g47 D, r_g48 D, r_g49 D, r_g31 D, r_g3 D, r_g1 D, r_sk0 D, r_sk1 D, r_sk2 D, r_s0 D, r_s1 D, r_s2 D, r_s3 D, r_s4 D, r_s5 D, r_s6 D, r_s7 D, r_s8 D, r_s9 D, r_s10 D, ns1, ns2, ns21, ns3, Option.bind_some, if_true, if_false, s_sz D o1, e_push D h1, bnd_some]
          unfold rwR
          dsimp only
          rw [upI_up]
        | succ k =>
          have b0 := cl0 (show i < 2 ^ 31 by omega)
          rw [if_neg (nI_ge (by omega) (by omega))]
          simp only [r_gd D, r_g37 D, r_g38 D, r_g39 D, r_g40 D, r_g41 D, r_g42 D, r_g44 D, r_g45 D, r_g46 D, r_g47 D, r_g48 D, r_g49 D, r_g31 D, r_g3 D, r_g1 D, r_sk0 D, r_sk1 D, r_sk2 D, r_s0 D, r_s1 D, r_s2 D, r_s3 D, r_s4 D, r_s5 D, r_s6 D, r_s7 D, r_s8 D, r_s9 D, r_s10 D, ns1, ns2, ns21, ns3, Option.bind_some, if_true, if_false, n20, nI_ad2]
          rw [v_cpy_it D (show 20 * o + i < 2000 by omega) (VA_sk D) (show t + i < 8000 by omega), bnd_some, na1]
          exact ih _ (by simp only [nI_clamp (show i + 1 < 2 ^ 31 by omega), b0.2]; omega) k (i + 1) (by omega) rfl
    · rw [if_neg (fun w => by
        have e : (20 : Int32) = nI 20 := rfl
        rw [e, Int32.le_iff_toInt_le, nI_toInt (by omega), nI_toInt (by omega)] at w
        omega), rwL_long o1 m 0 _ (by omega) (by omega) cm]
      exact RO1.er (e := 4) (by decide)
theorem q_rec (D : RD n r) (C : CD f c Ns Nv sp cq pa lo ba vb) (hF : F < 9) (hc : cu F = .ref c) {ws : Nat → List Nat} (hp : p + m < Ns) (hx : sp p = nI m) (hm : m < 2 ^ 20) (hw : ∀ k, k < m → okN (ws k) ∧ ∃ x, sp (p + 1 + k) = nI x ∧ vb ≤ x ∧ x - vb < Nv ∧ (cq (x - vb)).2.2.1 = nV (ws k)) (X : SR S R) (ht : t + m < 8000) (h1 : t < 8000) (hv : ∀ i, i < m → VR R.1 (vs i) (sk (t + i))) : RO1 (RKm n us f b pk g0 hk cu bk bs ob r om P fu u (nI (F + 1))) t sk R (nI (p + 1 + m)) (x_Mod_things (d + 3) 160 20 (n, MM f b sk pk g0 hk cu bk bs ob r R om (nI (t + m)) P fu u (nI (F + 1)) (nI (p)), us)) (d_rec S m (fun k => nF (ws k)) vs) := by
  unfold x_Mod_things d_rec
  dsimp only
  rw [r_gd D, if_neg (show ¬ (20 : Int32) = 17 by decide), if_neg (show ¬ (20 : Int32) = 18 by decide), if_neg (show ¬ (20 : Int32) = 19 by decide), if_pos rfl, e_next D C hF hc (by omega), bnd_some, hx]
  rcases SR_make X with ⟨h1, h2⟩ | ⟨o, o1, o2, o3, o4, o5, o6⟩
  · rw [e_makeN D h2, bnd_some, if_neg (show ¬ (0 : Int32) ≤ -1 by decide), h1]
    exact RO1.er (e := 8) (by decide)
  · obtain ⟨Xm, Km, cm⟩ := o6 3 (Or.inl rfl)
    rw [e_makeR D o1 o5 o3 o4, bnd_some, if_pos (nI_nlt0 (show o < 2 ^ 31 by omega)), o2, r_g41 D, Option.bind_some, nsm, r_p41 D, Option.bind_some]
    dsimp only
    have hk3 : (mkR R o 3).1 o = 3 := if_pos rfl
    have K0 : KG R (mkR R o 3) := ⟨Km, rfl, rfl, rfl⟩
    refine loop_ind (fun z q => ∀ k i (S' : SC) (R' : RS), i + k = m → SR S' R' → KG R R' → R'.1 o = 3 → z = (nI i, (n, MM f b sk pk g0 hk cu bk bs ob r R' om (nI (t)) P fu u (nI (F + 1)) (nI (p + 1 + i)), us)) → RO1 (RKm n us f b pk g0 hk cu bk bs ob r om P fu u (nI (F + 1))) t sk R (nI (p + 1 + m)) q ((d_rcL (nI o) (fun k => nF (ws k)) vs k i S').1, (d_rcL (nI o) (fun k => nF (ws k)) vs k i S').2, s_Cell_headOf 3, (nI o).toInt64)) (fun z => m - z.1.toNatClampNeg) (fun again z ih k i S' R' e X' K' k3 ez => ?_) FU _ (by rw [FU_eq]; omega) m 0 _ _ (by omega) Xm K0 hk3 rfl
    subst ez
    dsimp only
    cases k with
    | zero =>
      obtain rfl : i = m := by omega
      rw [if_pos (Int32.le_refl _), e_push D h1, bnd_some]
      refine RO1.ok (fun j hj => upQ_lt hj) X' K' ?_
      rw [upQ_at]
      exact VR.obj o1 (Or.inl rfl) k3
    | succ k =>
      have b0 := cl0 (show i < 2 ^ 31 by omega)
      obtain ⟨w1, x, x1, x2, x3, x4⟩ := hw i (by omega)
      obtain ⟨R2, y1, y2, y3⟩ := e_setF (d := d) (us := us) (f := f) (b := b) (pk := pk) (g0 := g0) (hk := hk) (cu := cu) (bk := bk) (bs := bs) (ob := ob) (om := om) (T := nI t) (P := P) (fu := fu) (u := u) (fr := nI (F + 1)) (pc := nI (p + 1 + i + 1)) D X' o1 k3 w1 (show t + i < 8000 by omega) ((hv i (by omega)).mono K'.1)
      rw [if_neg (nI_ge (by omega) (by omega)), e_next D C hF hc (show p + 1 + i < Ns by omega), bnd_some, x1, e_text D C hF hc x2 x3, bnd_some, x4, r_g37 D, Option.bind_some, r_g41 D, Option.bind_some, nI_ad2, y1, bnd_some]
      unfold d_rcL
      by_cases cc : (c_setF S' (nI o) (nF (ws i)) (vs i).1 (vs i).2).1 = true
      · rw [if_pos cc, if_pos cc, if_pos (show (-1 : Int32) ≤ 0 by decide), na1]
        exact ih _ (by simp only [nI_clamp (show i + 1 < 2 ^ 31 by omega), b0.2]; omega) k (i + 1) _ R2 (by omega) y2 (K'.trans y3) ((y3.1 o o1 (by rw [k3]; decide)).trans k3) rfl
      · rw [if_neg cc, if_neg cc, if_neg (show ¬ (4 : Int32) ≤ 0 by decide)]
        exact RO1.er (e := 4) (by decide)
end
