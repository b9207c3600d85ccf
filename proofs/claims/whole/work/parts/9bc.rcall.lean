/-! entering and leaving -/
/-- the place behind so many nils and copies -/
def plN (pk : Nat → VQ) (a : Nat) : Nat → Nat → VQ
  | 0 => pk
  | k + 1 => upQ (plN pk a k) (a + k) (0, 0, 0, 0)
def plC (pk : Nat → VQ) (a : Nat) (vs : Nat → VQ) : Nat → Nat → VQ
  | 0 => pk
  | k + 1 => upQ (plC pk a vs k) (a + k) (vs k)
theorem plN_at {pk : Nat → VQ} {a : Nat} : ∀ k j, plN pk a k j = if a ≤ j ∧ j < a + k then (0, 0, 0, 0) else pk j
  | 0, j => by rw [if_neg (by omega)]; rfl
  | k + 1, j => by
    unfold plN upQ
    by_cases c : j = a + k
    · rw [if_pos c, if_pos (by omega)]
    · rw [if_neg c, plN_at k j]
      by_cases c2 : a ≤ j ∧ j < a + k
      · rw [if_pos c2, if_pos (by omega)]
      · rw [if_neg c2, if_neg (by omega)]
theorem plC_at {pk : Nat → VQ} {a : Nat} {vs : Nat → VQ} : ∀ k j, plC pk a vs k j = if a ≤ j ∧ j < a + k then vs (j - a) else pk j
  | 0, j => by rw [if_neg (by omega)]; rfl
  | k + 1, j => by
    unfold plC upQ
    by_cases c : j = a + k
    · rw [if_pos c, if_pos (by omega), c, Nat.add_sub_cancel_left]
    · rw [if_neg c, plC_at k j]
      by_cases c2 : a ≤ j ∧ j < a + k
      · rw [if_pos c2, if_pos (by omega)]
      · rw [if_neg c2, if_neg (by omega)]
section
variable {n us : Nat} {f : Nat → am_C} {b : Nat → Value} {sk pk g0 hk : Nat → VQ} {cu : Nat → Value} {bk bs ob : Nat → Int32} {r : Nat} {R : RS} {om T P fu u fr pc : Int32} {t pl p F c Ns Nv pa lo ba vb d m : Nat} {sp : Nat → Int32} {cq : Nat → VQ}
theorem e_enter (D : RD n r) (C : CD f c Ns Nv sp cq pa lo ba vb) (hF : F < 9) (ht : t + m < 8000) (hl : pl + lo < 4000) (hm : m ≤ lo) : x_Mod_enter (d + 2) 160 c (nI m) (n, MM f b sk pk g0 hk cu bk bs ob r R om (nI (t + m)) (nI (pl)) fu u (nI (F)) (nI (p)), us) = some ((), (n, MM f b sk (plC (plN pk pl lo) pl (fun k => sk (t + k)) m) g0 hk (updV cu F (.ref c)) (upI bk F (nI p)) (upI bs F (nI pl)) ob r R om (nI (t)) (nI (pl + lo)) fu u (nI (F + 1)) (nI (0)), us)) := by
  unfold x_Mod_enter
  dsimp only
  rw [r_gd D, r_g47 D, Option.bind_some, r_g45 D, Option.bind_some, s_cu D hF (k_io D C), Option.bind_some, r_g48 D, Option.bind_some, r_g45 D, Option.bind_some, r_g46 D, Option.bind_some, s_bk D hF, Option.bind_some, r_g49 D, Option.bind_some, r_g45 D, Option.bind_some, r_g42 D, Option.bind_some, s_bs D hF, Option.bind_some]
  refine loop_ind (fun z q => ∀ k i, i + k = lo → z = (nI i, (n, MM f b sk (plN pk pl i) g0 hk (updV cu F (.ref c)) (upI bk F (nI p)) (upI bs F (nI pl)) ob r R om (nI (t + m)) (nI (pl)) fu u (nI (F)) (nI (p)), us)) → q = some ((), (n, MM f b sk (plC (plN pk pl lo) pl (fun k => sk (t + k)) m) g0 hk (updV cu F (.ref c)) (upI bk F (nI p)) (upI bs F (nI pl)) ob r R om (nI (t)) (nI (pl + lo)) fu u (nI (F + 1)) (nI (0)), us))) (fun z => lo - z.1.toNatClampNeg) (fun again z ih k i e ez => ?_) FU _ (by rw [FU_eq]; omega) lo 0 (by omega) rfl
  subst ez
  dsimp only
  rw [k_g6 D C, Option.bind_some]
  cases k with
  | zero =>
    obtain rfl : i = lo := by omega
    rw [if_pos (Int32.le_refl _)]
    refine loop_ind (fun z q => ∀ k j, j + k = m → z = (nI j, (n, MM f b sk (plC (plN pk pl i) pl (fun k => sk (t + k)) j) g0 hk (updV cu F (.ref c)) (upI bk F (nI p)) (upI bs F (nI pl)) ob r R om (nI (t + m)) (nI (pl)) fu u (nI (F)) (nI (p)), us)) → q = some ((), (n, MM f b sk (plC (plN pk pl i) pl (fun k => sk (t + k)) m) g0 hk (updV cu F (.ref c)) (upI bk F (nI p)) (upI bs F (nI pl)) ob r R om (nI (t)) (nI (pl + i)) fu u (nI (F + 1)) (nI (0)), us))) (fun z => m - z.1.toNatClampNeg) (fun again z ih k j e ez => ?_) FU _ (by rw [FU_eq]; omega) m 0 (by omega) rfl
    subst ez
    dsimp only
    cases k with
    | zero =>
      obtain rfl : j = m := by omega
      rw [if_pos (Int32.le_refl _), r_g41 D, Option.bind_some, nsm, r_p41 D, Option.bind_some, r_g42 D, Option.bind_some, k_g6 D C, Option.bind_some, nI_ad2, r_p42 D, Option.bind_some, r_g45 D, Option.bind_some, na1, r_p45 D, Option.bind_some, r_p46 D, Option.bind_some]
      rfl
    | succ k =>
      have b0 := cl0 (show j < 2 ^ 31 by omega)
      rw [if_neg (nI_ge (by omega) (by omega)), r_g38 D, Option.bind_some, r_g42 D, Option.bind_some, r_g37 D, Option.bind_some, r_g41 D, Option.bind_some, nsm, nI_ad2, nI_ad2, v_cpy_pk D (show pl + j < 4000 by omega) (VA_sk D) (show t + j < 8000 by omega), bnd_some, na1]
      exact ih _ (by simp only [nI_clamp (show j + 1 < 2 ^ 31 by omega), b0.2]; omega) k (j + 1) (by omega) rfl
  | succ k =>
    have b0 := cl0 (show i < 2 ^ 31 by omega)
    rw [if_neg (nI_ge (by omega) (by omega)), r_g38 D, Option.bind_some, r_g42 D, Option.bind_some, nI_ad2, v_set_pk D (show pl + i < 4000 by omega), bnd_some, na1]
    exact ih _ (by simp only [nI_clamp (show i + 1 < 2 ^ 31 by omega), b0.2]; omega) k (i + 1) (by omega) rfl
theorem e_leave0 (D : RD n r) (ht : t < 8000) : x_Mod_leave (d + 2) 160 (n, MM f b sk pk g0 hk cu bk bs ob r R om (nI (t + 1)) (nI (pl)) fu u (nI (1)) (nI (p)), us) = some (0, (n, MM f b sk pk (upQ g0 0 (sk t)) (upQ hk 0 (sk t)) cu bk bs ob r R om (nI (t)) (nI (pl)) fu u (nI (0)) (nI (p)), us)) := by
  unfold x_Mod_leave
  dsimp only
  rw [r_gd D, r_g41 D, Option.bind_some, ns1, r_p41 D, Option.bind_some, r_g40 D, Option.bind_some, r_g37 D, Option.bind_some, r_g41 D, Option.bind_some, show (0 : Int32) = nI 0 from rfl, v_cpy_hk D (show 0 < 4 by decide) (VA_sk D) ht, bnd_some, r_g45 D, Option.bind_some, show nI 1 - 1 = nI 0 from rfl, r_p45 D, Option.bind_some, r_g45 D, Option.bind_some, if_pos rfl, r_g39 D, Option.bind_some, r_g40 D, Option.bind_some, v_cpy_g0 D (show 0 < 1 by decide) (VA_hk D) (show 0 < 4 by decide), bnd_some, upQ_at]
theorem e_leave {pb q : Nat} (D : RD n r) (ht : t < 8000) (hF : F + 1 < 9) (hb : bs (F + 1) = nI pb) (hq : bk (F + 1) = nI q) : x_Mod_leave (d + 2) 160 (n, MM f b sk pk g0 hk cu bk bs ob r R om (nI (t + 1)) (nI (pl)) fu u (nI (F + 2)) (nI (p)), us) = some (-1, (n, MM f b (upQ sk t (sk t)) pk g0 (upQ hk 0 (sk t)) cu bk bs ob r R om (nI (t + 1)) (nI (pb)) fu u (nI (F + 1)) (nI (q)), us)) := by
  unfold x_Mod_leave
  dsimp only
  rw [r_gd D, r_g41 D, Option.bind_some, ns1, r_p41 D, Option.bind_some, r_g40 D, Option.bind_some, r_g37 D, Option.bind_some, r_g41 D, Option.bind_some, show (0 : Int32) = nI 0 from rfl, v_cpy_hk D (show 0 < 4 by decide) (VA_sk D) ht, bnd_some, r_g45 D, Option.bind_some, ns21, r_p45 D, Option.bind_some, r_g45 D, Option.bind_some, if_neg (fun w => by have := nI_inj (b := 0) (by omega) (by decide) w; omega)]
  rw [r_g49 D, Option.bind_some, Option.bind_some, a_bs D hF, Option.bind_some, hb, r_p42 D, Option.bind_some, r_g48 D, Option.bind_some, r_g45 D, Option.bind_some, a_bk D hF, Option.bind_some, hq, r_p46 D, Option.bind_some, r_g37 D, Option.bind_some, r_g41 D, Option.bind_some, r_g40 D, Option.bind_some, v_cpy_sk D ht (VA_hk D) (show 0 < 4 by decide), bnd_some, r_g41 D, Option.bind_some, na1, r_p41 D, Option.bind_some, upQ_at]
theorem e_call1 {mx : Nat} (D : RD n r) (hm : mx < 2 ^ 31) {y : Int64} {x : Int32} : x_Mod_call (d + 1) 160 y x (n, MM f b sk pk g0 hk cu bk bs ob r R om T P (nI mx) (nI mx) fr pc, us) = some (1, (n, MM f b sk pk g0 hk cu bk bs ob r R om T P (nI mx) (nI mx) fr pc, us)) := by
  unfold x_Mod_call
  dsimp only
  rw [r_gd D, e_spend D hm (Nat.le_refl _), if_neg (Nat.lt_irrefl _), bnd_some, if_pos rfl]
theorem e_call6 {mx k fn : Nat} (D : RD n r) (hm : mx < 2 ^ 31) (hq : k < mx) (hn : fn ≤ 10) (e0 : R.2.2.2.2.2.2.2.2.2.2.1 = nI fn) {y : Int64} (hy : s_find R.2.2.2.2.1 fn y < 0) {x : Int32} : x_Mod_call (d + 1) 160 y x (n, MM f b sk pk g0 hk cu bk bs ob r R om T P (nI mx) (nI k) fr pc, us) = some (6, (n, MM f b sk pk g0 hk cu bk bs ob r R om T P (nI mx) (nI (k + 1)) fr pc, us)) := by
  unfold x_Mod_call
  dsimp only
  rw [r_gd D, e_spend D hm (by omega), if_pos hq, bnd_some, if_neg (by decide), r_g31 D, Option.bind_some, e_fN D hn e0, bnd_some, if_pos hy]
theorem e_call6' {mx k fn j : Nat} (D : RD n r) (hm : mx < 2 ^ 31) (hq : k < mx) (hn : fn ≤ 10) (e0 : R.2.2.2.2.2.2.2.2.2.2.1 = nI fn) {y : Int64} (hy : s_find R.2.2.2.2.1 fn y = nI j) (hj : j < fn) (hc : R.2.2.2.2.2.2.2.1 j = .ref c) (C : CD f c Ns Nv sp cq pa lo ba vb) (hpa : pa < 2 ^ 31) (hm2 : m < 2 ^ 31) (hne : ¬ pa = m) : x_Mod_call (d + 1) 160 y (nI m) (n, MM f b sk pk g0 hk cu bk bs ob r R om T P (nI mx) (nI k) fr pc, us) = some (6, (n, MM f b sk pk g0 hk cu bk bs ob r R om T P (nI mx) (nI (k + 1)) fr pc, us)) := by
  unfold x_Mod_call
  dsimp only
  rw [r_gd D, e_spend D hm (by omega), if_pos hq, bnd_some, if_neg (by decide), r_g31 D, Option.bind_some, e_fN D hn e0, bnd_some, hy, if_neg (nI_pos (show j < 2 ^ 31 by omega)), r_g31 D, Option.bind_some, r_s7 D, Option.bind_some, a_cd D (show j < 10 by omega) hc, Option.bind_some, k_g5 D C, Option.bind_some, if_neg (fun w => hne (nI_inj hpa hm2 w))]
theorem e_call7 {mx k fn j : Nat} (D : RD n r) (hm : mx < 2 ^ 31) (hq : k < mx) (hn : fn ≤ 10) (e0 : R.2.2.2.2.2.2.2.2.2.2.1 = nI fn) {y : Int64} (hy : s_find R.2.2.2.2.1 fn y = nI j) (hj : j < fn) (hc : R.2.2.2.2.2.2.2.1 j = .ref c) (C : CD f c Ns Nv sp cq pa lo ba vb) (he : pa = m) : x_Mod_call (d + 1) 160 y (nI m) (n, MM f b sk pk g0 hk cu bk bs ob r R om T P (nI mx) (nI k) (nI 9) pc, us) = some (7, (n, MM f b sk pk g0 hk cu bk bs ob r R om T P (nI mx) (nI (k + 1)) (nI 9) pc, us)) := by
  subst he
  unfold x_Mod_call
  dsimp only
  rw [r_gd D, e_spend D hm (by omega), if_pos hq, bnd_some, if_neg (by decide), r_g31 D, Option.bind_some, e_fN D hn e0, bnd_some, hy, if_neg (nI_pos (show j < 2 ^ 31 by omega)), r_g31 D, Option.bind_some, r_s7 D, Option.bind_some, a_cd D (show j < 10 by omega) hc, Option.bind_some, k_g5 D C, Option.bind_some, if_pos rfl, r_g45 D, Option.bind_some, if_neg (by decide)]
theorem e_callR {mx k fn j : Nat} (D : RD n r) (hm : mx < 2 ^ 31) (hq : k < mx) (hn : fn ≤ 10) (e0 : R.2.2.2.2.2.2.2.2.2.2.1 = nI fn) {y : Int64} (hy : s_find R.2.2.2.2.1 fn y = nI j) (hj : j < fn) (hc : R.2.2.2.2.2.2.2.1 j = .ref c) (C : CD f c Ns Nv sp cq pa lo ba vb) (he : pa = m) (hF : F + 1 < 9) (ht : t + m < 8000) (hl : pl + lo < 4000) (hlo : m ≤ lo) : x_Mod_call (d + 3) 160 y (nI m) (n, MM f b sk pk g0 hk cu bk bs ob r R om (nI (t + m)) (nI (pl)) (nI mx) (nI k) (nI (F + 1)) (nI (p)), us) = some (-1, (n, MM f b sk (plC (plN pk pl lo) pl (fun k => sk (t + k)) m) g0 hk (updV cu (F + 1) (.ref c)) (upI bk (F + 1) (nI p)) (upI bs (F + 1) (nI pl)) ob r R om (nI (t)) (nI (pl + lo)) (nI mx) (nI (k + 1)) (nI (F + 2)) (nI (0)), us)) := by
  subst he
  unfold x_Mod_call
  dsimp only
  rw [r_gd D, e_spend D hm (by omega), if_pos hq, bnd_some, if_neg (by decide), r_g31 D, Option.bind_some, e_fN D hn e0, bnd_some, hy, if_neg (nI_pos (show j < 2 ^ 31 by omega)), r_g31 D, Option.bind_some, r_s7 D, Option.bind_some, a_cd D (show j < 10 by omega) hc, Option.bind_some, k_g5 D C, Option.bind_some, if_pos rfl, r_g45 D, Option.bind_some, if_pos (show nI (F + 1) ≤ 8 by
    have e : (8 : Int32) = nI 8 := rfl
    rw [e, Int32.le_iff_toInt_le, nI_toInt (by omega), nI_toInt (by omega)]
    omega)]
  simp only [r_gd D, r_g37 D, r_g38 D, r_g39 D, r_g40 D, r_g41 D, r_g42 D, r_g44 D, r_g45 D, r_g46 D, r_g47 D, r_g48 D, r_g49 D, r_g31 D, r_g3 D, r_g1 D, r_sk0 D, r_sk1 D, r_sk2 D, r_s0 D, r_s1 D, r_s2 D, r_s3 D, r_s4 D, r_s5 D, r_s6 D, r_s7 D, r_s8 D, r_s9 D, r_s10 D, ns1, ns2, ns21, ns3, Option.bind_some, if_true, if_false, a_cd D (show j < 10 by omega) hc]
  rw [e_enter D C hF ht hl hlo, bnd_some]
end
