/-! the reference's machine, its smallest methods -/
theorem ns1 {a : Nat} : nI (a + 1) - 1 = nI a := nI_sub (a := a + 1) (b := 1) (by omega)
theorem ns2 {a : Nat} : nI (a + 2) - 2 = nI a := nI_sub (a := a + 2) (b := 2) (by omega)
theorem ns21 {a : Nat} : nI (a + 2) - 1 = nI (a + 1) := nI_sub (a := a + 2) (b := 1) (by omega)
theorem ns3 {a : Nat} : nI (a + 3) - 3 = nI a := nI_sub (a := a + 3) (b := 3) (by omega)
theorem nsm {a m : Nat} : nI (a + m) - nI m = nI a := by
  rw [nI_sub (by omega), Nat.add_sub_cancel]
theorem na1 {a : Nat} : nI a + 1 = nI (a + 1) := (Int32.ofNat_add _ _).symm
theorem na2 {a : Nat} : nI a + 2 = nI (a + 2) := (Int32.ofNat_add _ _).symm
theorem n20 {a : Nat} : 20 * nI a = nI (20 * a) := nI_mul 20 a
theorem n8 {a : Nat} : 8 * nI a = nI (8 * a) := nI_mul 8 a
/-- a Code in the heap: its steps, its values, how many NAMES and LOCALS, and where it was cut -/
def CD (f : Nat → am_C) (c Ns Nv : Nat) (sp : Nat → Int32) (q : Nat → VQ) (pa lo ba vb : Nat) : Prop := ∃ m v tk ud : Int32, f c = .inr (12, [.ref (c + 1), .ref (c + 2), .int m, .int v, .int tk, .int (nI pa), .int (nI lo), .int (nI ba), .int (nI vb), .int ud]) ∧ f (c + 1) = aInt Ns sp ∧ vR f (c + 2) Nv (fun j => (q j).1) (fun j => (q j).2.1) (fun j => (q j).2.2.1) (fun j => (q j).2.2.2) ∧ Ns < 2 ^ 31 ∧ Nv < 2 ^ 31 ∧ (c = 163 ∨ (401 ≤ c ∧ c + 6 < 1311))
section
variable {n us : Nat} {f : Nat → am_C} {b : Nat → Value} {sk pk g0 hk : Nat → VQ} {cu : Nat → Value} {bk bs ob : Nat → Int32} {r : Nat} {R : RS} {om fu u : Int32} {t pl p F c Ns Nv pa lo ba vb d : Nat} {sp : Nat → Int32} {q : Nat → VQ} {T P fr pc : Int32}
theorem k_cd (D : RD n r) (C : CD f c Ns Nv sp q pa lo ba vb) : ∃ m v tk ud : Int32, MM f b sk pk g0 hk cu bk bs ob r R om T P fu u fr pc c = .inr (12, [.ref (c + 1), .ref (c + 2), .int m, .int v, .int tk, .int (nI pa), .int (nI lo), .int (nI ba), .int (nI vb), .int ud]) ∧ MM f b sk pk g0 hk cu bk bs ob r R om T P fu u fr pc (c + 1) = aInt Ns sp ∧ 128 ≤ c ∧ c + 6 < n := by
  obtain ⟨m, v, tk, ud, h1, h2, h3, h4, h5, h6⟩ := C
  have hn := D.1
  exact ⟨m, v, tk, ud, (M_off D (by omega)).trans h1, (M_off D (by omega)).trans h2, by omega, by omega⟩
theorem k_g0 (D : RD n r) (C : CD f c Ns Nv sp q pa lo ba vb) : gR (n, MM f b sk pk g0 hk cu bk bs ob r R om T P fu u fr pc, us) c 12 0 = some (c + 1) := by
  obtain ⟨m, v, tk, ud, h1, h2, h3, h4⟩ := k_cd (sk := sk) (pk := pk) (b := b) (g0 := g0) (hk := hk) (cu := cu) (bk := bk) (bs := bs) (ob := ob) (R := R) (om := om) (T := T) (P := P) (fu := fu) (u := u) (fr := fr) (pc := pc) D C
  exact gR_of (s := (n, MM f b sk pk g0 hk cu bk bs ob r R om T P fu u fr pc, us)) h1 h3 (show c < n by omega) rfl
theorem k_g1 (D : RD n r) (C : CD f c Ns Nv sp q pa lo ba vb) : gR (n, MM f b sk pk g0 hk cu bk bs ob r R om T P fu u fr pc, us) c 12 1 = some (c + 2) := by
  obtain ⟨m, v, tk, ud, h1, h2, h3, h4⟩ := k_cd (sk := sk) (pk := pk) (b := b) (g0 := g0) (hk := hk) (cu := cu) (bk := bk) (bs := bs) (ob := ob) (R := R) (om := om) (T := T) (P := P) (fu := fu) (u := u) (fr := fr) (pc := pc) D C
  exact gR_of (s := (n, MM f b sk pk g0 hk cu bk bs ob r R om T P fu u fr pc, us)) h1 h3 (show c < n by omega) rfl
theorem k_g5 (D : RD n r) (C : CD f c Ns Nv sp q pa lo ba vb) : gI (n, MM f b sk pk g0 hk cu bk bs ob r R om T P fu u fr pc, us) c 12 5 = some (nI pa) := by
  obtain ⟨m, v, tk, ud, h1, h2, h3, h4⟩ := k_cd (sk := sk) (pk := pk) (b := b) (g0 := g0) (hk := hk) (cu := cu) (bk := bk) (bs := bs) (ob := ob) (R := R) (om := om) (T := T) (P := P) (fu := fu) (u := u) (fr := fr) (pc := pc) D C
  exact gI_of (s := (n, MM f b sk pk g0 hk cu bk bs ob r R om T P fu u fr pc, us)) h1 h3 (show c < n by omega) rfl
theorem k_g6 (D : RD n r) (C : CD f c Ns Nv sp q pa lo ba vb) : gI (n, MM f b sk pk g0 hk cu bk bs ob r R om T P fu u fr pc, us) c 12 6 = some (nI lo) := by
  obtain ⟨m, v, tk, ud, h1, h2, h3, h4⟩ := k_cd (sk := sk) (pk := pk) (b := b) (g0 := g0) (hk := hk) (cu := cu) (bk := bk) (bs := bs) (ob := ob) (R := R) (om := om) (T := T) (P := P) (fu := fu) (u := u) (fr := fr) (pc := pc) D C
  exact gI_of (s := (n, MM f b sk pk g0 hk cu bk bs ob r R om T P fu u fr pc, us)) h1 h3 (show c < n by omega) rfl
theorem k_g7 (D : RD n r) (C : CD f c Ns Nv sp q pa lo ba vb) : gI (n, MM f b sk pk g0 hk cu bk bs ob r R om T P fu u fr pc, us) c 12 7 = some (nI ba) := by
  obtain ⟨m, v, tk, ud, h1, h2, h3, h4⟩ := k_cd (sk := sk) (pk := pk) (b := b) (g0 := g0) (hk := hk) (cu := cu) (bk := bk) (bs := bs) (ob := ob) (R := R) (om := om) (T := T) (P := P) (fu := fu) (u := u) (fr := fr) (pc := pc) D C
  exact gI_of (s := (n, MM f b sk pk g0 hk cu bk bs ob r R om T P fu u fr pc, us)) h1 h3 (show c < n by omega) rfl
theorem k_g8 (D : RD n r) (C : CD f c Ns Nv sp q pa lo ba vb) : gI (n, MM f b sk pk g0 hk cu bk bs ob r R om T P fu u fr pc, us) c 12 8 = some (nI vb) := by
  obtain ⟨m, v, tk, ud, h1, h2, h3, h4⟩ := k_cd (sk := sk) (pk := pk) (b := b) (g0 := g0) (hk := hk) (cu := cu) (bk := bk) (bs := bs) (ob := ob) (R := R) (om := om) (T := T) (P := P) (fu := fu) (u := u) (fr := fr) (pc := pc) D C
  exact gI_of (s := (n, MM f b sk pk g0 hk cu bk bs ob r R om T P fu u fr pc, us)) h1 h3 (show c < n by omega) rfl
theorem k_st (D : RD n r) (C : CD f c Ns Nv sp q pa lo ba vb) (hp : p < Ns) : aI (n, MM f b sk pk g0 hk cu bk bs ob r R om T P fu u fr pc, us) (c + 1) (nI p) = some (sp p) := by
  have hN := C
  obtain ⟨m, v, tk, ud, h1, h2, h3, h4⟩ := k_cd (sk := sk) (pk := pk) (b := b) (g0 := g0) (hk := hk) (cu := cu) (bk := bk) (bs := bs) (ob := ob) (R := R) (om := om) (T := T) (P := P) (fu := fu) (u := u) (fr := fr) (pc := pc) D C
  obtain ⟨_, _, _, _, _, _, _, hNs, _⟩ := hN
  have c0 := cl0 (show p < 2 ^ 31 by omega)
  have e := aI_of (s := (n, MM f b sk pk g0 hk cu bk bs ob r R om T P fu u fr pc, us)) (i := nI p) h2 (show 128 ≤ c + 1 by omega) (show c + 1 < n by omega) c0.1 (by rw [c0.2]; exact hp)
  rw [c0.2] at e
  exact e
theorem VA_k (D : RD n r) (C : CD f c Ns Nv sp q pa lo ba vb) : VA (n, MM f b sk pk g0 hk cu bk bs ob r R om T P fu u fr pc, us) (c + 2) Nv q := by
  obtain ⟨m, v, tk, ud, h1, h2, h3, h4, h5, h6⟩ := C
  have hn := D.1
  exact ⟨h3.kept fun x a b => M_off D (by omega), by omega, show c + 2 + 4 < n by omega, h5⟩
theorem k_io (D : RD n r) (C : CD f c Ns Nv sp q pa lo ba vb) : isO (n, MM f b sk pk g0 hk cu bk bs ob r R om T P fu u fr pc, us) c 12 = true := by
  obtain ⟨m, v, tk, ud, h1, h2, h3, h4⟩ := k_cd (sk := sk) (pk := pk) (b := b) (g0 := g0) (hk := hk) (cu := cu) (bk := bk) (bs := bs) (ob := ob) (R := R) (om := om) (T := T) (P := P) (fu := fu) (u := u) (fr := fr) (pc := pc) D C
  exact isO_of (s := (n, MM f b sk pk g0 hk cu bk bs ob r R om T P fu u fr pc, us)) h1 h3 (show c < n by omega)
theorem e_next (D : RD n r) (C : CD f c Ns Nv sp q pa lo ba vb) (hF : F < 9) (hc : cu F = .ref c) (hp : p < Ns) : x_Mod_next d 160 (n, MM f b sk pk g0 hk cu bk bs ob r R om T P fu u (nI (F + 1)) (nI p), us) = some (sp p, (n, MM f b sk pk g0 hk cu bk bs ob r R om T P fu u (nI (F + 1)) (nI (p + 1)), us)) := by
  unfold x_Mod_next
  rw [r_gd D, r_g46 D, Option.bind_some, na1, r_p46 D, Option.bind_some, r_g47 D, Option.bind_some, r_g45 D, Option.bind_some, ns1, a_cu D hF hc, Option.bind_some, k_g0 D C, Option.bind_some, r_g46 D, Option.bind_some, ns1, k_st D C hp, Option.bind_some]
theorem e_text (D : RD n r) (C : CD f c Ns Nv sp q pa lo ba vb) (hF : F < 9) (hc : cu F = .ref c) {x : Nat} (hx : vb ≤ x) (hx2 : x - vb < Nv) : x_Mod_text d 160 (nI x) (n, MM f b sk pk g0 hk cu bk bs ob r R om T P fu u (nI (F + 1)) pc, us) = some ((q (x - vb)).2.2.1, (n, MM f b sk pk g0 hk cu bk bs ob r R om T P fu u (nI (F + 1)) pc, us)) := by
  unfold x_Mod_text
  have W := VA_k (sk := sk) (us := us) (pk := pk) (b := b) (g0 := g0) (hk := hk) (cu := cu) (bk := bk) (bs := bs) (ob := ob) (R := R) (om := om) (T := T) (P := P) (fu := fu) (u := u) (fr := (nI (F + 1))) (pc := pc) D C
  have hv := W.2.2.2
  have c0 := cl0 (show x - vb < 2 ^ 31 by omega)
  have e := aL_of (s := (n, MM f b sk pk g0 hk cu bk bs ob r R om T P fu u (nI (F + 1)) pc, us)) (i := nI (x - vb)) W.1.2.2.2.1 (show 128 ≤ c + 2 + 3 by have := W.2.1; omega) (show c + 2 + 3 < n by have := W.2.2.1; show c + 2 + 3 < (n, MM f b sk pk g0 hk cu bk bs ob r R om T P fu u (nI (F + 1)) pc, us).1; omega) c0.1 (by rw [c0.2]; exact hx2)
  rw [c0.2] at e
  rw [r_gd D, r_g47 D, Option.bind_some, r_g45 D, Option.bind_some, ns1, a_cu D hF hc, Option.bind_some, k_g1 D C, Option.bind_some, gR_of (s := (n, MM f b sk pk g0 hk cu bk bs ob r R om T P fu u (nI (F + 1)) pc, us)) W.1.1 W.2.1 (show c + 2 < n by have := W.2.2.1; show c + 2 < (n, MM f b sk pk g0 hk cu bk bs ob r R om T P fu u (nI (F + 1)) pc, us).1; omega) (k := 2) rfl, Option.bind_some, k_g8 D C, Option.bind_some, nI_sub hx, e, Option.bind_some]
theorem e_goI (D : RD n r) (C : CD f c Ns Nv sp q pa lo ba vb) (hF : F < 9) (hc : cu F = .ref c) {x : Nat} (hx : ba ≤ x) : x_Mod_go_I d 160 (nI x) (n, MM f b sk pk g0 hk cu bk bs ob r R om T P fu u (nI (F + 1)) pc, us) = some ((), (n, MM f b sk pk g0 hk cu bk bs ob r R om T P fu u (nI (F + 1)) (nI (x - ba)), us)) := by
  unfold x_Mod_go_I
  rw [r_gd D, r_g47 D, Option.bind_some, r_g45 D, Option.bind_some, ns1, a_cu D hF hc, Option.bind_some, k_g7 D C, Option.bind_some, nI_sub hx, r_p46 D, Option.bind_some]
theorem e_true (D : RD n r) (ht : t < 8000) : x_Mod_isTrue d 160 (nI t) (n, MM f b sk pk g0 hk cu bk bs ob r R om T P fu u fr pc, us) = some (if (sk t).1 = 0 ∨ ((sk t).1 = 1 ∧ (sk t).2.2.1 = 0) then 0 else 1, (n, MM f b sk pk g0 hk cu bk bs ob r R om T P fu u fr pc, us)) := by
  unfold x_Mod_isTrue
  rw [r_gd D, r_g37 D, Option.bind_some, r_sk0 D, Option.bind_some, a_sk0 D ht, Option.bind_some]
  by_cases c0 : (sk t).1 = 0
  · rw [if_pos c0, if_pos (Or.inl c0)]
  · rw [if_neg c0, Option.bind_some, r_sk0 D, Option.bind_some, a_sk0 D ht, Option.bind_some]
    by_cases c1 : (sk t).1 = 1
    · rw [if_pos c1, Option.bind_some, r_sk2 D, Option.bind_some, a_sk2 D ht, Option.bind_some]
      by_cases c2 : (sk t).2.2.1 = 0
      · rw [if_pos (lc_eq.mpr c2), if_pos (Or.inr ⟨c1, c2⟩)]
      · rw [if_neg (fun w => c2 (lc_eq.mp w)), if_neg (fun w => w.elim c0 (fun w => c2 w.2))]
    · rw [if_neg c1, if_neg (fun w => w.elim c0 (fun w => c1 w.1))]
theorem e_spend {k m : Nat} (D : RD n r) (hm : m < 2 ^ 31) (hq : k ≤ m) : x_Mod_spend d 160 (n, MM f b sk pk g0 hk cu bk bs ob r R om T P (nI m) (nI k) fr pc, us) = if k < m then some (1, (n, MM f b sk pk g0 hk cu bk bs ob r R om T P (nI m) (nI (k + 1)) fr pc, us)) else some (0, (n, MM f b sk pk g0 hk cu bk bs ob r R om T P (nI m) (nI k) fr pc, us)) := by
  unfold x_Mod_spend
  rw [r_gd D, r_g44 D, Option.bind_some, r_g43 D, Option.bind_some]
  by_cases c : k < m
  · rw [if_pos c, if_neg (fun e => by have := nI_inj (by omega) hm e; omega), Option.bind_some, na1, r_p44 D, Option.bind_some]
  · obtain rfl : k = m := by omega
    rw [if_neg c, if_pos rfl]
theorem e_push (D : RD n r) (ht : t < 8000) {x : Int32} {y : Int64} : x_Mod_push (d + 1) 160 x y (n, MM f b sk pk g0 hk cu bk bs ob r R om (nI t) P fu u fr pc, us) = some ((), (n, MM f b (upQ sk t (x, 0, y, 0)) pk g0 hk cu bk bs ob r R om (nI (t + 1)) P fu u fr pc, us)) := by
  unfold x_Mod_push
  dsimp only
  rw [r_gd D, r_g37 D, Option.bind_some, r_g41 D, Option.bind_some, v_set_sk D ht, bnd_some, r_g41 D, Option.bind_some, na1, r_p41 D, Option.bind_some]
theorem e_fR (D : RD n r) {k : Nat} (hq : k ≤ 12) (e0 : R.2.2.2.2.2.2.2.2.2.1 = nI k) {y : Int64} : x_State_findRoot d r y (n, MM f b sk pk g0 hk cu bk bs ob r R om T P fu u fr pc, us) = some (s_find R.2.2.2.1 k y, (n, MM f b sk pk g0 hk cu bk bs ob r R om T P fu u fr pc, us)) := by
  unfold x_State_findRoot s_find
  rw [r_gdS D]
  refine loop_ind (fun z q => ∀ m i, i + m = k → z = (nI i, (n, MM f b sk pk g0 hk cu bk bs ob r R om T P fu u fr pc, us)) → q = some (s_fd R.2.2.2.1 y m i, (n, MM f b sk pk g0 hk cu bk bs ob r R om T P fu u fr pc, us))) (fun z => k - z.1.toNatClampNeg) (fun again z ih m i e ez => ?_) FU _ (by rw [FU_eq]; omega) k 0 (by omega) rfl
  subst ez
  dsimp only
  rw [r_s9 D, Option.bind_some, e0]
  cases m with
  | zero =>
    obtain rfl : i = k := by omega
    rw [if_pos (Int32.le_refl _), s_fd]
  | succ m =>
    have b0 := cl0 (show i < 2 ^ 31 by omega)
    rw [if_neg (nI_ge (by omega) (by omega)), r_s3 D, Option.bind_some, a_rt D (by omega), Option.bind_some, s_fd]
    split
    · rfl
    · rw [na1]
      exact ih _ (by simp only [nI_clamp (show i + 1 < 2 ^ 31 by omega), b0.2]; omega) m (i + 1) (by omega) rfl
theorem e_fN (D : RD n r) {k : Nat} (hq : k ≤ 10) (e0 : R.2.2.2.2.2.2.2.2.2.2.1 = nI k) {y : Int64} : x_State_findFunction d r y (n, MM f b sk pk g0 hk cu bk bs ob r R om T P fu u fr pc, us) = some (s_find R.2.2.2.2.1 k y, (n, MM f b sk pk g0 hk cu bk bs ob r R om T P fu u fr pc, us)) := by
  unfold x_State_findFunction s_find
  rw [r_gdS D]
  refine loop_ind (fun z q => ∀ m i, i + m = k → z = (nI i, (n, MM f b sk pk g0 hk cu bk bs ob r R om T P fu u fr pc, us)) → q = some (s_fd R.2.2.2.2.1 y m i, (n, MM f b sk pk g0 hk cu bk bs ob r R om T P fu u fr pc, us))) (fun z => k - z.1.toNatClampNeg) (fun again z ih m i e ez => ?_) FU _ (by rw [FU_eq]; omega) k 0 (by omega) rfl
  subst ez
  dsimp only
  rw [r_s10 D, Option.bind_some, e0]
  cases m with
  | zero =>
    obtain rfl : i = k := by omega
    rw [if_pos (Int32.le_refl _), s_fd]
  | succ m =>
    have b0 := cl0 (show i < 2 ^ 31 by omega)
    rw [if_neg (nI_ge (by omega) (by omega)), r_s4 D, Option.bind_some, a_fn D (by omega), Option.bind_some, s_fd]
    split
    · rfl
    · rw [na1]
      exact ih _ (by simp only [nI_clamp (show i + 1 < 2 ^ 31 by omega), b0.2]; omega) m (i + 1) (by omega) rfl
theorem e_fF (D : RD n r) {o k : Nat} (ho : o < 100) (hq : k ≤ 8) (e0 : R.2.1 o = nI k) {y : Int64} : x_State_findField d r (nI o) y (n, MM f b sk pk g0 hk cu bk bs ob r R om T P fu u fr pc, us) = some (s_find (fun j => R.2.2.1 (8 * o + j)) k y, (n, MM f b sk pk g0 hk cu bk bs ob r R om T P fu u fr pc, us)) := by
  unfold x_State_findField s_find
  rw [r_gdS D]
  refine loop_ind (fun z q => ∀ m i, i + m = k → z = (nI i, (n, MM f b sk pk g0 hk cu bk bs ob r R om T P fu u fr pc, us)) → q = some (s_fd (fun j => R.2.2.1 (8 * o + j)) y m i, (n, MM f b sk pk g0 hk cu bk bs ob r R om T P fu u fr pc, us))) (fun z => k - z.1.toNatClampNeg) (fun again z ih m i e ez => ?_) FU _ (by rw [FU_eq]; omega) k 0 (by omega) rfl
  subst ez
  dsimp only
  rw [r_s1 D, Option.bind_some, a_sz D ho, Option.bind_some, e0]
  cases m with
  | zero =>
    obtain rfl : i = k := by omega
    rw [if_pos (Int32.le_refl _), s_fd]
  | succ m =>
    have b0 := cl0 (show i < 2 ^ 31 by omega)
    rw [if_neg (nI_ge (by omega) (by omega)), r_s2 D, Option.bind_some, n8, nI_ad2, a_nm D (by omega), Option.bind_some, s_fd]
    split
    · rfl
    · rw [na1]
      exact ih _ (by simp only [nI_clamp (show i + 1 < 2 ^ 31 by omega), b0.2]; omega) m (i + 1) (by omega) rfl
theorem e_makeR (D : RD n r) {o : Nat} {k : Int32} (ho : o < 100) (h1 : ¬ R.2.2.2.2.2.2.2.2.1 = nI 100) (h2 : R.1 o = 0) (h3 : ∀ j, j < o → ¬ R.1 j = 0) : x_Mod_make d 160 k (n, MM f b sk pk g0 hk cu bk bs ob r R om T P fu u fr pc, us) = some (nI o, (n, MM f b sk pk g0 hk cu bk bs ob r (mkR R o k) om T P fu u fr pc, us)) := by
  unfold x_Mod_make
  rw [r_gd D, r_g31 D, Option.bind_some, r_s8 D, Option.bind_some, if_neg (show ¬ R.2.2.2.2.2.2.2.2.1 = 100 from h1)]
  refine loop_ind (fun z q => ∀ m i, i + m = o → z = (nI i, (n, MM f b sk pk g0 hk cu bk bs ob r R om T P fu u fr pc, us)) → q = some (nI o, (n, MM f b sk pk g0 hk cu bk bs ob r (mkR R o k) om T P fu u fr pc, us))) (fun z => o + 1 - z.1.toNatClampNeg) (fun again z ih m i e ez => ?_) FU _ (by rw [FU_eq]; omega) o 0 (by omega) rfl
  subst ez
  dsimp only
  rw [r_g31 D, Option.bind_some, r_s0 D, Option.bind_some, a_kd D (by omega), Option.bind_some]
  cases m with
  | zero =>
    obtain rfl : i = o := by omega
    simp only [if_pos h2, Option.bind_some, r_g31 D, r_s0 D, r_s1 D, r_s8 D, s_kd D ho, s_sz D ho, r_sp8 D]
    rfl
  | succ m =>
    have b0 := cl0 (show i < 2 ^ 31 by omega)
    rw [if_neg (h3 i (by omega)), na1]
    exact ih _ (by simp only [nI_clamp (show i + 1 < 2 ^ 31 by omega), b0.2]; omega) m (i + 1) (by omega) rfl
theorem e_makeN (D : RD n r) {k : Int32} (h1 : R.2.2.2.2.2.2.2.2.1 = nI 100) : x_Mod_make d 160 k (n, MM f b sk pk g0 hk cu bk bs ob r R om T P fu u fr pc, us) = some (-1, (n, MM f b sk pk g0 hk cu bk bs ob r R om T P fu u fr pc, us)) := by
  unfold x_Mod_make
  rw [r_gd D, r_g31 D, Option.bind_some, r_s8 D, Option.bind_some, if_pos (show R.2.2.2.2.2.2.2.2.1 = 100 from h1)]
end
