def d_rwL (o : Int32) (vs : Nat → V2) : Nat → Nat → SC → SC × Int32
  | 0, _, S => (S, 0)
  | m + 1, i, S => if (c_app S o (vs i).1 (vs i).2).1 = true then d_rwL o vs m (i + 1) (c_app S o (vs i).1 (vs i).2).2 else ((c_app S o (vs i).1 (vs i).2).2, 4)
def d_row (S : SC) (m : Nat) (vs : Nat → V2) : RV := match (c_make S).1 with
  | none => ((c_make S).2, 8, 0, 0)
  | some o => ((d_rwL (nI o) vs m 0 (c_make S).2).1, (d_rwL (nI o) vs m 0 (c_make S).2).2, s_Cell_headOf 4, (nI o).toInt64)
def d_rcL (o : Int32) (ns : Nat → Int64) (vs : Nat → V2) : Nat → Nat → SC → SC × Int32
  | 0, _, S => (S, 0)
  | m + 1, i, S => if (c_setF S o (ns i) (vs i).1 (vs i).2).1 = true then d_rcL o ns vs m (i + 1) (c_setF S o (ns i) (vs i).1 (vs i).2).2 else ((c_setF S o (ns i) (vs i).1 (vs i).2).2, 4)
def d_rec (S : SC) (m : Nat) (ns : Nat → Int64) (vs : Nat → V2) : RV := match (c_make S).1 with
  | none => ((c_make S).2, 8, 0, 0)
  | some o => ((d_rcL (nI o) ns vs m 0 (c_make S).2).1, (d_rcL (nI o) ns vs m 0 (c_make S).2).2, s_Cell_headOf 3, (nI o).toInt64)
theorem SJ_rwL {o : Int32} {vs : Nat → V2} : ∀ m i S, SI S → SJ S (d_rwL o vs m i S).1
  | 0, _, S, I => SJ.rfl' I
  | m + 1, i, S, I => by
    unfold d_rwL
    split
    · exact (SJ_app I).trans (SJ_rwL m (i + 1) _ (SJ_app I).1)
    · exact SJ_app I
theorem SJ_rcL {o : Int32} {ns : Nat → Int64} {vs : Nat → V2} : ∀ m i S, SI S → SJ S (d_rcL o ns vs m i S).1
  | 0, _, S, I => SJ.rfl' I
  | m + 1, i, S, I => by
    unfold d_rcL
    split
    · exact (SJ_setF I).trans (SJ_rcL m (i + 1) _ (SJ_setF I).1)
    · exact SJ_setF I
theorem SJ_row {S : SC} (I : SI S) {m : Nat} {vs : Nat → V2} : SJ S (d_row S m vs).1 := by
  unfold d_row
  split
  · exact SJ_make I
  · exact (SJ_make I).trans (SJ_rwL _ _ _ (SJ_make I).1)
theorem SJ_rec {S : SC} (I : SI S) {m : Nat} {ns : Nat → Int64} {vs : Nat → V2} : SJ S (d_rec S m ns vs).1 := by
  unfold d_rec
  split
  · exact SJ_make I
  · exact (SJ_make I).trans (SJ_rcL _ _ _ (SJ_make I).1)
theorem c_make_lt {S : SC} {o : Nat} (h : (c_make S).1 = some o) : o < 100 := by
  unfold c_make at h
  split at h
  · cases h
  · next j hj =>
    cases h
    have := ffr_lt 100 0 _ hj
    omega
section
variable {r T d u L K : Nat} {Y Z : MY} {co : Nat → Int32} {po : Nat → Int64} {nm : Int64} {ps lc tn : Nat} {fu : Int32} {B pc cl tk : Nat} {S : SC} {O : oS} {s s' : HS} {out : Option (Unit × HS)}
theorem y_fail (D : DW Y.1 Y.2.2.2.1 Y.2.2.2.2.1 r) {e : Int32} : x_Mach_fail d 148 e (mh r fu Y T B u pc cl S O tk 0 0) = some ((), mh r fu Y T B u pc cl S O tk e 1) := k_fail D
theorem yH_mh (D : DW Y.1 Y.2.2.2.1 Y.2.2.2.2.1 r) {e : Int32} : yH r fu Y (mh r fu Y T B u pc cl S O tk e 1) e O tk := ⟨Y, _, _, _, _, _, _, rfl, GM.rfl' D⟩
theorem yS1_er (D : DW Y.1 Y.2.2.2.1 Y.2.2.2.2.1 r) {e : Int32} (he : ¬ e = 0) {S' : SC} {v : V2} {T' : Nat} : yS1 r fu Y T B u pc cl O tk (some ((), mh r fu Y T' B u pc cl S O tk e 1)) (S', e, v) := ⟨fun q => absurd q he, fun _ => ⟨_, rfl, yH_mh D⟩⟩
theorem yW.le {T' : Nat} (W : yW r T Y) (h : T' ≤ T) : yW r T' Y := ⟨W.1, W.2.1, W.2.2.1, Nat.le_trans h W.2.2.2⟩
theorem c_row {m : Nat} (W : yW r (T + m) Y) (I : SI S) (hT : T < 8192) : yS1 r fu Y T B u pc cl O tk (x_Mach_makeRow (d + 7) 148 (nI m) (mh r fu Y (T + m) B u pc cl S O tk 0 0)) (d_row S m (fun i => yV Y (T + i))) := by
  have hN : Y.2.2.2.2.2.1 < 2 ^ 31 := by have := W.2.2; omega
  have hm : T + m ≤ Y.2.2.2.2.2.1 := W.2.2.2
  have hNb : Y.2.2.2.2.2.1 ≤ 16384 := W.2.2.1
  unfold x_Mach_makeRow d_row
  dsimp only
  rw [m_gd0 W.1, k_bY W (by omega), bnd_some, Nat.add_sub_cancel, m_g10 W.1, Option.bind_some, W_make W.1, bnd_some]
  cases hq : (c_make S).1 with
  | none =>
    dsimp only
    rw [if_neg (show ¬ (0 : Int32) ≤ -1 by decide), y_fail W.1, bnd_some]
    exact yS1_er W.1 (by decide)
  | some o =>
    have ho := c_make_lt hq
    dsimp only
    rw [if_pos (nI_pos' (by omega))]
    refine loop_ind (fun z q => ∀ k i (S' : SC), i + k = m → SI S' → z = (nI (T + i), mh r fu Y (T + m) B u pc cl S' O tk 0 0) → yS1 r fu Y T B u pc cl O tk q ((d_rwL (nI o) (fun i => yV Y (T + i)) k i S').1, (d_rwL (nI o) (fun i => yV Y (T + i)) k i S').2, s_Cell_headOf 4, (nI o).toInt64)) (fun z => T + m - z.1.toNatClampNeg) (fun again z ih k i S' e I' ez => ?_) FU _ (by rw [FU_eq]; omega) m 0 (c_make S).2 (by omega) (SJ_make I).1 rfl
    subst ez
    dsimp only
    rw [m_g2 W.1, Option.bind_some]
    cases k with
    | zero =>
      obtain rfl : i = m := by omega
      rw [if_pos (Int32.le_refl _), m_p2 W.1, Option.bind_some, e_Cell_headOf, bnd_some, d_rwL]
      exact yS1_bnd (y_layS (W.le (by omega)) hT)
    | succ k =>
      have b0 := cl0 (show T + i < 2 ^ 31 by omega)
      have hi : T + i < Y.2.2.2.2.2.1 := by omega
      rw [if_neg (nI_ge (by omega) (by omega)), m_g10 W.1, Option.bind_some, m_g0 W.1, Option.bind_some, w_aH W.1 hN hi, Option.bind_some, m_g1 W.1, Option.bind_some, w_aT W.1 hN hi, Option.bind_some, W_append W.1 I', bnd_some, d_rwL]
      by_cases c : (c_app S' (nI o) (Y.2.2.2.2.2.2.1 (T + i)) (Y.2.2.2.2.2.2.2.1 (T + i))).1 = true
      · rw [if_pos c, if_neg (show ¬ (1 : Int32) = 0 by decide), if_pos c, ← nI_succ]
        exact ih (nI (T + (i + 1)), mh r fu Y (T + m) B u pc cl (c_app S' (nI o) (Y.2.2.2.2.2.2.1 (T + i)) (Y.2.2.2.2.2.2.2.1 (T + i))).2 O tk 0 0) (show T + m - (nI (T + (i + 1))).toNatClampNeg < T + m - (nI (T + i)).toNatClampNeg by rw [nI_clamp (show T + (i + 1) < 2 ^ 31 by omega), b0.2]; omega) k (i + 1) _ (by omega) (SJ_app I').1 rfl
      · rw [if_neg c, if_pos rfl, if_neg c, k_fail W.1, bnd_some]
        exact yS1_er W.1 (by decide)
theorem c_rec {m : Nat} (W : yW r (T + 2 * m) Y) (I : SI S) (hT : T < 8192) : yS1 r fu Y T B u pc cl O tk (x_Mach_makeRecord (d + 7) 148 (nI m) (mh r fu Y (T + 2 * m) B u pc cl S O tk 0 0)) (d_rec S m (fun i => Y.2.2.2.2.2.2.1 (T + 2 * i)) (fun i => yV Y (T + 2 * i + 1))) := by
  have hN : Y.2.2.2.2.2.1 < 2 ^ 31 := by have := W.2.2; omega
  have hm : T + 2 * m ≤ Y.2.2.2.2.2.1 := W.2.2.2
  have hNb : Y.2.2.2.2.2.1 ≤ 16384 := W.2.2.1
  unfold x_Mach_makeRecord d_rec
  dsimp only
  rw [m_gd0 W.1, show (2 : Int32) * nI m = nI (2 * m) from nI_mul 2 m, k_bY W (by omega), bnd_some, Nat.add_sub_cancel, m_g10 W.1, Option.bind_some, W_make W.1, bnd_some]
  cases hq : (c_make S).1 with
  | none =>
    dsimp only
    rw [if_neg (show ¬ (0 : Int32) ≤ -1 by decide), y_fail W.1, bnd_some]
    exact yS1_er W.1 (by decide)
  | some o =>
    have ho := c_make_lt hq
    dsimp only
    rw [if_pos (nI_pos' (by omega))]
    refine loop_ind (fun z q => ∀ k i (S' : SC), i + k = m → SI S' → z = (nI (T + 2 * i), mh r fu Y (T + 2 * m) B u pc cl S' O tk 0 0) → yS1 r fu Y T B u pc cl O tk q ((d_rcL (nI o) (fun i => Y.2.2.2.2.2.2.1 (T + 2 * i)) (fun i => yV Y (T + 2 * i + 1)) k i S').1, (d_rcL (nI o) (fun i => Y.2.2.2.2.2.2.1 (T + 2 * i)) (fun i => yV Y (T + 2 * i + 1)) k i S').2, s_Cell_headOf 3, (nI o).toInt64)) (fun z => T + 2 * m - z.1.toNatClampNeg) (fun again z ih k i S' e I' ez => ?_) FU _ (by rw [FU_eq]; omega) m 0 (c_make S).2 (by omega) (SJ_make I).1 rfl
    subst ez
    dsimp only
    rw [m_g2 W.1, Option.bind_some, ← nI_succ]
    cases k with
    | zero =>
      obtain rfl : i = m := by omega
      rw [if_pos (nI_le (by omega) (by omega)), m_p2 W.1, Option.bind_some, e_Cell_headOf, bnd_some, d_rcL]
      exact yS1_bnd (y_layS (W.le (by omega)) hT)
    | succ k =>
      have b0 := cl0 (show T + 2 * i < 2 ^ 31 by omega)
      have hi : T + 2 * i < Y.2.2.2.2.2.1 := by omega
      have hj : T + 2 * i + 1 < Y.2.2.2.2.2.1 := by omega
      rw [if_neg (nI_ge (by omega) (by omega)), m_g10 W.1, Option.bind_some, m_g0 W.1, Option.bind_some, w_aH W.1 hN hi, Option.bind_some, Option.bind_some, w_aH W.1 hN hj, Option.bind_some, m_g1 W.1, Option.bind_some, w_aT W.1 hN hj, Option.bind_some, W_setField W.1 I', bnd_some, d_rcL]
      by_cases c : (c_setF S' (nI o) (Y.2.2.2.2.2.2.1 (T + 2 * i)) (Y.2.2.2.2.2.2.1 (T + 2 * i + 1)) (Y.2.2.2.2.2.2.2.1 (T + 2 * i + 1))).1 = true
      · rw [if_pos c, if_neg (show ¬ (1 : Int32) = 0 by decide), if_pos c, show nI (T + 2 * i) + 2 = nI (T + 2 * (i + 1)) from nI_add (T + 2 * i) 2]
        exact ih (nI (T + 2 * (i + 1)), mh r fu Y (T + 2 * m) B u pc cl (c_setF S' (nI o) (Y.2.2.2.2.2.2.1 (T + 2 * i)) (Y.2.2.2.2.2.2.1 (T + 2 * i + 1)) (Y.2.2.2.2.2.2.2.1 (T + 2 * i + 1))).2 O tk 0 0) (show T + 2 * m - (nI (T + 2 * (i + 1))).toNatClampNeg < T + 2 * m - (nI (T + 2 * i)).toNatClampNeg by rw [nI_clamp (show T + 2 * (i + 1) < 2 ^ 31 by omega), b0.2]; omega) k (i + 1) _ (by omega) (SJ_setF I').1 rfl
      · rw [if_neg c, if_pos rfl, if_neg c, k_fail W.1, bnd_some]
        exact yS1_er W.1 (by decide)
/-! calls -/
abbrev UI : Type := Nat × Nat × (Nat → Int32) × Nat × (Nat → Int64) × Int64 × Nat × Nat × Nat
abbrev uNm (i : UI) : Int64 := i.2.2.2.2.2.1
abbrev uPs (i : UI) : Nat := i.2.2.2.2.2.2.1
abbrev uLc (i : UI) : Nat := i.2.2.2.2.2.2.2.1
abbrev UV (r : Nat) (Y : MY) (i : UI) : Prop := UU r Y i.1 i.2.1 i.2.2.1 i.2.2.2.1 i.2.2.2.2.1 (uNm i) (uPs i) (uLc i) i.2.2.2.2.2.2.2.2
def FS (r : Nat) (Y : MY) (S : SC) (FI : Nat → UI) : Prop := ∀ i, i < S.2.2.2.2.2.2.2.2 → S.2.2.2.2.2.2.2.1 i = .ref (FI i).1 ∧ UV r Y (FI i)
theorem FS.grow {FI : Nat → UI} (h : FS r Y S FI) (g : yG r Y Z) : FS r Z S FI := fun i hi => ⟨(h i hi).1, (h i hi).2.grow g⟩
theorem y_fAt {FI : Nat → UI} (D : DW Y.1 Y.2.2.2.1 Y.2.2.2.2.1 r) (I : SI S) (F : FS r Y S FI) {y : Int64} : x_Store_functionAt (d + 1) r y (mh r fu Y T B u pc cl S O tk 0 0) = some (s_find (fun i => uNm (FI i)) S.2.2.2.2.2.2.2.2 y, mh r fu Y T B u pc cl S O tk 0 0) := by
  have hk := I.2.1
  have h1 : 128 ≤ r := by have := D.2.2.2.2.2.1; omega
  have h2 := D.2.2.2.2.2.2.1
  unfold x_Store_functionAt s_find
  dsimp only
  have tg : ∀ {β : Type} {b : Option β}, gd (mh r fu Y T B u pc cl S O tk 0 0) r 10 b = b := t_gd h1 h2
  have tf : gI (mh r fu Y T B u pc cl S O tk 0 0) r 10 8 = some (nI S.2.2.2.2.2.2.2.2) := t_gf h1 h2
  have t7 : gR (mh r fu Y T B u pc cl S O tk 0 0) r 10 7 = some (r + 7) := t_g7 h1 h2
  rw [tg]
  refine loop_ind (fun z q => ∀ m i, i + m = S.2.2.2.2.2.2.2.2 → z = (nI i, mh r fu Y T B u pc cl S O tk 0 0) → q = some (s_fd (fun i => uNm (FI i)) y m i, mh r fu Y T B u pc cl S O tk 0 0)) (fun z => S.2.2.2.2.2.2.2.2 - z.1.toNatClampNeg) (fun again z ih m i e ez => ?_) FU _ (by rw [FU_eq]; omega) S.2.2.2.2.2.2.2.2 0 (by omega) rfl
  subst ez
  dsimp only
  rw [tf, Option.bind_some]
  cases m with
  | zero =>
    obtain rfl : i = S.2.2.2.2.2.2.2.2 := by omega
    rw [if_pos (Int32.le_refl _), s_fd]
  | succ m =>
    have b0 := cl0 (show i < 2 ^ 31 by omega)
    have fi := F i (by omega)
    have ta : aR "StowTongue$Unit" (mh r fu Y T B u pc cl S O tk 0 0) (r + 7) (nI i) = some (FI i).1 := by
      unfold aR
      rw [aV_of (s := mh r fu Y T B u pc cl S O tk 0 0) (show (mh r fu Y T B u pc cl S O tk 0 0).2.1 (r + 7) = _ from HT_7) (by omega) (show r + 7 < Y.1 by omega) b0.1 (by rw [b0.2]; omega), b0.2, fi.1]
      rfl
    rw [if_neg (nI_ge (by omega) (by omega)), t7, Option.bind_some, ta, Option.bind_some, Option.bind_some, ta, Option.bind_some, u_na D fi.2, bnd_some, s_fd]
    split
    · rfl
    · rw [← nI_succ]
      exact ih _ (by simp only [nI_clamp (show i + 1 < 2 ^ 31 by omega), b0.2]; omega) m (i + 1) (by omega) rfl
theorem y_fOf {FI : Nat → UI} (D : DW Y.1 Y.2.2.2.1 Y.2.2.2.2.1 r) (I : SI S) (F : FS r Y S FI) {y : Int64} : x_Store_functionOf (d + 2) r y (mh r fu Y T B u pc cl S O tk 0 0) = some (if s_find (fun i => uNm (FI i)) S.2.2.2.2.2.2.2.2 y < 0 then none else some (FI (s_find (fun i => uNm (FI i)) S.2.2.2.2.2.2.2.2 y).toNatClampNeg).1, mh r fu Y T B u pc cl S O tk 0 0) := by
  have hk := I.2.1
  have h1 : 128 ≤ r := by have := D.2.2.2.2.2.1; omega
  have h2 := D.2.2.2.2.2.2.1
  unfold x_Store_functionOf
  dsimp only
  have tg : ∀ {β : Type} {b : Option β}, gd (mh r fu Y T B u pc cl S O tk 0 0) r 10 b = b := t_gd h1 h2
  have t7 : gR (mh r fu Y T B u pc cl S O tk 0 0) r 10 7 = some (r + 7) := t_g7 h1 h2
  rw [tg, y_fAt D I F, bnd_some]
  rcases s_fd_neg (g := fun i => uNm (FI i)) (y := y) S.2.2.2.2.2.2.2.2 0 (by omega) with ⟨w1, w2, w3⟩ | ⟨j, w1, w2, w3, w4, w5⟩
  · have e : s_find (fun i => uNm (FI i)) S.2.2.2.2.2.2.2.2 y = -1 := w2
    rw [e, if_neg (show ¬ (0 : Int32) ≤ -1 by decide), if_pos (show (-1 : Int32) < 0 by decide)]
  · have e : s_find (fun i => uNm (FI i)) S.2.2.2.2.2.2.2.2 y = nI j := w3
    have fi := F j (by omega)
    have b0 := cl0 (show j < 2 ^ 31 by omega)
    have ta : aR "StowTongue$Unit" (mh r fu Y T B u pc cl S O tk 0 0) (r + 7) (nI j) = some (FI j).1 := by
      unfold aR
      rw [aV_of (s := mh r fu Y T B u pc cl S O tk 0 0) (show (mh r fu Y T B u pc cl S O tk 0 0).2.1 (r + 7) = _ from HT_7) (by omega) (show r + 7 < Y.1 by omega) b0.1 (by rw [b0.2]; omega), b0.2, fi.1]
      rfl
    rw [e, if_pos (nI_pos' (by omega)), if_neg (nI_pos (by omega)), t7, Option.bind_some, ta, Option.bind_some, b0.2]
theorem y_enter {m Q : Nat} (W : yW r (Q + m) Y) (U : UU r Y u L co K po nm ps lc tn) (hm : m ≤ lc) (hl : Q + lc ≤ 8192) {u0 : Nat} : ∃ Z, x_Mach_enter (d + 4) 148 u (nI m) (mh r fu Y (Q + m) B u0 pc cl S O tk 0 0) = some ((), mh r fu Z (Q + lc) Q u 0 cl S O tk 0 0) ∧ yX r (Q + m) cl Y Z ∧ (∀ j, Q + m ≤ j → j < Q + lc → yV Z j = (0, 0)) ∧ yW r (Q + lc) Z ∧ ∀ j, Z.2.2.2.2.2.2.2.2.1 j = Y.2.2.2.2.2.2.2.2.1 j ∧ Z.2.2.2.2.2.2.2.2.2.1 j = Y.2.2.2.2.2.2.2.2.2.1 j ∧ Z.2.2.2.2.2.2.2.2.2.2.1 j = Y.2.2.2.2.2.2.2.2.2.2.1 j := by
  unfold x_Mach_enter
  dsimp only
  rw [m_gd0 W.1, k_bY W (by omega), bnd_some, Nat.add_sub_cancel, m_p3 W.1, Option.bind_some, m_p4 W.1, Option.bind_some, m_p5 W.1, Option.bind_some]
  refine loop_ind (fun z q => ∀ k i (Y' : MY), i + k = lc → m ≤ i → yW r (Q + i) Y' → UU r Y' u L co K po nm ps lc tn → z = (nI i, mh r fu Y' (Q + i) Q u 0 cl S O tk 0 0) → ∃ Z, q = some ((), mh r fu Z (Q + lc) Q u 0 cl S O tk 0 0) ∧ yX r (Q + i) cl Y' Z ∧ (∀ j, Q + i ≤ j → j < Q + lc → yV Z j = (0, 0)) ∧ yW r (Q + lc) Z ∧ ∀ j, Z.2.2.2.2.2.2.2.2.1 j = Y'.2.2.2.2.2.2.2.2.1 j ∧ Z.2.2.2.2.2.2.2.2.2.1 j = Y'.2.2.2.2.2.2.2.2.2.1 j ∧ Z.2.2.2.2.2.2.2.2.2.2.1 j = Y'.2.2.2.2.2.2.2.2.2.2.1 j) (fun z => lc - z.1.toNatClampNeg) (fun again z ih k i Y' e h1 W' U' ez => ?_) FU _ (by rw [FU_eq]; omega) (lc - m) m Y (by omega) (by omega) W U rfl
  subst ez
  dsimp only
  rw [u_lc W'.1 U', bnd_some]
  cases k with
  | zero =>
    obtain rfl : i = lc := by omega
    rw [if_pos (Int32.le_refl _)]
    exact ⟨Y', rfl, yX.rfl' W'.1, fun j a b => by omega, W', fun _ => ⟨rfl, rfl, rfl⟩⟩
  | succ k =>
    have b0 := cl0 (show i < 2 ^ 31 by omega)
    rw [if_neg (nI_ge (by omega) (by omega))]
    obtain ⟨Z1, a1, a2, a3, a4, a5⟩ := y_lay (d := d + 1) (fu := fu) (B := Q) (u := u) (pc := 0) (cl := cl) (S := S) (O := O) (tk := tk) W' (by omega) (h := 0) (t := 0) (er := 0) (dn := 0)
    rw [a1, bnd_some, ← nI_succ]
    obtain ⟨Z2, c1, c2, c3, c4, c5⟩ := ih (nI (i + 1), mh r fu Z1 (Q + (i + 1)) Q u 0 cl S O tk 0 0) (show lc - (nI (i + 1)).toNatClampNeg < lc - (nI i).toNatClampNeg by rw [nI_clamp (show i + 1 < 2 ^ 31 by omega), b0.2]; omega) k (i + 1) Z1 (by omega) (by omega) a4 (U'.grow a2.1) rfl
    refine ⟨Z2, c1, a2.trans c2 (by omega) (Nat.le_refl _), fun j h3 h4 => ?_, c4, fun j => ⟨(c5 j).1.trans (a5 j).1, (c5 j).2.1.trans (a5 j).2.1, (c5 j).2.2.trans (a5 j).2.2⟩⟩
    by_cases q : j = Q + i
    · rw [c2.2.1 j (by omega), q, a3]
    · exact c3 j (by omega) h4
theorem y_leave0 (W : yW r (T + 1) Y) : x_Mach_leave (d + 2) 148 (mh r fu Y (T + 1) B u pc 0 S O tk 0 0) = some ((), mh r fu (Y.1, Y.2.1, Y.2.2.1, Y.2.2.2.1, Y.2.2.2.2.1, Y.2.2.2.2.2.1, Y.2.2.2.2.2.2.1, Y.2.2.2.2.2.2.2.1, Y.2.2.2.2.2.2.2.2.1, Y.2.2.2.2.2.2.2.2.2.1, Y.2.2.2.2.2.2.2.2.2.2.1, Y.2.2.2.2.2.2.1 T, Y.2.2.2.2.2.2.2.1 T) (T + 1) B u pc 0 S O tk 0 1) := by
  have hN : Y.2.2.2.2.2.1 < 2 ^ 31 := by have := W.2.2; omega
  have hT : T < Y.2.2.2.2.2.1 := by have := W.2.2; omega
  unfold x_Mach_leave
  dsimp only
  rw [m_gd0 W.1, k_bY1 W, bnd_some, Nat.add_sub_cancel, m_g0 W.1, Option.bind_some, w_aH W.1 hN hT, Option.bind_some, m_p16 W.1, Option.bind_some, m_g1 W.1, Option.bind_some, w_aT W.1 hN hT, Option.bind_some, m_p17 W.1, Option.bind_some, m_g9 W.1, Option.bind_some, if_pos nI_0, m_p15 W.1, Option.bind_some]
theorem y_leave {c B' u' pc' : Nat} (W : yW r (T + 1) Y) (hB : B ≤ T) (hc : c < 8) (h1 : Y.2.2.2.2.2.2.2.2.1 c = .ref u') (h2 : Y.2.2.2.2.2.2.2.2.2.1 c = nI pc') (h3 : Y.2.2.2.2.2.2.2.2.2.2.1 c = nI B') : ∃ Z, x_Mach_leave (d + 2) 148 (mh r fu Y (T + 1) B u pc (c + 1) S O tk 0 0) = some ((), mh r fu Z (B + 1) B' u' pc' c S O tk 0 0) ∧ yX r B c Y Z ∧ yV Z B = yV Y T ∧ yW r (B + 1) Z := by
  have hN : Y.2.2.2.2.2.1 < 2 ^ 31 := by have := W.2.2; omega
  have hT : T < Y.2.2.2.2.2.1 := by have := W.2.2; omega
  unfold x_Mach_leave
  dsimp only
  rw [m_gd0 W.1, k_bY1 W, bnd_some, Nat.add_sub_cancel, m_g0 W.1, Option.bind_some, w_aH W.1 hN hT, Option.bind_some, m_p16 W.1, Option.bind_some, m_g1 W.1, Option.bind_some, w_aT W.1 hN hT, Option.bind_some, m_p17 W.1, Option.bind_some, m_g9 W.1, Option.bind_some, if_neg (nI_ne0 (by omega) (by omega)), Option.bind_some, show nI (c + 1) - 1 = nI c from nI_pred c, m_p9 W.1, Option.bind_some, m_g3 W.1, Option.bind_some, m_p2 W.1, Option.bind_some, m_g6 W.1, Option.bind_some, m_g9 W.1, Option.bind_some, w_aU W.1 hc h1, Option.bind_some, m_p4 W.1, Option.bind_some, m_g7 W.1, Option.bind_some, m_g9 W.1, Option.bind_some, w_aN W.1 hc, Option.bind_some, h2, m_p5 W.1, Option.bind_some, m_g8 W.1, Option.bind_some, m_g9 W.1, Option.bind_some, w_aB W.1 hc, Option.bind_some, h3, m_p3 W.1, Option.bind_some, m_g16 W.1, Option.bind_some, m_g17 W.1, Option.bind_some, k_lay W.1 hN (show B < Y.2.2.2.2.2.1 by omega), bnd_some]
  exact ⟨(Y.1, Y.2.1, Y.2.2.1, Y.2.2.2.1, Y.2.2.2.2.1, Y.2.2.2.2.2.1, upL Y.2.2.2.2.2.2.1 B (Y.2.2.2.2.2.2.1 T), upL Y.2.2.2.2.2.2.2.1 B (Y.2.2.2.2.2.2.2.1 T), Y.2.2.2.2.2.2.2.2.1, Y.2.2.2.2.2.2.2.2.2.1, Y.2.2.2.2.2.2.2.2.2.2.1, Y.2.2.2.2.2.2.1 T, Y.2.2.2.2.2.2.2.1 T), rfl, ⟨GM.rfl' W.1, fun j hj => Prod.ext (if_neg (by omega)) (if_neg (by omega)), fun _ _ => ⟨rfl, rfl, rfl⟩⟩, Prod.ext (if_pos rfl) (if_pos rfl), W.le (by omega)⟩
theorem y_call1 {y : Int64} {m : Nat} {F : Nat} (hF : F < 2 ^ 31) (W : yW r T Y) (h : F ≤ tk) (htk : tk < 2 ^ 31) : x_Mach_call (d + 6) 148 y (nI m) (mh r (nI F) Y T B u pc cl S O tk 0 0) = some ((), mh r (nI F) Y T B u pc cl S O tk 1 1) := by
  unfold x_Mach_call
  dsimp only
  rw [m_gd0 W.1, k_burnN W.1 (nI_nlt h htk), bnd_some, if_pos rfl]
theorem y_call6 {y : Int64} {m F : Nat} {FI : Nat → UI} (hF : F < 2 ^ 31) (W : yW r T Y) (I : SI S) (FF : FS r Y S FI) (h : tk < F) (hm : m < 2 ^ 31) (hps : ∀ i, i < S.2.2.2.2.2.2.2.2 → uPs (FI i) < 2 ^ 31) (h6 : s_find (fun i => uNm (FI i)) S.2.2.2.2.2.2.2.2 y < 0 ∨ ¬ uPs (FI (s_find (fun i => uNm (FI i)) S.2.2.2.2.2.2.2.2 y).toNatClampNeg) = m) : x_Mach_call (d + 6) 148 y (nI m) (mh r (nI F) Y T B u pc cl S O tk 0 0) = some ((), mh r (nI F) Y T B u pc cl S O (tk + 1) 6 1) := by
  have hk := I.2.1
  unfold x_Mach_call
  dsimp only
  rw [m_gd0 W.1, k_burnY W.1 (nI_lt h hF), bnd_some, if_neg (show ¬ (1 : Int32) = 0 by decide), m_g10 W.1, Option.bind_some, ← nI_succ, y_fOf W.1 I FF, bnd_some]
  rcases s_fd_neg (g := fun i => uNm (FI i)) (y := y) S.2.2.2.2.2.2.2.2 0 (by omega) with ⟨w1, w2, w3⟩ | ⟨j, w1, w2, w3, w4, w5⟩
  · have e : s_find (fun i => uNm (FI i)) S.2.2.2.2.2.2.2.2 y = -1 := w2
    rw [e, if_pos (show (-1 : Int32) < 0 by decide)]
    dsimp only [Option.elim]
    rw [y_fail W.1, bnd_some]
  · have e : s_find (fun i => uNm (FI i)) S.2.2.2.2.2.2.2.2 y = nI j := w3
    have A := cl0 (show j < 2 ^ 31 by omega)
    rw [e, A.2] at h6
    rw [e, if_neg A.1, A.2]
    dsimp only [Option.elim]
    have h7 : ¬ uPs (FI j) = m := h6.elim (fun q => absurd q A.1) id
    rw [u_nm W.1 (FF j (by omega)).2, bnd_some, if_neg (fun q => h7 (nI_inj (hps j (by omega)) hm q)), y_fail W.1, bnd_some]
theorem y_call7 {y : Int64} {m F j : Nat} {FI : Nat → UI} (hF : F < 2 ^ 31) (W : yW r T Y) (I : SI S) (FF : FS r Y S FI) (h : tk < F) (e : s_find (fun i => uNm (FI i)) S.2.2.2.2.2.2.2.2 y = nI j) (hj : j < S.2.2.2.2.2.2.2.2) (hm : uPs (FI j) = m) : x_Mach_call (d + 6) 148 y (nI m) (mh r (nI F) Y T B u pc 8 S O tk 0 0) = some ((), mh r (nI F) Y T B u pc 8 S O (tk + 1) 7 1) := by
  have hk := I.2.1
  have A := cl0 (show j < 2 ^ 31 by omega)
  unfold x_Mach_call
  dsimp only
  rw [m_gd0 W.1, k_burnY W.1 (nI_lt h hF), bnd_some, if_neg (show ¬ (1 : Int32) = 0 by decide), m_g10 W.1, Option.bind_some, ← nI_succ, y_fOf W.1 I FF, bnd_some, e, if_neg A.1, A.2]
  dsimp only [Option.elim]
  rw [u_nm W.1 (FF j hj).2, bnd_some, if_pos (by rw [hm]), m_g9 W.1, Option.bind_some, if_neg (show ¬ nI 8 < 8 by decide), y_fail W.1, bnd_some]
theorem y_call {y : Int64} {m F j Q : Nat} {FI : Nat → UI} (hF : F < 2 ^ 31) (W : yW r (Q + m) Y) (I : SI S) (FF : FS r Y S FI) (h : tk < F) (e : s_find (fun i => uNm (FI i)) S.2.2.2.2.2.2.2.2 y = nI j) (hj : j < S.2.2.2.2.2.2.2.2) (hm : uPs (FI j) = m) (hc : cl < 8) (U : UU r Y u L co K po nm ps lc tn) (hl : m ≤ uLc (FI j)) (h8 : Q + uLc (FI j) ≤ 8192) : ∃ Z, x_Mach_call (d + 6) 148 y (nI m) (mh r (nI F) Y (Q + m) B u pc cl S O tk 0 0) = some ((), mh r (nI F) Z (Q + uLc (FI j)) Q (FI j).1 0 (cl + 1) S O (tk + 1) 0 0) ∧ yX r (Q + m) cl Y Z ∧ (∀ q, Q + m ≤ q → q < Q + uLc (FI j) → yV Z q = (0, 0)) ∧ yW r (Q + uLc (FI j)) Z ∧ Z.2.2.2.2.2.2.2.2.1 cl = .ref u ∧ Z.2.2.2.2.2.2.2.2.2.1 cl = nI pc ∧ Z.2.2.2.2.2.2.2.2.2.2.1 cl = nI B := by
  have hk := I.2.1
  have A := cl0 (show j < 2 ^ 31 by omega)
  unfold x_Mach_call
  dsimp only
  rw [m_gd0 W.1, k_burnY W.1 (nI_lt h hF), bnd_some, if_neg (show ¬ (1 : Int32) = 0 by decide), m_g10 W.1, Option.bind_some, ← nI_succ, y_fOf W.1 I FF, bnd_some, e, if_neg A.1, A.2]
  dsimp only [Option.elim]
  rw [u_nm W.1 (FF j hj).2, bnd_some, if_pos (by rw [hm]), m_g9 W.1, Option.bind_some, if_pos (show nI cl < 8 from nI_lt (b := 8) hc (by decide)), m_g6 W.1, Option.bind_some, Option.bind_some, m_g4 W.1, Option.bind_some, w_sU W.1 hc (u_io W.1 U), Option.bind_some, m_g7 W.1, Option.bind_some, m_g9 W.1, Option.bind_some, m_g5 W.1, Option.bind_some, w_sN W.1 hc, Option.bind_some, m_g8 W.1, Option.bind_some, m_g9 W.1, Option.bind_some, m_g3 W.1, Option.bind_some, w_sB W.1 hc, Option.bind_some, m_g9 W.1, Option.bind_some, m_p9 W.1, Option.bind_some, ← nI_succ]
  obtain ⟨Z, z1, z2, z3, z4, z5⟩ := y_enter (Y := (Y.1, Y.2.1, Y.2.2.1, Y.2.2.2.1, Y.2.2.2.2.1, Y.2.2.2.2.2.1, Y.2.2.2.2.2.2.1, Y.2.2.2.2.2.2.2.1, updV Y.2.2.2.2.2.2.2.2.1 cl (.ref u), upI Y.2.2.2.2.2.2.2.2.2.1 cl (nI pc), upI Y.2.2.2.2.2.2.2.2.2.2.1 cl (nI B), Y.2.2.2.2.2.2.2.2.2.2.2.1, Y.2.2.2.2.2.2.2.2.2.2.2.2)) (r := r) (d := d + 1) (fu := nI F) (Q := Q) (B := B) (pc := pc) (cl := cl + 1) (S := S) (O := O) (tk := tk + 1) (m := m) (u0 := u) W (FF j hj).2 hl h8
  rw [z1, bnd_some]
  refine ⟨Z, rfl, ⟨z2.1, z2.2.1, fun q hq => ⟨(z5 q).1.trans (if_neg (by omega)), (z5 q).2.1.trans (if_neg (by omega)), (z5 q).2.2.trans (if_neg (by omega))⟩⟩, z3, z4, (z5 cl).1.trans (if_pos rfl), (z5 cl).2.1.trans (if_pos rfl), (z5 cl).2.2.trans (if_pos rfl)⟩
end
