/-! the bytes of a COMMIT: the reference -/
def rTl (d : Nat) (y : Int32) (s : HS) : Option (Int32 × HS) := ((gR s 160 14 30).bind fun v25 => ((gR s 160 14 31).bind fun v26 => ((pV s 160 14 30 (.ref v26)).bind fun s27 => ((pV s27 160 14 31 (.ref v25)).bind fun s28 => (bnd (x_Mod_wait d 160 y s28) fun v30 s29 => (some (0, s29)))))))
def rb3 (d : Nat) : (Int32 × Int32 × HS → Option (Int32 × HS)) → Int32 × Int32 × HS → Option (Int32 × HS) := (fun (again282 : Int32 × Int32 × HS → Option (Int32 × HS)) (z282 : Int32 × Int32 × HS) => ((gI z282.2.2 160 14 20).bind fun v24 => (if v24 ≤ z282.2.1 then (rTl d z282.1 z282.2.2) else ((gR z282.2.2 160 14 17).bind fun v31 => ((aI z282.2.2 v31 z282.2.1).bind fun v32 => (again282 ((z282.1 + (3 * v32)), (z282.2.1 + 1), z282.2.2)))))))
theorem rb3_eq {d : Nat} {y : Int32} {z : Int32} {s : HS} {ag : Int32 × Int32 × HS → Option (Int32 × HS)} : rb3 d ag (y, z, s) = ((gI s 160 14 20).bind fun v24 => (if v24 ≤ z then (rTl d y s) else ((gR s 160 14 17).bind fun v31 => ((aI s v31 z).bind fun v32 => (ag ((y + (3 * v32)), (z + 1), s)))))) := rfl
def rb2 (d : Nat) : (Int32 × Int32 × HS → Option (Int32 × HS)) → Int32 × Int32 × HS → Option (Int32 × HS) := (fun (again238 : Int32 × Int32 × HS → Option (Int32 × HS)) (z238 : Int32 × Int32 × HS) => ((gR z238.2.2 160 14 30).bind fun v22 => ((gI z238.2.2 v22 13 9).bind fun v23 => (if v23 ≤ z238.2.1 then (loopK (rb3 d) FU (z238.1, 0, z238.2.2)) else ((gR z238.2.2 160 14 31).bind fun v33 => ((gR z238.2.2 160 14 30).bind fun v34 => ((gR z238.2.2 v34 13 3).bind fun v35 => ((aL z238.2.2 v35 z238.2.1).bind fun v36 => (bnd (x_State_findRoot d v33 v36 z238.2.2) fun v38 s37 => (if 0 ≤ v38 then (again238 (z238.1, (z238.2.1 + 1), s37)) else (again238 ((z238.1 + 6), (z238.2.1 + 1), s37))))))))))))
theorem rb2_eq {d : Nat} {y : Int32} {z : Int32} {s : HS} {ag : Int32 × Int32 × HS → Option (Int32 × HS)} : rb2 d ag (y, z, s) = ((gR s 160 14 30).bind fun v22 => ((gI s v22 13 9).bind fun v23 => (if v23 ≤ z then (loopK (rb3 d) FU (y, 0, s)) else ((gR s 160 14 31).bind fun v33 => ((gR s 160 14 30).bind fun v34 => ((gR s v34 13 3).bind fun v35 => ((aL s v35 z).bind fun v36 => (bnd (x_State_findRoot d v33 v36 s) fun v38 s37 => (if 0 ≤ v38 then (ag (y, (z + 1), s37)) else (ag ((y + 6), (z + 1), s37))))))))))) := rfl
def rb1 (d : Nat) : (Int32 × Int32 × HS → Option (Int32 × HS)) → Int32 × Int32 × HS → Option (Int32 × HS) := (fun (again166 : Int32 × Int32 × HS → Option (Int32 × HS)) (z166 : Int32 × Int32 × HS) => ((gR z166.2.2 160 14 31).bind fun v20 => ((gI z166.2.2 v20 13 9).bind fun v21 => (if v21 ≤ z166.2.1 then (loopK (rb2 d) FU (z166.1, 0, z166.2.2)) else ((gR z166.2.2 160 14 30).bind fun v39 => ((gR z166.2.2 160 14 31).bind fun v40 => ((gR z166.2.2 v40 13 3).bind fun v41 => ((aL z166.2.2 v41 z166.2.1).bind fun v42 => (bnd (x_State_findRoot d v39 v42 z166.2.2) fun v44 s43 => (if v44 < 0 then (again166 ((z166.1 + 6), (z166.2.1 + 1), s43)) else ((gR s43 160 14 31).bind fun v45 => ((gR s43 v45 13 6).bind fun v46 => ((gR s43 160 14 30).bind fun v47 => ((gR s43 v47 13 6).bind fun v48 => (bnd (x_Vals_isLike d v46 z166.2.1 v48 v44 s43) fun v50 s49 => (if v50 = 0 then (again166 ((z166.1 + 6), (z166.2.1 + 1), s49)) else (again166 (z166.1, (z166.2.1 + 1), s49))))))))))))))))))
theorem rb1_eq {d : Nat} {y : Int32} {z : Int32} {s : HS} {ag : Int32 × Int32 × HS → Option (Int32 × HS)} : rb1 d ag (y, z, s) = ((gR s 160 14 31).bind fun v20 => ((gI s v20 13 9).bind fun v21 => (if v21 ≤ z then (loopK (rb2 d) FU (y, 0, s)) else ((gR s 160 14 30).bind fun v39 => ((gR s 160 14 31).bind fun v40 => ((gR s v40 13 3).bind fun v41 => ((aL s v41 z).bind fun v42 => (bnd (x_State_findRoot d v39 v42 s) fun v44 s43 => (if v44 < 0 then (ag ((y + 6), (z + 1), s43)) else ((gR s43 160 14 31).bind fun v45 => ((gR s43 v45 13 6).bind fun v46 => ((gR s43 160 14 30).bind fun v47 => ((gR s43 v47 13 6).bind fun v48 => (bnd (x_Vals_isLike d v46 z v48 v44 s43) fun v50 s49 => (if v50 = 0 then (ag ((y + 6), (z + 1), s49)) else (ag (y, (z + 1), s49))))))))))))))))) := rfl
def rb0 (d : Nat) : (Int32 × Int32 × HS → Option (Int32 × HS)) → Int32 × Int32 × HS → Option (Int32 × HS) := (fun (again105 : Int32 × Int32 × HS → Option (Int32 × HS)) (z105 : Int32 × Int32 × HS) => (if 100 ≤ z105.2.1 then (loopK (rb1 d) FU (z105.1, 0, z105.2.2)) else ((gR z105.2.2 160 14 31).bind fun v51 => ((gR z105.2.2 v51 13 0).bind fun v52 => ((aI z105.2.2 v52 z105.2.1).bind fun v53 => (if v53 = 0 then (again105 (z105.1, (z105.2.1 + 1), z105.2.2)) else ((gR z105.2.2 160 14 30).bind fun v54 => ((gR z105.2.2 v54 13 0).bind fun v55 => ((aI z105.2.2 v55 z105.2.1).bind fun v56 => (if v56 = 0 then (again105 ((z105.1 + 16), (z105.2.1 + 1), z105.2.2)) else ((gR z105.2.2 160 14 31).bind fun v57 => ((gR z105.2.2 160 14 30).bind fun v58 => (bnd (x_State_isSame d v57 z105.2.1 v58 z105.2.2) fun v60 s59 => (if v60 = 0 then (again105 ((z105.1 + 16), (z105.2.1 + 1), s59)) else (again105 (z105.1, (z105.2.1 + 1), s59))))))))))))))))
theorem rb0_eq {d : Nat} {y : Int32} {z : Int32} {s : HS} {ag : Int32 × Int32 × HS → Option (Int32 × HS)} : rb0 d ag (y, z, s) = (if 100 ≤ z then (loopK (rb1 d) FU (y, 0, s)) else ((gR s 160 14 31).bind fun v51 => ((gR s v51 13 0).bind fun v52 => ((aI s v52 z).bind fun v53 => (if v53 = 0 then (ag (y, (z + 1), s)) else ((gR s 160 14 30).bind fun v54 => ((gR s v54 13 0).bind fun v55 => ((aI s v55 z).bind fun v56 => (if v56 = 0 then (ag ((y + 16), (z + 1), s)) else ((gR s 160 14 31).bind fun v57 => ((gR s 160 14 30).bind fun v58 => (bnd (x_State_isSame d v57 z v58 s) fun v60 s59 => (if v60 = 0 then (ag ((y + 16), (z + 1), s59)) else (ag (y, (z + 1), s59))))))))))))))) := rfl
section
variable {n us d r q k : Nat} {f : Nat → am_C} {b : Nat → Value} {R Q : RS} {S T : SC} {A : TAr} {TT : Nat → TI}
theorem TA.tok (h : TA f A) (hn : 1311 ≤ n) {i : Nat} (hi : i < 200) : aI (n, f, us) 174 (nI i) = some (A.2 174 i) := by
  have b0 := cl0 (show i < 2 ^ 31 by omega)
  rw [aI_of (s := (n, f, us)) (h.2 174 (by decide) (by decide)) (by decide) (show 174 < n by omega) b0.1 (by rw [b0.2]; omega), b0.2]
theorem rb3_L (hn : 1311 ≤ n) (O : OM f b) (b17 : b 17 = .ref 174) (b20 : b 20 = .int (nI k)) (hk : k < 200) (hA : TA f A) (hT : ∀ j, j < k → A.2 174 j = nI (ti_t (TT j))) (a : Nat) : ∀ m i M, i + m = k → m < M → loopK (rb3 d) M (nI (a + 3 * tkS TT i), nI i, (n, f, us)) = rTl d (nI (a + 3 * tkS TT k)) (n, f, us) := by
  intro m
  induction m with
  | zero =>
    intro i M e1 e2
    obtain ⟨M, rfl⟩ : ∃ M', M = M' + 1 := ⟨M - 1, by omega⟩
    rw [loopK_succ, rb3_eq, mo_gI O hn (by decide) b20, Option.bind_some, if_pos (nI_le (by omega) (by omega)), show i = k by omega]
  | succ m ih =>
    intro i M e1 e2
    obtain ⟨M, rfl⟩ : ∃ M', M = M' + 1 := ⟨M - 1, by omega⟩
    have k' := ih (i + 1) M (by omega) (by omega)
    rw [loopK_succ, rb3_eq, mo_gI O hn (by decide) b20, Option.bind_some, if_neg (fun w => absurd (nI_lt (a := i) (b := k) (by omega) (by omega)) (Int32.not_lt.mpr w)), mo_gR O hn (by decide) b17, Option.bind_some, hA.tok hn (by omega), Option.bind_some, hT i (by omega), show (3 : Int32) * nI (ti_t (TT i)) = nI (3 * ti_t (TT i)) from nI_mul 3 _, nI_ad2, show nI i + 1 = nI (i + 1) from nI_add i 1, ← k', tkS, show a + 3 * tkS TT i + 3 * ti_t (TT i) = a + 3 * (tkS TT i + ti_t (TT i)) by omega]
theorem rb2_L (hn : 1311 ≤ n) (O : OM f b) (b17 : b 17 = .ref 174) (b20 : b 20 = .int (nI k)) (hk : k < 200) (hA : TA f A) (hT : ∀ j, j < k → A.2 174 j = nI (ti_t (TT j))) (b30 : b 30 = .ref q) (b31 : b 31 = .ref r) (hR : RSt f r R) (r1 : 128 ≤ r) (r2 : r + 16 < n) (hQ : RSt f q Q) (q1 : 128 ≤ q) (q2 : q + 16 < n) (X : SR S R) (Y : SR T Q) (a : Nat) : ∀ m i M, i + m = T.2.2.2.2.2.2.1 → m < M → loopK (rb2 d) M (nI (a + 6 * cntB (gnR S T) i), nI i, (n, f, us)) = rTl d (nI (a + 6 * cntB (gnR S T) T.2.2.2.2.2.2.1 + 3 * tkS TT k)) (n, f, us) := by
  have e0 : f q = _ := (congrFun hQ.eq q).trans HS_0
  have e4 : f (q + 4) = aLong 12 Q.2.2.2.1 := (congrFun hQ.eq (q + 4)).trans HS_4
  have qn : q < n := by omega
  have kT : T.2.2.2.2.2.2.1 ≤ 12 := Y.2.2.1
  have kS : S.2.2.2.2.2.2.1 ≤ 12 := X.2.2.1
  intro m
  induction m with
  | zero =>
    intro i M g1 g2
    obtain ⟨M, rfl⟩ : ∃ M', M = M' + 1 := ⟨M - 1, by omega⟩
    rw [loopK_succ, rb2_eq, mo_gR O hn (by decide) b30, Option.bind_some, gI_of (s := (n, f, us)) (k := 9) (x := Q.2.2.2.2.2.2.2.2.2.1) e0 q1 qn rfl, Option.bind_some, Y.2.2.2.1, if_pos (nI_le (by omega) (by omega)), show i = T.2.2.2.2.2.2.1 by omega]
    exact rb3_L (d := d) (us := us) hn O b17 b20 hk hA hT (a + 6 * cntB (gnR S T) T.2.2.2.2.2.2.1) k 0 FU (by omega) (by rw [FU_eq]; omega)
  | succ m ih =>
    intro i M g1 g2
    obtain ⟨M, rfl⟩ : ∃ M', M = M' + 1 := ⟨M - 1, by omega⟩
    have k' := ih (i + 1) M (by omega) (by omega)
    rw [cntB] at k'
    have b0 := cl0 (show i < 2 ^ 31 by omega)
    obtain ⟨w, w1, w2, w3, w4⟩ := Y.2.2.2.2.1 i (by omega)
    have fd : s_find S.2.2.2.1 S.2.2.2.2.2.2.1 (T.2.2.2.1 i) = s_find R.2.2.2.1 S.2.2.2.2.2.2.1 (Q.2.2.2.1 i) := by rw [w2, w3]; exact SR_fr X w1
    rw [loopK_succ, rb2_eq, mo_gR O hn (by decide) b30, Option.bind_some, gI_of (s := (n, f, us)) (k := 9) (x := Q.2.2.2.2.2.2.2.2.2.1) e0 q1 qn rfl, Option.bind_some, Y.2.2.2.1, if_neg (fun w => absurd (nI_lt (a := i) (b := T.2.2.2.2.2.2.1) (by omega) (by omega)) (Int32.not_lt.mpr w)), mo_gR O hn (by decide) b31, Option.bind_some, Option.bind_some, gR_of (s := (n, f, us)) (k := 3) (x := q + 4) e0 q1 qn rfl, Option.bind_some, aL_of (s := (n, f, us)) e4 (by omega) (show q + 4 < n by omega) b0.1 (by rw [b0.2]; omega), b0.2, Option.bind_some, e_findR hR r1 r2 kS X.2.2.2.1, bnd_some, ← fd, show nI i + 1 = nI (i + 1) from nI_add i 1]
    by_cases c : s_find S.2.2.2.1 S.2.2.2.2.2.2.1 (T.2.2.2.1 i) < 0
    · rw [if_pos (show gnR S T i = true from decide_eq_true c)] at k'
      rw [if_neg (Int32.not_le.mpr c), show (6 : Int32) = nI 6 from rfl, nI_ad2, ← k', show a + 6 * cntB (gnR S T) i + 6 = a + 6 * (cntB (gnR S T) i + 1) by omega]
    · rw [if_neg (show ¬ gnR S T i = true from fun w => c (of_decide_eq_true w))] at k'
      rw [if_pos (Int32.not_lt.mp c)]
      exact k'
theorem rb1_L (hn : 1311 ≤ n) (O : OM f b) (b17 : b 17 = .ref 174) (b20 : b 20 = .int (nI k)) (hk : k < 200) (hA : TA f A) (hT : ∀ j, j < k → A.2 174 j = nI (ti_t (TT j))) (b30 : b 30 = .ref q) (b31 : b 31 = .ref r) (hR : RSt f r R) (r1 : 128 ≤ r) (r2 : r + 16 < n) (hQ : RSt f q Q) (q1 : 128 ≤ q) (q2 : q + 16 < n) (X : SR S R) (Y : SR T Q) (K : KM Q.1 R.1) (a : Nat) : ∀ m i M, i + m = S.2.2.2.2.2.2.1 → m < M → loopK (rb1 d) M (nI (a + 6 * cntB (chR S T) i), nI i, (n, f, us)) = rTl d (nI (a + 6 * cntB (chR S T) S.2.2.2.2.2.2.1 + 6 * cntB (gnR S T) T.2.2.2.2.2.2.1 + 3 * tkS TT k)) (n, f, us) := by
  have c0 : f r = _ := (congrFun hR.eq r).trans HS_0
  have c4 : f (r + 4) = aLong 12 R.2.2.2.1 := (congrFun hR.eq (r + 4)).trans HS_4
  have e0 : f q = _ := (congrFun hQ.eq q).trans HS_0
  have V : VA (n, f, us) (r + 11) 12 (rVl R) := ⟨⟨(congrFun hR.eq (r + 11)).trans HS_11, (congrFun hR.eq (r + 12)).trans HS_12, (congrFun hR.eq (r + 13)).trans HS_13, (congrFun hR.eq (r + 14)).trans HS_14, (congrFun hR.eq (r + 15)).trans HS_15⟩, by omega, by show r + 11 + 4 < n; omega, by decide⟩
  have W : VA (n, f, us) (q + 11) 12 (rVl Q) := ⟨⟨(congrFun hQ.eq (q + 11)).trans HS_11, (congrFun hQ.eq (q + 12)).trans HS_12, (congrFun hQ.eq (q + 13)).trans HS_13, (congrFun hQ.eq (q + 14)).trans HS_14, (congrFun hQ.eq (q + 15)).trans HS_15⟩, by omega, by show q + 11 + 4 < n; omega, by decide⟩
  have rn : r < n := by omega
  have qn : q < n := by omega
  have kT : T.2.2.2.2.2.2.1 ≤ 12 := Y.2.2.1
  have kS : S.2.2.2.2.2.2.1 ≤ 12 := X.2.2.1
  intro m
  induction m with
  | zero =>
    intro i M g1 g2
    obtain ⟨M, rfl⟩ : ∃ M', M = M' + 1 := ⟨M - 1, by omega⟩
    rw [loopK_succ, rb1_eq, mo_gR O hn (by decide) b31, Option.bind_some, gI_of (s := (n, f, us)) (k := 9) (x := R.2.2.2.2.2.2.2.2.2.1) c0 r1 rn rfl, Option.bind_some, X.2.2.2.1, if_pos (nI_le (by omega) (by omega)), show i = S.2.2.2.2.2.2.1 by omega]
    exact rb2_L (d := d) (us := us) hn O b17 b20 hk hA hT b30 b31 hR r1 r2 hQ q1 q2 X Y (a + 6 * cntB (chR S T) S.2.2.2.2.2.2.1) T.2.2.2.2.2.2.1 0 FU (by omega) (by rw [FU_eq]; omega)
  | succ m ih =>
    intro i M g1 g2
    obtain ⟨M, rfl⟩ : ∃ M', M = M' + 1 := ⟨M - 1, by omega⟩
    have k' := ih (i + 1) M (by omega) (by omega)
    rw [cntB] at k'
    have b0 := cl0 (show i < 2 ^ 31 by omega)
    obtain ⟨w, w1, w2, w3, w4, _⟩ := X.2.2.2.2.1 i (by omega)
    have fd : s_find T.2.2.2.1 T.2.2.2.2.2.2.1 (S.2.2.2.1 i) = s_find Q.2.2.2.1 T.2.2.2.2.2.2.1 (R.2.2.2.1 i) := by rw [w2, w3]; exact SR_fr Y w1
    have inc : nI (a + 6 * cntB (chR S T) i) + 6 = nI (a + 6 * (cntB (chR S T) i + 1)) := by
      rw [show (6 : Int32) = nI 6 from rfl, nI_ad2, show a + 6 * cntB (chR S T) i + 6 = a + 6 * (cntB (chR S T) i + 1) by omega]
    rw [loopK_succ, rb1_eq, mo_gR O hn (by decide) b31, Option.bind_some, gI_of (s := (n, f, us)) (k := 9) (x := R.2.2.2.2.2.2.2.2.2.1) c0 r1 rn rfl, Option.bind_some, X.2.2.2.1, if_neg (fun w => absurd (nI_lt (a := i) (b := S.2.2.2.2.2.2.1) (by omega) (by omega)) (Int32.not_lt.mpr w)), mo_gR O hn (by decide) b30, Option.bind_some, Option.bind_some, gR_of (s := (n, f, us)) (k := 3) (x := r + 4) c0 r1 rn rfl, Option.bind_some, aL_of (s := (n, f, us)) c4 (by omega) (show r + 4 < n by omega) b0.1 (by rw [b0.2]; omega), b0.2, Option.bind_some, e_findR hQ q1 q2 kT Y.2.2.2.1, bnd_some, ← fd, show nI i + 1 = nI (i + 1) from nI_add i 1, inc]
    rcases find_or (g := T.2.2.2.1) (k := T.2.2.2.2.2.2.1) (y := S.2.2.2.1 i) (by omega) with c | ⟨j, hj, c, _⟩
    · rw [if_pos (show chR S T i = true from decide_eq_true (Or.inl c))] at k'
      rw [if_pos c]
      exact k'
    · have nn : ¬ s_find T.2.2.2.1 T.2.2.2.2.2.2.1 (S.2.2.2.1 i) < 0 := by rw [c]; exact nI_pos (by omega)
      have cj : (s_find T.2.2.2.1 T.2.2.2.2.2.2.1 (S.2.2.2.1 i)).toNatClampNeg = j := by rw [c]; exact nI_clamp (by omega)
      obtain ⟨w', _, _, _, v4, _⟩ := Y.2.2.2.2.1 j hj
      have sm := VR.same w4 (v4.mono K)
      rw [if_neg nn, c, mo_gR O hn (by decide) b31, Option.bind_some, gR_of (s := (n, f, us)) (k := 6) (x := r + 11) c0 r1 rn rfl, Option.bind_some, mo_gR O hn (by decide) b30, Option.bind_some, gR_of (s := (n, f, us)) (k := 6) (x := q + 11) e0 q1 qn rfl, Option.bind_some, e_lik V (show i < 12 by omega) W (show j < 12 by omega), bnd_some]
      by_cases e : (rVl R i).1 = (rVl Q j).1 ∧ (rVl R i).2.1 = (rVl Q j).2.1 ∧ (rVl R i).2.2.1 = (rVl Q j).2.2.1 ∧ (rVl R i).2.2.2 = (rVl Q j).2.2.2
      · have s1 := sm.mpr e
        rw [if_neg (show ¬ chR S T i = true from fun w => by
          rcases of_decide_eq_true w with w | w
          · exact nn w
          · rw [cj] at w
            exact w ⟨s1.1.symm, s1.2.symm⟩)] at k'
        rw [if_pos e, if_neg (show ¬ (1 : Int32) = 0 by decide)]
        exact k'
      · rw [if_pos (show chR S T i = true from decide_eq_true (Or.inr (by rw [cj]; exact fun w => e (sm.mp ⟨w.1.symm, w.2.symm⟩))))] at k'
        rw [if_neg e, if_pos rfl]
        exact k'
theorem rb0_L (hn : 1311 ≤ n) (O : OM f b) (b17 : b 17 = .ref 174) (b20 : b 20 = .int (nI k)) (hk : k < 200) (hA : TA f A) (hT : ∀ j, j < k → A.2 174 j = nI (ti_t (TT j))) (b30 : b 30 = .ref q) (b31 : b 31 = .ref r) (hR : RSt f r R) (r1 : 128 ≤ r) (r2 : r + 16 < n) (hQ : RSt f q Q) (q1 : 128 ≤ q) (q2 : q + 16 < n) (X : SR S R) (Y : SR T Q) (K : KM Q.1 R.1) : ∀ m i M, i + m = 100 → m < M → loopK (rb0 (d + 1)) M (nI (8 + 16 * cntB (chO S T) i), nI i, (n, f, us)) = rTl (d + 1) (nI (8 + 16 * cntB (chO S T) 100 + 6 * cntB (chR S T) S.2.2.2.2.2.2.1 + 6 * cntB (gnR S T) T.2.2.2.2.2.2.1 + 3 * tkS TT k)) (n, f, us) := by
  have c0 : f r = _ := (congrFun hR.eq r).trans HS_0
  have c1 : f (r + 1) = aInt 100 R.1 := (congrFun hR.eq (r + 1)).trans HS_1
  have e0 : f q = _ := (congrFun hQ.eq q).trans HS_0
  have e1 : f (q + 1) = aInt 100 Q.1 := (congrFun hQ.eq (q + 1)).trans HS_1
  have rn : r < n := by omega
  have qn : q < n := by omega
  have kS : S.2.2.2.2.2.2.1 ≤ 12 := X.2.2.1
  intro m
  induction m with
  | zero =>
    intro i M g1 g2
    obtain ⟨M, rfl⟩ : ∃ M', M = M' + 1 := ⟨M - 1, by omega⟩
    rw [loopK_succ, rb0_eq, if_pos (show (100 : Int32) ≤ nI i from nI_le (a := 100) (by omega) (by omega)), show i = 100 by omega]
    exact rb1_L (d := d + 1) (us := us) hn O b17 b20 hk hA hT b30 b31 hR r1 r2 hQ q1 q2 X Y K (8 + 16 * cntB (chO S T) 100) S.2.2.2.2.2.2.1 0 FU (by omega) (by rw [FU_eq]; omega)
  | succ m ih =>
    intro i M g1 g2
    obtain ⟨M, rfl⟩ : ∃ M', M = M' + 1 := ⟨M - 1, by omega⟩
    have k' := ih (i + 1) M (by omega) (by omega)
    rw [cntB] at k'
    have b0 := cl0 (show i < 2 ^ 31 by omega)
    have inc : nI (8 + 16 * cntB (chO S T) i) + 16 = nI (8 + 16 * (cntB (chO S T) i + 1)) := by
      rw [show (16 : Int32) = nI 16 from rfl, nI_ad2, show 8 + 16 * cntB (chO S T) i + 16 = 8 + 16 * (cntB (chO S T) i + 1) by omega]
    rw [loopK_succ, rb0_eq, if_neg (show ¬ (100 : Int32) ≤ nI i from nI_ge (b := 100) (by omega) (by omega)), mo_gR O hn (by decide) b31, Option.bind_some, gR_of (s := (n, f, us)) (k := 0) (x := r + 1) c0 r1 rn rfl, Option.bind_some, aI_of (s := (n, f, us)) c1 (by omega) (show r + 1 < n by omega) b0.1 (by rw [b0.2]; omega), b0.2, Option.bind_some, show nI i + 1 = nI (i + 1) from nI_add i 1, inc]
    by_cases cR : R.1 i = 0
    · have cS : S.2.2.1 i = -1 := by
        rcases X.1 i (by omega) with ⟨h, _⟩ | ⟨m, _, h, _⟩ | ⟨m, _, h, _⟩
        · exact h
        · exact absurd (h.symm.trans cR) (by decide)
        · exact absurd (h.symm.trans cR) (by decide)
      rw [if_neg (show ¬ chO S T i = true from fun w => (of_decide_eq_true w).1 cS)] at k'
      rw [if_pos cR]
      exact k'
    · obtain ⟨m', hm1, hm2, hm3, hm4⟩ := ch_same (o := i) X Y K (by omega) cR
      rw [if_neg cR, mo_gR O hn (by decide) b30, Option.bind_some, gR_of (s := (n, f, us)) (k := 0) (x := q + 1) e0 q1 qn rfl, Option.bind_some, aI_of (s := (n, f, us)) e1 (by omega) (show q + 1 < n by omega) b0.1 (by rw [b0.2]; omega), b0.2, Option.bind_some]
      by_cases cQ : Q.1 i = 0
      · rw [if_pos (hm4.mpr (Or.inl cQ))] at k'
        rw [if_pos cQ]
        exact k'
      · rw [if_neg cQ]
        rcases e_isSame (d := d) (us := us) hR r1 r2 hQ q1 q2 (show i < 100 by omega) hm2 hm3 hm1 with ⟨a, c⟩ | ⟨a, c⟩
        · rw [if_neg (show ¬ chO S T i = true from fun w => by
            rcases hm4.mp w with w | w
            · exact cQ w
            · exact w c)] at k'
          rw [Option.bind_some, Option.bind_some, a, bnd_some, if_neg (show ¬ (1 : Int32) = 0 by decide)]
          exact k'
        · rw [if_pos (hm4.mpr (Or.inr c))] at k'
          rw [Option.bind_some, Option.bind_some, a, bnd_some, if_pos rfl]
          exact k'
/-- as many bytes as the class -/
theorem e_rBytes (hn : 1311 ≤ n) (O : OM f b) (b17 : b 17 = .ref 174) (b20 : b 20 = .int (nI k)) (hk : k < 200) (hA : TA f A) (hT : ∀ j, j < k → A.2 174 j = nI (ti_t (TT j))) (b30 : b 30 = .ref q) (b31 : b 31 = .ref r) (hR : RSt f r R) (r1 : 128 ≤ r) (r2 : r + 16 < n) (hQ : RSt f q Q) (q1 : 128 ≤ q) (q2 : q + 16 < n) (X : SR S R) (Y : SR T Q) (K : KM Q.1 R.1) : x_Mod_run_b81 (d + 1) 160 0 (n, f, us) = rTl (d + 1) (nI (8 + 16 * cntB (chO S T) 100 + 6 * (cntB (chR S T) S.2.2.2.2.2.2.1 + cntB (gnR S T) T.2.2.2.2.2.2.1) + 3 * tkS TT k)) (n, f, us) := by
  have e : x_Mod_run_b81 (d + 1) 160 0 (n, f, us) = loopK (rb0 (d + 1)) FU (nI (8 + 16 * cntB (chO S T) 0), nI 0, (n, f, us)) := by
    unfold x_Mod_run_b81
    rw [if_pos rfl]
    rfl
  rw [e, rb0_L hn O b17 b20 hk hA hT b30 b31 hR r1 r2 hQ q1 q2 X Y K 100 0 FU rfl (by rw [FU_eq]; decide), show 8 + 16 * cntB (chO S T) 100 + 6 * cntB (chR S T) S.2.2.2.2.2.2.1 + 6 * cntB (gnR S T) T.2.2.2.2.2.2.1 + 3 * tkS TT k = 8 + 16 * cntB (chO S T) 100 + 6 * (cntB (chR S T) S.2.2.2.2.2.2.1 + cntB (gnR S T) T.2.2.2.2.2.2.1) + 3 * tkS TT k by omega]
end
