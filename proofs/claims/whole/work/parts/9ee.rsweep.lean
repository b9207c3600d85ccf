/-! sweep: the reference -/
abbrev AgI : Type := Int32 × HS → Option (Int32 × HS)
def rs4 (d : Nat) : (Int32 × Int32 × HS → Option (Int32 × HS)) → Int32 × Int32 × HS → Option (Int32 × HS) := (fun (again146 : Int32 × Int32 × HS → Option (Int32 × HS)) (z146 : Int32 × Int32 × HS) => (if 100 ≤ z146.2.1 then (if z146.1 ≤ 0 then (some (z146.1, z146.2.2)) else (bnd (x_Mod_wait d 160 8 z146.2.2) fun v9 s8 => (some (z146.1, s8)))) else ((gR z146.2.2 160 14 30).bind fun v10 => ((gR z146.2.2 v10 13 0).bind fun v11 => ((aI z146.2.2 v11 z146.2.1).bind fun v12 => (if v12 = 0 then (again146 (z146.1, (z146.2.1 + 1), z146.2.2)) else ((gR z146.2.2 160 14 50).bind fun v13 => ((aZ z146.2.2 v13 z146.2.1).bind fun v14 => (if v14 = 0 then ((gR z146.2.2 160 14 30).bind fun v15 => ((gR z146.2.2 v15 13 0).bind fun v16 => ((sV z146.2.2 .int v16 z146.2.1 (.int 0)).bind fun s17 => ((gR s17 160 14 30).bind fun v18 => ((gR s17 v18 13 1).bind fun v19 => ((sV s17 .int v19 z146.2.1 (.int 0)).bind fun s20 => ((gR s20 160 14 30).bind fun v21 => ((gI s20 v21 13 8).bind fun v22 => ((pV s20 v21 13 8 (.int (v22 - 1))).bind fun s23 => (again146 ((z146.1 + 1), (z146.2.1 + 1), s23))))))))))) else (again146 (z146.1, (z146.2.1 + 1), z146.2.2)))))))))))
theorem rs4_eq {d : Nat} {y : Int32} {z : Int32} {s : HS} {ag : Int32 × Int32 × HS → Option (Int32 × HS)} : rs4 d ag (y, z, s) = (if 100 ≤ z then (if y ≤ 0 then (some (y, s)) else (bnd (x_Mod_wait d 160 8 s) fun v9 s8 => (some (y, s8)))) else ((gR s 160 14 30).bind fun v10 => ((gR s v10 13 0).bind fun v11 => ((aI s v11 z).bind fun v12 => (if v12 = 0 then (ag (y, (z + 1), s)) else ((gR s 160 14 50).bind fun v13 => ((aZ s v13 z).bind fun v14 => (if v14 = 0 then ((gR s 160 14 30).bind fun v15 => ((gR s v15 13 0).bind fun v16 => ((sV s .int v16 z (.int 0)).bind fun s17 => ((gR s17 160 14 30).bind fun v18 => ((gR s17 v18 13 1).bind fun v19 => ((sV s17 .int v19 z (.int 0)).bind fun s20 => ((gR s20 160 14 30).bind fun v21 => ((gI s20 v21 13 8).bind fun v22 => ((pV s20 v21 13 8 (.int (v22 - 1))).bind fun s23 => (ag ((y + 1), (z + 1), s23))))))))))) else (ag (y, (z + 1), s)))))))))) := rfl
def rs3 (d : Nat) (ag2 : AgI) (l v25 : Int32) : (Int32 × HS → Option (Int32 × HS)) → Int32 × HS → Option (Int32 × HS) := (fun (again82 : Int32 × HS → Option (Int32 × HS)) (z82 : Int32 × HS) => ((gR z82.2 160 14 30).bind fun v26 => ((gR z82.2 v26 13 1).bind fun v27 => ((gR z82.2 160 14 51).bind fun v28 => ((aI z82.2 v28 l).bind fun v29 => ((aI z82.2 v27 v29).bind fun v30 => (if ((20 * v25) + v30) ≤ z82.1 then (ag2 ((l + 1), z82.2)) else ((gR z82.2 160 14 30).bind fun v31 => ((gR z82.2 v31 13 5).bind fun v32 => ((gR z82.2 v32 11 0).bind fun v33 => ((aI z82.2 v33 z82.1).bind fun v34 => ((gR z82.2 160 14 30).bind fun v35 => ((gR z82.2 v35 13 5).bind fun v36 => ((gR z82.2 v36 11 2).bind fun v37 => ((aL z82.2 v37 z82.1).bind fun v38 => (bnd (x_Mod_reach d 160 v34 v38 z82.2) fun v40 s39 => (again82 ((z82.1 + 1), s39))))))))))))))))))
theorem rs3_eq {d : Nat} {ag2 : AgI} {l v25 : Int32} {z : Int32} {s : HS} {ag : Int32 × HS → Option (Int32 × HS)} : rs3 d ag2 l v25 ag (z, s) = ((gR s 160 14 30).bind fun v26 => ((gR s v26 13 1).bind fun v27 => ((gR s 160 14 51).bind fun v28 => ((aI s v28 l).bind fun v29 => ((aI s v27 v29).bind fun v30 => (if ((20 * v25) + v30) ≤ z then (ag2 ((l + 1), s)) else ((gR s 160 14 30).bind fun v31 => ((gR s v31 13 5).bind fun v32 => ((gR s v32 11 0).bind fun v33 => ((aI s v33 z).bind fun v34 => ((gR s 160 14 30).bind fun v35 => ((gR s v35 13 5).bind fun v36 => ((gR s v36 11 2).bind fun v37 => ((aL s v37 z).bind fun v38 => (bnd (x_Mod_reach d 160 v34 v38 s) fun v40 s39 => (ag ((z + 1), s39))))))))))))))))) := rfl
def rs2 (d : Nat) : (Int32 × HS → Option (Int32 × HS)) → Int32 × HS → Option (Int32 × HS) := (fun (again62 : Int32 × HS → Option (Int32 × HS)) (z62 : Int32 × HS) => ((gI z62.2 160 14 52).bind fun v7 => (if v7 ≤ z62.1 then (loopK (rs4 d) FU (0, 0, z62.2)) else ((gR z62.2 160 14 51).bind fun v24 => ((aI z62.2 v24 z62.1).bind fun v25 => (loopK (rs3 d again62 z62.1 v25) FU ((20 * v25), z62.2)))))))
theorem rs2_eq {d : Nat} {z : Int32} {s : HS} {ag : Int32 × HS → Option (Int32 × HS)} : rs2 d ag (z, s) = ((gI s 160 14 52).bind fun v7 => (if v7 ≤ z then (loopK (rs4 d) FU (0, 0, s)) else ((gR s 160 14 51).bind fun v24 => ((aI s v24 z).bind fun v25 => (loopK (rs3 d ag z v25) FU ((20 * v25), s)))))) := rfl
def rs1 (d : Nat) : (Int32 × HS → Option (Int32 × HS)) → Int32 × HS → Option (Int32 × HS) := (fun (again15 : Int32 × HS → Option (Int32 × HS)) (z15 : Int32 × HS) => ((gR z15.2 160 14 30).bind fun v5 => ((gI z15.2 v5 13 9).bind fun v6 => (if v6 ≤ z15.1 then (loopK (rs2 d) FU (0, z15.2)) else ((gR z15.2 160 14 30).bind fun v41 => ((gR z15.2 v41 13 6).bind fun v42 => ((gR z15.2 v42 11 0).bind fun v43 => ((aI z15.2 v43 z15.1).bind fun v44 => ((gR z15.2 160 14 30).bind fun v45 => ((gR z15.2 v45 13 6).bind fun v46 => ((gR z15.2 v46 11 2).bind fun v47 => ((aL z15.2 v47 z15.1).bind fun v48 => (bnd (x_Mod_reach d 160 v44 v48 z15.2) fun v50 s49 => (again15 ((z15.1 + 1), s49)))))))))))))))
theorem rs1_eq {d : Nat} {z : Int32} {s : HS} {ag : Int32 × HS → Option (Int32 × HS)} : rs1 d ag (z, s) = ((gR s 160 14 30).bind fun v5 => ((gI s v5 13 9).bind fun v6 => (if v6 ≤ z then (loopK (rs2 d) FU (0, s)) else ((gR s 160 14 30).bind fun v41 => ((gR s v41 13 6).bind fun v42 => ((gR s v42 11 0).bind fun v43 => ((aI s v43 z).bind fun v44 => ((gR s 160 14 30).bind fun v45 => ((gR s v45 13 6).bind fun v46 => ((gR s v46 11 2).bind fun v47 => ((aL s v47 z).bind fun v48 => (bnd (x_Mod_reach d 160 v44 v48 s) fun v50 s49 => (ag ((z + 1), s49)))))))))))))) := rfl
def HRp (f : Nat → am_C) (b : Nat → Value) (X : SWs) : Nat → am_C := fun x => if x = 160 then .inr (14, (List.range 53).map (updV b 52 (.int (nI X.2.2)))) else if x = 263 then .inl (.boolean, 100, fun j => .int (X.1 j)) else if x = 264 then aInt 100 X.2.1 else f x
section
variable {n us d i o r k l nw : Nat} {f : Nat → am_C} {b : Nat → Value} {X : SWs} {kd : Nat → Int32} {v : V2} {q : VQ} {S : SC} {R : RS}
theorem HR_off {x : Nat} (h0 : ¬ x = 160) (h1 : ¬ x = 263) (h2 : ¬ x = 264) : HRp f b X x = f x := by
  unfold HRp
  rw [if_neg h0, if_neg h1, if_neg h2]
theorem HR_0 : OM (HRp f b X) (updV b 52 (.int (nI X.2.2))) := rfl
theorem HR_8 (f : Nat → am_C) (b : Nat → Value) (X : SWs) : HRp f b X 263 = .inl (.boolean, 100, fun j => .int (X.1 j)) := rfl
theorem HR_9 (f : Nat → am_C) (b : Nat → Value) (X : SWs) : HRp f b X 264 = aInt 100 X.2.1 := rfl
theorem HRu_0 {k : Nat} : va_up (HRp f b X) 160 (.inr (14, (List.range 53).map (updV b 52 (.int (nI k))))) = HRp f b (X.1, X.2.1, k) := by
  funext x
  by_cases h : x = 160
  · rw [h, va_up_self]
    rfl
  · rw [va_up_ne _ _ h]
    unfold HRp
    rw [if_neg h, if_neg h]
theorem HRu_8 {g : Nat → Int32} : va_up (HRp f b X) 263 (.inl (.boolean, 100, fun j => .int (g j))) = HRp f b (g, X.2) := by
  funext x
  by_cases h : x = 263
  · rw [h, va_up_self]
    rfl
  · rw [va_up_ne _ _ h]
    unfold HRp
    rw [if_neg h, if_neg h]
theorem HRu_9 {g : Nat → Int32} : va_up (HRp f b X) 264 (aInt 100 g) = HRp f b (X.1, g, X.2.2) := by
  funext x
  by_cases h : x = 264
  · rw [h, va_up_self]
    rfl
  · rw [va_up_ne _ _ h]
    unfold HRp
    rw [if_neg h, if_neg h]
theorem hr_st {X : SWs} (h : RSt f nw R) (hw : nw = 187 ∨ nw = 204) : RSt (HRp f b X) nw R := h.keep (fun x h1 h2 => HR_off (by omega) (by omega) (by omega))
theorem b52 (h : ¬ k = 52) {v : Value} (e : b k = v) {w : Value} : updV b 52 w k = v := (ub_ne h).trans e
theorem uu52 {v w : Value} : updV (updV b 52 v) 52 w = updV b 52 w := by
  funext j
  unfold updV
  by_cases c : j = 52
  · rw [if_pos c, if_pos c]
  · rw [if_neg c, if_neg c, if_neg c]
theorem e_mReach (hn : 1311 ≤ n) (b50 : b 50 = .ref 263) (b51 : b 51 = .ref 264) (I : SWI X) (V : VR kd v q) : x_Mod_reach d 160 q.1 q.2.2.1 (n, HRp f b X, us) = some ((), (n, HRp f b (rchQ X q), us)) := by
  unfold x_Mod_reach
  rw [mo_gd HR_0 hn]
  rcases V.ob (h := v.1) (t := v.2) (X := X) with ⟨c, e⟩ | ⟨c, e, o, ho, _, t1, _, e2⟩
  · unfold rchQ
    rw [if_pos c, if_pos c]
  · have b0 := cl0 (show o < 2 ^ 31 by omega)
    have a3 := (obj100 o ho).2.2
    have I1 := I.one ho
    rw [if_neg c, mo_gR HR_0 hn (by decide) (b52 (by decide) b50), Option.bind_some, t1, a3, aZ_of (s := (n, HRp f b X, us)) (HR_8 f b X) (by decide) (show 263 < n by omega) b0.1 (by rw [b0.2]; exact ho), b0.2, Option.bind_some, e2]
    unfold rch
    by_cases c0 : X.1 o = 0
    · have lt := I1.2 c0
      have bk := cl0 (show X.2.2 < 2 ^ 31 by omega)
      rw [if_pos c0, if_pos c0, Option.bind_some, sZ_of (s := (n, HRp f b X, us)) (Or.inr rfl) (HR_8 f b X) (by decide) (show 263 < n by omega) b0.1 (by rw [b0.2]; exact ho), b0.2, Option.bind_some]
      dsimp only
      rw [HRu_8, mo_gR HR_0 hn (by decide) (b52 (by decide) b51), Option.bind_some, mo_gI HR_0 hn (by decide) ub_self, Option.bind_some, sI_of (s := (n, HRp f b (upI X.1 o 1, X.2), us)) (HR_9 f b _) (by decide) (show 264 < n by omega) bk.1 (by rw [bk.2]; exact lt), bk.2, Option.bind_some]
      dsimp only
      rw [HRu_9, mo_gI HR_0 hn (by decide) ub_self, Option.bind_some, show nI (upI X.1 o 1, upI X.2.1 X.2.2 (nI o), X.2.2).2.2 + 1 = nI (X.2.2 + 1) from nI_add _ 1, mo_pV HR_0 hn (by decide), Option.bind_some, uu52]
      exact congrArg (fun F => some ((), (n, F, us))) HRu_0
    · rw [if_neg c0, if_neg c0]
theorem rch_keep (hl : l < X.2.2) : (rch X o).2.1 l = X.2.1 l ∧ l < (rch X o).2.2 := by
  unfold rch
  by_cases c : X.1 o = 0
  · rw [if_pos c]
    refine ⟨?_, show l < X.2.2 + 1 by omega⟩
    show upI X.2.1 X.2.2 (nI o) l = _
    unfold upI
    rw [if_neg (by omega)]
  · rw [if_neg c]
    exact ⟨rfl, hl⟩
theorem rchQ_keep (hl : l < X.2.2) : (rchQ X q).2.1 l = X.2.1 l ∧ l < (rchQ X q).2.2 := by
  unfold rchQ
  by_cases c : q.1 < 3
  · rw [if_pos c]
    exact ⟨rfl, hl⟩
  · rw [if_neg c]
    exact rch_keep hl
theorem SR.items (Q : SR S R) (ho : o < 100) (hk : ¬ R.1 o = 0) : ∃ m, m ≤ 20 ∧ R.2.1 o = nI m ∧ ∀ j, j < m → ∃ v, VR R.1 v (rIt R (20 * o + j)) := by
  rcases Q.1 o ho with ⟨_, h2⟩ | ⟨m, h1, h2, h3, h4, h5⟩ | ⟨m, h1, h2, h3, h4, h5⟩
  · exact absurd h2 hk
  · exact ⟨m, h1, h4, fun j hj => ⟨_, h5 j hj⟩⟩
  · exact ⟨m, by omega, h4, fun j hj => ⟨_, (h5 j hj).2⟩⟩
theorem rs3_L {ag2 : AgI} (hn : 1311 ≤ n) (b30 : b 30 = .ref nw) (b50 : b 50 = .ref 263) (b51 : b 51 = .ref 264) (hw : nw = 187 ∨ nw = 204) (hN : RSt f nw R) (ho : o < 100) {m : Nat} (hm : m ≤ 20) (em : R.2.1 o = nI m) (V : ∀ j, j < m → ∃ v, VR R.1 v (rIt R (20 * o + j))) : ∀ k i M (X : SWs), i + k = m → k < M → SWJ R X → l < X.2.2 → X.2.1 l = nI o → loopK (rs3 d ag2 (nI l) (nI o)) M (nI (20 * o + i), (n, HRp f b X, us)) = ag2 (nI (l + 1), (n, HRp f b (rOs R o k i X), us)) ∧ SWJ R (rOs R o k i X) := by
  intro k
  induction k with
  | zero =>
    intro i M X e1 e2 I hl el
    obtain ⟨M, rfl⟩ : ∃ M', M = M' + 1 := ⟨M - 1, by omega⟩
    have le := I.1.le
    have bl := cl0 (show l < 2 ^ 31 by omega)
    have bo := cl0 (show o < 2 ^ 31 by omega)
    have N1 : RSt (HRp f b X) nw R := hr_st hN hw
    have c0 : HRp f b X nw = _ := (congrFun N1.eq nw).trans HS_0
    have c2 : HRp f b X (nw + 2) = aInt 100 R.2.1 := (congrFun N1.eq (nw + 2)).trans HS_2
    refine ⟨?_, I⟩
    rw [loopK_succ, rs3_eq, mo_gR HR_0 hn (by decide) (b52 (by decide) b30), Option.bind_some, gR_of (s := (n, HRp f b X, us)) (k := 1) (x := nw + 2) c0 (by omega) (show nw < n by omega) rfl, Option.bind_some, mo_gR HR_0 hn (by decide) (b52 (by decide) b51), Option.bind_some, aI_of (s := (n, HRp f b X, us)) (HR_9 f b X) (by decide) (show 264 < n by omega) bl.1 (by rw [bl.2]; omega), bl.2, Option.bind_some, el, aI_of (s := (n, HRp f b X, us)) c2 (by omega) (show nw + 2 < n by omega) bo.1 (by rw [bo.2]; omega), bo.2, Option.bind_some, em, show (20 : Int32) * nI o = nI (20 * o) from nI_mul 20 o, nI_ad2, if_pos (nI_le (by omega) (by omega)), show nI l + 1 = nI (l + 1) from nI_add l 1]
    rfl
  | succ k ih =>
    intro i M X e1 e2 I hl el
    obtain ⟨M, rfl⟩ : ∃ M', M = M' + 1 := ⟨M - 1, by omega⟩
    have le := I.1.le
    have bl := cl0 (show l < 2 ^ 31 by omega)
    have bo := cl0 (show o < 2 ^ 31 by omega)
    have bi := cl0 (show 20 * o + i < 2 ^ 31 by omega)
    have N1 : RSt (HRp f b X) nw R := hr_st hN hw
    have c0 : HRp f b X nw = _ := (congrFun N1.eq nw).trans HS_0
    have c2 : HRp f b X (nw + 2) = aInt 100 R.2.1 := (congrFun N1.eq (nw + 2)).trans HS_2
    have c6 : HRp f b X (nw + 6) = _ := (congrFun N1.eq (nw + 6)).trans HS_6
    have c7 : HRp f b X (nw + 7) = _ := (congrFun N1.eq (nw + 7)).trans HS_7
    have c9 : HRp f b X (nw + 9) = _ := (congrFun N1.eq (nw + 9)).trans HS_9
    obtain ⟨v, vr⟩ := V i (by omega)
    have kp := rchQ_keep (q := rIt R (20 * o + i)) hl
    have z := ih (i + 1) M (rchQ X (rIt R (20 * o + i))) (by omega) (by omega) (I.val (h := v.1) (t := v.2) vr) kp.2 (kp.1.trans el)
    rw [loopK_succ, rs3_eq, mo_gR HR_0 hn (by decide) (b52 (by decide) b30), Option.bind_some, gR_of (s := (n, HRp f b X, us)) (k := 1) (x := nw + 2) c0 (by omega) (show nw < n by omega) rfl, Option.bind_some, mo_gR HR_0 hn (by decide) (b52 (by decide) b51), Option.bind_some, aI_of (s := (n, HRp f b X, us)) (HR_9 f b X) (by decide) (show 264 < n by omega) bl.1 (by rw [bl.2]; omega), bl.2, Option.bind_some, el, aI_of (s := (n, HRp f b X, us)) c2 (by omega) (show nw + 2 < n by omega) bo.1 (by rw [bo.2]; omega), bo.2, Option.bind_some, em, show (20 : Int32) * nI o = nI (20 * o) from nI_mul 20 o, nI_ad2, if_neg (fun w => absurd (nI_lt (a := 20 * o + i) (b := 20 * o + m) (by omega) (by omega)) (Int32.not_lt.mpr w)), Option.bind_some, gR_of (s := (n, HRp f b X, us)) (k := 5) (x := nw + 6) c0 (by omega) (show nw < n by omega) rfl, Option.bind_some, gR_of (s := (n, HRp f b X, us)) (k := 0) (x := nw + 7) c6 (by omega) (show nw + 6 < n by omega) rfl, Option.bind_some, aI_of (s := (n, HRp f b X, us)) c7 (by omega) (show nw + 7 < n by omega) bi.1 (by rw [bi.2]; omega), bi.2, Option.bind_some, Option.bind_some, gR_of (s := (n, HRp f b X, us)) (k := 5) (x := nw + 6) c0 (by omega) (show nw < n by omega) rfl, Option.bind_some, gR_of (s := (n, HRp f b X, us)) (k := 2) (x := nw + 9) c6 (by omega) (show nw + 6 < n by omega) rfl, Option.bind_some, aL_of (s := (n, HRp f b X, us)) c9 (by omega) (show nw + 9 < n by omega) bi.1 (by rw [bi.2]; omega), bi.2, Option.bind_some, e_mReach (q := rIt R (20 * o + i)) hn b50 b51 I.1 vr, bnd_some, show nI (20 * o + i) + 1 = nI (20 * o + (i + 1)) from nI_add _ 1]
    exact z
/-- the State after the first i OBJECTS have been looked at -/
def mwR (R : RS) (X : SWs) (i : Nat) : RS := ((fun o => if o < i ∧ swG R X o = true then 0 else R.1 o), (fun o => if o < i ∧ swG R X o = true then 0 else R.2.1 o), R.2.2.1, R.2.2.2.1, R.2.2.2.2.1, R.2.2.2.2.2.1, R.2.2.2.2.2.2.1, R.2.2.2.2.2.2.2.1, R.2.2.2.2.2.2.2.2.1 - nI (cntB (swG R X) i), R.2.2.2.2.2.2.2.2.2)
/-- how the sweep ends: nothing gone, or a place more that waits -/
def swE (d c : Nat) (s : HS) : Option (Int32 × HS) := if nI c ≤ 0 then some (nI c, s) else bnd (x_Mod_wait d 160 8 s) fun _ s8 => some (nI c, s8)
theorem sub_1 {x : Int32} {a : Nat} : x - nI a - 1 = x - nI (a + 1) := by
  rw [← nI_add a 1]
  show x - nI a - 1 = x - (nI a + 1)
  grind
theorem ltS {i o : Nat} {p : Prop} (c : ¬ o = i) : (o < i + 1 ∧ p) = (o < i ∧ p) := propext ⟨fun w => ⟨by omega, w.2⟩, fun w => ⟨by omega, w.2⟩⟩
theorem rs4_L (hn : 1311 ≤ n) (b30 : b 30 = .ref nw) (b50 : b 50 = .ref 263) (hw : nw = 187 ∨ nw = 204) : ∀ m i M, i + m = 100 → m < M → loopK (rs4 d) M (nI (cntB (swG R X) i), nI i, (n, HSt (HRp f b X) nw (mwR R X i), us)) = swE d (cntB (swG R X) 100) (n, HSt (HRp f b X) nw (mwR R X 100), us) := by
  have O1 : ∀ Q, OM (HSt (HRp f b X) nw Q) (updV b 52 (.int (nI X.2.2))) := fun Q => (HS_off (by omega)).trans HR_0
  intro m
  induction m with
  | zero =>
    intro i M e1 e2
    obtain ⟨M, rfl⟩ : ∃ M', M = M' + 1 := ⟨M - 1, by omega⟩
    rw [loopK_succ, rs4_eq, if_pos (show (100 : Int32) ≤ nI i from nI_le (a := 100) (by omega) (by omega)), show i = 100 by omega]
    rfl
  | succ m ih =>
    intro i M e1 e2
    obtain ⟨M, rfl⟩ : ∃ M', M = M' + 1 := ⟨M - 1, by omega⟩
    have b0 := cl0 (show i < 2 ^ 31 by omega)
    have k := ih (i + 1) M (by omega) (by omega)
    have o8 : ∀ Q, HSt (HRp f b X) nw Q 263 = .inl (.boolean, 100, fun j => .int (X.1 j)) := fun Q => (HS_off (by omega)).trans (HR_8 f b X)
    have ii : (mwR R X i).1 i = R.1 i := if_neg (fun w => absurd w.1 (Nat.lt_irrefl _))
    have same : swG R X i = false → mwR R X (i + 1) = mwR R X i := by
      intro g
      unfold mwR
      have z : ∀ (a : Nat → Int32), (fun o => if o < i + 1 ∧ swG R X o = true then (0 : Int32) else a o) = (fun o => if o < i ∧ swG R X o = true then (0 : Int32) else a o) := fun a => funext fun o => by
        by_cases c : o = i
        · rw [c, if_neg (fun w => by rw [g] at w; exact absurd w.2 (by decide)), if_neg (fun w => absurd w.1 (Nat.lt_irrefl _))]
        · simp only [ltS c]
      rw [z, z, cntB, g]
      rfl
    rw [cntB] at k
    rw [loopK_succ, rs4_eq, if_neg (show ¬ (100 : Int32) ≤ nI i from nI_ge (b := 100) (by omega) (by omega)), mo_gR (O1 _) hn (by decide) (b52 (by decide) b30), Option.bind_some, s_r0 (by omega) (by omega), Option.bind_some, aI_of (s := (n, HSt (HRp f b X) nw (mwR R X i), us)) HS_1 (by omega) (show nw + 1 < n by omega) b0.1 (by rw [b0.2]; omega), b0.2, Option.bind_some, ii, show nI i + 1 = nI (i + 1) from nI_add i 1]
    by_cases c1 : R.1 i = 0
    · have g : swG R X i = false := decide_eq_false (fun w => w.1 c1)
      rw [if_neg (by rw [g]; decide), same g] at k
      rw [if_pos c1]
      exact k
    · rw [if_neg c1, mo_gR (O1 _) hn (by decide) (b52 (by decide) b50), Option.bind_some, aZ_of (s := (n, HSt (HRp f b X) nw (mwR R X i), us)) (o8 _) (by decide) (show 263 < n by omega) b0.1 (by rw [b0.2]; omega), b0.2, Option.bind_some]
      by_cases c0 : X.1 i = 0
      · have g : swG R X i = true := decide_eq_true ⟨c1, c0⟩
        rw [if_pos g] at k
        rw [if_pos c0, Option.bind_some, s_r0 (by omega) (by omega), Option.bind_some, sI_of (s := (n, HSt (HRp f b X) nw (mwR R X i), us)) HS_1 (by omega) (show nw + 1 < n by omega) b0.1 (by rw [b0.2]; omega), b0.2, Option.bind_some]
        dsimp only
        rw [HSu_1, mo_gR (O1 _) hn (by decide) (b52 (by decide) b30), Option.bind_some, s_r1 (by omega) (by omega), Option.bind_some, sI_of (s := (n, HSt (HRp f b X) nw _, us)) HS_2 (by omega) (show nw + 2 < n by omega) b0.1 (by rw [b0.2]; omega), b0.2, Option.bind_some]
        dsimp only
        rw [HSu_2, mo_gR (O1 _) hn (by decide) (b52 (by decide) b30), Option.bind_some, s_go (by omega) (by omega), Option.bind_some, s_po (by omega) (by omega), Option.bind_some, show nI (cntB (swG R X) i) + 1 = nI (cntB (swG R X) i + 1) from nI_add _ 1]
        refine Eq.trans (congrArg (fun Q => loopK (rs4 d) M (nI (cntB (swG R X) i + 1), nI (i + 1), (n, HSt (HRp f b X) nw Q, us))) ?_) k
        have z : ∀ (a : Nat → Int32), upI (fun o => if o < i ∧ swG R X o = true then (0 : Int32) else a o) i 0 = (fun o => if o < i + 1 ∧ swG R X o = true then (0 : Int32) else a o) := fun a => funext fun o => by
          unfold upI
          by_cases c : o = i
          · rw [if_pos c, c, if_pos ⟨by omega, g⟩]
          · simp only [if_neg c, ltS c]
        unfold mwR
        dsimp only
        rw [z, z, sub_1, cntB, if_pos g]
      · have g : swG R X i = false := decide_eq_false (fun w => c0 w.2)
        rw [if_neg (by rw [g]; decide), same g] at k
        rw [if_neg c0]
        exact k
theorem mwR_0 : mwR R X 0 = R := by
  unfold mwR
  have z : ∀ (a : Nat → Int32), (fun o => if o < 0 ∧ swG R X o = true then (0 : Int32) else a o) = a := fun a => funext fun o => if_neg (fun w => absurd w.1 (Nat.not_lt_zero _))
  rw [z, z, cntB, show R.2.2.2.2.2.2.2.2.1 - nI 0 = R.2.2.2.2.2.2.2.2.1 by
    apply Int32.toBitVec_inj.1
    rw [Int32.toBitVec_sub]
    exact BitVec.sub_zero _]
theorem rs2_L (hn : 1311 ≤ n) (b30 : b 30 = .ref nw) (b50 : b 50 = .ref 263) (b51 : b 51 = .ref 264) (hw : nw = 187 ∨ nw = 204) (hN : RSt f nw R) (Q : SR S R) : ∀ m i M (X : SWs), i + m = 100 → m < M → SWJ R X → loopK (rs2 d) M (nI i, (n, HRp f b X, us)) = swE d (cntB (swG R (rQs R m i X)) 100) (n, HSt (HRp f b (rQs R m i X)) nw (mwR R (rQs R m i X) 100), us) := by
  have fin : ∀ X : SWs, loopK (rs4 d) FU (0, 0, (n, HRp f b X, us)) = swE d (cntB (swG R X) 100) (n, HSt (HRp f b X) nw (mwR R X 100), us) := fun X => by
    have z := rs4_L (d := d) (us := us) (f := f) (X := X) (R := R) hn b30 b50 hw 100 0 FU rfl (by rw [FU_eq]; decide)
    rw [mwR_0, show HSt (HRp f b X) nw R = HRp f b X from hr_st hN hw] at z
    exact z
  intro m
  induction m with
  | zero =>
    intro i M X e1 e2 I
    obtain ⟨M, rfl⟩ : ∃ M', M = M' + 1 := ⟨M - 1, by omega⟩
    have le := I.1.le
    rw [loopK_succ, rs2_eq, mo_gI HR_0 hn (by decide) ub_self, Option.bind_some, if_pos (nI_le (by omega) (by omega)), fin]
    rfl
  | succ m ih =>
    intro i M X e1 e2 I
    obtain ⟨M, rfl⟩ : ∃ M', M = M' + 1 := ⟨M - 1, by omega⟩
    have le := I.1.le
    rw [loopK_succ, rs2_eq, mo_gI HR_0 hn (by decide) ub_self, Option.bind_some, rQs]
    by_cases c : i < X.2.2
    · obtain ⟨o, ho, eo, ko⟩ := I.2 i c
      have b0 := cl0 (show i < 2 ^ 31 by omega)
      obtain ⟨q, hq, eq, V⟩ := Q.items ho ko
      have z := rs3_L (d := d) (us := us) (ag2 := loopK (rs2 d) M) (l := i) hn b30 b50 b51 hw hN ho hq eq V q 0 FU X (by omega) (by rw [FU_eq]; omega) I c eo
      have z2 := ih (i + 1) M _ (by omega) (by omega) z.2
      rw [if_pos c, if_neg (fun w => absurd (nI_lt (a := i) (b := X.2.2) (by omega) (by omega)) (Int32.not_lt.mpr w)), mo_gR HR_0 hn (by decide) (b52 (by decide) b51), Option.bind_some, aI_of (s := (n, HRp f b X, us)) (HR_9 f b X) (by decide) (show 264 < n by omega) b0.1 (by rw [b0.2]; omega), b0.2, Option.bind_some, eo, show (20 : Int32) * nI o = nI (20 * o) from nI_mul 20 o, nI_clamp (by omega)]
      unfold rO
      rw [eq, nI_clamp (by omega)]
      exact z.1.trans z2
    · rw [if_neg c, if_pos (nI_le (by omega) (by omega)), fin]
theorem rs1_L (hn : 1311 ≤ n) (b30 : b 30 = .ref nw) (b50 : b 50 = .ref 263) (b51 : b 51 = .ref 264) (hw : nw = 187 ∨ nw = 204) (hN : RSt f nw R) (Q : SR S R) : ∀ k i M (X : SWs), i + k = S.2.2.2.2.2.2.1 → k < M → SWJ R X → loopK (rs1 d) M (nI i, (n, HRp f b X, us)) = swE d (cntB (swG R (rQs R 100 0 (rRs R k i X))) 100) (n, HSt (HRp f b (rQs R 100 0 (rRs R k i X))) nw (mwR R (rQs R 100 0 (rRs R k i X)) 100), us) := by
  have hk := Q.2.2.1
  intro k
  induction k with
  | zero =>
    intro i M X e1 e2 I
    obtain ⟨M, rfl⟩ : ∃ M', M = M' + 1 := ⟨M - 1, by omega⟩
    have N1 : RSt (HRp f b X) nw R := hr_st hN hw
    have c0 : HRp f b X nw = _ := (congrFun N1.eq nw).trans HS_0
    have z := rs2_L (d := d) (us := us) hn b30 b50 b51 hw hN Q 100 0 FU X rfl (by rw [FU_eq]; decide) I
    rw [loopK_succ, rs1_eq, mo_gR HR_0 hn (by decide) (b52 (by decide) b30), Option.bind_some, gI_of (s := (n, HRp f b X, us)) (k := 9) (x := R.2.2.2.2.2.2.2.2.2.1) c0 (by omega) (show nw < n by omega) rfl, Option.bind_some, Q.2.2.2.1, if_pos (nI_le (by omega) (by omega))]
    exact z
  | succ k ih =>
    intro i M X e1 e2 I
    obtain ⟨M, rfl⟩ : ∃ M', M = M' + 1 := ⟨M - 1, by omega⟩
    have N1 : RSt (HRp f b X) nw R := hr_st hN hw
    have c0 : HRp f b X nw = _ := (congrFun N1.eq nw).trans HS_0
    have c11 : HRp f b X (nw + 11) = _ := (congrFun N1.eq (nw + 11)).trans HS_11
    have c12 : HRp f b X (nw + 12) = _ := (congrFun N1.eq (nw + 12)).trans HS_12
    have c14 : HRp f b X (nw + 14) = _ := (congrFun N1.eq (nw + 14)).trans HS_14
    have bi := cl0 (show i < 2 ^ 31 by omega)
    obtain ⟨w, w1, w2, w3, v, _⟩ := Q.2.2.2.2.1 i (by omega)
    have z := ih (i + 1) M (rchQ X (rVl R i)) (by omega) (by omega) (I.val v)
    rw [loopK_succ, rs1_eq, mo_gR HR_0 hn (by decide) (b52 (by decide) b30), Option.bind_some, gI_of (s := (n, HRp f b X, us)) (k := 9) (x := R.2.2.2.2.2.2.2.2.2.1) c0 (by omega) (show nw < n by omega) rfl, Option.bind_some, Q.2.2.2.1, if_neg (fun w => absurd (nI_lt (a := i) (b := S.2.2.2.2.2.2.1) (by omega) (by omega)) (Int32.not_lt.mpr w)), Option.bind_some, gR_of (s := (n, HRp f b X, us)) (k := 6) (x := nw + 11) c0 (by omega) (show nw < n by omega) rfl, Option.bind_some, gR_of (s := (n, HRp f b X, us)) (k := 0) (x := nw + 12) c11 (by omega) (show nw + 11 < n by omega) rfl, Option.bind_some, aI_of (s := (n, HRp f b X, us)) c12 (by omega) (show nw + 12 < n by omega) bi.1 (by rw [bi.2]; omega), bi.2, Option.bind_some, Option.bind_some, gR_of (s := (n, HRp f b X, us)) (k := 6) (x := nw + 11) c0 (by omega) (show nw < n by omega) rfl, Option.bind_some, gR_of (s := (n, HRp f b X, us)) (k := 2) (x := nw + 14) c11 (by omega) (show nw + 11 < n by omega) rfl, Option.bind_some, aL_of (s := (n, HRp f b X, us)) c14 (by omega) (show nw + 14 < n by omega) bi.1 (by rw [bi.2]; omega), bi.2, Option.bind_some, e_mReach (q := rVl R i) hn b50 b51 I.1 v, bnd_some, show nI i + 1 = nI (i + 1) from nI_add _ 1]
    exact z
theorem e_fillZ {a N : Nat} {g : Nat → Int32} (h1 : 128 ≤ a) (h2 : a < n) (hN : N < 2 ^ 30) (h : f a = .inl (.boolean, N, fun j => .int (g j))) : x_Arr_fill_aZZ d a 0 (n, f, us) = some ((), (n, va_up f a (.inl (.boolean, N, fun j => .int (zrI g N j))), us)) := by
  unfold x_Arr_fill_aZZ
  rw [lenA_of (s := (n, f, us)) h (by decide) h1 h2, Option.bind_some]
  refine loop_ind (fun z q => ∀ m i, i + m = N → z = (nI i, (n, va_up f a (.inl (.boolean, N, fun j => .int (zrI g i j))), us)) → q = some ((), (n, va_up f a (.inl (.boolean, N, fun j => .int (zrI g N j))), us))) (fun z => N - z.1.toNatClampNeg) (fun again z ih m i e ez => ?_) FU _ (by rw [FU_eq]; omega) N 0 (by omega) ?_
  · subst ez
    dsimp only
    cases m with
    | zero =>
      obtain rfl : i = N := by omega
      rw [if_pos (Int32.le_refl _)]
    | succ m =>
      have b0 := cl0 (show i < 2 ^ 31 by omega)
      rw [if_neg (nI_ge (by omega) (by omega)), sZ_of (s := (n, va_up f a (.inl (.boolean, N, fun j => .int (zrI g i j))), us)) (Or.inl rfl) (va_up_self _ _ _) h1 h2 b0.1 (by rw [b0.2]; omega), b0.2, Option.bind_some]
      dsimp only
      rw [bx_uu, zrI_up, na1]
      exact ih _ (by simp only [nI_clamp (show i + 1 < 2 ^ 31 by omega), b0.2]; omega) m (i + 1) (by omega) rfl
  · have e : (fun j => Value.int (zrI g 0 j)) = fun j => Value.int (g j) := funext fun j => congrArg Value.int (if_neg (Nat.not_lt_zero j))
    rw [e, am_up_same h]
    rfl
/-- sweep() of the reference -/
theorem e_sweepR (hn : 1311 ≤ n) (O : OM f b) (h8 : f 263 = .inl (.boolean, 100, fun j => .int (X.1 j))) (h9 : f 264 = aInt 100 X.2.1) (b30 : b 30 = .ref nw) (b50 : b 50 = .ref 263) (b51 : b 51 = .ref 264) (b52' : b 52 = .int (nI X.2.2)) (hw : nw = 187 ∨ nw = 204) (hN : RSt f nw R) (Q : SR S R) (h : ∀ o, X.1 o = 0 ∨ X.1 o = 1) {Y : SWs} (hY : Y = rAll R S.2.2.2.2.2.2.1 (X0w X)) : x_Mod_sweep (d + 1) 160 (n, f, us) = swE d (cntB (swG R Y) 100) (n, HSt (HRp f b Y) nw (mwR R Y 100), us) := by
  have e : x_Mod_sweep (d + 1) 160 (n, f, us) = gd (n, f, us) 160 14 ((gR (n, f, us) 160 14 50).bind fun v1 => (bnd (x_Arr_fill_aZZ d v1 0 (n, f, us)) fun v3 s2 => ((pV s2 160 14 52 (.int 0)).bind fun s4 => (loopK (rs1 d) FU (0, s4))))) := rfl
  have fe : HRp f b X = f := by
    funext x
    unfold HRp
    by_cases c : x = 160
    · rw [if_pos c, c]
      have : updV b 52 (.int (nI X.2.2)) = b := by
        funext j
        unfold updV
        by_cases c : j = 52
        · rw [if_pos c, c, b52']
        · rw [if_neg c]
      rw [this]
      exact O.symm
    · rw [if_neg c]
      by_cases c : x = 263
      · rw [if_pos c, c, h8]
      · rw [if_neg c]
        by_cases c : x = 264
        · rw [if_pos c, c, h9]
        · rw [if_neg c]
  have z := rs1_L (d := d) (us := us) hn b30 b50 b51 hw hN Q S.2.2.2.2.2.2.1 0 FU (X0w X) (by omega) (by have := Q.2.2.1; rw [FU_eq]; omega) (x0_swj h)
  rw [e, mo_gd O hn, mo_gR O hn (by decide) b50, Option.bind_some, e_fillZ (by decide) (show 263 < n by omega) (by decide) h8, bnd_some, hY]
  refine Eq.trans ?_ z
  have f1 : va_up f 263 (.inl (.boolean, 100, fun j => .int (zrI X.1 100 j))) = HRp f b (zrI X.1 100, X.2) := by
    conv => lhs; rw [← fe]
    exact HRu_8
  rw [f1, mo_pV HR_0 hn (by decide), Option.bind_some, uu52]
  exact congrArg (fun F => loopK (rs1 d) FU (0, (n, F, us))) (HRu_0 (k := 0))
end
