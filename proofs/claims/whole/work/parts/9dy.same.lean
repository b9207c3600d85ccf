/-! comparing OBJECTS: State.isSame, and the class's way is the same -/
def smR (R Q : RS) (o i : Nat) (m : Nat) : Prop := ∀ j, j < m → i ≤ j → rIt R (20 * o + j) = rIt Q (20 * o + j) ∧ (R.1 o = 4 ∨ R.2.2.1 (8 * o + j) = Q.2.2.1 (8 * o + j))
theorem vq4 {a b : VQ} : (a.1 = b.1 ∧ a.2.1 = b.2.1 ∧ a.2.2.1 = b.2.2.1 ∧ a.2.2.2 = b.2.2.2) ↔ a = b := by
  constructor
  · rintro ⟨h1, h2, h3, h4⟩
    exact Prod.ext h1 (Prod.ext h2 (Prod.ext h3 h4))
  · rintro rfl
    exact ⟨rfl, rfl, rfl, rfl⟩
section
variable {n us r q d o m : Nat} {f : Nat → am_C} {R Q : RS} {S T : SC}
theorem is_0 {M : Nat} {z : Int32} (hR : RSt f r R) (r1 : 128 ≤ r) (r2 : r + 16 < n) (ho : o < 100) : loopK (isB d r (nI o) q) (M + 1) (0, z, (n, f, us)) = some (0, (n, f, us)) := by
  have b0 := cl0 (show o < 2 ^ 31 by omega)
  have c0 : f r = _ := (congrFun hR.eq r).trans HS_0
  have c2 : f (r + 2) = aInt 100 R.2.1 := (congrFun hR.eq (r + 2)).trans HS_2
  rw [loopK_succ, isB_eq, gR_of (s := (n, f, us)) (k := 1) (x := r + 2) c0 r1 (show r < n by omega) rfl, Option.bind_some, aI_of (s := (n, f, us)) c2 (by omega) (show r + 2 < n by omega) b0.1 (by rw [b0.2]; omega), b0.2, Option.bind_some]
  by_cases c : R.2.1 o ≤ z
  · rw [if_pos c, okB_of (Or.inl rfl)]
  · rw [if_neg c, if_pos rfl, okB_of (Or.inl rfl)]
theorem is_L (hR : RSt f r R) (r1 : 128 ≤ r) (r2 : r + 16 < n) (hQ : RSt f q Q) (q1 : 128 ≤ q) (q2 : q + 16 < n) (ho : o < 100) (hm : m ≤ 20) (hm8 : R.1 o = 4 ∨ m ≤ 8) (hc : R.2.1 o = nI m) : ∀ k i M, i + k = m → k + 1 < M → (loopK (isB d r (nI o) q) M (1, nI i, (n, f, us)) = some (1, (n, f, us)) ∧ smR R Q o i m) ∨ (loopK (isB d r (nI o) q) M (1, nI i, (n, f, us)) = some (0, (n, f, us)) ∧ ¬ smR R Q o i m) := by
  have b0 := cl0 (show o < 2 ^ 31 by omega)
  have c0 : f r = _ := (congrFun hR.eq r).trans HS_0
  have c1 : f (r + 1) = aInt 100 R.1 := (congrFun hR.eq (r + 1)).trans HS_1
  have c2 : f (r + 2) = aInt 100 R.2.1 := (congrFun hR.eq (r + 2)).trans HS_2
  have c3 : f (r + 3) = aLong 800 R.2.2.1 := (congrFun hR.eq (r + 3)).trans HS_3
  have e0 : f q = _ := (congrFun hQ.eq q).trans HS_0
  have e3 : f (q + 3) = aLong 800 Q.2.2.1 := (congrFun hQ.eq (q + 3)).trans HS_3
  have V : VA (n, f, us) (r + 6) 2000 (rIt R) := ⟨⟨(congrFun hR.eq (r + 6)).trans HS_6, (congrFun hR.eq (r + 7)).trans HS_7, (congrFun hR.eq (r + 8)).trans HS_8, (congrFun hR.eq (r + 9)).trans HS_9, (congrFun hR.eq (r + 10)).trans HS_10⟩, by omega, by show r + 6 + 4 < n; omega, by decide⟩
  have W : VA (n, f, us) (q + 6) 2000 (rIt Q) := ⟨⟨(congrFun hQ.eq (q + 6)).trans HS_6, (congrFun hQ.eq (q + 7)).trans HS_7, (congrFun hQ.eq (q + 8)).trans HS_8, (congrFun hQ.eq (q + 9)).trans HS_9, (congrFun hQ.eq (q + 10)).trans HS_10⟩, by omega, by show q + 6 + 4 < n; omega, by decide⟩
  have rn : r < n := by omega
  have qn : q < n := by omega
  intro k
  induction k with
  | zero =>
    intro i M g1 g2
    obtain ⟨M, rfl⟩ : ∃ M', M = M' + 1 := ⟨M - 1, by omega⟩
    refine Or.inl ⟨?_, fun j h1 h2 => by omega⟩
    rw [loopK_succ, isB_eq, gR_of (s := (n, f, us)) (k := 1) (x := r + 2) c0 r1 rn rfl, Option.bind_some, aI_of (s := (n, f, us)) c2 (by omega) (show r + 2 < n by omega) b0.1 (by rw [b0.2]; omega), b0.2, Option.bind_some, hc, if_pos (nI_le (by omega) (by omega)), okB_of (Or.inr rfl)]
  | succ k ih =>
    intro i M g1 g2
    obtain ⟨M, rfl⟩ : ∃ M', M = M' + 2 := ⟨M - 2, by omega⟩
    have i20 : 20 * nI o + nI i = nI (20 * o + i) := by rw [n20, nI_ad2]
    have i8 : 8 * nI o + nI i = nI (8 * o + i) := by rw [n8, nI_ad2]
    have zero := is_0 (d := d) (q := q) (M := M) (z := nI (i + 1)) (us := us) hR r1 r2 ho
    rw [loopK_succ (k := M + 1), isB_eq, gR_of (s := (n, f, us)) (k := 1) (x := r + 2) c0 r1 rn rfl, Option.bind_some, aI_of (s := (n, f, us)) c2 (by omega) (show r + 2 < n by omega) b0.1 (by rw [b0.2]; omega), b0.2, Option.bind_some, hc, if_neg (fun w => absurd (nI_lt (a := i) (b := m) (by omega) (by omega)) (Int32.not_lt.mpr w)), if_neg (show ¬ (1 : Int32) = 0 by decide), gR_of (s := (n, f, us)) (k := 5) (x := r + 6) c0 r1 rn rfl, Option.bind_some, gR_of (s := (n, f, us)) (k := 5) (x := q + 6) e0 q1 qn rfl, Option.bind_some, i20, e_lik V (show 20 * o + i < 2000 by omega) W (show 20 * o + i < 2000 by omega), bnd_some, show nI i + 1 = nI (i + 1) from nI_add i 1]
    by_cases cq : rIt R (20 * o + i) = rIt Q (20 * o + i)
    · rw [if_pos (vq4.mpr cq), if_neg (show ¬ (1 : Int32) = 0 by decide), gR_of (s := (n, f, us)) (k := 0) (x := r + 1) c0 r1 rn rfl, Option.bind_some, aI_of (s := (n, f, us)) c1 (by omega) (show r + 1 < n by omega) b0.1 (by rw [b0.2]; omega), b0.2, Option.bind_some]
      have go : (R.1 o = 4 ∨ R.2.2.1 (8 * o + i) = Q.2.2.1 (8 * o + i)) → (loopK (isB d r (nI o) q) (M + 1) (1, nI (i + 1), (n, f, us)) = some (1, (n, f, us)) ∧ smR R Q o i m) ∨ (loopK (isB d r (nI o) q) (M + 1) (1, nI (i + 1), (n, f, us)) = some (0, (n, f, us)) ∧ ¬ smR R Q o i m) := fun hn => by
        rcases ih (i + 1) (M + 1) (by omega) (by omega) with ⟨a, b⟩ | ⟨a, b⟩
        · refine Or.inl ⟨a, fun j h1 h2 => ?_⟩
          by_cases c : j = i
          · rw [c]
            exact ⟨cq, hn⟩
          · exact b j h1 (by omega)
        · exact Or.inr ⟨a, fun w => b (fun j h1 h2 => w j h1 (by omega))⟩
      by_cases k4 : R.1 o = 4
      · rw [if_pos k4]
        exact go (Or.inl k4)
      · have m8 : m ≤ 8 := hm8.resolve_left k4
        have b8 := cl0 (show 8 * o + i < 2 ^ 31 by omega)
        rw [if_neg k4, gR_of (s := (n, f, us)) (k := 2) (x := r + 3) c0 r1 rn rfl, Option.bind_some, i8, aL_of (s := (n, f, us)) c3 (by omega) (show r + 3 < n by omega) b8.1 (by rw [b8.2]; omega), b8.2, Option.bind_some, gR_of (s := (n, f, us)) (k := 2) (x := q + 3) e0 q1 qn rfl, Option.bind_some, aL_of (s := (n, f, us)) e3 (by omega) (show q + 3 < n by omega) b8.1 (by rw [b8.2]; omega), b8.2, Option.bind_some]
        by_cases cn : R.2.2.1 (8 * o + i) = Q.2.2.1 (8 * o + i)
        · rw [if_pos (lc_eq.mpr cn)]
          exact go (Or.inr cn)
        · rw [if_neg (fun w => cn (lc_eq.mp w)), zero]
          exact Or.inr ⟨rfl, fun w => (w i (by omega) (Nat.le_refl _)).2.elim k4 cn⟩
    · rw [if_neg (fun w => cq (vq4.mp w)), if_pos rfl, zero]
      exact Or.inr ⟨rfl, fun w => cq (w i (by omega) (Nat.le_refl _)).1⟩
theorem e_isSame (hR : RSt f r R) (r1 : 128 ≤ r) (r2 : r + 16 < n) (hQ : RSt f q Q) (q1 : 128 ≤ q) (q2 : q + 16 < n) (ho : o < 100) (hm : m ≤ 20) (hm8 : R.1 o = 4 ∨ m ≤ 8) (hc : R.2.1 o = nI m) : (x_State_isSame (d + 1) r (nI o) q (n, f, us) = some (1, (n, f, us)) ∧ (R.1 o = Q.1 o ∧ R.2.1 o = Q.2.1 o ∧ smR R Q o 0 m)) ∨ (x_State_isSame (d + 1) r (nI o) q (n, f, us) = some (0, (n, f, us)) ∧ ¬ (R.1 o = Q.1 o ∧ R.2.1 o = Q.2.1 o ∧ smR R Q o 0 m)) := by
  have b0 := cl0 (show o < 2 ^ 31 by omega)
  have c0 : f r = _ := (congrFun hR.eq r).trans HS_0
  have c1 : f (r + 1) = aInt 100 R.1 := (congrFun hR.eq (r + 1)).trans HS_1
  have c2 : f (r + 2) = aInt 100 R.2.1 := (congrFun hR.eq (r + 2)).trans HS_2
  have e0 : f q = _ := (congrFun hQ.eq q).trans HS_0
  have e1 : f (q + 1) = aInt 100 Q.1 := (congrFun hQ.eq (q + 1)).trans HS_1
  have e2 : f (q + 2) = aInt 100 Q.2.1 := (congrFun hQ.eq (q + 2)).trans HS_2
  have rn : r < n := by omega
  have qn : q < n := by omega
  have z0 : x_State_isSame_b34 d r (nI o) q (n, f, us) = some (0, (n, f, us)) := by
    have e : x_State_isSame_b34 d r (nI o) q (n, f, us) = loopK (isB d r (nI o) q) FU (0, nI 0, (n, f, us)) := rfl
    have k := is_0 (d := d) (q := q) (M := FU - 1) (z := nI 0) (us := us) hR r1 r2 ho
    rw [show FU - 1 + 1 = FU by rw [FU_eq]] at k
    rw [e, k]
  unfold x_State_isSame
  dsimp only
  rw [gd_of (s := (n, f, us)) c0 r1 rn, gR_of (s := (n, f, us)) (k := 0) (x := r + 1) c0 r1 rn rfl, Option.bind_some, aI_of (s := (n, f, us)) c1 (by omega) (show r + 1 < n by omega) b0.1 (by rw [b0.2]; omega), b0.2, Option.bind_some, gR_of (s := (n, f, us)) (k := 0) (x := q + 1) e0 q1 qn rfl, Option.bind_some, aI_of (s := (n, f, us)) e1 (by omega) (show q + 1 < n by omega) b0.1 (by rw [b0.2]; omega), b0.2, Option.bind_some]
  by_cases ck : R.1 o = Q.1 o
  · rw [if_pos ck, gR_of (s := (n, f, us)) (k := 1) (x := r + 2) c0 r1 rn rfl, Option.bind_some, aI_of (s := (n, f, us)) c2 (by omega) (show r + 2 < n by omega) b0.1 (by rw [b0.2]; omega), b0.2, Option.bind_some, gR_of (s := (n, f, us)) (k := 1) (x := q + 2) e0 q1 qn rfl, Option.bind_some, aI_of (s := (n, f, us)) e2 (by omega) (show q + 2 < n by omega) b0.1 (by rw [b0.2]; omega), b0.2, Option.bind_some]
    by_cases cs : R.2.1 o = Q.2.1 o
    · rw [if_pos cs]
      have e : x_State_isSame_b35 d r (nI o) q 1 (n, f, us) = loopK (isB d r (nI o) q) FU (1, nI 0, (n, f, us)) := rfl
      rw [e]
      rcases is_L (d := d) (us := us) hR r1 r2 hQ q1 q2 ho hm hm8 hc m 0 FU (by omega) (by rw [FU_eq]; omega) with ⟨a, b⟩ | ⟨a, b⟩
      · exact Or.inl ⟨a, ck, cs, b⟩
      · exact Or.inr ⟨a, fun w => b w.2.2⟩
    · rw [if_neg cs, z0]
      exact Or.inr ⟨rfl, fun w => cs w.2.1⟩
  · rw [if_neg ck, z0]
    exact Or.inr ⟨rfl, fun w => ck w.1⟩
/-- the class's comparison of an OBJECT is the reference's: S, R after, T, Q before -/
theorem ch_same (X : SR S R) (Y : SR T Q) (K : KM Q.1 R.1) (ho : o < 100) (hR : ¬ R.1 o = 0) : ∃ m, R.2.1 o = nI m ∧ m ≤ 20 ∧ (R.1 o = 4 ∨ m ≤ 8) ∧ (chO S T o = true ↔ (Q.1 o = 0 ∨ ¬ (R.1 o = Q.1 o ∧ R.2.1 o = Q.2.1 o ∧ smR R Q o 0 m))) := by
  have nc : ∀ {a b : Nat}, a ≤ 20 → b ≤ 20 → nI a = nI b → a = b := fun h1 h2 h => nI_inj (by omega) (by omega) h
  have key : ∀ P : Prop, (chO S T o = true ↔ P) ↔ ((¬ S.2.2.1 o = -1 ∧ ¬ (S.2.2.1 o = T.2.2.1 o ∧ ∀ j, j < (S.2.2.1 o).toNatClampNeg → S.1 (20 * o + j) = T.1 (20 * o + j) ∧ S.2.1 (20 * o + j) = T.2.1 (20 * o + j))) ↔ P) := fun P => by
    unfold chO
    rw [decide_eq_true_eq]
  rcases X.1 o ho with ⟨_, h⟩ | ⟨m, hm, h4, hs, hz, hv⟩ | ⟨m, hm, h3, hs, hz, hv⟩
  · exact absurd h hR
  · refine ⟨m, hz, hm, Or.inl h4, ?_⟩
    rw [key]
    have em : (S.2.2.1 o).toNatClampNeg = m := by rw [hs]; exact nI_clamp (by omega)
    have n1 : ¬ S.2.2.1 o = -1 := by rw [hs]; exact nI_m1 (by omega)
    rw [em]
    rcases Y.1 o ho with ⟨t1, t2⟩ | ⟨m', hm', t4, ts, tz, tv⟩ | ⟨m', hm', t3, ts, tz, tv⟩
    · exact ⟨fun _ => Or.inl t2, fun _ => ⟨n1, fun w => n1 (w.1.trans t1)⟩⟩
    · have q0 : ¬ Q.1 o = 0 := by rw [t4]; decide
      refine ⟨fun w => Or.inr (fun v => w.2 ⟨?_, fun j hj => ?_⟩), fun w => ⟨n1, fun v => ?_⟩⟩
      · have : m = m' := nc hm hm' (by rw [← hz, ← tz]; exact v.2.1)
        rw [hs, ts, this]
      · have : m = m' := nc hm hm' (by rw [← hz, ← tz]; exact v.2.1)
        have vj := (v.2.2 j hj (Nat.zero_le _)).1
        have s1 := (VR.same (hv j hj) ((tv j (by omega)).mono K)).mpr (vq4.mpr vj)
        exact s1
      · rcases w with w | w
        · exact q0 w
        · have : m = m' := nc hm hm' (by rw [← hs, ← ts]; exact v.1)
          refine w ⟨by rw [h4, t4], by rw [hz, tz, this], fun j hj _ => ⟨?_, Or.inl h4⟩⟩
          exact vq4.mp ((VR.same (hv j hj) ((tv j (by omega)).mono K)).mp (v.2 j hj))
    · exact absurd ((K o ho (by rw [t3]; decide)).symm.trans h4) (by rw [t3]; decide)
  · refine ⟨m, hz, by omega, Or.inr hm, ?_⟩
    rw [key]
    have em : (S.2.2.1 o).toNatClampNeg = 2 * m := by rw [hs]; exact nI_clamp (by omega)
    have n1 : ¬ S.2.2.1 o = -1 := by rw [hs]; exact nI_m1 (by omega)
    rw [em]
    rcases Y.1 o ho with ⟨t1, t2⟩ | ⟨m', hm', t4, ts, tz, tv⟩ | ⟨m', hm', t3, ts, tz, tv⟩
    · exact ⟨fun _ => Or.inl t2, fun _ => ⟨n1, fun w => n1 (w.1.trans t1)⟩⟩
    · exact absurd ((K o ho (by rw [t4]; decide)).symm.trans h3) (by rw [t4]; decide)
    · have q0 : ¬ Q.1 o = 0 := by rw [t3]; decide
      refine ⟨fun w => Or.inr (fun v => w.2 ⟨?_, fun j hj => ?_⟩), fun w => ⟨n1, fun v => ?_⟩⟩
      · have : m = m' := nc (by omega) (by omega) (by rw [← hz, ← tz]; exact v.2.1)
        rw [hs, ts, this]
      · have em' : m = m' := nc (by omega) (by omega) (by rw [← hz, ← tz]; exact v.2.1)
        obtain ⟨i, hi⟩ : ∃ i, j = 2 * i ∨ j = 2 * i + 1 := ⟨j / 2, by omega⟩
        have il : i < m := by omega
        obtain ⟨⟨w1, k1, k2, k3, k4⟩, k5⟩ := hv i il
        obtain ⟨⟨w2, g1, g2, g3, g4⟩, g5⟩ := tv i (by omega)
        have vi := v.2.2 i il (Nat.zero_le _)
        rcases hi with rfl | rfl
        · have nn : nV w1 = nV w2 := by
            rw [← k4, ← g4]
            exact vi.2.resolve_left (by rw [h3]; decide)
          have ew : w1 = w2 := (nV_same k1 g1).mp nn
          rw [k2, k3, g2, g3, ew]
          exact ⟨rfl, rfl⟩
        · exact (VR.same k5 (g5.mono K)).mpr (vq4.mpr vi.1)
      · rcases w with w | w
        · exact q0 w
        · have em' : m = m' := by
            have := nI_inj (a := 2 * m) (b := 2 * m') (by omega) (by omega) (by rw [← hs, ← ts]; exact v.1)
            omega
          refine w ⟨by rw [h3, t3], by rw [hz, tz, em'], fun j hj _ => ?_⟩
          obtain ⟨⟨w1, k1, k2, k3, k4⟩, k5⟩ := hv j hj
          obtain ⟨⟨w2, g1, g2, g3, g4⟩, g5⟩ := tv j (by omega)
          have v0 := v.2 (2 * j) (by omega)
          have v1 := v.2 (2 * j + 1) (by omega)
          refine ⟨vq4.mp ((VR.same k5 (g5.mono K)).mp v1), Or.inr ?_⟩
          have ew : w1 = w2 := (nF_same k1 g1).mp (by rw [← k2, ← g2]; exact v0.1)
          rw [k4, g4, ew]
end
