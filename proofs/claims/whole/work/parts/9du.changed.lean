/-! what changed in a Store: the class -/
def cntB (b : Nat → Bool) : Nat → Nat
  | 0 => 0
  | n + 1 => cntB b n + if b n = true then 1 else 0
theorem cntB_le (b : Nat → Bool) : ∀ n, cntB b n ≤ n
  | 0 => Nat.le_refl _
  | n + 1 => by
    have := cntB_le b n
    rw [cntB]
    by_cases h : b n = true
    · rw [if_pos h]
      omega
    · rw [if_neg h]
      omega
theorem cntB_eq {b c : Nat → Bool} : ∀ n, (∀ i, i < n → b i = c i) → cntB b n = cntB c n
  | 0, _ => rfl
  | n + 1, h => by rw [cntB, cntB, cntB_eq n (fun i hi => h i (by omega)), h n (by omega)]
def smP (S T : SC) (o i : Nat) : Prop := ∀ j, j < (S.2.2.1 o).toNatClampNeg → i ≤ j → S.1 (20 * o + j) = T.1 (20 * o + j) ∧ S.2.1 (20 * o + j) = T.2.1 (20 * o + j)
def chO (S T : SC) (o : Nat) : Bool := decide (¬ S.2.2.1 o = -1 ∧ ¬ (S.2.2.1 o = T.2.2.1 o ∧ ∀ j, j < (S.2.2.1 o).toNatClampNeg → S.1 (20 * o + j) = T.1 (20 * o + j) ∧ S.2.1 (20 * o + j) = T.2.1 (20 * o + j)))
def chR (S T : SC) (i : Nat) : Bool := decide (s_find T.2.2.2.1 T.2.2.2.2.2.2.1 (S.2.2.2.1 i) < 0 ∨ ¬ (T.2.2.2.2.1 (s_find T.2.2.2.1 T.2.2.2.2.2.2.1 (S.2.2.2.1 i)).toNatClampNeg = S.2.2.2.2.1 i ∧ T.2.2.2.2.2.1 (s_find T.2.2.2.1 T.2.2.2.2.2.2.1 (S.2.2.2.1 i)).toNatClampNeg = S.2.2.2.2.2.1 i))
def gnR (S T : SC) (i : Nat) : Bool := decide (s_find S.2.2.2.1 S.2.2.2.2.2.2.1 (T.2.2.2.1 i) < 0)
section
variable {n us r q d i : Nat} {f : Nat → am_C} {S T : SC} {x : Int32}
theorem sa_L {o m : Nat} (hS : ST f r S) (r1 : 128 ≤ r) (r2 : r + 7 < n) (hT : ST f q T) (q1 : 128 ≤ q) (q2 : q + 7 < n) (ho : o < 100) (hm : m ≤ 20) (hc : S.2.2.1 o = nI m) : ∀ k i M, i + k = m → k < M → (loopK (saB r q (nI o) (nI (20 * o))) M (nI (20 * o + i), (n, f, us)) = some (1, (n, f, us)) ∧ smP S T o i) ∨ (loopK (saB r q (nI o) (nI (20 * o))) M (nI (20 * o + i), (n, f, us)) = some (0, (n, f, us)) ∧ ¬ smP S T o i) := by
  have em : (S.2.2.1 o).toNatClampNeg = m := by rw [hc]; exact nI_clamp (by omega)
  intro k
  induction k with
  | zero =>
    intro i M e1 e2
    obtain ⟨M, rfl⟩ : ∃ M', M = M' + 1 := ⟨M - 1, by omega⟩
    refine Or.inl ⟨?_, fun j h1 h2 => ?_⟩
    · rw [loopK_succ, saB_eq, u_g3 hS r1 r2, Option.bind_some, u_a3 hS r1 r2 ho, Option.bind_some, hc, nI_ad2, if_pos (nI_le (by omega) (by omega))]
    · rw [em] at h1
      omega
  | succ k ih =>
    intro i M e1 e2
    obtain ⟨M, rfl⟩ : ∃ M', M = M' + 1 := ⟨M - 1, by omega⟩
    rw [loopK_succ, saB_eq, u_g3 hS r1 r2, Option.bind_some, u_a3 hS r1 r2 ho, Option.bind_some, hc, nI_ad2, if_neg (fun w => absurd (nI_lt (a := 20 * o + i) (b := 20 * o + m) (by omega) (by omega)) (Int32.not_lt.mpr w)), u_g1 hS r1 r2, Option.bind_some, u_a1 hS r1 r2 (by omega), Option.bind_some, u_g1 hT q1 q2, Option.bind_some, u_a1 hT q1 q2 (by omega), Option.bind_some]
    by_cases c1 : S.1 (20 * o + i) = T.1 (20 * o + i)
    · rw [if_pos (lc_eq.mpr c1), u_g2 hS r1 r2, Option.bind_some, u_a2 hS r1 r2 (by omega), Option.bind_some, u_g2 hT q1 q2, Option.bind_some, u_a2 hT q1 q2 (by omega), Option.bind_some]
      by_cases c2 : S.2.1 (20 * o + i) = T.2.1 (20 * o + i)
      · rw [if_pos (lc_eq.mpr c2), show nI (20 * o + i) + 1 = nI (20 * o + (i + 1)) from nI_add _ 1]
        rcases ih (i + 1) M (by omega) (by omega) with ⟨a, b⟩ | ⟨a, b⟩
        · refine Or.inl ⟨a, fun j h1 h2 => ?_⟩
          by_cases c : j = i
          · rw [c]
            exact ⟨c1, c2⟩
          · exact b j h1 (by omega)
        · exact Or.inr ⟨a, fun w => b (fun j h1 h2 => w j h1 (by omega))⟩
      · rw [if_neg (fun w => c2 (lc_eq.mp w))]
        exact Or.inr ⟨rfl, fun w => c2 (w i (by rw [em]; omega) (Nat.le_refl _)).2⟩
    · rw [if_neg (fun w => c1 (lc_eq.mp w))]
      exact Or.inr ⟨rfl, fun w => c1 (w i (by rw [em]; omega) (Nat.le_refl _)).1⟩
theorem e_sameO {o m : Nat} (hS : ST f r S) (r1 : 128 ≤ r) (r2 : r + 7 < n) (hT : ST f q T) (q1 : 128 ≤ q) (q2 : q + 7 < n) (ho : o < 100) (hm : m ≤ 20) (hc : S.2.2.1 o = nI m) : x_Store_sameObject (d + 1) r q (nI o) (n, f, us) = some (if chO S T o = true then 0 else 1, (n, f, us)) := by
  have nm : ¬ S.2.2.1 o = -1 := by rw [hc]; exact nI_m1 (by omega)
  have e : x_Store_sameObject (d + 1) r q (nI o) (n, f, us) = gd (n, f, us) r 10 ((gR (n, f, us) r 10 2).bind fun v1 => ((aI (n, f, us) v1 (nI o)).bind fun v2 => ((gR (n, f, us) q 10 2).bind fun v3 => ((aI (n, f, us) v3 (nI o)).bind fun v4 => (if v2 = v4 then (bnd (x_Store_firstCell d r (nI o) (n, f, us)) fun v6 s5 => (loopK (saB r q (nI o) v6) FU (v6, s5))) else (some (0, (n, f, us)))))))) := rfl
  rw [e, u_gd hS r1 r2, u_g3 hS r1 r2, Option.bind_some, u_a3 hS r1 r2 ho, Option.bind_some, u_g3 hT q1 q2, Option.bind_some, u_a3 hT q1 q2 ho, Option.bind_some]
  unfold chO
  by_cases c : S.2.2.1 o = T.2.2.1 o
  · rw [if_pos c, u_first hS r1 r2, bnd_some, fO_n ho]
    rcases sa_L hS r1 r2 hT q1 q2 ho hm hc m 0 FU (by omega) (by rw [FU_eq]; omega) with ⟨a, b⟩ | ⟨a, b⟩
    · rw [Nat.add_zero] at a
      rw [a, if_neg (show ¬ decide _ = true from fun w => (of_decide_eq_true w).2 ⟨c, fun j hj => b j hj (Nat.zero_le _)⟩)]
    · rw [Nat.add_zero] at a
      rw [a, if_pos (decide_eq_true ⟨nm, fun w => b (fun j hj _ => w.2 j hj)⟩)]
  · rw [if_neg c, if_pos (decide_eq_true ⟨nm, fun w => c w.1⟩)]
theorem oc_L (hS : ST f r S) (r1 : 128 ≤ r) (r2 : r + 7 < n) (hT : ST f q T) (q1 : 128 ≤ q) (q2 : q + 7 < n) (I : SI S) : ∀ m i M, i + m = 100 → m < M → loopK (ocB (d + 1) r q) M (nI (cntB (chO S T) i), nI i, (n, f, us)) = some (nI (cntB (chO S T) 100), (n, f, us)) := by
  intro m
  induction m with
  | zero =>
    intro i M e1 e2
    obtain ⟨M, rfl⟩ : ∃ M', M = M' + 1 := ⟨M - 1, by omega⟩
    rw [loopK_succ, ocB_eq, if_pos (show (100 : Int32) ≤ nI i from nI_le (a := 100) (by omega) (by omega)), show i = 100 by omega]
  | succ m ih =>
    intro i M e1 e2
    obtain ⟨M, rfl⟩ : ∃ M', M = M' + 1 := ⟨M - 1, by omega⟩
    have k := ih (i + 1) M (by omega) (by omega)
    rw [cntB] at k
    rw [loopK_succ, ocB_eq, if_neg (show ¬ (100 : Int32) ≤ nI i from nI_ge (b := 100) (by omega) (by omega)), u_isThere hS r1 r2, bnd_some, isT_n (by omega), show nI i + 1 = nI (i + 1) from nI_add i 1]
    rcases I.2.2 i (by omega) with c | ⟨w, hw, c⟩
    · rw [if_neg (show ¬ chO S T i = true from fun w => (of_decide_eq_true w).1 c)] at k
      rw [if_neg (show ¬ decide (¬ S.2.2.1 i = -1) = true from fun w => of_decide_eq_true w c), if_pos rfl]
      exact k
    · rw [if_pos (show decide (¬ S.2.2.1 i = -1) = true from decide_eq_true (by rw [c]; exact nI_m1 (by omega))), if_neg (show ¬ (1 : Int32) = 0 by decide), e_sameO hS r1 r2 hT q1 q2 (by omega) hw c, bnd_some]
      by_cases h : chO S T i = true
      · rw [if_pos h] at k
        rw [if_pos h, if_pos rfl, show nI (cntB (chO S T) i) + 1 = nI (cntB (chO S T) i + 1) from nI_add _ 1]
        exact k
      · rw [if_neg h] at k
        rw [if_neg h, if_neg (show ¬ (1 : Int32) = 0 by decide)]
        exact k
theorem e_oChanged (hS : ST f r S) (r1 : 128 ≤ r) (r2 : r + 7 < n) (hT : ST f q T) (q1 : 128 ≤ q) (q2 : q + 7 < n) (I : SI S) : x_Store_objectsChangedSince (d + 2) r q (n, f, us) = some (nI (cntB (chO S T) 100), (n, f, us)) := by
  have e : x_Store_objectsChangedSince (d + 2) r q (n, f, us) = gd (n, f, us) r 10 (loopK (ocB (d + 1) r q) FU (nI (cntB (chO S T) 0), nI 0, (n, f, us))) := rfl
  rw [e, u_gd hS r1 r2, oc_L hS r1 r2 hT q1 q2 I 100 0 FU rfl (by rw [FU_eq]; decide)]
theorem rc2_L (hS : ST f r S) (r1 : 128 ≤ r) (r2 : r + 7 < n) (hT : ST f q T) (q1 : 128 ≤ q) (q2 : q + 7 < n) (I : SI S) (I' : SI T) (a : Nat) : ∀ m i M, i + m = T.2.2.2.2.2.2.1 → m < M → loopK (rc2 d r q) M (nI (a + cntB (gnR S T) i), nI i, (n, f, us)) = some (nI (a + cntB (gnR S T) T.2.2.2.2.2.2.1), (n, f, us)) := by
  have hk := I'.1
  intro m
  induction m with
  | zero =>
    intro i M e1 e2
    obtain ⟨M, rfl⟩ : ∃ M', M = M' + 1 := ⟨M - 1, by omega⟩
    rw [loopK_succ, rc2_eq, u_gk hT q1 q2, Option.bind_some, if_pos (nI_le (by omega) (by omega)), show i = T.2.2.2.2.2.2.1 by omega]
  | succ m ih =>
    intro i M e1 e2
    obtain ⟨M, rfl⟩ : ∃ M', M = M' + 1 := ⟨M - 1, by omega⟩
    have k := ih (i + 1) M (by omega) (by omega)
    rw [cntB] at k
    rw [loopK_succ, rc2_eq, u_gk hT q1 q2, Option.bind_some, if_neg (fun w => absurd (nI_lt (a := i) (b := T.2.2.2.2.2.2.1) (by omega) (by omega)) (Int32.not_lt.mpr w)), u_g4 hT q1 q2, Option.bind_some, u_a4 hT q1 q2 (by omega), Option.bind_some, u_rootAt hS r1 r2 I, bnd_some, show nI i + 1 = nI (i + 1) from nI_add i 1]
    by_cases c : s_find S.2.2.2.1 S.2.2.2.2.2.2.1 (T.2.2.2.1 i) < 0
    · rw [if_pos (show gnR S T i = true from decide_eq_true c)] at k
      rw [if_neg (Int32.not_le.mpr c), show nI (a + cntB (gnR S T) i) + 1 = nI (a + (cntB (gnR S T) i + 1)) from nI_add _ 1]
      exact k
    · rw [if_neg (show ¬ gnR S T i = true from fun w => c (of_decide_eq_true w))] at k
      rw [if_pos (Int32.not_lt.mp c)]
      exact k
theorem rc1_L (hS : ST f r S) (r1 : 128 ≤ r) (r2 : r + 7 < n) (hT : ST f q T) (q1 : 128 ≤ q) (q2 : q + 7 < n) (I : SI S) (I' : SI T) : ∀ m i M, i + m = S.2.2.2.2.2.2.1 → m < M → loopK (rc1 d r q) M (nI (cntB (chR S T) i), nI i, (n, f, us)) = some (nI (cntB (chR S T) S.2.2.2.2.2.2.1 + cntB (gnR S T) T.2.2.2.2.2.2.1), (n, f, us)) := by
  have hk := I.1
  have hk' := I'.1
  intro m
  induction m with
  | zero =>
    intro i M e1 e2
    obtain ⟨M, rfl⟩ : ∃ M', M = M' + 1 := ⟨M - 1, by omega⟩
    have k := rc2_L (d := d) (us := us) hS r1 r2 hT q1 q2 I I' (cntB (chR S T) S.2.2.2.2.2.2.1) T.2.2.2.2.2.2.1 0 FU (by omega) (by rw [FU_eq]; omega)
    rw [loopK_succ, rc1_eq, u_gk hS r1 r2, Option.bind_some, if_pos (nI_le (by omega) (by omega)), show i = S.2.2.2.2.2.2.1 by omega]
    exact k
  | succ m ih =>
    intro i M e1 e2
    obtain ⟨M, rfl⟩ : ∃ M', M = M' + 1 := ⟨M - 1, by omega⟩
    have k := ih (i + 1) M (by omega) (by omega)
    rw [cntB] at k
    have inc : nI (cntB (chR S T) i) + 1 = nI (cntB (chR S T) i + 1) := nI_add _ 1
    rw [loopK_succ, rc1_eq, u_gk hS r1 r2, Option.bind_some, if_neg (fun w => absurd (nI_lt (a := i) (b := S.2.2.2.2.2.2.1) (by omega) (by omega)) (Int32.not_lt.mpr w)), u_g4 hS r1 r2, Option.bind_some, u_a4 hS r1 r2 (by omega), Option.bind_some, u_rootAt hT q1 q2 I', bnd_some, show nI i + 1 = nI (i + 1) from nI_add i 1, inc]
    rcases find_or (g := T.2.2.2.1) (k := T.2.2.2.2.2.2.1) (y := S.2.2.2.1 i) (by omega) with c | ⟨j, hj, c, _⟩
    · rw [if_pos (show chR S T i = true from decide_eq_true (Or.inl c))] at k
      rw [if_pos c]
      exact k
    · have nn : ¬ s_find T.2.2.2.1 T.2.2.2.2.2.2.1 (S.2.2.2.1 i) < 0 := by rw [c]; exact nI_pos (by omega)
      have cj : (s_find T.2.2.2.1 T.2.2.2.2.2.2.1 (S.2.2.2.1 i)).toNatClampNeg = j := by rw [c]; exact nI_clamp (by omega)
      rw [if_neg nn, c, u_g5 hT q1 q2, Option.bind_some, u_a5 hT q1 q2 (by omega), Option.bind_some, u_g5 hS r1 r2, Option.bind_some, u_a5 hS r1 r2 (by omega), Option.bind_some]
      by_cases c1 : T.2.2.2.2.1 j = S.2.2.2.2.1 i
      · rw [if_pos (lc_eq.mpr c1), u_g6 hT q1 q2, Option.bind_some, u_a6 hT q1 q2 (by omega), Option.bind_some, u_g6 hS r1 r2, Option.bind_some, u_a6 hS r1 r2 (by omega), Option.bind_some]
        by_cases c2 : T.2.2.2.2.2.1 j = S.2.2.2.2.2.1 i
        · rw [if_neg (show ¬ chR S T i = true from fun w => by
            rcases of_decide_eq_true w with w | w
            · exact nn w
            · rw [cj] at w
              exact w ⟨c1, c2⟩)] at k
          rw [if_pos (lc_eq.mpr c2)]
          exact k
        · rw [if_pos (show chR S T i = true from decide_eq_true (Or.inr (by rw [cj]; exact fun w => c2 w.2)))] at k
          rw [if_neg (fun w => c2 (lc_eq.mp w))]
          exact k
      · rw [if_pos (show chR S T i = true from decide_eq_true (Or.inr (by rw [cj]; exact fun w => c1 w.1)))] at k
        rw [if_neg (fun w => c1 (lc_eq.mp w))]
        exact k
theorem e_rChanged (hS : ST f r S) (r1 : 128 ≤ r) (r2 : r + 7 < n) (hT : ST f q T) (q1 : 128 ≤ q) (q2 : q + 7 < n) (I : SI S) (I' : SI T) : x_Store_rootsChangedSince (d + 1) r q (n, f, us) = some (nI (cntB (chR S T) S.2.2.2.2.2.2.1 + cntB (gnR S T) T.2.2.2.2.2.2.1), (n, f, us)) := by
  have hk := I.1
  have e : x_Store_rootsChangedSince (d + 1) r q (n, f, us) = gd (n, f, us) r 10 (loopK (rc1 d r q) FU (nI (cntB (chR S T) 0), nI 0, (n, f, us))) := rfl
  rw [e, u_gd hS r1 r2, rc1_L hS r1 r2 hT q1 q2 I I' S.2.2.2.2.2.2.1 0 FU (by omega) (by rw [FU_eq]; omega)]
/-- the bytes of a COMMIT, as the class reckons them -/
theorem e_cBytes {tk : Nat} (hS : ST f r S) (r1 : 128 ≤ r) (r2 : r + 7 < n) (hT : ST f q T) (q1 : 128 ≤ q) (q2 : q + 7 < n) (I : SI S) (I' : SI T) : x_Log_commitBytes (d + 3) q r (nI tk) (n, f, us) = some (nI (8 + 16 * cntB (chO S T) 100 + 6 * (cntB (chR S T) S.2.2.2.2.2.2.1 + cntB (gnR S T) T.2.2.2.2.2.2.1) + 3 * tk), (n, f, us)) := by
  unfold x_Log_commitBytes
  dsimp only
  rw [e_oChanged hS r1 r2 hT q1 q2 I, bnd_some, e_rChanged hS r1 r2 hT q1 q2 I I', bnd_some, show (16 : Int32) * nI (cntB (chO S T) 100) = nI (16 * cntB (chO S T) 100) from nI_mul 16 _, show (6 : Int32) * nI (cntB (chR S T) S.2.2.2.2.2.2.1 + cntB (gnR S T) T.2.2.2.2.2.2.1) = nI (6 * (cntB (chR S T) S.2.2.2.2.2.2.1 + cntB (gnR S T) T.2.2.2.2.2.2.1)) from nI_mul 6 _, show (3 : Int32) * nI tk = nI (3 * tk) from nI_mul 3 _, show (8 : Int32) = nI 8 from rfl, nI_ad2, nI_ad2, nI_ad2]
end
