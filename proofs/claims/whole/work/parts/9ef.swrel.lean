/-! after a sweep the two stores agree -/
def obQ (q : VQ) : Nat := q.2.2.1.toInt32.toNatClampNeg
def rdy (X : SWs) (q : VQ) : Prop := q.1 < 3 ∨ ¬ X.1 (obQ q) = 0
def XM (X Y : SWs) : Prop := (∀ o, ¬ X.1 o = 0 → ¬ Y.1 o = 0) ∧ X.2.2 ≤ Y.2.2 ∧ ∀ j, j < X.2.2 → Y.2.1 j = X.2.1 j
def inQ (X : SWs) : Prop := ∀ o, o < 100 → ¬ X.1 o = 0 → ∃ j, j < X.2.2 ∧ X.2.1 j = nI o
def clO (R : RS) (X : SWs) (o : Nat) : Prop := ∀ t, t < (R.2.1 o).toNatClampNeg → rdy X (rIt R (20 * o + t))
def SWE (X Y : SWs) : Prop := (∀ o, o < 100 → X.1 o = Y.1 o) ∧ X.2.2 = Y.2.2 ∧ ∀ i, i < X.2.2 → X.2.1 i = Y.2.1 i
section
variable {i o k m : Nat} {X Y Z : SWs} {v : V2} {q : VQ} {S : SC} {R : RS}
theorem XM.refl : XM X X := ⟨fun _ h => h, Nat.le_refl _, fun _ _ => rfl⟩
theorem XM.trans (h : XM X Y) (g : XM Y Z) : XM X Z := ⟨fun o w => g.1 o (h.1 o w), Nat.le_trans h.2.1 g.2.1, fun j hj => (g.2.2 j (Nat.lt_of_lt_of_le hj h.2.1)).trans (h.2.2 j hj)⟩
theorem rdy.mono (h : rdy X q) (g : XM X Y) : rdy Y q := h.imp id (g.1 _)
theorem clO.mono (h : clO R X o) (g : XM X Y) : clO R Y o := fun t ht => (h t ht).mono g
theorem rch_XM : XM X (rch X o) := by
  unfold rch
  by_cases c : X.1 o = 0
  · rw [if_pos c]
    refine ⟨fun j hj => ?_, Nat.le_succ _, fun j hj => ?_⟩
    · show ¬ upI X.1 o 1 j = 0
      unfold upI
      by_cases g : j = o
      · rw [if_pos g]
        decide
      · rw [if_neg g]
        exact hj
    · show upI X.2.1 X.2.2 (nI o) j = _
      unfold upI
      rw [if_neg (by omega)]
  · rw [if_neg c]
    exact XM.refl
theorem rchQ_XM : XM X (rchQ X q) := by
  unfold rchQ
  by_cases c : q.1 < 3
  · rw [if_pos c]
    exact XM.refl
  · rw [if_neg c]
    exact rch_XM
theorem rchQ_rdy : rdy (rchQ X q) q := by
  by_cases c : q.1 < 3
  · exact Or.inl c
  · refine Or.inr ?_
    unfold rchQ obQ
    rw [if_neg c]
    unfold rch
    by_cases g : X.1 q.2.2.1.toInt32.toNatClampNeg = 0
    · rw [if_pos g]
      show ¬ upI X.1 _ 1 _ = 0
      unfold upI
      rw [if_pos rfl]
      decide
    · rw [if_neg g]
      exact g
theorem rchQ_inQ (h : inQ X) : inQ (rchQ X q) := by
  unfold rchQ
  by_cases c : q.1 < 3
  · rw [if_pos c]
    exact h
  · rw [if_neg c]
    unfold rch
    by_cases g : X.1 q.2.2.1.toInt32.toNatClampNeg = 0
    · rw [if_pos g]
      intro o ho w
      have w : ¬ upI X.1 _ 1 o = 0 := w
      show ∃ j, j < X.2.2 + 1 ∧ upI X.2.1 X.2.2 (nI _) j = nI o
      unfold upI at w ⊢
      by_cases e : o = q.2.2.1.toInt32.toNatClampNeg
      · exact ⟨X.2.2, Nat.lt_succ_self _, by rw [if_pos rfl, e]⟩
      · rw [if_neg e] at w
        obtain ⟨j, hj, ej⟩ := h o ho w
        exact ⟨j, by omega, by rw [if_neg (by omega)]; exact ej⟩
    · rw [if_neg g]
      exact h
theorem rOs_sp : ∀ k i (X : SWs), XM X (rOs R o k i X) ∧ (inQ X → inQ (rOs R o k i X)) ∧ ∀ j, i ≤ j → j < i + k → rdy (rOs R o k i X) (rIt R (20 * o + j))
  | 0, i, X => ⟨XM.refl, id, fun j h1 h2 => absurd h2 (by omega)⟩
  | k + 1, i, X => by
    obtain ⟨a1, a2, a3⟩ := rOs_sp k (i + 1) (rchQ X (rIt R (20 * o + i)))
    refine ⟨rchQ_XM.trans a1, fun h => a2 (rchQ_inQ h), fun j h1 h2 => ?_⟩
    by_cases c : j = i
    · rw [c]
      exact rchQ_rdy.mono a1
    · exact a3 j (by omega) (by omega)
theorem rRs_sp : ∀ k i (X : SWs), XM X (rRs R k i X) ∧ (inQ X → inQ (rRs R k i X)) ∧ ∀ j, i ≤ j → j < i + k → rdy (rRs R k i X) (rVl R j)
  | 0, i, X => ⟨XM.refl, id, fun j h1 h2 => absurd h2 (by omega)⟩
  | k + 1, i, X => by
    obtain ⟨a1, a2, a3⟩ := rRs_sp k (i + 1) (rchQ X (rVl R i))
    refine ⟨rchQ_XM.trans a1, fun h => a2 (rchQ_inQ h), fun j h1 h2 => ?_⟩
    by_cases c : j = i
    · rw [c]
      exact rchQ_rdy.mono a1
    · exact a3 j (by omega) (by omega)
theorem rO_sp : XM X (rO R o X) ∧ (inQ X → inQ (rO R o X)) ∧ clO R (rO R o X) o := by
  obtain ⟨a1, a2, a3⟩ := rOs_sp (R := R) (o := o) (R.2.1 o).toNatClampNeg 0 X
  exact ⟨a1, a2, fun t ht => a3 t (Nat.zero_le _) (by omega)⟩
theorem rOs_J (V : ∀ j, j < m → ∃ v, VR R.1 v (rIt R (20 * o + j))) : ∀ k i (X : SWs), i + k = m → SWJ R X → SWJ R (rOs R o k i X)
  | 0, _, _, _, I => I
  | k + 1, i, X, e, I => by
    obtain ⟨v, vr⟩ := V i (by omega)
    exact rOs_J V k (i + 1) _ (by omega) (I.val (h := v.1) (t := v.2) vr)
theorem rO_J (Q : SR S R) (ho : o < 100) (hk : ¬ R.1 o = 0) (I : SWJ R X) : SWJ R (rO R o X) := by
  obtain ⟨m, h1, h2, V⟩ := Q.items ho hk
  unfold rO
  rw [h2, nI_clamp (by omega)]
  exact rOs_J V m 0 X (by omega) I
theorem rRs_J (Q : SR S R) : ∀ k i (X : SWs), i + k = S.2.2.2.2.2.2.1 → SWJ R X → SWJ R (rRs R k i X)
  | 0, _, _, _, I => I
  | k + 1, i, X, e, I => by
    obtain ⟨w, w1, w2, w3, v, _⟩ := Q.2.2.2.2.1 i (by omega)
    exact rRs_J Q k (i + 1) _ (by omega) (I.val v)
theorem rQs_sp (Q : SR S R) : ∀ m i (X : SWs), i + m = 100 → SWJ R X → inQ X → (∀ j, j < i → j < X.2.2 → clO R X (X.2.1 j).toNatClampNeg) → XM X (rQs R m i X) ∧ inQ (rQs R m i X) ∧ ∀ j, j < (rQs R m i X).2.2 → clO R (rQs R m i X) ((rQs R m i X).2.1 j).toNatClampNeg
  | 0, i, X, e, I, h, c => ⟨XM.refl, h, fun j hj => c j (by have := I.1.le; have hj : j < X.2.2 := hj; omega) hj⟩
  | m + 1, i, X, e, I, h, c => by
    rw [rQs]
    by_cases g : i < X.2.2
    · obtain ⟨o, ho, eo, ko⟩ := I.2 i g
      obtain ⟨a1, a2, a3⟩ := rO_sp (R := R) (o := o) (X := X)
      rw [if_pos g, eo, nI_clamp (by omega)]
      obtain ⟨b1, b2, b3⟩ := rQs_sp Q m (i + 1) (rO R o X) (by omega) (rO_J Q ho ko I) (a2 h) (fun j hj hj2 => by
        by_cases cj : j = i
        · rw [cj, a1.2.2 i g, eo, nI_clamp (by omega)]
          exact a3
        · have jl : j < X.2.2 := by omega
          rw [a1.2.2 j jl]
          exact (c j (by omega) jl).mono a1)
      exact ⟨a1.trans b1, b2, b3⟩
    · rw [if_neg g]
      exact ⟨XM.refl, h, fun j hj => c j (by omega) hj⟩
/-- all is reached that a reached OBJECT holds, and that a ROOT holds -/
theorem rAll_sp (Q : SR S R) (h : ∀ o, X.1 o = 0 ∨ X.1 o = 1) {Y : SWs} (hY : Y = rAll R S.2.2.2.2.2.2.1 (X0w X)) : (∀ o, o < 100 → ¬ Y.1 o = 0 → clO R Y o) ∧ ∀ i, i < S.2.2.2.2.2.2.1 → rdy Y (rVl R i) := by
  have J := rRs_J Q S.2.2.2.2.2.2.1 0 (X0w X) (by omega) (x0_swj h)
  obtain ⟨a1, a2, a3⟩ := rRs_sp (R := R) S.2.2.2.2.2.2.1 0 (X0w X)
  have i0 : inQ (X0w X) := fun o ho w => absurd (show zrI X.1 100 o = 0 from if_pos ho) w
  obtain ⟨b1, b2, b3⟩ := rQs_sp Q 100 0 _ rfl J (a2 i0) (fun j hj _ => absurd hj (Nat.not_lt_zero _))
  subst hY
  unfold rAll
  refine ⟨fun o ho w => ?_, fun i hi => (a3 i (Nat.zero_le _) (by omega)).mono b1⟩
  obtain ⟨j, hj, ej⟩ := b2 o ho w
  have z := b3 j hj
  rw [ej, nI_clamp (by omega)] at z
  exact z
/-- two sweeps of one State -/
theorem SWE.val (h : SWE X Y) (V : VR R.1 v q) : SWE (rchQ X q) (rchQ Y q) := by
  rcases V.ob (h := v.1) (t := v.2) (X := X) with ⟨c, _⟩ | ⟨c, _, o, ho, _, t1, _, e⟩
  · unfold rchQ
    rw [if_pos c, if_pos c]
    exact h
  · have e' : rchQ Y q = rch Y o := by
      unfold rchQ
      rw [if_neg c, t1, (obj100 o ho).2.2, nI_clamp (by omega)]
    rw [e, e']
    unfold rch
    rw [← h.1 o ho, ← h.2.1]
    by_cases c0 : X.1 o = 0
    · rw [if_pos c0, if_pos c0]
      refine ⟨fun j hj => ?_, rfl, fun j hj => ?_⟩
      · show upI X.1 o 1 j = upI Y.1 o 1 j
        unfold upI
        rw [h.1 j hj]
      · have hj : j < X.2.2 + 1 := hj
        show upI X.2.1 X.2.2 (nI o) j = upI Y.2.1 X.2.2 (nI o) j
        unfold upI
        by_cases g : j = X.2.2
        · rw [if_pos g, if_pos g]
        · rw [if_neg g, if_neg g]
          exact h.2.2 j (by omega)
    · rw [if_neg c0, if_neg c0]
      exact h
theorem rOs_E (V : ∀ j, j < m → ∃ v, VR R.1 v (rIt R (20 * o + j))) : ∀ k i (X Y : SWs), i + k = m → SWE X Y → SWE (rOs R o k i X) (rOs R o k i Y)
  | 0, _, _, _, _, I => I
  | k + 1, i, X, Y, e, I => by
    obtain ⟨v, vr⟩ := V i (by omega)
    exact rOs_E V k (i + 1) _ _ (by omega) (I.val vr)
theorem rRs_E (Q : SR S R) : ∀ k i (X Y : SWs), i + k = S.2.2.2.2.2.2.1 → SWE X Y → SWE (rRs R k i X) (rRs R k i Y)
  | 0, _, _, _, _, I => I
  | k + 1, i, X, Y, e, I => by
    obtain ⟨w, w1, w2, w3, v, _⟩ := Q.2.2.2.2.1 i (by omega)
    exact rRs_E Q k (i + 1) _ _ (by omega) (I.val v)
theorem rQs_E (Q : SR S R) : ∀ m i (X Y : SWs), i + m = 100 → SWJ R X → SWE X Y → SWE (rQs R m i X) (rQs R m i Y)
  | 0, _, _, _, _, _, I => I
  | m + 1, i, X, Y, e, J, I => by
    rw [rQs, rQs, ← I.2.1]
    by_cases g : i < X.2.2
    · obtain ⟨o, ho, eo, ko⟩ := J.2 i g
      obtain ⟨k, h1, h2, V⟩ := Q.items ho ko
      rw [if_pos g, if_pos g, ← I.2.2 i g, eo, nI_clamp (by omega)]
      refine rQs_E Q m (i + 1) _ _ (by omega) (rO_J Q ho ko J) ?_
      unfold rO
      rw [h2, nI_clamp (by omega)]
      exact rOs_E V k 0 X Y (by omega) I
    · rw [if_neg g, if_neg g]
      exact I
theorem rAll_E {X' Y Y' : SWs} (Q : SR S R) (h : ∀ o, X.1 o = 0 ∨ X.1 o = 1) (hY : Y = rAll R S.2.2.2.2.2.2.1 (X0w X)) (hY' : Y' = rAll R S.2.2.2.2.2.2.1 (X0w X')) : ∀ o, o < 100 → swG R Y o = swG R Y' o := by
  have J := rRs_J Q S.2.2.2.2.2.2.1 0 (X0w X) (by omega) (x0_swj h)
  have E0 : SWE (X0w X) (X0w X') := ⟨fun o ho => (show zrI X.1 100 o = zrI X'.1 100 o from (if_pos ho).trans (if_pos ho).symm), rfl, fun i hi => absurd hi (Nat.not_lt_zero _)⟩
  have E := rQs_E Q 100 0 _ _ rfl J (rRs_E Q S.2.2.2.2.2.2.1 0 _ _ (by omega) E0)
  subst hY
  subst hY'
  intro o ho
  unfold swG rAll
  rw [E.1 o ho]
theorem unS_E {Y Y' : SWs} (h : ∀ o, o < 100 → swG R Y o = swG R Y' o) : unS S R Y 100 = unS S R Y' 100 := by
  unfold unS
  refine congrArg (fun z => (S.1, S.2.1, z, S.2.2.2)) (funext fun o => ?_)
  by_cases c : o < 100
  · rw [h o c]
  · rw [if_neg (fun w => c w.1), if_neg (fun w => c w.1)]
theorem cntK_sw : ∀ n, n ≤ 100 → cntK (mwR R Y 100).1 n + cntB (swG R Y) n = cntK R.1 n
  | 0, _ => rfl
  | n + 1, h => by
    have ih := cntK_sw n (by omega)
    rw [cntK, cntK, cntB]
    have e : (mwR R Y 100).1 n = if n < 100 ∧ swG R Y n = true then 0 else R.1 n := rfl
    by_cases g : swG R Y n = true
    · have g2 := (of_decide_eq_true g).1
      rw [e, if_pos (show n < 100 ∧ swG R Y n = true from ⟨by omega, g⟩), if_pos rfl, if_pos g, if_neg g2]
      omega
    · rw [e, if_neg (show ¬ (n < 100 ∧ swG R Y n = true) from fun w => g w.2), if_neg g]
      omega
theorem VR.sw (V : VR R.1 v q) (h : rdy Y q) : VR (mwR R Y 100).1 v q := by
  rcases V with V | V | V | ⟨o, k, h1, h2, h3, h4, h5⟩
  · exact Or.inl V
  · exact Or.inr (Or.inl V)
  · exact Or.inr (Or.inr (Or.inl V))
  · refine Or.inr (Or.inr (Or.inr ⟨o, k, h1, h2, ?_, h4, h5⟩))
    have r : ¬ Y.1 o = 0 := by
      rcases h with h | h
      · rw [h5] at h
        have h : k < 3 := h
        exact absurd h (by rcases h2 with e | e <;> (rw [e]; decide))
      · unfold obQ at h
        rw [h5] at h
        have a := (obj100 o h1).2.2
        rw [show ((k, (0 : Int32), (nI o).toInt64, (0 : Int64)) : VQ).2.2.1.toInt32 = nI o from a, nI_clamp (by omega)] at h
        exact h
    show (if o < 100 ∧ swG R Y o = Bool.true then 0 else R.1 o) = k
    rw [if_neg (fun w => r (of_decide_eq_true w.2).2)]
    exact h3
/-- the two stores agree after a sweep -/
theorem SR.sw (Q : SR S R) (c1 : ∀ o, o < 100 → ¬ Y.1 o = 0 → clO R Y o) (c2 : ∀ i, i < S.2.2.2.2.2.2.1 → rdy Y (rVl R i)) : SR (unS S R Y 100) (mwR R Y 100) := by
  have Q0 := Q
  obtain ⟨x1, x2, x3, x4, x5, x6, x7⟩ := Q
  refine ⟨fun o ho => ?_, ?_, x3, x4, fun i hi => ?_, x6, x7⟩
  · have eS : (unS S R Y 100).2.2.1 o = if o < 100 ∧ swG R Y o = true then -1 else S.2.2.1 o := rfl
    have eK : (mwR R Y 100).1 o = if o < 100 ∧ swG R Y o = true then 0 else R.1 o := rfl
    have eZ : (mwR R Y 100).2.1 o = if o < 100 ∧ swG R Y o = true then 0 else R.2.1 o := rfl
    by_cases g : swG R Y o = true
    · rw [if_pos ⟨ho, g⟩] at eS eK
      exact Or.inl ⟨eS, eK⟩
    · rw [if_neg (fun w => g w.2)] at eS eK eZ
      have rd : ¬ R.1 o = 0 → clO R Y o := fun w => c1 o ho (fun z => g (decide_eq_true ⟨w, z⟩))
      rcases x1 o ho with ⟨a1, a2⟩ | ⟨m, a1, a2, a3, a4, a5⟩ | ⟨m, a1, a2, a3, a4, a5⟩
      · exact Or.inl ⟨eS.trans a1, eK.trans a2⟩
      · have cl := rd (by rw [a2]; decide)
        refine Or.inr (Or.inl ⟨m, a1, eK.trans a2, eS.trans a3, eZ.trans a4, fun j hj => (a5 j hj).sw (cl j ?_)⟩)
        rw [a4, nI_clamp (by omega)]
        exact hj
      · have cl := rd (by rw [a2]; decide)
        refine Or.inr (Or.inr ⟨m, a1, eK.trans a2, eS.trans a3, eZ.trans a4, fun j hj => ⟨(a5 j hj).1, (a5 j hj).2.sw (cl j ?_)⟩⟩)
        rw [a4, nI_clamp (by omega)]
        exact hj
  · have e := cntK_sw (R := R) (Y := Y) 100 (Nat.le_refl _)
    show R.2.2.2.2.2.2.2.2.1 - nI (cntB (swG R Y) 100) = _
    rw [x2, nI_sub (by omega)]
    congr 1
    omega
  · obtain ⟨w, w1, w2, w3, w4⟩ := x5 i hi
    exact ⟨w, w1, w2, w3, w4.1.sw (c2 i hi), w4.2⟩
end
