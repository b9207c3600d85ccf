/-! each change of the store and the same change of the State -/
def mkR (R : RS) (o : Nat) (k : Int32) : RS := (upI R.1 o k, upI R.2.1 o 0, R.2.2.1, R.2.2.2.1, R.2.2.2.2.1, rIt R, rVl R, R.2.2.2.2.2.2.2.1, R.2.2.2.2.2.2.2.2.1 + 1, R.2.2.2.2.2.2.2.2.2)
def apR (R : RS) (o m : Nat) (q : VQ) : RS := (R.1, upI R.2.1 o (nI (m + 1)), R.2.2.1, R.2.2.2.1, R.2.2.2.2.1, upQ (rIt R) (20 * o + m) q, R.2.2.2.2.2.2)
def ppR (R : RS) (o m : Nat) : RS := (R.1, upI R.2.1 o (nI m), R.2.2)
def stR (R : RS) (x : Nat) (q : VQ) : RS := (R.1, R.2.1, R.2.2.1, R.2.2.2.1, R.2.2.2.2.1, upQ (rIt R) x q, R.2.2.2.2.2.2)
def shL (g : Nat → Int64) (a b : Nat) : Nat → Int64 := fun x => if a ≤ x ∧ x < b then g (x + 1) else g x
def shQ (g : Nat → VQ) (a b : Nat) : Nat → VQ := fun x => if a ≤ x ∧ x < b then g (x + 1) else g x
def fdR (R : RS) (o j m : Nat) : RS := (R.1, upI R.2.1 o (nI m), shL R.2.2.1 (8 * o + j) (8 * o + m), R.2.2.2.1, R.2.2.2.2.1, shQ (rIt R) (20 * o + j) (20 * o + m), R.2.2.2.2.2.2)
def faR (R : RS) (o m : Nat) (y : Int64) (q : VQ) : RS := (R.1, upI R.2.1 o (nI (m + 1)), upL R.2.2.1 (8 * o + m) y, R.2.2.2.1, R.2.2.2.2.1, upQ (rIt R) (20 * o + m) q, R.2.2.2.2.2.2)
def rpR (R : RS) (j k : Nat) (y : Int64) (q : VQ) : RS := (R.1, R.2.1, R.2.2.1, upL R.2.2.2.1 j y, R.2.2.2.2.1, rIt R, upQ (rVl R) j q, R.2.2.2.2.2.2.2.1, R.2.2.2.2.2.2.2.2.1, nI k, R.2.2.2.2.2.2.2.2.2.2)
section
variable {v : V2} {q : VQ} {S : SC} {R : RS} {o m j : Nat} {w : List Nat}
theorem cOf_o {x : Nat} (ho : o < 100) (h : S.2.2.1 o = nI x) (hx : x < 2 ^ 31) : cOf S (nI o) = x := by
  rw [cOf_n ho, h, nI_clamp hx]
theorem isT_o {x : Nat} (ho : o < 100) (h : S.2.2.1 o = nI x) (hx : x < 2 ^ 31) : isT S (nI o) = true := by
  rw [isT_n ho, h]
  exact decide_eq_true (nI_m1 hx)
theorem app_o {x : Nat} (ho : o < 100) (h : S.2.2.1 o = nI x) (hx : x < 20) {h1 t1 : Int64} : c_app S (nI o) h1 t1 = (true, (upL S.1 (20 * o + x) h1, upL S.2.1 (20 * o + x) t1, upI S.2.2.1 o (nI (x + 1)), S.2.2.2)) := by
  unfold c_app
  rw [isT_o ho h (by omega), if_pos rfl, cOf_o ho h (by omega), if_pos hx, fO_n ho, nI_clamp (by omega)]
theorem SR_make (X : SR S R) : ((c_make S).1 = none ∧ R.2.2.2.2.2.2.2.2.1 = nI 100) ∨ ∃ o, o < 100 ∧ (c_make S).1 = some o ∧ R.1 o = 0 ∧ (∀ j, j < o → ¬ R.1 j = 0) ∧ ¬ R.2.2.2.2.2.2.2.2.1 = nI 100 ∧ ∀ k, (k = 3 ∨ k = 4) → SR (c_make S).2 (mkR R o k) ∧ KM R.1 (mkR R o k).1 ∧ (c_make S).2.2.2.1 o = nI 0 := by
  have hc : ∀ j, 0 ≤ j → j < 0 + 100 → (S.2.2.1 j = -1 ↔ R.1 j = 0) := fun j _ hj => ob_c (X.1 j (by omega))
  rcases ffr_kd 100 0 hc with ⟨h1, h2⟩ | ⟨o, h1, h2, h3, h4, h5⟩
  · refine Or.inl ⟨?_, ?_⟩
    · unfold c_make
      rw [h1]
    · rw [X.2.1, cntK_all 100 (fun j hj => h2 j (by omega) (by omega))]
  · have em : c_make S = (some o, (S.1, S.2.1, upI S.2.2.1 o 0, S.2.2.2)) := by
      unfold c_make
      rw [h3]
    rw [em]
    refine Or.inr ⟨o, by omega, rfl, h4, fun j hj => h5 j (by omega) hj, ?_, fun k hk => ?_⟩
    · rw [X.2.1]
      intro e
      have := nI_inj (Nat.lt_of_le_of_lt (cntK_le 100) (by decide)) (by decide) e
      have := cntK_free 100 o (by omega) h4
      omega
    · have k0 : ¬ k = 0 := by rcases hk with e | e <;> (rw [e]; decide)
      have g : KM R.1 (mkR R o k).1 := fun o' _ hn => if_neg (fun e => hn (by rw [e]; exact h4))
      obtain ⟨x1, x2, x3, x4, x5, x6, x7⟩ := X
      refine ⟨⟨fun o' ho' => ?_, ?_, x3, x4, fun i hi => ?_, x6, x7⟩, g, if_pos rfl⟩
      · by_cases c : o' = o
        · subst c
          have e1 : (mkR R o' k).1 o' = k := if_pos rfl
          have e2 : (mkR R o' k).2.1 o' = nI 0 := if_pos rfl
          have e3 : upI S.2.2.1 o' 0 o' = nI 0 := if_pos rfl
          rcases hk with e | e
          · exact Or.inr (Or.inr ⟨0, by omega, e1.trans e, e3, e2, fun j hj => by omega⟩)
          · exact Or.inr (Or.inl ⟨0, by omega, e1.trans e, e3, e2, fun j hj => by omega⟩)
        · exact (x1 o' ho').frame (if_neg c) g (fun x _ _ => ⟨rfl, rfl, rfl⟩) ⟨if_neg c, if_neg c⟩ (fun x _ _ => rfl)
      · show R.2.2.2.2.2.2.2.2.1 + 1 = nI (cntK (upI R.1 o k) 100)
        rw [cntK_up h4 k0 100 (by omega), x2]
        exact (Int32.ofNat_add _ _).symm
      · obtain ⟨w, w1, w2, w3, w4⟩ := x5 i hi
        exact ⟨w, w1, w2, w3, w4.1.mono g, w4.2⟩
theorem SR_push (X : SR S R) (ho : o < 100) (hk : R.1 o = 4) (hc : S.2.2.1 o = nI m) (hm : m < 20) (hv : VR R.1 v q) : c_app S (nI o) v.1 v.2 = (true, (c_app S (nI o) v.1 v.2).2) ∧ SR (c_app S (nI o) v.1 v.2).2 (apR R o m q) := by
  rw [app_o ho hc hm]
  refine ⟨rfl, ?_⟩
  obtain ⟨m', a1, a2, a3, a4⟩ := X.row ho hk
  have em : m' = m := nI_inj (by omega) (by omega) (a2.symm.trans hc)
  subst em
  refine X.upd o rfl (fun x hx => ⟨if_neg (by omega), if_neg (by omega), if_neg (by omega)⟩) (fun o' h => ⟨if_neg h, if_neg h⟩) (fun x _ => rfl) rfl ⟨rfl, rfl⟩ ?_
  refine Or.inr (Or.inl ⟨m' + 1, by omega, hk, if_pos rfl, if_pos rfl, fun j hj => ?_⟩)
  by_cases c : j = m'
  · subst c
    show VR R.1 (upL S.1 (20 * o + j) v.1 (20 * o + j), upL S.2.1 (20 * o + j) v.2 (20 * o + j)) (upQ (rIt R) (20 * o + j) q (20 * o + j))
    rw [show upL S.1 (20 * o + j) v.1 (20 * o + j) = v.1 from if_pos rfl, show upL S.2.1 (20 * o + j) v.2 (20 * o + j) = v.2 from if_pos rfl, show upQ (rIt R) (20 * o + j) q (20 * o + j) = q from if_pos rfl]
    exact hv
  · show VR R.1 (upL S.1 (20 * o + m') v.1 (20 * o + j), upL S.2.1 (20 * o + m') v.2 (20 * o + j)) (upQ (rIt R) (20 * o + m') q (20 * o + j))
    rw [show upL S.1 (20 * o + m') v.1 (20 * o + j) = S.1 (20 * o + j) from if_neg (by omega), show upL S.2.1 (20 * o + m') v.2 (20 * o + j) = S.2.1 (20 * o + j) from if_neg (by omega), show upQ (rIt R) (20 * o + m') q (20 * o + j) = rIt R (20 * o + j) from if_neg (by omega)]
    exact a4 j (by omega)
theorem app_full (ho : o < 100) (h : S.2.2.1 o = nI 20) {h1 t1 : Int64} : c_app S (nI o) h1 t1 = (false, S) := by
  unfold c_app
  rw [isT_o ho h (by omega), if_pos rfl, cOf_o ho h (by omega), if_neg (by omega)]
theorem SR_pop (X : SR S R) (ho : o < 100) (hk : R.1 o = 4) (hc : S.2.2.1 o = nI (m + 1)) (hm : m < 20) : SR (c_dl S (nI o)) (ppR R o m) := by
  obtain ⟨m', a1, a2, a3, a4⟩ := X.row ho hk
  have em : m' = m + 1 := nI_inj (by omega) (by omega) (a2.symm.trans hc)
  subst em
  have e : c_dl S (nI o) = (S.1, S.2.1, upI S.2.2.1 o (nI m), S.2.2.2) := by
    unfold c_dl
    rw [cOf_o ho hc (by omega), if_neg (by omega), nI_clamp (by omega), hc]
    have : nI (m + 1) - 1 = nI m := nI_sub (a := m + 1) (b := 1) (by omega)
    rw [this]
  rw [e]
  refine X.upd o rfl (fun x hx => ⟨rfl, rfl, rfl⟩) (fun o' h => ⟨if_neg h, if_neg h⟩) (fun x _ => rfl) rfl ⟨rfl, rfl⟩ ?_
  exact Or.inr (Or.inl ⟨m, by omega, hk, if_pos rfl, if_pos rfl, fun j hj => a4 j (by omega)⟩)
theorem SR_setI (X : SR S R) (ho : o < 100) (hk : R.1 o = 4) (hc : S.2.2.1 o = nI m) (hm : m ≤ 20) (hj : j < m) (hv : VR R.1 v q) : SR (upL S.1 (20 * o + j) v.1, upL S.2.1 (20 * o + j) v.2, S.2.2) (stR R (20 * o + j) q) := by
  obtain ⟨m', a1, a2, a3, a4⟩ := X.row ho hk
  have em : m' = m := nI_inj (by omega) (by omega) (a2.symm.trans hc)
  subst em
  refine X.upd o rfl (fun x hx => ⟨if_neg (by omega), if_neg (by omega), if_neg (by omega)⟩) (fun o' h => ⟨rfl, rfl⟩) (fun x _ => rfl) rfl ⟨rfl, rfl⟩ ?_
  refine Or.inr (Or.inl ⟨m', a1, hk, a2, a3, fun i hi => ?_⟩)
  by_cases c : i = j
  · subst c
    show VR R.1 (upL S.1 (20 * o + i) v.1 (20 * o + i), upL S.2.1 (20 * o + i) v.2 (20 * o + i)) (upQ (rIt R) (20 * o + i) q (20 * o + i))
    rw [show upL S.1 (20 * o + i) v.1 (20 * o + i) = v.1 from if_pos rfl, show upL S.2.1 (20 * o + i) v.2 (20 * o + i) = v.2 from if_pos rfl, show upQ (rIt R) (20 * o + i) q (20 * o + i) = q from if_pos rfl]
    exact hv
  · show VR R.1 (upL S.1 (20 * o + j) v.1 (20 * o + i), upL S.2.1 (20 * o + j) v.2 (20 * o + i)) (upQ (rIt R) (20 * o + j) q (20 * o + i))
    rw [show upL S.1 (20 * o + j) v.1 (20 * o + i) = S.1 (20 * o + i) from if_neg (by omega), show upL S.2.1 (20 * o + j) v.2 (20 * o + i) = S.2.1 (20 * o + i) from if_neg (by omega), show upQ (rIt R) (20 * o + j) q (20 * o + i) = rIt R (20 * o + i) from if_neg (by omega)]
    exact a4 i hi
/-- where a FIELD lies, on both sides -/
theorem SR_fc (X : SR S R) (ho : o < 100) (hk : R.1 o = 3) (hr : R.2.1 o = nI m) (hm : m ≤ 8) (hw : okN w) : (c_fc S (nI o) (nF w) = -1 ∧ s_find (fun k => R.2.2.1 (8 * o + k)) m (nV w) = -1) ∨ ∃ j, j < m ∧ c_fc S (nI o) (nF w) = nI (20 * o + 2 * j + 1) ∧ s_find (fun k => R.2.2.1 (8 * o + k)) m (nV w) = nI j := by
  obtain ⟨m', a1, a2, a3, a4⟩ := X.rec ho hk
  have em : m' = m := nI_inj (by omega) (by omega) (a3.symm.trans hr)
  subst em
  unfold c_fc s_find
  rw [cOf_o ho a2 (by omega), fO_n ho, show 2 * m' / 2 = m' by omega]
  have h := fc_fd (h := S.1) (g := fun k => R.2.2.1 (8 * o + k)) (y := nF w) (z := nV w) (a := 20 * o) m' 0 (fun j _ hj => by
    obtain ⟨w', w1, w2, w3, w4⟩ := (a4 j (by omega)).1
    rw [w2, w4, nF_same w1 hw, nV_same w1 hw])
  rcases h with h | ⟨j, h1, h2, h3, h4, _⟩
  · exact Or.inl h
  · exact Or.inr ⟨j, by omega, h3, h4⟩
theorem SR_setF (X : SR S R) (ho : o < 100) (hk : R.1 o = 3) (hr : R.2.1 o = nI m) (hm : m ≤ 8) (hw : okN w) (hv : VR R.1 v q) : (q.1 = 0 ∧ s_find (fun k => R.2.2.1 (8 * o + k)) m (nV w) = -1 ∧ c_setF S (nI o) (nF w) v.1 v.2 = (true, S)) ∨ (∃ j, q.1 = 0 ∧ j < m ∧ s_find (fun k => R.2.2.1 (8 * o + k)) m (nV w) = nI j ∧ (c_setF S (nI o) (nF w) v.1 v.2).1 = true ∧ SR (c_setF S (nI o) (nF w) v.1 v.2).2 (fdR R o j (m - 1))) ∨ (∃ j, ¬ q.1 = 0 ∧ j < m ∧ s_find (fun k => R.2.2.1 (8 * o + k)) m (nV w) = nI j ∧ (c_setF S (nI o) (nF w) v.1 v.2).1 = true ∧ SR (c_setF S (nI o) (nF w) v.1 v.2).2 (stR R (20 * o + j) q)) ∨ (¬ q.1 = 0 ∧ m < 8 ∧ s_find (fun k => R.2.2.1 (8 * o + k)) m (nV w) = -1 ∧ (c_setF S (nI o) (nF w) v.1 v.2).1 = true ∧ SR (c_setF S (nI o) (nF w) v.1 v.2).2 (faR R o m (nV w) q)) ∨ (¬ q.1 = 0 ∧ m = 8 ∧ s_find (fun k => R.2.2.1 (8 * o + k)) m (nV w) = -1 ∧ c_setF S (nI o) (nF w) v.1 v.2 = (false, S)) := by
  have fc := SR_fc X ho hk hr hm hw
  obtain ⟨m', a1, a2, a3, a4⟩ := X.rec ho hk
  have em : m' = m := nI_inj (by omega) (by omega) (a3.symm.trans hr)
  subst em
  have hs := hv.sort
  unfold c_setF
  by_cases c0 : q.1 = 0
  · rw [if_pos (hs.trans c0)]
    rcases fc with ⟨f1, f2⟩ | ⟨j, f1, f2, f3⟩
    · refine Or.inl ⟨c0, f2, ?_⟩
      unfold c_df
      rw [f1, if_pos (by decide)]
    · refine Or.inr (Or.inl ⟨j, c0, f1, f3, rfl, ?_⟩)
      have e : c_df S (nI o) (c_fc S (nI o) (nF w)) = (va_cpy S.1 S.1 (20 * o + 2 * j + 2) (20 * o + 2 * j) (2 * m' - (2 * j + 2)), va_cpy S.2.1 S.2.1 (20 * o + 2 * j + 2) (20 * o + 2 * j) (2 * m' - (2 * j + 2)), upI S.2.2.1 o (nI (2 * (m' - 1))), S.2.2.2) := by
        unfold c_df
        rw [f2, if_neg (nI_pos (by omega)), nI_clamp (show 20 * o + 2 * j + 1 < 2 ^ 31 by omega), cOf_o ho a2 (by omega), fO_n ho, nI_clamp (show o < 2 ^ 31 by omega), a2, Nat.add_sub_cancel, show 20 * o + 2 * m' - (20 * o + 2 * j + 1 + 1) = 2 * m' - (2 * j + 2) by omega]
        have : nI (2 * m') - 2 = nI (2 * (m' - 1)) := by
          rw [show 2 * (m' - 1) = 2 * m' - 2 by omega]
          exact nI_sub (a := 2 * m') (b := 2) (by omega)
        rw [this]
      dsimp only
      rw [e]
      refine X.upd o rfl (fun x hx => ⟨pk_cpy_out (by omega), pk_cpy_out (by omega), if_neg (by omega)⟩) (fun o' h => ⟨if_neg h, if_neg h⟩) (fun x hx => if_neg (by omega)) rfl ⟨rfl, rfl⟩ ?_
      refine Or.inr (Or.inr ⟨m' - 1, by omega, hk, if_pos rfl, if_pos rfl, fun i hi => ?_⟩)
      show (∃ w, okN w ∧ va_cpy S.1 S.1 (20 * o + 2 * j + 2) (20 * o + 2 * j) (2 * m' - (2 * j + 2)) (20 * o + 2 * i) = nF w ∧ va_cpy S.2.1 S.2.1 (20 * o + 2 * j + 2) (20 * o + 2 * j) (2 * m' - (2 * j + 2)) (20 * o + 2 * i) = 0 ∧ shL R.2.2.1 (8 * o + j) (8 * o + (m' - 1)) (8 * o + i) = nV w) ∧ VR R.1 (va_cpy S.1 S.1 (20 * o + 2 * j + 2) (20 * o + 2 * j) (2 * m' - (2 * j + 2)) (20 * o + 2 * i + 1), va_cpy S.2.1 S.2.1 (20 * o + 2 * j + 2) (20 * o + 2 * j) (2 * m' - (2 * j + 2)) (20 * o + 2 * i + 1)) (shQ (rIt R) (20 * o + j) (20 * o + (m' - 1)) (20 * o + i))
      unfold shL shQ
      by_cases c : i < j
      · rw [pk_cpy_out (f := S.1) (by omega), pk_cpy_out (f := S.1) (by omega), pk_cpy_out (f := S.2.1) (by omega), pk_cpy_out (f := S.2.1) (by omega), if_neg (by omega), if_neg (by omega)]
        exact a4 i (by omega)
      · rw [pk_cpy_in (f := S.1) (by omega) (by omega), pk_cpy_in (f := S.1) (by omega) (by omega), pk_cpy_in (f := S.2.1) (by omega) (by omega), pk_cpy_in (f := S.2.1) (by omega) (by omega), if_pos (by omega), if_pos (by omega), show 20 * o + 2 * j + 2 + (20 * o + 2 * i - (20 * o + 2 * j)) = 20 * o + 2 * (i + 1) by omega, show 20 * o + 2 * j + 2 + (20 * o + 2 * i + 1 - (20 * o + 2 * j)) = 20 * o + 2 * (i + 1) + 1 by omega]
        exact a4 (i + 1) (by omega)
  · rw [if_neg (fun e => c0 (hs.symm.trans e))]
    rcases fc with ⟨f1, f2⟩ | ⟨j, f1, f2, f3⟩
    · rw [f1, if_pos (by decide), cOf_o ho a2 (by omega)]
      by_cases c8 : m' < 8
      · rw [if_pos (by omega)]
        refine Or.inr (Or.inr (Or.inr (Or.inl ⟨c0, c8, f2, ?_⟩)))
        rw [app_o ho a2 (by omega)]
        dsimp only
        rw [app_o (S := (upL S.1 (20 * o + 2 * m') (nF w), upL S.2.1 (20 * o + 2 * m') 0, upI S.2.2.1 o (nI (2 * m' + 1)), S.2.2.2)) (x := 2 * m' + 1) ho (if_pos rfl) (by omega)]
        refine ⟨rfl, ?_⟩
        dsimp only
        refine X.upd o rfl (fun x hx => ⟨(if_neg (by omega)).trans (if_neg (by omega)), (if_neg (by omega)).trans (if_neg (by omega)), if_neg (by omega)⟩) (fun o' h => ⟨(if_neg h).trans (if_neg h), if_neg h⟩) (fun x hx => if_neg (by omega)) rfl ⟨rfl, rfl⟩ ?_
        refine Or.inr (Or.inr ⟨m' + 1, by omega, hk, if_pos rfl, if_pos rfl, fun i hi => ?_⟩)
        show (∃ w', okN w' ∧ upL (upL S.1 (20 * o + 2 * m') (nF w)) (20 * o + (2 * m' + 1)) v.1 (20 * o + 2 * i) = nF w' ∧ upL (upL S.2.1 (20 * o + 2 * m') 0) (20 * o + (2 * m' + 1)) v.2 (20 * o + 2 * i) = 0 ∧ upL R.2.2.1 (8 * o + m') (nV w) (8 * o + i) = nV w') ∧ VR R.1 (upL (upL S.1 (20 * o + 2 * m') (nF w)) (20 * o + (2 * m' + 1)) v.1 (20 * o + 2 * i + 1), upL (upL S.2.1 (20 * o + 2 * m') 0) (20 * o + (2 * m' + 1)) v.2 (20 * o + 2 * i + 1)) (upQ (rIt R) (20 * o + m') q (20 * o + i))
        unfold upL upQ
        by_cases c : i = m'
        · subst c
          rw [if_neg (show ¬ 20 * o + 2 * i = 20 * o + (2 * i + 1) by omega), if_neg (show ¬ 20 * o + 2 * i = 20 * o + (2 * i + 1) by omega), if_pos rfl, if_pos rfl, if_pos rfl, if_pos (by omega), if_pos (by omega), if_pos rfl]
          exact ⟨⟨w, hw, rfl, rfl, rfl⟩, hv⟩
        · rw [if_neg (show ¬ 20 * o + 2 * i = 20 * o + (2 * m' + 1) by omega), if_neg (show ¬ 20 * o + 2 * i = 20 * o + (2 * m' + 1) by omega), if_neg (show ¬ 20 * o + 2 * i = 20 * o + 2 * m' by omega), if_neg (show ¬ 20 * o + 2 * i = 20 * o + 2 * m' by omega), if_neg (show ¬ 8 * o + i = 8 * o + m' by omega), if_neg (show ¬ 20 * o + 2 * i + 1 = 20 * o + (2 * m' + 1) by omega), if_neg (show ¬ 20 * o + 2 * i + 1 = 20 * o + (2 * m' + 1) by omega), if_neg (show ¬ 20 * o + 2 * i + 1 = 20 * o + 2 * m' by omega), if_neg (show ¬ 20 * o + 2 * i + 1 = 20 * o + 2 * m' by omega), if_neg (show ¬ 20 * o + i = 20 * o + m' by omega)]
          exact a4 i (by omega)
      · rw [if_neg (by omega)]
        exact Or.inr (Or.inr (Or.inr (Or.inr ⟨c0, by omega, f2, rfl⟩)))
    · rw [f2, if_neg (nI_pos (by omega)), nI_clamp (show 20 * o + 2 * j + 1 < 2 ^ 31 by omega)]
      refine Or.inr (Or.inr (Or.inl ⟨j, c0, f1, f3, rfl, ?_⟩))
      dsimp only
      refine X.upd o rfl (fun x hx => ⟨if_neg (by omega), if_neg (by omega), if_neg (by omega)⟩) (fun o' h => ⟨rfl, rfl⟩) (fun x _ => rfl) rfl ⟨rfl, rfl⟩ ?_
      refine Or.inr (Or.inr ⟨m', a1, hk, a2, a3, fun i hi => ?_⟩)
      show (∃ w', okN w' ∧ upL S.1 (20 * o + 2 * j + 1) v.1 (20 * o + 2 * i) = nF w' ∧ upL S.2.1 (20 * o + 2 * j + 1) v.2 (20 * o + 2 * i) = 0 ∧ R.2.2.1 (8 * o + i) = nV w') ∧ VR R.1 (upL S.1 (20 * o + 2 * j + 1) v.1 (20 * o + 2 * i + 1), upL S.2.1 (20 * o + 2 * j + 1) v.2 (20 * o + 2 * i + 1)) (upQ (rIt R) (20 * o + j) q (20 * o + i))
      unfold upL upQ
      rw [if_neg (show ¬ 20 * o + 2 * i = 20 * o + 2 * j + 1 by omega), if_neg (show ¬ 20 * o + 2 * i = 20 * o + 2 * j + 1 by omega)]
      by_cases c : i = j
      · subst c
        rw [if_pos rfl, if_pos rfl, if_pos rfl]
        exact ⟨(a4 i hi).1, hv⟩
      · rw [if_neg (by omega), if_neg (by omega), if_neg (by omega)]
        exact a4 i hi
theorem SR_fr (X : SR S R) (hw : okN w) : s_find S.2.2.2.1 S.2.2.2.2.2.2.1 (nC w) = s_find R.2.2.2.1 S.2.2.2.2.2.2.1 (nV w) := find_eq fun j hj => by
  obtain ⟨w', w1, w2, w3, _⟩ := X.2.2.2.2.1 j hj
  rw [w2, w3, nC_same w1 hw, nV_same w1 hw]
theorem SR_setR (X : SR S R) (hw : okN w) (hv : VR R.1 v q) : (q.1 = 0 ∧ s_find R.2.2.2.1 S.2.2.2.2.2.2.1 (nV w) = -1 ∧ c_setR S (nC w) v.1 v.2 = (true, S)) ∨ (∃ j, q.1 = 0 ∧ j < S.2.2.2.2.2.2.1 ∧ s_find R.2.2.2.1 S.2.2.2.2.2.2.1 (nV w) = nI j ∧ (c_setR S (nC w) v.1 v.2).1 = true ∧ SR (c_setR S (nC w) v.1 v.2).2 (rpR R j (S.2.2.2.2.2.2.1 - 1) (R.2.2.2.1 (S.2.2.2.2.2.2.1 - 1)) (rVl R (S.2.2.2.2.2.2.1 - 1)))) ∨ (∃ j, ¬ q.1 = 0 ∧ j < S.2.2.2.2.2.2.1 ∧ s_find R.2.2.2.1 S.2.2.2.2.2.2.1 (nV w) = nI j ∧ (c_setR S (nC w) v.1 v.2).1 = true ∧ SR (c_setR S (nC w) v.1 v.2).2 (rpR R j S.2.2.2.2.2.2.1 (nV w) q) ∧ R.2.2.2.1 j = nV w) ∨ (¬ q.1 = 0 ∧ S.2.2.2.2.2.2.1 < 12 ∧ s_find R.2.2.2.1 S.2.2.2.2.2.2.1 (nV w) = -1 ∧ (c_setR S (nC w) v.1 v.2).1 = true ∧ SR (c_setR S (nC w) v.1 v.2).2 (rpR R S.2.2.2.2.2.2.1 (S.2.2.2.2.2.2.1 + 1) (nV w) q)) ∨ (¬ q.1 = 0 ∧ S.2.2.2.2.2.2.1 = 12 ∧ s_find R.2.2.2.1 S.2.2.2.2.2.2.1 (nV w) = -1 ∧ c_setR S (nC w) v.1 v.2 = (false, S)) := by
  have h12 := X.2.2.1
  have hs := hv.sort
  have ff := SR_fr X hw
  have fn := s_fd_neg (g := R.2.2.2.1) (y := nV w) S.2.2.2.2.2.2.1 0 (by omega)
  have ef : s_fd R.2.2.2.1 (nV w) S.2.2.2.2.2.2.1 0 = s_find R.2.2.2.1 S.2.2.2.2.2.2.1 (nV w) := rfl
  rw [ef] at fn
  unfold c_setR
  rw [ff]
  by_cases c0 : q.1 = 0
  · rw [if_pos (hs.trans c0)]
    rcases fn with ⟨f1, f2, _⟩ | ⟨j, _, f1, f2, f3, _⟩
    · rw [if_pos f1]
      exact Or.inl ⟨c0, f2, rfl⟩
    · refine Or.inr (Or.inl ⟨j, c0, by omega, f2, rfl, ?_⟩)
      rw [f2, if_neg (nI_pos (by omega)), nI_clamp (by omega)]
      refine X.roots (k := S.2.2.2.2.2.2.1 - 1) ⟨rfl, rfl, rfl, rfl⟩ rfl (by omega) ⟨rfl, rfl, rfl, rfl, rfl, rfl⟩ rfl (fun i hi => ?_)
      show ∃ w', okN w' ∧ upL S.2.2.2.1 j (S.2.2.2.1 (S.2.2.2.2.2.2.1 - 1)) i = nC w' ∧ upL R.2.2.2.1 j (R.2.2.2.1 (S.2.2.2.2.2.2.1 - 1)) i = nV w' ∧ VR R.1 (upL S.2.2.2.2.1 j (S.2.2.2.2.1 (S.2.2.2.2.2.2.1 - 1)) i, upL S.2.2.2.2.2.1 j (S.2.2.2.2.2.1 (S.2.2.2.2.2.2.1 - 1)) i) (upQ (rVl R) j (rVl R (S.2.2.2.2.2.2.1 - 1)) i) ∧ ¬ (upQ (rVl R) j (rVl R (S.2.2.2.2.2.2.1 - 1)) i).1 = 0
      unfold upL upQ
      by_cases c : i = j
      · rw [if_pos c, if_pos c, if_pos c, if_pos c, if_pos c]
        exact X.2.2.2.2.1 (S.2.2.2.2.2.2.1 - 1) (by omega)
      · rw [if_neg c, if_neg c, if_neg c, if_neg c, if_neg c]
        exact X.2.2.2.2.1 i (by omega)
  · rw [if_neg (fun e => c0 (hs.symm.trans e))]
    have put : ∀ j k, j < k → k ≤ 12 → (∀ i, i < k → i ≠ j → i < S.2.2.2.2.2.2.1) → SR (c_pR S j k (nC w) v.1 v.2) (rpR R j k (nV w) q) := by
      intro j k hj hk hh
      refine X.roots (k := k) ⟨rfl, rfl, rfl, rfl⟩ rfl hk ⟨rfl, rfl, rfl, rfl, rfl, rfl⟩ rfl (fun i hi => ?_)
      show ∃ w', okN w' ∧ upL S.2.2.2.1 j (nC w) i = nC w' ∧ upL R.2.2.2.1 j (nV w) i = nV w' ∧ VR R.1 (upL S.2.2.2.2.1 j v.1 i, upL S.2.2.2.2.2.1 j v.2 i) (upQ (rVl R) j q i) ∧ ¬ (upQ (rVl R) j q i).1 = 0
      unfold upL upQ
      by_cases c : i = j
      · rw [if_pos c, if_pos c, if_pos c, if_pos c, if_pos c]
        exact ⟨w, hw, rfl, rfl, hv, c0⟩
      · rw [if_neg c, if_neg c, if_neg c, if_neg c, if_neg c]
        exact X.2.2.2.2.1 i (hh i hi c)
    rcases fn with ⟨f1, f2, _⟩ | ⟨j, _, f1, f2, f3, _⟩
    · rw [if_pos f1]
      by_cases c12 : S.2.2.2.2.2.2.1 < 12
      · rw [if_pos c12]
        exact Or.inr (Or.inr (Or.inr (Or.inl ⟨c0, c12, f2, rfl, put _ _ (by omega) (by omega) (fun i a b => by omega)⟩)))
      · rw [if_neg c12]
        exact Or.inr (Or.inr (Or.inr (Or.inr ⟨c0, by omega, f2, rfl⟩)))
    · rw [f2, if_neg (nI_pos (by omega)), nI_clamp (by omega)]
      exact Or.inr (Or.inr (Or.inl ⟨j, c0, by omega, rfl, rfl, put _ _ (by omega) h12 (fun i a b => a), f3⟩))
end
