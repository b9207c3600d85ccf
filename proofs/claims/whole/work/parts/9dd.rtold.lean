/-! the reference's arrays of what is told -/
abbrev KQ : Type := Int32 × Int32 × Int32 × Int32 × Int32 × Int32
abbrev TAr : Type := (Nat → Int64) × (Nat → Nat → Int32)
def TA (f : Nat → am_C) (A : TAr) : Prop := f 170 = aLong 200 A.1 ∧ ∀ z, 171 ≤ z → z ≤ 176 → f z = aInt 200 (A.2 z)
abbrev TZ (z : Nat) : Prop := (170 ≤ z ∧ z ≤ 176) ∨ z = 185
/-- another E that differs in what is told alone -/
def RKp (E E' : RE) : Prop := E'.1 = E.1 ∧ E'.2.1 = E.2.1 ∧ (re_n E' = re_n E ∧ re_u E' = re_u E) ∧ E'.2.2.2 = E.2.2.2 ∧ ∀ z, ¬ TZ z → re_f E' z = re_f E z
section
variable {cr cr' m v : Nat} {E E' E'' : RE} {y : RA} {k : KQ} {sp : Nat → Int32} {q : Nat → VQ} {A : TAr} {j z : Nat} {w : Int32} {n : Int64} {C : am_C}
theorem RKp.rfl' : RKp E E := ⟨rfl, rfl, ⟨rfl, rfl⟩, rfl, fun _ _ => rfl⟩
theorem RKp.trans (h : RKp E E') (g : RKp E' E'') : RKp E E'' := ⟨g.1.trans h.1, g.2.1.trans h.2.1, ⟨g.2.2.1.1.trans h.2.2.1.1, g.2.2.1.2.trans h.2.2.1.2⟩, g.2.2.2.1.trans h.2.2.2.1, fun z hz => (g.2.2.2.2 z hz).trans (h.2.2.2.2 z hz)⟩
theorem RKp.eor (h : RKp E E') (e : EOR cr E) : EOR cr E' := by
  obtain ⟨e1, e2, e3, e4⟩ := e
  obtain ⟨h1, h2, h3, h4, h5⟩ := h
  refine ⟨?_, ?_, e3, ?_⟩
  · show E'.1.1 ≤ 1500
    rw [h1]
    exact e1
  · rw [h3.1]
    exact e2
  · rw [h5 161 (by unfold TZ; omega), e4]
    show _ = Sum.inl (FieldType.byte, 1500, fun j => Value.int (E'.1.2 j))
    rw [h1]
theorem RKp.off (hz : TZ z) : RKp E (reF E z C) := ⟨rfl, rfl, ⟨rfl, rfl⟩, rfl, fun z' h => va_up_ne _ _ (fun q => h (by rw [q]; exact hz))⟩
theorem cr_ids {kc : Nat × am_C} {c1 : am_C} (hk : kc ∈ (cr', c1) :: (cr' + 1, aInt 6000 sp) :: vaL (cr' + 2) 1500 q) : cr' ≤ kc.1 ∧ kc.1 ≤ cr' + 6 := by
  unfold vaL at hk
  simp only [List.mem_cons, List.not_mem_nil, or_false] at hk
  rcases hk with rfl | rfl | rfl | rfl | rfl | rfl | rfl <;> (dsimp only; omega)
theorem RKp.crest (h : RKp E E') (hc : cr' = 163 ∨ cr' = 177) (R : CRest cr' E k m v sp q) : CRest cr' E' k m v sp q := fun kc hk => by
  have i := cr_ids hk
  rw [h.2.2.2.2 kc.1 (by unfold TZ; omega)]
  exact R kc hk
theorem CRest.td {w : Int32} (R : CRest cr' E k m v sp q) : CRest cr' (reTd E w) k m v sp q := R
/-- the Code that was at work, once the other is -/
theorem CRest_of (hc : cr = 163 ∨ cr = 177) : CRest cr (reT cr E y k) (re_k E) (ra_m y) (ra_v y) (ra_s y) (ra_q y) := fun kc hk => by
  show PM cr E y kc.1 = kc.2
  unfold vaL at hk
  simp only [List.mem_cons, List.not_mem_nil, or_false] at hk
  rcases hc with rfl | rfl <;> (rcases hk with rfl | rfl | rfl | rfl | rfl | rfl | rfl <;> rfl)
theorem PM_out (h : EOR cr E) (hz : z < 160 ∨ z = 161 ∨ z = 162 ∨ 186 < z) : PM cr E y z = re_f E z := by
  obtain ⟨_, _, h3, _⟩ := h
  have key : lhas z ((160, mdS (re_tm E) (re_om E) (re_L E) (ra_b y) (rLs cr E y)) :: (184, aLong 1500 (ra_l y)) :: (186, aInt 1500 (ra_u y)) :: (cr, cdC cr E (ra_m y) (ra_v y)) :: (cr + 1, aInt 6000 (ra_s y)) :: vaL (cr + 2) 1500 (ra_q y)) = false := by
    rcases h3 with rfl | rfl <;> (unfold vaL; simp only [lhas]; repeat rw [if_neg (by omega)])
  exact HL_no key
theorem TA.pm (T : TA (re_f E) A) (h : EOR cr E) : TA (PM cr E y) A := ⟨(PM_at h (Or.inl ⟨by decide, by decide⟩)).trans T.1, fun z z1 z2 => (PM_at h (Or.inl ⟨by omega, z2⟩)).trans (T.2 z z1 z2)⟩
theorem updI {g : Nat → Int32} : updV (fun j => Value.int (g j)) j (.int w) = fun i => Value.int (upI g j w i) := by
  funext i
  unfold updV upI
  by_cases c : i = j
  · rw [if_pos c, if_pos c]
  · rw [if_neg c, if_neg c]
theorem updL {g : Nat → Int64} : updV (fun j => Value.long (g j)) j (.long n) = fun i => Value.long (upL g j n i) := by
  funext i
  unfold updV upL
  by_cases c : i = j
  · rw [if_pos c, if_pos c]
  · rw [if_neg c, if_neg c]
theorem y_tI (h : EOR cr E) (T : TA (re_f E) A) (z1 : 171 ≤ z) (z2 : z ≤ 176) (hj : j < 200) : ∃ E' A', sV (pm cr E y) .int z (nI j) (.int w) = some (pm cr E' y) ∧ RKp E E' ∧ re_f E' 185 = re_f E 185 ∧ TA (re_f E') A' ∧ A'.1 = A.1 ∧ (∀ z' j', ¬ (z' = z ∧ j' = j) → A'.2 z' j' = A.2 z' j') ∧ A'.2 z j = w := by
  refine ⟨reF E z (aInt 200 (upI (A.2 z) j w)), (A.1, fun z' => if z' = z then upI (A.2 z) j w else A.2 z'), ?_, RKp.off (Or.inl ⟨by omega, z2⟩), va_up_ne _ _ (by omega), ⟨(va_up_ne _ _ (by omega)).trans T.1, fun z' h1 h2 => ?_⟩, rfl, fun z' j' hn => ?_, ?_⟩
  · rw [y_tS h (Or.inl ⟨by omega, z2⟩) (T.2 z z1 z2) hj (by decide), updI]
  · dsimp only
    by_cases c : z' = z
    · rw [if_pos c, c]
      exact va_up_self _ _ _
    · rw [if_neg c]
      exact (va_up_ne _ _ c).trans (T.2 z' h1 h2)
  · dsimp only
    by_cases c : z' = z
    · rw [if_pos c, c]
      unfold upI
      rw [if_neg (fun q => hn ⟨c, q⟩)]
    · rw [if_neg c]
  · dsimp only
    rw [if_pos rfl]
    unfold upI
    rw [if_pos rfl]
theorem y_tN (h : EOR cr E) (T : TA (re_f E) A) (hj : j < 200) : ∃ E' A', sV (pm cr E y) .long 170 (nI j) (.long n) = some (pm cr E' y) ∧ RKp E E' ∧ re_f E' 185 = re_f E 185 ∧ TA (re_f E') A' ∧ A'.2 = A.2 ∧ (∀ j', ¬ j' = j → A'.1 j' = A.1 j') ∧ A'.1 j = n := by
  refine ⟨reF E 170 (aLong 200 (upL A.1 j n)), (upL A.1 j n, A.2), ?_, RKp.off (Or.inl ⟨by omega, by omega⟩), by show va_up (re_f E) 170 (aLong 200 (upL A.1 j n)) 185 = _; exact va_up_ne _ _ (by decide), ⟨by show va_up (re_f E) 170 (aLong 200 (upL A.1 j n)) 170 = _; exact va_up_self _ _ _, fun z' h1 h2 => (va_up_ne _ _ (by omega)).trans (T.2 z' h1 h2)⟩, rfl, fun j' hn => ?_, ?_⟩
  · rw [y_tS h (Or.inl ⟨by omega, by omega⟩) T.1 hj (by decide), updL]
  · show upL A.1 j n j' = A.1 j'
    unfold upL
    rw [if_neg hn]
  · show upL A.1 j n j = n
    unfold upL
    rw [if_pos rfl]
end
/-- one function told, as the reference keeps it -/
def TRw (A : TAr) (sp : Nat → Int32) (q : Nat → VQ) (j : Nat) (i : TI) : Prop := (A.1 j = nV (ti_w i) ∧ A.2 171 j = nI (ti_a i) ∧ A.2 172 j = nI (ti_v i) ∧ A.2 173 j = nI (ti_b i + 1) ∧ A.2 174 j = nI (ti_t i) ∧ A.2 175 j = nI (ti_n i) ∧ A.2 176 j = nI (ti_l i)) ∧ IrS (ti_a i) (ti_b i) (ti_v i) (ti_k i) (ti_l i) (ti_t i) sp q (ti_D i) ∧ sp (ti_b i) = 28 ∧ (ti_a i ≤ ti_b i ∧ ti_b i ≤ ti_a i + 3 * ti_t i ∧ ti_v i ≤ ti_k i ∧ ti_k i ≤ ti_v i + ti_t i)
/-- all of them, with the Code 177 at rest -/
def RST (E : RE) (k : Nat) (TT : Nat → TI) (u : Nat) : Prop := ∃ (A : TAr) (g : Nat → Int64) (kk : KQ) (m v : Nat) (sp : Nat → Int32) (q : Nat → VQ), re_td E = nI k ∧ TA (re_f E) A ∧ re_f E 185 = aLong 1500 g ∧ CRest 177 E kk m v sp q ∧ (∀ j, j < k → TRw A sp q j (TT j) ∧ ti_b (TT j) + 1 ≤ m ∧ ti_k (TT j) ≤ v ∧ ti_k (TT j) = if j + 1 < k then ti_v (TT (j + 1)) else v) ∧ (m ≤ 3 * u ∧ v ≤ u ∧ 8 * k ≤ u)
