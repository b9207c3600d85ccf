/-! THE RELATION between the class's store and the reference's State -/
def nV (w : List Nat) : Int64 := Int64.ofNat (V256 0 w)
def okN (w : List Nat) : Prop := okL w ∧ w.length ≤ 8 ∧ nmW w
def VR (kd : Nat → Int32) (v : V2) (q : VQ) : Prop := (v = (0, 0) ∧ q = (0, 0, 0, 0)) ∨ (∃ x : Int32, v = (s_Cell_headOf 1, x.toInt64) ∧ q = (1, 0, x.toInt64, 0)) ∨ (∃ w, okL w ∧ w.length ≤ 16 ∧ v = T7 w ∧ q = T8 w) ∨ (∃ (o : Nat) (k : Int32), o < 100 ∧ (k = 3 ∨ k = 4) ∧ kd o = k ∧ v = (s_Cell_headOf k, (nI o).toInt64) ∧ q = (k, 0, (nI o).toInt64, 0))
abbrev rIt (R : RS) : Nat → VQ := R.2.2.2.2.2.1
abbrev rVl (R : RS) : Nat → VQ := R.2.2.2.2.2.2.1
def OB (S : SC) (R : RS) (o : Nat) : Prop := (S.2.2.1 o = -1 ∧ R.1 o = 0) ∨ (∃ m, m ≤ 20 ∧ R.1 o = 4 ∧ S.2.2.1 o = nI m ∧ R.2.1 o = nI m ∧ ∀ j, j < m → VR R.1 (S.1 (20 * o + j), S.2.1 (20 * o + j)) (rIt R (20 * o + j))) ∨ (∃ m, m ≤ 8 ∧ R.1 o = 3 ∧ S.2.2.1 o = nI (2 * m) ∧ R.2.1 o = nI m ∧ ∀ j, j < m → (∃ w, okN w ∧ S.1 (20 * o + 2 * j) = nF w ∧ S.2.1 (20 * o + 2 * j) = 0 ∧ R.2.2.1 (8 * o + j) = nV w) ∧ VR R.1 (S.1 (20 * o + 2 * j + 1), S.2.1 (20 * o + 2 * j + 1)) (rIt R (20 * o + j)))
def RT (S : SC) (R : RS) (i : Nat) : Prop := ∃ w, okN w ∧ S.2.2.2.1 i = nC w ∧ R.2.2.2.1 i = nV w ∧ VR R.1 (S.2.2.2.2.1 i, S.2.2.2.2.2.1 i) (rVl R i) ∧ ¬ (rVl R i).1 = 0
def cntK (kd : Nat → Int32) : Nat → Nat
  | 0 => 0
  | n + 1 => cntK kd n + if kd n = 0 then 0 else 1
def SR (S : SC) (R : RS) : Prop := (∀ o, o < 100 → OB S R o) ∧ R.2.2.2.2.2.2.2.2.1 = nI (cntK R.1 100) ∧ S.2.2.2.2.2.2.1 ≤ 12 ∧ R.2.2.2.2.2.2.2.2.2.1 = nI S.2.2.2.2.2.2.1 ∧ (∀ i, i < S.2.2.2.2.2.2.1 → RT S R i) ∧ S.2.2.2.2.2.2.2.2 ≤ 10 ∧ R.2.2.2.2.2.2.2.2.2.2.1 = nI S.2.2.2.2.2.2.2.2
def KM (kd kd' : Nat → Int32) : Prop := ∀ o, o < 100 → ¬ kd o = 0 → kd' o = kd o
section
variable {kd kd' : Nat → Int32} {v a b : V2} {q p : VQ} {S S' : SC} {R R' : RS} {o m : Nat}
theorem VR.mono (h : VR kd v q) (g : KM kd kd') : VR kd' v q := by
  rcases h with h | h | h | ⟨o, k, h1, h2, h3, h4⟩
  · exact Or.inl h
  · exact Or.inr (Or.inl h)
  · exact Or.inr (Or.inr (Or.inl h))
  · refine Or.inr (Or.inr (Or.inr ⟨o, k, h1, h2, ?_, h4⟩))
    rw [g o h1 ?_, h3]
    rw [h3]
    rcases h2 with e | e <;> (rw [e]; decide)
theorem so_0 : s_Cell_sortOf 0 = 0 := by decide
theorem so_1 : s_Cell_sortOf (s_Cell_headOf 1) = 1 := by decide
theorem so_k {k : Int32} (h : k = 3 ∨ k = 4) : s_Cell_sortOf (s_Cell_headOf k) = k := by
  rcases h with e | e <;> (subst e; decide)
theorem VR.sort (h : VR kd v q) : s_Cell_sortOf v.1 = q.1 := by
  rcases h with ⟨rfl, rfl⟩ | ⟨x, rfl, rfl⟩ | ⟨w, h1, h2, rfl, rfl⟩ | ⟨o, k, h1, h2, h3, rfl, rfl⟩
  · exact so_0
  · exact so_1
  · exact t7_sort h1
  · exact so_k h2
theorem VR.nil : VR kd (0, 0) (0, 0, 0, 0) := Or.inl ⟨rfl, rfl⟩
theorem VR.int {x : Int32} : VR kd (s_Cell_headOf 1, x.toInt64) (1, 0, x.toInt64, 0) := Or.inr (Or.inl ⟨x, rfl, rfl⟩)
theorem VR.text {w : List Nat} (h : okL w) (hl : w.length ≤ 16) : VR kd (T7 w) (T8 w) := Or.inr (Or.inr (Or.inl ⟨w, h, hl, rfl, rfl⟩))
theorem VR.obj {k : Int32} (ho : o < 100) (hk : k = 3 ∨ k = 4) (h : kd o = k) : VR kd (s_Cell_headOf k, (nI o).toInt64) (k, 0, (nI o).toInt64, 0) := Or.inr (Or.inr (Or.inr ⟨o, k, ho, hk, h, rfl, rfl⟩))
theorem VR.is0 (h : VR kd v q) (e : q.1 = 0) : v = (0, 0) ∧ q = (0, 0, 0, 0) := by
  rcases h with h | ⟨x, rfl, rfl⟩ | ⟨w, h1, h2, rfl, rfl⟩ | ⟨o, k, h1, h2, h3, rfl, rfl⟩
  · exact h
  · exact absurd e (by show ¬ (1 : Int32) = 0; decide)
  · exact absurd e (by show ¬ (2 : Int32) = 0; decide)
  · have e' : k = 0 := e
    rcases h2 with q | q <;> (rw [q] at e'; exact absurd e' (by decide))
theorem VR.is1 (h : VR kd v q) (e : q.1 = 1) : ∃ x : Int32, v = (s_Cell_headOf 1, x.toInt64) ∧ q = (1, 0, x.toInt64, 0) := by
  rcases h with ⟨rfl, rfl⟩ | h | ⟨w, h1, h2, rfl, rfl⟩ | ⟨o, k, h1, h2, h3, rfl, rfl⟩
  · exact absurd e (by show ¬ (0 : Int32) = 1; decide)
  · exact h
  · exact absurd e (by show ¬ (2 : Int32) = 1; decide)
  · have e' : k = 1 := e
    rcases h2 with q | q <;> (rw [q] at e'; exact absurd e' (by decide))
theorem VR.is2 (h : VR kd v q) (e : q.1 = 2) : ∃ w, okL w ∧ w.length ≤ 16 ∧ v = T7 w ∧ q = T8 w := by
  rcases h with ⟨rfl, rfl⟩ | ⟨x, rfl, rfl⟩ | h | ⟨o, k, h1, h2, h3, rfl, rfl⟩
  · exact absurd e (by show ¬ (0 : Int32) = 2; decide)
  · exact absurd e (by show ¬ (1 : Int32) = 2; decide)
  · exact h
  · have e' : k = 2 := e
    rcases h2 with q | q <;> (rw [q] at e'; exact absurd e' (by decide))
theorem VR.isO (h : VR kd v q) {k : Int32} (hk : k = 3 ∨ k = 4) (e : q.1 = k) : ∃ o, o < 100 ∧ kd o = k ∧ v = (s_Cell_headOf k, (nI o).toInt64) ∧ q = (k, 0, (nI o).toInt64, 0) := by
  rcases h with ⟨rfl, rfl⟩ | ⟨x, rfl, rfl⟩ | ⟨w, h1, h2, rfl, rfl⟩ | ⟨o, k', h1, h2, h3, rfl, rfl⟩
  · have e' : (0 : Int32) = k := e
    rcases hk with q | q <;> (rw [q] at e'; exact absurd e' (by decide))
  · have e' : (1 : Int32) = k := e
    rcases hk with q | q <;> (rw [q] at e'; exact absurd e' (by decide))
  · have e' : (2 : Int32) = k := e
    rcases hk with q | q <;> (rw [q] at e'; exact absurd e' (by decide))
  · have e' : k' = k := e
    subst e'
    exact ⟨o, h1, h3, rfl, rfl⟩
theorem VR.kinds (h : VR kd v q) : q.1 = 0 ∨ q.1 = 1 ∨ q.1 = 2 ∨ q.1 = 3 ∨ q.1 = 4 := by
  rcases h with ⟨rfl, rfl⟩ | ⟨x, rfl, rfl⟩ | ⟨w, h1, h2, rfl, rfl⟩ | ⟨o, k, h1, h2, h3, rfl, rfl⟩
  · exact Or.inl rfl
  · exact Or.inr (Or.inl rfl)
  · exact Or.inr (Or.inr (Or.inl rfl))
  · rcases h2 with q | q
    · exact Or.inr (Or.inr (Or.inr (Or.inl q)))
    · exact Or.inr (Or.inr (Or.inr (Or.inr q)))
theorem i64_inj {x y : Int32} (h : x.toInt64 = y.toInt64) : x = y := by
  have := congrArg Int64.toInt32 h
  rwa [Int32.toInt32_toInt64, Int32.toInt32_toInt64] at this
theorem VR.same (h : VR kd a p) (g : VR kd b q) : (a.1 = b.1 ∧ a.2 = b.2) ↔ (p.1 = q.1 ∧ p.2.1 = q.2.1 ∧ p.2.2.1 = q.2.2.1 ∧ p.2.2.2 = q.2.2.2) := by
  constructor
  · rintro ⟨e1, e2⟩
    have es : p.1 = q.1 := by rw [← h.sort, ← g.sort, e1]
    rcases h with ⟨rfl, rfl⟩ | ⟨x, rfl, rfl⟩ | ⟨w, h1, h2, rfl, rfl⟩ | ⟨o, k, h1, h2, h3, rfl, rfl⟩
    · obtain ⟨_, rfl⟩ := g.is0 es.symm
      exact ⟨rfl, rfl, rfl, rfl⟩
    · obtain ⟨y, rfl, rfl⟩ := g.is1 es.symm
      exact ⟨rfl, rfl, e2, rfl⟩
    · obtain ⟨w', g1, g2, rfl, rfl⟩ := g.is2 es.symm
      rw [T7_inj h1 g1 h2 g2 (Prod.ext e1 e2)]
      exact ⟨rfl, rfl, rfl, rfl⟩
    · obtain ⟨o', g1, g2, rfl, rfl⟩ := g.isO h2 es.symm
      exact ⟨rfl, rfl, e2, rfl⟩
  · rintro ⟨es, e2, e3, e4⟩
    rcases h with ⟨rfl, rfl⟩ | ⟨x, rfl, rfl⟩ | ⟨w, h1, h2, rfl, rfl⟩ | ⟨o, k, h1, h2, h3, rfl, rfl⟩
    · obtain ⟨rfl, _⟩ := g.is0 es.symm
      exact ⟨rfl, rfl⟩
    · obtain ⟨y, rfl, rfl⟩ := g.is1 es.symm
      exact ⟨rfl, e3⟩
    · obtain ⟨w', g1, g2, rfl, rfl⟩ := g.is2 es.symm
      rw [T8_inj h1 g1 h2 g2 (Prod.ext es (Prod.ext e2 (Prod.ext e3 e4)))]
      exact ⟨rfl, rfl⟩
    · obtain ⟨o', g1, g2, rfl, rfl⟩ := g.isO h2 es.symm
      exact ⟨rfl, e3⟩
theorem VR.true (h : VR kd v q) : (s_Cell_isTrue v.1 v.2 = 0) ↔ (q.1 = 0 ∨ (q.1 = 1 ∧ q.2.2.1 = 0)) := by
  unfold s_Cell_isTrue
  rw [h.sort]
  by_cases c0 : q.1 = 0
  · rw [if_pos c0]
    exact ⟨fun _ => Or.inl c0, fun _ => rfl⟩
  · rw [if_neg c0]
    by_cases c1 : q.1 = 1
    · obtain ⟨x, rfl, rfl⟩ := h.is1 c1
      rw [if_pos rfl]
      dsimp only
      by_cases c : lg_cmp x.toInt64 0 = 0
      · rw [if_pos c]
        exact ⟨fun _ => Or.inr ⟨rfl, lc_eq.mp c⟩, fun _ => rfl⟩
      · rw [if_neg c]
        exact ⟨fun w => absurd w (by decide), fun w => by rcases w with w | w; exact absurd w (by decide); exact absurd (lc_eq.mpr w.2) c⟩
    · rw [if_neg c1]
      exact ⟨fun w => absurd w (by decide), fun w => by rcases w with w | w; exact absurd w c0; exact absurd w.1 c1⟩
theorem ob_c (h : OB S R o) : S.2.2.1 o = -1 ↔ R.1 o = 0 := by
  rcases h with ⟨h1, h2⟩ | ⟨m, h1, h2, h3, _⟩ | ⟨m, h1, h2, h3, _⟩
  · exact ⟨fun _ => h2, fun _ => h1⟩
  · exact ⟨fun w => absurd (h3.symm.trans w) (nI_m1 (by omega)), fun w => absurd (h2.symm.trans w) (by decide)⟩
  · exact ⟨fun w => absurd (h3.symm.trans w) (nI_m1 (by omega)), fun w => absurd (h2.symm.trans w) (by decide)⟩
theorem SR.si (X : SR S R) : SI S := by
  refine ⟨X.2.2.1, X.2.2.2.2.2.1, fun o ho => ?_⟩
  rcases X.1 o ho with ⟨h1, h2⟩ | ⟨m, h1, h2, h3, _⟩ | ⟨m, h1, h2, h3, _⟩
  · exact Or.inl h1
  · exact Or.inr ⟨m, h1, h3⟩
  · exact Or.inr ⟨2 * m, by omega, h3⟩
theorem SR.row (X : SR S R) (ho : o < 100) (hk : R.1 o = 4) : ∃ m, m ≤ 20 ∧ S.2.2.1 o = nI m ∧ R.2.1 o = nI m ∧ ∀ j, j < m → VR R.1 (S.1 (20 * o + j), S.2.1 (20 * o + j)) (rIt R (20 * o + j)) := by
  rcases X.1 o ho with ⟨h1, h2⟩ | ⟨m, h1, h2, h3⟩ | ⟨m, h1, h2, h3⟩
  · exact absurd (h2.symm.trans hk) (by decide)
  · exact ⟨m, h1, h3⟩
  · exact absurd (h2.symm.trans hk) (by decide)
theorem SR.rec (X : SR S R) (ho : o < 100) (hk : R.1 o = 3) : ∃ m, m ≤ 8 ∧ S.2.2.1 o = nI (2 * m) ∧ R.2.1 o = nI m ∧ ∀ j, j < m → (∃ w, okN w ∧ S.1 (20 * o + 2 * j) = nF w ∧ S.2.1 (20 * o + 2 * j) = 0 ∧ R.2.2.1 (8 * o + j) = nV w) ∧ VR R.1 (S.1 (20 * o + 2 * j + 1), S.2.1 (20 * o + 2 * j + 1)) (rIt R (20 * o + j)) := by
  rcases X.1 o ho with ⟨h1, h2⟩ | ⟨m, h1, h2, h3⟩ | ⟨m, h1, h2, h3⟩
  · exact absurd (h2.symm.trans hk) (by decide)
  · exact absurd (h2.symm.trans hk) (by decide)
  · exact ⟨m, h1, h3⟩
theorem OB.frame (h : OB S R o) (hk : R'.1 o = R.1 o) (g : KM R.1 R'.1) (h1 : ∀ x, 20 * o ≤ x → x < 20 * o + 20 → S'.1 x = S.1 x ∧ S'.2.1 x = S.2.1 x ∧ rIt R' x = rIt R x) (h2 : S'.2.2.1 o = S.2.2.1 o ∧ R'.2.1 o = R.2.1 o) (h3 : ∀ x, 8 * o ≤ x → x < 8 * o + 8 → R'.2.2.1 x = R.2.2.1 x) : OB S' R' o := by
  rcases h with ⟨a1, a2⟩ | ⟨m, a1, a2, a3, a4, a5⟩ | ⟨m, a1, a2, a3, a4, a5⟩
  · exact Or.inl ⟨h2.1.trans a1, hk.trans a2⟩
  · refine Or.inr (Or.inl ⟨m, a1, hk.trans a2, h2.1.trans a3, h2.2.trans a4, fun j hj => ?_⟩)
    obtain ⟨b1, b2, b3⟩ := h1 (20 * o + j) (by omega) (by omega)
    rw [b1, b2, b3]
    exact (a5 j hj).mono g
  · refine Or.inr (Or.inr ⟨m, a1, hk.trans a2, h2.1.trans a3, h2.2.trans a4, fun j hj => ⟨?_, ?_⟩⟩)
    · obtain ⟨w, w1, w2, w3, w4⟩ := (a5 j hj).1
      obtain ⟨b1, b2, _⟩ := h1 (20 * o + 2 * j) (by omega) (by omega)
      exact ⟨w, w1, b1.trans w2, b2.trans w3, (h3 _ (by omega) (by omega)).trans w4⟩
    · obtain ⟨b1, b2, _⟩ := h1 (20 * o + 2 * j + 1) (by omega) (by omega)
      obtain ⟨_, _, b3⟩ := h1 (20 * o + j) (by omega) (by omega)
      rw [b1, b2, b3]
      exact (a5 j hj).2.mono g
/-- one OBJECT is changed -/
theorem SR.upd (X : SR S R) (o : Nat) (hk : R'.1 = R.1) (h1 : ∀ x, x < 20 * o ∨ 20 * o + 20 ≤ x → S'.1 x = S.1 x ∧ S'.2.1 x = S.2.1 x ∧ rIt R' x = rIt R x) (h2 : ∀ o', o' ≠ o → S'.2.2.1 o' = S.2.2.1 o' ∧ R'.2.1 o' = R.2.1 o') (h3 : ∀ x, x < 8 * o ∨ 8 * o + 8 ≤ x → R'.2.2.1 x = R.2.2.1 x) (hr : S'.2.2.2 = S.2.2.2) (hR : R'.2.2.2.1 = R.2.2.2.1 ∧ R'.2.2.2.2.2.2 = R.2.2.2.2.2.2) (ob : OB S' R' o) : SR S' R' := by
  obtain ⟨x1, x2, x3, x4, x5, x6, x7⟩ := X
  have g : KM R.1 R'.1 := fun o _ _ => by rw [hk]
  have r1 : rVl R' = rVl R := congrArg (·.1) hR.2
  have r2 : R'.2.2.2.2.2.2.2.2.1 = R.2.2.2.2.2.2.2.2.1 := congrArg (·.2.2.1) hR.2
  have r3 : R'.2.2.2.2.2.2.2.2.2.1 = R.2.2.2.2.2.2.2.2.2.1 := congrArg (·.2.2.2.1) hR.2
  have r4 : R'.2.2.2.2.2.2.2.2.2.2.1 = R.2.2.2.2.2.2.2.2.2.2.1 := congrArg (·.2.2.2.2.1) hR.2
  refine ⟨fun o' ho' => ?_, by rw [r2, hk]; exact x2, by rw [hr]; exact x3, by rw [hr, r3]; exact x4, fun i hi => ?_, by rw [hr]; exact x6, by rw [hr, r4]; exact x7⟩
  · by_cases c : o' = o
    · rw [c]
      exact ob
    · exact (x1 o' ho').frame (by rw [hk]) g (fun x a b => h1 x (by omega)) (h2 o' c) (fun x a b => h3 x (by omega))
  · rw [hr] at hi
    obtain ⟨w, w1, w2, w3, w4⟩ := x5 i hi
    refine ⟨w, w1, by rw [hr]; exact w2, by rw [hR.1]; exact w3, ?_⟩
    rw [hr, r1, hk]
    exact w4
/-- the ROOTS are changed -/
theorem SR.roots (X : SR S R) {k : Nat} (hS : S'.1 = S.1 ∧ S'.2.1 = S.2.1 ∧ S'.2.2.1 = S.2.2.1 ∧ S'.2.2.2.2.2.2.2.2 = S.2.2.2.2.2.2.2.2) (hk : S'.2.2.2.2.2.2.1 = k) (h12 : k ≤ 12) (hR : R'.1 = R.1 ∧ R'.2.1 = R.2.1 ∧ R'.2.2.1 = R.2.2.1 ∧ rIt R' = rIt R ∧ R'.2.2.2.2.2.2.2.2.1 = R.2.2.2.2.2.2.2.2.1 ∧ R'.2.2.2.2.2.2.2.2.2.2.1 = R.2.2.2.2.2.2.2.2.2.2.1) (hn : R'.2.2.2.2.2.2.2.2.2.1 = nI k) (rt : ∀ i, i < k → RT S' R' i) : SR S' R' := by
  obtain ⟨x1, x2, x3, x4, x5, x6, x7⟩ := X
  obtain ⟨s1, s2, s3, s4⟩ := hS
  obtain ⟨r1, r2, r3, r4, r5, r6⟩ := hR
  refine ⟨fun o ho => ?_, by rw [r5, r1]; exact x2, by rw [hk]; exact h12, by rw [hn, hk], fun i hi => rt i (by rw [hk] at hi; exact hi), by rw [s4]; exact x6, by rw [r6, s4]; exact x7⟩
  exact (x1 o ho).frame (by rw [r1]) (fun _ _ _ => by rw [r1]) (fun x _ _ => by rw [s1, s2, r4]; exact ⟨rfl, rfl, rfl⟩) (by rw [s3, r2]; exact ⟨rfl, rfl⟩) (fun x _ _ => by rw [r3])
end
theorem nC_same {w w' : List Nat} (h : okN w) (h' : okN w') : nC w = nC w' ↔ w = w' := (nm_same h.1 h'.1 h.2.1 h'.2.1).1
theorem nV_same {w w' : List Nat} (h : okN w) (h' : okN w') : nV w = nV w' ↔ w = w' := (nm_same h.1 h'.1 h.2.1 h'.2.1).2
theorem nF_nat {w : List Nat} (h : okN w) : nF w = Int64.ofNat (2 * 2 ^ 56 + C128 8 w) := by
  have hc := C128_lt 8 w h.1
  have h8 : (128 : Nat) ^ 8 = 2 ^ 56 := by decide
  unfold nF nC
  rw [show s_Cell_headOf 2 = Int64.ofNat (2 * 2 ^ 56) by decide, or_nat _ _ (by decide) (by omega), or_add (k := 56) (by decide) (by omega)]
theorem nF_same {w w' : List Nat} (h : okN w) (h' : okN w') : nF w = nF w' ↔ w = w' := by
  rw [nF_nat h, nF_nat h']
  have hc := C128_lt 8 w h.1
  have hc' := C128_lt 8 w' h'.1
  have h8 : (128 : Nat) ^ 8 = 2 ^ 56 := by decide
  refine ⟨fun e => ?_, fun e => by rw [e]⟩
  have := ofN_inj (by omega) (by omega) e
  exact C128_inj 8 w w' h.2.1 h'.2.1 h.1 h'.1 (by omega)
theorem fd_eq {g1 g2 : Nat → Int64} {y1 y2 : Int64} : ∀ m i, (∀ j, i ≤ j → j < i + m → (g1 j = y1 ↔ g2 j = y2)) → s_fd g1 y1 m i = s_fd g2 y2 m i
  | 0, _, _ => rfl
  | m + 1, i, h => by
    rw [s_fd, s_fd, fd_eq m (i + 1) (fun j a b => h j (by omega) (by omega))]
    have e := h i (by omega) (by omega)
    by_cases c : g1 i = y1
    · rw [if_pos (lc_eq.mpr c), if_pos (lc_eq.mpr (e.mp c))]
    · rw [if_neg (fun w => c (lc_eq.mp w)), if_neg (fun w => c (e.mpr (lc_eq.mp w)))]
theorem find_eq {g1 g2 : Nat → Int64} {y1 y2 : Int64} {k : Nat} (h : ∀ j, j < k → (g1 j = y1 ↔ g2 j = y2)) : s_find g1 k y1 = s_find g2 k y2 := fd_eq k 0 (fun j _ b => h j (by omega))
theorem fc_fd {h : Nat → Int64} {g : Nat → Int64} {y z : Int64} {a : Nat} : ∀ m i, (∀ j, i ≤ j → j < i + m → (h (a + 2 * j) = y ↔ g j = z)) → (s_fc h y m (a + 2 * i) = -1 ∧ s_fd g z m i = -1) ∨ ∃ j, i ≤ j ∧ j < i + m ∧ s_fc h y m (a + 2 * i) = nI (a + 2 * j + 1) ∧ s_fd g z m i = nI j ∧ g j = z
  | 0, _, _ => Or.inl ⟨rfl, rfl⟩
  | m + 1, i, hh => by
    rw [s_fc, s_fd]
    have e := hh i (by omega) (by omega)
    by_cases c : g i = z
    · rw [if_pos (lc_eq.mpr c), if_pos (lc_eq.mpr (e.mpr c))]
      exact Or.inr ⟨i, Nat.le_refl _, by omega, rfl, rfl, c⟩
    · rw [if_neg (fun w => c (lc_eq.mp w)), if_neg (fun w => c (e.mp (lc_eq.mp w)))]
      rcases fc_fd (a := a) m (i + 1) (fun j p q => hh j (by omega) (by omega)) with w | ⟨j, w1, w2, w3, w4, w5⟩
      · exact Or.inl w
      · exact Or.inr ⟨j, by omega, by omega, w3, w4, w5⟩
theorem ffr_kd {c kd : Nat → Int32} : ∀ m i, (∀ j, i ≤ j → j < i + m → (c j = -1 ↔ kd j = 0)) → (ffr c m i = none ∧ ∀ j, i ≤ j → j < i + m → ¬ kd j = 0) ∨ ∃ o, i ≤ o ∧ o < i + m ∧ ffr c m i = some o ∧ kd o = 0 ∧ ∀ j, i ≤ j → j < o → ¬ kd j = 0
  | 0, _, _ => Or.inl ⟨rfl, fun j a b => by omega⟩
  | m + 1, i, h => by
    rw [ffr]
    have e := h i (by omega) (by omega)
    by_cases c : kd i = 0
    · rw [if_pos (e.mpr c)]
      exact Or.inr ⟨i, Nat.le_refl _, by omega, rfl, c, fun j a b => by omega⟩
    · rw [if_neg (fun w => c (e.mp w))]
      rcases ffr_kd m (i + 1) (fun j p q => h j (by omega) (by omega)) with ⟨w1, w2⟩ | ⟨o, w1, w2, w3, w4, w5⟩
      · refine Or.inl ⟨w1, fun j p q => ?_⟩
        by_cases e : j = i
        · rw [e]
          exact c
        · exact w2 j (by omega) (by omega)
      · refine Or.inr ⟨o, by omega, by omega, w3, w4, fun j p q => ?_⟩
        by_cases e : j = i
        · rw [e]
          exact c
        · exact w5 j (by omega) (by omega)
theorem cntK_le {kd : Nat → Int32} : ∀ n, cntK kd n ≤ n
  | 0 => Nat.le_refl _
  | n + 1 => by
    have := cntK_le (kd := kd) n
    unfold cntK
    split <;> omega
theorem cntK_all {kd : Nat → Int32} : ∀ n, (∀ j, j < n → ¬ kd j = 0) → cntK kd n = n
  | 0, _ => rfl
  | n + 1, h => by
    unfold cntK
    rw [cntK_all n (fun j hj => h j (by omega)), if_neg (h n (by omega))]
theorem cntK_free {kd : Nat → Int32} : ∀ n o, o < n → kd o = 0 → cntK kd n < n
  | 0, _, h, _ => by omega
  | n + 1, o, h, e => by
    unfold cntK
    by_cases c : o = n
    · subst c
      have := cntK_le (kd := kd) o
      rw [if_pos e]
      omega
    · have := cntK_free n o (by omega) e
      split <;> omega
theorem cntK_off {kd : Nat → Int32} {o : Nat} {k : Int32} : ∀ n, n ≤ o → cntK (upI kd o k) n = cntK kd n
  | 0, _ => rfl
  | n + 1, h => by
    unfold cntK
    rw [cntK_off n (by omega), show upI kd o k n = kd n from if_neg (by omega)]
theorem cntK_up {kd : Nat → Int32} {o : Nat} {k : Int32} (e : kd o = 0) (hk : ¬ k = 0) : ∀ n, o < n → cntK (upI kd o k) n = cntK kd n + 1
  | 0, h => by omega
  | n + 1, h => by
    unfold cntK
    by_cases c : o = n
    · subst c
      rw [cntK_off o (Nat.le_refl _), show upI kd o k o = k from if_pos rfl, if_neg hk, if_pos e]
    · rw [cntK_up e hk n (by omega), show upI kd o k n = kd n from if_neg (by omega)]
      omega
