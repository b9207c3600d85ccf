/-! words and signs -/
def RWL : List (List Nat) := [[102, 117, 110], [108, 101, 116], [105, 102], [101, 108, 115, 101], [119, 104, 105, 108, 101], [114, 101, 116, 117, 114, 110], [97, 98, 111, 114, 116], [112, 114, 105, 110, 116], [110, 105, 108], [115, 105, 122, 101], [112, 117, 115, 104], [112, 111, 112]]
/-- kinds with a text of their own: the twelve words, the eighteen signs, the five pairs -/
def KT : List (Int32 × List Nat) := [(5, [102, 117, 110]), (6, [108, 101, 116]), (7, [105, 102]), (8, [101, 108, 115, 101]), (9, [119, 104, 105, 108, 101]), (10, [114, 101, 116, 117, 114, 110]), (11, [97, 98, 111, 114, 116]), (12, [112, 114, 105, 110, 116]), (13, [110, 105, 108]), (14, [115, 105, 122, 101]), (15, [112, 117, 115, 104]), (16, [112, 111, 112]), (123, [123]), (125, [125]), (40, [40]), (41, [41]), (91, [91]), (93, [93]), (44, [44]), (59, [59]), (58, [58]), (46, [46]), (61, [61]), (43, [43]), (45, [45]), (42, [42]), (47, [47]), (37, [37]), (60, [60]), (33, [33]), (256, [61, 61]), (257, [33, 61]), (258, [60, 61]), (259, [38, 38]), (260, [124, 124])]
theorem lc_eq {x y : Int64} : lg_cmp x y = 0 ↔ x = y := by
  unfold lg_cmp
  constructor
  · intro h
    (repeat' split at h) <;> first | (exact absurd h (by decide)) | (rename_i h1 h2; first | exact h2 | exact h1 | (apply Int64.toInt_inj.mp; simp [Int64.lt_iff_toInt_lt] at *; omega))
  · rintro rfl
    (repeat' split) <;> first | rfl | (rename_i h; simp [Int64.lt_iff_toInt_lt] at h)
theorem ofN_inj {a b : Nat} (ha : a < 2 ^ 63) (hb : b < 2 ^ 63) (h : Int64.ofNat a = Int64.ofNat b) : a = b := by
  have := congrArg Int64.toInt h
  rw [Int64.toInt_ofNat_of_lt (by omega), Int64.toInt_ofNat_of_lt (by omega)] at this
  omega
theorem C8_lt {w : List Nat} (h : okL w) : C128 8 w < 2 ^ 63 := Nat.lt_of_lt_of_le (C128_lt 8 w h) (by decide)
theorem rw_ok : ∀ i, i < 12 → (RWL.getD i []).length ≤ 8 ∧ ∀ x ∈ RWL.getD i [], 1 ≤ x ∧ x < 128 := by decide +kernel
def wkF (w : List Nat) : Nat → Nat → Int32
  | 0, _ => 2
  | m + 1, i => if w = RWL.getD i [] then 5 + nI i else wkF w m (i + 1)
theorem wk_eq {ws : Nat → Int64} (hws : ∀ i, i < 12 → ws i = Int64.ofNat (C128 8 (RWL.getD i []))) {w : List Nat} (hw : okL w) (hl : w.length ≤ 8) : ∀ m i, i + m = 12 → s_wk ws (Int64.ofNat (C128 8 w)) m i = wkF w m i
  | 0, _, _ => rfl
  | m + 1, i, h => by
    have ho := rw_ok i (by omega)
    rw [s_wk, wkF, wk_eq hws hw hl m (i + 1) (by omega), hws i (by omega)]
    have e : (lg_cmp (Int64.ofNat (C128 8 (RWL.getD i []))) (Int64.ofNat (C128 8 w)) = 0) = (w = RWL.getD i []) := by
      refine propext ⟨fun q => ?_, fun q => by rw [q]; exact lc_eq.mpr rfl⟩
      exact (C128_inj 8 _ _ ho.1 hl ho.2 hw (ofN_inj (C8_lt ho.2) (C8_lt hw) (lc_eq.mp q))).symm
    simp only [e]
section
variable {g : Nat → Int32} {L : Nat}
theorem nmL_map : ∀ n q, nmL g q n = (List.range n).map fun i => (g (q + i)).toNatClampNeg
  | 0, _ => rfl
  | n + 1, q => by
    rw [nmL, nmL_map n (q + 1), List.range_succ_eq_map, List.map_cons, List.map_map]
    congr 1
    apply List.map_congr_left
    intro i _
    show (g (q + 1 + i)).toNatClampNeg = (g (q + (i + 1))).toNatClampNeg
    rw [show q + 1 + i = q + (i + 1) by omega]
theorem nmL_len : ∀ n q, (nmL g q n).length = n := fun n q => by rw [nmL_map]; simp
theorem nmL_get {n q i : Nat} (h : i < n) : (nmL g q n).getD i 0 = (g (q + i)).toNatClampNeg := by
  rw [nmL_map]
  simp [List.getD, h]
theorem rsB_ex {q n : Nat} : ∀ m k0, rsB g q n m k0 = true → ∃ k, k0 ≤ k ∧ k < k0 + m ∧ mtB g q n k = true
  | 0, _, h => by cases h
  | m + 1, k0, h => by
    rw [rsB, Bool.or_eq_true] at h
    rcases h with h | h
    · exact ⟨k0, Nat.le_refl _, by omega, h⟩
    · obtain ⟨k, h1, h2, h3⟩ := rsB_ex m (k0 + 1) h
      exact ⟨k, by omega, by omega, h3⟩
theorem rsB_of {q n k : Nat} (h : mtB g q n k = true) : ∀ m k0, k0 ≤ k → k < k0 + m → rsB g q n m k0 = true
  | 0, _, h1, h2 => by omega
  | m + 1, k0, h1, h2 => by
    rw [rsB, Bool.or_eq_true]
    by_cases e : k0 = k
    · subst e
      exact Or.inl h
    · exact Or.inr (rsB_of h m (k0 + 1) (by omega) (by omega))
theorem mtB_spec {q n k : Nat} : mtB g q n k = true ↔ k + n + 1 < 60 ∧ RSV.getD k 0 = 32 ∧ RSV.getD (k + n + 1) 0 = 32 ∧ ∀ i, i < n → RSV.getD (k + 1 + i) 0 = g (q + i) := by
  unfold mtB
  rw [Bool.and_eq_true, Bool.and_eq_true, Bool.and_eq_true, decide_eq_true_eq, decide_eq_true_eq, decide_eq_true_eq, List.all_eq_true]
  constructor
  · rintro ⟨h1, h2, h3, h4⟩
    exact ⟨h1, h2, h3, fun i hi => of_decide_eq_true (h4 i (List.mem_range.mpr hi))⟩
  · rintro ⟨h1, h2, h3, h4⟩
    exact ⟨h1, h2, h3, fun i hi => decide_eq_true (h4 i (List.mem_range.mp hi))⟩
def kRS : List Nat := [0, 4, 8, 11, 16, 22, 29, 35, 41, 45, 50, 55]
theorem rs_fin0 : ∀ k, k < 60 → ∀ n, n < 60 → (decide (k + n + 1 < 60) && (decide (RSV.getD k 0 = 32) && (decide (RSV.getD (k + n + 1) 0 = 32) && ((List.range n).all (fun i => !decide (RSV.getD (k + 1 + i) 0 = 32)) && decide (1 ≤ n))))) = true → RWL.contains ((List.range n).map fun i => (RSV.getD (k + 1 + i) 0).toNatClampNeg) = true := by decide +kernel
theorem rs_fin : ∀ k, k < 60 → ∀ n, n < 60 → k + n + 1 < 60 → RSV.getD k 0 = 32 → RSV.getD (k + n + 1) 0 = 32 → (∀ i, i < n → ¬ RSV.getD (k + 1 + i) 0 = 32) → 1 ≤ n → ((List.range n).map fun i => (RSV.getD (k + 1 + i) 0).toNatClampNeg) ∈ RWL := by
  intro k hk n hn h1 h2 h3 h4 h5
  have h6 : ((List.range n).all (fun i => !decide (RSV.getD (k + 1 + i) 0 = 32))) = true := List.all_eq_true.mpr fun i hi => by
    rw [decide_eq_false (h4 i (List.mem_range.mp hi))]
    rfl
  exact List.contains_iff_mem.mp (rs_fin0 k hk n hn (by rw [decide_eq_true h1, decide_eq_true h2, decide_eq_true h3, h6, decide_eq_true h5]; rfl))
theorem rs_fin2 : ∀ i, i < 12 → kRS.getD i 0 + (RWL.getD i []).length + 1 < 60 ∧ RSV.getD (kRS.getD i 0) 0 = 32 ∧ RSV.getD (kRS.getD i 0 + (RWL.getD i []).length + 1) 0 = 32 ∧ ∀ j, j < (RWL.getD i []).length → RSV.getD (kRS.getD i 0 + 1 + j) 0 = nI ((RWL.getD i []).getD j 0) := by decide +kernel
/-- the bytes of a name -/
def nmB (g : Nat → Int32) (q n : Nat) : Prop := ∀ i, i < n → (48 ≤ (g (q + i)).toInt ∧ (g (q + i)).toInt ≤ 122)
theorem rs_eq {q n : Nat} (hn : 1 ≤ n) (hb : nmB g q n) : rsB g q n 60 0 = true ↔ ∃ i, i < 12 ∧ nmL g q n = RWL.getD i [] := by
  constructor
  · intro h
    obtain ⟨k, h1, h2, h3⟩ := rsB_ex 60 0 h
    obtain ⟨m1, m2, m3, m4⟩ := mtB_spec.mp h3
    have := rs_fin k (by omega) n (by omega) m1 m2 m3 (fun i hi e => by
      have a := hb i hi
      rw [← m4 i hi, e] at a
      exact absurd a.1 (by decide)) hn
    have e : nmL g q n = (List.range n).map fun i => (RSV.getD (k + 1 + i) 0).toNatClampNeg := by
      rw [nmL_map]
      apply List.map_congr_left
      intro i hi
      rw [m4 i (List.mem_range.mp hi)]
    rw [← e] at this
    obtain ⟨i, hi, ei⟩ := List.getElem_of_mem this
    refine ⟨i, hi, ?_⟩
    rw [List.getD_eq_getElem?_getD, List.getElem?_eq_getElem hi, Option.getD_some, ei]
  · rintro ⟨i, hi, e⟩
    obtain ⟨m1, m2, m3, m4⟩ := rs_fin2 i hi
    have hl : (RWL.getD i []).length = n := by rw [← e, nmL_len]
    rw [hl] at m1 m3 m4
    refine rsB_of (k := kRS.getD i 0) (mtB_spec.mpr ⟨m1, m2, m3, fun j hj => ?_⟩) 60 0 (by omega) (by omega)
    have a := hb j hj
    rw [m4 j hj, ← e, nmL_get hj]
    refine nI_back (fun w => ?_)
    have := Int32.lt_iff_toInt_lt.mp w
    simp at this
    omega
end
