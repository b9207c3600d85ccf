def upSS (SS : Nat → SC) (p : Nat) (S : SC) : Nat → SC := fun q => if q = p then S else SS q
/-- what storeAt may change: the array of the Stores, and new cells -/
def CG (s : HS) (G : LGS) (rs : Nat → Nat) (s' : HS) (G' : LGS) (rs' : Nat → Nat) (c : Nat) : Prop := (G'.1 = G.1 ∧ G'.2.1 = G.2.1 ∧ G'.2.2.2 = G.2.2.2) ∧ (∀ q, q < 10 → (G'.2.2.1 q = G.2.2.1 q ∧ rs' q = rs q) ∨ (G.2.2.1 q = .null ∧ G'.2.2.1 q = .ref (rs' q) ∧ s.1 ≤ rs' q)) ∧ s.1 ≤ s'.1 ∧ s'.1 ≤ s.1 + 8 * c ∧ s'.2.2 ≤ s.2.2 + 4155 * c
section
variable {s s' s'' : HS} {d p : Nat} {G G' G'' : LGS} {rs rs' rs'' : Nat → Nat} {SS : Nat → SC} {c c' : Nat}
theorem CG.trans (h : CG s G rs s' G' rs' c) (g : CG s' G' rs' s'' G'' rs'' c') : CG s G rs s'' G'' rs'' (c + c') := by
  obtain ⟨⟨h1, h2, h3⟩, h4, h5, h6, h7⟩ := h
  obtain ⟨⟨g1, g2, g3⟩, g4, g5, g6, g7⟩ := g
  refine ⟨⟨g1.trans h1, g2.trans h2, g3.trans h3⟩, fun q hq => ?_, by omega, by omega, by omega⟩
  rcases g4 q hq with ⟨a1, a2⟩ | ⟨a1, a2, a3⟩
  · rcases h4 q hq with ⟨b1, b2⟩ | ⟨b1, b2, b3⟩
    · exact Or.inl ⟨a1.trans b1, a2.trans b2⟩
    · exact Or.inr ⟨b1, a1.trans (by rw [a2]; exact b2), by rw [a2]; exact b3⟩
  · rcases h4 q hq with ⟨b1, b2⟩ | ⟨b1, b2, b3⟩
    · exact Or.inr ⟨b1.symm.trans a1, a2, by omega⟩
    · rw [b2] at a1
      cases a1
theorem e_storeAt2 (C : CL s G rs SS) (hp : p < 10) (hp2 : p ≤ G.1 + 1) : ∃ (s' : HS) (G' : LGS) (rs' : Nat → Nat), x_Log_storeAt (d + 2) 154 (nI p) s = some (rs' p, s') ∧ CL s' G' rs' SS ∧ G'.2.2.1 p = .ref (rs' p) ∧ (∀ z, z < s.1 → ¬ z = 155 → s'.2.1 z = s.2.1 z) ∧ CG s G rs s' G' rs' 1 := by
  obtain ⟨s', G', rs', e1, e2, e3, e4, e5, e6, e7⟩ := e_storeAt (d := d) C hp hp2
  refine ⟨s', G', rs', e1, e2, e4, e6, e3, fun q hq => ?_, ?_, ?_, ?_⟩
  · by_cases c : q = p
    · subst c
      rcases e7 with ⟨a1, a2, a3⟩ | ⟨a1, a2, a3, a4⟩
      · exact Or.inl ⟨by rw [a2], by rw [a3]⟩
      · exact Or.inr ⟨a1, e4, by omega⟩
    · exact Or.inl (e5 q hq c)
  · rcases e7 with ⟨a1, _⟩ | ⟨_, _, a3, _⟩
    · rw [a1]
      exact Nat.le_refl _
    · omega
  · rcases e7 with ⟨a1, _⟩ | ⟨_, _, a3, _⟩
    · rw [a1]
      omega
    · omega
  · rcases e7 with ⟨a1, _⟩ | ⟨_, _, _, a4⟩
    · rw [a1]
      omega
    · omega
theorem CL.gw (C : CL s G rs SS) : gd s 154 7 (gI s 154 7 2) = some (nI G.1) := by
  have e : s = (s.1, HG s.2.1 G, s.2.2) := by rw [C.1]
  rw [e, l_gd C.2.1, l_gw C.2.1]
theorem CL.gd {β : Type} {b : Option β} (C : CL s G rs SS) : gd s 154 7 b = b := by
  have e : s = (s.1, HG s.2.1 G, s.2.2) := by rw [C.1]
  rw [e, l_gd C.2.1]
theorem CL.gI (C : CL s G rs SS) : gI s 154 7 2 = some (nI G.1) := by
  have e : s = (s.1, HG s.2.1 G, s.2.2) := by rw [C.1]
  rw [e, l_gw C.2.1]
theorem e_latest (C : CL s G rs SS) : ∃ (s' : HS) (G' : LGS) (rs' : Nat → Nat), x_Log_latest (d + 3) 154 s = some (rs' G.1, s') ∧ CL s' G' rs' SS ∧ G'.2.2.1 G.1 = .ref (rs' G.1) ∧ (∀ z, z < s.1 → ¬ z = 155 → s'.2.1 z = s.2.1 z) ∧ CG s G rs s' G' rs' 1 := by
  obtain ⟨s', G', rs', e1, e2⟩ := e_storeAt2 (d := d) (p := G.1) C (by have := C.2.2.1; omega) (by omega)
  refine ⟨s', G', rs', ?_, e2⟩
  unfold x_Log_latest
  dsimp only
  rw [C.gd, C.gI, Option.bind_some, e1, bnd_some]
/-- an object of another class lies in no Store -/
theorem ST.noO {f : Nat → am_C} {n us r u ci : Nat} {S : SC} (h : ST f r S) (hu : isO (n, f, us) u ci = true) (hc : ¬ ci = 10) : u < r ∨ r + 7 < u := by
  by_cases c : r ≤ u ∧ u ≤ r + 7
  · obtain ⟨fs, e, _⟩ := isO_in hu
    have e : f u = .inr (ci, fs) := e
    have q : u = r ∨ u = r + 1 ∨ u = r + 2 ∨ u = r + 3 ∨ u = r + 4 ∨ u = r + 5 ∨ u = r + 6 ∨ u = r + 7 := by omega
    rw [h.eq] at e
    rcases q with rfl | rfl | rfl | rfl | rfl | rfl | rfl | rfl
    · rw [HT_0] at e
      cases e
      exact absurd rfl hc
    · rw [HT_1] at e
      cases e
    · rw [HT_2] at e
      cases e
    · rw [HT_3] at e
      cases e
    · rw [HT_4] at e
      cases e
    · rw [HT_5] at e
      cases e
    · rw [HT_6] at e
      cases e
    · rw [HT_7] at e
      cases e
  · omega
theorem e_workCopy (C : CL s G rs SS) (UU : ∀ i, i < 10 → (SS G.1).2.2.2.2.2.2.2.1 i = .null ∨ ∃ u, (SS G.1).2.2.2.2.2.2.2.1 i = .ref u ∧ isO s u 4 = true) : ∃ (s' : HS) (G' : LGS) (rs' : Nat → Nat), x_Log_workCopy (d + 4) 154 s = some (rs' (G.1 + 1), s') ∧ CL s' G' rs' (upSS SS (G.1 + 1) (cpS (SS (G.1 + 1)) (SS G.1))) ∧ G'.2.2.1 (G.1 + 1) = .ref (rs' (G.1 + 1)) ∧ G'.2.2.1 G.1 = .ref (rs' G.1) ∧ (∀ z, z < s.1 → ¬ z = 155 → (z < rs' (G.1 + 1) ∨ rs' (G.1 + 1) + 7 < z) → s'.2.1 z = s.2.1 z) ∧ CG s G rs s' G' rs' 2 := by
  have hw := C.2.2.1
  obtain ⟨s1, G1, rs1, e1, C1, e3, e4, e5⟩ := e_storeAt2 (d := d + 1) (p := G.1 + 1) C (by omega) (Nat.le_refl _)
  obtain ⟨s2, G2, rs2, f1, C2, f3, f4, f5⟩ := e_latest (d := d) C1
  have w1 : G1.1 = G.1 := e5.1.1
  rw [w1] at f1 f3
  have k1 : G2.2.2.1 (G.1 + 1) = .ref (rs2 (G.1 + 1)) ∧ rs2 (G.1 + 1) = rs1 (G.1 + 1) := by
    rcases f5.2.1 (G.1 + 1) (by omega) with ⟨a1, a2⟩ | ⟨a1, a2, a3⟩
    · exact ⟨a1.trans (by rw [a2]; exact e3), a2⟩
    · rw [e3] at a1
      cases a1
  have CGt := e5.trans f5
  obtain ⟨n, f, us⟩ := s2
  have C2' := C2
  obtain ⟨g1, g2, g3, g4, g5, g6⟩ := C2
  have g2 : 1311 ≤ n := g2
  have n1 := ref_nn k1.1
  have n0 := ref_nn f3
  obtain ⟨_, T1, T2, T3⟩ : G2.2.2.1 (G.1 + 1) = .ref (rs2 (G.1 + 1)) ∧ ST f (rs2 (G.1 + 1)) (SS (G.1 + 1)) ∧ 1311 ≤ rs2 (G.1 + 1) ∧ rs2 (G.1 + 1) + 7 < n := by
    rcases g4 (G.1 + 1) (by omega) with q | q
    · exact absurd q.1 n1
    · exact q
  obtain ⟨_, V1, V2, V3⟩ : G2.2.2.1 G.1 = .ref (rs2 G.1) ∧ ST f (rs2 G.1) (SS G.1) ∧ 1311 ≤ rs2 G.1 ∧ rs2 G.1 + 7 < n := by
    rcases g4 G.1 (by omega) with q | q
    · exact absurd q.1 n0
    · exact q
  have D := g5 G.1 (G.1 + 1) (by omega) (by omega) (by omega) n0 n1
  have hs12 : s.1 ≤ n := CGt.2.2.1
  have fr : ∀ z, z < s.1 → ¬ z = 155 → f z = s.2.1 z := fun z z1 z2 => by
    have a : s1.1 ≤ n := f5.2.2.1
    have b : s.1 ≤ s1.1 := e5.2.2.1
    rw [← e4 z z1 z2]
    exact f4 z (by omega) z2
  have cp := e_copyFrom (d := d + 2) (us := us) (S := SS (G.1 + 1)) (by omega) T3 (by omega) V3 V1 D (fun i hi => by
    rcases UU i hi with q | ⟨u, q, q2⟩
    · exact Or.inl q
    · have u155 : ¬ u = 155 := fun w => by
        obtain ⟨fs, e, _⟩ := isO_in q2
        have : s.2.1 155 = .inl (.object "StowTongue$Store", 10, G.2.2.1) := by rw [← C.1]; rfl
        rw [w, this] at e
        cases e
      have ult : u < s.1 := by
        obtain ⟨fs, e, _, e2⟩ := isO_in q2
        exact e2
      have q3 : isO (n, f, us) u 4 = true := isO_keep q2 (fr u ult u155) hs12
      exact Or.inr ⟨u, q, q3, T1.noO q3 (by decide)⟩)
  rw [← T1.eq] at cp
  have off : ∀ z, (z < rs2 (G.1 + 1) ∨ rs2 (G.1 + 1) + 7 < z) → HT f (rs2 (G.1 + 1)) (cpS (SS (G.1 + 1)) (SS G.1)) z = f z := fun z hz => HT_off hz
  refine ⟨(n, HT f (rs2 (G.1 + 1)) (cpS (SS (G.1 + 1)) (SS G.1)), us), G2, rs2, ?_, ⟨?_, g2, g3, fun q hq => ?_, g5, g6⟩, k1.1, f3, fun z z1 z2 z3 => (off z z3).trans (fr z z1 z2), CGt⟩
  · unfold x_Log_workCopy
    dsimp only
    rw [C.gd, C.gI, Option.bind_some, show nI G.1 + 1 = nI (G.1 + 1) from nI_add G.1 1, e1, bnd_some, f1, bnd_some, ← k1.2, cp, bnd_some]
  · show HG (HT f (rs2 (G.1 + 1)) (cpS (SS (G.1 + 1)) (SS G.1))) G2 = HT f (rs2 (G.1 + 1)) (cpS (SS (G.1 + 1)) (SS G.1))
    funext z
    by_cases c : 154 ≤ z ∧ z ≤ 156
    · rw [off z (by omega)]
      have w : z = 154 ∨ z = 155 ∨ z = 156 := by omega
      rcases w with rfl | rfl | rfl
      · exact congrFun g1 154
      · exact congrFun g1 155
      · exact congrFun g1 156
    · exact HG_off (by omega)
  · unfold upSS
    by_cases c : q = G.1 + 1
    · subst c
      rw [if_pos rfl]
      exact Or.inr ⟨k1.1, ST.mk, T2, T3⟩
    · rw [if_neg c]
      rcases g4 q hq with w | ⟨w1, w2, w3, w4⟩
      · exact Or.inl w
      · have DD := g5 q (G.1 + 1) hq (by omega) c (ref_nn w1) n1
        exact Or.inr ⟨w1, w2.keep (fun z z1 z2 => off z (by omega)), w3, w4⟩
end
