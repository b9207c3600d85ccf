/-! the class's Stores, in the Log -/
def CL (s : HS) (G : LGS) (rs : Nat → Nat) (SS : Nat → SC) : Prop := HG s.2.1 G = s.2.1 ∧ 1311 ≤ s.1 ∧ G.1 ≤ 8 ∧ (∀ p, p < 10 → (G.2.2.1 p = .null ∧ SS p = S00) ∨ (G.2.2.1 p = .ref (rs p) ∧ ST s.2.1 (rs p) (SS p) ∧ 1311 ≤ rs p ∧ rs p + 7 < s.1)) ∧ (∀ p q, p < 10 → q < 10 → ¬ p = q → ¬ G.2.2.1 p = .null → ¬ G.2.2.1 q = .null → rs p + 7 < rs q ∨ rs q + 7 < rs p) ∧ (1 ≤ G.1 → ∀ p, p ≤ G.1 → ¬ G.2.2.1 p = .null)
section
variable {s s' : HS} {n us d p : Nat} {f : Nat → am_C} {G : LGS} {rs : Nat → Nat} {SS : Nat → SC}
theorem CL.stU (h : CL s G rs SS) : stU s G.2.2.1 := fun j hj => by
  rcases h.2.2.2.1 j hj with q | ⟨q1, q2, q3, q4⟩
  · exact Or.inl q.1
  · have a1 : 128 ≤ rs j := by omega
    have a2 : rs j < s.1 := by omega
    have a3 : 160 ≤ rs j := by omega
    exact Or.inr ⟨rs j, q1, isO_of (s := s) (r := rs j) ((congrFun q2.eq (rs j)).trans HT_0) a1 a2, a3⟩
theorem ref_nn {r : Nat} {v : Value} (h : v = .ref r) : ¬ v = .null := fun q => by rw [h] at q; cases q
theorem CL.keep (h : CL s G rs SS) (hn : s.1 ≤ s'.1) (h1 : ∀ z, 154 ≤ z → z ≤ 156 → s'.2.1 z = s.2.1 z) (h2 : ∀ p, p < 10 → ¬ G.2.2.1 p = .null → ∀ z, rs p ≤ z → z ≤ rs p + 7 → s'.2.1 z = s.2.1 z) : CL s' G rs SS := by
  obtain ⟨g1, g2, g3, g4, g5, g6⟩ := h
  refine ⟨?_, by omega, g3, fun p hp => ?_, g5, g6⟩
  · funext z
    by_cases c : 154 ≤ z ∧ z ≤ 156
    · have e : HG s'.2.1 G z = HG s.2.1 G z := by
        have q : z = 154 ∨ z = 155 ∨ z = 156 := by omega
        rcases q with rfl | rfl | rfl <;> rfl
      rw [e, g1, h1 z c.1 c.2]
    · exact HG_off (by omega)
  · rcases g4 p hp with q | ⟨q1, q2, q3, q4⟩
    · exact Or.inl q
    · exact Or.inr ⟨q1, q2.keep (h2 p hp (ref_nn q1)), q3, by omega⟩
/-- storeAt: the Store of a place, made if it is not yet there -/
theorem e_storeAt (C : CL s G rs SS) (hp : p < 10) (hp2 : p ≤ G.1 + 1) : ∃ (s' : HS) (G' : LGS) (rs' : Nat → Nat), x_Log_storeAt (d + 2) 154 (nI p) s = some (rs' p, s') ∧ CL s' G' rs' SS ∧ (G'.1 = G.1 ∧ G'.2.1 = G.2.1 ∧ G'.2.2.2 = G.2.2.2) ∧ G'.2.2.1 p = .ref (rs' p) ∧ (∀ q, q < 10 → ¬ q = p → G'.2.2.1 q = G.2.2.1 q ∧ rs' q = rs q) ∧ (∀ z, z < s.1 → ¬ z = 155 → s'.2.1 z = s.2.1 z) ∧ ((s' = s ∧ G' = G ∧ rs' = rs) ∨ (G.2.2.1 p = .null ∧ rs' p = s.1 ∧ s'.1 = s.1 + 8 ∧ s'.2.2 = s.2.2 + 4155)) := by
  have C0 := C
  obtain ⟨g1, g2, g3, g4, g5, g6⟩ := C
  obtain ⟨n, f, us⟩ := s
  have g2 : 1311 ≤ n := g2
  have ef : f = HG f G := Eq.symm g1
  have e0 : x_Log_storeAt (d + 2) 154 (nI p) (n, f, us) = ((aN "StowTongue$Store" (n, f, us) 155 (nI p)).bind fun y => y.elim (bnd (x_Store_init (d + 1) n (newO (n, f, us) 10 [.null, .null, .null, .null, .null, .null, .int 0, .null, .int 0])) fun v4 s3 => ((gR s3 154 7 0).bind fun v5 => ((sR "StowTongue$Store" 10 s3 v5 (nI p) n).bind fun s6 => (some (n, s6))))) (fun v2 => some (v2, (n, f, us)))) := by
    unfold x_Log_storeAt
    dsimp only
    rw [gd_of (s := (n, f, us)) (by rw [ef]; exact HG_4 f G) (by decide) (show 154 < n by omega), gR_of (s := (n, f, us)) (k := 0) (x := 155) (by rw [ef]; exact HG_4 f G) (by decide) (show 154 < n by omega) rfl, Option.bind_some]
  have av : aV (n, f, us) (.object "StowTongue$Store") 155 (nI p) = some (G.2.2.1 p) := by
    have := l_av (f := f) (G := G) (us := us) g2 hp
    rw [← ef] at this
    exact this
  rcases g4 p hp with ⟨q, q0⟩ | ⟨q1, q2, q3, q4⟩
  · have hF : HT f n S00 = HG (HT f n S00) G := by
      funext z
      by_cases c : 154 ≤ z ∧ z ≤ 156
      · rw [HT_off (by omega)]
        have w : z = 154 ∨ z = 155 ∨ z = 156 := by omega
        rw [ef]
        rcases w with rfl | rfl | rfl <;> rfl
      · rw [HG_off (by omega)]
    have io : isO (n + 8, HT f n S00, us + 4155) n 10 = true := isO_of (s := (n + 8, HT f n S00, us + 4155)) HT_0 (by omega) (by show n < n + 8; omega)
    have sv : sR "StowTongue$Store" 10 (n + 8, HT f n S00, us + 4155) 155 (nI p) n = some (n + 8, HG (HT f n S00) (G.1, G.2.1, updV G.2.2.1 p (.ref n), G.2.2.2), us + 4155) := by
      have := l_sr (n := n + 8) (us := us + 4155) (f := HT f n S00) (G := G) (i := p) (r := n) (by omega) hp io (by omega)
      rw [← hF] at this
      exact this
    have un : ∀ q, ¬ q = p → updV G.2.2.1 p (.ref n) q = G.2.2.1 q := fun q hq => by unfold updV; rw [if_neg hq]
    have up : updV G.2.2.1 p (.ref n) p = .ref n := by unfold updV; rw [if_pos rfl]
    have ru : ∀ q, ¬ q = p → upU rs p n q = rs q := fun q hq => by unfold upU; rw [if_neg hq]
    have rp : upU rs p n p = n := by unfold upU; rw [if_pos rfl]
    have fo : ∀ z, z < n → ¬ z = 155 → HG (HT f n S00) (G.1, G.2.1, updV G.2.2.1 p (.ref n), G.2.2.2) z = f z := fun z z1 z2 => by
      by_cases c : z = 154 ∨ z = 156
      · rw [ef]
        rcases c with rfl | rfl <;> rfl
      · rw [HG_off (by omega), HT_off (by omega)]
    refine ⟨(n + 8, HG (HT f n S00) (G.1, G.2.1, updV G.2.2.1 p (.ref n), G.2.2.2), us + 4155), (G.1, G.2.1, updV G.2.2.1 p (.ref n), G.2.2.2), upU rs p n, ?_, ⟨?_, by show 1311 ≤ n + 8; omega, g3, fun q hq => ?_, fun a b ha hb hab na nb => ?_, fun hw q hq => ?_⟩, ⟨rfl, rfl, rfl⟩, up.trans (by rw [rp]), fun q hq hqp => ⟨un q hqp, ru q hqp⟩, fo, Or.inr ⟨q, rp, rfl, rfl⟩⟩
    · rw [e0, show aN "StowTongue$Store" (n, f, us) 155 (nI p) = some none by unfold aN; rw [av, q]; rfl, Option.bind_some]
      show (bnd (x_Store_init (d + 1) n (newO (n, f, us) 10 [.null, .null, .null, .null, .null, .null, .int 0, .null, .int 0])) fun v4 s3 => ((gR s3 154 7 0).bind fun v5 => ((sR "StowTongue$Store" 10 s3 v5 (nI p) n).bind fun s6 => (some (n, s6))))) = _
      rw [e_stNew g2, bnd_some, show gR (n + 8, HT f n S00, us + 4155) 154 7 0 = some 155 by rw [hF]; exact l_g0 (by omega), Option.bind_some, sv, Option.bind_some, rp]
    · funext z
      by_cases c : 154 ≤ z ∧ z ≤ 156
      · have w : z = 154 ∨ z = 155 ∨ z = 156 := by omega
        rcases w with rfl | rfl | rfl <;> rfl
      · exact HG_off (by omega)
    · by_cases c : q = p
      · subst c
        refine Or.inr ⟨up.trans (by rw [rp]), ?_, by rw [rp]; exact g2, by rw [rp]; show n + 7 < n + 8; omega⟩
        rw [rp, q0]
        exact (ST.mk (f := f) (r := n) (S := S00)).keep (fun z z1 z2 => HG_off (by omega))
      · rcases g4 q hq with w | ⟨w1, w2, w3, w4⟩
        · exact Or.inl ⟨(un q c).trans w.1, w.2⟩
        · have w4 : rs q + 7 < n := w4
          refine Or.inr ⟨(un q c).trans (by rw [ru q c]; exact w1), ?_, by rw [ru q c]; exact w3, by rw [ru q c]; show rs q + 7 < n + 8; omega⟩
          rw [ru q c]
          exact w2.keep (fun z z1 z2 => fo z (by omega) (by omega))
    · have key : ∀ a, a < 10 → ¬ updV G.2.2.1 p (.ref n) a = .null → (a = p ∧ upU rs p n a = n) ∨ (¬ a = p ∧ ¬ G.2.2.1 a = .null ∧ upU rs p n a = rs a ∧ rs a + 7 < n) := fun a ha na => by
        by_cases c : a = p
        · exact Or.inl ⟨c, by rw [c, rp]⟩
        · rw [un a c] at na
          refine Or.inr ⟨c, na, ru a c, ?_⟩
          rcases g4 a ha with w | ⟨_, _, _, w4⟩
          · exact absurd w.1 na
          · exact w4
      rcases key a ha na with ⟨x1, x2⟩ | ⟨x1, x2, x3, x4⟩ <;> rcases key b hb nb with ⟨y1, y2⟩ | ⟨y1, y2, y3, y4⟩
      · exact absurd (x1.trans y1.symm) hab
      · rw [x2, y3]
        omega
      · rw [x3, y2]
        omega
      · rw [x3, y3]
        exact g5 a b ha hb hab x2 y2
    · show ¬ updV G.2.2.1 p (.ref n) q = .null
      by_cases c : q = p
      · rw [c, up]
        exact fun w => by cases w
      · rw [un q c]
        exact g6 hw q hq
  · refine ⟨(n, f, us), G, rs, ?_, C0, ⟨rfl, rfl, rfl⟩, q1, fun q _ _ => ⟨rfl, rfl⟩, fun _ _ _ => rfl, Or.inl ⟨rfl, rfl, rfl⟩⟩
    rw [e0, show aN "StowTongue$Store" (n, f, us) 155 (nI p) = some (some (rs p)) by unfold aN; rw [av, q1]; rfl, Option.bind_some]
    rfl
end
