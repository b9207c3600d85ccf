section
variable {s s' : HS} {k N a v d : Nat} {un : Nat → Nat} {ci : Nat}
theorem isO_keep (h : isO s v ci = true) (e : s'.2.1 v = s.2.1 v) (hn : s.1 ≤ s'.1) : isO s' v ci = true := by
  unfold isO at h ⊢
  rw [e]
  cases q : s.2.1 v with
  | inl o => rw [q] at h; exact absurd h Bool.false_ne_true
  | inr o =>
    rw [q] at h
    have := of_decide_eq_true h
    exact decide_eq_true ⟨this.1, this.2.1, by omega⟩
theorem isO_in (h : isO s v ci = true) : ∃ fs, s.2.1 v = .inr (ci, fs) ∧ 128 ≤ v ∧ v < s.1 := by
  unfold isO at h
  cases q : s.2.1 v with
  | inl o => rw [q] at h; exact absurd h Bool.false_ne_true
  | inr o =>
    rw [q] at h
    have := of_decide_eq_true h
    exact ⟨o.2, by rw [← this.1], this.2⟩
theorem al_b11 {md : Int32} {g : Nat → Value} (h1 : s.2.1 144 = .inr (3, [.ref a, .int (nI k), .int md])) (hn : 144 < s.1) (ha : 128 ≤ a) (ha2 : a < s.1) (ha3 : a ≠ 144) (h2 : s.2.1 a = .inl (.object "java/lang/Object", N, g)) (hk : k < N) (hN : N ≤ 300) (hv : isO s v 4 = true) : x_AL_add_LObjectaLObjectI_b11 d 144 v a (nI k) s = some ((), (s.1, va_up (va_up s.2.1 a (.inl (.object "java/lang/Object", N, updV g k (.ref v)))) 144 (.inr (3, [.ref a, .int (nI (k + 1)), .int md])), s.2.2)) := by
  have b := cl0 (show k < 2 ^ 31 by omega)
  have e3 : va_up s.2.1 a (.inl (.object "java/lang/Object", N, updV g k (.ref v))) 144 = .inr (3, [.ref a, .int (nI k), .int md]) := (va_up_ne _ _ (Ne.symm ha3)).trans h1
  unfold x_AL_add_LObjectaLObjectI_b11 sRO
  rw [if_pos hv, sV_of h2 ha ha2 b.1 (by rw [b.2]; exact hk), b.2, Option.bind_some, pV_of (s := (s.1, va_up s.2.1 a (.inl (.object "java/lang/Object", N, updV g k (.ref v))), s.2.2)) e3 (by omega) hn (by show 1 < 3; omega), show nI k + 1 = nI (k + 1) from nI_add k 1]
  rfl
theorem al_b11R {md : Int32} {g : Nat → Value} {t : HS} (h1 : s.2.1 144 = .inr (3, [.ref a, .int (nI k), .int md])) (hn : 144 < s.1) (ha : 134 < a) (ha2 : a < s.1) (ha3 : a ≠ 144) (hk : k < N) (hN : N ≤ 300) (h10 : 10 ≤ N) (hu : ∀ i, i < k → g i = .ref (un i)) (ht : t = (s.1, va_up (va_up s.2.1 a (.inl (.object "java/lang/Object", N, updV g k (.ref v)))) 144 (.inr (3, [.ref a, .int (nI (k + 1)), .int md])), s.2.2)) : ALR t (k + 1) N a (upU un k v) ∧ ∀ z, z ≠ 144 → z ≠ a → t.2.1 z = s.2.1 z := by
  subst ht
  refine ⟨?_, fun z z1 z2 => by dsimp only; exact (va_up_ne _ _ z1).trans (va_up_ne _ _ z2)⟩
  unfold ALR
  dsimp only
  refine ⟨md, updV g k (.ref v), va_up_self _ _ _, hn, hk, hN, Or.inr ⟨ha, ha3, ha2, (va_up_ne _ _ ha3).trans (va_up_self _ _ _), h10, fun i hi => ?_⟩⟩
  unfold updV upU
  by_cases c : i = k
  · rw [if_pos c, if_pos c]
  · rw [if_neg c, if_neg c, hu i (by omega)]
theorem al_add (A : ALR s k N a un) (hk : k ≤ 190) (ho : ∀ i, i < k → isO s (un i) 4 = true) (hv : isO s v 4 = true) : ∃ (s' : HS) (a' N' : Nat), x_AL_add_LObject (d + 6) 144 v s = some (1, s') ∧ ALR s' (k + 1) N' a' (upU un k v) ∧ (∀ z, z ≠ 144 → z ≠ a → z < s.1 → s'.2.1 z = s.2.1 z) ∧ ((a' = a ∧ N' = N ∧ s'.1 = s.1 ∧ s'.2.2 = s.2.2) ∨ (a' = s.1 ∧ s'.1 = s.1 + 1 ∧ s'.2.2 = s.2.2 + N' ∧ 4 * N + N' ≤ 4 * N' ∧ N + 1 ≤ N')) := by
  obtain ⟨md, g, h1, hn, kN, N3, hc⟩ := A
  have k0 : k < 2 ^ 31 := by omega
  have V4 : v ≠ 144 := fun q => by
    obtain ⟨fs, e, _⟩ := isO_in hv
    rw [q, h1] at e
    cases e
  have U4 : ∀ i, i < k → un i ≠ 144 := fun i hi q => by
    obtain ⟨fs, e, _⟩ := isO_in (ho i hi)
    rw [q, h1] at e
    cases e
  obtain ⟨s2, hs2⟩ : ∃ s2 : HS, s2 = (s.1, va_up s.2.1 144 (.inr (3, [.ref a, .int (nI k), .int (md + 1)])), s.2.2) := ⟨_, rfl⟩
  have p2 : pV s 144 3 2 (.int (md + 1)) = some s2 := by rw [hs2, pV_of h1 (by omega) hn (by show 2 < 3; omega)]; rfl
  have q1 : s2.2.1 144 = .inr (3, [.ref a, .int (nI k), .int (md + 1)]) := by rw [hs2]; dsimp only; exact va_up_self _ _ _
  have qn : s2.1 = s.1 := by rw [hs2]
  have qu : s2.2.2 = s.2.2 := by rw [hs2]
  have qf : ∀ z, z ≠ 144 → s2.2.1 z = s.2.1 z := fun z hz => by rw [hs2]; dsimp only; exact va_up_ne _ _ hz
  have e0 : x_AL_add_LObject (d + 6) 144 v s = bnd (x_AL_add_LObjectaLObjectI (d + 5) 144 v a (nI k) s2) fun v6 s5 => (some (1, s5)) := by
    unfold x_AL_add_LObject
    dsimp only
    rw [gd_of h1 (by omega) hn, gI_of (k := 2) (x := md) h1 (by omega) hn rfl, Option.bind_some, p2, Option.bind_some, gR_of (k := 0) (x := a) q1 (by omega) (by omega) rfl, Option.bind_some, gI_of (k := 1) (x := nI k) q1 (by omega) (by omega) rfl, Option.bind_some]
  rw [e0]
  have hv2 : isO s2 v 4 = true := isO_keep hv (qf v V4) (by omega)
  clear e0 p2 hs2
  rcases hc with ⟨rfl, rfl⟩ | ⟨ha, ha3, ha2, h2, h10, hu⟩
  · have k00 : k = 0 := by omega
    subst k00
    have e1 : x_AL_add_LObjectaLObjectI (d + 5) 144 v 1 (nI 0) s2 = bnd (x_AL_grow_ (d + 2 + 2) 144 s2) fun v3 s2 => (x_AL_add_LObjectaLObjectI_b11 (d + 4) 144 v v3 (nI 0) s2) := by
      unfold x_AL_add_LObjectaLObjectI
      dsimp only
      rw [gd_of q1 (by omega) (by omega), show lenX s2 1 = some 0 from rfl, Option.bind_some, if_pos (show nI 0 = 0 from rfl)]
    rw [e1, al_grow1 q1 (by omega), bnd_some]
    obtain ⟨s3, hs3⟩ : ∃ s3 : HS, s3 = (s2.1 + 1, va_up (va_up s2.2.1 s2.1 (.inl (.object "java/lang/Object", 10, fun _ => .null))) 144 (.inr (3, [.ref s2.1, .int (nI 0), .int (md + 1)])), s2.2.2 + 10) := ⟨_, rfl⟩
    rw [← hs3]
    have r1 : s3.2.1 144 = .inr (3, [.ref s2.1, .int (nI 0), .int (md + 1)]) := by rw [hs3]; dsimp only; exact va_up_self _ _ _
    have rn : s3.1 = s2.1 + 1 := by rw [hs3]
    have ru : s3.2.2 = s2.2.2 + 10 := by rw [hs3]
    have rf : ∀ z, z ≠ 144 → z ≠ s2.1 → s3.2.1 z = s2.2.1 z := fun z hz hz2 => by rw [hs3]; dsimp only; exact (va_up_ne _ _ hz).trans (va_up_ne _ _ hz2)
    have r2 : s3.2.1 s2.1 = .inl (.object "java/lang/Object", 10, fun _ => .null) := by rw [hs3]; dsimp only; exact (va_up_ne _ _ (by omega)).trans (va_up_self _ _ _)
    have V5 : v < s2.1 := by
      obtain ⟨fs, e, _, e2⟩ := isO_in hv2
      exact e2
    have hv3 : isO s3 v 4 = true := isO_keep hv2 (rf v V4 (by omega)) (by omega)
    clear hs3
    rw [al_b11 r1 (by omega) (by omega) (by omega) (by omega) r2 (by omega) (by omega) hv3, bnd_some]
    obtain ⟨g1, g2⟩ := al_b11R (un := un) (v := v) (g := fun _ => .null) r1 (by omega) (by omega) (by omega) (by omega) (N := 10) (by omega) (by omega) (by omega) (fun i hi => by omega) rfl
    refine ⟨_, s2.1, 10, rfl, g1, fun z z1 z2 z3 => (g2 z z1 (by omega)).trans ((rf z z1 (by omega)).trans (qf z z1)), Or.inr ⟨by omega, by show s3.1 = _; omega, by show s3.2.2 = _; omega, by omega, by omega⟩⟩
  · have h2' : s2.2.1 a = .inl (.object "java/lang/Object", N, g) := (qf a ha3).trans h2
    by_cases c : k = N
    · subst c
      have e1 : x_AL_add_LObjectaLObjectI (d + 5) 144 v a (nI k) s2 = bnd (x_AL_grow_ (d + 4) 144 s2) fun v3 s2 => (x_AL_add_LObjectaLObjectI_b11 (d + 4) 144 v v3 (nI k) s2) := by
        unfold x_AL_add_LObjectaLObjectI
        dsimp only
        rw [gd_of q1 (by omega) (by omega), al_lenX h2' (by omega) (by omega), Option.bind_some, if_pos rfl]
      obtain ⟨g', e2, hg'⟩ := al_growN (d := d) (un := un) q1 (by omega) ha (by omega) ha3 h2' h10 hk hu (fun i hi => isO_keep (ho i hi) (qf _ (U4 i hi)) (by omega))
      rw [e1, e2, bnd_some]
      obtain ⟨s3, hs3⟩ : ∃ s3 : HS, s3 = (s2.1 + 1, va_up (va_up s2.2.1 s2.1 (.inl (.object "java/lang/Object", k + k / 2, g'))) 144 (.inr (3, [.ref s2.1, .int (nI k), .int (md + 1)])), s2.2.2 + (k + k / 2)) := ⟨_, rfl⟩
      rw [← hs3]
      have r1 : s3.2.1 144 = .inr (3, [.ref s2.1, .int (nI k), .int (md + 1)]) := by rw [hs3]; dsimp only; exact va_up_self _ _ _
      have rn : s3.1 = s2.1 + 1 := by rw [hs3]
      have ru : s3.2.2 = s2.2.2 + (k + k / 2) := by rw [hs3]
      have rf : ∀ z, z ≠ 144 → z ≠ s2.1 → s3.2.1 z = s2.2.1 z := fun z hz hz2 => by rw [hs3]; dsimp only; exact (va_up_ne _ _ hz).trans (va_up_ne _ _ hz2)
      have r2 : s3.2.1 s2.1 = .inl (.object "java/lang/Object", k + k / 2, g') := by rw [hs3]; dsimp only; exact (va_up_ne _ _ (by omega)).trans (va_up_self _ _ _)
      have V5 : v < s2.1 := by
        obtain ⟨fs, e, _, e2⟩ := isO_in hv2
        exact e2
      have hv3 : isO s3 v 4 = true := isO_keep hv2 (rf v V4 (by omega)) (by omega)
      clear hs3
      rw [al_b11 r1 (by omega) (by omega) (by omega) (by omega) r2 (by omega) (by omega) hv3, bnd_some]
      obtain ⟨g1, g2⟩ := al_b11R (un := un) (v := v) (g := g') r1 (by omega) (by omega) (by omega) (by omega) (N := k + k / 2) (by omega) (by omega) (by omega) hg' rfl
      refine ⟨_, s2.1, k + k / 2, rfl, g1, fun z z1 z2 z3 => (g2 z z1 (by omega)).trans ((rf z z1 (by omega)).trans (qf z z1)), Or.inr ⟨by omega, by show s3.1 = _; omega, by show s3.2.2 = _; omega, by omega, by omega⟩⟩
    · have e1 : x_AL_add_LObjectaLObjectI (d + 5) 144 v a (nI k) s2 = x_AL_add_LObjectaLObjectI_b11 (d + 4) 144 v a (nI k) s2 := by
        unfold x_AL_add_LObjectaLObjectI
        dsimp only
        rw [gd_of q1 (by omega) (by omega), al_lenX h2' (by omega) (by omega), Option.bind_some, if_neg (fun q => c (nI_inj k0 (by omega) q))]
      rw [e1, al_b11 q1 (by omega) (by omega) (by omega) ha3 h2' (by omega) N3 hv2, bnd_some]
      obtain ⟨g1, g2⟩ := al_b11R (un := un) (v := v) (g := g) q1 (by omega) ha (by omega) ha3 (N := N) (by omega) N3 h10 hu rfl
      refine ⟨_, a, N, rfl, g1, fun z z1 z2 z3 => (g2 z z1 z2).trans (qf z z1), Or.inl ⟨rfl, rfl, by show s2.1 = _; omega, by show s2.2.2 = _; omega⟩⟩
end
