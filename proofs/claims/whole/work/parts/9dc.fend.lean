/-! the class at the end of a function that is right -/
def upT (TT : Nat → TI) (k : Nat) (i : TI) : Nat → TI := fun j => if j = k then i else TT j
section
variable {E' : CE} {I : ID} {N : N3} {s' : HS} {k d d' np tn ma mb va vb : Nat} {un : Nat → Nat} {TT : Nat → TI} {x' x1 : CA} {w : List Nat} {D : DSt}
theorem bs_ok (B : BS E' x1 I N k un TT) (V : KC E' s' x') (hk : k ≤ 190) (hw : okN w) (hD : ImS 0 (ca_h x') (ca_t x') tn (ca_k x') (ca_c x') (ca_p x') D) (hb : ca_h x' ≤ 2 * tn ∧ ca_k x' ≤ 2 * tn ∧ np ≤ ca_t x' ∧ np ≤ 4 ∧ 5 * ca_t x' ≤ 20 + tn ∧ 1 ≤ tn ∧ tn ≤ 1500) : ∃ (v : Nat) (s1 s2 s3 : HS) (E3 : CE) (I' : ID) (N' : N3) (co : Nat → Int32) (po lo : Nat → Int64), x_Draft_finish (d + 3) 140 (nC w) (nI np) (nI tn) s' = some (v, s1) ∧ x_AL_add_LObject (d' + 6) 144 v s1 = some (1, s2) ∧ gR s2 132 5 1 = some 136 ∧ pV s2 132 5 3 (.ref 136) = some s3 ∧ CS E3 s3 (caOld x' (ca_h x1) (ca_k x1) (ca_t x1) co po lo) I' N' (k + 1) (upU un k v) (upT TT k (w, np, ca_t x', tn, ma, mb, va, vb, D)) ∧ ((∀ j, j < 2 * ca_h x1 → co j = ca_c x1 j) ∧ (∀ j, j < ca_k x1 → po j = ca_p x1 j) ∧ ∀ j, j < ca_t x1 → lo j = ca_l x1 j) ∧ CEs E' E3 ∧ SF I N (ce_S E') I' N' s3 (16 + 2 * ca_h x' + ca_k x') ∧ ce_n E' ≤ v := by
  obtain ⟨n, f, us⟩ := s'
  obtain ⟨h1, h2, ⟨c1, c2, c3, c4⟩, ⟨Nc0, Np0, Nl0, co0, po0, lo0, m1, m2, m3, m4, m5⟩, h5, h6, h7, h8, h9⟩ := B
  have P0 : PW n f (ce_L E') (ce_g E') (ce_w E') (ca_a x') (ce_d E') (ce_p E') (ca_f x') (ca_s x') := V.pw
  obtain ⟨c, p, l, Nc, Np, Nl, co, po, lo, v1, v2, v3, v4, v5, v6, v7, v8, v9, v10, v11⟩ := V
  rw [h2] at v2
  rw [h2, c1, c2, c3] at v8
  rw [c1, c2, c3] at v6
  have hn1 : 1311 ≤ n := P0.2.2.2.2.1
  have v7' : ce_n E' ≤ n := v7
  have vlt : 140 < n ∧ c < n ∧ p < n ∧ l < n := v2.2.2.2.2.2.2.1
  have vne := v2.2.2.2.2.2.2.2
  have v9' : us + 2 * ce_N E' = ce_u E' + 2 * (Nc + Np + Nl) ∧ 16 * n + ce_N E' ≤ 16 * ce_n E' + (Nc + Np + Nl) := v9
  obtain ⟨n', us', c', Nc', f', co', cu, pu, r1, D1, d1, d2, d3, d4, d5, u1, u2, u3, u4, u5, u6, fr1⟩ := e_finish (d := d) (us := us) v2 (by omega) (by omega) (by omega) (y := nC w) (x2 := nI np) (x3 := nI tn)
  have hn' : n ≤ n' := by
    clear h1 h5 h6 h7 h8 h9 v6 v8 vne m1 m3 m4
    omega
  have la := PI.all h9
  have wa := h8.al (Or.inl rfl)
  have wb := h8.al (Or.inr rfl)
  have cn0 : c = icb I ∨ ce_n E' ≤ c := v6.1
  have cn1 : c' = icb I ∨ ce_n E' ≤ c' := by
    rcases u6 with ⟨_, q, _⟩ | ⟨_, q, _⟩
    · rw [q]
      exact v6.1
    · exact Or.inr (by rw [q]; exact v7')
  have e134 : 134 < c ∧ 134 < p ∧ 134 < l := by
    have b1 := (h8.bd (Or.inr (Or.inl rfl))).1
    have b2 := (h8.bd (Or.inr (Or.inr (Or.inl rfl)))).1
    have b3 := (h8.bd (Or.inr (Or.inr (Or.inr rfl)))).1
    have e := h1.2.2.2.1
    clear h1 h5 h6 h7 h8 h9 v8 vne m1 m3 m4 u6 cn0 cn1 wa wb la
    omega
  have f0 : ∀ z, z < n → z ≠ 140 → z ≠ c → f' z = f z := fun z z1 z2 z3 => fr1 z z2 z3 z1
  have f1 : ∀ z, z < ce_n E' → z ≠ 132 → z ≠ 133 → z ≠ 140 → z ≠ icb I → z ≠ ipb I → z ≠ ilb I → f' z = ce_f E' z := fun z z1 z2 z3 z4 z5 z6 z7 => by
    rw [f0 z (Nat.lt_of_lt_of_le z1 v7') z4 (by rcases cn0 with q | q; rw [q]; exact z5; omega)]
    exact v8 z z1 z2 z3 z4 z5 z6 z7
  have A1 : ALR (n' + 3, f', us' + 6 + (2 * ca_h x' + 4) + ca_k x') k N.2.2 (ia I) un := h5.keep (by show ce_n E' ≤ n' + 3; omega) (f1 144 la.1 wa.1 wa.2.1 wa.2.2.2.2.2.1 wa.2.2.2.2.2.2.2.2.2.1 wa.2.2.2.2.2.2.2.2.2.2.1 wa.2.2.2.2.2.2.2.2.2.2.2) (fun q => f1 _ la.2.2.2.2.2.2.2 wb.1 wb.2.1 wb.2.2.2.2.2.1 wb.2.2.2.2.2.2.2.2.2.1 wb.2.2.2.2.2.2.2.2.2.2.1 wb.2.2.2.2.2.2.2.2.2.2.2)
  have hn3 : ce_n E' ≤ n' + 3 := by omega
  have U1 : ∀ i, i < k → TU f' (n' + 3) (un i) (TT i) := TU.all h6 h7 hn3 (fun z z1 z2 => by
    have w := PI.no z2
    exact f1 z z1 w.1 w.2.1 w.2.2.2.1 w.2.2.2.2.2.2.2.2.1 w.2.2.2.2.2.2.2.2.2.1 w.2.2.2.2.2.2.2.2.2.2.1)
  have T1 : TU f' (n' + 3) n' (w, np, ca_t x', tn, ma, mb, va, vb, D) := ⟨ca_h x', ca_k x', cu, pu, u1, u2, u3, Nat.le_trans hn1 hn', by omega, hD.ext (Nat.le_refl _) (Nat.le_refl _) (Nat.le_refl _) (fun j _ j2 => by rw [u4 j (Nat.lt_of_lt_of_le j2 (Nat.le_add_right _ _)), d1 j j2, v3 j j2]) (fun j hj => by rw [u5 j hj, v4 j hj]), by rw [u4 _ (Nat.lt_add_of_pos_right (by decide)), d2], by rw [show 2 * (ca_h x' + 1) = 2 * ca_h x' + 2 from by omega, u4 _ (Nat.add_lt_add_left (by decide) _), d4], hb, hw⟩
  obtain ⟨s2, a', Na', r2, A2, fr2, cn⟩ := al_add (d := d') A1 hk (fun i hi => (U1 i hi).isO (s := (n' + 3, f', us' + 6 + (2 * ca_h x' + 4) + ca_k x'))) (T1.isO (s := (n' + 3, f', us' + 6 + (2 * ca_h x' + 4) + ca_k x')))
  obtain ⟨n2, f2, us2⟩ := s2
  have fr2' : ∀ z, z ≠ 144 → z ≠ ia I → z < n' + 3 → f2 z = f' z := fr2
  have cn' : (a' = ia I ∧ Na' = N.2.2 ∧ n2 = n' + 3 ∧ us2 = us' + 6 + (2 * ca_h x' + 4) + ca_k x') ∨ (a' = n' + 3 ∧ n2 = n' + 3 + 1 ∧ us2 = us' + 6 + (2 * ca_h x' + 4) + ca_k x' + Na' ∧ 4 * N.2.2 + Na' ≤ 4 * Na' ∧ N.2.2 + 1 ≤ Na') := cn
  clear cn fr2
  have hn2 : n' + 3 ≤ n2 := by
    rcases cn' with q | q
    · omega
    · omega
  have hs2 : ce_n E' ≤ n2 := Nat.le_trans hn3 hn2
  have P2 : PW n2 f2 (ce_L E') (ce_g E') (ce_w E') (ca_a x') (ce_d E') (ce_p E') (ca_f x') (ca_s x') := P0.kept (Nat.le_trans hn' (by omega)) (fun z hz => by
    have b1 : z < n := by rcases hz with rfl | rfl | rfl | rfl <;> (clear cn' u6 v6 la; omega)
    have b2 : z ≠ 140 ∧ z ≠ 144 ∧ z ≠ c := by rcases hz with rfl | rfl | rfl | rfl <;> (clear cn' u6 v6 la cn0 cn1 wa wb; omega)
    have b3 : z ≠ ia I := by
      rcases hz with rfl | rfl | rfl | rfl
      · exact wb.1.symm
      · exact wb.2.1.symm
      · exact wb.2.2.1.symm
      · exact wb.2.2.2.1.symm
    rw [fr2' z b2.2.1 b3 (by omega), f0 z b1 b2.1 b2.2.2])
  obtain ⟨f3, r3, P3, fr3⟩ := p_turn (us := us2) (k := 136) P2
  have f4 : ∀ z, z < ce_n E' → z ≠ 132 → z ≠ 133 → z ≠ 140 → z ≠ icb I → z ≠ ipb I → z ≠ ilb I → z ≠ 144 → z ≠ ia I → f3 z = ce_f E' z := fun z z1 z2 z3 z4 z5 z6 z7 z8 z9 => by
    rw [fr3 z z2, fr2' z z8 z9 (Nat.lt_of_lt_of_le z1 hn3), f1 z z1 z2 z3 z4 z5 z6 z7]
  have M3 : DR n2 f3 136 (ic I) (ip I) (il I) (2 * ca_h x1) (ca_k x1) (ca_t x1) Nc0 Np0 Nl0 co0 po0 lo0 := m1.kept hs2 (fun z hz => by
    have w := h8.mn hz
    have w1 := w.1
    have zl : z < ce_n E' := by
      have := m1.2.2.2.2.2.2.1
      rcases hz with rfl | rfl | rfl | rfl
      · exact this.1
      · exact this.2.1
      · exact this.2.2.1
      · exact this.2.2.2
    exact f4 z zl (by omega) (by omega) w.2.1 w.2.2.1 w.2.2.2.1 w.2.2.2.2.1 w.2.2.2.2.2.1 w.2.2.2.2.2.2)
  have D1lt : 140 < n' + 3 ∧ c' < n' + 3 ∧ p < n' + 3 ∧ l < n' + 3 := D1.2.2.2.2.2.2.1
  have bz : ∀ z, z = 140 ∨ z = c' ∨ z = p ∨ z = l → z < n' + 3 ∧ 134 < z ∧ z ≠ 144 ∧ z ≠ ia I := fun z hz => by
    have key : (z = 140 ∨ z = icb I ∨ z = ipb I ∨ z = ilb I) ∨ ce_n E' ≤ z := by
      have v62 := v6.2.1
      have v63 := v6.2.2
      rcases hz with rfl | rfl | rfl | rfl
      · exact Or.inl (Or.inl rfl)
      · rcases cn1 with q | q
        · exact Or.inl (Or.inr (Or.inl q))
        · exact Or.inr q
      · rcases v62 with q | q
        · exact Or.inl (Or.inr (Or.inr (Or.inl q)))
        · exact Or.inr q
      · rcases v63 with q | q
        · exact Or.inl (Or.inr (Or.inr (Or.inr q)))
        · exact Or.inr q
    have zl : z < n' + 3 := by
      rcases hz with rfl | rfl | rfl | rfl
      · exact D1lt.1
      · exact D1lt.2.1
      · exact D1lt.2.2.1
      · exact D1lt.2.2.2
    rcases key with q | q
    · have w := h8.bd q
      exact ⟨zl, w.1, w.2.2.2.2.2.1, w.2.2.2.2.2.2⟩
    · have l1 := la.1
      have l2 := la.2.2.2.2.2.2.2
      exact ⟨zl, by omega, by omega, by omega⟩
  have D3 : DR n2 f3 140 c' p l (2 * ca_h x' + 4) (ca_k x') (ca_t x') Nc' Np Nl co' po lo := D1.kept hn2 (fun z hz => by
    have w := bz z hz
    have w1 := w.2.1
    rw [fr3 z (by omega), fr2' z w.2.2.1 w.2.2.2 w.1])
  have ha1 : a' = ia I ∨ (n' + 3 ≤ a' ∧ a' < n2) := by
    rcases cn' with q | q
    · exact Or.inl q.1
    · exact Or.inr (by omega)
  have A3 : ALR (n2, f3, us2) (k + 1) Na' a' (upU un k n') := A2.keep (Nat.le_refl _) (fr3 144 (by decide)) (fun q => fr3 _ (by
    rcases ha1 with w | w
    · rw [w]
      exact wb.1
    · omega))
  have ha2 : a' = ia I ∨ (ce_n E' ≤ a' ∧ a' ≠ c' ∧ a' ≠ p ∧ a' ≠ l) := by
    rcases ha1 with w | w
    · exact Or.inl w
    · exact Or.inr (by omega)
  have I3 : ∀ z, PI (ic I, ip I, il I, c', p, l, a') z → PI I z ∨ ce_n E' ≤ z := fun z hz => PI.b' cn1 v6.2.1 v6.2.2 (by rcases ha2 with w | w; exact Or.inl w; exact Or.inr w.1) hz
  have newI : ∀ z, PI (ic I, ip I, il I, c', p, l, a') z → z < n2 ∧ ¬ (n' ≤ z ∧ z ≤ n' + 2) := fun z hz => by
    have hc2 : c' < n' := by
      rcases u6 with q | q
      · omega
      · omega
    have ha3 : a' < n2 ∧ ¬ (n' ≤ a' ∧ a' ≤ n' + 2) := by
      rcases ha1 with w | w
      · have l2 := la.2.2.2.2.2.2.2
        omega
      · omega
    unfold PI at hz
    dsimp only [ic, ip, il, icb, ipb, ilb, ia] at hz la
    clear cn' ha1 ha2 I3 bz u6 v6 cn0 cn1 wa wb h8 h9 h7 h6 vne
    omega
  obtain ⟨e1, e2, e3, e4, e5, e6, e7, e8, e9⟩ := h1
  have m134 := (h8.mn (Or.inr (Or.inl rfl))).1
  have m135 := (h8.mn (Or.inr (Or.inr (Or.inl rfl)))).1
  have m136 := (h8.mn (Or.inr (Or.inr (Or.inr rfl)))).1
  have T2 : ∀ i, i < k → TU f3 n2 (un i) (TT i) := TU.all h6 h7 hs2 (fun z z1 z2 => by
    have w := PI.no z2
    exact f4 z z1 w.1 w.2.1 w.2.2.2.1 w.2.2.2.2.2.2.2.2.1 w.2.2.2.2.2.2.2.2.2.1 w.2.2.2.2.2.2.2.2.2.2.1 w.2.2.2.2.1 w.2.2.2.2.2.2.2.2.2.2.2)
  have O2 := TU.off h6 h7 I3
  have cost : us2 + 2 * ce_N E' + 4 * N.2.2 ≤ ce_u E' + 2 * (Nc' + Np + Nl) + 4 * Na' + (16 + 2 * ca_h x' + ca_k x') ∧ 16 * n2 + ce_N E' + 16 * N.2.2 ≤ 16 * ce_n E' + (Nc' + Np + Nl) + 16 * Na' + 3 * (16 + 2 * ca_h x' + ca_k x') := by
    clear h5 h6 h7 h8 h9 ha1 ha2 I3 newI bz v6 cn0 cn1 wa wb la vne e134 m134 m135 m136 D1lt vlt
    rcases u6 with q | q <;> rcases cn' with w | w <;> omega
  have hb16 : 16 ≤ Nc' ∧ Nc' ≤ 65536 := by
    clear h5 h6 h7 h8 h9 ha1 ha2 I3 newI bz v6 cn0 cn1 wa wb la vne e134 m134 m135 m136 D1lt vlt cn' cost
    rcases u6 with q | q <;> omega
  refine ⟨n', _, (n2, f2, us2), (n2, f3, us2), (ce_L E', ce_g E', ce_w E', (n2, us2, f3), (136, ce_p E'), (ic I, ip I, il I), (Nc0, Np0, Nl0)), (ic I, ip I, il I, c', p, l, a'), (N.1, Nc' + Np + Nl, Na'), co0, po0, lo0, r1, r2, p_main P2, r3, ⟨⟨ic I, ip I, il I, Nc0, Np0, Nl0, co0, po0, lo0, P3, M3, fun _ _ => rfl, fun _ _ => rfl, fun _ _ => rfl, ⟨Or.inl rfl, Or.inl rfl, Or.inl rfl⟩, Nat.le_refl _, fun z _ _ _ _ _ _ _ => rfl, ⟨rfl, Nat.le_refl _⟩, m3, m4⟩, ⟨e1, e2, e3, Nat.le_trans hn1 (Nat.le_trans hn' (Nat.le_trans (Nat.le_add_right _ 3) hn2)), by show 134 < 136; decide, m134, m135, m136, M3.2.2.2.2.2.2.1.1⟩, rfl, ⟨rfl, rfl, rfl⟩, ⟨rfl, rfl, rfl, m5.symm⟩, ⟨_, _, _, Nc', Np, Nl, _, _, _, D3, ⟨hb16.1, v10.2⟩, ⟨hb16.2, v11.2⟩, ⟨by decide, (bz c' (Or.inr (Or.inl rfl))).2.1, e134.2⟩, rfl⟩, A3, fun i hi => ?_, fun i hi z z1 z2 q => ?_, h8.b' h9 cn1 v6.2.1 v6.2.2 ha2, fun z hz => (newI z hz).1⟩, m2, ⟨rfl, rfl, rfl, rfl⟩, ⟨hs2, fun z z1 z2 => ?_, I3, ?_, ?_⟩, Nat.le_trans v7' hn'⟩
  · show TU f3 n2 (upU un k n' i) (upT TT k _ i)
    unfold upU upT
    by_cases q : i = k
    · rw [if_pos q, if_pos q]
      exact T1.keep hn2 (fun z z1 z2 => by
        have l1 := la.1
        have l2 := la.2.2.2.2.2.2.2
        clear cn' ha1 ha2 u6 v6 cn0 cn1 wa wb vne
        rw [fr3 z (by omega), fr2' z (by omega) (by omega) (by omega)])
    · rw [if_neg q, if_neg q]
      exact T2 i (by omega)
  · unfold upU at z1 z2
    by_cases c : i = k
    · rw [if_pos c] at z1 z2
      exact (newI z q).2 ⟨z1, z2⟩
    · rw [if_neg c] at z1 z2
      exact O2 i (by omega) z z1 z2 q
  · have w := PI.no z2
    exact f4 z z1 w.1 w.2.1 w.2.2.2.1 w.2.2.2.2.2.2.2.2.1 w.2.2.2.2.2.2.2.2.2.1 w.2.2.2.2.2.2.2.2.2.2.1 w.2.2.2.2.1 w.2.2.2.2.2.2.2.2.2.2.2
  · show us2 + 2 * (N.1 + N.2.1) + 4 * N.2.2 ≤ ce_u E' + 2 * (N.1 + (Nc' + Np + Nl)) + 4 * Na' + (16 + 2 * ca_h x' + ca_k x')
    have c1 := cost.1
    clear cost cn' u6 v6 ha1 ha2 cn0 cn1 wa wb la vne
    omega
  · show 16 * n2 + N.1 + N.2.1 + 16 * N.2.2 ≤ 16 * ce_n E' + N.1 + (Nc' + Np + Nl) + 16 * Na' + 3 * (16 + 2 * ca_h x' + ca_k x')
    have c1 := cost.2
    clear cost cn' u6 v6 ha1 ha2 cn0 cn1 wa wb la vne
    omega
end
