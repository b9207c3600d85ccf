/-! the reference's function: its beginning, its told arrays, its end -/
abbrev raZ (y : RA) : RA := (y.1, y.2.1, (0, ra_l y), y.2.2.2)
/-- another E of the same reference: what lies beside the parser is the same -/
def RX (E E' : RE) : Prop := E'.1 = E.1 ∧ (re_tm E' = re_tm E ∧ re_om E' = re_om E) ∧ (re_n E' = re_n E ∧ re_u E' = re_u E) ∧ re_R E' = re_R E ∧ ∀ z, (z < 160 ∨ z = 161 ∨ z = 162 ∨ 186 < z) → re_f E' z = re_f E z
def TRs (A : TAr) (k : Nat) (TT : Nat → TI) (m v : Nat) (sp : Nat → Int32) (q : Nat → VQ) : Prop := ∀ j, j < k → TRw A sp q j (TT j) ∧ ti_b (TT j) + 1 ≤ m ∧ ti_k (TT j) ≤ v ∧ ti_k (TT j) = if j + 1 < k then ti_v (TT (j + 1)) else v
def RB (E : RE) (k : Nat) (TT : Nat → TI) (w : List Nat) (k0 : KQ) (y1 : RA) (m v : Nat) (sp : Nat → Int32) (q : Nat → VQ) (P : TAr → Prop) : Prop := ∃ (A : TAr) (g : Nat → Int64), re_td E = nI k ∧ TA (re_f E) A ∧ re_f E 185 = aLong 1500 g ∧ (∀ j, j < ra_t y1 → g j = ra_l y1 j) ∧ A.1 k = nV w ∧ CRest 163 E k0 (ra_m y1) (ra_v y1) (ra_s y1) (ra_q y1) ∧ TRs A k TT m v sp q ∧ P A
section
variable {cr : Nat} {E E' E'' : RE} {k m v d u p np ma va tn : Nat} {TT : Nat → TI} {y y0 y1 y5 y6 : RA} {kk k0 : KQ} {sp : Nat → Int32} {q : Nat → VQ} {A A' : TAr} {q1 : Nat} {T1 : TKc} {t1 : TKr} {w : List Nat} {l1 v79 : Int32} {P : TAr → Prop} {D : DSt}
theorem RX.rfl' : RX E E := ⟨rfl, ⟨rfl, rfl⟩, ⟨rfl, rfl⟩, rfl, fun _ _ => rfl⟩
theorem RX.trans (h : RX E E') (g : RX E' E'') : RX E E'' := ⟨g.1.trans h.1, ⟨g.2.1.1.trans h.2.1.1, g.2.1.2.trans h.2.1.2⟩, ⟨g.2.2.1.1.trans h.2.2.1.1, g.2.2.1.2.trans h.2.2.1.2⟩, g.2.2.2.1.trans h.2.2.2.1, fun z hz => (g.2.2.2.2 z hz).trans (h.2.2.2.2 z hz)⟩
theorem RKp.rx (h : RKp E E') : RX E E' := ⟨h.1, ⟨congrArg (fun z => z.1) h.2.1, congrArg (fun z => z.2.1) h.2.1⟩, h.2.2.1, congrArg (fun z => z.2) h.2.2.2.1, fun z hz => h.2.2.2.2 z (by unfold TZ; omega)⟩
theorem RX.turn (h : EOR cr E) : RX E (reT cr E y kk) := ⟨rfl, ⟨rfl, rfl⟩, ⟨rfl, rfl⟩, rfl, fun z hz => PM_out h hz⟩
theorem RX.td {w : Int32} : RX E (reTd E w) := ⟨rfl, ⟨rfl, rfl⟩, ⟨rfl, rfl⟩, rfl, fun _ _ => rfl⟩
theorem RKp.td (h : RKp E E') : re_td E' = re_td E := congrArg (fun z => z.2.2) h.2.1
theorem RKp.kq (h : RKp E E') : re_k E' = re_k E := congrArg (fun z => z.1) h.2.2.2.1
theorem TRs.arr (h : TRs A k TT m v sp q) (h1 : ∀ j, j < k → A'.1 j = A.1 j) (h2 : ∀ z j, j < k → A'.2 z j = A.2 z j) : TRs A' k TT m v sp q := fun j hj => by
  obtain ⟨⟨⟨a1, a2, a3, a4, a5, a6, a7⟩, g2⟩, g3⟩ := h j hj
  refine ⟨⟨⟨?_, ?_, ?_, ?_, ?_, ?_, ?_⟩, g2⟩, g3⟩
  · rw [h1 j hj, a1]
  · rw [h2 _ j hj, a2]
  · rw [h2 _ j hj, a3]
  · rw [h2 _ j hj, a4]
  · rw [h2 _ j hj, a5]
  · rw [h2 _ j hj, a6]
  · rw [h2 _ j hj, a7]
theorem r_fbeg (h : EOR 163 E) (R : RST E k TT u) (hk : k < 200) (ht : ra_t y1 ≤ 1500) (hst : x_Mod_step (d + 9) 160 (pm 163 E y0) = some ((), pm 163 E y1)) (hA : AtR q1 t1 (ra_b y1)) (hT : TQ (re_g E) (re_L E) q1 T1 t1) (h2 : T1.2.1 = 2) : ∃ (Ec : RE) (m v : Nat) (sp : Nat → Int32) (q : Nat → VQ), x_Mod_function (d + 10) 160 (pm 163 E y0) = (bnd (x_Mod_take (d + 9) 160 14 (pm 177 Ec (raT (raZ (rav E t1 y1)) m v sp q))) fun v20 s19 => (if v20 = 0 then (some (0, s19)) else (loopK (fnB (d + 9) (nI (ra_t y1))) FU s19))) ∧ EOR 177 Ec ∧ RX E Ec ∧ (m ≤ 3 * u ∧ v ≤ u) ∧ RB Ec k TT (nmL (re_g E) q1 (t1.1 - q1)) (re_k E) y1 m v sp q (fun _ => True) := by
  obtain ⟨A, g, kk, m, v, sp, q, r1, r2, r3, r4, r5, r6⟩ := R
  obtain ⟨Ea, Aa, ea, ka, ga, ta, a1, a2, a3⟩ := y_tN (y := y1) (n := nV (nmL (re_g E) q1 (t1.1 - q1))) h r2 hk
  have ha := ka.eor h
  obtain ⟨y2, hy2⟩ : ∃ y2, y2 = rav E t1 y1 := ⟨_, rfl⟩
  have hy : y2.2 = y1.2 := by rw [hy2]
  have st2 : x_Mod_step (d + 9) 160 (pm 163 Ea y1) = some ((), pm 163 Ea y2) := by
    have e := y_step (d := d + 4) ha hA.1 (show t1.1 ≤ Ea.1.1 by rw [ka.1]; exact hT.2.2.2)
    have e2 : raLex y1 (advR (re_g Ea) (re_L Ea) t1.1 (ra_b y1)) = y2 := by
      rw [hy2]
      show raLex y1 (advR Ea.1.2 Ea.1.1 t1.1 (ra_b y1)) = _
      rw [ka.1]
    rw [e2] at e
    exact e
  have et : ra_t y2 = ra_t y1 := congrArg (fun z => z.2.1.1) hy
  have el : ra_l y2 = ra_l y1 := congrArg (fun z => z.2.1.2) hy
  obtain ⟨Eb, hEb⟩ : ∃ Eb, Eb = reF Ea 185 (aLong 1500 fun j => if j < ra_t y2 then ra_l y2 j else g j) := ⟨_, rfl⟩
  have sv : cpA (pm 163 Ea y2) 184 0 185 0 (nI (ra_t y2)) = some (pm 163 Eb y2) := by
    rw [hEb]
    exact y_save ha (ga.trans r3) (by omega)
  have kb : RKp Ea Eb := by rw [hEb]; exact RKp.off (Or.inr rfl)
  have g185 : re_f Eb 185 = aLong 1500 fun j => if j < ra_t y2 then ra_l y2 j else g j := by rw [hEb]; show va_up (re_f Ea) 185 _ 185 = _; exact va_up_self _ _ _
  have tb : TA (re_f Eb) Aa := by
    rw [hEb]
    refine ⟨?_, fun z z1 z2 => ?_⟩
    · show va_up (re_f Ea) 185 (aLong 1500 fun j => if j < ra_t y2 then ra_l y2 j else g j) 170 = _
      exact (va_up_ne _ _ (by decide)).trans ta.1
    · show va_up (re_f Ea) 185 (aLong 1500 fun j => if j < ra_t y2 then ra_l y2 j else g j) z = _
      exact (va_up_ne _ _ (by omega)).trans (ta.2 z z1 z2)
  clear hEb
  have kab := ka.trans kb
  have hb := kab.eor h
  have Rb : CRest 177 Eb kk m v sp q := kab.crest (Or.inr rfl) r4
  have e24 : pV (pm 163 Eb y2) 160 14 24 (.int 0) = some (pm 163 Eb (raZ y2)) := y_p24 (j := 0) hb
  have e22 := y_turn (y := raZ y2) hb (Or.inl ⟨rfl, rfl⟩) Rb
  refine ⟨reT 163 Eb (raZ y2) kk, m, v, sp, q, ?_, EOR.turn hb (Or.inl ⟨rfl, rfl⟩), (kab.rx).trans (RX.turn hb), ⟨r6.1, r6.2.1⟩, Aa, fun j => if j < ra_t y2 then ra_l y2 j else g j, ?_, TA.pm (y := raZ y2) tb hb, (PM_at (y := raZ y2) hb (Or.inr rfl)).trans g185, fun j hj => ?_, a3, ?_, TRs.arr r5 (fun j hj => a2 j (by omega)) (fun z j hj => by rw [a1]), trivial⟩
  · rw [fn_eq, y_gd h, hst, bnd_some, y_6 h, Option.bind_some, hA.2.1, if_pos (hT.name.mpr h2), y_13 h, Option.bind_some, y_20 h, Option.bind_some, y_name h hA hT h2, bnd_some, r1, ea, Option.bind_some, st2, bnd_some, y_24 ha, Option.bind_some, y_23 ha, Option.bind_some, y_26 ha, Option.bind_some, Option.bind_some, sv, Option.bind_some, e24, Option.bind_some, y_21 hb, Option.bind_some, e22, Option.bind_some, et, ← hy2]
  · show re_td Eb = nI k
    rw [kab.td, r1]
  · dsimp only
    rw [et, if_pos hj, el]
  · have c := CRest_of (cr := 163) (E := Eb) (y := raZ y2) (k := kk) (Or.inl rfl)
    rw [kab.kq] at c
    have em : ra_m (raZ y2) = ra_m y1 := congrArg (fun z => z.1.1) hy
    have ev : ra_v (raZ y2) = ra_v y1 := congrArg (fun z => z.1.2.1) hy
    have es : ra_s (raZ y2) = ra_s y1 := congrArg (fun z => z.1.2.2.1) hy
    have eq : ra_q (raZ y2) = ra_q y1 := congrArg (fun z => z.1.2.2.2) hy
    rw [em, ev, es, eq] at c
    exact c
theorem r_f1 (h : EOR 177 E) (B : RB E k TT w k0 y1 m v sp q P) (hk : k < 200) : ∃ Ed, fHd d l1 (pm 177 E y5) = (bnd (x_Mod_block d 160 0 (pm 177 Ed y5)) fun v81 s80 => (if v81 = 0 then (some (0, s80)) else fTl d l1 (ra_b y5).2.2.2.2.2.1 s80)) ∧ RKp E Ed ∧ RB Ed k TT w k0 y1 m v sp q (fun A => A.2 175 k = nI (ra_t y5) ∧ A.2 171 k = nI (ra_m y5) ∧ A.2 172 k = nI (ra_v y5)) := by
  obtain ⟨A, g, b1, b2, b3, b4, b5, b6, b7, _⟩ := B
  obtain ⟨Ea, Aa, ea, ka, ga, ta, a1, a2, a3⟩ := y_tI (y := y5) (z := 175) (w := nI (ra_t y5)) h b2 (by decide) (by decide) hk
  have ha := ka.eor h
  obtain ⟨Eb, Ab, eb, kb, gb, tb, c1, c2, c3⟩ := y_tI (y := y5) (z := 171) (w := nI (ra_m y5)) ha ta (by decide) (by decide) hk
  have hb := kb.eor ha
  obtain ⟨Ec, Ac, ec, kc, gc, tc, d1, d2, d3⟩ := y_tI (y := y5) (z := 172) (w := nI (ra_v y5)) hb tb (by decide) (by decide) hk
  have hc := kc.eor hb
  have ta' : re_td Ea = nI k := ka.td.trans b1
  have tb' : re_td Eb = nI k := kb.td.trans ta'
  have K := (ka.trans kb).trans kc
  refine ⟨Ec, ?_, K, Ac, g, kc.td.trans tb', tc, gc.trans (gb.trans (ga.trans b3)), b4, by rw [d1, c1, a1, b5], K.crest (Or.inl rfl) b6, b7.arr (fun j hj => by rw [d1, c1, a1]) (fun z j hj => by rw [d2 z j (by omega), c2 z j (by omega), a2 z j (by omega)]), ?_, ?_, d3⟩
  · unfold fHd
    rw [y_18 h, Option.bind_some, y_20 h, Option.bind_some, y_24 h, Option.bind_some, b1, ea, Option.bind_some, y_14 ha, Option.bind_some, y_20 ha, Option.bind_some, y_21 ha, Option.bind_some, y_c2 ha, Option.bind_some, ta', eb, Option.bind_some, y_15 hb, Option.bind_some, y_20 hb, Option.bind_some, y_21 hb, Option.bind_some, y_c3 hb, Option.bind_some, tb', ec, Option.bind_some, y_10 hc, Option.bind_some]
  · rw [d2 175 k (by omega), c2 175 k (by omega), a3]
  · rw [d2 171 k (by omega), c3]
theorem r_f2 (h : EOR 177 E) (B : RB E k TT w k0 y1 m v sp q (fun A => A.2 175 k = nI np ∧ A.2 171 k = nI ma ∧ A.2 172 k = nI v)) (hk : k < 190) (ht : ra_t y1 ≤ 1500) (hm : ra_m y6 < 5999) (ms : m ≤ ma ∧ ma ≤ ra_m y6 ∧ ra_m y6 ≤ ma + 3 * tn) (hs : ∀ j, j < m → ra_s y6 j = sp j) (vs : v ≤ ra_v y6 ∧ ra_v y6 ≤ v + tn) (hq : ∀ j, j < v → ra_q y6 j = q j) (hD : IrS ma (ra_m y6) v (ra_v y6) (ra_t y6) tn (ra_s y6) (ra_q y6) D) (hp : (ra_b y6).2.2.2.2.2.1 - v79 = nI tn) (hu : ra_m y6 + 1 ≤ 3 * u ∧ ra_v y6 ≤ u ∧ 8 * (k + 1) ≤ u) : ∃ (Ez : RE) (l : Nat → Int64), fTl d (nI (ra_t y1)) v79 (pm 177 E y6) = some (1, pm 163 Ez (y6.1, y1.2.1, (ra_t y1, l), y6.2.2.2)) ∧ EOR 163 Ez ∧ (∀ j, j < ra_t y1 → l j = ra_l y1 j) ∧ re_k Ez = k0 ∧ RX E Ez ∧ RST Ez (k + 1) (upT TT k (w, np, ra_t y6, tn, ma, ra_m y6, v, ra_v y6, D)) u := by
  obtain ⟨A, g, b1, b2, b3, b4, b5, b6, b7, b8, b9, b10⟩ := B
  have hpt := y_put (d := d) (v := 28) h (show ra_m y6 < 6000 by omega)
  obtain ⟨y7, hy7⟩ : ∃ y7, y7 = raPut y6 28 := ⟨_, rfl⟩
  rw [← hy7] at hpt
  have m7 : ra_m y7 = ra_m y6 + 1 := by rw [hy7]
  have v7 : ra_v y7 = ra_v y6 := by rw [hy7]
  have t7 : ra_t y7 = ra_t y6 := by rw [hy7]
  have s7 : ra_s y7 = upI (ra_s y6) (ra_m y6) 28 := by rw [hy7]
  have q7 : ra_q y7 = ra_q y6 := by rw [hy7]
  have p7 : (ra_b y7).2.2.2.2.2.1 = (ra_b y6).2.2.2.2.2.1 := by rw [hy7]
  have h71 : y7.1 = y6.1 := by rw [hy7]
  have h72 : y7.2.2.2 = y6.2.2.2 := by rw [hy7]
  clear hy7
  obtain ⟨Ea, Aa, ea, ka, ga, ta, a1, a2, a3⟩ := y_tI (y := y7) (z := 173) (w := nI (ra_m y7)) h b2 (by decide) (by decide) (show k < 200 by omega)
  have ha := ka.eor h
  obtain ⟨Eb, Ab, eb, kb, gb, tb, c1, c2, c3⟩ := y_tI (y := y7) (z := 174) (w := (ra_b y7).2.2.2.2.2.1 - v79) ha ta (by decide) (by decide) (show k < 200 by omega)
  have hb := kb.eor ha
  obtain ⟨Ec, Ac, ec, kc, gc, tc, d1, d2, d3⟩ := y_tI (y := y7) (z := 176) (w := nI (ra_t y7)) hb tb (by decide) (by decide) (show k < 200 by omega)
  have hc := kc.eor hb
  have ta' : re_td Ea = nI k := ka.td.trans b1
  have tb' : re_td Eb = nI k := kb.td.trans ta'
  have tc' : re_td Ec = nI k := kc.td.trans tb'
  have K := (ka.trans kb).trans kc
  have g185 : re_f Ec 185 = aLong 1500 g := gc.trans (gb.trans (ga.trans b3))
  have R1 : CRest 163 Ec k0 (ra_m y1) (ra_v y1) (ra_s y1) (ra_q y1) := K.crest (Or.inl rfl) b6
  obtain ⟨Ed, hEd⟩ : ∃ Ed, Ed = reTd Ec (nI (k + 1)) := ⟨_, rfl⟩
  have e20 : pV (pm 177 Ec y7) 160 14 20 (.int (nI (k + 1))) = some (pm 177 Ed y7) := by
    rw [hEd]
    exact y_p20 hc
  have hd : EOR 177 Ed := by rw [hEd]; exact EOR.td hc
  have g185d : re_f Ed 185 = aLong 1500 g := by rw [hEd]; exact g185
  have td' : re_td Ed = nI (k + 1) := by rw [hEd]
  have R1d : CRest 163 Ed k0 (ra_m y1) (ra_v y1) (ra_s y1) (ra_q y1) := by rw [hEd]; exact R1
  have TAd : TA (re_f Ed) Ac := by rw [hEd]; exact tc
  have RXd : RX Ec Ed := by rw [hEd]; exact RX.td
  clear hEd
  have e24 := y_p24 (y := y7) (j := ra_t y1) hd
  have el := y_load (y := (y7.1, y7.2.1, (ra_t y1, ra_l y7), y7.2.2.2)) (n := ra_t y1) hd g185d ht
  have e22 := y_turn (y := (y7.1, y7.2.1, (ra_t y1, fun j => if j < ra_t y1 then g j else ra_l y7 j), y7.2.2.2)) hd (Or.inr ⟨rfl, rfl⟩) R1d
  have nk : nI k + 1 = nI (k + 1) := nI_add k 1
  refine ⟨reT 177 Ed (y7.1, y7.2.1, (ra_t y1, fun j => if j < ra_t y1 then g j else ra_l y7 j), y7.2.2.2) k0, fun j => if j < ra_t y1 then g j else ra_l y7 j, ?_, EOR.turn hd (Or.inr ⟨rfl, rfl⟩), fun j hj => by dsimp only; rw [if_pos hj, b4 j hj], rfl, ((K.rx).trans RXd).trans (RX.turn hd), Ac, g, re_k Ed, ra_m y7, ra_v y7, ra_s y7, ra_q y7, td', TA.pm (y := (y7.1, y7.2.1, (ra_t y1, fun j => if j < ra_t y1 then g j else ra_l y7 j), y7.2.2.2)) TAd hd, (PM_at (y := (y7.1, y7.2.1, (ra_t y1, fun j => if j < ra_t y1 then g j else ra_l y7 j), y7.2.2.2)) hd (Or.inr rfl)).trans g185d, CRest_of (y := (y7.1, y7.2.1, (ra_t y1, fun j => if j < ra_t y1 then g j else ra_l y7 j), y7.2.2.2)) (Or.inr rfl), fun j hj => ?_, by omega⟩
  · unfold fTl
    rw [hpt, bnd_some, y_16 h, Option.bind_some, y_20 h, Option.bind_some, y_21 h, Option.bind_some, y_c2 h, Option.bind_some, b1, ea, Option.bind_some, y_17 ha, Option.bind_some, y_20 ha, Option.bind_some, y_10 ha, Option.bind_some, ta', eb, Option.bind_some, y_19 hb, Option.bind_some, y_20 hb, Option.bind_some, y_24 hb, Option.bind_some, tb', ec, Option.bind_some, y_20 hc, Option.bind_some, tc', nk, e20, Option.bind_some, e24, Option.bind_some, y_26 hd, Option.bind_some, y_23 hd, Option.bind_some, y_24 hd, Option.bind_some]
    dsimp only [ra_t]
    rw [el, Option.bind_some, y_12 hd, Option.bind_some]
    dsimp only [ra_t, ra_l]
    rw [e22, Option.bind_some, ← h71, ← h72]
  · unfold upT
    by_cases c : j = k
    · subst c
      rw [if_pos rfl, if_neg (show ¬ j + 1 < j + 1 by omega)]
      refine ⟨⟨⟨?_, ?_, ?_, ?_, ?_, ?_, ?_⟩, ?_, ?_, ?_⟩, ?_, ?_, ?_⟩
      · rw [d1, c1, a1]
        exact b5
      · rw [d2 171 j (by omega), c2 171 j (by omega), a2 171 j (by omega)]
        exact b9
      · rw [d2 172 j (by omega), c2 172 j (by omega), a2 172 j (by omega)]
        exact b10
      · rw [d2 173 j (by omega), c2 173 j (by omega), a3, m7]
      · rw [d2 174 j (by omega), c3, p7, hp]
      · rw [d2 175 j (by omega), c2 175 j (by omega), a2 175 j (by omega)]
        exact b8
      · rw [d3, t7]
      · rw [s7, q7]
        exact hD.ext (Nat.le_refl _) (Nat.le_refl _) (Nat.le_refl _) (Nat.le_refl _) (fun i _ hi => upN (by omega)) (fun _ _ _ => rfl)
      · rw [s7]
        exact upA
      · exact ⟨ms.2.1, ms.2.2, vs.1, vs.2⟩
      · rw [m7]
        exact Nat.le_refl _
      · rw [v7]
        exact Nat.le_refl _
      · exact v7.symm
    · obtain ⟨⟨g1, g2, g3, g4⟩, g5, g6, g7⟩ := b7 j (by omega)
      rw [if_neg c]
      refine ⟨⟨⟨?_, ?_, ?_, ?_, ?_, ?_, ?_⟩, ?_, ?_, g4⟩, ?_, ?_, ?_⟩
      · rw [d1, c1, a1, g1.1]
      · rw [d2 171 j (by omega), c2 171 j (by omega), a2 171 j (by omega), g1.2.1]
      · rw [d2 172 j (by omega), c2 172 j (by omega), a2 172 j (by omega), g1.2.2.1]
      · rw [d2 173 j (by omega), c2 173 j (by omega), a2 173 j (by omega), g1.2.2.2.1]
      · rw [d2 174 j (by omega), c2 174 j (by omega), a2 174 j (by omega), g1.2.2.2.2.1]
      · rw [d2 175 j (by omega), c2 175 j (by omega), a2 175 j (by omega), g1.2.2.2.2.2.1]
      · rw [d2 176 j (by omega), c2 176 j (by omega), a2 176 j (by omega), g1.2.2.2.2.2.2]
      · rw [s7, q7]
        exact g2.ext (Nat.le_refl _) (Nat.le_refl _) (Nat.le_refl _) (Nat.le_refl _) (fun i _ hi => by rw [upN (by omega), hs i (by omega)]) (fun i _ hi => hq i (by omega))
      · rw [s7, upN (by omega), hs _ (by omega), g3]
      · omega
      · omega
      · by_cases c2 : j + 1 < k
        · rw [if_pos c2] at g7
          rw [if_pos (show j + 1 < k + 1 by omega), if_neg (show ¬ j + 1 = k by omega), g7]
        · rw [if_neg c2] at g7
          rw [if_pos (show j + 1 < k + 1 by omega), if_pos (show j + 1 = k by omega), g7]
end
