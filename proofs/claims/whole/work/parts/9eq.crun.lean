/-! the class's run: what read and perform leave -/
section
variable {s s' : HS} {c C p0 L hh tt Nm r w n us d k u lc nd : Nat} {g : Nat → Int32} {ws : Nat → Int64} {I I' : ID} {N N' : N3} {O O' : oS} {G : LGS} {rs uq : Nat → Nat} {SS : Nat → SC} {un : Nat → Nat → Nat} {FF : Nat → FTb} {F F' : FTb} {S S' : SC} {v : V2} {fu : Int32} {X : SWs} {own : Nat → Nat} {f f' : Nat → am_C} {i : TI} {D : DSt}
theorem CKx.rd (h : CKx s L g I N hh tt Nm O G rs SS un FF v fu X own) (Y : CY s' g ws I' N') (W : WSP ws) (T : SF I N s I' N' s' C) : ∃ own', (∀ z, z < s.1 → own' z = own z) ∧ (∀ z, s.1 ≤ z → ¬ PI I' z → own' z = 3) ∧ CKx s' L g I' N' hh tt Nm O G rs SS un FF v fu X own' := by
  obtain ⟨⟨a1, a2, a3⟩, ⟨ws0, b1, b2⟩, ⟨c1, c2⟩, d1, e1, f1, ⟨g1, g2⟩, o1, o2, o3, o4⟩ := h
  obtain ⟨T1, T2, T3, _⟩ := T
  have hN : 1311 ≤ s.1 := e1.2.1
  have fr : ∀ z, z < s.1 → ¬ own z = 1 → s'.2.1 z = s.2.1 z := fun z z1 z2 => T2 z z1 (fun q => z2 (o2 z q))
  have lo : ∀ z, z < 1311 → ¬ fxT z = 1 → s'.2.1 z = s.2.1 z := fun z hz hq => fr z (by omega) (by rw [o1 z hz]; exact hq)
  have ex : ∀ z, ∃ t, (z < s.1 → t = own z) ∧ (s.1 ≤ z → PI I' z → t = 1) ∧ (s.1 ≤ z → ¬ PI I' z → t = 3) := fun z => by
    by_cases q : z < s.1
    · exact ⟨own z, fun _ => rfl, fun _ _ => by omega, fun _ _ => by omega⟩
    · by_cases e : PI I' z
      · exact ⟨1, fun w => absurd w q, fun _ _ => rfl, fun _ w => absurd e w⟩
      · exact ⟨3, fun w => absurd w q, fun _ w => absurd w e, fun _ _ => rfl⟩
  obtain ⟨own', ho⟩ := Classical.axiomOfChoice ex
  have h1 : ∀ z, z < s.1 → own' z = own z := fun z q => (ho z).1 q
  have hh1 := d1.2.2.2.2.2.2
  refine ⟨own', h1, fun z q => (ho z).2.2 q, ⟨(lo 128 (by decide) (by decide)).trans a1, a2, a3⟩, ⟨ws, Y, W⟩, ⟨c1.keep (lo _ (by decide) (by decide)) (lo _ (by decide) (by decide)), c2⟩, d1.keep T1 (fun z hz => ?_), e1.keep T1 (fun z z1 z2 => ?_) (fun p hp hq z z1 z2 => ?_), fun p hp => (f1 p hp).keep T1 (fun z z1 z2 z3 => fr z z2 (by omega)) h1, ⟨g1.keep (fun z z1 z2 => ?_), g2⟩, fun z hz => (h1 z (by omega)).trans (o1 z hz), fun z hz => ?_, ⟨(h1 hh hh1.2.2.2.1).trans o3.1, (h1 tt hh1.2.2.2.2.1).trans o3.2⟩, fun p hp hq z z1 z2 => ?_⟩
  · rcases hz with hz | hz | hz | hz | hz | hz
    · rw [hz]
      exact lo _ (by decide) (by decide)
    · rw [hz]
      exact lo _ (by decide) (by decide)
    · rw [hz]
      exact lo _ (by decide) (by decide)
    · rw [hz]
      exact lo _ (by decide) (by decide)
    · rw [hz]
      exact fr hh hh1.2.2.2.1 (by rw [o3.1]; decide)
    · rw [hz]
      exact fr tt hh1.2.2.2.2.1 (by rw [o3.2]; decide)
  · obtain rfl | rfl | rfl : z = 154 ∨ z = 155 ∨ z = 156 := by omega
    · exact lo _ (by decide) (by decide)
    · exact lo _ (by decide) (by decide)
    · exact lo _ (by decide) (by decide)
  · rcases e1.2.2.2.1 p hp with ⟨w, _⟩ | ⟨_, _, q1, q2⟩
    · exact absurd w hq
    · exact fr z (by omega) (by rw [o4 p hp hq z z1 z2]; omega)
  · obtain rfl | rfl | rfl : z = 157 ∨ z = 158 ∨ z = 159 := by omega
    · exact lo _ (by decide) (by decide)
    · exact lo _ (by decide) (by decide)
    · exact lo _ (by decide) (by decide)
  · by_cases q : z < s.1
    · rcases T3 z hz with e | e
      · rw [h1 z q]
        exact o2 z e
      · omega
    · exact (ho z).2.1 (by omega) hz
  · rcases e1.2.2.2.1 p hp with ⟨w, _⟩ | ⟨_, _, q1, q2⟩
    · exact absurd w hq
    · rw [h1 z (by omega)]
      exact o4 p hp hq z z1 z2
theorem BG.rd (h : BG c s L N Nm) (T : SF I N s I' N' s' (24 * L + 16)) : BG (c + 1) s' 0 N' Nm := by
  obtain ⟨_, _, _, t1, t2⟩ := T
  have h1 := h.1
  have h2 := h.2
  constructor <;> omega
theorem WK_o {mf : List Value} {hd tl : Nat → Int64} {cu : Nat → Value} {cn cb : Nat → Int32} {z : Nat} (h1 : ¬ z = 148) (h2 : ¬ z = hh) (h3 : ¬ z = tt) (h4 : ¬ z = 151) (h5 : ¬ z = 152) (h6 : ¬ z = 153) (h7 : ¬ z = 130) (h8 : ¬ z = 131) (h9 : z < r ∨ r + 7 < z) : WK f mf hh tt Nm hd tl cu cn cb r S O z = f z := by
  unfold WK
  rw [HT_off h9, HO_o h7 h8]
  unfold HK
  rw [if_neg h1, if_neg h2, if_neg h3, if_neg h4, if_neg h5, if_neg h6]
theorem WK_id {mf : List Value} {hd tl : Nat → Int64} {cu : Nat → Value} {cn cb : Nat → Int32} (h0 : f 148 = .inr (6, mf)) (h1 : f hh = .inl (.long, Nm, fun j => .long (hd j))) (h2 : f tt = .inl (.long, Nm, fun j => .long (tl j))) (h3 : f 151 = .inl (.object "StowTongue$Unit", 8, cu)) (h4 : f 152 = .inl (.int, 8, fun j => .int (cn j))) (h5 : f 153 = .inl (.int, 8, fun j => .int (cb j))) (hO : OCc f O) (hS : ST f r S) : WK f mf hh tt Nm hd tl cu cn cb r S O = f := by
  have e : HK f mf hh tt Nm hd tl cu cn cb = f := by
    funext x
    unfold HK
    by_cases c : x = 148
    · rw [if_pos c, c, h0]
    rw [if_neg c]
    by_cases c : x = hh
    · rw [if_pos c, c, h1]
    rw [if_neg c]
    by_cases c : x = tt
    · rw [if_pos c, c, h2]
    rw [if_neg c]
    by_cases c : x = 151
    · rw [if_pos c, c, h3]
    rw [if_neg c]
    by_cases c : x = 152
    · rw [if_pos c, c, h4]
    rw [if_neg c]
    by_cases c : x = 153
    · rw [if_pos c, c, h5]
    rw [if_neg c]
  unfold WK
  rw [e, hO.eq]
  exact hS
/-- the machine has run on the Store of place p0 -/
theorem CKx.perf {Z : MY} {tp bs pc cl tk er dn fl : Int32} {u : Nat} {rh rt : Int64} (h : CKx s L g I N hh tt Nm O G rs SS un FF v fu X own) (hp0 : G.1 < p0) (h10 : p0 < 10) (hn0 : ¬ G.2.2.1 p0 = .null) (Gm : GM (rs p0) s.1 s.2.2 s.2.1 hh tt Nm Z.1 Z.2.1 Z.2.2.1 Z.2.2.2.1 Z.2.2.2.2.1 Z.2.2.2.2.2.1) (hO' : oW O') (es : s' = (Z.1, WW Z.2.2.1 Z.2.2.2.1 Z.2.2.2.2.1 Z.2.2.2.2.2.1 Z.2.2.2.2.2.2.1 Z.2.2.2.2.2.2.2.1 Z.2.2.2.2.2.2.2.2.1 Z.2.2.2.2.2.2.2.2.2.1 Z.2.2.2.2.2.2.2.2.2.2.1 (rs p0) S' O' fl tp bs u pc cl tk er dn rh rt, Z.2.1)) : ∃ own', (∀ z, z < s.1 → own' z = own z) ∧ CKx s' L g I N Z.2.2.2.1 Z.2.2.2.2.1 Z.2.2.2.2.2.1 O' G rs (upSS SS p0 S') un FF v fu X own' ∧ (∀ z, z < s.1 → ¬ own z = 2 → ¬ own z = 6 → ¬ own z = rs p0 → s'.2.1 z = s.2.1 z) ∧ s'.2.1 148 = .inr (6, mF Z.2.2.2.1 Z.2.2.2.2.1 (rs p0) fl tp bs u pc cl tk er dn rh rt) ∧ s.1 ≤ s'.1 := by
  obtain ⟨⟨a1, a2, a3⟩, ⟨ws0, b1, b2⟩, ⟨c1, c2⟩, d1, e1, f1, ⟨g1, g2⟩, o1, o2, o3, o4⟩ := h
  obtain ⟨D1, D2, D3, D4, D5, D6, D7, D8, D9⟩ := Gm
  have hN : 1311 ≤ s.1 := e1.2.1
  have hh1 := d1.2.2.2.2.2.2
  generalize Z.1 = n' at *
  generalize Z.2.1 = us' at *
  generalize Z.2.2.1 = f' at *
  generalize Z.2.2.2.1 = hh' at *
  generalize Z.2.2.2.2.1 = tt' at *
  generalize Z.2.2.2.2.2.1 = Nm' at *
  generalize Z.2.2.2.2.2.2.1 = hd' at *
  generalize Z.2.2.2.2.2.2.2.1 = tl' at *
  generalize Z.2.2.2.2.2.2.2.2.1 = cu' at *
  generalize Z.2.2.2.2.2.2.2.2.2.1 = cn' at *
  generalize Z.2.2.2.2.2.2.2.2.2.2.1 = cb' at *
  have F := es
  subst F
  obtain ⟨k1, k2, k3, k4⟩ : G.2.2.1 p0 = .ref (rs p0) ∧ ST s.2.1 (rs p0) (SS p0) ∧ 1311 ≤ rs p0 ∧ rs p0 + 7 < s.1 := by
    rcases e1.2.2.2.1 p0 h10 with ⟨w, _⟩ | q
    · exact absurd w hn0
    · exact q
  have fr : ∀ z, z < s.1 → ¬ own z = 2 → ¬ own z = 6 → ¬ own z = rs p0 → WW f' hh' tt' Nm' hd' tl' cu' cn' cb' (rs p0) S' O' fl tp bs u pc cl tk er dn rh rt z = s.2.1 z := fun z z1 z2 z3 z4 => by
    have q1 : ∀ k, k < 1311 → fxT k = 2 → ¬ z = k := fun k hk hf e => z2 (by rw [e, o1 k hk, hf])
    have q2 : ∀ k, k < 1311 → fxT k = 6 → ¬ z = k := fun k hk hf e => z3 (by rw [e, o1 k hk, hf])
    have q3 : ¬ z = hh := fun e => z2 (by rw [e]; exact o3.1)
    have q4 : ¬ z = tt := fun e => z2 (by rw [e]; exact o3.2)
    have q5 : z < rs p0 ∨ rs p0 + 7 < z := by
      by_cases y1 : z < rs p0
      · exact Or.inl y1
      · by_cases y2 : rs p0 + 7 < z
        · exact Or.inr y2
        · exact absurd (o4 p0 h10 hn0 z (by omega) (by omega)) z4
    have q6 : ¬ z = hh' := by omega
    have q7 : ¬ z = tt' := by omega
    refine (WK_o (q1 _ (by decide) (by decide)) q6 q7 (q1 _ (by decide) (by decide)) (q1 _ (by decide) (by decide)) (q1 _ (by decide) (by decide)) (q2 _ (by decide) (by decide)) (q2 _ (by decide) (by decide)) q5).trans ?_
    exact D5 z z1 q3 q4
  have lo : ∀ z, z < 1311 → ¬ fxT z = 2 → ¬ fxT z = 6 → WW f' hh' tt' Nm' hd' tl' cu' cn' cb' (rs p0) S' O' fl tp bs u pc cl tk er dn rh rt z = s.2.1 z := fun z hz q1 q2 => fr z (by omega) (by rw [o1 z hz]; exact q1) (by rw [o1 z hz]; exact q2) (by rw [o1 z hz]; have := fxT_lt z; omega)
  have ex : ∀ z, ∃ t, (z < s.1 → t = own z) ∧ (s.1 ≤ z → t = 2) := fun z => by
    by_cases q : z < s.1
    · exact ⟨own z, fun _ => rfl, fun _ => by omega⟩
    · exact ⟨2, fun w => absurd w q, fun _ => rfl⟩
  obtain ⟨own', ho⟩ := Classical.axiomOfChoice ex
  have h1 : ∀ z, z < s.1 → own' z = own z := fun z q => (ho z).1 q
  obtain ⟨W1, W2, W3, W4, W5, W6, W7, W8, W9, W10, W11, W12, W13, W14, W15, W16, W17, W18, W19, W20, W21⟩ := D1
  have c148 : WW f' hh' tt' Nm' hd' tl' cu' cn' cb' (rs p0) S' O' fl tp bs u pc cl tk er dn rh rt 148 = .inr (6, mF hh' tt' (rs p0) fl tp bs u pc cl tk er dn rh rt) := by
    unfold WW WK
    rw [HT_off (by omega), HO_o (by decide) (by decide)]
    rfl
  have chh : WW f' hh' tt' Nm' hd' tl' cu' cn' cb' (rs p0) S' O' fl tp bs u pc cl tk er dn rh rt hh' = .inl (.long, Nm', fun j => .long (hd' j)) := by
    unfold WW WK
    rw [HT_off (by omega), HO_o W10 W11]
    unfold HK
    rw [if_neg W12, if_pos rfl]
  have ctt : WW f' hh' tt' Nm' hd' tl' cu' cn' cb' (rs p0) S' O' fl tp bs u pc cl tk er dn rh rt tt' = .inl (.long, Nm', fun j => .long (tl' j)) := by
    unfold WW WK
    rw [HT_off (by omega), HO_o W16 W17]
    unfold HK
    rw [if_neg W18, if_neg (fun e => W5 e.symm), if_pos rfl]
  have cst : ∀ z, z = 151 ∨ z = 152 ∨ z = 153 → WW f' hh' tt' Nm' hd' tl' cu' cn' cb' (rs p0) S' O' fl tp bs u pc cl tk er dn rh rt z = HK f' (mF hh' tt' (rs p0) fl tp bs u pc cl tk er dn rh rt) hh' tt' Nm' hd' tl' cu' cn' cb' z := fun z hz => by
    unfold WW WK
    rw [HT_off (by omega), HO_o (by omega) (by omega)]
  have c151 := cst 151 (by decide)
  have c152 := cst 152 (by decide)
  have c153 := cst 153 (by decide)
  unfold HK at c151 c152 c153
  rw [if_neg (by decide), if_neg (fun e => W13 e.symm), if_neg (fun e => W19 e.symm), if_pos rfl] at c151
  rw [if_neg (by decide), if_neg (fun e => W14 e.symm), if_neg (fun e => W20 e.symm), if_neg (by decide), if_pos rfl] at c152
  rw [if_neg (by decide), if_neg (fun e => W15 e.symm), if_neg (fun e => W21 e.symm), if_neg (by decide), if_neg (by decide), if_pos rfl] at c153
  have cO : OCc (WW f' hh' tt' Nm' hd' tl' cu' cn' cb' (rs p0) S' O' fl tp bs u pc cl tk er dn rh rt) O' := by
    constructor
    · unfold WW WK
      rw [HT_off (by omega)]
      rfl
    · unfold WW WK
      rw [HT_off (by omega)]
      rfl
  have ow1 : own' hh' = 2 := by
    rcases D3 with e | e
    · rw [e, h1 hh hh1.2.2.2.1]
      exact o3.1
    · exact (ho hh').2 e
  have ow2 : own' tt' = 2 := by
    rcases D4 with e | e
    · rw [e, h1 tt hh1.2.2.2.2.1]
      exact o3.2
    · exact (ho tt').2 e
  have hb : ∀ p, p < 10 → ¬ G.2.2.1 p = .null → rs p + 7 < s.1 ∧ 1311 ≤ rs p := fun p hp hq => by
    rcases e1.2.2.2.1 p hp with ⟨w, _⟩ | ⟨_, _, q1, q2⟩
    · exact absurd w hq
    · exact ⟨q2, q1⟩
  refine ⟨own', h1, ⟨⟨(lo 128 (by decide) (by decide) (by decide)).trans a1, a2, a3⟩, ⟨ws0, b1.keep D2 (fun z hz => ?_), b2⟩, ⟨cO, hO'⟩, ⟨⟨_, _, _, _, _, _, _, _, _, _, _, _, _, c148⟩, ⟨hd', chh⟩, ⟨tl', ctt⟩, ⟨cu', c151⟩, ⟨cn', c152⟩, ⟨cb', c153⟩, by omega, by omega, W5, W2, W4, by omega, by omega⟩, ⟨?_, Nat.le_trans hN D2, e1.2.2.1, fun p hp => ?_, e1.2.2.2.2⟩, fun p hp => ?_, ⟨g1.keep (fun z z1 z2 => ?_), g2⟩, fun z hz => (h1 z (by omega)).trans (o1 z hz), fun z hz => (h1 z (b1.2.2.2.2.2.2.2.2.2 z hz)).trans (o2 z hz), ⟨ow1, ow2⟩, fun p hp hq z z1 z2 => ?_⟩, fr, c148, D2⟩
  · rcases hz with hz | hz | hz
    · exact fr z (b1.2.2.2.2.2.2.2.2.2 z hz) (by rw [o2 z hz]; decide) (by rw [o2 z hz]; decide) (by rw [o2 z hz]; omega)
    · rw [hz]
      exact lo _ (by decide) (by decide) (by decide)
    · rw [hz]
      exact lo _ (by decide) (by decide) (by decide)
  · funext z
    have e := congrFun e1.1 z
    by_cases c : z < 154 ∨ 156 < z
    · exact HG_off c
    · obtain rfl | rfl | rfl : z = 154 ∨ z = 155 ∨ z = 156 := by omega
      · exact e.trans (lo _ (by decide) (by decide) (by decide)).symm
      · exact e.trans (lo _ (by decide) (by decide) (by decide)).symm
      · exact e.trans (lo _ (by decide) (by decide) (by decide)).symm
  · unfold upSS
    by_cases c : p = p0
    · rw [if_pos c, c]
      exact Or.inr ⟨k1, ST.mk, k3, Nat.lt_of_lt_of_le k4 D2⟩
    · rw [if_neg c]
      rcases e1.2.2.2.1 p hp with q | ⟨q1, q2, q3, q4⟩
      · exact Or.inl q
      · have nn : ¬ G.2.2.1 p = .null := by
          rw [q1]
          exact rf_nn
        have ne := e1.2.2.2.2.1 p p0 hp h10 c nn hn0
        exact Or.inr ⟨q1, q2.keep (fun z z1 z2 => fr z (by omega) (by rw [o4 p hp nn z z1 z2]; omega) (by rw [o4 p hp nn z z1 z2]; omega) (by rw [o4 p hp nn z z1 z2]; omega)), q3, Nat.lt_of_lt_of_le q4 D2⟩
  · have e : upSS SS p0 S' p = SS p := if_neg (by omega)
    rw [e]
    exact (f1 p hp).keep D2 (fun z z1 z2 z3 => fr z z2 (by omega) (by omega) (by omega)) h1
  · obtain rfl | rfl | rfl : z = 157 ∨ z = 158 ∨ z = 159 := by omega
    · exact lo _ (by decide) (by decide) (by decide)
    · exact lo _ (by decide) (by decide) (by decide)
    · exact lo _ (by decide) (by decide) (by decide)
  · have := hb p hp hq
    rw [h1 z (by omega)]
    exact o4 p hp hq z z1 z2
theorem BG.gm {Nm' : Nat} (h : BG c s L N Nm) (Gm : GM r s.1 s.2.2 f hh tt Nm s'.1 s'.2.2 f' u k Nm') : BG c s' L N Nm' := by
  obtain ⟨_, _, _, _, _, g6, g7, g8, _⟩ := Gm
  have h1 := h.1
  have h2 := h.2
  constructor <;> omega
theorem e_latI {s : HS} (C : CL s G rs SS) (h : ¬ G.2.2.1 G.1 = .null) : x_Log_latest (d + 3) 154 s = some (rs G.1, s) := by
  obtain ⟨s', G', rs', e1, _, _, _, _, _, e2⟩ := e_storeAt (d := d) (p := G.1) C (by have := C.2.2.1; omega) (by omega)
  rcases e2 with ⟨rfl, rfl, rfl⟩ | ⟨e, _⟩
  · unfold x_Log_latest
    dsimp only
    rw [C.gd, C.gI, Option.bind_some, e1, bnd_some]
  · exact absurd e h
/-- a function's denotation -/
def ftT (F : FTb) (i : Nat) : FD := if i < F.1 then (ti_w (F.2 i), ti_n (F.2 i), ti_D (F.2 i)) else ([97], 0, sNop)
theorem tkS_lj (TT : Nat → TI) : ∀ k j, j < k → ti_t (TT j) ≤ tkS TT k
  | 0, _, h => absurd h (Nat.not_lt_zero _)
  | k + 1, j, h => by
    rw [tkS]
    by_cases e : j = k
    · rw [e]
      omega
    · have := tkS_lj TT k j (by omega)
      omega
theorem ftL_400 (TT : Nat → TI) : ∀ m i (F F' : FTb), tkS F.2 F.1 ≤ 400 → ftL TT m i F = some F' → tkS F'.2 F'.1 ≤ 400
  | 0, _, F, F', h, e => by
    rw [ftL] at e
    cases e
    exact h
  | m + 1, i, F, F', h, e => by
    rw [ftL] at e
    by_cases c : ftOk F (TT i) = true
    · rw [if_pos c] at e
      exact ftL_400 TT m (i + 1) _ F' (of_decide_eq_true c).2 e
    · rw [if_neg c] at e
      cases e
theorem tkS_1500 (TT : Nat → TI) : ∀ k, (∀ j, j < k → ti_t (TT j) ≤ 1500) → tkS TT k ≤ 1500 * k
  | 0, _ => Nat.zero_le _
  | k + 1, h => by
    rw [tkS]
    have := tkS_1500 TT k (fun j hj => h j (by omega))
    have := h k (by omega)
    omega
theorem fg_def : ∃ ui : UI, FG ui ([97], 0, sNop) := ⟨(0, 4, fun j => if j = 0 then 10 else 6, 0, fun _ => 0, nC [97], 0, 0, 0), rfl, rfl, 0, 0, 1, 0, ImS_nop, by decide, by decide, by decide, by decide, by decide, rfl, rfl, rfl, by decide⟩
theorem fg_tu {Y : MY} (T : TU Y.2.2.1 Y.1 u i) (h4 : ti_t i ≤ 400) (hy : ∀ z, u ≤ z → z ≤ u + 2 → yO r Y z) : ∃ ui : UI, FG ui (ti_w i, ti_n i, ti_D i) ∧ ui.1 = u ∧ UV r Y ui := by
  obtain ⟨b, k, cu, pu, t1, t2, t3, t4, t5, t6, t7, t8, t9, t10⟩ := T
  refine ⟨(u, 2 * b + 4, cu, k, pu, nC (ti_w i), ti_n i, ti_l i, ti_t i), ⟨rfl, rfl, b, ti_l i, ti_t i, k, t6, Nat.le_refl _, t9.2.2.1, ?_, t9.2.2.2.2.2.1, Nat.le_refl _, rfl, t7, t8, ?_⟩, rfl, u + 1, u + 2, t1, t2, t3, hy u (Nat.le_refl _) (by omega), hy (u + 1) (by omega) (by omega), hy (u + 2) (by omega) (by omega), ?_, ?_⟩
  · show ti_l i + ti_t i ≤ 512
    omega
  · omega
  · show 2 * b + 4 < 2 ^ 20
    omega
  · show k < 2 ^ 20
    omega
theorem pg_pu {Y : MY} (T : PU Y.2.2.1 Y.1 u lc nd D) (hy : ∀ z, u ≤ z → z ≤ u + 2 → yO r Y z) : ∃ ui : UI, PG ui D ∧ ui.1 = u ∧ UV r Y ui := by
  obtain ⟨b, k, cu, pu, t1, t2, t3, t4, t5, t6, t7, t8, t9⟩ := T
  refine ⟨(u, 2 * b + 4, cu, k, pu, 0, 0, lc, 0), ⟨rfl, b, lc, nd, k, t6, Nat.le_refl _, ?_, t9.2.2.2.1, Nat.le_refl _, rfl, t7, t8, ?_⟩, rfl, u + 1, u + 2, t1, t2, t3, hy u (Nat.le_refl _) (by omega), hy (u + 1) (by omega) (by omega), hy (u + 2) (by omega) (by omega), ?_, ?_⟩
  · show lc + nd ≤ 4096
    omega
  · omega
  · show 2 * b + 4 < 2 ^ 20
    omega
  · show k < 2 ^ 20
    omega
end
