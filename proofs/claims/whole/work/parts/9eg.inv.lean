/-! what holds between two calls: the class -/
def fxT (z : Nat) : Nat := if z = 128 then 4 else if z = 129 then 5 else if z = 130 ∨ z = 131 then 6 else if z = 134 then 10 else if z ≤ 147 then 1 else if z ≤ 153 then 2 else if z ≤ 156 then 7 else if z ≤ 159 then 8 else 9
def c128 (f : Nat → am_C) (L : Nat) (v : V2) (fu : Int32) : Prop := f 128 = .inr (9, [.ref 129, .int (nI L), .ref 130, .ref 132, .ref 148, .ref 154, .ref 157, .long v.1, .long v.2, .int fu])
def OCc (f : Nat → am_C) (O : oS) : Prop := f 130 = .inr (0, [.ref 131, .int (nI O.1), .int O.2.1]) ∧ f 131 = .inl (.byte, 600, fun j => .int (O.2.2 j))
def SWc (f : Nat → am_C) (X : SWs) : Prop := f 157 = .inr (8, [.ref 158, .ref 159, .int (nI X.2.2)]) ∧ f 158 = .inl (.boolean, 100, fun j => .int (X.1 j)) ∧ f 159 = aInt 100 X.2.1
def MKc (s : HS) (hh tt N : Nat) : Prop := (∃ (v2 v3 v4 v5 v9 v10 v11 v12 v13 v14 v15 : Value) (rh rt : Int64), s.2.1 148 = .inr (6, [.ref hh, .ref tt, v2, v3, v4, v5, .ref 151, .ref 152, .ref 153, v9, v10, v11, v12, v13, v14, v15, .long rh, .long rt])) ∧ (∃ hd : Nat → Int64, s.2.1 hh = .inl (.long, N, fun j => .long (hd j))) ∧ (∃ tl : Nat → Int64, s.2.1 tt = .inl (.long, N, fun j => .long (tl j))) ∧ (∃ cu : Nat → Value, s.2.1 151 = .inl (.object "StowTongue$Unit", 8, cu)) ∧ (∃ cn : Nat → Int32, s.2.1 152 = .inl (.int, 8, fun j => .int (cn j))) ∧ (∃ cb : Nat → Int32, s.2.1 153 = .inl (.int, 8, fun j => .int (cb j))) ∧ (hh = 149 ∨ 1311 ≤ hh) ∧ (tt = 150 ∨ 1311 ≤ tt) ∧ ¬ hh = tt ∧ hh < s.1 ∧ tt < s.1 ∧ 64 ≤ N ∧ N ≤ 16384
def WSP (ws : Nat → Int64) : Prop := ∀ i, i < 12 → ws i = Int64.ofNat (C128 8 (RWL.getD i []))
def UA (s : HS) (own : Nat → Nat) (S : SC) : Prop := ∀ i, i < 10 → S.2.2.2.2.2.2.2.1 i = .null ∨ ∃ u, S.2.2.2.2.2.2.2.1 i = .ref u ∧ isO s u 4 = true ∧ 1311 ≤ u ∧ u + 2 < s.1 ∧ ∀ z, u ≤ z → z ≤ u + 2 → own z = 3
/-- whose each cell is -/
def OWt (own : Nat → Nat) (I : ID) (hh tt : Nat) (G : LGS) (rs : Nat → Nat) : Prop := (∀ z, z < 1311 → own z = fxT z) ∧ (∀ z, PI I z → own z = 1) ∧ (own hh = 2 ∧ own tt = 2) ∧ (∀ p, p < 10 → ¬ G.2.2.1 p = .null → ∀ z, rs p ≤ z → z ≤ rs p + 7 → own z = rs p)
/-- the functions of one place -/
def UPl (s : HS) (own : Nat → Nat) (r : Nat) (S : SC) (un : Nat → Nat) (F : FTb) : Prop := UTb s.2.1 s.1 r S un F ∧ tkS F.2 F.1 ≤ 400 ∧ UA s own S
def CKx (s : HS) (L : Nat) (g : Nat → Int32) (I : ID) (N : N3) (hh tt Nm : Nat) (O : oS) (G : LGS) (rs : Nat → Nat) (SS : Nat → SC) (un : Nat → Nat → Nat) (FF : Nat → FTb) (v : V2) (fu : Int32) (X : SWs) (own : Nat → Nat) : Prop := (c128 s.2.1 L v fu ∧ L ≤ 1500 ∧ ∀ j, j < 1500 → isBt (g j)) ∧ (∃ ws, CY s g ws I N ∧ WSP ws) ∧ (OCc s.2.1 O ∧ oW O) ∧ MKc s hh tt Nm ∧ CL s G rs SS ∧ (∀ p, p ≤ G.1 → UPl s own (rs p) (SS p) (un p) (FF p)) ∧ (SWc s.2.1 X ∧ ∀ o, X.1 o = 0 ∨ X.1 o = 1) ∧ OWt own I hh tt G rs
def BG (c : Nat) (s : HS) (L : Nat) (N : N3) (Nm : Nat) : Prop := s.2.2 + 24 * L ≤ 500 * c + 2 * (N.1 + N.2.1) + 4 * N.2.2 + 4 * Nm ∧ 32 * s.1 + 144 * L ≤ 41952 + 160 * c + 2 * (N.1 + N.2.1) + 32 * N.2.2 + Nm
def CKk (c : Nat) (s : HS) (L : Nat) (g : Nat → Int32) (O : oS) (w : Nat) (sb : Int32) (bys : Nat → Int32) (SS : Nat → SC) (FF : Nat → FTb) (v : V2) (fu : Int32) : Prop := ∃ (I : ID) (N : N3) (hh tt Nm : Nat) (st : Nat → Value) (rs : Nat → Nat) (un : Nat → Nat → Nat) (X : SWs) (own : Nat → Nat), CKx s L g I N hh tt Nm O (w, sb, st, bys) rs SS un FF v fu X own ∧ BG c s L N Nm
section
variable {s s' : HS} {c L hh tt Nm r w : Nat} {g : Nat → Int32} {ws : Nat → Int64} {I : ID} {N : N3} {O : oS} {G : LGS} {rs : Nat → Nat} {SS : Nat → SC} {un : Nat → Nat → Nat} {uq : Nat → Nat} {FF : Nat → FTb} {F : FTb} {S : SC} {v : V2} {fu sb : Int32} {bys : Nat → Int32} {X : SWs} {own : Nat → Nat} {f f' : Nat → am_C}
theorem isO_lt {u ci : Nat} (h : isO s u ci = true) : u < s.1 := by
  obtain ⟨_, _, _, h⟩ := isO_in h
  exact h
theorem OCc.eq (h : OCc f O) : HO f O = f := by
  funext x
  unfold HO
  by_cases c : x = 130
  · rw [if_pos c, c, h.1]
  · rw [if_neg c]
    by_cases c : x = 131
    · rw [if_pos c, c, h.2]
    · rw [if_neg c]
theorem SWc.eq (h : SWc f X) : HWp f X = f := by
  funext x
  unfold HWp
  by_cases c : x = 157
  · rw [if_pos c, c, h.1]
  · rw [if_neg c]
    by_cases c : x = 158
    · rw [if_pos c, c, h.2.1]
    · rw [if_neg c]
      by_cases c : x = 159
      · rw [if_pos c, c, h.2.2]
      · rw [if_neg c]
theorem SWc.mk (f : Nat → am_C) (X : SWs) : SWc (HWp f X) X := ⟨rfl, rfl, rfl⟩
theorem OCc.mk (f : Nat → am_C) (O : oS) : OCc (HO f O) O := ⟨rfl, rfl⟩
theorem OCc.keep (h : OCc f O) (h1 : f' 130 = f 130) (h2 : f' 131 = f 131) : OCc f' O := ⟨h1.trans h.1, h2.trans h.2⟩
theorem SWc.keep (h : SWc f X) (hf : ∀ z, 157 ≤ z → z ≤ 159 → f' z = f z) : SWc f' X := ⟨(hf 157 (by decide) (by decide)).trans h.1, (hf 158 (by decide) (by decide)).trans h.2.1, (hf 159 (by decide) (by decide)).trans h.2.2⟩
theorem MKc.keep (h : MKc s hh tt Nm) (hn : s.1 ≤ s'.1) (hf : ∀ z, z = 148 ∨ z = 151 ∨ z = 152 ∨ z = 153 ∨ z = hh ∨ z = tt → s'.2.1 z = s.2.1 z) : MKc s' hh tt Nm := by
  obtain ⟨⟨v2, v3, v4, v5, v9, v10, v11, v12, v13, v14, v15, rh, rt, a1⟩, ⟨hd, a2⟩, ⟨tl, a3⟩, ⟨cu, a4⟩, ⟨cn, a5⟩, ⟨cb, a6⟩, a7, a8, a9, a10, a11, a12⟩ := h
  exact ⟨⟨v2, v3, v4, v5, v9, v10, v11, v12, v13, v14, v15, rh, rt, (hf _ (Or.inl rfl)).trans a1⟩, ⟨hd, (hf _ (Or.inr (Or.inr (Or.inr (Or.inr (Or.inl rfl)))))).trans a2⟩, ⟨tl, (hf _ (Or.inr (Or.inr (Or.inr (Or.inr (Or.inr rfl)))))).trans a3⟩, ⟨cu, (hf _ (Or.inr (Or.inl rfl))).trans a4⟩, ⟨cn, (hf _ (Or.inr (Or.inr (Or.inl rfl)))).trans a5⟩, ⟨cb, (hf _ (Or.inr (Or.inr (Or.inr (Or.inl rfl))))).trans a6⟩, a7, a8, a9, Nat.lt_of_lt_of_le a10 hn, Nat.lt_of_lt_of_le a11 hn, a12⟩
theorem CY.keep (h : CY s g ws I N) (hn : s.1 ≤ s'.1) (hf : ∀ z, PI I z ∨ z = 129 ∨ z = 134 → s'.2.1 z = s.2.1 z) : CY s' g ws I N := by
  obtain ⟨⟨dr, pg, fa, sg, a1⟩, ⟨tx, ln, a, a2⟩, a3, a4, a5, a6, a7, ⟨k, un, a8⟩, a9, a10⟩ := h
  refine ⟨⟨dr, pg, fa, sg, (hf 132 (Or.inl (Or.inl rfl))).trans a1⟩, ⟨tx, ln, a, (hf 133 (Or.inl (Or.inr (Or.inl rfl)))).trans a2⟩, (hf _ (Or.inr (Or.inl rfl))).trans a3, (hf _ (Or.inr (Or.inr rfl))).trans a4, Nat.le_trans a5 hn, a6.keep hn (fun z hz => hf z (Or.inl ?_)), a7.keep hn (fun z hz => hf z (Or.inl ?_)), ⟨k, un, a8.keep hn (hf _ (Or.inl ?_)) (fun _ => hf _ (Or.inl ?_))⟩, a9, fun z hz => Nat.lt_of_lt_of_le (a10 z hz) hn⟩
  · unfold PI
    rcases hz with e | e | e | e
    · exact Or.inr (Or.inr (Or.inl e))
    · exact Or.inr (Or.inr (Or.inr (Or.inr (Or.inr (Or.inl e)))))
    · exact Or.inr (Or.inr (Or.inr (Or.inr (Or.inr (Or.inr (Or.inl e))))))
    · exact Or.inr (Or.inr (Or.inr (Or.inr (Or.inr (Or.inr (Or.inr (Or.inl e)))))))
  · unfold PI
    rcases hz with e | e | e | e
    · exact Or.inr (Or.inr (Or.inr (Or.inl e)))
    · exact Or.inr (Or.inr (Or.inr (Or.inr (Or.inr (Or.inr (Or.inr (Or.inr (Or.inl e))))))))
    · exact Or.inr (Or.inr (Or.inr (Or.inr (Or.inr (Or.inr (Or.inr (Or.inr (Or.inr (Or.inl e)))))))))
    · exact Or.inr (Or.inr (Or.inr (Or.inr (Or.inr (Or.inr (Or.inr (Or.inr (Or.inr (Or.inr (Or.inl e))))))))))
  · exact Or.inr (Or.inr (Or.inr (Or.inr (Or.inl rfl))))
  · exact Or.inr (Or.inr (Or.inr (Or.inr (Or.inr (Or.inr (Or.inr (Or.inr (Or.inr (Or.inr (Or.inr rfl))))))))))
theorem UTb.keep (h : UTb s.2.1 s.1 r S uq F) (hn : s.1 ≤ s'.1) (hf : ∀ j, j < F.1 → ∀ z, uq j ≤ z → z ≤ uq j + 2 → s'.2.1 z = s.2.1 z) : UTb s'.2.1 s'.1 r S uq F := ⟨h.1, h.2.1, fun j hj => ⟨(h.2.2 j hj).1, (h.2.2 j hj).2.1.keep hn (hf j hj), (h.2.2 j hj).2.2⟩⟩
theorem UA.keep (h : UA s own S) (hn : s.1 ≤ s'.1) (hf : ∀ u, 1311 ≤ u → u < s.1 → own u = 3 → s'.2.1 u = s.2.1 u) {own' : Nat → Nat} (ho : ∀ u, u < s.1 → own' u = own u) : UA s' own' S := fun i hi => by
  rcases h i hi with a | ⟨u, a1, a2, a3, a4, a5⟩
  · exact Or.inl a
  · have l1 : u < s.1 := Nat.lt_of_le_of_lt (Nat.le_add_right u 2) a4
    exact Or.inr ⟨u, a1, isO_keep a2 (hf u a3 l1 (a5 u (Nat.le_refl _) (Nat.le_add_right u 2))) hn, a3, Nat.lt_of_lt_of_le a4 hn, fun z z1 z2 => (ho z (Nat.lt_of_le_of_lt z2 a4)).trans (a5 z z1 z2)⟩
theorem UPl.tag (h : UPl s own r S uq F) {j z : Nat} (hj : j < F.1) (z1 : uq j ≤ z) (z2 : z ≤ uq j + 2) : own z = 3 := by
  obtain ⟨e, _, _⟩ := h.1.2.2 j hj
  have h10 := h.1.2.1
  rcases h.2.2 j (by omega) with a | ⟨u, a1, _, _, _, a5⟩
  · rw [e] at a
    cases a
  · rw [e] at a1
    cases a1
    exact a5 z z1 z2
theorem UPl.keep (h : UPl s own r S uq F) (hn : s.1 ≤ s'.1) (hf : ∀ z, 1311 ≤ z → z < s.1 → own z = 3 → s'.2.1 z = s.2.1 z) {own' : Nat → Nat} (ho : ∀ u, u < s.1 → own' u = own u) : UPl s' own' r S uq F := ⟨h.1.keep hn (fun j hj z z1 z2 => hf z (by have := (h.1.2.2 j hj).2.1.lt; omega) (by have := (h.1.2.2 j hj).2.1.lt; omega) (h.tag hj z1 z2)), h.2.1, h.2.2.keep hn hf ho⟩
/-- what the reference does leaves the class as it is -/
theorem CKx.keep (h : CKx s L g I N hh tt Nm O G rs SS un FF v fu X own) (hn : s.1 ≤ s'.1) (hf : ∀ z, z < s.1 → (z < 160 ∨ 1310 < z) → s'.2.1 z = s.2.1 z) : CKx s' L g I N hh tt Nm O G rs SS un FF v fu X own := by
  obtain ⟨⟨a1, a2, a3⟩, ⟨ws, b1, b2⟩, ⟨c1, c2⟩, d1, e1, f1, ⟨g1, g2⟩, h1⟩ := h
  have hN : 1311 ≤ s.1 := e1.2.1
  have lo : ∀ z, z < 160 → s'.2.1 z = s.2.1 z := fun z hz => hf z (by omega) (Or.inl hz)
  have pi : ∀ z, PI I z → z < 160 ∨ 1310 < z := fun z hz => by
    have o1 := h1.2.1 z hz
    by_cases c : z < 1311
    · rw [h1.1 z c] at o1
      unfold fxT at o1
      refine Or.inl ?_
      by_cases q : z < 160
      · exact q
      · rw [if_neg (by omega), if_neg (by omega), if_neg (by omega), if_neg (by omega), if_neg (by omega), if_neg (by omega), if_neg (by omega), if_neg (by omega)] at o1
        exact absurd o1 (by decide)
    · exact Or.inr (by omega)
  refine ⟨⟨(lo 128 (by decide)).trans a1, a2, a3⟩, ⟨ws, b1.keep hn (fun z hz => ?_), b2⟩, ⟨c1.keep (lo _ (by decide)) (lo _ (by decide)), c2⟩, d1.keep hn (fun z hz => ?_), e1.keep hn (fun z z1 z2 => lo z (by omega)) (fun p hp hq z z1 z2 => ?_), fun p hp => (f1 p hp).keep hn (fun z z1 z2 _ => hf z z2 (Or.inr (by omega))) (fun _ _ => rfl), ⟨g1.keep (fun z z1 z2 => lo z (by omega)), g2⟩, h1⟩
  · rcases hz with hz | hz | hz
    · exact hf z (b1.2.2.2.2.2.2.2.2.2 z hz) (pi z hz)
    · exact lo z (by omega)
    · exact lo z (by omega)
  · have m := d1.2.2.2.2.2.2
    exact hf z (by omega) (by omega)
  · rcases e1.2.2.2.1 p hp with ⟨w, _⟩ | ⟨_, _, w1, w2⟩
    · exact absurd w hq
    · exact hf z (by omega) (Or.inr (by omega))
end
