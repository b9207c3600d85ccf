/-! what is stored, and what is let go, as STATEMENTS -/
theorem n11_stR {S : SC} {y : Int64} {v : V2} : ¬ (d_stR S y v).2 = 11 := by
  unfold d_stR
  dsimp only
  split <;> decide
theorem n11_stF {S : SC} {y : Int64} {a b : V2} : ¬ (d_stF S y a b).2 = 11 := by
  unfold d_stF
  repeat' split
  all_goals (dsimp only; first | decide | (split <;> decide))
theorem n11_stI {S : SC} {a i v : V2} : ¬ (d_stI S a i v).2 = 11 := by
  unfold d_stI
  repeat' split
  all_goals first | exact n11_in | (dsimp only; decide)
theorem nn_stR {S : SC} {y : Int64} {v : V2} : 0 ≤ (d_stR S y v).2 := by
  unfold d_stR
  dsimp only
  split <;> decide
theorem nn_stF {S : SC} {y : Int64} {a b : V2} : 0 ≤ (d_stF S y a b).2 := by
  unfold d_stF
  repeat' split
  all_goals (dsimp only; first | decide | (split <;> decide))
theorem nn_stI {S : SC} {a i v : V2} : 0 ≤ (d_stI S a i v).2 := by
  unfold d_stI
  by_cases k : s_Cell_sortOf a.1 = 4
  · rw [if_pos k]
    by_cases k2 : c_in i (nI (cOf S a.2.toInt32)) = 0
    · rw [if_pos k2]
      show (0 : Int32) ≤ 0
      decide
    · rw [if_neg k2]
      show 0 ≤ c_in _ _
      exact nn_in
  · rw [if_neg k]
    show (0 : Int32) ≤ 2
    decide
section
variable {a b c va kv lcl need kp m p z : Nat} {co : Nat → Int32} {po : Nat → Int64} {vo : Nat → VQ} {D E : DE} {l : DL} {w : List Nat} {x : Int32}
def sDrop (D : DE) : DSt := sDo (fun S _ => (S, 0)) (dSnoc 0 dNil D)
def sRoot (w : List Nat) (D : DE) : DSt := sDo (fun S vs => d_stR S (nC w) (vs 0)) (dSnoc 0 dNil D)
def sField (w : List Nat) (D E : DE) : DSt := sDo (fun S vs => d_stF S (nF w) (vs 0) (vs 1)) (dSnoc 1 (dSnoc 0 dNil D) E)
def sItem (l : DL) (E : DE) : DSt := sDo (fun S vs => d_stI S (vs 0) (vs 1) (vs 2)) (dSnoc 2 l E)
theorem ImS_drop (ha : a ≤ b) (h : ImE a b lcl need kp co po D) (c1 : co (2 * b) = 8) : ImS a (b + 1) lcl need kp co po (sDrop D) := ImS_do (m := 1) ha (ImL_snoc (Nat.le_refl _) ha ImL_nil h (Nat.zero_le _)) (fun env loc sg => ⟨rfl, rfl, fun z S hz => rfl⟩) c1 rfl (fun _ _ _ _ => cs_drop) (fun S vs I => SJ.rfl' I) (fun S vs => by show ¬ (0 : Int32) = 11; decide)
theorem IrS_drop (ha : a ≤ b) (hn : 1 ≤ need) (h : IrE a b va kv lcl need co vo D) (c1 : co b = 27) : IrS a (b + 1) va kv lcl need co vo (sDrop D) := IrS_do (m := 1) ha (IrL_snoc (Nat.le_refl _) ha IrL_nil h (Nat.zero_le _)) (fun env loc sg => ⟨rfl, rfl, fun z S hz => rfl⟩) hn (hK_1 ha c1) ct_drop (fun S vs => by show ¬ (0 : Int32) = 11; decide) (fun S vs => by show (0 : Int32) ≤ 0; decide) (by decide)
theorem ImS_root (ha : a ≤ b) (h : ImE a b lcl need kp co po D) (c1 : co (2 * b) = 16) (c2 : co (2 * b + 1) = nI p) (hp : p < kp) (p1 : po p = nC w) : ImS a (b + 1) lcl need kp co po (sRoot w D) := ImS_do (m := 1) ha (ImL_snoc (Nat.le_refl _) ha ImL_nil h (Nat.zero_le _)) (fun env loc sg => ⟨rfl, rfl, fun z S hz => congrArg (d_stR S _) (hz 0 (by decide))⟩) c1 c2 (fun pu K g h => by
  have e : pu p = nC w := (g p hp).trans p1
  rw [← e]
  exact cs_root (by omega)) (fun S vs I => SJ_stR I) (fun S vs => n11_stR)
theorem IrS_root (hw : okN w) (ha : a ≤ b) (hn : 1 ≤ need) (h : IrE a b va kv lcl need co vo D) (c1 : co b = 4) (c2 : co (b + 1) = nI z) (hx : va ≤ z) (hx2 : z < kv) (hxw : (vo z).2.2.1 = nV w) : IrS a (b + 2) va kv lcl need co vo (sRoot w D) := IrS_do (m := 1) ha (IrL_snoc (Nat.le_refl _) ha IrL_nil h (Nat.zero_le _)) (fun env loc sg => ⟨rfl, rfl, fun z S hz => congrArg (d_stR S _) (hz 0 (by decide))⟩) hn (hK_N ha c1 c2 hx hx2 hxw) (ct_root hw) (fun S vs => n11_stR) (fun S vs => nn_stR) (by decide)
theorem ImS_field (ha : a ≤ b) (hb : b ≤ c) (hn : 1 ≤ need) (h : ImE a b lcl need kp co po D) (h' : ImE b c lcl (need - 1) kp co po E) (c1 : co (2 * c) = 18) (c2 : co (2 * c + 1) = nI p) (hp : p < kp) (p1 : po p = nF w) : ImS a (c + 1) lcl need kp co po (sField w D E) := ImS_do (m := 2) (Nat.le_trans ha hb) (ImL_snoc ha hb (ImL_snoc (Nat.le_refl _) ha ImL_nil h (Nat.zero_le _)) h' hn) (fun env loc sg => ⟨rfl, rfl, fun z S hz => by
  show d_stF S _ (z 0) (z 1) = _
  rw [hz 0 (by decide), hz 1 (by decide)]⟩) c1 c2 (fun pu K g h => by
  have e : pu p = nF w := (g p hp).trans p1
  rw [← e]
  exact cs_field (by omega)) (fun S vs I => SJ_stF I) (fun S vs => n11_stF)
theorem IrS_field (hw : okN w) (ha : a ≤ b) (hb : b ≤ c) (hn : 2 ≤ need) (h : IrE a b va kv lcl need co vo D) (h' : IrE b c va kv lcl (need - 1) co vo E) (c1 : co c = 6) (c2 : co (c + 1) = nI z) (hx : va ≤ z) (hx2 : z < kv) (hxw : (vo z).2.2.1 = nV w) : IrS a (c + 2) va kv lcl need co vo (sField w D E) := IrS_do (m := 2) (Nat.le_trans ha hb) (IrL_snoc ha hb (IrL_snoc (Nat.le_refl _) ha IrL_nil h (Nat.zero_le _)) h' (by omega)) (fun env loc sg => ⟨rfl, rfl, fun z S hz => by
  show d_stF S _ (z 0) (z 1) = _
  rw [hz 0 (by decide), hz 1 (by decide)]⟩) hn (hK_N (Nat.le_trans ha hb) c1 c2 hx hx2 hxw) (ct_field hw) (fun S vs => n11_stF) (fun S vs => nn_stF) (by decide)
theorem ImS_item (ha : a ≤ b) (hb : b ≤ c) (hn : 2 ≤ need) (h : ImL a b lcl need kp co po 2 l) (h' : ImE b c lcl (need - 2) kp co po E) (c1 : co (2 * c) = 20) : ImS a (c + 1) lcl need kp co po (sItem l E) := ImS_do (m := 3) (Nat.le_trans ha hb) (ImL_snoc ha hb h h' hn) (fun env loc sg => ⟨rfl, rfl, fun z S hz => by
  show d_stI S (z 0) (z 1) (z 2) = _
  rw [hz 0 (by decide), hz 1 (by decide), hz 2 (by decide)]⟩) c1 rfl (fun _ _ _ _ => cs_item) (fun S vs I => SJ_stI I) (fun S vs => n11_stI)
theorem IrS_item (ha : a ≤ b) (hb : b ≤ c) (hn : 3 ≤ need) (h : IrL a b va kv lcl need co vo 2 l) (h' : IrE b c va kv lcl (need - 2) co vo E) (c1 : co c = 8) : IrS a (c + 1) va kv lcl need co vo (sItem l E) := IrS_do (m := 3) (Nat.le_trans ha hb) (IrL_snoc ha hb h h' (by omega)) (fun env loc sg => ⟨rfl, rfl, fun z S hz => by
  show d_stI S (z 0) (z 1) (z 2) = _
  rw [hz 0 (by decide), hz 1 (by decide), hz 2 (by decide)]⟩) hn (hK_1 (Nat.le_trans ha hb) c1) ct_item (fun S vs => n11_stI) (fun S vs => nn_stI) (by decide)
end
