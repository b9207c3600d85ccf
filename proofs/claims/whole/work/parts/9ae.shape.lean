/-- the command op with argument x, over a pool of K longs pu, turns the n uppermost VALUES into one -/
def CmO (op x : Int32) (n : Nat) (pu : Nat → Int64) (K : Nat) (Fo : SC → (Nat → V2) → RV) : Prop := ∀ (d r : Nat) (fu : Int32) (Y : MY) (T B u b L : Nat) (cu : Nat → Int32) (nm : Int64) (ps lc tn cl : Nat) (S : SC) (O : oS) (tk : Nat), UU r Y u L cu K pu nm ps lc tn → 2 * b + 1 < L → cu (2 * b) = op → cu (2 * b + 1) = x → yW r (T + n) Y → SI S → T < 8192 → ∃ out, (∀ s', out = some ((), s') → Go d 1 (mh r fu Y (T + n) B u b cl S O tk 0 0) s') ∧ yS1 r fu Y T B u (b + 1) cl O tk out (Fo S (fun i => yV Y (T + i)))
section
variable {pu : Nat → Int64} {K : Nat} {x : Int32}
theorem cm_number : CmO 11 x 0 pu K (fun S vs => (S, 0, s_Cell_headOf 1, x.toInt64)) := fun d r fu Y T B u b L cu nm ps lc tn cl S O tk U hb e1 e2 W I hT => by
  have hN := W.2.2.1
  have hT' := W.2.2.2
  refine ⟨x_Mach_doConstant (d + 8) 148 11 x (mh r fu Y (T + 0) B u (b + 1) cl S O tk 0 0), fun s' hs => go_const W.1 U hb e1 e2 (by decide) (by decide) hs, ?_⟩
  exact c_number W hT
theorem cm_nil : CmO 10 x 0 pu K (fun S vs => (S, 0, 0, 0)) := fun d r fu Y T B u b L cu nm ps lc tn cl S O tk U hb e1 e2 W I hT => by
  have hN := W.2.2.1
  have hT' := W.2.2.2
  refine ⟨x_Mach_doConstant (d + 8) 148 10 x (mh r fu Y (T + 0) B u (b + 1) cl S O tk 0 0), fun s' hs => go_const W.1 U hb e1 e2 (by decide) (by decide) hs, ?_⟩
  exact c_nil W hT
theorem cm_text {a : Nat} (ha : a + 1 < K) : CmO 12 (nI a) 0 pu K (fun S vs => (S, 0, pu a, pu (a + 1))) := fun d r fu Y T B u b L cu nm ps lc tn cl S O tk U hb e1 e2 W I hT => by
  have hN := W.2.2.1
  have hT' := W.2.2.2
  refine ⟨x_Mach_doConstant (d + 8) 148 12 (nI a) (mh r fu Y (T + 0) B u (b + 1) cl S O tk 0 0), fun s' hs => go_const W.1 U hb e1 e2 (by decide) (by decide) hs, ?_⟩
  exact c_text W hT U ha
def d_root (S : SC) (y : Int64) : RV := (S, 0, if s_find S.2.2.2.1 S.2.2.2.2.2.2.1 y < 0 then (0, 0) else (S.2.2.2.2.1 (s_find S.2.2.2.1 S.2.2.2.2.2.2.1 y).toNatClampNeg, S.2.2.2.2.2.1 (s_find S.2.2.2.1 S.2.2.2.2.2.2.1 y).toNatClampNeg))
theorem cm_root {a : Nat} (ha : a < K) : CmO 15 (nI a) 0 pu K (fun S vs => d_root S (pu a)) := fun d r fu Y T B u b L cu nm ps lc tn cl S O tk U hb e1 e2 W I hT => by
  have hN := W.2.2.1
  have hT' := W.2.2.2
  refine ⟨x_Mach_doPlace (d + 8) 148 15 (nI a) (mh r fu Y (T + 0) B u (b + 1) cl S O tk 0 0), fun s' hs => go_place W.1 U hb e1 e2 (by decide) (by decide) (by decide) hs, ?_⟩
  exact c_loadR W hT I U ha
theorem cm_size : CmO 23 x 1 pu K (fun S vs => d_size S (vs 0)) := fun d r fu Y T B u b L cu nm ps lc tn cl S O tk U hb e1 e2 W I hT => by
  have hN := W.2.2.1
  have hT' := W.2.2.2
  refine ⟨x_Mach_doObject (d + 8) 148 23 x (mh r fu Y (T + 1) B u (b + 1) cl S O tk 0 0), fun s' hs => go_object W.1 U hb e1 e2 (by decide) (by decide) (by decide) (by decide) hs, ?_⟩
  unfold x_Mach_doObject
  dsimp only
  rw [m_gd0 W.1, if_neg (show ¬ (23 : Int32) = 21 by decide), if_neg (show ¬ (23 : Int32) = 22 by decide), if_pos rfl]
  exact yS1_bnd (yS1_of W (o_size W.1 hN I (by omega)))
theorem cm_pop : CmO 25 x 1 pu K (fun S vs => d_pop S (vs 0)) := fun d r fu Y T B u b L cu nm ps lc tn cl S O tk U hb e1 e2 W I hT => by
  have hN := W.2.2.1
  have hT' := W.2.2.2
  refine ⟨x_Mach_doObject (d + 8) 148 25 x (mh r fu Y (T + 1) B u (b + 1) cl S O tk 0 0), fun s' hs => go_object W.1 U hb e1 e2 (by decide) (by decide) (by decide) (by decide) hs, ?_⟩
  unfold x_Mach_doObject
  dsimp only
  rw [m_gd0 W.1, if_neg (show ¬ (25 : Int32) = 21 by decide), if_neg (show ¬ (25 : Int32) = 22 by decide), if_neg (show ¬ (25 : Int32) = 23 by decide), if_neg (show ¬ (25 : Int32) = 24 by decide)]
  exact yS1_bnd (yS1_of W (o_pop W.1 hN I (by omega)))
theorem cm_push : CmO 24 x 2 pu K (fun S vs => d_push S (vs 0) (vs 1)) := fun d r fu Y T B u b L cu nm ps lc tn cl S O tk U hb e1 e2 W I hT => by
  have hN := W.2.2.1
  have hT' := W.2.2.2
  refine ⟨x_Mach_doObject (d + 8) 148 24 x (mh r fu Y (T + 2) B u (b + 1) cl S O tk 0 0), fun s' hs => go_object W.1 U hb e1 e2 (by decide) (by decide) (by decide) (by decide) hs, ?_⟩
  unfold x_Mach_doObject
  dsimp only
  rw [m_gd0 W.1, if_neg (show ¬ (24 : Int32) = 21 by decide), if_neg (show ¬ (24 : Int32) = 22 by decide), if_neg (show ¬ (24 : Int32) = 23 by decide), if_pos rfl]
  exact yS1_bnd (yS1_of (W.le (by omega)) (o_push W.1 hN I (by omega)))
theorem cm_row {m : Nat} : CmO 22 (nI m) m pu K (fun S vs => d_row S m vs) := fun d r fu Y T B u b L cu nm ps lc tn cl S O tk U hb e1 e2 W I hT => by
  have hN := W.2.2.1
  have hT' := W.2.2.2
  refine ⟨x_Mach_doObject (d + 8) 148 22 (nI m) (mh r fu Y (T + m) B u (b + 1) cl S O tk 0 0), fun s' hs => go_object W.1 U hb e1 e2 (by decide) (by decide) (by decide) (by decide) hs, ?_⟩
  unfold x_Mach_doObject
  dsimp only
  rw [m_gd0 W.1, if_neg (show ¬ (22 : Int32) = 21 by decide), if_pos rfl]
  exact yS1_bnd (c_row W I hT)
theorem cm_rec {m : Nat} : CmO 21 (nI m) (2 * m) pu K (fun S vs => d_rec S m (fun i => (vs (2 * i)).1) (fun i => vs (2 * i + 1))) := fun d r fu Y T B u b L cu nm ps lc tn cl S O tk U hb e1 e2 W I hT => by
  have hN := W.2.2.1
  have hT' := W.2.2.2
  refine ⟨x_Mach_doObject (d + 8) 148 21 (nI m) (mh r fu Y (T + (2 * m)) B u (b + 1) cl S O tk 0 0), fun s' hs => go_object W.1 U hb e1 e2 (by decide) (by decide) (by decide) (by decide) hs, ?_⟩
  unfold x_Mach_doObject
  dsimp only
  rw [m_gd0 W.1, if_pos rfl]
  exact yS1_bnd (c_rec W I hT)
theorem cm_field {a : Nat} (ha : a < K) : CmO 17 (nI a) 1 pu K (fun S vs => d_field S (pu a) (vs 0)) := fun d r fu Y T B u b L cu nm ps lc tn cl S O tk U hb e1 e2 W I hT => by
  have hN := W.2.2.1
  have hT' := W.2.2.2
  refine ⟨x_Mach_doPlace (d + 8) 148 17 (nI a) (mh r fu Y (T + 1) B u (b + 1) cl S O tk 0 0), fun s' hs => go_place W.1 U hb e1 e2 (by decide) (by decide) (by decide) hs, ?_⟩
  unfold x_Mach_doPlace
  dsimp only
  rw [m_gd0 W.1, k_bY1 W, bnd_some, if_neg (show ¬ (17 : Int32) = 13 by decide), if_neg (show ¬ (17 : Int32) = 14 by decide), if_neg (show ¬ (17 : Int32) = 15 by decide), if_neg (show ¬ (17 : Int32) = 16 by decide), if_pos rfl]
  rw [m_g4 W.1, Option.bind_some, u_ct W.1 U ha, bnd_some]
  exact yS1_bnd (yS1_of W (o_field W.1 hN I (by omega)))
theorem cm_item : CmO 19 x 2 pu K (fun S vs => d_item S (vs 0) (vs 1)) := fun d r fu Y T B u b L cu nm ps lc tn cl S O tk U hb e1 e2 W I hT => by
  have hN := W.2.2.1
  have hT' := W.2.2.2
  refine ⟨x_Mach_doPlace (d + 8) 148 19 x (mh r fu Y (T + 2) B u (b + 1) cl S O tk 0 0), fun s' hs => go_place W.1 U hb e1 e2 (by decide) (by decide) (by decide) hs, ?_⟩
  unfold x_Mach_doPlace
  dsimp only
  rw [m_gd0 W.1, k_bY1 W, bnd_some, if_neg (show ¬ (19 : Int32) = 13 by decide), if_neg (show ¬ (19 : Int32) = 14 by decide), if_neg (show ¬ (19 : Int32) = 15 by decide), if_neg (show ¬ (19 : Int32) = 16 by decide), if_neg (show ¬ (19 : Int32) = 17 by decide), if_neg (show ¬ (19 : Int32) = 18 by decide), if_pos rfl]
  exact yS1_bnd (yS1_of (W.le (by omega)) (o_item W.1 hN I (by omega)))
theorem cm_minus : CmO 26 x 1 pu K (fun S vs => d_minus S (vs 0)) := fun d r fu Y T B u b L cu nm ps lc tn cl S O tk U hb e1 e2 W I hT => by
  have hN := W.2.2.1
  have hT' := W.2.2.2
  refine ⟨x_Mach_doReckoning (d + 8) 148 26 (mh r fu Y (T + 1) B u (b + 1) cl S O tk 0 0), fun s' hs => go_reck W.1 U hb e1 e2 (by decide) (by decide) (by decide) (by decide) hs, ?_⟩
  exact yS1_of W (o_minus W.1 hN (by omega))
theorem cm_not : CmO 27 x 1 pu K (fun S vs => d_not S (vs 0)) := fun d r fu Y T B u b L cu nm ps lc tn cl S O tk U hb e1 e2 W I hT => by
  have hN := W.2.2.1
  have hT' := W.2.2.2
  refine ⟨x_Mach_doReckoning (d + 8) 148 27 (mh r fu Y (T + 1) B u (b + 1) cl S O tk 0 0), fun s' hs => go_reck W.1 U hb e1 e2 (by decide) (by decide) (by decide) (by decide) hs, ?_⟩
  exact yS1_of W (o_not W.1 hN (by omega))
theorem cm_same : CmO 28 x 2 pu K (fun S vs => d_same S true (vs 0) (vs 1)) := fun d r fu Y T B u b L cu nm ps lc tn cl S O tk U hb e1 e2 W I hT => by
  have hN := W.2.2.1
  have hT' := W.2.2.2
  refine ⟨x_Mach_doReckoning (d + 8) 148 28 (mh r fu Y (T + 2) B u (b + 1) cl S O tk 0 0), fun s' hs => go_reck W.1 U hb e1 e2 (by decide) (by decide) (by decide) (by decide) hs, ?_⟩
  exact yS1_of (W.le (by omega)) (o_same W.1 hN (by omega))
theorem cm_unlike : CmO 29 x 2 pu K (fun S vs => d_same S false (vs 0) (vs 1)) := fun d r fu Y T B u b L cu nm ps lc tn cl S O tk U hb e1 e2 W I hT => by
  have hN := W.2.2.1
  have hT' := W.2.2.2
  refine ⟨x_Mach_doReckoning (d + 8) 148 29 (mh r fu Y (T + 2) B u (b + 1) cl S O tk 0 0), fun s' hs => go_reck W.1 U hb e1 e2 (by decide) (by decide) (by decide) (by decide) hs, ?_⟩
  exact yS1_of (W.le (by omega)) (o_unlike W.1 hN (by omega))
theorem cm_less : CmO 30 x 2 pu K (fun S vs => d_cmp S false (vs 0) (vs 1)) := fun d r fu Y T B u b L cu nm ps lc tn cl S O tk U hb e1 e2 W I hT => by
  have hN := W.2.2.1
  have hT' := W.2.2.2
  refine ⟨x_Mach_doReckoning (d + 8) 148 30 (mh r fu Y (T + 2) B u (b + 1) cl S O tk 0 0), fun s' hs => go_reck W.1 U hb e1 e2 (by decide) (by decide) (by decide) (by decide) hs, ?_⟩
  exact yS1_of (W.le (by omega)) (o_less W.1 hN (by omega))
theorem cm_atMost : CmO 31 x 2 pu K (fun S vs => d_cmp S true (vs 0) (vs 1)) := fun d r fu Y T B u b L cu nm ps lc tn cl S O tk U hb e1 e2 W I hT => by
  have hN := W.2.2.1
  have hT' := W.2.2.2
  refine ⟨x_Mach_doReckoning (d + 8) 148 31 (mh r fu Y (T + 2) B u (b + 1) cl S O tk 0 0), fun s' hs => go_reck W.1 U hb e1 e2 (by decide) (by decide) (by decide) (by decide) hs, ?_⟩
  exact yS1_of (W.le (by omega)) (o_atMost W.1 hN (by omega))
theorem cm_reck {op : Int32} (ho : op = 32 ∨ op = 33 ∨ op = 34 ∨ op = 35 ∨ op = 36) : CmO op x 2 pu K (fun S vs => d_reck S op (vs 0) (vs 1)) := fun d r fu Y T B u b L cu nm ps lc tn cl S O tk U hb e1 e2 W I hT => by
  have hN := W.2.2.1
  have hT' := W.2.2.2
  have q : 9 < op ∧ 12 < op ∧ 20 < op ∧ 25 < op := by
    rcases ho with rfl | rfl | rfl | rfl | rfl <;> decide
  refine ⟨x_Mach_doReckoning (d + 8) 148 op (mh r fu Y (T + 2) B u (b + 1) cl S O tk 0 0), fun s' hs => go_reck W.1 U hb e1 e2 q.1 q.2.1 q.2.2.1 q.2.2.2 hs, ?_⟩
  exact yS1_of (W.le (by omega)) (o_reck W.1 hN (by omega) ho)
/-- a command that takes the n uppermost VALUES away -/
def CmS (op x : Int32) (n : Nat) (pu : Nat → Int64) (K : Nat) (Fo : SC → (Nat → V2) → SC × Int32) : Prop := ∀ (d r : Nat) (fu : Int32) (Y : MY) (T B u b L : Nat) (cu : Nat → Int32) (nm : Int64) (ps lc tn cl : Nat) (S : SC) (O : oS) (tk : Nat), UU r Y u L cu K pu nm ps lc tn → 2 * b + 1 < L → cu (2 * b) = op → cu (2 * b + 1) = x → yW r (T + n) Y → SI S → ∃ out, (∀ s', out = some ((), s') → Go d 1 (mh r fu Y (T + n) B u b cl S O tk 0 0) s') ∧ yS0 r fu Y T B u (b + 1) cl O tk out (Fo S (fun i => yV Y (T + i)))
theorem cs_root {a : Nat} (ha : a < K) : CmS 16 (nI a) 1 pu K (fun S vs => d_stR S (pu a) (vs 0)) := fun d r fu Y T B u b L cu nm ps lc tn cl S O tk U hb e1 e2 W I => by
  have hN := W.2.2.1
  have hT' := W.2.2.2
  refine ⟨x_Mach_doPlace (d + 8) 148 16 (nI a) (mh r fu Y (T + 1) B u (b + 1) cl S O tk 0 0), fun s' hs => go_place W.1 U hb e1 e2 (by decide) (by decide) (by decide) hs, ?_⟩
  exact c_storeR W I U ha
theorem cs_field {a : Nat} (ha : a < K) : CmS 18 (nI a) 2 pu K (fun S vs => d_stF S (pu a) (vs 0) (vs 1)) := fun d r fu Y T B u b L cu nm ps lc tn cl S O tk U hb e1 e2 W I => by
  have hN := W.2.2.1
  have hT' := W.2.2.2
  refine ⟨x_Mach_doPlace (d + 8) 148 18 (nI a) (mh r fu Y (T + 2) B u (b + 1) cl S O tk 0 0), fun s' hs => go_place W.1 U hb e1 e2 (by decide) (by decide) (by decide) hs, ?_⟩
  unfold x_Mach_doPlace
  dsimp only
  rw [m_gd0 W.1, k_bY1 W, bnd_some, if_neg (show ¬ (18 : Int32) = 13 by decide), if_neg (show ¬ (18 : Int32) = 14 by decide), if_neg (show ¬ (18 : Int32) = 15 by decide), if_neg (show ¬ (18 : Int32) = 16 by decide), if_neg (show ¬ (18 : Int32) = 17 by decide), if_pos rfl]
  rw [m_g4 W.1, Option.bind_some, u_ct W.1 U ha, bnd_some]
  exact yS0_bnd (yS0_of (W.le (by omega)) (o_stF W.1 hN I (by omega)))
theorem cs_item : CmS 20 x 3 pu K (fun S vs => d_stI S (vs 0) (vs 1) (vs 2)) := fun d r fu Y T B u b L cu nm ps lc tn cl S O tk U hb e1 e2 W I => by
  have hN := W.2.2.1
  have hT' := W.2.2.2
  refine ⟨x_Mach_doPlace (d + 8) 148 20 x (mh r fu Y (T + 3) B u (b + 1) cl S O tk 0 0), fun s' hs => go_place W.1 U hb e1 e2 (by decide) (by decide) (by decide) hs, ?_⟩
  unfold x_Mach_doPlace
  dsimp only
  rw [m_gd0 W.1, k_bY1 W, bnd_some, if_neg (show ¬ (20 : Int32) = 13 by decide), if_neg (show ¬ (20 : Int32) = 14 by decide), if_neg (show ¬ (20 : Int32) = 15 by decide), if_neg (show ¬ (20 : Int32) = 16 by decide), if_neg (show ¬ (20 : Int32) = 17 by decide), if_neg (show ¬ (20 : Int32) = 18 by decide), if_neg (show ¬ (20 : Int32) = 19 by decide)]
  exact yS0_bnd (yS0_of (W.le (by omega)) (o_stI W.1 hN I (by omega)))
theorem cs_drop : CmS 8 x 1 pu K (fun S vs => (S, 0)) := fun d r fu Y T B u b L cu nm ps lc tn cl S O tk U hb e1 e2 W I => by
  have hN := W.2.2.1
  have hT' := W.2.2.2
  refine ⟨x_Mach_doFlow (d + 8) 148 8 x (mh r fu Y (T + 1) B u (b + 1) cl S O tk 0 0), fun s' hs => go_flow W.1 U hb e1 e2 (by decide) hs, ?_⟩
  rw [o_drop W.1 hN (by omega) (by omega)]
  exact yS0_of (W.le (by omega)) Op0.ok
end
