/-- what is left: the law's loop, as a function of the heap behind the two constructors, answers 1 and keeps within the room -/
def PURE : Prop := ∀ (L : Nat) (xs : Nat → Int32) (X : Nat → am_C) (aL : Nat → Int64), L ≤ 3072 → (∀ i, i < 12 → aL i = Int64.ofNat (C128 8 (RWL.getD i []))) → ∃ t : HS, x_Law xs L 1299 0 (1311, p1_f X aL, 0) = some (1, t) ∧ t.1 ≤ 100000 ∧ t.2.2 ≤ 6000000
section
variable {K : am_K} {X : Nat → am_C}
set_option maxRecDepth 100000 in
set_option maxHeartbeats 4000000 in
theorem wh_start {kc ks : Nat} (hc : 100000 ≤ kc) (hs : 6700000 ≤ ks) (HP : PURE) (O : am_ok K X) (T2 : am_T2 K) {tx : String} (Z : vk_R "StowTongue$Lexer" 19 tx (am_ad K 2) K.1) (S : am_str K 2 59 (fun j => WDB.getD j 0)) {nm : String} {L : Nat} {xs : Nat → Int32} (hL : L ≤ 3072) (XS : va_T .int (am_ad K 0) L (fun j => .int (xs j)) (am_A K) K.1 K.1.heap) : am_W K X (m_Law_law nm) 1300 kc ks 0 0 0 [(0, .ref 0)] [] (128, X) (fun v _ => v = some (.int 1)) := by
  refine am_new O n_Law_7 d_Law_law_0 (by omega) (by omega) ?_
  refine am_dup d_Law_law_3 rfl ?_
  refine am_callI O (c_Stow_init2 O T2.1.1 Z S (va_up_self _ _ _) (by omega) (by omega)) rfl l_Law_9 w_174 rfl rfl rfl (Nat.le_of_ble_eq_true rfl) d_Law_law_4 (by omega) (by omega) (by omega) (fun v h' hp => ?_)
  obtain ⟨rfl, aL, hw, rfl⟩ := hp
  refine am_astore_n d_Law_law_7 rfl (Nat.le_of_ble_eq_true rfl) ?_
  refine am_new O n_Law_10 d_Law_law_8 (by omega) (by omega) ?_
  refine am_dup d_Law_law_11 rfl ?_
  refine am_callI O (c_Mod_init O (va_up_self _ _ _) (by omega) (by omega)) rfl l_Law_12 w_1486 rfl rfl rfl (Nat.le_of_ble_eq_true rfl) d_Law_law_12 (by omega) (by omega) (by omega) (fun v h' hp => ?_)
  obtain ⟨rfl, rfl⟩ := hp
  refine am_astore_n d_Law_law_15 rfl (Nat.le_of_ble_eq_true rfl) ?_
  refine am_iconst (v := 0) d_Law_law_16 (by decide) ?_
  refine am_istore_n d_Law_law_17 rfl (Nat.le_of_ble_eq_true rfl) ?_
  refine am_locs (lv' := [(0, .ref 0), (1, .ref 128), (2, .ref 160), (3, .int 0)]) rfl ?_
  show am_W K X (m_Law_law nm) 1300 kc ks 1183 601315 18 [(0, .ref 0), (1, .ref 128), (2, .ref 160), (3, .int 0)] [] (1311, p1_f X aL) _
  obtain ⟨t, e, h1, h2⟩ := HP L xs X aL hL (fun i hi => by rw [hw]; exact WDB_eq i hi)
  have k := (dx_Law (d := 1299) O T2 (nm := nm) XS (i := 0) (s := (1311, p1_f X aL, 0))) 1 t e
  refine am_post (fun v h' hp => ?_) (k.2.2 kc ks 1183 601315 (by show t.1 + 1183 ≤ kc + 1311; omega) (by show t.2.2 + 601315 ≤ ks + 0; omega))
  rw [hp.1]
  rfl
end
