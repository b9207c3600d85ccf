section
variable {K : am_K} {X : Nat → am_C}
theorem x_eq {x c : Int32} {k : Int} (h : x.toInt = k) (hc : c.toInt = k) : x = c := Int32.toInt_inj.mp (h.trans hc.symm)

set_option maxRecDepth 100000 in
set_option maxHeartbeats 4000000 in
theorem law_start (O : am_ok K X) (E : am_E0 K) {tx : String} (Z : vk_R "StowTongue$Lexer" 19 tx (am_ad K 2) K.1) {Ls : Nat} {g : Nat → Int32} (S : am_str K 2 Ls g) {nm : String} {L : Nat} {xs : Nat → Int32} {post : Option Value → am_H → Prop} (hL : L ≤ 6) (XS : va_T .int (am_ad K 0) L (fun j => .int (xs j)) (am_A K) K.1 K.1.heap) (hpost : ∀ h, post (some (.int 1)) h) : am_W K X (m_Law_law nm) 100 600000 7302250 0 0 0 [(0, .ref 0)] [] (128, X) post := by
  refine am_new O n_Law_7 d_Law_law_0 (by omega) (by omega) ?_
  refine am_dup d_Law_law_3 rfl ?_
  refine am_callI O (c_Stow_init O E Z S (va_up_self _ _ _) (by omega) (by omega)) rfl l_Law_9 w_174 rfl rfl rfl (Nat.le_of_ble_eq_true rfl) d_Law_law_4 (by omega) (by omega) (by omega) (fun v h' hp => ?_)
  obtain ⟨rfl, aL, rfl⟩ := hp
  refine am_astore_n d_Law_law_7 rfl (Nat.le_of_ble_eq_true rfl) ?_
  refine am_new O n_Law_10 d_Law_law_8 (by omega) (by omega) ?_
  refine am_dup d_Law_law_11 rfl ?_
  refine am_callI O (c_Mod_init O (va_up_self _ _ _) (by omega) (by omega)) rfl l_Law_12 w_1486 rfl rfl rfl (Nat.le_of_ble_eq_true rfl) d_Law_law_12 (by omega) (by omega) (by omega) (fun v h' hp => ?_)
  obtain ⟨rfl, rfl⟩ := hp
  refine am_astore_n d_Law_law_15 rfl (Nat.le_of_ble_eq_true rfl) ?_
  refine am_iconst (v := 0) d_Law_law_16 (by decide) ?_
  refine am_istore_n d_Law_law_17 rfl (Nat.le_of_ble_eq_true rfl) ?_
  refine am_locs (lv' := [(0, .ref 0), (1, .ref 128), (2, .ref 160), (3, .int 0)]) rfl ?_
  show am_W K X (m_Law_law nm) 100 600000 7302250 1183 601315 18 [(0, .ref 0), (1, .ref 128), (2, .ref 160), (3, .int 0)] [] (1311, p1_f X aL) post
  refine am_iload_n d_Law_law_18 rfl rfl ?_
  refine am_aload_n d_Law_law_19 rfl rfl ?_
  refine am_alenE XS d_Law_law_20 ?_
  refine am_bipush (v := 6) d_Law_law_21 (by decide) ?_
  refine am_isub d_Law_law_23 ?_
  by_cases h6 : L = 6
  · subst h6
    refine am_topi (v := 0) (by decide) ?_
    refine am_icmp_gt (tgt := 326) d_Law_law_24 (by decide) (fun c => absurd c (by decide)) (fun _ => ?_)
    refine am_aload_n d_Law_law_27 rfl rfl ?_
    refine am_iload_n d_Law_law_28 rfl rfl ?_
    refine am_ialdE (f := fun j => .int (xs j)) (v := .int (xs 0)) XS d_Law_law_29 (am_in (by decide) (by decide)) rfl ?_
    refine am_bipush (v := 15) d_Law_law_30 (by decide) ?_
    refine am_iand d_Law_law_32 ?_
    obtain ⟨j, hj, ej⟩ := pk_andE (xs 0) (m := 15) 4 (by decide)
    refine am_topi (v := nI j) ej ?_
    by_cases h10 : j < 10
    · rcases (show j = 0 ∨ j = 1 ∨ j = 2 ∨ j = 3 ∨ j = 4 ∨ j = 5 ∨ j = 6 ∨ j = 7 ∨ j = 8 ∨ j = 9 by omega) with rfl | rfl | rfl | rfl | rfl | rfl | rfl | rfl | rfl | rfl
      · refine am_tableIn (off := 55) (tgt := 88) d_Law_law_33 (by decide) (by decide) rfl (by decide) ?_
        exact law_feed O XS hpost
      · refine am_tableIn (off := 118) (tgt := 151) d_Law_law_33 (by decide) (by decide) rfl (by decide) ?_
        rcases (show (xs 1).toInt < 0 ∨ (xs 1).toInt = 0 ∨ 0 < (xs 1).toInt by omega) with hx | hx | hx
        · exact law_endn O XS hx hpost
        · exact law_end0 O XS (x_eq hx (by decide)) hpost
        · exact law_endp O XS hx hpost
      · refine am_tableIn (off := 141) (tgt := 174) d_Law_law_33 (by decide) (by decide) rfl (by decide) ?_
        rcases (show (xs 1).toInt < 0 ∨ (0 ≤ (xs 1).toInt ∧ (xs 1).toInt ≤ 2000) ∨ 2000 < (xs 1).toInt by omega) with hx | hx | hx
        · exact law_runn O XS hx hpost
        · exact law_run O XS hx hpost
        · exact law_runp O XS hx hpost
      · refine am_tableIn (off := 164) (tgt := 197) d_Law_law_33 (by decide) (by decide) rfl (by decide) ?_
        exact law_value O XS hpost
      · refine am_tableIn (off := 178) (tgt := 211) d_Law_law_33 (by decide) (by decide) rfl (by decide) ?_
        rcases (show (xs 1).toInt < -1 ∨ (xs 1).toInt = -1 ∨ -1 < (xs 1).toInt by omega) with hx | hx | hx
        · exact law_octn O XS hx hpost
        · exact law_octm O XS (x_eq hx (by decide)) hpost
        · exact law_octp O XS hx hpost
      · refine am_tableIn (off := 201) (tgt := 234) d_Law_law_33 (by decide) (by decide) rfl (by decide) ?_
        exact law_root O XS hpost
      · refine am_tableIn (off := 215) (tgt := 248) d_Law_law_33 (by decide) (by decide) rfl (by decide) ?_
        exact law_sync O XS hpost
      · refine am_tableIn (off := 228) (tgt := 261) d_Law_law_33 (by decide) (by decide) rfl (by decide) ?_
        rcases (show (xs 1).toInt < 0 ∨ 0 ≤ (xs 1).toInt by omega) with hx | hx
        · exact law_crashn O XS hx hpost
        · exact law_crashp O XS hx hpost
      · refine am_tableIn (off := 251) (tgt := 284) d_Law_law_33 (by decide) (by decide) rfl (by decide) ?_
        exact law_sweep O XS hpost
      · refine am_tableIn (off := 264) (tgt := 297) d_Law_law_33 (by decide) (by decide) rfl (by decide) ?_
        rcases (show ((xs 1).toInt < 0 ∨ 7 < (xs 1).toInt) ∨ (xs 1).toInt = 0 ∨ (xs 1).toInt = 1 ∨ (xs 1).toInt = 2 ∨ (xs 1).toInt = 3 ∨ (xs 1).toInt = 4 ∨ (xs 1).toInt = 5 ∨ (xs 1).toInt = 6 ∨ (xs 1).toInt = 7 by omega) with hx | hx | hx | hx | hx | hx | hx | hx | hx
        · exact law_countx O XS hx hpost
        · exact law_count0 O XS (x_eq hx (by decide)) hpost
        · exact law_count1 O XS (x_eq hx (by decide)) hpost
        · exact law_count2 O XS (x_eq hx (by decide)) hpost
        · exact law_count3 O XS (x_eq hx (by decide)) hpost
        · exact law_count4 O XS (x_eq hx (by decide)) hpost
        · exact law_count5 O XS (x_eq hx (by decide)) hpost
        · exact law_count6 O XS (x_eq hx (by decide)) hpost
        · exact law_count7 O XS (x_eq hx (by decide)) hpost
    · refine am_tableOut (tgt := 320) d_Law_law_33 (Or.inr (by rw [nI_toInt (by omega)]; omega)) (by decide) ?_
      exact law_end O XS (hpost _)
  · refine am_icmp_gt (tgt := 326) d_Law_law_24 (by decide) (fun _ => ?_) (fun c => absurd (by rcases (show L = 0 ∨ L = 1 ∨ L = 2 ∨ L = 3 ∨ L = 4 ∨ L = 5 by omega) with rfl | rfl | rfl | rfl | rfl | rfl <;> decide) c)
    refine am_iconst (v := 1) d_Law_law_326 (by decide) ?_
    exact am_zret (ty := .boolean) rfl rfl d_Law_law_327 (hpost _)
end
