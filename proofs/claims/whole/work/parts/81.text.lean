abbrev oS : Type := Nat × Int32 × (Nat → Int32)
def s_add (s : oS) (x : Int32) : oS := (if s.1 < 600 then s.1 + 1 else s.1, if s.1 < 600 then s.2.1 else 1, if s.1 < 600 then upI s.2.2 s.1 x.toInt8.toInt32 else s.2.2)
def s_at (x0 x1 : Int64) : Nat → Nat → oS → oS
  | 0, _, s => s
  | m + 1, i, s => s_at x0 x1 m (i + 1) (s_add s (s_Cell_signAt x0 x1 (nI i)))
theorem s_so_le {x0 x1 : Int64} : ∀ m i : Nat, i + m = 16 → ∃ L : Nat, L ≤ 16 ∧ s_so x0 x1 m i = nI L
  | 0, _, _ => ⟨16, by omega, rfl⟩
  | m + 1, i, e => by
    by_cases c : s_Cell_signAt x0 x1 (nI i) = 0
    · exact ⟨i, by omega, by rw [s_so, if_pos c]⟩
    · obtain ⟨L, h1, h2⟩ := s_so_le (x0 := x0) (x1 := x1) m (i + 1) (by omega)
      exact ⟨L, h1, by rw [s_so, if_neg c]; exact h2⟩
/-- how many signs, as a number -/
def s_signs (x0 x1 : Int64) : Nat := (s_Cell_signsOf x0 x1).toNatClampNeg
theorem s_signs_eq {x0 x1 : Int64} : s_Cell_signsOf x0 x1 = nI (s_signs x0 x1) ∧ s_signs x0 x1 ≤ 16 := by
  obtain ⟨L, h1, h2⟩ := s_so_le (x0 := x0) (x1 := x1) 16 0 rfl
  have h3 : s_Cell_signsOf x0 x1 = nI L := h2
  have h4 : s_signs x0 x1 = L := by rw [s_signs, h3, nI_clamp (by omega)]
  rw [h4]
  exact ⟨h3, h1⟩
section
variable {K : am_K} {X : Nat → am_C}
set_option maxRecDepth 100000 in
set_option maxHeartbeats 1000000 in
theorem g_Out_addText (O : am_ok K X) {n r : Nat} {s : oS} {f : Nat → am_C} (V : oR f r s.1 s.2.1 s.2.2) (h1 : 128 ≤ r) (h2 : r + 1 < n) {x0 x1 : Int64} : am_Mt K X m_Out_addText 2 0 0 [.ref r, .long x0, .long x1] (n, f) (fun v h' => v = none ∧ ∃ f', h' = (n, f') ∧ oR f' r (s_at x0 x1 (s_signs x0 x1) 0 s).1 (s_at x0 x1 (s_signs x0 x1) 0 s).2.1 (s_at x0 x1 (s_signs x0 x1) 0 s).2.2 ∧ ∀ x, x ≠ r ∧ x ≠ r + 1 → f' x = f x) := by
  refine am_enter (by decide +kernel) (Nat.le_of_ble_eq_true rfl) ?_
  refine am_lload_n d_Out_addText_0 rfl rfl ?_
  refine am_lload_n d_Out_addText_1 rfl rfl ?_
  refine am_callS O (g_Cell_signsOf O) rfl l_Out_23 w_1161 rfl (Nat.le_of_ble_eq_true rfl) d_Out_addText_2 (by omega) (by omega) (by omega) (fun v h' hp => ?_)
  obtain ⟨rfl, rfl⟩ := hp
  refine am_istore d_Out_addText_5 (Nat.le_of_ble_eq_true rfl) ?_
  refine am_iconst (v := 0) d_Out_addText_7 (by decide) ?_
  refine am_istore d_Out_addText_8 (Nat.le_of_ble_eq_true rfl) ?_
  obtain ⟨eS, lS⟩ := s_signs_eq (x0 := x0) (x1 := x1)
  generalize s_signs x0 x1 = L at eS lS ⊢
  have key : ∀ (m i : Nat) (f : Nat → am_C) (s : oS), i + m = L → oR f r s.1 s.2.1 s.2.2 → am_W K X m_Out_addText 2 0 0 0 0 10 [(0, .ref r), (1, .long x0), (3, .long x1), (5, .int (nI L)), (6, .int (nI i))] [] (n, f) (fun v h' => v = none ∧ ∃ f', h' = (n, f') ∧ oR f' r (s_at x0 x1 m i s).1 (s_at x0 x1 m i s).2.1 (s_at x0 x1 m i s).2.2 ∧ ∀ x, x ≠ r ∧ x ≠ r + 1 → f' x = f x) := by
    intro m
    induction m with
    | zero =>
      intro i f s e V
      obtain rfl : i = L := e
      refine am_iload d_Out_addText_10 rfl ?_
      refine am_iload d_Out_addText_12 rfl ?_
      refine am_icmp_ge (tgt := 34) d_Out_addText_14 (by decide) (fun _ => ?_) (fun c => absurd (Int32.le_refl _) c)
      exact am_vret rfl d_Out_addText_34 ⟨rfl, f, rfl, V, fun _ _ => rfl⟩
    | succ m ih =>
      intro i f s e V
      refine am_iload d_Out_addText_10 rfl ?_
      refine am_iload d_Out_addText_12 rfl ?_
      refine am_icmp_ge (tgt := 34) d_Out_addText_14 (by decide) (fun c => absurd c (nI_ge (a := i) (b := L) (by omega) (by omega))) (fun _ => ?_)
      refine am_aload_n d_Out_addText_17 rfl rfl ?_
      refine am_lload_n d_Out_addText_18 rfl rfl ?_
      refine am_lload_n d_Out_addText_19 rfl rfl ?_
      refine am_iload d_Out_addText_20 rfl ?_
      refine am_callS O g_Cell_signAt rfl l_Out_29 w_1164 rfl (Nat.le_of_ble_eq_true rfl) d_Out_addText_22 (by omega) (by omega) (by omega) (fun v h' hp => ?_)
      obtain ⟨rfl, rfl⟩ := hp
      refine am_callV O (g_Out_add O V h1 h2) rfl V.1 (by omega) (by omega) rfl rfl l_Out_33 ⟨w_1148, w_1149⟩ rfl (Nat.le_of_ble_eq_true rfl) d_Out_addText_25 (by omega) (by omega) (by omega) (fun v h' hp => ?_)
      obtain ⟨rfl, f1, rfl, V1, hf1⟩ := hp
      refine am_iinc (v := 1) d_Out_addText_28 rfl (by decide) (Nat.le_of_ble_eq_true rfl) ?_
      refine am_goto (tgt := 10) d_Out_addText_31 (by decide) ?_
      refine am_locs (lv' := [(0, .ref r), (1, .long x0), (3, .long x1), (5, .int (nI L)), (6, .int (nI (i + 1)))]) (by rw [nI_succ]; rfl) ?_
      refine am_post (fun v h' hp => ?_) (ih (i + 1) f1 (s_add s (s_Cell_signAt x0 x1 (nI i))) (by omega) V1)
      obtain ⟨a1, f', a2, a3, a4⟩ := hp
      exact ⟨a1, f', a2, a3, fun x hx => (a4 x hx).trans (hf1 x hx)⟩
  refine am_locs (lv' := [(0, .ref r), (1, .long x0), (3, .long x1), (5, .int (nI L)), (6, .int (nI 0))]) (by rw [← eS]; rfl) ?_
  exact key L 0 f s (Nat.zero_add L) V
end
