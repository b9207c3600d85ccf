/-! a token of the class and the same token of the reference -/
def txB (g : Nat → Int32) (q n : Nat) : Prop := ∀ i, i < n → 32 ≤ (g (q + i)).toInt ∧ (g (q + i)).toInt ≤ 126 ∧ (g (q + i)).toInt ≠ 34
def nmX (x : Nat) : Prop := (97 ≤ x ∧ x ≤ 122) ∨ (48 ≤ x ∧ x ≤ 57)
/-- a NAME: a small letter, then small letters and digits -/
def nmW (w : List Nat) : Prop := (∃ x w', w = x :: w' ∧ 97 ≤ x ∧ x ≤ 122) ∧ ∀ x ∈ w, nmX x
theorem bt_nx : ∀ j, j < 256 → (¬ s_Mod_isSmall (bt j) = 0 ∨ ¬ s_Mod_isDigit (bt j) = 0) → ((97 ≤ (bt j).toNatClampNeg ∧ (bt j).toNatClampNeg ≤ 122) ∨ (48 ≤ (bt j).toNatClampNeg ∧ (bt j).toNatClampNeg ≤ 57)) := by decide +kernel
theorem bt_sm : ∀ j, j < 256 → ¬ s_Mod_isSmall (bt j) = 0 → 97 ≤ (bt j).toNatClampNeg ∧ (bt j).toNatClampNeg ≤ 122 := by decide +kernel
def TK (g : Nat → Int32) (L q : Nat) (T : Nat × Int32 × Int32 × Int64 × Int64) (r : Nat × Int32 × Int64) : Prop :=
  (T.2.1 = 1 ∧ r.2.1 = 6) ∨
  (T.1 = r.1 ∧ q ≤ T.1 ∧ T.1 ≤ L ∧
    ((T.2.1 = 0 ∧ r.2.1 = 0 ∧ q = L ∧ T.1 = L) ∨
     (T.2.1 = 2 ∧ r.2.1 = 1 ∧ q < T.1 ∧ T.1 ≤ q + 8 ∧ nmB g q (T.1 - q) ∧ T.2.2.2.1 = Int64.ofNat (C128 8 (nmL g q (T.1 - q))) ∧ nmW (nmL g q (T.1 - q))) ∨
     (T.2.1 = 3 ∧ r.2.1 = 3 ∧ q < T.1 ∧ r.2.2 = T.2.2.1.toInt64 ∧ 0 ≤ T.2.2.1.toInt) ∨
     (T.2.1 = 4 ∧ r.2.1 = 4 ∧ q + 2 ≤ T.1 ∧ T.1 ≤ q + 18 ∧ txB g (q + 1) (T.1 - q - 2) ∧ T.2.2.2 = pcT g (q + 1) (T.1 - q - 2) 0 (s_Cell_headOf 2) 0) ∨
     (∃ e ∈ KT, T.2.1 = e.1 ∧ T.1 = q + e.2.length ∧ nmL g q e.2.length = e.2 ∧ r.2.1 = (if e.1 < 17 then 2 else 5) ∧ ∀ i, i < e.2.length → 0 ≤ (g (q + i)).toInt)))
theorem bt_nm : ∀ j, j < 256 → (¬ s_Mod_isSmall (bt j) = 0 ∨ ¬ s_Mod_isDigit (bt j) = 0) → 48 ≤ (bt j).toInt ∧ (bt j).toInt ≤ 122 := by decide +kernel
theorem bt_tx : ∀ j, j < 256 → ¬ bt j = 34 → ¬ s_Mod_in (bt j).toInt64 32 126 = 0 → 32 ≤ (bt j).toInt ∧ (bt j).toInt ≤ 126 ∧ (bt j).toInt ≠ 34 := by decide +kernel
theorem kt_w : ∀ i, i < 12 → ((5 + nI i, RWL.getD i []) : Int32 × List Nat) ∈ KT ∧ 5 + nI i < 17 ∧ wkF (RWL.getD i []) 12 0 = 5 + nI i := by decide +kernel
theorem kt_1 : ∀ j, j < 256 → ¬ r_one (bt j) = 0 → ((bt j &&& 255, [(bt j).toNatClampNeg]) : Int32 × List Nat) ∈ KT ∧ ¬ (bt j &&& 255) < 17 ∧ 0 ≤ (bt j).toInt := by decide +kernel
theorem kt_2f : ∀ j, j < 256 → ¬ rt3 (bt j) true false = 0 → ((pk3 (bt j &&& 255) true false, [(bt j).toNatClampNeg, 61]) : Int32 × List Nat) ∈ KT ∧ ¬ pk3 (bt j &&& 255) true false < 17 ∧ 0 ≤ (bt j).toInt := by decide +kernel
theorem kt_2 : ∀ j, j < 256 → ∀ b : Bool, (b = true → bt j = 61) → ¬ rt3 (bt j) true b = 0 → ((pk3 (bt j &&& 255) true b, [(bt j).toNatClampNeg, 61]) : Int32 × List Nat) ∈ KT ∧ ¬ pk3 (bt j &&& 255) true b < 17 ∧ 0 ≤ (bt j).toInt := by
  intro j hj b hb h
  cases b with
  | false => exact kt_2f j hj h
  | true =>
    rw [hb rfl]
    decide +kernel
theorem kt_3 : ∀ j, j < 256 → ¬ rt3 (bt j) false true = 0 → ((pk3 (bt j &&& 255) false true, [(bt j).toNatClampNeg, (bt j).toNatClampNeg]) : Int32 × List Nat) ∈ KT ∧ ¬ pk3 (bt j &&& 255) false true < 17 ∧ 0 ≤ (bt j).toInt := by decide +kernel
theorem wkF_none {w : List Nat} : ∀ m i, i + m = 12 → (∀ k, k < 12 → w ≠ RWL.getD k []) → wkF w m i = 2
  | 0, _, _, _ => rfl
  | m + 1, i, h, hn => by rw [wkF, if_neg (hn i (by omega)), wkF_none m (i + 1) (by omega) hn]
section
variable {g : Nat → Int32} {L : Nat}
theorem r_nm_all (hb : ∀ j, j < L → isBt (g j)) : ∀ m p, p + m = L → ∀ i, p ≤ i → i < r_nm g m p → 48 ≤ (g i).toInt ∧ (g i).toInt ≤ 122
  | 0, p, _, i, h1, h2 => by rw [r_nm] at h2; omega
  | m + 1, p, h, i, h1, h2 => by
    rw [r_nm] at h2
    by_cases e : i = p
    · subst e
      obtain ⟨j, hj, e⟩ := bt_of (hb i (by omega))
      rw [e] at h2 ⊢
      by_cases c1 : s_Mod_isSmall (bt j) = 0
      · by_cases c2 : s_Mod_isDigit (bt j) = 0
        · rw [if_pos c1, if_pos c2] at h2
          omega
        · exact bt_nm j hj (Or.inr c2)
      · exact bt_nm j hj (Or.inl c1)
    · split at h2
      · split at h2
        · omega
        · exact r_nm_all hb m (p + 1) (by omega) i (by omega) h2
      · exact r_nm_all hb m (p + 1) (by omega) i (by omega) h2
theorem r_tx_all (hb : ∀ j, j < L → isBt (g j)) : ∀ m p, p + m = L → ∀ i, p ≤ i → i < r_tx g m p → 32 ≤ (g i).toInt ∧ (g i).toInt ≤ 126 ∧ (g i).toInt ≠ 34
  | 0, p, _, i, h1, h2 => by rw [r_tx] at h2; omega
  | m + 1, p, h, i, h1, h2 => by
    rw [r_tx] at h2
    by_cases e : i = p
    · subst e
      obtain ⟨j, hj, e⟩ := bt_of (hb i (by omega))
      rw [e] at h2 ⊢
      by_cases c1 : bt j = 34
      · rw [if_pos c1] at h2
        omega
      · by_cases c2 : s_Mod_in (bt j).toInt64 32 126 = 0
        · rw [if_neg c1, if_pos c2] at h2
          omega
        · exact bt_tx j hj c1 c2
    · split at h2
      · omega
      · split at h2
        · omega
        · exact r_tx_all hb m (p + 1) (by omega) i (by omega) h2
theorem r_nm_w (hb : ∀ j, j < L → isBt (g j)) : ∀ m p, p + m = L → ∀ i, p ≤ i → i < r_nm g m p → nmX (g i).toNatClampNeg
  | 0, p, _, i, h1, h2 => by rw [r_nm] at h2; omega
  | m + 1, p, h, i, h1, h2 => by
    rw [r_nm] at h2
    by_cases e : i = p
    · subst e
      obtain ⟨j, hj, e⟩ := bt_of (hb i (by omega))
      rw [e] at h2 ⊢
      by_cases c1 : s_Mod_isSmall (bt j) = 0
      · by_cases c2 : s_Mod_isDigit (bt j) = 0
        · rw [if_pos c1, if_pos c2] at h2
          omega
        · exact bt_nx j hj (Or.inr c2)
      · exact bt_nx j hj (Or.inl c1)
    · split at h2
      · split at h2
        · omega
        · exact r_nm_w hb m (p + 1) (by omega) i (by omega) h2
      · exact r_nm_w hb m (p + 1) (by omega) i (by omega) h2
theorem nmW_of {q n : Nat} (hn : 1 ≤ n) (h0 : 97 ≤ (g q).toNatClampNeg ∧ (g q).toNatClampNeg ≤ 122) (h : ∀ i, i < n → nmX (g (q + i)).toNatClampNeg) : nmW (nmL g q n) := by
  refine ⟨?_, fun x hx => ?_⟩
  · obtain ⟨m, rfl⟩ : ∃ m, n = m + 1 := ⟨n - 1, by omega⟩
    exact ⟨_, _, rfl, h0.1, h0.2⟩
  · rw [nmL_map] at hx
    obtain ⟨i, hi, rfl⟩ := List.mem_map.mp hx
    exact h i (List.mem_range.mp hi)
theorem okL_nm {q n : Nat} (h : nmB g q n) : okL (nmL g q n) := by
  intro x hx
  rw [nmL_map] at hx
  obtain ⟨i, hi, rfl⟩ := List.mem_map.mp hx
  have := h i (List.mem_range.mp hi)
  show 1 ≤ (g (q + i)).toInt.toNat ∧ (g (q + i)).toInt.toNat < 128
  omega
set_option maxHeartbeats 4000000 in
theorem tok_eq (hL : L ≤ 1500) (hb : ∀ j, j < L → isBt (g j)) {ws : Nat → Int64} (hws : ∀ i, i < 12 → ws i = Int64.ofNat (C128 8 (RWL.getD i []))) {q : Nat} (hq : q ≤ L) {nu : Int32} {hd tl nb : Int64} : TK g L q (s_tok g ws L q nu hd tl) (r_tok g L q nb) := by
  unfold s_tok r_tok
  rcases Nat.lt_or_ge q L with h | h
  · obtain ⟨j, hj, ej⟩ := bt_of (hb q h)
    have eb := ba_in (g := g) hL h
    rw [if_pos (show 0 ≤ s_byteAt g L (nI q) by rw [eb, ej]; exact bt_pos j hj), if_neg (show ¬ q = L by omega)]
    rw [show s_Lexer_isLetter (s_byteAt g L (nI q)) = s_Mod_isSmall (g q) by rw [eb, ej]; exact bt_letter j hj, show s_Lexer_isDigit (s_byteAt g L (nI q)) = s_Mod_isDigit (g q) by rw [eb, ej]; exact bt_digit j hj]
    obtain ⟨m, hm⟩ : ∃ m, L - q = m + 1 := ⟨L - q - 1, by omega⟩
    by_cases c1 : s_Mod_isSmall (g q) = 0
    · rw [if_pos c1, if_pos c1]
      by_cases c2 : s_Mod_isDigit (g q) = 0
      · rw [if_pos c2, if_pos c2]
        by_cases c3 : g q = 34
        · rw [if_pos (show s_byteAt g L (nI q) = 34 by rw [eb, ej, bt_34 j hj, ← ej]; exact c3), if_pos c3]
          dsimp only
          rw [st_eq hL hb (q + 1) (L - (q + 1)) (q + 1) 0 _ _ (by omega) (by omega)]
          have hle := r_tx_le (g := g) (L - (q + 1)) (q + 1)
          have hall := r_tx_all hb (L - (q + 1)) (q + 1) (by omega)
          generalize r_tx g (L - (q + 1)) (q + 1) = P at hle hall
          dsimp only
          unfold s_tk
          by_cases c4 : P < L ∧ g P = 34
          · obtain ⟨j2, hj2, ej2⟩ := bt_of (hb P c4.1)
            rw [if_pos c4, if_pos (show s_byteAt g L (nI P) = 34 by rw [ba_in hL c4.1, ej2, bt_34 j2 hj2, ← ej2]; exact c4.2)]
            have e1 : nI (P - q) - 1 = nI (P - (q + 1)) := nI_sub (a := P - q) (b := 1) (by omega)
            rw [if_pos c4, e1]
            by_cases c5 : 16 < nI (P - (q + 1))
            · rw [if_pos c5, if_pos c5]
              exact Or.inl ⟨rfl, rfl⟩
            · rw [if_neg c5, if_neg c5]
              have h16 : P - (q + 1) ≤ 16 := by
                rcases Nat.lt_or_ge 16 (P - (q + 1)) with w | w
                · exact absurd (nI_lt (a := 16) w (by omega)) c5
                · exact w
              refine Or.inr ⟨rfl, by show q ≤ P + 1; omega, by show P + 1 ≤ L; omega, Or.inr (Or.inr (Or.inr (Or.inl ⟨rfl, rfl, by show q + 2 ≤ P + 1; omega, by show P + 1 ≤ q + 18; omega, ?_, ?_⟩)))⟩
              · intro i hi
                have hi : i < P + 1 - q - 2 := hi
                exact hall (q + 1 + i) (by omega) (by omega)
              · show pcT g (q + 1) (P - (q + 1)) 0 _ _ = pcT g (q + 1) (P + 1 - q - 2) 0 _ _
                rw [show P + 1 - q - 2 = P - (q + 1) by omega]
          · rw [if_neg c4]
            have hn34 : ¬ s_byteAt g L (nI P) = 34 := fun w => by
              rcases Nat.lt_or_ge P L with h3 | h3
              · obtain ⟨j2, hj2, ej2⟩ := bt_of (hb P h3)
                rw [ba_in hL h3, ej2, bt_34 j2 hj2, ← ej2] at w
                exact c4 ⟨h3, w⟩
              · rw [ba_out hL h3 (by omega)] at w
                exact absurd w (by decide)
            rw [if_neg hn34, if_neg c4]
            exact Or.inl ⟨rfl, rfl⟩
        · rw [if_neg (show ¬ s_byteAt g L (nI q) = 34 by rw [eb, ej, bt_34 j hj, ← ej]; exact c3), if_neg c3]
          have hpk : ∃ a b : Bool, (a = true → b = true → bt j = 61) ∧ s_Lexer_pairKind (s_byteAt g L (nI q)) (s_byteAt g L (nI (q + 1))) = pk3 (bt j &&& 255) a b ∧ r_two (g q) (if q + 1 < L then g (q + 1) else 0) = rt3 (bt j) a b ∧ (a = true → q + 1 < L ∧ g (q + 1) = 61) ∧ (b = true → q + 1 < L ∧ g (q + 1) = g q) := by
            rcases Nat.lt_or_ge (q + 1) L with h6 | h6
            · obtain ⟨k, hk, ek⟩ := bt_of (hb (q + 1) h6)
              refine ⟨decide (g (q + 1) = 61), decide (g (q + 1) = g q), ?_, ?_, ?_, fun w => ⟨h6, of_decide_eq_true w⟩, fun w => ⟨h6, of_decide_eq_true w⟩⟩
              · intro w1 w2
                rw [← ej, ← of_decide_eq_true w2]
                exact of_decide_eq_true w1
              · rw [pk_3, eb, ba_in hL h6, ej, ek]
                have a1 := bt_61 k hk
                have a2 := bt_inj j hj k hk
                simp only [a1, a2]
              · rw [if_pos h6, rt_3, ej]
            · refine ⟨false, false, (fun w => by cases w), ?_, ?_, (fun w => by cases w), (fun w => by cases w)⟩
              · rw [pk_3, eb, ba_out hL h6 (by omega), ej, decide_eq_false (bt_m1 j hj)]
                rfl
              · rw [if_neg (by omega), rt_3, ej, show decide ((0 : Int32) = 61) = false from rfl, (bt_rt0 j hj).2.2, (bt_rt0 j hj).2.1]
          obtain ⟨a, b, hab, e1, e2, ha, hbb⟩ := hpk
          unfold s_sg
          rw [e1, e2, eb, ej]
          have hpk := bt_pk j hj a b hab
          by_cases c5 : rt3 (bt j) a b = 0
          · have c6 : pk3 (bt j &&& 255) a b = 1 := by rw [hpk]; exact c5
            rw [if_pos c6, if_pos c6, if_pos c5]
            have hs := bt_sx j hj
            by_cases c7 : r_one (bt j) = 0
            · rw [if_pos (show s_sx (bt j &&& 255) < 0 by rw [hs]; exact c7)]
              refine Or.inl ⟨rfl, ?_⟩
              show r_sk5 (r_one (bt j)) (rt3 (bt j) a b) = 6
              rw [c7, c5]
              rfl
            · rw [if_neg (show ¬ s_sx (bt j &&& 255) < 0 by rw [hs]; exact c7)]
              obtain ⟨k1, k2, k3⟩ := kt_1 j hj c7
              refine Or.inr ⟨rfl, by show q ≤ q + 1; omega, by show q + 1 ≤ L; omega, Or.inr (Or.inr (Or.inr (Or.inr ⟨_, k1, rfl, rfl, ?_, ?_, ?_⟩)))⟩
              · show nmL g q 1 = _
                rw [nmL, nmL, ej]
              · show r_sk5 (r_one (bt j)) (rt3 (bt j) a b) = _
                rw [if_neg k2]
                unfold r_sk5
                rw [if_neg c7]
              · intro i hi
                have hi : i < 1 := hi
                rw [show q + i = q by omega, ej]
                exact k3
          · have c6 : ¬ pk3 (bt j &&& 255) a b = 1 := by rw [hpk]; exact c5
            rw [if_neg c6, if_neg c6, if_neg c5]
            have fin : ∀ (x : Nat), ((pk3 (bt j &&& 255) a b, [(bt j).toNatClampNeg, x]) : Int32 × List Nat) ∈ KT → ¬ pk3 (bt j &&& 255) a b < 17 → 0 ≤ (bt j).toInt → q + 1 < L → (g (q + 1)).toNatClampNeg = x → 0 ≤ (g (q + 1)).toInt → TK g L q (q + 2, pk3 (bt j &&& 255) a b, nu, hd, tl) (q + 2, r_sk5 (r_one (bt j)) (rt3 (bt j) a b), nb) := by
              intro x k1 k2 k3 h6 ex hx0
              refine Or.inr ⟨rfl, by show q ≤ q + 2; omega, by show q + 2 ≤ L; omega, Or.inr (Or.inr (Or.inr (Or.inr ⟨_, k1, rfl, rfl, ?_, ?_, ?_⟩)))⟩
              · show nmL g q 2 = _
                rw [nmL, nmL, nmL, ej, ex]
              · show r_sk5 (r_one (bt j)) (rt3 (bt j) a b) = _
                rw [if_neg k2]
                unfold r_sk5
                rw [if_neg c5, ite_self]
              · intro i hi
                have hi : i < 2 := hi
                rcases (show i = 0 ∨ i = 1 by omega) with rfl | rfl
                · rw [Nat.add_zero, ej]
                  exact k3
                · exact hx0
            cases a with
            | true =>
              obtain ⟨h6, e6⟩ := ha rfl
              obtain ⟨k1, k2, k3⟩ := kt_2 j hj b (hab rfl) c5
              exact fin 61 k1 k2 k3 h6 (by rw [e6]; rfl) (by rw [e6]; decide)
            | false =>
              cases b with
              | true =>
                obtain ⟨h6, e6⟩ := hbb rfl
                obtain ⟨k1, k2, k3⟩ := kt_3 j hj c5
                exact fin _ k1 k2 k3 h6 (by rw [e6, ej]) (by rw [e6, ej]; exact k3)
              | false => exact absurd (bt_rt0 j hj).2.1 c5
      · rw [if_neg c2, if_neg c2]
        dsimp only
        have hs := sd_eq hL hb (L - q) q 0 0 (by omega) (Or.inl ⟨rfl, by decide, by decide⟩)
        have hle := r_nu_le (g := g) (L - q) q 0
        have hgt : q < (r_nu g (L - q) q 0).1 := by
          rw [hm, r_nu, if_neg c2]
          exact Nat.lt_of_lt_of_le (Nat.lt_succ_self q) (r_nu_le m (q + 1) _).1
        generalize s_sd g L (L - q) q 0 = S at hs
        generalize r_nu g (L - q) q 0 = Rr at hs hle hgt
        obtain ⟨e1, hr⟩ := hs
        rcases hr with ⟨e2, h2, h3⟩ | ⟨e2, h2, h3⟩
        · have x1 : ¬ lg_cmp S.2 2147483648 = 0 := fun w => by
            have := congrArg Int64.toInt (lc_eq.mp w)
            rw [show (2147483648 : Int64).toInt = 2147483648 from rfl] at this
            omega
          have x2 : ¬ 0 < lg_cmp Rr.2 2147483647 := fun w => by
            unfold lg_cmp at w
            split at w
            · next hh =>
              have := Int64.lt_iff_toInt_lt.mp hh
              rw [show (2147483647 : Int64).toInt = 2147483647 from rfl, ← e2] at this
              omega
            · split at w <;> exact absurd w (by decide)
          rw [if_neg x1, if_neg x2]
          have e3 : S.2.toInt32.toInt = S.2.toInt := by
            rw [Int64.toInt_toInt32]
            exact Int.bmod_eq_of_le (by omega) (by omega)
          refine Or.inr ⟨e1, by show q ≤ S.1; omega, by show S.1 ≤ L; omega, Or.inr (Or.inr (Or.inl ⟨rfl, rfl, by show q < S.1; omega, ?_, by show 0 ≤ S.2.toInt32.toInt; omega⟩))⟩
          show Rr.2 = S.2.toInt32.toInt64
          rw [← e2]
          apply Int64.toInt_inj.mp
          rw [Int32.toInt_toInt64, e3]
        · have x1 : lg_cmp S.2 2147483648 = 0 := lc_eq.mpr e2
          have x2 : 0 < lg_cmp Rr.2 2147483647 := by
            unfold lg_cmp
            rw [if_pos (show (2147483647 : Int64) < Rr.2 from Int64.lt_iff_toInt_lt.mpr (by rw [show (2147483647 : Int64).toInt = 2147483647 from rfl]; omega))]
            decide
          rw [if_pos x1, if_pos x2]
          exact Or.inl ⟨rfl, rfl⟩
    · rw [if_neg c1, if_neg c1]
      dsimp only
      rw [sn_eq hL hb q (L - q) q 0 0 (by omega) (by omega)]
      have hle := r_nm_le (g := g) (L - q) q
      have hall := r_nm_all hb (L - q) q (by omega)
      have hallw := r_nm_w hb (L - q) q (by omega)
      have hq0 : 97 ≤ (g q).toNatClampNeg ∧ (g q).toNatClampNeg ≤ 122 := by
        obtain ⟨j, hj, e⟩ := bt_of (hb q (by omega))
        rw [e] at c1 ⊢
        exact bt_sm j hj c1
      have hgt : q < r_nm g (L - q) q := by
        rw [hm, r_nm, if_neg c1]
        exact Nat.lt_of_lt_of_le (Nat.lt_succ_self q) (r_nm_le m (q + 1)).1
      generalize r_nm g (L - q) q = P at hle hall hallw hgt
      dsimp only
      have hnb : nmB g q (P - q) := fun i hi => hall (q + i) (by omega) (by omega)
      have hrs := rs_eq (n := P - q) (by omega) hnb
      unfold s_nk
      by_cases c8 : P - q ≤ 8
      · rw [if_pos (show nI (P - q) ≤ 8 from nI_le (b := 8) c8 (by decide))]
        have ehd : pcN g q (P - q) 0 0 = Int64.ofNat (C128 8 (nmL g q (P - q))) := by
          have := pcN_eq (g := g) q (P - q) 0 0 (by omega) (by decide) (by decide) (fun j hj => by have := hnb j hj; rw [Nat.add_zero]; omega)
          rw [Nat.zero_add] at this
          exact this
        rw [ehd, wk_eq hws (okL_nm hnb) (by rw [nmL_len]; exact c8) 12 0 rfl]
        by_cases c9 : rsB g q (P - q) 60 0 = true
        · rw [if_pos c9]
          obtain ⟨i, hi, ei⟩ := hrs.mp c9
          obtain ⟨k1, k2, k3⟩ := kt_w i hi
          have el : (RWL.getD i []).length = P - q := by rw [← ei, nmL_len]
          refine Or.inr ⟨rfl, by show q ≤ P; omega, by show P ≤ L; omega, Or.inr (Or.inr (Or.inr (Or.inr ⟨_, k1, ?_, ?_, ?_, ?_, ?_⟩)))⟩
          · show wkF (nmL g q (P - q)) 12 0 = _
            rw [ei, k3]
          · show P = q + (RWL.getD i []).length
            omega
          · show nmL g q (RWL.getD i []).length = _
            rw [el, ei]
          · show (2 : Int32) = if 5 + nI i < 17 then 2 else 5
            rw [if_pos k2]
          · intro k hk
            have hk : k < (RWL.getD i []).length := hk
            have := hnb k (by omega)
            omega
        · rw [if_neg c9, wkF_none 12 0 rfl (fun k hk w => c9 (hrs.mpr ⟨k, hk, w⟩)), if_neg (show ¬ 8 < nI (P - q) from fun w => absurd (nI_le (a := P - q) (b := 8) c8 (by decide)) (Int32.not_le.mpr w))]
          exact Or.inr ⟨rfl, by show q ≤ P; omega, by show P ≤ L; omega, Or.inr (Or.inl ⟨rfl, rfl, hgt, by show P ≤ q + 8; omega, hnb, rfl, nmW_of (by omega) hq0 (fun i hi => hallw (q + i) (by omega) (by omega))⟩)⟩
      · have x1 : ¬ nI (P - q) ≤ 8 := fun w => absurd (nI_lt (a := 8) (b := P - q) (by omega) (by omega)) (Int32.not_lt.mpr w)
        have x2 : ¬ rsB g q (P - q) 60 0 = true := fun w => by
          obtain ⟨i, hi, ei⟩ := hrs.mp w
          have := (rw_ok i hi).1
          rw [← ei, nmL_len] at this
          exact c8 this
        rw [if_neg x1, if_neg x2, if_pos (show 8 < nI (P - q) from nI_lt (a := 8) (b := P - q) (by omega) (by omega))]
        exact Or.inl ⟨rfl, rfl⟩
  · obtain rfl : q = L := by omega
    rw [if_neg (show ¬ 0 ≤ s_byteAt g q (nI q) by rw [ba_out hL (Nat.le_refl _) (by omega)]; decide), if_pos rfl]
    exact Or.inr ⟨rfl, Nat.le_refl _, Nat.le_refl _, Or.inl ⟨rfl, rfl, rfl, rfl⟩⟩
end
