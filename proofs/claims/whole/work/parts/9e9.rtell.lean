/-! functions told: the reference -/
abbrev pC (p : Nat) : Nat := 401 + 7 * p
/-- Code number p of the pool is function i -/
def RCo (f : Nat → am_C) (p : Nat) (i : TI) : Prop := ∃ (m v ud : Int32) (sp : Nat → Int32) (q : Nat → VQ), f (pC p) = .inr (12, [.ref (pC p + 1), .ref (pC p + 2), .int m, .int v, .int (nI (ti_t i)), .int (nI (ti_n i)), .int (nI (ti_l i)), .int (nI (ti_a i)), .int (nI (ti_v i)), .int ud]) ∧ f (pC p + 1) = aInt 1600 sp ∧ vR f (pC p + 2) 400 (fun j => (q j).1) (fun j => (q j).2.1) (fun j => (q j).2.2.1) (fun j => (q j).2.2.2) ∧ FGR (pC p, 1600, 400, sp, q, ti_n i, ti_l i, ti_a i, ti_v i) (ti_w i, ti_n i, ti_D i)
def RTb (f : Nat → am_C) (R : RS) (pc : Nat → Nat) (F : FTb) : Prop := CdT R F.1 pc ∧ ∀ j, j < F.1 → R.2.2.2.2.1 j = nV (ti_w (F.2 j)) ∧ okN (ti_w (F.2 j)) ∧ RCo f (pc j) (F.2 j)
/-- the pool -/
def PLh (f : Nat → am_C) : Prop := (∃ H ud, HP f H ud = f) ∧ f 239 = .inl (.object "StowTongueModel$Code", 130, fun k => .ref (401 + 7 * k)) ∧ ∀ p, p < 130 → (∃ sp, f (pC p + 1) = aInt 1600 sp) ∧ ∃ q : Nat → VQ, vR f (pC p + 2) 400 (fun j => (q j).1) (fun j => (q j).2.1) (fun j => (q j).2.2.1) (fun j => (q j).2.2.2)
section
variable {n us d r p p0 i k w : Nat} {f f' : Nat → am_C} {H : PH} {ud ud' : Nat → Int32} {b : Nat → Value} {R : RS} {v : Int32} {pc : Nat → Nat} {F : FTb} {ti : TI} {y : Int64}
theorem RCo.keep (h : RCo f p ti) (hf : ∀ z, pC p ≤ z → z ≤ pC p + 6 → f' z = f z) : RCo f' p ti := by
  obtain ⟨m, v, ud, sp, q, h1, h2, h3, h4⟩ := h
  exact ⟨m, v, ud, sp, q, (hf _ (by omega) (by omega)).trans h1, (hf _ (by omega) (by omega)).trans h2, h3.kept (fun z z1 z2 => hf z (by omega) (by omega)), h4⟩
theorem HP_arr {x : Nat} (hp : p < 130) (h1 : pC p < x) (h2 : x ≤ pC p + 6) : HP f H ud x = f x := HP_off (by show ¬ (401 ≤ x ∧ x < 1311 ∧ (x - 401) % 7 = 0); have h1 : 401 + 7 * p < x := h1; have h2 : x ≤ 401 + 7 * p + 6 := h2; omega)
theorem RCo.flag (hp : p < 130) (h : RCo (HP f H ud) p ti) : RCo (HP f H ud') p ti := by
  obtain ⟨m, v, u, sp, q, h1, h2, h3, h4⟩ := h
  have e : HP f H ud (pC p) = pcC H ud p := HP_at hp
  rw [e] at h1
  unfold pcC at h1
  injection h1 with h1
  injection h1 with _ h1
  simp only [List.cons.injEq, Value.int.injEq, and_true, true_and] at h1
  refine ⟨m, v, ud' p, sp, q, ?_, ?_, h3.kept (fun z z1 z2 => ?_), h4⟩
  · rw [show HP f H ud' (pC p) = pcC H ud' p from HP_at hp]
    unfold pcC
    obtain ⟨g1, g2, g3, g4, g5, g6, g7, g8⟩ := h1
    rw [g1, g2, g3, g4, g5, g6, g7]
  · rw [HP_arr hp (by omega) (by omega)]
    rw [HP_arr hp (by omega) (by omega)] at h2
    exact h2
  · rw [HP_arr hp (by omega) (by omega), HP_arr hp (by omega) (by omega)]
theorem RTb.keep (h : RTb f R pc F) (hf : ∀ j, j < F.1 → RCo f (pc j) (F.2 j) → RCo f' (pc j) (F.2 j)) : RTb f' R pc F := ⟨h.1, fun j hj => ⟨(h.2 j hj).1, (h.2 j hj).2.1, hf j hj (h.2 j hj).2.2⟩⟩
theorem s_sf (h1 : 128 ≤ r) (h2 : r + 16 < n) (hi : i < 10) : sV (n, HSt f r R, us) .long (r + 5) (nI i) (.long y) = some (n, HSt f r (R.1, R.2.1, R.2.2.1, R.2.2.2.1, upL R.2.2.2.2.1 i y, R.2.2.2.2.2.1, R.2.2.2.2.2.2.1, R.2.2.2.2.2.2.2.1, R.2.2.2.2.2.2.2.2.1, R.2.2.2.2.2.2.2.2.2.1, R.2.2.2.2.2.2.2.2.2.2.1, R.2.2.2.2.2.2.2.2.2.2.2), us) := by
  have b0 := cl0 (show i < 2 ^ 31 by omega)
  rw [sL_of (s := (n, HSt f r R, us)) HS_5 (by omega) (show r + 5 < n by omega) b0.1 (by rw [b0.2]; omega), b0.2]
  exact congrArg (fun F => some (n, F, us)) HSu_5
theorem s_sc {c : Nat} (h1 : 128 ≤ r) (h2 : r + 16 < n) (hi : i < 10) (hc : isO (n, f, us) c 12 = true) (hc2 : c < r ∨ r + 16 < c) : sR "StowTongueModel$Code" 12 (n, HSt f r R, us) (r + 16) (nI i) c = some (n, HSt f r (R.1, R.2.1, R.2.2.1, R.2.2.2.1, R.2.2.2.2.1, R.2.2.2.2.2.1, R.2.2.2.2.2.2.1, updV R.2.2.2.2.2.2.2.1 i (.ref c), R.2.2.2.2.2.2.2.2.1, R.2.2.2.2.2.2.2.2.2.1, R.2.2.2.2.2.2.2.2.2.2.1, R.2.2.2.2.2.2.2.2.2.2.2), us) := by
  have b0 := cl0 (show i < 2 ^ 31 by omega)
  have h' : isO (n, HSt f r R, us) c 12 = true := isO_keep hc (HS_off hc2) (Nat.le_refl _)
  unfold sR
  rw [if_pos h', sV_of (s := (n, HSt f r R, us)) HS_16 (by omega) (show r + 16 < n by omega) b0.1 (by rw [b0.2]; omega), b0.2]
  exact congrArg (fun F => some (n, F, us)) HSu_16
/-- the State behind a function told -/
def tlR (R : RS) (p c : Nat) (y : Int64) (k : Nat) : RS := (R.1, R.2.1, R.2.2.1, R.2.2.2.1, upL R.2.2.2.2.1 p y, R.2.2.2.2.2.1, R.2.2.2.2.2.2.1, updV R.2.2.2.2.2.2.2.1 p (.ref c), R.2.2.2.2.2.2.2.2.1, R.2.2.2.2.2.2.2.2.2.1, nI k, R.2.2.2.2.2.2.2.2.2.2.2)
theorem RTb.at' (h : RTb f R pc F) (hw : okN (ti_w ti)) : s_find R.2.2.2.2.1 F.1 (nV (ti_w ti)) = ftAt F ti := by
  unfold ftAt
  exact Eq.symm (find_eq fun j hj => by
    obtain ⟨a1, a2, _⟩ := h.2 j hj
    rw [a1]
    exact (nC_same a2 hw).trans (nV_same a2 hw).symm)
theorem tk_up {TT : Nat → TI} {x : TI} {j : Nat} : ∀ k, tkS (upT TT j x) k ≤ tkS TT k + ti_t x
  | 0 => Nat.zero_le _
  | k + 1 => by
    have ih := tk_up (TT := TT) (x := x) (j := j) k
    rw [tkS, tkS]
    by_cases c : k = j
    · have e : tkS (upT TT j x) k = tkS TT k := tkS_eq k (fun i hi => by
        unfold upT
        rw [if_neg (by omega)])
      rw [e]
      unfold upT
      rw [if_pos c]
      omega
    · have e : upT TT j x k = TT k := by
        unfold upT
        rw [if_neg c]
      rw [e]
      omega
theorem ft_sum (hF : F.1 ≤ 10) : tkS (ftS F ti).2 (ftS F ti).1 ≤ tkS F.2 F.1 + ti_t ti := by
  show tkS (upT F.2 (ftIx F ti) ti) (ftN F ti) ≤ _
  rcases ft_or (i := ti) hF with ⟨c1, c2, c3⟩ | ⟨j, hj, c1, c2, c3, c4⟩
  · rw [c2, c3, tkS]
    have e : tkS (upT F.2 F.1 ti) F.1 = tkS F.2 F.1 := tkS_eq F.1 (fun i hi => by
      unfold upT
      rw [if_neg (by omega)])
    rw [e]
    unfold upT
    rw [if_pos rfl]
    omega
  · rw [c4]
    exact tk_up F.1
theorem RTb.tell {f0 : Nat → am_C} (T : RTb f R pc F) (hp : p < 130) (C : RCo f p ti) (hw : okN (ti_w ti)) (h10 : ¬ (ftAt F ti < 0 ∧ F.1 = 10)) (hf : ∀ q x, RCo f q x → RCo f0 q x) : RTb f0 (tlR R (ftIx F ti) (pC p) (nV (ti_w ti)) (ftN F ti)) (upU pc (ftIx F ti) p) (ftS F ti) := by
  have hF := T.1.1
  have n10 : ftN F ti ≤ 10 := by
    rcases ft_or (i := ti) hF with ⟨c1, c2, c3⟩ | ⟨j, hj, c1, c2, c3, c4⟩
    · have : ¬ F.1 = 10 := fun w => h10 ⟨c1, w⟩
      omega
    · omega
  have old : ∀ j, j < ftN F ti → ¬ j = ftIx F ti → j < F.1 := fun j hj c => by
    rcases ft_or (i := ti) hF with ⟨c1, c2, c3⟩ | ⟨j', hj', c1, c2, c3, c4⟩
    · omega
    · omega
  refine ⟨⟨n10, rfl, fun j hj => ?_⟩, fun j hj => ?_⟩
  · have hj : j < ftN F ti := hj
    show updV R.2.2.2.2.2.2.2.1 (ftIx F ti) (.ref (pC p)) j = .ref (401 + 7 * upU pc (ftIx F ti) p j) ∧ upU pc (ftIx F ti) p j < 130
    unfold updV upU
    by_cases c : j = ftIx F ti
    · rw [if_pos c, if_pos c]
      exact ⟨rfl, hp⟩
    · rw [if_neg c, if_neg c]
      exact T.1.2.2 j (old j hj c)
  · have hj : j < ftN F ti := hj
    show upL R.2.2.2.2.1 (ftIx F ti) (nV (ti_w ti)) j = nV (ti_w (upT F.2 (ftIx F ti) ti j)) ∧ okN (ti_w (upT F.2 (ftIx F ti) ti j)) ∧ RCo f0 (upU pc (ftIx F ti) p j) (upT F.2 (ftIx F ti) ti j)
    unfold upL upU upT
    by_cases c : j = ftIx F ti
    · rw [if_pos c, if_pos c, if_pos c]
      exact ⟨rfl, hw, hf _ _ C⟩
    · rw [if_neg c, if_neg c, if_neg c]
      obtain ⟨a1, a2, a3⟩ := T.2 j (old j hj c)
      exact ⟨a1, a2, hf _ _ a3⟩
theorem RTb.tok (T : RTb f R pc F) (hn : 1311 ≤ n) : ∀ j, j < F.1 → R.2.2.2.2.2.2.2.1 j = .ref (pC (pc j)) ∧ gI (n, f, us) (pC (pc j)) 12 4 = some (nI (ti_t (F.2 j))) := fun j hj => by
  obtain ⟨m, v, ud, sp, q, h1, _⟩ := (T.2 j hj).2.2
  have lt := (T.1.2.2 j hj).2
  exact ⟨(T.1.2.2 j hj).1, gI_of (s := (n, f, us)) h1 (by show 128 ≤ 401 + 7 * pc j; omega) (by show 401 + 7 * pc j < n; omega) rfl⟩
/-- the placing -/
theorem e_place {ag : Int32 × HS → Option (Int32 × HS)} {z : Nat} {A : TAr} (hn : 1311 ≤ n) (O : OM f b) (b13 : b 13 = .ref 170) (b31 : b 31 = .ref r) (hA : TA f A) (hz : z < 200) (eA : A.1 z = nV (ti_w ti)) (r1 : r = 187 ∨ r = 204) (hR : RSt f r R) (T : RTb f R pc F) (hp : p < 130) (C : RCo f p ti) (hw : okN (ti_w ti)) (h10 : ¬ (ftAt F ti < 0 ∧ F.1 = 10)) (hs : tkS F.2 F.1 ≤ 400) (ht : ti_t ti ≤ 400) : plB d (ftAt F ti) (nI z) (pC p) ag (n, f, us) = (if tkS (ftS F ti).2 (ftS F ti).1 ≤ 400 then ag (nI (z + 1), (n, HSt f r (tlR R (ftIx F ti) (pC p) (nV (ti_w ti)) (ftN F ti)), us)) else some (8, (n, HSt f r (tlR R (ftIx F ti) (pC p) (nV (ti_w ti)) (ftN F ti)), us))) ∧ RTb (HSt f r (tlR R (ftIx F ti) (pC p) (nV (ti_w ti)) (ftN F ti))) (tlR R (ftIx F ti) (pC p) (nV (ti_w ti)) (ftN F ti)) (upU pc (ftIx F ti) p) (ftS F ti) := by
  have hF := T.1.1
  have ra : 128 ≤ r := by omega
  have rb : r + 16 < n := by omega
  have cp : 401 ≤ pC p := by show 401 ≤ 401 + 7 * p; omega
  have cp2 : pC p + 6 < 1311 := by show 401 + 7 * p + 6 < 1311; omega
  have T' := T.tell (f0 := HSt f r (tlR R (ftIx F ti) (pC p) (nV (ti_w ti)) (ftN F ti))) hp C hw h10 (fun q x c => c.keep (fun z z1 z2 => HS_off (by have z1 : 401 + 7 * q ≤ z := z1; omega)))
  refine ⟨?_, T'⟩
  have io : isO (n, f, us) (pC p) 12 = true := by
    obtain ⟨m, v, ud, sp, q, h1, _⟩ := C
    exact isO_of (s := (n, f, us)) h1 (by omega) (by show pC p < n; omega)
  have OH : ∀ R', OM (HSt f r R') b := fun R' => (HS_off (by omega)).trans O
  have b0 := cl0 (show z < 2 ^ 31 by omega)
  have aA : ∀ R', aL (n, HSt f r R', us) 170 (nI z) = some (nV (ti_w ti)) := fun R' => by
    rw [aL_of (s := (n, HSt f r R', us)) ((HS_off (by omega)).trans hA.1) (by decide) (show 170 < n by omega) b0.1 (by rw [b0.2]; omega), b0.2, eA]
  have tok := e_tokensOf (d := d) (us := us) (f := HSt f r (tlR R (ftIx F ti) (pC p) (nV (ti_w ti)) (ftN F ti))) (cc := fun j => pC (upU pc (ftIx F ti) p j)) (TT := (ftS F ti).2) RSt.mk ra rb T'.1.1 T'.1.2.1 (T'.tok hn)
  have sm := ft_sum (ti := ti) hF
  have fin : ∀ {α : Type} (x y : Option α), (if nI (tkS (ftS F ti).2 (ftS F ti).1) ≤ 400 then x else y) = if tkS (ftS F ti).2 (ftS F ti).1 ≤ 400 then x else y := fun x y => by
    by_cases c : tkS (ftS F ti).2 (ftS F ti).1 ≤ 400
    · rw [if_pos c, if_pos (show nI (tkS (ftS F ti).2 (ftS F ti).1) ≤ 400 from nI_le (b := 400) c (by decide))]
    · rw [if_neg c, if_neg (show ¬ nI (tkS (ftS F ti).2 (ftS F ti).1) ≤ 400 from fun w => absurd (nI_lt (a := 400) (b := tkS (ftS F ti).2 (ftS F ti).1) (by omega) (by omega)) (Int32.not_lt.mpr w))]
  have hf : f = HSt f r R := hR.eq
  unfold plB
  rw [show nI z + 1 = nI (z + 1) from nI_add z 1]
  rcases ft_or (i := ti) hF with ⟨c1, c2, c3⟩ | ⟨j, hj, c1, c2, c3, c4⟩
  · have nF : F.1 < 10 := by
      have : ¬ F.1 = 10 := fun w => h10 ⟨c1, w⟩
      omega
    have gF : gI (n, HSt f r R, us) r 13 10 = some (nI F.1) := by rw [s_gf ra rb, T.1.2.1]
    rw [c2, c3] at tok ⊢
    rw [if_neg (Int32.not_le.mpr c1)]
    have key : ∀ S : HS, S = (n, HSt f r R, us) → ((gR S 160 14 31).bind fun v137 => ((gI S v137 13 10).bind fun v138 => ((gR S 160 14 31).bind fun v139 => ((gI S v139 13 10).bind fun v140 => ((pV S v139 13 10 (.int (v140 + 1))).bind fun s141 => ((gR s141 160 14 31).bind fun v142 => ((gR s141 v142 13 4).bind fun v143 => ((gR s141 160 14 13).bind fun v144 => ((aL s141 v144 (nI z)).bind fun v145 => ((sV s141 .long v143 v138 (.long v145)).bind fun s146 => ((gR s146 160 14 31).bind fun v147 => ((gR s146 v147 13 7).bind fun v148 => ((sR "StowTongueModel$Code" 12 s146 v148 v138 (pC p)).bind fun s149 => ((gR s149 160 14 31).bind fun v150 => (bnd (x_Mod_tokensOf d v150 s149) fun v152 s151 => (if v152 ≤ 400 then (ag (nI (z + 1), s151)) else (some (8, s151)))))))))))))))))) = (if tkS (ftS F ti).2 (ftS F ti).1 ≤ 400 then ag (nI (z + 1), (n, HSt f r (tlR R F.1 (pC p) (nV (ti_w ti)) (F.1 + 1)), us)) else some (8, (n, HSt f r (tlR R F.1 (pC p) (nV (ti_w ti)) (F.1 + 1)), us))) := fun S hS => by
      subst hS
      rw [mo_gR (OH R) hn (by decide) b31, Option.bind_some, gF, Option.bind_some, Option.bind_some, gF, Option.bind_some, show nI F.1 + 1 = nI (F.1 + 1) from nI_add F.1 1, s_pf ra rb, Option.bind_some, mo_gR (OH _) hn (by decide) b31, Option.bind_some, s_r4 ra rb, Option.bind_some, mo_gR (OH _) hn (by decide) b13, Option.bind_some, aA, Option.bind_some, s_sf ra rb nF, Option.bind_some, mo_gR (OH _) hn (by decide) b31, Option.bind_some, s_r7 ra rb, Option.bind_some, s_sc ra rb nF io (Or.inr (by omega)), Option.bind_some, mo_gR (OH _) hn (by decide) b31, Option.bind_some]
      show bnd (x_Mod_tokensOf d r (n, HSt f r (tlR R F.1 (pC p) (nV (ti_w ti)) (F.1 + 1)), us)) (fun v152 s151 => (if v152 ≤ 400 then (ag (nI (z + 1), s151)) else (some (8, s151)))) = _
      rw [tok, bnd_some, fin]
    exact key (n, f, us) (by rw [← hf])
  · have j10 : j < 10 := by omega
    have eN : tlR R j (pC p) (nV (ti_w ti)) F.1 = (R.1, R.2.1, R.2.2.1, R.2.2.2.1, upL R.2.2.2.2.1 j (nV (ti_w ti)), R.2.2.2.2.2.1, R.2.2.2.2.2.2.1, updV R.2.2.2.2.2.2.2.1 j (.ref (pC p)), R.2.2.2.2.2.2.2.2.1, R.2.2.2.2.2.2.2.2.2.1, R.2.2.2.2.2.2.2.2.2.2.1, R.2.2.2.2.2.2.2.2.2.2.2) := by
      unfold tlR
      rw [T.1.2.1]
    rw [c3, c4] at tok ⊢
    rw [if_pos (Int32.not_lt.mp c1), c2]
    have key : ∀ S : HS, S = (n, HSt f r R, us) → ((gR S 160 14 31).bind fun v126 => ((gR S v126 13 4).bind fun v127 => ((gR S 160 14 13).bind fun v128 => ((aL S v128 (nI z)).bind fun v129 => ((sV S .long v127 (nI j) (.long v129)).bind fun s130 => ((gR s130 160 14 31).bind fun v131 => ((gR s130 v131 13 7).bind fun v132 => ((sR "StowTongueModel$Code" 12 s130 v132 (nI j) (pC p)).bind fun s133 => ((gR s133 160 14 31).bind fun v134 => (bnd (x_Mod_tokensOf d v134 s133) fun v136 s135 => (if v136 ≤ 400 then (ag (nI (z + 1), s135)) else (some (8, s135))))))))))))) = (if tkS (ftS F ti).2 (ftS F ti).1 ≤ 400 then ag (nI (z + 1), (n, HSt f r (tlR R j (pC p) (nV (ti_w ti)) F.1), us)) else some (8, (n, HSt f r (tlR R j (pC p) (nV (ti_w ti)) F.1), us))) := fun S hS => by
      subst hS
      rw [eN] at tok ⊢
      rw [mo_gR (OH R) hn (by decide) b31, Option.bind_some, s_r4 ra rb, Option.bind_some, mo_gR (OH R) hn (by decide) b13, Option.bind_some, aA, Option.bind_some, s_sf ra rb j10, Option.bind_some, mo_gR (OH _) hn (by decide) b31, Option.bind_some, s_r7 ra rb, Option.bind_some, s_sc ra rb j10 io (Or.inr (by omega)), Option.bind_some, mo_gR (OH _) hn (by decide) b31, Option.bind_some]
      dsimp only
      rw [tok, bnd_some, fin]
    exact key (n, f, us) (by rw [← hf])
end
