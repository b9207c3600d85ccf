def vlB (d : Nat) : (Int32 × HS → Option (Int64 × HS)) → Int32 × HS → Option (Int64 × HS) := (fun (again61 : Int32 × HS → Option (Int64 × HS)) (z61 : Int32 × HS) => ((gR z61.2 160 14 39).bind fun v8 => ((gR z61.2 v8 11 1).bind fun v9 => ((aI z61.2 v9 0).bind fun v10 => (if v10 ≤ z61.1 then (some (1099511627777, z61.2)) else ((gR z61.2 160 14 39).bind fun v11 => (bnd (x_Vals_sign d v11 0 z61.1 z61.2) fun v13 s12 => (bnd (x_Mod_say d 160 v13 s12) fun v15 s14 => (again61 ((z61.1 + 1), s14))))))))))
theorem vlB_eq {d : Nat} {z : Int32} {s : HS} {ag : Int32 × HS → Option (Int64 × HS)} : vlB d ag (z, s) = ((gR s 160 14 39).bind fun v8 => ((gR s v8 11 1).bind fun v9 => ((aI s v9 0).bind fun v10 => (if v10 ≤ z then (some (1099511627777, s)) else ((gR s 160 14 39).bind fun v11 => (bnd (x_Vals_sign d v11 0 z s) fun v13 s12 => (bnd (x_Mod_say d 160 v13 s12) fun v15 s14 => (ag ((z + 1), s14))))))))) := rfl

/-! the log's places grow; value on both sides -/
section
variable {s s' : HS} {c cc p0 L L' hh tt Nm r w n us d k y m : Nat} {g g' ob ob' : Nat → Int32} {I : ID} {N : N3} {O O' : oS} {G G' : LGS} {rs rs' : Nat → Nat} {SS SS' : Nat → SC} {un : Nat → Nat → Nat} {FF : Nat → FTb} {S : SC} {R : RS} {v v' : V2} {fu fu' sb om om' : Int32} {bys : Nat → Int32} {X : SWs} {own : Nat → Nat} {f f' : Nat → am_C} {b : Nat → Value} {q : Nat → VQ}
theorem fxT_lt (z : Nat) : fxT z < 1311 := by
  unfold fxT
  repeat' split
  all_goals decide
theorem rf_nn {x : Nat} : ¬ Value.ref x = Value.null := fun w => by cases w
theorem CKx.lg (h : CKx s L g I N hh tt Nm O G rs SS un FF v fu X own) (K : CL s' G' rs' SS') (W : CG s G rs s' G' rs' cc) (hs : ∀ p, p ≤ G.1 → SS' p = SS p) (h0 : p0 < 10) (hr : G'.2.2.1 p0 = .ref (rs' p0)) (hf : ∀ z, z < s.1 → ¬ z = 155 → (z < rs' p0 ∨ rs' p0 + 7 < z) → s'.2.1 z = s.2.1 z) : ∃ own', (∀ z, z < s.1 → own' z = own z) ∧ CKx s' L g I N hh tt Nm O G' rs' SS' un FF v fu X own' := by
  have hpi := fun z (hz : PI I z) => (h.pi hz).2.2.2.2.2
  obtain ⟨⟨w1, w2, w3⟩, W2, W3, W4, W5⟩ := W
  obtain ⟨⟨a1, a2, a3⟩, ⟨ws, b1, b2⟩, ⟨c1, c2⟩, d1, e1, f1, ⟨g1, g2⟩, o1, o2, o3, o4⟩ := h
  have hN : 1311 ≤ s.1 := e1.2.1
  have bl : ∀ z, z < s.1 → rs' p0 ≤ z → z ≤ rs' p0 + 7 → own z = rs' p0 ∧ 1311 ≤ rs' p0 := fun z z1 z2 z3 => by
    rcases W2 p0 h0 with ⟨x1, x2⟩ | ⟨_, _, x3⟩
    · have nn : ¬ G.2.2.1 p0 = .null := by
        rw [← x1, hr]
        exact rf_nn
      have o5 := o4 p0 h0 nn z (by rw [← x2]; exact z2) (by rw [← x2]; exact z3)
      rcases e1.2.2.2.1 p0 h0 with ⟨w, _⟩ | ⟨_, _, q1, q2⟩
      · exact absurd w nn
      · exact ⟨by rw [x2]; exact o5, by rw [x2]; exact q1⟩
    · omega
  have fr : ∀ z, z < s.1 → ¬ z = 155 → own z < 1311 → s'.2.1 z = s.2.1 z := fun z z1 z2 z3 => hf z z1 z2 (by
    by_cases q : z < rs' p0
    · exact Or.inl q
    · by_cases q' : rs' p0 + 7 < z
      · exact Or.inr q'
      · have := bl z z1 (by omega) (by omega)
        omega)
  have lo : ∀ z, z < 1311 → ¬ z = 155 → s'.2.1 z = s.2.1 z := fun z hz hq => fr z (by omega) hq (by rw [o1 z hz]; exact fxT_lt z)
  have ex : ∀ z, ∃ t, (z < s.1 → t = own z) ∧ ∀ p, p < 10 → ¬ G'.2.2.1 p = .null → s.1 ≤ rs' p → rs' p ≤ z → z ≤ rs' p + 7 → t = rs' p := fun z => by
    by_cases q : z < s.1
    · exact ⟨own z, fun _ => rfl, fun p _ _ q1 q2 _ => by omega⟩
    · by_cases e : ∃ p, p < 10 ∧ ¬ G'.2.2.1 p = .null ∧ rs' p ≤ z ∧ z ≤ rs' p + 7
      · obtain ⟨p, p1, p2, p3, p4⟩ := e
        refine ⟨rs' p, fun w => absurd w q, fun p' q1 q2 _ q3 q4 => ?_⟩
        by_cases x : p = p'
        · rw [x]
        · have := K.2.2.2.2.1 p p' p1 q1 x p2 q2
          omega
      · exact ⟨0, fun w => absurd w q, fun p p1 p2 _ p3 p4 => absurd ⟨p, p1, p2, p3, p4⟩ e⟩
  obtain ⟨own', ho⟩ := Classical.axiomOfChoice ex
  have h1 : ∀ z, z < s.1 → own' z = own z := fun z q => (ho z).1 q
  have hh1 := d1.2.2.2.2.2.2
  refine ⟨own', h1, ⟨(lo 128 (by decide) (by decide)).trans a1, a2, a3⟩, ⟨ws, b1.keep W3 (fun z hz => ?_), b2⟩, ⟨c1.keep (lo _ (by decide) (by decide)) (lo _ (by decide) (by decide)), c2⟩, d1.keep W3 (fun z hz => ?_), K, fun p hp => ?_, ⟨g1.keep (fun z z1 z2 => lo z (by omega) (by omega)), g2⟩, fun z hz => (h1 z (by omega)).trans (o1 z hz), fun z hz => (h1 z (b1.2.2.2.2.2.2.2.2.2 z hz)).trans (o2 z hz), ⟨(h1 hh hh1.2.2.2.1).trans o3.1, (h1 tt hh1.2.2.2.2.1).trans o3.2⟩, fun p hp hq z z1 z2 => ?_⟩
  · rcases hz with hz | hz | hz
    · exact fr z (b1.2.2.2.2.2.2.2.2.2 z hz) (by have := hpi z hz; omega) (by rw [o2 z hz]; decide)
    · exact lo z (by omega) (by omega)
    · exact lo z (by omega) (by omega)
  · rcases hz with hz | hz | hz | hz | hz | hz
    · exact lo z (by omega) (by omega)
    · exact lo z (by omega) (by omega)
    · exact lo z (by omega) (by omega)
    · exact lo z (by omega) (by omega)
    · rw [hz]
      exact fr hh hh1.2.2.2.1 (by have := hh1.1; omega) (by rw [o3.1]; decide)
    · rw [hz]
      exact fr tt hh1.2.2.2.2.1 (by have := hh1.2.1; omega) (by rw [o3.2]; decide)
  · rw [w1] at hp
    have u1 := (f1 p hp).keep W3 (fun z z1 z2 z3 => fr z z2 (by omega) (by omega)) h1
    rw [hs p hp]
    refine ⟨⟨u1.1.1, u1.1.2.1, fun j hj => ⟨(u1.1.2.2 j hj).1, (u1.1.2.2 j hj).2.1, ?_⟩⟩, u1.2⟩
    have p10 : p < 10 := by
      have := e1.2.2.1
      omega
    rcases W2 p p10 with ⟨_, x2⟩ | ⟨_, _, x3⟩
    · rw [x2]
      exact (u1.1.2.2 j hj).2.2
    · have := ((f1 p hp).1.2.2 j hj).2.1.lt
      exact Or.inl (by omega)
  · rcases W2 p hp with ⟨x1, x2⟩ | ⟨_, _, x3⟩
    · rw [x1] at hq
      rcases e1.2.2.2.1 p hp with ⟨w, _⟩ | ⟨_, _, q1, q2⟩
      · exact absurd w hq
      · rw [x2] at z1 z2 ⊢
        rw [h1 z (by omega)]
        exact o4 p hp hq z z1 z2
    · exact (ho z).2 p hp hq x3 z1 z2
theorem BG.lg (h : BG c s L N Nm) (W : CG s G rs s' G' rs' cc) (hc : cc ≤ 2) : BG (c + 18) s' L N Nm := by
  obtain ⟨_, _, _, w1, w2⟩ := W
  have h1 := h.1
  have h2 := h.2
  constructor <;> omega
theorem vQ.va (h : vQ f r N.1 q) (h1 : 128 ≤ r) (h2 : r + 4 < n) (hN : N.1 < 2 ^ 31) : VA (n, f, us) r N.1 q := ⟨⟨h (r, _) List.mem_cons_self, h (r + 1, _) (List.mem_cons_of_mem _ List.mem_cons_self), h (r + 2, _) (List.mem_cons_of_mem _ (List.mem_cons_of_mem _ List.mem_cons_self)), h (r + 3, _) (List.mem_cons_of_mem _ (List.mem_cons_of_mem _ (List.mem_cons_of_mem _ List.mem_cons_self))), h (r + 4, _) (List.mem_cons_of_mem _ (List.mem_cons_of_mem _ (List.mem_cons_of_mem _ (List.mem_cons_of_mem _ List.mem_cons_self))))⟩, h1, h2, hN⟩
theorem vQ.v1 (h : vQ f r 1 q) (h1 : 128 ≤ r) (h2 : r + 4 < n) : VA (n, f, us) r 1 q := vQ.va (N := (1, 0, 0)) h h1 h2 (by decide)
theorem ub_ub {x z : Value} : updV (updV b k x) k z = updV b k z := by
  funext j
  unfold updV
  by_cases c : j = k
  · rw [if_pos c, if_pos c]
  · rw [if_neg c, if_neg c, if_neg c]
theorem ub_id {x : Value} (h : b k = x) : updV b k x = b := by
  funext j
  unfold updV
  by_cases c : j = k
  · rw [if_pos c, c, h]
  · rw [if_neg c]
theorem e_sayP (hn : 1311 ≤ n) (M : OM f b) (b1 : b 1 = .ref 162) (b3 : b 3 = .int om) (h2 : f 162 = .inl (.byte, 600, fun j => .int (ob j))) (hO : OR O om ob) {x : Nat} (hx : x < 128) : ∃ f' om' ob' t, x_Mod_say d 160 (nI x) (n, f, us) = some (t, (n, f', us)) ∧ OM f' (updV b 3 (.int om')) ∧ f' 162 = .inl (.byte, 600, fun j => .int (ob' j)) ∧ OR (s_add O (nI x)) om' ob' ∧ ∀ z, ¬ z = 160 → ¬ z = 162 → f' z = f z := by
  obtain ⟨rfl, p2, p3⟩ := hO
  unfold x_Mod_say
  rw [mo_gd M hn, mo_gI M hn (by decide) b3, Option.bind_some]
  by_cases c : O.1 = 600
  · rw [if_pos (show nI O.1 = 600 by rw [c]; rfl)]
    refine ⟨f, _, ob, _, rfl, by rw [ub_id b3]; exact M, h2, ?_, fun _ _ _ => rfl⟩
    unfold s_add
    rw [if_neg (by omega), if_neg (by omega), if_neg (by omega)]
    exact ⟨rfl, p2, p3⟩
  · have s0 := sB_of (s := (n, f, us)) (i := nI O.1) (x := (nI x).toInt8.toInt32.toInt8.toInt32) h2 (by decide) (show 162 < n by omega) (nI_pos (by omega)) (by rw [nI_clamp (by omega)]; omega)
    rw [nI_clamp (by omega)] at s0
    have M1 : OM (va_up f 162 (.inl (.byte, 600, fun j => .int (upI ob O.1 ((nI x).toInt8.toInt32.toInt8.toInt32) j)))) b := (va_up_ne _ _ (by decide)).trans M
    obtain ⟨f', e1, e2, e3⟩ := mo_p (us := us) (v := .int (nI (O.1 + 1))) M1 hn (show 3 < 53 by decide)
    rw [if_neg (show ¬ nI O.1 = 600 from fun w => c (nI_inj (b := 600) (by omega) (by decide) w)), mo_gR M hn (by decide) b1, Option.bind_some, Option.bind_some, s0, Option.bind_some]
    refine ⟨f', nI (O.1 + 1), upI ob O.1 (nI x), 1, ?_, e2, ?_, ?_, fun z z1 z2 => (e3 z z1).trans (va_up_ne _ _ z2)⟩
    · show (gI (n, va_up f 162 (.inl (.byte, 600, fun j => .int (upI ob O.1 ((nI x).toInt8.toInt32.toInt8.toInt32) j))), us) 160 14 3).bind _ = _
      rw [mo_gI M1 hn (by decide) b3, Option.bind_some, ← nI_succ]
      show (pV (n, va_up f 162 (.inl (.byte, 600, fun j => .int (upI ob O.1 ((nI x).toInt8.toInt32.toInt8.toInt32) j))), us) 160 14 3 (.int (nI (O.1 + 1)))).bind _ = _
      rw [e1, Option.bind_some]
    · rw [e3 _ (by decide), va_up_self, by_8 x hx, by_8 x hx]
    · unfold s_add
      rw [if_pos (by omega), if_pos (by omega), if_pos (by omega), by_8 x hx]
      refine ⟨rfl, by show O.1 + 1 ≤ 600; omega, fun j hj => ?_⟩
      have hj' : j < O.1 + 1 := hj
      show upI ob O.1 (nI x) j = upI O.2.2 O.1 (nI x) j ∧ ∃ x', x' < 128 ∧ upI ob O.1 (nI x) j = nI x'
      unfold upI
      by_cases q : j = O.1
      · rw [if_pos q, if_pos q]
        exact ⟨rfl, x, hx, rfl⟩
      · rw [if_neg q, if_neg q]
        exact p3 j (by omega)
theorem vl_L {wd : List Nat} (hn : 1311 ≤ n) (hw : okL wd) (hl : wd.length ≤ 16) (hq : q 0 = T8 wd) (b1 : b 1 = .ref 162) (b39 : b 39 = .ref 250) : ∀ m i M (f : Nat → am_C) (O : oS) (om : Int32) (ob : Nat → Int32), i + m = wd.length → m < M → OM f (updV b 3 (.int om)) → vQ f 250 1 q → f 162 = .inl (.byte, 600, fun j => .int (ob j)) → OR O om ob → ∃ f' om' ob', loopK (vlB d) M (nI i, (n, f, us)) = some (1099511627777, (n, f', us)) ∧ OM f' (updV b 3 (.int om')) ∧ f' 162 = .inl (.byte, 600, fun j => .int (ob' j)) ∧ OR (s_at (T7 wd).1 (T7 wd).2 m i O) om' ob' ∧ ∀ z, ¬ z = 160 → ¬ z = 162 → f' z = f z
  | _, _, 0, _, _, _, _, _, h, _, _, _, _ => by omega
  | 0, i, M + 1, f, O, om, ob, e, _, h1, h2, h3, h4 => by
    refine ⟨f, om, ob, ?_, h1, h3, h4, fun _ _ _ => rfl⟩
    have V := h2.v1 (n := n) (us := us) (by decide) (by omega)
    have b39' : updV b 3 (.int om) 39 = .ref 250 := (ub_ne (by decide)).trans b39
    have a0 : aI (n, f, us) 252 0 = some (nI wd.length) := (aI_of (s := (n, f, us)) (i := 0) V.1.2.2.1 (by decide) (show 252 < n by omega) (by decide) (by decide)).trans (by show some (q 0).2.1 = some (nI wd.length); rw [hq]; rfl)
    rw [loopK_succ, vlB_eq, mo_gR h1 hn (by decide) b39', Option.bind_some, gR_of (s := (n, f, us)) (k := 1) (x := 252) V.1.1 (by decide) (show 250 < n by omega) rfl, Option.bind_some, a0, Option.bind_some, if_pos (nI_le (by omega) (by omega))]
  | m + 1, i, M + 1, f, O, om, ob, e, hM, h1, h2, h3, h4 => by
    have V := h2.v1 (n := n) (us := us) (by decide) (by omega)
    have b39' : updV b 3 (.int om) 39 = .ref 250 := (ub_ne (by decide)).trans b39
    have b1' : updV b 3 (.int om) 1 = .ref 162 := (ub_ne (by decide)).trans b1
    have a0 : aI (n, f, us) 252 0 = some (nI wd.length) := (aI_of (s := (n, f, us)) (i := 0) V.1.2.2.1 (by decide) (show 252 < n by omega) (by decide) (by decide)).trans (by show some (q 0).2.1 = some (nI wd.length); rw [hq]; rfl)
    have gd := hw.getD (show i < wd.length by omega)
    obtain ⟨f1, om1, ob1, t, k1, k2, k3, k4, k5⟩ := e_sayP (d := d) (us := us) hn h1 b1' ub_self h3 h4 gd.2
    rw [ub_ub] at k2
    obtain ⟨f2, om2, ob2, j1, j2, j3, j4, j5⟩ := vl_L hn hw hl hq b1 b39 m (i + 1) M f1 _ om1 ob1 (by omega) (by omega) k2 (h2.keep (fun z z1 z2 => k5 z (by omega) (by omega))) k3 k4
    refine ⟨f2, om2, ob2, ?_, j2, j3, ?_, fun z z1 z2 => (j5 z z1 z2).trans (k5 z z1 z2)⟩
    · rw [loopK_succ, vlB_eq, mo_gR h1 hn (by decide) b39', Option.bind_some, gR_of (s := (n, f, us)) (k := 1) (x := 252) V.1.1 (by decide) (show 250 < n by omega) rfl, Option.bind_some, a0, Option.bind_some, if_neg (nI_ge (by omega) (by omega)), Option.bind_some, show (0 : Int32) = nI 0 from rfl, e_sgn V (by decide), bnd_some, hq, t8_sign hw hl (by omega), k1, bnd_some, ← nI_succ]
      exact j1
    · rw [s_at, t7_sign hw (by omega)]
      exact j4
theorem OCc.clr (h : OCc f O) (hn : 1311 ≤ n) : ∃ f', x_Out_clear d 130 (n, f, us) = some ((), (n, f', us)) ∧ OCc f' (0, 0, O.2.2) ∧ ∀ z, ¬ z = 130 → f' z = f z := by
  have e1 := pV_of (s := (n, f, us)) (k := 1) (v := .int 0) h.1 (by decide) (show 130 < n by omega) (by show _ < 3; decide)
  have e2 := pV_of (s := (n, va_up f 130 (.inr (0, [.ref 131, .int 0, .int O.2.1])), us)) (k := 2) (v := .int 0) (va_up_self _ _ _) (by decide) (show 130 < n by omega) (by show _ < 3; decide)
  refine ⟨va_up (va_up f 130 (.inr (0, [.ref 131, .int 0, .int O.2.1]))) 130 (.inr (0, [.ref 131, .int (nI 0), .int 0])), ?_, ⟨va_up_self _ _ _, ?_⟩, fun z hz => ?_⟩
  · unfold x_Out_clear
    rw [gd_of (s := (n, f, us)) h.1 (by decide) (show 130 < n by omega), e1, Option.bind_some]
    show (pV (n, va_up f 130 (.inr (0, [.ref 131, .int 0, .int O.2.1])), us) 130 0 2 (.int 0)).bind _ = _
    rw [e2, Option.bind_some]
    rfl
  · rw [va_up_ne _ _ (by decide), va_up_ne _ _ (by decide)]
    exact h.2
  · rw [va_up_ne _ _ hz, va_up_ne _ _ hz]
theorem HO_o {x : Nat} (h : ¬ x = 130) (h' : ¬ x = 131) : HO f O x = f x := by
  unfold HO
  rw [if_neg h, if_neg h']
theorem J_value (H : INV c s) : JM c s (x_Stow_value (d + 3 + 1) 128) (x_Mod_value_ (d + 3 + 1) 160) := by
  have H0 := H
  obtain ⟨L, g, O, w, sb, bys, SS, FF, v, fu, om, ob, lg, Rn, Rs, WR, q0, ⟨I, N, hh, tt, Nm, st, rs, un, X, own, C, B⟩, ⟨b, nw, wr, pn, ps, pp, X', R⟩, Q⟩ := H
  obtain ⟨n, f, us⟩ := s
  have hn : 1311 ≤ n := C.nn
  have c1 : c128 f L v fu := C.1.1
  have M : OM f b := R.1.1
  have b39 : b 39 = .ref 250 := R.rf (by decide)
  obtain ⟨kd, hV⟩ := Q.2.2.2.2.2
  have hs := hV.sort
  obtain ⟨qq, hq, hq0⟩ := R.2.1.2.2.2.2.2.2.2.2.2.2.1
  have V := hq.v1 (n := n) (us := us) (by decide) (by omega)
  have a0 := aI_of (s := (n, f, us)) (i := 0) V.1.2.1 (by decide) (show 251 < n by omega) (by decide) (by decide)
  have a3 := aL_of (s := (n, f, us)) (i := 0) V.1.2.2.2.1 (by decide) (show 253 < n by omega) (by decide) (by decide)
  replace a0 : aI (n, f, us) 251 0 = some q0.1 := by rw [← hq0]; exact a0
  replace a3 : aL (n, f, us) 253 0 = some q0.2.2.1 := by rw [← hq0]; exact a3
  by_cases h2 : q0.1 = 2
  · obtain ⟨wd, w1, w2, rfl, rfl⟩ : ∃ wd, okL wd ∧ wd.length ≤ 16 ∧ v = T7 wd ∧ q0 = T8 wd := by
      rcases hV with ⟨_, rfl⟩ | ⟨_, _, rfl⟩ | h | ⟨_, k, _, k1, _, _, rfl⟩
      · exact absurd h2 (by decide)
      · exact absurd (show (1 : Int32) = 2 from h2) (by decide)
      · exact h
      · rcases k1 with rfl | rfl
        · exact absurd (show (3 : Int32) = 2 from h2) (by decide)
        · exact absurd (show (4 : Int32) = 2 from h2) (by decide)
    obtain ⟨f1, e1, e2, e3⟩ := C.2.2.1.1.clr (d := d + 3) (us := us) hn
    have c2 : c128 f1 L (T7 wd) fu := (e3 _ (by decide)).trans c1
    have e4 := e_OutText (d := d + 1) (n := n) (us := us) (f := f1) (O := (0, 0, O.2.2)) (by omega) (Nat.zero_le 600) (x0 := (T7 wd).1) (x1 := (T7 wd).2)
    rw [e2.eq, t7_many w1 w2] at e4
    have W2 : oW (s_at (T7 wd).1 (T7 wd).2 wd.length 0 (0, 0, O.2.2)) := oW_at _ _ _ ⟨Nat.zero_le 600, Or.inl rfl⟩
    generalize hO2 : s_at (T7 wd).1 (T7 wd).2 wd.length 0 (0, 0, O.2.2) = O2 at e4 W2
    have c3 : c128 (HO f1 O2) L (T7 wd) fu := (HO_o (by decide) (by decide)).trans c2
    have C1 : CKx (n, HO f1 O2, us) L g I N hh tt Nm O2 (w, sb, st, bys) rs SS un FF (T7 wd) fu X own := C.top (Nat.le_refl _) (fun z _ _ _ z3 z4 => (HO_o z3 z4).trans (e3 z z3)) c3 C.1.2.1 ((HO_o (O := O2) (by decide) (by decide)).trans ((e3 _ (by decide)).trans C.tape)) C.1.2.2 (OCc.mk _ _) W2
    have R1 : RKx (n, HO f1 O2, us) b L g om ob nw w lg Rn Rs wr WR pn ps pp FF (T8 wd) fu X' := R.keep (Nat.le_refl _) (fun z z1 z2 => (HO_o (by omega) (by omega)).trans (e3 z (by omega)))
    have M1 : OM (HO f1 O2) b := R1.1.1
    obtain ⟨f3, g1, g2, g3⟩ := mo_p (us := us) (v := .int 0) M1 hn (show 3 < 53 by decide)
    obtain ⟨qq', hq', hq0'⟩ := R1.2.1.2.2.2.2.2.2.2.2.2.2.1
    have V' := hq'.v1 (n := n) (us := us) (by decide) (by omega)
    have a0' := aI_of (s := (n, HO f1 O2, us)) (i := 0) V'.1.2.1 (by decide) (show 251 < n by omega) (by decide) (by decide)
    replace a0' : aI (n, HO f1 O2, us) 251 0 = some 2 := by
      rw [a0']
      show some (qq' 0).1 = _
      rw [hq0']
      rfl
    obtain ⟨f4, om4, ob4, j1, j2, j3, j4, j5⟩ := vl_L (d := d + 3) (us := us) hn w1 w2 hq0' (R1.rf (by decide)) (R1.rf (by decide)) wd.length 0 FU f3 (0, 0, O.2.2) 0 ob (by omega) (by rw [FU_eq]; omega) g2 (hq'.keep (fun z z1 z2 => g3 z (by omega))) ((g3 _ (by decide)).trans R1.out) ⟨rfl, Nat.zero_le 600, fun j hj => absurd hj (Nat.not_lt_zero _)⟩
    rw [hO2] at j4
    refine ⟨1099511627777, (n, HO f1 O2, us), (n, f4, us), ?_, ?_, L, g, O2, w, sb, bys, SS, FF, T7 wd, fu, om4, ob4, lg, Rn, Rs, WR, T8 wd, ⟨I, N, hh, tt, Nm, st, rs, un, X, own, C1.keep (Nat.le_refl _) (fun z z1 z2 => (j5 z (by omega) (by omega)).trans (g3 z (by omega))), B.mono (by omega)⟩, ⟨_, nw, wr, pn, ps, pp, X', R1.top (Nat.le_refl _) j2 R1.1.2.2.1.u3 (R1.2.1.chg ((j5 _ (by decide) (by decide)).trans ((g3 _ (by decide)).trans R1.tape)) j3 (fun z z1 z2 _ => (j5 z (by omega) (by omega)).trans (g3 z (by omega)))) (fun z z1 z2 _ => (j5 z (by omega) (by omega)).trans (g3 z (by omega)))⟩, Q.1, Q.2.1, Q.2.2.1, Q.2.2.2.1, j4, kd, hV⟩
    · unfold x_Stow_value
      dsimp only
      rw [c1.lk hn, c1.gh hn, Option.bind_some, e_Cell_sortOf, bnd_some, hs, if_pos h2, c1.gr hn (k := 2) rfl, Option.bind_some, e1, bnd_some, c2.gr hn (k := 2) rfl, Option.bind_some, c2.gh hn, Option.bind_some, c2.gt hn, Option.bind_some, e4, bnd_some, c3.gh hn, Option.bind_some, c3.gt hn, Option.bind_some, e_Stow_asAnswer, bnd_some]
      unfold s_Stow_asAnswer
      rw [hs, h2, if_neg (by decide), if_pos rfl]
    · unfold x_Mod_value_
      dsimp only
      rw [mo_gd M1 hn, mo_gR M1 hn (by decide) (R1.rf (show (39, 250) ∈ rfL by decide)), Option.bind_some, gR_of (s := (n, HO f1 O2, us)) (k := 0) (x := 251) V'.1.1 (by decide) (show 250 < n by omega) rfl, Option.bind_some, a0', Option.bind_some, if_neg (by decide), if_neg (by decide), if_pos rfl, g1, Option.bind_some]
      exact j1
  · refine ⟨s_Stow_asAnswer v.1 v.2, (n, f, us), (n, f, us), ?_, ?_, H0.mono (by omega)⟩
    · unfold x_Stow_value
      dsimp only
      rw [c1.lk hn, c1.gh hn, Option.bind_some, e_Cell_sortOf, bnd_some, hs, if_neg h2, c1.gh hn, Option.bind_some, c1.gt hn, Option.bind_some, e_Stow_asAnswer, bnd_some]
    · unfold x_Mod_value_ s_Stow_asAnswer
      dsimp only
      rw [mo_gd M hn, mo_gR M hn (by decide) b39, Option.bind_some, gR_of (s := (n, f, us)) (k := 0) (x := 251) V.1.1 (by decide) (show 250 < n by omega) rfl, Option.bind_some, a0, Option.bind_some, hs]
      rcases hV with ⟨rfl, rfl⟩ | ⟨x, rfl, rfl⟩ | ⟨wd, _, _, rfl, rfl⟩ | ⟨o, k, o1, k1, o2, rfl, rfl⟩
      · rfl
      · show (if (1 : Int32) = 0 then _ else _) = _
        rw [if_neg (by decide), if_pos rfl, if_pos rfl, Option.bind_some, gR_of (s := (n, f, us)) (k := 2) (x := 253) V.1.1 (by decide) (show 250 < n by omega) rfl, Option.bind_some, a3, Option.bind_some]
      · exact absurd rfl h2
      · rcases k1 with rfl | rfl
        · rfl
        · rfl
end
