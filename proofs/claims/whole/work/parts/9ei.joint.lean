def a4B (x1 : Int32) : (Int32 × HS → Option (Unit × HS)) → Int32 × HS → Option (Unit × HS) := (fun (again3 : Int32 × HS → Option (Unit × HS)) (z3 : Int32 × HS) => (if z3.1 < 0 then (some ((), z3.2)) else ((gI z3.2 128 9 1).bind fun v1 => (if 1500 ≤ v1 then (some ((), z3.2)) else ((gR z3.2 128 9 0).bind fun v2 => ((gI z3.2 128 9 1).bind fun v3 => ((sV z3.2 .byte v2 v3 (.int ((((x1 : Int32) >>> ((z3.1 : Int32) &&& 31)) : Int32).toInt8.toInt32 : Int32).toInt8.toInt32)).bind fun s4 => ((gI s4 128 9 1).bind fun v5 => ((pV s4 128 9 1 (.int (v5 + 1))).bind fun s6 => (again3 ((z3.1 + (-8)), s6)))))))))))
theorem a4B_eq {x1 : Int32} {z : Int32} {s : HS} {ag : Int32 × HS → Option (Unit × HS)} : a4B x1 ag (z, s) = (if z < 0 then (some ((), s)) else ((gI s 128 9 1).bind fun v1 => (if 1500 ≤ v1 then (some ((), s)) else ((gR s 128 9 0).bind fun v2 => ((gI s 128 9 1).bind fun v3 => ((sV s .byte v2 v3 (.int ((((x1 : Int32) >>> ((z : Int32) &&& 31)) : Int32).toInt8.toInt32 : Int32).toInt8.toInt32)).bind fun s4 => ((gI s4 128 9 1).bind fun v5 => ((pV s4 128 9 1 (.int (v5 + 1))).bind fun s6 => (ag ((z + (-8)), s6)))))))))) := rfl
def mfB (a0 : Nat) : (Int32 × HS → Option (Int32 × HS)) → Int32 × HS → Option (Int32 × HS) := (fun (again46 : Int32 × HS → Option (Int32 × HS)) (z46 : Int32 × HS) => (if 20 ≤ z46.1 then ((gI z46.2 160 14 2).bind fun v8 => ((pV z46.2 160 14 2 (.int (v8 + 20))).bind fun s9 => ((gI s9 160 14 2).bind fun v10 => (some (v10, s9))))) else ((gR z46.2 160 14 0).bind fun v11 => ((gI z46.2 160 14 2).bind fun v12 => ((aI z46.2 a0 (z46.1 / 4)).bind fun v13 => ((sV z46.2 .byte v11 (v12 + z46.1) (.int ((((v13 : Int32) >>> (((24 - (8 * (z46.1 - z46.1 / 4 * 4))) : Int32) &&& 31)) : Int32).toInt8.toInt32 : Int32).toInt8.toInt32)).bind fun s14 => (again46 ((z46.1 + 1), s14))))))))
theorem mfB_eq {a0 : Nat} {z : Int32} {s : HS} {ag : Int32 × HS → Option (Int32 × HS)} : mfB a0 ag (z, s) = (if 20 ≤ z then ((gI s 160 14 2).bind fun v8 => ((pV s 160 14 2 (.int (v8 + 20))).bind fun s9 => ((gI s9 160 14 2).bind fun v10 => (some (v10, s9))))) else ((gR s 160 14 0).bind fun v11 => ((gI s 160 14 2).bind fun v12 => ((aI s a0 (z / 4)).bind fun v13 => ((sV s .byte v11 (v12 + z) (.int ((((v13 : Int32) >>> (((24 - (8 * (z - z / 4 * 4))) : Int32) &&& 31)) : Int32).toInt8.toInt32 : Int32).toInt8.toInt32)).bind fun s14 => (ag ((z + 1), s14))))))) := rfl

/-! class and reference between two calls; feed, end, octet -/
abbrev rBy (R : RS) : Int32 := R.2.2.2.2.2.2.2.2.2.2.2
def RL (w : Nat) (sb : Int32) (bys : Nat → Int32) (lg : Int32) (SS : Nat → SC) (Rn Rs : RS) (WR : Nat → RS) (O : oS) (om : Int32) (ob : Nat → Int32) (v : V2) (q0 : VQ) : Prop := SR (SS w) Rn ∧ SR (SS 0) Rs ∧ (∀ t, t < w → SR (SS (t + 1)) (WR t) ∧ ∃ x, x ≤ 1000000 ∧ bys (t + 1) = nI x ∧ rBy (WR t) = nI x) ∧ lg = sb + byS bys w 1 ∧ OR O om ob ∧ ∃ kd, VR kd v q0
def INV (c : Nat) (s : HS) : Prop := ∃ (L : Nat) (g : Nat → Int32) (O : oS) (w : Nat) (sb : Int32) (bys : Nat → Int32) (SS : Nat → SC) (FF : Nat → FTb) (v : V2) (fu : Int32) (om : Int32) (ob : Nat → Int32) (lg : Int32) (Rn Rs : RS) (WR : Nat → RS) (q0 : VQ), CKk c s L g O w sb bys SS FF v fu ∧ RKk s L g om ob w lg Rn Rs WR FF q0 fu ∧ RL w sb bys lg SS Rn Rs WR O om ob v q0
/-- a call on both sides -/
def JM {α : Type} (c : Nat) (s : HS) (A B : HS → Option (α × HS)) : Prop := ∃ r s1 s2, A s = some (r, s1) ∧ B s1 = some (r, s2) ∧ INV (c + 19) s2
section
variable {s s' : HS} {c c' L L' hh tt Nm r w n us d k y : Nat} {g g' : Nat → Int32} {ws : Nat → Int64} {I : ID} {N : N3} {O O' : oS} {G : LGS} {rs : Nat → Nat} {SS : Nat → SC} {un : Nat → Nat → Nat} {uq : Nat → Nat} {FF : Nat → FTb} {F : FTb} {S : SC} {v v' : V2} {fu fu' sb : Int32} {bys : Nat → Int32} {X : SWs} {own : Nat → Nat} {f f' : Nat → am_C}
theorem BG.mono (h : BG c s L N Nm) (hc : c ≤ c') : BG c' s L N Nm := ⟨by have := h.1; omega, by have := h.2; omega⟩
theorem CKx.pi (h : CKx s L g I N hh tt Nm O G rs SS un FF v fu X own) {z : Nat} (hz : PI I z) : ¬ z = 128 ∧ ¬ z = 129 ∧ ¬ z = 130 ∧ ¬ z = 131 ∧ ¬ z = 134 ∧ (z < 148 ∨ 1310 < z) := by
  have h1 := h.2.2.2.2.2.2.2
  have o1 := h1.2.1 z hz
  have ne : ∀ k, k < 1311 → ¬ fxT k = 1 → ¬ z = k := fun k hk hf e => hf (by rw [← h1.1 k hk, ← e, o1])
  refine ⟨ne _ (by decide) (by decide), ne _ (by decide) (by decide), ne _ (by decide) (by decide), ne _ (by decide) (by decide), ne _ (by decide) (by decide), ?_⟩
  by_cases c : z < 148
  · exact Or.inl c
  · by_cases c' : 1310 < z
    · exact Or.inr c'
    · have e := h1.1 z (by omega)
      rw [o1] at e
      unfold fxT at e
      rw [if_neg (by omega), if_neg (by omega), if_neg (by omega), if_neg (by omega), if_neg (by omega)] at e
      by_cases d1 : z ≤ 153
      · rw [if_pos d1] at e
        exact absurd e (by decide)
      · rw [if_neg d1] at e
        by_cases d2 : z ≤ 156
        · rw [if_pos d2] at e
          exact absurd e (by decide)
        · rw [if_neg d2] at e
          by_cases d3 : z ≤ 159
          · rw [if_pos d3] at e
            exact absurd e (by decide)
          · rw [if_neg d3] at e
            exact absurd e (by decide)
theorem CKx.nn (h : CKx s L g I N hh tt Nm O G rs SS un FF v fu X own) : 1311 ≤ s.1 := h.2.2.2.2.1.2.1
theorem CKx.tape (h : CKx s L g I N hh tt Nm O G rs SS un FF v fu X own) : s.2.1 129 = .inl (.byte, 1500, fun j => .int (g j)) := by
  obtain ⟨ws, b1, _⟩ := h.2.1
  exact b1.2.2.1
/-- the top of the class is changed: tape, what is printed, VALUE -/
theorem CKx.top (h : CKx s L g I N hh tt Nm O G rs SS un FF v fu X own) (hn : s.1 ≤ s'.1) (hf : ∀ z, z < s.1 → ¬ z = 128 → ¬ z = 129 → ¬ z = 130 → ¬ z = 131 → s'.2.1 z = s.2.1 z) (h1 : c128 s'.2.1 L' v' fu') (hL : L' ≤ 1500) (ht : s'.2.1 129 = .inl (.byte, 1500, fun j => .int (g' j))) (hb : ∀ j, j < 1500 → isBt (g' j)) (hO : OCc s'.2.1 O') (hw : oW O') : CKx s' L' g' I N hh tt Nm O' G rs SS un FF v' fu' X own := by
  have hp := fun z (hz : PI I z) => h.pi hz
  have hN := h.nn
  obtain ⟨⟨a1, a2, a3⟩, ⟨ws, b1, b2⟩, ⟨c1, c2⟩, d1, e1, f1, ⟨g1, g2⟩, o1⟩ := h
  have hi : ∀ z, 131 < z → z < s.1 → s'.2.1 z = s.2.1 z := fun z z1 z2 => hf z z2 (by omega) (by omega) (by omega) (by omega)
  have pz : ∀ z, PI I z → s'.2.1 z = s.2.1 z := fun z hz => hf z (b1.2.2.2.2.2.2.2.2.2 z hz) (hp z hz).1 (hp z hz).2.1 (hp z hz).2.2.1 (hp z hz).2.2.2.1
  refine ⟨⟨h1, hL, hb⟩, ⟨ws, ?_, b2⟩, ⟨hO, hw⟩, d1.keep hn (fun z hz => ?_), e1.keep hn (fun z z1 z2 => hi z (by omega) (by omega)) (fun p hp hq z z1 z2 => ?_), fun p hp => (f1 p hp).keep hn (fun z z1 z2 _ => hi z (by omega) z2) (fun _ _ => rfl), ⟨g1.keep (fun z z1 z2 => hi z (by omega) (by omega)), g2⟩, o1⟩
  · obtain ⟨⟨dr, pg, fa, sg, q1⟩, ⟨tx, ln, a, q2⟩, q3, q4, q5, q6, q7, ⟨k, un, q8⟩, q9, q10⟩ := b1
    refine ⟨⟨dr, pg, fa, sg, (pz 132 (Or.inl rfl)).trans q1⟩, ⟨tx, ln, a, (pz 133 (Or.inr (Or.inl rfl))).trans q2⟩, ht, (hi 134 (by decide) (by omega)).trans q4, Nat.le_trans q5 hn, q6.keep hn (fun z hz => pz z ?_), q7.keep hn (fun z hz => pz z ?_), ⟨k, un, q8.keep hn (pz _ ?_) (fun _ => pz _ ?_)⟩, q9, fun z hz => Nat.lt_of_lt_of_le (q10 z hz) hn⟩
    · unfold PI
      rcases hz with e | e | e | e
      · exact Or.inr (Or.inr (Or.inl e))
      · exact Or.inr (Or.inr (Or.inr (Or.inr (Or.inr (Or.inl e)))))
      · exact Or.inr (Or.inr (Or.inr (Or.inr (Or.inr (Or.inr (Or.inl e))))))
      · exact Or.inr (Or.inr (Or.inr (Or.inr (Or.inr (Or.inr (Or.inr (Or.inl e)))))))
    · unfold PI
      rcases hz with e | e | e | e
      · exact Or.inr (Or.inr (Or.inr (Or.inl e)))
      · exact Or.inr (Or.inr (Or.inr (Or.inr (Or.inr (Or.inr (Or.inr (Or.inr (Or.inl e))))))))
      · exact Or.inr (Or.inr (Or.inr (Or.inr (Or.inr (Or.inr (Or.inr (Or.inr (Or.inr (Or.inl e)))))))))
      · exact Or.inr (Or.inr (Or.inr (Or.inr (Or.inr (Or.inr (Or.inr (Or.inr (Or.inr (Or.inr (Or.inl e))))))))))
    · exact Or.inr (Or.inr (Or.inr (Or.inr (Or.inl rfl))))
    · exact Or.inr (Or.inr (Or.inr (Or.inr (Or.inr (Or.inr (Or.inr (Or.inr (Or.inr (Or.inr (Or.inr rfl))))))))))
  · have m := d1.2.2.2.2.2.2
    exact hi z (by omega) (by omega)
  · rcases e1.2.2.2.1 p hp with ⟨w, _⟩ | ⟨_, _, w1, w2⟩
    · exact absurd w hq
    · exact hi z (by omega) (by omega)
theorem c128.lk (h : c128 f L v fu) (hn : 1311 ≤ n) {β : Type} {x : Option β} : gd (n, f, us) 128 9 x = x := gd_of (s := (n, f, us)) h (by decide) (show 128 < n by omega)
theorem c128.gi (h : c128 f L v fu) (hn : 1311 ≤ n) : gI (n, f, us) 128 9 1 = some (nI L) := gI_of (s := (n, f, us)) h (by decide) (show 128 < n by omega) rfl
theorem c128.gf (h : c128 f L v fu) (hn : 1311 ≤ n) : gI (n, f, us) 128 9 9 = some fu := gI_of (s := (n, f, us)) h (by decide) (show 128 < n by omega) rfl
theorem c128.gh (h : c128 f L v fu) (hn : 1311 ≤ n) : gL (n, f, us) 128 9 7 = some v.1 := gL_of (s := (n, f, us)) h (by decide) (show 128 < n by omega) rfl
theorem c128.gt (h : c128 f L v fu) (hn : 1311 ≤ n) : gL (n, f, us) 128 9 8 = some v.2 := gL_of (s := (n, f, us)) h (by decide) (show 128 < n by omega) rfl
theorem c128.gr (h : c128 f L v fu) (hn : 1311 ≤ n) (hk : ([.ref 129, .int (nI L), .ref 130, .ref 132, .ref 148, .ref 154, .ref 157, .long v.1, .long v.2, .int fu] : List Value)[k]? = some (.ref y)) : gR (n, f, us) 128 9 k = some y := gR_of (s := (n, f, us)) h (by decide) (show 128 < n by omega) hk
theorem c128.p1 (h : c128 f L v fu) (hn : 1311 ≤ n) : ∃ f', pV (n, f, us) 128 9 1 (.int (nI L')) = some (n, f', us) ∧ c128 f' L' v fu ∧ ∀ z, ¬ z = 128 → f' z = f z := ⟨_, pV_of (s := (n, f, us)) h (by decide) (show 128 < n by omega) (by show 1 < 10; decide), va_up_self _ _ _, fun z hz => va_up_ne _ _ hz⟩
theorem isBt_8 (x : Int32) : isBt x.toInt8.toInt32 := by
  unfold isBt
  simp
def byt (x z : Int32) : Int32 := (((x >>> (z &&& 31)) : Int32).toInt8.toInt32 : Int32).toInt8.toInt32
theorem up_bt {b : Int32} (h : ∀ j, j < 1500 → isBt (g j)) (hb : isBt b) : ∀ j, j < 1500 → isBt (upI g k b j) := fun j hj => by
  unfold upI
  by_cases c : j = k
  · rw [if_pos c]
    exact hb
  · rw [if_neg c]
    exact h j hj
theorem a4_step {x z : Int32} {ag : Int32 × HS → Option (Unit × HS)} (hn : 1311 ≤ n) (h : c128 f L v fu) (ht : f 129 = .inl (.byte, 1500, fun j => .int (g j))) (hL : L < 1500) (hz : ¬ z < 0) : ∃ f', a4B x ag (z, (n, f, us)) = ag (z + (-8), (n, f', us)) ∧ c128 f' (L + 1) v fu ∧ f' 129 = .inl (.byte, 1500, fun j => .int (upI g L (byt x z) j)) ∧ ∀ y, ¬ y = 128 → ¬ y = 129 → f' y = f y := by
  have h' : c128 (va_up f 129 (.inl (.byte, 1500, fun j => .int (upI g L (byt x z) j)))) L v fu := (va_up_ne _ _ (by decide)).trans h
  obtain ⟨f', e1, e2, e3⟩ := h'.p1 (us := us) (L' := L + 1) hn
  refine ⟨f', ?_, e2, (e3 _ (by decide)).trans (va_up_self _ _ _), fun y y1 y2 => (e3 _ y1).trans (va_up_ne _ _ y2)⟩
  have s0 := sB_of (s := (n, f, us)) (i := nI L) (x := byt x z) ht (by decide) (show 129 < n by omega) (nI_pos (by omega)) (by rw [nI_clamp (by omega)]; exact hL)
  rw [nI_clamp (by omega)] at s0
  rw [a4B_eq, if_neg hz, h.gi hn, Option.bind_some, if_neg (show ¬ (1500 : Int32) ≤ nI L from nI_ge (b := 1500) hL (by decide)), h.gr hn (k := 0) rfl, Option.bind_some, Option.bind_some]
  unfold byt at s0
  rw [s0, Option.bind_some]
  show (gI (n, va_up f 129 (.inl (.byte, 1500, fun j => .int (upI g L (byt x z) j))), us) 128 9 1).bind _ = _
  rw [h'.gi hn, Option.bind_some, ← nI_succ]
  show (pV (n, va_up f 129 (.inl (.byte, 1500, fun j => .int (upI g L (byt x z) j))), us) 128 9 1 (.int (nI (L + 1)))).bind _ = _
  rw [e1, Option.bind_some]
def f4 (g : Nat → Int32) (L : Nat) (x : Int32) : Nat → Int32 := upI (upI (upI (upI g L (byt x 24)) (L + 1) (byt x 16)) (L + 2) (byt x 8)) (L + 3) (byt x 0)
theorem e_a4 {x : Int32} (hn : 1311 ≤ n) (h : c128 f L v fu) (ht : f 129 = .inl (.byte, 1500, fun j => .int (g j))) (hL : L + 4 ≤ 1500) : ∃ f', x_Stow_addFour d 128 x (n, f, us) = some ((), (n, f', us)) ∧ c128 f' (L + 4) v fu ∧ f' 129 = .inl (.byte, 1500, fun j => .int (f4 g L x j)) ∧ ∀ y, ¬ y = 128 → ¬ y = 129 → f' y = f y := by
  have key : ∀ M, 5 ≤ M → ∃ f', loopK (a4B x) M (24, (n, f, us)) = some ((), (n, f', us)) ∧ c128 f' (L + 4) v fu ∧ f' 129 = .inl (.byte, 1500, fun j => .int (f4 g L x j)) ∧ ∀ y, ¬ y = 128 → ¬ y = 129 → f' y = f y := by
    intro M hM
    obtain ⟨M, rfl⟩ : ∃ m, M = m + 5 := ⟨M - 5, by omega⟩
    obtain ⟨f1, a1, b1, c1, d1⟩ := a4_step (x := x) (us := us) (z := 24) (ag := loopK (a4B x) (M + 4)) hn h ht (by omega) (by decide)
    obtain ⟨f2, a2, b2, c2, d2⟩ := a4_step (x := x) (us := us) (z := 16) (ag := loopK (a4B x) (M + 3)) hn b1 c1 (by omega) (by decide)
    obtain ⟨f3, a3, b3, c3, d3⟩ := a4_step (x := x) (us := us) (z := 8) (ag := loopK (a4B x) (M + 2)) hn b2 c2 (by omega) (by decide)
    obtain ⟨f4', a4, b4, c4, d4⟩ := a4_step (x := x) (us := us) (z := 0) (ag := loopK (a4B x) (M + 1)) hn b3 c3 (by omega) (by decide)
    refine ⟨f4', ?_, b4, c4, fun y y1 y2 => by rw [d4 y y1 y2, d3 y y1 y2, d2 y y1 y2, d1 y y1 y2]⟩
    rw [loopK_succ, a1, loopK_succ, show (24 : Int32) + -8 = 16 by decide, a2, loopK_succ, show (16 : Int32) + -8 = 8 by decide, a3, loopK_succ, show (8 : Int32) + -8 = 0 by decide, a4, loopK_succ, show (0 : Int32) + -8 = -8 by decide, a4B_eq, if_pos (by decide)]
  obtain ⟨f', k1, k2⟩ := key FU (by rw [FU_eq]; omega)
  refine ⟨f', ?_, k2⟩
  show gd (n, f, us) 128 9 (loopK (a4B x) FU (24, (n, f, us))) = _
  rw [h.lk hn, k1]
theorem f4_bt {x : Int32} (h : ∀ j, j < 1500 → isBt (g j)) : ∀ j, j < 1500 → isBt (f4 g L x j) := up_bt (up_bt (up_bt (up_bt h (isBt_8 _)) (isBt_8 _)) (isBt_8 _)) (isBt_8 _)
def f20 (g : Nat → Int32) (L : Nat) (x1 x2 x3 x4 x5 : Int32) : Nat → Int32 := f4 (f4 (f4 (f4 (f4 g L x1) (L + 4) x2) (L + 8) x3) (L + 12) x4) (L + 16) x5
theorem e_feedC {x1 x2 x3 x4 x5 : Int32} (hn : 1311 ≤ n) (h : c128 f L v fu) (ht : f 129 = .inl (.byte, 1500, fun j => .int (g j))) (hL : L ≤ 1500) : (¬ L + 20 ≤ 1500 ∧ x_Stow_feed (d + 1) 128 x1 x2 x3 x4 x5 (n, f, us) = some (-3, (n, f, us))) ∨ (L + 20 ≤ 1500 ∧ ∃ f', x_Stow_feed (d + 1) 128 x1 x2 x3 x4 x5 (n, f, us) = some (nI (L + 20), (n, f', us)) ∧ c128 f' (L + 20) v fu ∧ f' 129 = .inl (.byte, 1500, fun j => .int (f20 g L x1 x2 x3 x4 x5 j)) ∧ ∀ y, ¬ y = 128 → ¬ y = 129 → f' y = f y) := by
  unfold x_Stow_feed
  dsimp only
  rw [h.lk hn, h.gi hn, Option.bind_some, show (20 : Int32) = nI 20 from rfl, nI_ad2]
  by_cases c : L + 20 ≤ 1500
  · refine Or.inr ⟨c, ?_⟩
    obtain ⟨f1, a1, b1, c1, d1⟩ := e_a4 (d := d) (us := us) (x := x1) hn h ht (by omega)
    obtain ⟨f2, a2, b2, c2, d2⟩ := e_a4 (d := d) (us := us) (x := x2) hn b1 c1 (by omega)
    obtain ⟨f3, a3, b3, c3, d3⟩ := e_a4 (d := d) (us := us) (x := x3) hn b2 c2 (by omega)
    obtain ⟨f4, a4, b4, c4, d4⟩ := e_a4 (d := d) (us := us) (x := x4) hn b3 c3 (by omega)
    obtain ⟨f5, a5, b5, c5, d5⟩ := e_a4 (d := d) (us := us) (x := x5) hn b4 c4 (by omega)
    refine ⟨f5, ?_, b5, c5, fun y y1 y2 => by rw [d5 y y1 y2, d4 y y1 y2, d3 y y1 y2, d2 y y1 y2, d1 y y1 y2]⟩
    rw [if_pos (show nI (L + 20) ≤ 1500 from nI_le (a := L + 20) (b := 1500) c (by decide)), a1, bnd_some, a2, bnd_some, a3, bnd_some, a4, bnd_some, a5, bnd_some, (show c128 f5 (L + 20) v fu from b5).gi hn, Option.bind_some]
  · refine Or.inl ⟨c, ?_⟩
    rw [if_neg (show ¬ nI (L + 20) ≤ 1500 from nI_ge (a := 1500) (by omega) (by omega))]
end
