def mkW  : (Int32 × Int32 × HS → Option (Int32 × HS)) → Int32 × Int32 × HS → Option (Int32 × HS) := (fun (again87 : Int32 × Int32 × HS → Option (Int32 × HS)) (z87 : Int32 × Int32 × HS) => ((gI z87.2.2 160 14 34).bind fun v11 => (if v11 ≤ z87.2.1 then (some (z87.1, z87.2.2)) else ((gR z87.2.2 160 14 33).bind fun v12 => ((aR "StowTongueModel$State" z87.2.2 v12 z87.2.1).bind fun v13 => ((gI z87.2.2 v13 13 11).bind fun v14 => (again87 ((z87.1 + v14), (z87.2.1 + 1), z87.2.2))))))))
theorem mkW_eq  {y : Int32} {z : Int32} {s : HS} {ag : Int32 × Int32 × HS → Option (Int32 × HS)} : mkW  ag (y, z, s) = ((gI s 160 14 34).bind fun v11 => (if v11 ≤ z then (some (y, s)) else ((gR s 160 14 33).bind fun v12 => ((aR "StowTongueModel$State" s v12 z).bind fun v13 => ((gI s v13 13 11).bind fun v14 => (ag ((y + v14), (z + 1), s))))))) := rfl

/-! what waits: append and wait; sweep and count on both sides -/
def RKw (s : HS) (b : Nat → Value) (L : Nat) (g : Nat → Int32) (om : Int32) (ob : Nat → Int32) (nw w : Nat) (lg : Int32) (Rn : RS) (Fn : FTb) (Rs : RS) (wr : Nat → Nat) (WR : Nat → RS) (pn ps : Nat → Nat) (pp : Nat → Nat → Nat) (FF : Nat → FTb) (q0 : VQ) (fu : Int32) (X : SWs) : Prop := (OM s.2.1 b ∧ 1311 ≤ s.1 ∧ RBf b L om nw w lg fu X.2.2 ∧ w ≤ 8 ∧ (nw = 187 ∨ nw = 204)) ∧ RCl s.2.1 g ob q0 ∧ RPl s.2.1 nw Rn pn Fn ∧ RPl s.2.1 221 Rs ps (FF 0) ∧ (∃ Rw, RSt s.2.1 (391 - nw) Rw) ∧ (W8 s.2.1 wr WR ∧ ∀ t, t < w → RTb s.2.1 (WR t) (pp t) (FF (t + 1)) ∧ CDq (WR t)) ∧ PLh s.2.1 ∧ RRm s.2.1 X
section
variable {s s' : HS} {b b' : Nat → Value} {c K L nw w q n us d k k0 xx hh tt Nm : Nat} {g ob bys : Nat → Int32} {om lg lg' fu sb x : Int32} {R Rn Rn' Rs Rs' Q : RS} {wr pn pn' ps ps' pq uq : Nat → Nat} {WR : Nat → RS} {pp : Nat → Nat → Nat} {FF FF' : Nat → FTb} {F Fn : FTb} {q0 : VQ} {X X' : SWs} {f f' : Nat → am_C} {O : oS} {I : ID} {N : N3} {G : LGS} {rs : Nat → Nat} {st : Nat → Value} {SS : Nat → SC} {un : Nat → Nat → Nat} {v : V2} {own : Nat → Nat} {S : SC}
theorem RKx.tw (h : RKx s b L g om ob nw w lg Rn Rs wr WR pn ps pp FF q0 fu X) : RKw s b L g om ob nw w lg Rn (FF w) Rs wr WR pn ps pp FF q0 fu X := h
theorem RKw.wait1 (h : RKw (n, f, us) b L g om ob nw w lg Rn Fn Rs wr WR pn ps pp FF q0 fu X) (hw : w < 8) (hk : k ≤ 12) (ek : Rn.2.2.2.2.2.2.2.2.2.1 = nI k) : ∃ f' b' wr', x_Mod_wait (d + 3) 160 x (n, f, us) = some ((), (n, f', us)) ∧ (∀ z, z < 160 ∨ 1310 < z → f' z = f z) ∧ RKx (n, f', us) b' L g om ob nw (w + 1) (lg + x) Rn Rs wr' (upRR WR w (bsR (cpR (WR w) Rn k) x)) pn ps (upF pp w pn) (upF FF (w + 1) Fn) q0 fu X := by
  obtain ⟨⟨a1, a2, a3, a4, a5⟩, b1, c1, d1, ⟨Rw, e1⟩, ⟨f1, f2⟩, g1, h1⟩ := h
  obtain ⟨f', b', wr', k1, k2, ⟨k3, k4, k5⟩, k6, k7, k8⟩ := e_wait (d := d) (us := us) (v := x) (k0 := 0) a2 a1 a3.2.2.2.2.2.1 (a3.rf (by decide)) (a3.rf (by decide)) a3.2.2.2.2.2.2.2.1 a3.2.2.2.2.2.2.2.2.1 a4 a5 c1.1 d1.1 f1 hk ek (c1.2.2.cds g1 a2) (by decide) (fun e => by omega) (fun e => by omega)
  rw [if_pos hw] at k3 k6 k7
  have po : ∀ z, 401 ≤ z → z ≤ 1310 → f' z = f z := fun z z1 z2 => k8 z (by omega) (by omega)
  have p0 : upF FF (w + 1) Fn 0 = FF 0 := if_neg (by omega)
  have p1 : upF FF (w + 1) Fn (w + 1) = Fn := if_pos rfl
  refine ⟨f', b', wr', k1, fun z hz => k8 z (by omega) (by omega), ⟨k2, a2, a3.cong k3 k4 k5, by omega, a5⟩, b1.keep (fun z z1 z2 z3 => k8 z (by omega) (by omega)), ?_, ?_, ⟨Rw, e1.keep (fun z z1 z2 => k8 z (by omega) (by omega))⟩, ⟨k7, fun t ht => ?_⟩, g1.keep (k8 _ (by decide) (by decide)) po, h1.keep (fun z z1 z2 => k8 z (by omega) (by omega))⟩
  · rw [p1]
    exact c1.keep (fun z z1 z2 => k8 z (by omega) (by omega)) po
  · rw [p0]
    exact ⟨k6, d1.2.1.keep2 po, d1.2.2⟩
  · unfold upRR upF
    by_cases e : t = w
    · rw [if_pos e, if_pos e, if_pos (by omega)]
      exact ⟨(c1.2.1.keep2 po).cp.bs, c1.2.2.cp.bs⟩
    · rw [if_neg e, if_neg e, if_neg (by omega)]
      exact ⟨(f2 t (by omega)).1.keep2 po, (f2 t (by omega)).2⟩
theorem RKw.wait2 (h : RKw (n, f, us) b L g om ob nw 8 lg Rn Fn Rs wr WR pn ps pp FF q0 fu X) (hk : k ≤ 12) (ek : Rn.2.2.2.2.2.2.2.2.2.1 = nI k) (hk0 : k0 ≤ 12) (ek0 : (WR 0).2.2.2.2.2.2.2.2.2.1 = nI k0) : ∃ f' b' wr', x_Mod_wait (d + 3) 160 x (n, f, us) = some ((), (n, f', us)) ∧ (∀ z, z < 160 ∨ 1310 < z → f' z = f z) ∧ RKx (n, f', us) b' L g om ob nw 8 (lg + x) Rn (cpR Rs (WR 0) k0) wr' (upRR (rotR WR) 7 (bsR (cpR (WR 0) Rn k) x)) pn (pp 0) (fun t => if t = 7 then pn else pp (t + 1)) (rt10 1 (upF FF 9 Fn)) q0 fu X := by
  obtain ⟨⟨a1, a2, a3, a4, a5⟩, b1, c1, d1, ⟨Rw, e1⟩, ⟨f1, f2⟩, g1, h1⟩ := h
  obtain ⟨f', b', wr', k1, k2, ⟨k3, k4, k5⟩, k6, k7, k8⟩ := e_wait (d := d) (us := us) (v := x) (k0 := k0) a2 a1 a3.2.2.2.2.2.1 (a3.rf (by decide)) (a3.rf (by decide)) a3.2.2.2.2.2.2.2.1 a3.2.2.2.2.2.2.2.2.1 a4 a5 c1.1 d1.1 f1 hk ek (c1.2.2.cds g1 a2) hk0 (fun _ => ek0) (fun _ => (f2 0 (by decide)).2.cds g1 a2)
  rw [if_neg (by decide)] at k3 k6 k7
  have po : ∀ z, 401 ≤ z → z ≤ 1310 → f' z = f z := fun z z1 z2 => k8 z (by omega) (by omega)
  have p0 : rt10 1 (upF FF 9 Fn) 0 = FF 1 := rfl
  have p1 : rt10 1 (upF FF 9 Fn) 8 = Fn := rfl
  refine ⟨f', b', wr', k1, fun z hz => k8 z (by omega) (by omega), ⟨k2, a2, a3.cong k3 k4 k5, by omega, a5⟩, b1.keep (fun z z1 z2 z3 => k8 z (by omega) (by omega)), ?_, ?_, ⟨Rw, e1.keep (fun z z1 z2 => k8 z (by omega) (by omega))⟩, ⟨k7, fun t ht => ?_⟩, g1.keep (k8 _ (by decide) (by decide)) po, h1.keep (fun z z1 z2 => k8 z (by omega) (by omega))⟩
  · rw [p1]
    exact c1.keep (fun z z1 z2 => k8 z (by omega) (by omega)) po
  · rw [p0]
    exact ⟨k6, ((f2 0 (by decide)).1.keep2 po).cp, (f2 0 (by decide)).2.cp⟩
  · unfold upRR
    dsimp only
    by_cases e : t = 7
    · rw [if_pos e, if_pos e, e]
      exact ⟨(c1.2.1.keep2 po).cp.bs, c1.2.2.cp.bs⟩
    · have e1 : rt10 1 (upF FF 9 Fn) (t + 1) = FF (t + 2) := by
        unfold rt10 upF
        rw [show (t + 1 + 1) % 10 = t + 2 by omega, if_neg (by omega)]
      have e2 : rotR WR t = WR (t + 1) := if_pos (by omega)
      rw [if_neg e, if_neg e, e1, e2]
      exact ⟨(f2 (t + 1) (by omega)).1.keep2 po, (f2 (t + 1) (by omega)).2⟩
theorem byS_up {b : Nat → Int32} {y : Int32} : ∀ {m i p : Nat}, i + m ≤ p → byS (upI b p y) m i = byS b m i
  | 0, _, _, _ => rfl
  | m + 1, i, p, h => by
    rw [byS, byS, byS_up (m := m) (i := i + 1) (by omega)]
    unfold upI
    rw [if_neg (by omega)]
/-- class appends, reference waits -/
theorem app_fin (C : CKx (n, f, us) L g I N hh tt Nm O (w, sb, st, bys) rs SS un FF v fu X own) (n0 : ¬ st w = .null) (n1 : ¬ st (w + 1) = .null) (U : UPl (n, f, us) own (rs (w + 1)) (SS (w + 1)) uq Fn) (hx : xx ≤ 1000000) : ∃ f1, x_Log_append (d + 2) 154 (nI xx) (n, f, us) = some ((), (n, f1, us)) ∧ (∀ z, z < 154 ∨ 156 < z → f1 z = f z) ∧ ∀ (s3 : HS) (c d' nw : Nat) (b : Nat → Value) (om lg : Int32) (ob : Nat → Int32) (Rn Rs : RS) (wr : Nat → Nat) (WR : Nat → RS) (pn ps : Nat → Nat) (pp : Nat → Nat → Nat) (q0 : VQ) (X' : SWs), n ≤ s3.1 → (∀ z, z < n → z < 160 ∨ 1310 < z → s3.2.1 z = f1 z) → BG c s3 L N Nm → RKw s3 b L g om ob nw w lg Rn Fn Rs wr WR pn ps pp FF q0 fu X' → SR (SS (w + 1)) Rn → SR (SS 0) Rs → (∀ t, t < w → SR (SS (t + 1)) (WR t) ∧ ∃ x, x ≤ 1000000 ∧ bys (t + 1) = nI x ∧ rBy (WR t) = nI x) → lg = sb + byS bys w 1 → OR O om ob → (∃ kd, VR kd v q0) → ∃ s4, x_Mod_wait (d' + 3) 160 (nI xx) s3 = some ((), s4) ∧ INV c s4 := by
  have C0 := C.2.2.2.2.1
  have hw8 : w ≤ 8 := C0.2.2.1
  have n00 : ¬ st 0 = .null := by
    by_cases e : w = 0
    · rw [e] at n0
      exact n0
    · exact C0.2.2.2.2.2 (show 1 ≤ w by omega) 0 (Nat.zero_le _)
  have e0 := e_appendG (d := d) (us := us) (f := f) (G := (w, sb, st, bys)) (v := nI xx) C0.2.1 hw8 n00 C0.stU
  have hg : HG f (w, sb, st, bys) = f := C0.1
  rw [hg] at e0
  have C1 := C.app (x := nI xx) n0 n1 U
  by_cases c8 : w < 8
  · have ea : apG (w, sb, st, bys) (nI xx) = (w + 1, sb, st, upI bys (w + 1) (nI xx)) := if_pos c8
    rw [ea] at e0
    refine ⟨_, e0, fun z hz => HG_off hz, fun s3 c d' nw b om lg ob Rn Rs wr WR pn ps pp q0 X' s1 s2 B R q1 q2 q3 q4 q5 q6 => ?_⟩
    have C2 := (C1.ex (show w + 1 ≤ 8 by omega)).keep (s' := s3) s1 (fun z z1 z2 => s2 z z1 z2)
    obtain ⟨n3, f3, us3⟩ := s3
    obtain ⟨f4, b4, wr4, k1, k2, k3⟩ := R.wait1 (d := d') (x := nI xx) c8 q1.2.2.1 q1.2.2.2.1
    refine ⟨(n3, f4, us3), k1, L, g, O, w + 1, sb, upI bys (w + 1) (nI xx), SS, upF FF (w + 1) Fn, v, fu, om, ob, lg + nI xx, Rn, Rs, _, q0, ⟨I, N, hh, tt, Nm, st, rs, _, X, own, C2.keep (Nat.le_refl _) (fun z z1 z2 => k2 z z2), B⟩, ⟨b4, nw, wr4, pn, ps, _, X', k3⟩, q1, q2, fun t ht => ?_, ?_, q5, q6⟩
    · unfold upRR upI
      by_cases e : t = w
      · rw [if_pos e, if_pos (by omega), e]
        exact ⟨(q1.ccR rfl).bs, xx, hx, rfl, rfl⟩
      · rw [if_neg e, if_neg (by omega)]
        exact q3 t (by omega)
    · rw [q4, byS_cut _ w 1 1, byS_up (by omega), byS, byS, Int32.add_zero]
      unfold upI
      rw [if_pos (by omega)]
      grind
  · obtain rfl : w = 8 := by omega
    have ea : apG (8, sb, st, bys) (nI xx) = seG 1 (9, sb, st, upI bys 9 (nI xx)) := if_neg (by show ¬ 8 < 8; decide)
    rw [ea] at e0
    have C2 := C1.se (K := 1) (show 1 ≤ 8 + 1 by decide) (show 8 + 1 - 1 ≤ 8 by decide)
    replace C2 : CKx (n, HG (HG f (9, sb, st, upI bys 9 (nI xx))) (seG 1 (9, sb, st, upI bys 9 (nI xx))), us) L g I N hh tt Nm O (seG 1 (9, sb, st, upI bys 9 (nI xx))) (rt10 1 rs) (rt10 1 SS) (rt10 1 (upF un 9 uq)) (rt10 1 (upF FF 9 Fn)) v fu X own := C2
    rw [HG_HG] at C2
    refine ⟨_, e0, fun z hz => HG_off hz, fun s3 c d' nw b om lg ob Rn Rs wr WR pn ps pp q0 X' s1 s2 B R q1 q2 q3 q4 q5 q6 => ?_⟩
    have C3 := C2.keep (s' := s3) s1 (fun z z1 z2 => s2 z z1 z2)
    obtain ⟨n3, f3, us3⟩ := s3
    have r0 := (q3 0 (by decide)).1
    obtain ⟨f4, b4, wr4, k1, k2, k3⟩ := R.wait2 (d := d') (x := nI xx) q1.2.2.1 q1.2.2.2.1 r0.2.2.1 r0.2.2.2.1
    have C4 := C3.keep (s' := (n3, f4, us3)) (Nat.le_refl _) (fun z z1 z2 => k2 z z2)
    replace C4 : CKx (n3, f4, us3) L g I N hh tt Nm O (8, sb + upI bys 9 (nI xx) 1, shS st, shBy (upI bys 9 (nI xx))) (rt10 1 rs) (rt10 1 SS) (rt10 1 (upF un 9 uq)) (rt10 1 (upF FF 9 Fn)) v fu X own := C4
    refine ⟨(n3, f4, us3), k1, L, g, O, 8, sb + upI bys 9 (nI xx) 1, shBy (upI bys 9 (nI xx)), rt10 1 SS, rt10 1 (upF FF 9 Fn), v, fu, om, ob, lg + nI xx, Rn, _, _, q0, ⟨I, N, hh, tt, Nm, shS st, rt10 1 rs, _, X, own, C4, B⟩, ⟨b4, nw, wr4, pn, pp 0, _, X', k3⟩, q1, r0.ccR rfl, fun t ht => ?_, ?_, q5, q6⟩
    · have e1 : rt10 1 SS (t + 1) = SS (t + 2) := by
        unfold rt10
        rw [show (t + 1 + 1) % 10 = t + 2 by omega]
      have e2 : shBy (upI bys 9 (nI xx)) (t + 1) = upI bys 9 (nI xx) (t + 2) := if_pos (by omega)
      rw [e1, e2]
      unfold upRR upI
      by_cases e : t = 7
      · rw [if_pos e, if_pos (by omega), e]
        exact ⟨(q1.ccR rfl).bs, xx, hx, rfl, rfl⟩
      · have e3 : rotR WR t = WR (t + 1) := if_pos (by omega)
        rw [if_neg e, if_neg (by omega), e3]
        exact q3 (t + 1) (by omega)
    · rw [q4]
      show sb + (bys 1 + (bys 2 + (bys 3 + (bys 4 + (bys 5 + (bys 6 + (bys 7 + (bys 8 + 0)))))))) + nI xx = sb + bys 1 + (bys 2 + (bys 3 + (bys 4 + (bys 5 + (bys 6 + (bys 7 + (bys 8 + (nI xx + 0))))))))
      grind
end
