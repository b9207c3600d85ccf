/-! STATEMENTS -/
section
variable {r T d u L K : Nat} {Y Z : MY} {co : Nat → Int32} {po : Nat → Int64} {nm : Int64} {ps lc tn : Nat} {fu : Int32} {F B pc cl tk : Nat} {S : SC} {O : oS}
theorem g_stepY (W : yW r T Y) (U : UU r Y u L co K po nm ps lc tn) (hp : 2 * pc + 1 < L) (h1 : co (2 * pc) = 0) (hF : F ≤ 2000) (ht : tk < F) : Go d 1 (mh r (nI F) Y T B u pc cl S O tk 0 0) (mh r (nI F) Y T B u (pc + 1) cl S O (tk + 1) 0 0) := by
  have hN := W.2.1
  have k : x_Mach_doFlow (d + 8) 148 0 (co (2 * pc + 1)) (mh r (nI F) Y T B u (pc + 1) cl S O tk 0 0) = _ := o_stepY W.1 W.2.2.1 (by omega) W.2.2.2 (nI_lt ht (by omega))
  rw [← nI_succ] at k
  exact go_flow W.1 U hp h1 rfl (by decide) k
theorem g_stepN (W : yW r T Y) (U : UU r Y u L co K po nm ps lc tn) (hp : 2 * pc + 1 < L) (h1 : co (2 * pc) = 0) (hF : F ≤ tk) (ht : tk ≤ 2000) : Go d 1 (mh r (nI F) Y T B u pc cl S O tk 0 0) (mh r (nI F) Y T B u (pc + 1) cl S O tk 1 1) := by
  have hN := W.2.1
  have k : x_Mach_doFlow (d + 8) 148 0 (co (2 * pc + 1)) (mh r (nI F) Y T B u (pc + 1) cl S O tk 0 0) = _ := o_stepN W.1 W.2.2.1 (by omega) W.2.2.2 (nI_nlt hF (by omega))
  exact go_flow W.1 U hp h1 rfl (by decide) k
theorem g_jump {c : Nat} (W : yW r T Y) (U : UU r Y u L co K po nm ps lc tn) (hp : 2 * pc + 1 < L) (h1 : co (2 * pc) = 1) (h2 : co (2 * pc + 1) = nI c) : Go d 1 (mh r fu Y T B u pc cl S O tk 0 0) (mh r fu Y T B u c cl S O tk 0 0) := by
  have hN := W.2.1
  have k : x_Mach_doFlow (d + 8) 148 1 (nI c) (mh r fu Y T B u (pc + 1) cl S O tk 0 0) = _ := o_jump W.1 W.2.2.1 (by omega) W.2.2.2
  exact go_flow W.1 U hp h1 h2 (by decide) k
theorem g_junless {c : Nat} (W : yW r (T + 1) Y) (U : UU r Y u L co K po nm ps lc tn) (hp : 2 * pc + 1 < L) (h1 : co (2 * pc) = 2) (h2 : co (2 * pc + 1) = nI c) : (s_Cell_isTrue (yV Y T).1 (yV Y T).2 = 0 → Go d 1 (mh r fu Y (T + 1) B u pc cl S O tk 0 0) (mh r fu Y T B u c cl S O tk 0 0)) ∧ (¬ s_Cell_isTrue (yV Y T).1 (yV Y T).2 = 0 → Go d 1 (mh r fu Y (T + 1) B u pc cl S O tk 0 0) (mh r fu Y T B u (pc + 1) cl S O tk 0 0)) := by
  have hN := W.2.1
  have k : x_Mach_doFlow (d + 8) 148 2 (nI c) (mh r fu Y (T + 1) B u (pc + 1) cl S O tk 0 0) = _ := o_junless W.1 W.2.2.1 (by omega) W.2.2.2
  exact ⟨fun q => go_flow W.1 U hp h1 h2 (by decide) (k.trans (if_pos q)), fun q => go_flow W.1 U hp h1 h2 (by decide) (k.trans (if_neg q))⟩
theorem g_abort (W : yW r T Y) (U : UU r Y u L co K po nm ps lc tn) (hp : 2 * pc + 1 < L) (h1 : co (2 * pc) = 7) : Go d 1 (mh r fu Y T B u pc cl S O tk 0 0) (mh r fu Y T B u (pc + 1) cl S O tk 10 1) := by
  have hN := W.2.1
  have k : x_Mach_doFlow (d + 8) 148 7 (co (2 * pc + 1)) (mh r fu Y T B u (pc + 1) cl S O tk 0 0) = _ := o_abort W.1 W.2.2.1 (by omega) W.2.2.2
  exact go_flow W.1 U hp h1 rfl (by decide) k
theorem g_print (W : yW r (T + 1) Y) (U : UU r Y u L co K po nm ps lc tn) (hp : 2 * pc + 1 < L) (h1 : co (2 * pc) = 9) (hO : oW O) : ((d_out O (yV Y T)).2.1 = 0 → Go d 1 (mh r fu Y (T + 1) B u pc cl S O tk 0 0) (mh r fu Y T B u (pc + 1) cl S (d_out O (yV Y T)) tk 0 0)) ∧ (¬ (d_out O (yV Y T)).2.1 = 0 → Go d 1 (mh r fu Y (T + 1) B u pc cl S O tk 0 0) (mh r fu Y T B u (pc + 1) cl S (d_out O (yV Y T)) tk 9 1)) := by
  have hN := W.2.1
  have k : x_Mach_doFlow (d + 8) 148 9 (co (2 * pc + 1)) (mh r fu Y (T + 1) B u (pc + 1) cl S O tk 0 0) = _ := o_print W.1 W.2.2.1 (by omega) W.2.2.2 hO
  refine ⟨fun q => ?_, fun q => ?_⟩
  · rw [if_pos q] at k
    exact go_flow W.1 U hp h1 rfl (by decide) k
  · rw [if_neg q] at k
    exact go_flow W.1 U hp h1 rfl (by decide) k
end
def GS (F : Nat) (sg sg' : Sg) : Prop := SJ sg.1 sg'.1 ∧ oW sg'.2.1 ∧ sg.2.2 ≤ sg'.2.2 ∧ sg'.2.2 ≤ F
/-- 0: behind the code; 11: about to do RETURN; else halted -/
def RunS (d r F : Nat) (Y : MY) (B lt u b cl : Nat) (cu : Nat → Int32) (L : Nat) (s0 : HS) (k0 : Nat) (sg : Sg) (res : (Nat → V2) × DV) : Prop := GS F sg res.2.1 ∧ (res.2.2.1 = 0 → ∃ k Z, Go d k s0 (mh r (nI F) Z (B + lt) B u b cl res.2.1.1 res.2.1.2.1 res.2.1.2.2 0 0) ∧ k ≤ k0 + 8192 * (res.2.1.2.2 - sg.2.2) ∧ yX r B cl Y Z ∧ (∀ i, i < lt → res.1 i = yV Z (B + i)) ∧ yW r (B + lt) Z) ∧ (res.2.2.1 = 11 → ∃ k Z pc, Go d k s0 (mh r (nI F) Z (B + lt + 1) B u pc cl res.2.1.1 res.2.1.2.1 res.2.1.2.2 0 0) ∧ k ≤ k0 + 8192 * (res.2.1.2.2 - sg.2.2) ∧ yX r B cl Y Z ∧ yV Z (B + lt) = res.2.2.2 ∧ yW r (B + lt + 1) Z ∧ cu (2 * pc) = 6 ∧ 2 * pc + 1 < L) ∧ (¬ res.2.2.1 = 0 → ¬ res.2.2.1 = 11 → ∃ k s', Go d k s0 s' ∧ k ≤ k0 + 8192 * (res.2.1.2.2 - sg.2.2) ∧ yH r (nI F) Y s' res.2.2.1 res.2.1.2.1 res.2.1.2.2)
def ImS (a b lcl need kp : Nat) (co : Nat → Int32) (po : Nat → Int64) (D : DSt) : Prop := ∀ (cu : Nat → Int32) (pu : Nat → Int64), (∀ j, 2 * a ≤ j → j < 2 * b → cu j = co j) → (∀ j, j < kp → pu j = po j) → ∀ (d r F : Nat) (Y : MY) (B lt u L K : Nat) (nm : Int64) (ps lc tn cl : Nat) (sg : Sg) (FI : Nat → UI) (env : Env) (rem : Nat) (loc : Nat → V2), UU r Y u L cu K pu nm ps lc tn → 2 * b ≤ L → kp ≤ K → lcl ≤ lt → CX d r F Y (B + lt) B cl sg FI env rem lt loc need → RunS d r F Y B lt u b cl cu L (mh r (nI F) Y (B + lt) B u a cl sg.1 sg.2.1 sg.2.2 0 0) (b - a) sg (D env loc sg)
def sNop : DSt := fun _ loc sg => (loc, sg, 0, (0, 0))
def sSeq (s t : DSt) : DSt := fun env loc sg => if (s env loc sg).2.2.1 = 0 then t env (s env loc sg).1 (s env loc sg).2.1 else s env loc sg
def sBurn : DSt := fun env loc sg => if sg.2.2 < env.1 then (loc, (sg.1, sg.2.1, sg.2.2 + 1), 0, (0, 0)) else (loc, sg, 1, (0, 0))
def sLet (i : Nat) (D : DE) : DSt := fun env loc sg => if (D env loc sg).2.1 = 0 then (fun j => if j = i then (D env loc sg).2.2 else loc j, (D env loc sg).1, 0, (0, 0)) else (loc, (D env loc sg).1, (D env loc sg).2.1, (0, 0))
def sDo (Fo : SC → (Nat → V2) → SC × Int32) (l : DL) : DSt := fun env loc sg => if (l env loc sg).2.1 = 0 then (loc, ((Fo (l env loc sg).1.1 (l env loc sg).2.2).1, (l env loc sg).1.2), (Fo (l env loc sg).1.1 (l env loc sg).2.2).2, (0, 0)) else (loc, (l env loc sg).1, (l env loc sg).2.1, (0, 0))
def sRet (D : DE) : DSt := fun env loc sg => if (D env loc sg).2.1 = 0 then (loc, (D env loc sg).1, 11, (D env loc sg).2.2) else (loc, (D env loc sg).1, (D env loc sg).2.1, (0, 0))
def sAbort : DSt := fun _ loc sg => (loc, sg, 10, (0, 0))
def sPrint (D : DE) : DSt := fun env loc sg => if (D env loc sg).2.1 = 0 then (loc, ((D env loc sg).1.1, d_out (D env loc sg).1.2.1 (D env loc sg).2.2, (D env loc sg).1.2.2), if (d_out (D env loc sg).1.2.1 (D env loc sg).2.2).2.1 = 0 then 0 else 9, (0, 0)) else (loc, (D env loc sg).1, (D env loc sg).2.1, (0, 0))
def sIf (D : DE) (s t : DSt) : DSt := fun env loc sg => if (D env loc sg).2.1 = 0 then (if s_Cell_isTrue (D env loc sg).2.2.1 (D env loc sg).2.2.2 = 0 then t env loc (D env loc sg).1 else s env loc (D env loc sg).1) else (loc, (D env loc sg).1, (D env loc sg).2.1, (0, 0))
def sWh (D : DE) (s : DSt) : Nat → DSt
  | 0 => fun _ loc sg => (loc, sg, 1, (0, 0))
  | n + 1 => sIf D (sSeq sBurn (sSeq s (sWh D s n))) sNop
def sWhile (D : DE) (s : DSt) : DSt := fun env loc sg => sWh D s (env.1 + 1) env loc sg
section
variable {d r F B lt u b c cl k0 k1 k2 m rem lcl need need' lcl' a kp kp' L K ps lc tn : Nat} {Y Z : MY} {s0 s1 : HS} {sg sg1 sg2 : Sg} {e e1 : Int32} {FI : Nat → UI} {env : Env} {loc loc' : Nat → V2} {co co' cu : Nat → Int32} {po po' : Nat → Int64} {nm : Int64} {PV PW : (Nat → V2) → Prop} {res res2 : (Nat → V2) × DV}
theorem GD.gs (g : GD F sg sg1 e) : GS F sg sg1 := ⟨g.1, g.2.1, g.2.2.1, g.2.2.2.1⟩
theorem GS.trans (a : GS F sg sg1) (b : GS F sg1 sg2) : GS F sg sg2 := ⟨a.1.trans b.1, b.2.1, Nat.le_trans a.2.2.1 b.2.2.1, b.2.2.2⟩
theorem CX.nextS (h : CX d r F Y (B + lt) B cl sg FI env rem lt loc need) (g : GS F sg sg1) (x : yX r B cl Y Z) (hv : ∀ i, i < lt → loc' i = yV Z (B + i)) (w : yW r (B + lt) Z) : CX d r F Z (B + lt) B cl sg1 FI env rem lt loc' need := by
  obtain ⟨h1, h2, h3, h4, h5, h6, h7, h8, h9, h10, h11, h12⟩ := h
  refine ⟨h1, h2, w, g.1.1, g.2.1, fun i hi => ?_, g.2.2.2, h8, h9, by omega, hv, h12⟩
  have q := g.1.2
  have e1 : sg1.1.2.2.2.2.2.2.2.1 = sg.1.2.2.2.2.2.2.2.1 := congrArg (·.1) q
  have e2 : sg1.1.2.2.2.2.2.2.2.2 = sg.1.2.2.2.2.2.2.2.2 := congrArg (·.2) q
  rw [e2] at hi
  rw [e1]
  exact ⟨(h6 i hi).1, (h6 i hi).2.grow x.1⟩
theorem RunS.stop (h : RunS d r F Y B lt u b cl cu L s0 k0 sg res) (he : ¬ res.2.2.1 = 0) (hk : k0 ≤ k1) : RunS d r F Y B lt u c cl cu L s0 k1 sg res := by
  refine ⟨h.1, fun q => absurd q he, fun q => ?_, fun q q' => ?_⟩
  · obtain ⟨k, Z, pc, a1, a2, a3, a4, a5, a6⟩ := h.2.2.1 q
    exact ⟨k, Z, pc, a1, by omega, a3, a4, a5, a6⟩
  · obtain ⟨k, s', a1, a2, a3⟩ := h.2.2.2 q q'
    exact ⟨k, s', a1, by omega, a3⟩
theorem RunS.pre (g : Go d k1 s0 s1) (h : RunS d r F Y B lt u b cl cu L s1 k0 sg res) (hk : k1 + k0 ≤ k2) : RunS d r F Y B lt u b cl cu L s0 k2 sg res := by
  refine ⟨h.1, fun q => ?_, fun q => ?_, fun q q' => ?_⟩
  · obtain ⟨k, Z, a1, a2, a3⟩ := h.2.1 q
    exact ⟨k1 + k, Z, g.trans a1, by omega, a3⟩
  · obtain ⟨k, Z, pc, a1, a2, a3⟩ := h.2.2.1 q
    exact ⟨k1 + k, Z, pc, g.trans a1, by omega, a3⟩
  · obtain ⟨k, s', a1, a2, a3⟩ := h.2.2.2 q q'
    exact ⟨k1 + k, s', g.trans a1, by omega, a3⟩
theorem RunS.then' (h : RunS d r F Y B lt u b cl cu L s0 k1 sg res) (he : res.2.2.1 = 0) (h2 : ∀ Z, yX r B cl Y Z → (∀ i, i < lt → res.1 i = yV Z (B + i)) → yW r (B + lt) Z → RunS d r F Z B lt u c cl cu L (mh r (nI F) Z (B + lt) B u b cl res.2.1.1 res.2.1.2.1 res.2.1.2.2 0 0) k2 res.2.1 res2) : RunS d r F Y B lt u c cl cu L s0 (k1 + k2) sg res2 := by
  obtain ⟨k, Z, a1, a2, a3, a4, a5⟩ := h.2.1 he
  have h3 := h2 Z a3 a4 a5
  have g1 := h.1.2.2.1
  have g2 := h3.1.2.2.1
  refine ⟨h.1.trans h3.1, fun q => ?_, fun q => ?_, fun q q' => ?_⟩
  · obtain ⟨k', A, b1, b2, b3, b4⟩ := h3.2.1 q
    exact ⟨k + k', A, a1.trans b1, by omega, a3.trans b3 (Nat.le_refl _) (Nat.le_refl _), b4⟩
  · obtain ⟨k', A, pc, b1, b2, b3, b4⟩ := h3.2.2.1 q
    exact ⟨k + k', A, pc, a1.trans b1, by omega, a3.trans b3 (Nat.le_refl _) (Nat.le_refl _), b4⟩
  · obtain ⟨k', s', b1, b2, b3⟩ := h3.2.2.2 q q'
    exact ⟨k + k', s', a1.trans b1, by omega, b3.grow a3.1⟩
theorem RunP.thenS (h : RunP d r F Y (B + lt) B u b cl s0 k1 m sg sg1 e PV) (he : e = 0) (h2 : ∀ Z, yX r (B + lt) cl Y Z → PV (fun i => yV Z (B + lt + i)) → yW r (B + lt + m) Z → RunS d r F Z B lt u c cl cu L (mh r (nI F) Z (B + lt + m) B u b cl sg1.1 sg1.2.1 sg1.2.2 0 0) k2 sg1 res) : RunS d r F Y B lt u c cl cu L s0 (k1 + k2) sg res := by
  obtain ⟨k, Z, a1, a2, a3, a4, a5⟩ := h.2.1 he
  have h3 := h2 Z a3 a4 a5
  have g1 := h.1.2.2.1
  have g2 := h3.1.2.2.1
  have a3' := a3.less (show B ≤ B + lt by omega) (Nat.le_refl cl)
  refine ⟨h.1.gs.trans h3.1, fun q => ?_, fun q => ?_, fun q q' => ?_⟩
  · obtain ⟨k', A, b1, b2, b3, b4⟩ := h3.2.1 q
    exact ⟨k + k', A, a1.trans b1, by omega, a3'.trans b3 (Nat.le_refl _) (Nat.le_refl _), b4⟩
  · obtain ⟨k', A, pc, b1, b2, b3, b4⟩ := h3.2.2.1 q
    exact ⟨k + k', A, pc, a1.trans b1, by omega, a3'.trans b3 (Nat.le_refl _) (Nat.le_refl _), b4⟩
  · obtain ⟨k', s', b1, b2, b3⟩ := h3.2.2.2 q q'
    exact ⟨k + k', s', a1.trans b1, by omega, b3.grow a3.1⟩
theorem RunP.errS {v : V2} (h : RunP d r F Y (B + lt) B u b cl s0 k0 m sg sg1 e PV) (he : ¬ e = 0) (hk : k0 ≤ k1) : RunS d r F Y B lt u c cl cu L s0 k1 sg (loc, sg1, e, v) := by
  refine ⟨h.1.gs, fun q => absurd q he, fun q => absurd q h.1.2.2.2.2, fun _ _ => ?_⟩
  obtain ⟨k, s', a1, a2, a3⟩ := h.2.2 he
  exact ⟨k, s', a1, by show k ≤ k1 + 8192 * (sg1.2.2 - sg.2.2); omega, a3⟩
/-- one command, and behind it -/
theorem RunS.go {v : V2} (g : Go d k1 s0 (mh r (nI F) Z (B + lt) B u b cl sg.1 sg.2.1 sg.2.2 0 0)) (x : yX r B cl Y Z) (I : SI sg.1) (O : oW sg.2.1) (hF : sg.2.2 ≤ F) (p : ∀ i, i < lt → loc i = yV Z (B + i)) (W : yW r (B + lt) Z) (hk : k1 ≤ k2) : RunS d r F Y B lt u b cl cu L s0 k2 sg (loc, sg, 0, v) := ⟨⟨SJ.rfl' I, O, Nat.le_refl _, hF⟩, fun _ => ⟨k1, Z, g, Nat.le_trans hk (Nat.le_add_right _ _), x, p, W⟩, fun q => absurd q (by show ¬ (0 : Int32) = 11; decide), fun q => absurd rfl q⟩
theorem RunS.halt {v : V2} (g : Go d k1 s0 s1) (h : yH r (nI F) Y s1 e sg1.2.1 sg1.2.2) (G : GS F sg sg1) (h0 : ¬ e = 0) (h11 : ¬ e = 11) (hk : k1 ≤ k2) : RunS d r F Y B lt u b cl cu L s0 k2 sg (loc, sg1, e, v) := ⟨G, fun q => absurd q h0, fun q => absurd q h11, fun _ _ => ⟨k1, s1, g, Nat.le_trans hk (Nat.le_add_right _ _), h⟩⟩
theorem ImS.ext {D : DSt} (h : ImS a b lcl need kp co po D) (hl' : lcl ≤ lcl') (hn : need ≤ need') (hk : kp ≤ kp') (hc : ∀ j, 2 * a ≤ j → j < 2 * b → co' j = co j) (hp : ∀ j, j < kp → po' j = po j) : ImS a b lcl' need' kp' co' po' D := fun cu pu g1 g2 d r F Y B lt u L K nm ps lc tn cl sg FI env rem loc U hL hK hl X => h cu pu (fun j h1 h2 => (g1 j h1 h2).trans (hc j h1 h2)) (fun j h1 => (g2 j (by omega)).trans (hp j h1)) d r F Y B lt u L K nm ps lc tn cl sg FI env rem loc U hL (by omega) (by omega) (X.less (Nat.le_refl _) hn)
theorem ImS_nop : ImS a a lcl need kp co po sNop := fun cu pu g1 g2 d r F Y B lt u L K nm ps lc tn cl sg FI env rem loc U hL hK hl X => by
  obtain ⟨x1, x2, x3, x4, x5, x6, x7, x8, x9, x10, x11, x12⟩ := X
  exact RunS.go Go.rfl' (yX.rfl' x3.1) x4 x5 x7 x11 x3 (Nat.zero_le _)
theorem ImS_seq {s t : DSt} (ha : a ≤ b) (hb : b ≤ c) (h1 : ImS a b lcl need kp co po s) (h2 : ImS b c lcl need kp co po t) : ImS a c lcl need kp co po (sSeq s t) := fun cu pu g1 g2 d r F Y B lt u L K nm ps lc tn cl sg FI env rem loc U hL hK hl X => by
  have R1 := h1 cu pu (fun j q1 q2 => g1 j q1 (by omega)) g2 d r F Y B lt u L K nm ps lc tn cl sg FI env rem loc U (by omega) hK hl X
  unfold sSeq
  by_cases q : (s env loc sg).2.2.1 = 0
  · rw [if_pos q, show c - a = (b - a) + (c - b) by omega]
    exact R1.then' q fun Z x1 x2 x3 => h2 cu pu (fun j q1 q2 => g1 j (by omega) q2) g2 d r F Z B lt u L K nm ps lc tn cl (s env loc sg).2.1 FI env rem (s env loc sg).1 (U.grow x1.1) hL hK hl (X.nextS R1.1 x1 x2 x3)
  · rw [if_neg q]
    exact R1.stop q (by omega)
theorem ImS_burn (c1 : co (2 * a) = 0) : ImS a (a + 1) lcl need kp co po sBurn := fun cu pu g1 g2 d r F Y B lt u L K nm ps lc tn cl sg FI env rem loc U hL hK hl X => by
  obtain ⟨x1, x2, x3, x4, x5, x6, x7, x8, x9, x10, x11, x12⟩ := X
  rw [show a + 1 - a = 1 by omega]
  unfold sBurn
  rw [x2]
  by_cases q : sg.2.2 < F
  · rw [if_pos q]
    refine ⟨⟨SJ.rfl' x4, x5, Nat.le_succ _, q⟩, fun _ => ⟨1, Y, g_stepY x3 U (by omega) ((g1 _ (by omega) (by omega)).trans c1) x1 q, Nat.le_add_right _ _, yX.rfl' x3.1, x11, x3⟩, fun q => absurd q (by show ¬ (0 : Int32) = 11; decide), fun q => absurd rfl q⟩
  · rw [if_neg q]
    exact RunS.halt (g_stepN x3 U (by omega) ((g1 _ (by omega) (by omega)).trans c1) (by omega) (by omega)) (yH_mh x3.1) ⟨SJ.rfl' x4, x5, Nat.le_refl _, x7⟩ (by decide) (by decide) (Nat.le_refl _)
theorem ImS_let {D : DE} {i : Nat} (ha : a ≤ b) (h : ImE a b lcl need kp co po D) (hi : i < lcl) (c1 : co (2 * b) = 14) (c2 : co (2 * b + 1) = nI i) : ImS a (b + 1) lcl need kp co po (sLet i D) := fun cu pu g1 g2 d r F Y B lt u L K nm ps lc tn cl sg FI env rem loc U hL hK hl X => by
  have R1 := h cu pu (fun j q1 q2 => g1 j q1 (by omega)) g2 d r F Y (B + lt) B u L K nm ps lc tn cl sg FI env rem loc U (by omega) hK (X.less hl (Nat.le_refl _))
  unfold sLet
  by_cases q : (D env loc sg).2.1 = 0
  · rw [if_pos q, show b + 1 - a = (b - a) + 1 by omega]
    refine R1.thenS q fun Z y1 y2 y3 => ?_
    have y2' : yV Z (B + lt) = (D env loc sg).2.2 := y2
    have k := c_storeL (d := d) (fu := nI F) (u := u) (pc := b + 1) (cl := cl) (S := (D env loc sg).1.1) (O := (D env loc sg).1.2.1) (tk := (D env loc sg).1.2.2) (er := 0) (dn := 0) y3 (show B + i < B + lt by omega)
    have G := go_place y3.1 (U.grow y1.1) (by omega) ((g1 _ (by omega) (by omega)).trans c1) ((g1 _ (by omega) (by omega)).trans c2) (by decide) (by decide) (by decide) k
    obtain ⟨x1, x2, x3, x4, x5, x6, x7, x8, x9, x10, x11, x12⟩ := X
    refine RunS.go G ⟨GM.rfl' y3.1, fun j hj => ?_, fun j hj => ⟨rfl, rfl, rfl⟩⟩ R1.1.1.1 R1.1.2.1 R1.1.2.2.2.1 (fun j hj => ?_) ⟨y3.1, y3.2.1, y3.2.2.1, by have := y3.2.2.2; show B + lt ≤ _; exact Nat.le_trans (Nat.le_succ _) this⟩ (Nat.le_refl _)
    · show (upL _ _ _ j, upL _ _ _ j) = yV Z j
      unfold upL
      rw [if_neg (by omega), if_neg (by omega)]
    · show _ = (upL _ _ _ (B + j), upL _ _ _ (B + j))
      unfold upL
      by_cases c : j = i
      · rw [if_pos c, if_pos (by omega), if_pos (by omega)]
        exact y2'.symm
      · rw [if_neg c, if_neg (by omega), if_neg (by omega), x11 j hj]
        exact (y1.2.1 _ (by omega)).symm
  · rw [if_neg q]
    exact R1.errS q (by omega)
theorem ImS_do {D0 : Env → (Nat → V2) → Sg → Sg × Int32 × ((Nat → V2) → Prop)} {Fo : SC → (Nat → V2) → SC × Int32} {l : DL} {op x : Int32} (ha : a ≤ b) (h : ImP a b lcl need kp co po m D0) (hD : ∀ env loc sg, (D0 env loc sg).1 = (l env loc sg).1 ∧ (D0 env loc sg).2.1 = (l env loc sg).2.1 ∧ ∀ z S, (D0 env loc sg).2.2 z → Fo S z = Fo S (l env loc sg).2.2) (c1 : co (2 * b) = op) (c2 : co (2 * b + 1) = x) (hC : ∀ pu K, (∀ j, j < kp → pu j = po j) → kp ≤ K → CmS op x m pu K Fo) (hJ : ∀ S vs, SI S → SJ S (Fo S vs).1) (h11 : ∀ S vs, ¬ (Fo S vs).2 = 11) : ImS a (b + 1) lcl need kp co po (sDo Fo l) := fun cu pu g1 g2 d r F Y B lt u L K nm ps lc tn cl sg FI env rem loc U hL hK hl X => by
  have R1 := h cu pu (fun j q1 q2 => g1 j q1 (by omega)) g2 d r F Y (B + lt) B u L K nm ps lc tn cl sg FI env rem loc U (by omega) hK (X.less hl (Nat.le_refl _))
  obtain ⟨d1, d2, d3⟩ := hD env loc sg
  unfold sDo
  by_cases q : (l env loc sg).2.1 = 0
  · rw [if_pos q, show b + 1 - a = (b - a) + 1 by omega]
    refine R1.thenS (d2.trans q) fun Z y1 y2 y3 => ?_
    obtain ⟨out, k1, k2, k3⟩ := hC pu K g2 hK d r (nI F) Z (B + lt) B u b L cu nm ps lc tn cl (D0 env loc sg).1.1 (D0 env loc sg).1.2.1 (D0 env loc sg).1.2.2 (U.grow y1.1) (by omega) ((g1 _ (by omega) (by omega)).trans c1) ((g1 _ (by omega) (by omega)).trans c2) y3 R1.1.1.1
    rw [d3 _ _ y2] at k2 k3
    have R11 := R1.1
    rw [d1] at k1 k2 k3 R11 ⊢
    have I := R11.1.1
    have J := hJ (l env loc sg).1.1 (l env loc sg).2.2 I
    obtain ⟨x1, x2, x3, x4, x5, x6, x7, x8, x9, x10, x11, x12⟩ := X
    have GG : GS F (l env loc sg).1 ((Fo (l env loc sg).1.1 (l env loc sg).2.2).1, (l env loc sg).1.2) := ⟨J, R11.2.1, Nat.le_refl _, R11.2.2.2.1⟩
    refine ⟨GG, fun q => ?_, fun q => absurd q (h11 _ _), fun q _ => ?_⟩
    · obtain ⟨A, z1, z2, z3⟩ := k2 q
      refine ⟨1, A, k1 _ z1, Nat.le_add_right _ _, z2.less (by omega) (Nat.le_refl _), fun i hi => ?_, z3⟩
      exact (x11 i hi).trans ((y1.2.1 _ (by omega)).symm.trans (z2.2.1 _ (by omega)).symm)
    · obtain ⟨s', z1, z2⟩ := k3 q
      exact ⟨1, s', k1 _ z1, Nat.le_add_right _ _, z2⟩
  · rw [if_neg q]
    have := R1.errS (c := b + 1) (cu := cu) (L := L) (loc := loc) (v := (0, 0)) (by rw [d2]; exact q) (show b - a ≤ b + 1 - a by omega)
    rw [d1, d2] at this
    exact this
theorem ImS_ret {D : DE} (ha : a ≤ b) (h : ImE a b lcl need kp co po D) (c1 : co (2 * b) = 6) : ImS a (b + 1) lcl need kp co po (sRet D) := fun cu pu g1 g2 d r F Y B lt u L K nm ps lc tn cl sg FI env rem loc U hL hK hl X => by
  have R1 := h cu pu (fun j q1 q2 => g1 j q1 (by omega)) g2 d r F Y (B + lt) B u L K nm ps lc tn cl sg FI env rem loc U (by omega) hK (X.less hl (Nat.le_refl _))
  unfold sRet
  by_cases q : (D env loc sg).2.1 = 0
  · rw [if_pos q]
    obtain ⟨k, Z, a1, a2, a3, a4, a5⟩ := R1.2.1 q
    refine ⟨R1.1.gs, fun q => absurd q (by show ¬ (11 : Int32) = 0; decide), fun _ => ⟨k, Z, b, a1, ?_, a3.less (by omega) (Nat.le_refl _), a4, a5, ((g1 _ (by omega) (by omega)).trans c1), by omega⟩, fun _ q => absurd rfl q⟩
    have a2' : k ≤ b - a + 8192 * ((D env loc sg).1.2.2 - sg.2.2) := a2
    show k ≤ b + 1 - a + 8192 * ((D env loc sg).1.2.2 - sg.2.2)
    omega
  · rw [if_neg q]
    exact R1.errS q (by omega)
theorem ImS_abort (c1 : co (2 * a) = 7) : ImS a (a + 1) lcl need kp co po sAbort := fun cu pu g1 g2 d r F Y B lt u L K nm ps lc tn cl sg FI env rem loc U hL hK hl X => by
  obtain ⟨x1, x2, x3, x4, x5, x6, x7, x8, x9, x10, x11, x12⟩ := X
  exact RunS.halt (g_abort x3 U (by omega) ((g1 _ (by omega) (by omega)).trans c1)) (yH_mh x3.1) ⟨SJ.rfl' x4, x5, Nat.le_refl _, x7⟩ (by decide) (by decide) (by omega)
theorem ImS_print {D : DE} (ha : a ≤ b) (h : ImE a b lcl need kp co po D) (c1 : co (2 * b) = 9) : ImS a (b + 1) lcl need kp co po (sPrint D) := fun cu pu g1 g2 d r F Y B lt u L K nm ps lc tn cl sg FI env rem loc U hL hK hl X => by
  have R1 := h cu pu (fun j q1 q2 => g1 j q1 (by omega)) g2 d r F Y (B + lt) B u L K nm ps lc tn cl sg FI env rem loc U (by omega) hK (X.less hl (Nat.le_refl _))
  unfold sPrint
  by_cases q : (D env loc sg).2.1 = 0
  · rw [if_pos q, show b + 1 - a = (b - a) + 1 by omega]
    refine R1.thenS q fun Z y1 y2 y3 => ?_
    have y2' : yV Z (B + lt) = (D env loc sg).2.2 := y2
    obtain ⟨x1, x2, x3, x4, x5, x6, x7, x8, x9, x10, x11, x12⟩ := X
    have G := g_print (d := d) (fu := nI F) (u := u) (pc := b) (cl := cl) (B := B) (S := (D env loc sg).1.1) (O := (D env loc sg).1.2.1) (tk := (D env loc sg).1.2.2) y3 (U.grow y1.1) (by omega) ((g1 _ (by omega) (by omega)).trans c1) R1.1.2.1
    rw [y2'] at G
    have GG : GS F (D env loc sg).1 ((D env loc sg).1.1, d_out (D env loc sg).1.2.1 (D env loc sg).2.2, (D env loc sg).1.2.2) := ⟨SJ.rfl' R1.1.1.1, oW_out R1.1.2.1, Nat.le_refl _, R1.1.2.2.2.1⟩
    by_cases q2 : (d_out (D env loc sg).1.2.1 (D env loc sg).2.2).2.1 = 0
    · rw [if_pos q2]
      refine ⟨GG, fun _ => ⟨1, Z, G.1 q2, Nat.le_add_right _ _, yX.rfl' y3.1, fun i hi => (x11 i hi).trans (y1.2.1 _ (by omega)).symm, y3.le (by omega)⟩, fun q => absurd q (by show ¬ (0 : Int32) = 11; decide), fun q => absurd rfl q⟩
    · rw [if_neg q2]
      exact RunS.halt (G.2 q2) (yH_mh y3.1) GG (by decide) (by decide) (Nat.le_refl _)
  · rw [if_neg q]
    exact R1.errS q (by omega)
/-- a condition, then one of two ways -/
theorem RunS_if {D : DE} {s t : DSt} (R1 : RunP d r F Y (B + lt) B u b cl s0 k1 1 sg (asEx D env loc sg).1 (asEx D env loc sg).2.1 (asEx D env loc sg).2.2) (U : UU r Y u L cu K po nm ps lc tn) (hb : 2 * b + 1 < L) (c1 : cu (2 * b) = 2) (c2 : cu (2 * b + 1) = nI m) (hk : k1 + 1 + k2 ≤ k0) (hs : (D env loc sg).2.1 = 0 → ∀ Z, yX r (B + lt) cl Y Z → yW r (B + lt) Z → RunS d r F Z B lt u c cl cu L (mh r (nI F) Z (B + lt) B u (b + 1) cl (D env loc sg).1.1 (D env loc sg).1.2.1 (D env loc sg).1.2.2 0 0) k2 (D env loc sg).1 (s env loc (D env loc sg).1)) (ht : (D env loc sg).2.1 = 0 → ∀ Z, yX r (B + lt) cl Y Z → yW r (B + lt) Z → RunS d r F Z B lt u c cl cu L (mh r (nI F) Z (B + lt) B u m cl (D env loc sg).1.1 (D env loc sg).1.2.1 (D env loc sg).1.2.2 0 0) k2 (D env loc sg).1 (t env loc (D env loc sg).1)) : RunS d r F Y B lt u c cl cu L s0 k0 sg (sIf D s t env loc sg) := by
  unfold sIf
  by_cases q : (D env loc sg).2.1 = 0
  · rw [if_pos q, show k0 = k1 + (k0 - k1) by omega]
    refine R1.thenS q fun Z y1 y2 y3 => ?_
    have y2' : yV Z (B + lt) = (D env loc sg).2.2 := y2
    have G := g_junless (d := d) (fu := nI F) (u := u) (pc := b) (cl := cl) (B := B) (S := (D env loc sg).1.1) (O := (D env loc sg).1.2.1) (tk := (D env loc sg).1.2.2) y3 (U.grow y1.1) hb c1 c2
    rw [y2'] at G
    have W : yW r (B + lt) Z := y3.le (by omega)
    by_cases q2 : s_Cell_isTrue (D env loc sg).2.2.1 (D env loc sg).2.2.2 = 0
    · rw [if_pos q2]
      exact RunS.pre (G.1 q2) (ht q Z y1 W) (by omega)
    · rw [if_neg q2]
      exact RunS.pre (G.2 q2) (hs q Z y1 W) (by omega)
  · rw [if_neg q]
    exact R1.errS q (by omega)
theorem CX.nextP (X : CX d r F Y (B + lt) B cl sg FI env rem lt loc need) (g : GD F sg sg1 e) (x : yX r (B + lt) cl Y Z) (w : yW r (B + lt) Z) : CX d r F Z (B + lt) B cl sg1 FI env rem lt loc need := X.next (m := 0) g x w (Nat.zero_le _)
theorem ImS_if {D : DE} {s : DSt} (ha : a ≤ b) (hb : b + 1 ≤ c) (h : ImE a b lcl need kp co po D) (h1 : ImS (b + 1) c lcl need kp co po s) (c1 : co (2 * b) = 2) (c2 : co (2 * b + 1) = nI c) : ImS a c lcl need kp co po (sIf D s sNop) := fun cu pu g1 g2 d r F Y B lt u L K nm ps lc tn cl sg FI env rem loc U hL hK hl X => by
  have R1 := h cu pu (fun j q1 q2 => g1 j q1 (by omega)) g2 d r F Y (B + lt) B u L K nm ps lc tn cl sg FI env rem loc U (by omega) hK (X.less hl (Nat.le_refl _))
  refine RunS_if (k2 := c - (b + 1)) R1 U (by omega) ((g1 _ (by omega) (by omega)).trans c1) ((g1 _ (by omega) (by omega)).trans c2) (by omega) (fun q Z y1 y3 => ?_) (fun q Z y1 y3 => ?_)
  · exact h1 cu pu (fun j q1 q2 => g1 j (by omega) q2) g2 d r F Z B lt u L K nm ps lc tn cl (D env loc sg).1 FI env rem loc (U.grow y1.1) hL hK hl (X.nextP R1.1 y1 y3)
  · have X' := X.nextP R1.1 y1 y3
    exact RunS.go Go.rfl' (yX.rfl' y3.1) R1.1.1.1 R1.1.2.1 R1.1.2.2.2.1 X'.2.2.2.2.2.2.2.2.2.2.1 y3 (Nat.zero_le _)
theorem ImS_ifelse {D : DE} {s t : DSt} {f : Nat} (ha : a ≤ b) (hb : b + 1 ≤ c) (hc : c + 1 ≤ f) (h : ImE a b lcl need kp co po D) (h1 : ImS (b + 1) c lcl need kp co po s) (h2 : ImS (c + 1) f lcl need kp co po t) (c1 : co (2 * b) = 2) (c2 : co (2 * b + 1) = nI (c + 1)) (c3 : co (2 * c) = 1) (c4 : co (2 * c + 1) = nI f) : ImS a f lcl need kp co po (sIf D s t) := fun cu pu g1 g2 d r F Y B lt u L K nm ps lc tn cl sg FI env rem loc U hL hK hl X => by
  have R1 := h cu pu (fun j q1 q2 => g1 j q1 (by omega)) g2 d r F Y (B + lt) B u L K nm ps lc tn cl sg FI env rem loc U (by omega) hK (X.less hl (Nat.le_refl _))
  refine RunS_if (k2 := f - (b + 1)) R1 U (by omega) ((g1 _ (by omega) (by omega)).trans c1) ((g1 _ (by omega) (by omega)).trans c2) (by omega) (fun q Z y1 y3 => ?_) (fun q Z y1 y3 => ?_)
  · have X' := X.nextP R1.1 y1 y3
    have R2 := h1 cu pu (fun j q1 q2 => g1 j (by omega) (by omega)) g2 d r F Z B lt u L K nm ps lc tn cl (D env loc sg).1 FI env rem loc (U.grow y1.1) (by omega) hK hl X'
    generalize s env loc (D env loc sg).1 = res at R2 ⊢
    by_cases q2 : res.2.2.1 = 0
    · rw [show f - (b + 1) = c - (b + 1) + (f - c) by omega]
      refine R2.then' q2 fun A z1 z2 z3 => ?_
      obtain ⟨rl, rs, re, rv⟩ := res
      dsimp only at q2
      subst q2
      have Jm := g_jump (d := d) (fu := nI F) (u := u) (pc := c) (c := f) (cl := cl) (B := B) (S := rs.1) (O := rs.2.1) (tk := rs.2.2) z3 ((U.grow y1.1).grow z1.1) (by omega) ((g1 _ (by omega) (by omega)).trans c3) ((g1 _ (by omega) (by omega)).trans c4)
      exact RunS.go Jm (yX.rfl' z3.1) R2.1.1.1 R2.1.2.1 R2.1.2.2.2 z2 z3 (show 1 ≤ f - c by omega)
    · exact R2.stop q2 (by omega)
  · exact RunS.pre Go.rfl' (h2 cu pu (fun j q1 q2 => g1 j (by omega) q2) g2 d r F Z B lt u L K nm ps lc tn cl (D env loc sg).1 FI env rem loc (U.grow y1.1) hL hK hl (X.nextP R1.1 y1 y3)) (by omega)
theorem ImS_while {D : DE} {s : DSt} (ha : a ≤ b) (hb : b + 2 ≤ c) (h8 : c + 1 ≤ 8192) (h : ImE a b lcl need kp co po D) (h1 : ImS (b + 2) c lcl need kp co po s) (c1 : co (2 * b) = 2) (c2 : co (2 * b + 1) = nI (c + 1)) (c3 : co (2 * (b + 1)) = 0) (c4 : co (2 * c) = 1) (c5 : co (2 * c + 1) = nI a) : ImS a (c + 1) lcl need kp co po (sWhile D s) := fun cu pu g1 g2 d r F Y B lt u L K nm ps lc tn cl sg FI env rem loc U hL hK hl X => by
  have hF := X.2.1
  have key : ∀ (n : Nat) (Y : MY) (sg : Sg) (loc : Nat → V2), UU r Y u L cu K pu nm ps lc tn → CX d r F Y (B + lt) B cl sg FI env rem lt loc need → F < sg.2.2 + n → RunS d r F Y B lt u (c + 1) cl cu L (mh r (nI F) Y (B + lt) B u a cl sg.1 sg.2.1 sg.2.2 0 0) (c + 1 - a) sg (sWh D s n env loc sg) := by
    intro n
    induction n with
    | zero =>
      intro Y sg loc U X hn
      have := X.2.2.2.2.2.2.1
      omega
    | succ n ih =>
      intro Y sg loc U X hn
      have R1 := h cu pu (fun j q1 q2 => g1 j q1 (by omega)) g2 d r F Y (B + lt) B u L K nm ps lc tn cl sg FI env rem loc U (by omega) hK (X.less hl (Nat.le_refl _))
      unfold sWh
      refine RunS_if (k2 := c - b) R1 U (by omega) ((g1 _ (by omega) (by omega)).trans c1) ((g1 _ (by omega) (by omega)).trans c2) (by omega) (fun q Z y1 y3 => ?_) (fun q Z y1 y3 => ?_)
      · have X' : CX d r F Z (B + lt) B cl (D env loc sg).1 FI env rem lt loc need := X.nextP R1.1 y1 y3
        have tk0 : sg.2.2 ≤ (D env loc sg).1.2.2 := R1.1.2.2.1
        generalize (D env loc sg).1 = sg1 at X' tk0 ⊢
        unfold sSeq
        have e0 : sBurn env loc sg1 = if sg1.2.2 < F then (loc, (sg1.1, sg1.2.1, sg1.2.2 + 1), 0, (0, 0)) else (loc, sg1, 1, (0, 0)) := by
          unfold sBurn
          rw [hF]
        rw [e0]
        by_cases q1 : sg1.2.2 < F
        · rw [if_pos q1, if_pos (show ((loc, (sg1.1, sg1.2.1, sg1.2.2 + 1), 0, (0, 0)) : (Nat → V2) × DV).2.2.1 = 0 from rfl)]
          dsimp only
          have G1 := g_stepY (d := d) (u := u) (pc := b + 1) (cl := cl) (B := B) (S := sg1.1) (O := sg1.2.1) y3 (U.grow y1.1) (by omega) ((g1 _ (by omega) (by omega)).trans c3) X'.1 q1
          have X2 : CX d r F Z (B + lt) B cl (sg1.1, sg1.2.1, sg1.2.2 + 1) FI env rem lt loc need := X'.nextS ⟨SJ.rfl' X'.2.2.2.1, X'.2.2.2.2.1, Nat.le_succ _, q1⟩ (yX.rfl' y3.1) X'.2.2.2.2.2.2.2.2.2.2.1 y3
          have R2 := h1 cu pu (fun j q1 q2 => g1 j (by omega) (by omega)) g2 d r F Z B lt u L K nm ps lc tn cl (sg1.1, sg1.2.1, sg1.2.2 + 1) FI env rem loc (U.grow y1.1) (by omega) hK hl X2
          generalize hres : s env loc (sg1.1, sg1.2.1, sg1.2.2 + 1) = res at R2
          have tk1 : sg1.2.2 + 1 ≤ res.2.1.2.2 := R2.1.2.2.1
          by_cases q2 : res.2.2.1 = 0
          · rw [if_pos q2]
            have R3 : RunS d r F Z B lt u (c + 1) cl cu L (mh r (nI F) Z (B + lt) B u (b + 2) cl sg1.1 sg1.2.1 (sg1.2.2 + 1) 0 0) (c - (b + 2) + (1 + (c + 1 - a))) (sg1.1, sg1.2.1, sg1.2.2 + 1) (sWh D s n env res.1 res.2.1) := by
              refine R2.then' q2 fun A z1 z2 z3 => ?_
              have X3 := X2.nextS R2.1 z1 z2 z3
              have Jm := g_jump (d := d) (fu := nI F) (u := u) (pc := c) (c := a) (cl := cl) (B := B) (S := res.2.1.1) (O := res.2.1.2.1) (tk := res.2.1.2.2) z3 ((U.grow y1.1).grow z1.1) (by omega) ((g1 _ (by omega) (by omega)).trans c4) ((g1 _ (by omega) (by omega)).trans c5)
              exact RunS.pre Jm (ih A res.2.1 res.1 ((U.grow y1.1).grow z1.1) X3 (by omega)) (Nat.le_refl _)
            generalize sWh D s n env res.1 res.2.1 = res2 at R3
            have tk2 : sg1.2.2 + 1 ≤ res2.2.1.2.2 := R3.1.2.2.1
            refine ⟨⟨R3.1.1, R3.1.2.1, Nat.le_trans (Nat.le_succ _) R3.1.2.2.1, R3.1.2.2.2⟩, fun q => ?_, fun q => ?_, fun q q' => ?_⟩
            · obtain ⟨k, A, a1, a2, a3⟩ := R3.2.1 q
              dsimp only at a2
              exact ⟨1 + k, A, G1.trans a1, by omega, a3⟩
            · obtain ⟨k, A, pc, a1, a2, a3⟩ := R3.2.2.1 q
              dsimp only at a2
              exact ⟨1 + k, A, pc, G1.trans a1, by omega, a3⟩
            · obtain ⟨k, s', a1, a2, a3⟩ := R3.2.2.2 q q'
              dsimp only at a2
              exact ⟨1 + k, s', G1.trans a1, by omega, a3⟩
          · rw [if_neg q2]
            refine ⟨⟨R2.1.1, R2.1.2.1, Nat.le_trans (Nat.le_succ _) R2.1.2.2.1, R2.1.2.2.2⟩, fun q => absurd q q2, fun q => ?_, fun q q' => ?_⟩
            · obtain ⟨k, A, pc, a1, a2, a3⟩ := R2.2.2.1 q
              dsimp only at a2
              exact ⟨1 + k, A, pc, G1.trans a1, by omega, a3⟩
            · obtain ⟨k, s', a1, a2, a3⟩ := R2.2.2.2 q q'
              dsimp only at a2
              exact ⟨1 + k, s', G1.trans a1, by omega, a3⟩
        · rw [if_neg q1, if_neg (show ¬ ((loc, sg1, 1, (0, 0)) : (Nat → V2) × DV).2.2.1 = 0 by show ¬ (1 : Int32) = 0; decide)]
          exact RunS.halt (g_stepN y3 (U.grow y1.1) (by omega) ((g1 _ (by omega) (by omega)).trans c3) (by omega) (by have := X'.2.2.2.2.2.2.1; have := X'.1; omega)) (yH_mh y3.1) ⟨SJ.rfl' X'.2.2.2.1, X'.2.2.2.2.1, Nat.le_refl _, X'.2.2.2.2.2.2.1⟩ (by decide) (by decide) (by omega)
      · have X' := X.nextP R1.1 y1 y3
        exact RunS.go Go.rfl' (yX.rfl' y3.1) R1.1.1.1 R1.1.2.1 R1.1.2.2.2.1 X'.2.2.2.2.2.2.2.2.2.2.1 y3 (Nat.zero_le _)
  have e : sWhile D s env loc sg = sWh D s (env.1 + 1) env loc sg := rfl
  rw [e]
  exact key _ Y sg loc U X (by rw [hF]; omega)
end
