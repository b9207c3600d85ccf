/-! FUNCTIONS: a call does what the body's denotation says -/
abbrev FD : Type := List Nat × Nat × DSt
def fX (FT : Nat → FD) (sg : Sg) (w : List Nat) : Int32 := s_find (fun i => nC (FT i).1) sg.1.2.2.2.2.2.2.2.2 (nC w)
abbrev bS (sg : Sg) : Sg := (sg.1, sg.2.1, sg.2.2 + 1)
def fEnd (res : (Nat → V2) × DV) : DV := (res.2.1, if res.2.2.1 = 11 then 0 else res.2.2.1, if res.2.2.1 = 11 then res.2.2.2 else (0, 0))
def l0 (m : Nat) (vs : Nat → V2) : Nat → V2 := fun i => if i < m then vs i else (0, 0)
def callN (FT : Nat → FD) (F : Nat) : Nat → CIt
  | 0 => fun w m _ sg => if sg.2.2 < F then (if fX FT sg w < 0 ∨ ¬ (FT (fX FT sg w).toNatClampNeg).2.1 = m then (bS sg, 6, (0, 0)) else (bS sg, 7, (0, 0))) else (sg, 1, (0, 0))
  | n + 1 => fun w m vs sg => if sg.2.2 < F then (if fX FT sg w < 0 ∨ ¬ (FT (fX FT sg w).toNatClampNeg).2.1 = m then (bS sg, 6, (0, 0)) else fEnd ((FT (fX FT sg w).toNatClampNeg).2.2 (F, callN FT F n) (l0 m vs) (bS sg))) else (sg, 1, (0, 0))
/-- a unit of the class has that name, so many NAMES, and its code does that -/
def FG (ui : UI) (fd : FD) : Prop := uNm ui = nC fd.1 ∧ uPs ui = fd.2.1 ∧ ∃ b lcl need kp, ImS 0 b lcl need kp ui.2.2.1 ui.2.2.2.2.1 fd.2.2 ∧ lcl ≤ uLc ui ∧ uPs ui ≤ uLc ui ∧ uLc ui + need ≤ 512 ∧ 1 ≤ need ∧ kp ≤ ui.2.2.2.1 ∧ ui.2.1 = 2 * b + 4 ∧ ui.2.2.1 (2 * b) = 10 ∧ ui.2.2.1 (2 * (b + 1)) = 6 ∧ b + 2 ≤ 8192
section
variable {r T d u L K : Nat} {Y Z : MY} {co : Nat → Int32} {po : Nat → Int64} {nm : Int64} {ps lc tn : Nat} {fu : Int32} {F B pc cl tk : Nat} {S : SC} {O : oS} {sg : Sg} {e : Int32} {s0 s1 : HS} {m b : Nat}
theorem g_leaveF {s' : HS} {x : Int32} (W : yW r T Y) (h : x_Mach_leave (d + 7) 148 (mh r fu Y T B u pc cl S O tk 0 0) = some ((), s')) : x_Mach_doFlow (d + 8) 148 6 x (mh r fu Y T B u pc cl S O tk 0 0) = some ((), s') := by
  have hN := W.2.2.1
  have hN0 := W.2.1
  have hT := W.2.2.2
  have hT1 : T - 1 < Y.2.2.2.2.2.1 := by omega
  have hNN : Y.2.2.2.2.2.1 < 2 ^ 31 := by omega
  unfold x_Mach_doFlow
  dsimp only
  rw [m_gd0 W.1, k_bY1 W, bnd_some, m_g0 W.1, Option.bind_some, w_aH W.1 hNN hT1, Option.bind_some, m_g1 W.1, Option.bind_some, w_aT W.1 hNN hT1, Option.bind_some, e_Cell_isTrue, bnd_some, if_neg (show ¬ (6 : Int32) = 0 by decide), if_neg (show ¬ (6 : Int32) = 1 by decide), if_neg (show ¬ (6 : Int32) = 2 by decide), if_neg (show ¬ (6 : Int32) = 3 by decide), if_neg (show ¬ (6 : Int32) = 4 by decide), if_neg (show ¬ (6 : Int32) = 5 by decide), if_pos rfl, h, bnd_some]
theorem RunP.halt {T : Nat} {v : V2} {sg1 : Sg} {PV : (Nat → V2) → Prop} (h : yH r (nI F) Y s1 e sg1.2.1 sg1.2.2) (G : GD F sg sg1 e) (h0 : ¬ e = 0) : RunP d r F Y T B u b cl s1 0 m sg sg1 e PV := ⟨G, fun q => absurd q h0, fun _ => ⟨0, s1, Go.rfl', Nat.zero_le _, h⟩⟩
theorem g_back {c B' u' pc' : Nat} (W : yW r (T + 1) Y) (U : UU r Y u L co K po nm ps lc tn) (hp : 2 * pc + 1 < L) (h1 : co (2 * pc) = 6) (hB : B ≤ T) (hc : c < 8) (e1 : Y.2.2.2.2.2.2.2.2.1 c = .ref u') (e2 : Y.2.2.2.2.2.2.2.2.2.1 c = nI pc') (e3 : Y.2.2.2.2.2.2.2.2.2.2.1 c = nI B') : ∃ Z, Go d 1 (mh r fu Y (T + 1) B u pc (c + 1) S O tk 0 0) (mh r fu Z (B + 1) B' u' pc' c S O tk 0 0) ∧ yX r B c Y Z ∧ yV Z B = yV Y T ∧ yW r (B + 1) Z := by
  obtain ⟨Z, z1, z2, z3, z4⟩ := y_leave (d := d + 5) (fu := fu) (u := u) (pc := pc + 1) (S := S) (O := O) (tk := tk) W hB hc e1 e2 e3
  exact ⟨Z, go_flow W.1 U hp h1 rfl (by decide) (g_leaveF W z1), z2, z3, z4⟩
end
theorem find_or {g : Nat → Int64} {k : Nat} {y : Int64} (hk : k < 2 ^ 31) : s_find g k y < 0 ∨ ∃ j, j < k ∧ s_find g k y = nI j ∧ g j = y := by
  rcases s_fd_neg (g := g) (y := y) k 0 (by omega) with h | ⟨j, _, h2, h3, h4, _⟩
  · exact Or.inl h.1
  · exact Or.inr ⟨j, by omega, h3, h4⟩
theorem CK_of {d r F : Nat} {FI : Nat → UI} {FT : Nat → FD} (hF : F ≤ 2000) (G : ∀ i, FG (FI i) (FT i)) : ∀ rem, CK d r F FI (F, callN FT F rem) rem := by
  intro rem
  induction rem with
  | zero =>
    intro Y Q m B pc cl sg w ui vs UVY W I O FF hF8 hcl ow wl hm h8 hQ hvs
    have hn : (fun i => uNm (FI i)) = fun i => nC (FT i).1 := funext fun i => (G i).1
    have hI := I.2.1
    have hps : ∀ i, uPs (FI i) < 2 ^ 31 := fun i => by
      obtain ⟨_, _, b, lcl, need, kp, _, _, h1, h2, _⟩ := G i
      omega
    show ∃ s1, _ ∧ RunP d r F Y Q B ui.1 pc cl s1 0 1 sg (callN FT F 0 w m vs sg).1 (callN FT F 0 w m vs sg).2.1 (fun z => z 0 = (callN FT F 0 w m vs sg).2.2)
    unfold callN
    by_cases q : sg.2.2 < F
    · rw [if_pos q]
      by_cases q6 : fX FT sg w < 0 ∨ ¬ (FT (fX FT sg w).toNatClampNeg).2.1 = m
      · rw [if_pos q6]
        refine ⟨_, y_call6 (d := d + 1) (by omega) W I FF q (by omega) (fun i _ => hps i) (by rw [hn]; exact q6.imp id (fun h => by rw [(G _).2.1]; exact h)), ?_⟩
        exact RunP.halt (v := (0, 0)) (yH_mh W.1) ⟨SJ.rfl' I, O, Nat.le_succ _, q, by show ¬ (6 : Int32) = 11; decide⟩ (by show ¬ (6 : Int32) = 0; decide)
      · rw [if_neg q6]
        have q6' := not_or.mp q6
        rcases find_or (g := fun i => nC (FT i).1) (k := sg.1.2.2.2.2.2.2.2.2) (y := nC w) (by omega) with h | ⟨j, h1, h2, h3⟩
        · exact absurd h q6'.1
        · have ej : (fX FT sg w).toNatClampNeg = j := by
            unfold fX
            rw [h2]
            exact nI_clamp (by omega)
          have q7 := Decidable.not_not.mp q6'.2
          rw [ej] at q7
          have e8 : cl = 8 := by omega
          subst e8
          refine ⟨_, y_call7 (d := d + 1) (by omega) W I FF q (by rw [hn]; exact h2) h1 (by rw [(G j).2.1]; exact q7), ?_⟩
          exact RunP.halt (v := (0, 0)) (yH_mh W.1) ⟨SJ.rfl' I, O, Nat.le_succ _, q, by show ¬ (7 : Int32) = 11; decide⟩ (by show ¬ (7 : Int32) = 0; decide)
    · rw [if_neg q]
      refine ⟨_, y_call1 (d := d + 1) (by omega) W (by omega) (by omega), ?_⟩
      exact RunP.halt (v := (0, 0)) (yH_mh W.1) ⟨SJ.rfl' I, O, Nat.le_refl _, hF8, by show ¬ (1 : Int32) = 11; decide⟩ (by show ¬ (1 : Int32) = 0; decide)
  | succ n ih =>
    intro Y Q m B pc cl sg w ui vs UVY W I O FF hF8 hcl ow wl hm h8 hQ hvs
    have hn : (fun i => uNm (FI i)) = fun i => nC (FT i).1 := funext fun i => (G i).1
    have hI := I.2.1
    have hps : ∀ i, uPs (FI i) < 2 ^ 31 := fun i => by
      obtain ⟨_, _, b, lcl, need, kp, _, _, h1, h2, _⟩ := G i
      omega
    show ∃ s1, _ ∧ RunP d r F Y Q B ui.1 pc cl s1 0 1 sg (callN FT F (n + 1) w m vs sg).1 (callN FT F (n + 1) w m vs sg).2.1 (fun z => z 0 = (callN FT F (n + 1) w m vs sg).2.2)
    unfold callN
    by_cases q : sg.2.2 < F
    · rw [if_pos q]
      by_cases q6 : fX FT sg w < 0 ∨ ¬ (FT (fX FT sg w).toNatClampNeg).2.1 = m
      · rw [if_pos q6]
        refine ⟨_, y_call6 (d := d + 1) (by omega) W I FF q (by omega) (fun i _ => hps i) (by rw [hn]; exact q6.imp id (fun h => by rw [(G _).2.1]; exact h)), ?_⟩
        exact RunP.halt (v := (0, 0)) (yH_mh W.1) ⟨SJ.rfl' I, O, Nat.le_succ _, q, by show ¬ (6 : Int32) = 11; decide⟩ (by show ¬ (6 : Int32) = 0; decide)
      · rw [if_neg q6]
        have q6' := not_or.mp q6
        rcases find_or (g := fun i => nC (FT i).1) (k := sg.1.2.2.2.2.2.2.2.2) (y := nC w) (by omega) with h | ⟨j, h1, h2, h3⟩
        · exact absurd h q6'.1
        · have ej : (fX FT sg w).toNatClampNeg = j := by
            unfold fX
            rw [h2]
            exact nI_clamp (by omega)
          have q7 := Decidable.not_not.mp q6'.2
          rw [ej] at q7 ⊢
          obtain ⟨f1, f2, b, lcl, need, kp, f3, f4, f5, f6, f7, f8, f9, f10, f11, f12⟩ := G j
          have FJ := (FF j h1).2
          obtain ⟨Z, z1, z2, z3, z4, z5, z6, z7⟩ := y_call (d := d + 1) (F := F) (j := j) (pc := pc) (B := B) (cl := cl) (O := sg.2.1) (by omega) W I FF q (by rw [hn]; exact h2) h1 (by rw [f2]; exact q7) (by omega) UVY (by omega) (by omega)
          refine ⟨_, z1, ?_⟩
          have X : CX d r F Z (Q + uLc (FI j)) Q (cl + 1) (bS sg) FI (F, callN FT F n) n (uLc (FI j)) (l0 m vs) need := by
            refine ⟨hF, rfl, z4, I, O, FF.grow z2.1, q, by omega, ih, Nat.le_refl _, fun i hi => ?_, by omega⟩
            unfold l0
            by_cases c : i < m
            · rw [if_pos c, hvs i c]
              exact (z2.2.1 _ (by omega)).symm
            · rw [if_neg c]
              exact (z3 _ (by omega) (by omega)).symm
          have FZ : UV r Z (FI j) := FJ.grow z2.1
          have R := f3 (FI j).2.2.1 (FI j).2.2.2.2.1 (fun _ _ _ => rfl) (fun _ _ => rfl) d r F Z Q (uLc (FI j)) (FI j).1 (FI j).2.1 (FI j).2.2.2.1 (uNm (FI j)) (uPs (FI j)) (uLc (FI j)) (FI j).2.2.2.2.2.2.2.2 (cl + 1) (bS sg) FI (F, callN FT F n) n (l0 m vs) FZ (by omega) f8 f4 X
          generalize hres : (FT j).2.2 (F, callN FT F n) (l0 m vs) (bS sg) = res at R
          have gs := R.1
          have tk1 : sg.2.2 + 1 ≤ res.2.1.2.2 := gs.2.2.1
          have GG : ∀ e : Int32, ¬ e = 11 → GD F sg res.2.1 e := fun e he => ⟨gs.1, gs.2.1, by omega, gs.2.2.2, he⟩
          have hYZ : yX r Q cl Y Z := z2.less (by omega) (Nat.le_refl _)
          unfold fEnd
          dsimp only
          have fin : ∀ (k pc' : Nat) (A : MY), Go d k (mh r (nI F) Z (Q + uLc (FI j)) Q (FI j).1 0 (cl + 1) sg.1 sg.2.1 (sg.2.2 + 1) 0 0) (mh r (nI F) A (Q + uLc (FI j) + 1) Q (FI j).1 pc' (cl + 1) res.2.1.1 res.2.1.2.1 res.2.1.2.2 0 0) → k ≤ b + 1 + 8192 * (res.2.1.2.2 - (sg.2.2 + 1)) → yX r Q (cl + 1) Z A → yW r (Q + uLc (FI j) + 1) A → (FI j).2.2.1 (2 * pc') = 6 → 2 * pc' + 1 < (FI j).2.1 → RunP d r F Y Q B ui.1 pc cl (mh r (nI F) Z (Q + uLc (FI j)) Q (FI j).1 0 (cl + 1) sg.1 sg.2.1 (sg.2.2 + 1) 0 0) 0 1 sg res.2.1 0 (fun z => z 0 = yV A (Q + uLc (FI j))) := by
            intro k pc' A a1 a2 a3 a4 a5 a6
            have ca := a3.2.2 cl (by omega)
            obtain ⟨A', b1, b2, b3, b4⟩ := g_back (d := d) (fu := nI F) (S := res.2.1.1) (O := res.2.1.2.1) (tk := res.2.1.2.2) a4 (FZ.grow a3.1) a6 a5 (show Q ≤ Q + uLc (FI j) by omega) (show cl < 8 by omega) (ca.1.trans z5) (ca.2.1.trans z6) (ca.2.2.trans z7)
            refine ⟨GG 0 (by decide), fun _ => ⟨k + 1, A', a1.trans b1, ?_, hYZ.trans ((a3.less (Nat.le_refl _) (Nat.le_succ _)).trans b2 (Nat.le_refl _) (Nat.le_refl _)) (Nat.le_refl _) (Nat.le_refl _), b3, b4⟩, fun q => absurd rfl q⟩
            omega
          by_cases e11 : res.2.2.1 = 11
          · rw [if_pos e11, if_pos e11]
            obtain ⟨k, A, pc', a1, a2, a3, a4, a5, a6, a7⟩ := R.2.2.1 e11
            have a2' : k ≤ b - 0 + 8192 * (res.2.1.2.2 - (sg.2.2 + 1)) := a2
            have := fin k pc' A a1 (by omega) a3 a5 a6 a7
            rw [a4] at this
            exact this
          · rw [if_neg e11, if_neg e11]
            by_cases e0 : res.2.2.1 = 0
            · obtain ⟨k, A, a1, a2, a3, a4, a5⟩ := R.2.1 e0
              have a2' : k ≤ b - 0 + 8192 * (res.2.1.2.2 - (sg.2.2 + 1)) := a2
              obtain ⟨out, b1, b2, _⟩ := cm_nil (K := (FI j).2.2.2.1) (x := (FI j).2.2.1 (2 * b + 1)) d r (nI F) A (Q + uLc (FI j)) Q (FI j).1 b (FI j).2.1 (FI j).2.2.1 (uNm (FI j)) (uPs (FI j)) (uLc (FI j)) (FI j).2.2.2.2.2.2.2.2 (cl + 1) res.2.1.1 res.2.1.2.1 res.2.1.2.2 (FZ.grow a3.1) (by omega) f10 rfl a5 gs.1.1 (by omega)
              obtain ⟨A', c1, c2, c3, c4⟩ := b2 rfl
              have := fin (k + 1) (b + 1) A' (a1.trans (b1 _ c1)) (by omega) (a3.trans c2 (by omega) (Nat.le_refl _)) c4 f11 (by omega)
              rw [c3] at this
              rw [e0]
              exact this
            · obtain ⟨k, s', a1, a2, a3⟩ := R.2.2.2 e0 e11
              have a2' : k ≤ b - 0 + 8192 * (res.2.1.2.2 - (sg.2.2 + 1)) := a2
              refine ⟨GG _ e11, fun q => absurd q e0, fun _ => ⟨k, s', a1, by omega, a3.grow z2.1⟩⟩
    · rw [if_neg q]
      refine ⟨_, y_call1 (d := d + 1) (by omega) W (by omega) (by omega), ?_⟩
      exact RunP.halt (v := (0, 0)) (yH_mh W.1) ⟨SJ.rfl' I, O, Nat.le_refl _, hF8, by show ¬ (1 : Int32) = 11; decide⟩ (by show ¬ (1 : Int32) = 0; decide)
