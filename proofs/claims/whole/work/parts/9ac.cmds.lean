/-! what an operation keeps of a store's shape -/
def SJ (S S' : SC) : Prop := SI S' ∧ S'.2.2.2.2.2.2.2 = S.2.2.2.2.2.2.2
section
variable {S S' S'' : SC} {x : Int32} {h t y : Int64} {v a b i : V2}
theorem SJ.rfl' (I : SI S) : SJ S S := ⟨I, rfl⟩
theorem SJ.trans (a : SJ S S') (b : SJ S' S'') : SJ S S'' := ⟨b.1, b.2.trans a.2⟩
theorem SI_c (I : SI S) {c : Nat → Int32} {h t : Nat → Int64} (hc : ∀ o, o < 100 → c o = -1 ∨ ∃ m, m ≤ 20 ∧ c o = nI m) : SI (h, t, c, S.2.2.2) := ⟨I.1, I.2.1, hc⟩
theorem SJ_app (I : SI S) : SJ S (c_app S x h t).2 := by
  refine ⟨SI_app I, ?_⟩
  unfold c_app
  (repeat' split) <;> rfl
theorem SJ_make (I : SI S) : SJ S (c_make S).2 := by
  unfold c_make
  split
  · exact SJ.rfl' I
  · refine ⟨SI_c I (fun o ho => ?_), rfl⟩
    unfold upI
    split
    · exact Or.inr ⟨0, by omega, nI_0.symm⟩
    · exact I.2.2 o ho
theorem SJ_dl (I : SI S) : SJ S (c_dl S x) := by
  unfold c_dl
  split
  · exact SJ.rfl' I
  · next hc =>
    refine ⟨SI_c I (fun o ho => ?_), rfl⟩
    unfold upI
    split
    · next e =>
      rcases rng_c x with q | ⟨o', ho', rfl⟩
      · exact absurd (show cOf S x = 0 by unfold cOf; rw [if_pos q]) hc
      · rw [nI_clamp (by omega)]
        rw [cOf_n ho'] at hc
        rcases I.2.2 o' ho' with w | ⟨m, w1, w2⟩
        · rw [w] at hc
          exact absurd rfl hc
        · rw [w2, nI_clamp (by omega)] at hc
          exact Or.inr ⟨m - 1, by omega, by rw [w2]; exact nI_sub (b := 1) (by omega)⟩
    · exact I.2.2 o ho
theorem SJ_df (I : SI S) : SJ S (c_df S x (c_fc S x y)) := by
  have l := cOf_le (x := x) I
  unfold c_df
  split
  · exact SJ.rfl' I
  · next hc =>
    refine ⟨SI_c I (fun o ho => ?_), rfl⟩
    unfold upI
    split
    · next e =>
      rcases s_fc_neg (g := S.1) (y := y) (cOf S x / 2) (fO x) (by omega) with ⟨w1, w2⟩ | ⟨j, w1, w2, w3⟩
      · exact absurd w1 hc
      · rcases rng_c x with q | ⟨o', ho', rfl⟩
        · have : cOf S x = 0 := by unfold cOf; rw [if_pos q]
          omega
        · rw [nI_clamp (by omega)]
          rw [cOf_n ho'] at w1
          rcases I.2.2 o' ho' with w | ⟨m, w4, w5⟩
          · rw [w] at w1
            exact absurd w1 (Nat.not_lt_zero _)
          · rw [w5, nI_clamp (by omega)] at w1
            exact Or.inr ⟨m - 2, by omega, by rw [w5]; exact nI_sub (b := 2) (by omega)⟩
    · exact I.2.2 o ho
theorem SJ_setF (I : SI S) : SJ S (c_setF S x y h t).2 := by
  unfold c_setF
  split
  · exact SJ_df I
  · split
    · split
      · exact (SJ_app I).trans (SJ_app (SJ_app I).1)
      · exact SJ.rfl' I
    · exact ⟨SI_c I I.2.2, rfl⟩
theorem SJ_setR (I : SI S) : SJ S (c_setR S y h t).2 := by
  have hk := I.1
  unfold c_setR
  split
  · split
    · exact SJ.rfl' I
    · next c => exact ⟨⟨show S.2.2.2.2.2.2.1 - 1 ≤ 12 by omega, I.2.1, I.2.2⟩, rfl⟩
  · split
    · split
      · next c => exact ⟨⟨show S.2.2.2.2.2.2.1 + 1 ≤ 12 by omega, I.2.1, I.2.2⟩, rfl⟩
      · exact SJ.rfl' I
    · exact ⟨⟨I.1, I.2.1, I.2.2⟩, rfl⟩
theorem SJ_size (I : SI S) : SJ S (d_size S v).1 := by
  unfold d_size
  (repeat' split) <;> exact SJ.rfl' I
theorem SJ_pop (I : SI S) : SJ S (d_pop S v).1 := by
  unfold d_pop
  (repeat' split) <;> first | exact SJ.rfl' I | exact SJ_dl I
theorem SJ_minus (I : SI S) : SJ S (d_minus S v).1 := by
  unfold d_minus
  (repeat' split) <;> exact SJ.rfl' I
theorem SJ_field (I : SI S) : SJ S (d_field S y v).1 := by
  unfold d_field
  (repeat' split) <;> exact SJ.rfl' I
theorem SJ_item (I : SI S) : SJ S (d_item S a i).1 := by
  unfold d_item
  (repeat' split) <;> exact SJ.rfl' I
theorem SJ_push (I : SI S) : SJ S (d_push S a b).1 := by
  unfold d_push
  (repeat' split) <;> first | exact SJ_app I | exact SJ.rfl' I
theorem SJ_cmp {w : Bool} (I : SI S) : SJ S (d_cmp S w a b).1 := by
  unfold d_cmp
  (repeat' split) <;> exact SJ.rfl' I
theorem SJ_reck (I : SI S) : SJ S (d_reck S x a b).1 := by
  unfold d_reck d_join
  (repeat' split) <;> exact SJ.rfl' I
theorem SJ_stR (I : SI S) : SJ S (d_stR S y v).1 := SJ_setR I
theorem SJ_stF (I : SI S) : SJ S (d_stF S y a b).1 := by
  unfold d_stF
  (repeat' split) <;> first | exact SJ_setF I | exact SJ.rfl' I
theorem SJ_stI (I : SI S) : SJ S (d_stI S a i v).1 := by
  unfold d_stI
  (repeat' split) <;> first | exact SJ.rfl' I | exact ⟨SI_c I I.2.2, rfl⟩
end
/-- the Machine has ended with that ERROR -/
def yH (r : Nat) (fu : Int32) (Y : MY) (s : HS) (e : Int32) (O : oS) (tk : Nat) : Prop := ∃ (Z : MY) (tp bs : Int32) (u : Nat) (pc cl : Int32) (S : SC), s = (Z.1, WW Z.2.2.1 Z.2.2.2.1 Z.2.2.2.2.1 Z.2.2.2.2.2.1 Z.2.2.2.2.2.2.1 Z.2.2.2.2.2.2.2.1 Z.2.2.2.2.2.2.2.2.1 Z.2.2.2.2.2.2.2.2.2.1 Z.2.2.2.2.2.2.2.2.2.2.1 r S O fu tp bs u pc cl (nI tk) e 1 Z.2.2.2.2.2.2.2.2.2.2.2.1 Z.2.2.2.2.2.2.2.2.2.2.2.2, Z.2.1) ∧ yG r Y Z
section
variable {r T d u L K : Nat} {Y Z : MY} {co : Nat → Int32} {po : Nat → Int64} {nm : Int64} {ps lc tn : Nat} {fu : Int32} {B pc cl tk : Nat} {S : SC} {O : oS} {s s' : HS} {out : Option (Unit × HS)}
def yS1 (r : Nat) (fu : Int32) (Y : MY) (T B u pc cl : Nat) (O : oS) (tk : Nat) (out : Option (Unit × HS)) (res : RV) : Prop := (res.2.1 = 0 → ∃ Z, out = some ((), mh r fu Z (T + 1) B u pc cl res.1 O tk 0 0) ∧ yX r T cl Y Z ∧ yV Z T = res.2.2 ∧ yW r (T + 1) Z) ∧ (¬ res.2.1 = 0 → ∃ s', out = some ((), s') ∧ yH r fu Y s' res.2.1 O tk)
def yS0 (r : Nat) (fu : Int32) (Y : MY) (T B u pc cl : Nat) (O : oS) (tk : Nat) (out : Option (Unit × HS)) (res : SC × Int32) : Prop := (res.2 = 0 → ∃ Z, out = some ((), mh r fu Z T B u pc cl res.1 O tk 0 0) ∧ yX r T cl Y Z ∧ yW r T Z) ∧ (¬ res.2 = 0 → ∃ s', out = some ((), s') ∧ yH r fu Y s' res.2 O tk)
theorem yS1_of {res : RV} (W : yW r (T + 1) Y) (h : Op1 (MK Y.1 Y.2.1 Y.2.2.1 Y.2.2.2.1 Y.2.2.2.2.1 Y.2.2.2.2.2.1 Y.2.2.2.2.2.2.2.2.1 Y.2.2.2.2.2.2.2.2.2.1 Y.2.2.2.2.2.2.2.2.2.2.1 r O fu (nI B) u (nI pc) (nI cl) (nI tk) Y.2.2.2.2.2.2.2.2.2.2.2.1 Y.2.2.2.2.2.2.2.2.2.2.2.2) T Y.2.2.2.2.2.2.1 Y.2.2.2.2.2.2.2.1 out res) : yS1 r fu Y T B u pc cl O tk out res := by
  obtain ⟨tp', hd', tl', S', er', dn', h1, h2⟩ := h
  refine ⟨fun e => ?_, fun e => ?_⟩
  · rcases h2 with ⟨_, a1, a2, a3, a4, a5, a6, a7⟩ | ⟨a1, _⟩
    · subst a1 a2 a3 a4
      exact ⟨(Y.1, Y.2.1, Y.2.2.1, Y.2.2.2.1, Y.2.2.2.2.1, Y.2.2.2.2.2.1, hd', tl', Y.2.2.2.2.2.2.2.2.1, Y.2.2.2.2.2.2.2.2.2.1, Y.2.2.2.2.2.2.2.2.2.2.1, Y.2.2.2.2.2.2.2.2.2.2.2.1, Y.2.2.2.2.2.2.2.2.2.2.2.2), h1, ⟨GM.rfl' W.1, fun j hj => Prod.ext (a5 j hj).1 (a5 j hj).2, fun _ _ => ⟨rfl, rfl, rfl⟩⟩, Prod.ext a6 a7, W⟩
    · exact absurd e a1
  · rcases h2 with ⟨a1, _⟩ | ⟨_, a1, a2⟩
    · exact absurd a1 e
    · subst a1 a2
      exact ⟨_, h1, (Y.1, Y.2.1, Y.2.2.1, Y.2.2.2.1, Y.2.2.2.2.1, Y.2.2.2.2.2.1, hd', tl', Y.2.2.2.2.2.2.2.2.1, Y.2.2.2.2.2.2.2.2.2.1, Y.2.2.2.2.2.2.2.2.2.2.1, Y.2.2.2.2.2.2.2.2.2.2.2.1, Y.2.2.2.2.2.2.2.2.2.2.2.2), _, _, _, _, _, _, rfl, GM.rfl' W.1⟩
theorem yS0_of {res : SC × Int32} (W : yW r T Y) (h : Op0 (MK Y.1 Y.2.1 Y.2.2.1 Y.2.2.2.1 Y.2.2.2.2.1 Y.2.2.2.2.2.1 Y.2.2.2.2.2.2.2.2.1 Y.2.2.2.2.2.2.2.2.2.1 Y.2.2.2.2.2.2.2.2.2.2.1 r O fu (nI B) u (nI pc) (nI cl) (nI tk) Y.2.2.2.2.2.2.2.2.2.2.2.1 Y.2.2.2.2.2.2.2.2.2.2.2.2) T Y.2.2.2.2.2.2.1 Y.2.2.2.2.2.2.2.1 out res) : yS0 r fu Y T B u pc cl O tk out res := by
  obtain ⟨tp', hd', tl', S', er', dn', h1, h2⟩ := h
  refine ⟨fun e => ?_, fun e => ?_⟩
  · rcases h2 with ⟨_, a1, a2, a3, a4, a5⟩ | ⟨a1, _⟩
    · subst a1 a2 a3 a4
      exact ⟨(Y.1, Y.2.1, Y.2.2.1, Y.2.2.2.1, Y.2.2.2.2.1, Y.2.2.2.2.2.1, hd', tl', Y.2.2.2.2.2.2.2.2.1, Y.2.2.2.2.2.2.2.2.2.1, Y.2.2.2.2.2.2.2.2.2.2.1, Y.2.2.2.2.2.2.2.2.2.2.2.1, Y.2.2.2.2.2.2.2.2.2.2.2.2), h1, ⟨GM.rfl' W.1, fun j hj => Prod.ext (a5 j hj).1 (a5 j hj).2, fun _ _ => ⟨rfl, rfl, rfl⟩⟩, W⟩
    · exact absurd e a1
  · rcases h2 with ⟨a1, _⟩ | ⟨_, a1, a2⟩
    · exact absurd a1 e
    · subst a1 a2
      exact ⟨_, h1, (Y.1, Y.2.1, Y.2.2.1, Y.2.2.2.1, Y.2.2.2.2.1, Y.2.2.2.2.2.1, hd', tl', Y.2.2.2.2.2.2.2.2.1, Y.2.2.2.2.2.2.2.2.2.1, Y.2.2.2.2.2.2.2.2.2.2.1, Y.2.2.2.2.2.2.2.2.2.2.2.1, Y.2.2.2.2.2.2.2.2.2.2.2.2), _, _, _, _, _, _, rfl, GM.rfl' W.1⟩
theorem yS1_bnd {res : RV} (h : yS1 r fu Y T B u pc cl O tk out res) : yS1 r fu Y T B u pc cl O tk (bnd out fun _ s => some ((), s)) res := by
  refine ⟨fun e => ?_, fun e => ?_⟩
  · obtain ⟨Z, a, b⟩ := h.1 e
    exact ⟨Z, by rw [a]; rfl, b⟩
  · obtain ⟨s', a, b⟩ := h.2 e
    exact ⟨s', by rw [a]; rfl, b⟩
theorem yS0_bnd {res : SC × Int32} (h : yS0 r fu Y T B u pc cl O tk out res) : yS0 r fu Y T B u pc cl O tk (bnd out fun _ s => some ((), s)) res := by
  refine ⟨fun e => ?_, fun e => ?_⟩
  · obtain ⟨Z, a, b⟩ := h.1 e
    exact ⟨Z, by rw [a]; rfl, b⟩
  · obtain ⟨s', a, b⟩ := h.2 e
    exact ⟨s', by rw [a]; rfl, b⟩
theorem y_lay (W : yW r T Y) (hT : T < 8192) {h t : Int64} {er dn : Int32} : ∃ Z, x_Mach_lay (d + 2) 148 h t (mh r fu Y T B u pc cl S O tk er dn) = some ((), mh r fu Z (T + 1) B u pc cl S O tk er dn) ∧ yX r T cl Y Z ∧ yV Z T = (h, t) ∧ yW r (T + 1) Z ∧ (∀ j, Z.2.2.2.2.2.2.2.2.1 j = Y.2.2.2.2.2.2.2.2.1 j ∧ Z.2.2.2.2.2.2.2.2.2.1 j = Y.2.2.2.2.2.2.2.2.2.1 j ∧ Z.2.2.2.2.2.2.2.2.2.2.1 j = Y.2.2.2.2.2.2.2.2.2.2.1 j) := by
  obtain ⟨n', us', hh', tt', N', f', hd', tl', a1, a2, a3, a4, a5, a6⟩ := k_layG (d := d) (us := Y.2.1) (f := Y.2.2.1) (hd := Y.2.2.2.2.2.2.1) (tl := Y.2.2.2.2.2.2.2.1) (cu := Y.2.2.2.2.2.2.2.2.1) (cn := Y.2.2.2.2.2.2.2.2.2.1) (cb := Y.2.2.2.2.2.2.2.2.2.2.1) (S := S) (O := O) (fu := fu) (bs := nI B) (u := u) (pc := nI pc) (cl := nI cl) (tk := nI tk) (er := er) (dn := dn) (rh := Y.2.2.2.2.2.2.2.2.2.2.2.1) (rt := Y.2.2.2.2.2.2.2.2.2.2.2.2) W.1 W.2.1 W.2.2.1 W.2.2.2 hT (h := h) (t := t)
  refine ⟨(n', us', f', hh', tt', N', hd', tl', Y.2.2.2.2.2.2.2.2.1, Y.2.2.2.2.2.2.2.2.2.1, Y.2.2.2.2.2.2.2.2.2.2.1, Y.2.2.2.2.2.2.2.2.2.2.2.1, Y.2.2.2.2.2.2.2.2.2.2.2.2), a1, ⟨a2, fun j hj => Prod.ext (a3 j hj).1 (a3 j hj).2, fun _ _ => ⟨rfl, rfl, rfl⟩⟩, Prod.ext a4 a5, ⟨a2.1, ?_, ?_, a6⟩, fun _ => ⟨rfl, rfl, rfl⟩⟩
  · have := a2.2.2.2.2.2.2.2.1
    have := W.2.1
    show 64 ≤ N'
    omega
  · have := a2.2.2.2.2.2.2.2.2
    have := W.2.2.1
    show N' ≤ 16384
    omega
/-- a command that lays a VALUE -/
theorem y_layS (W : yW r T Y) (hT : T < 8192) {h t : Int64} : yS1 r fu Y T B u pc cl O tk (x_Mach_lay (d + 2) 148 h t (mh r fu Y T B u pc cl S O tk 0 0)) (S, 0, h, t) := by
  obtain ⟨Z, a1, a2, a3, a4, _⟩ := y_lay (d := d) (fu := fu) (B := B) (u := u) (pc := pc) (cl := cl) (S := S) (O := O) (tk := tk) W hT (h := h) (t := t) (er := 0) (dn := 0)
  exact ⟨fun _ => ⟨Z, a1, a2, a3, a4⟩, fun e => absurd rfl e⟩
theorem c_number (W : yW r T Y) (hT : T < 8192) {x : Int32} : yS1 r fu Y T B u pc cl O tk (x_Mach_doConstant (d + 8) 148 11 x (mh r fu Y T B u pc cl S O tk 0 0)) (S, 0, s_Cell_headOf 1, x.toInt64) := by
  unfold x_Mach_doConstant x_Mach_layNumber
  dsimp only
  rw [m_gd0 W.1, if_pos rfl, m_gd0 W.1, e_Cell_headOf, bnd_some]
  exact yS1_bnd (yS1_bnd (y_layS W hT))
theorem c_nil (W : yW r T Y) (hT : T < 8192) {x : Int32} : yS1 r fu Y T B u pc cl O tk (x_Mach_doConstant (d + 8) 148 10 x (mh r fu Y T B u pc cl S O tk 0 0)) (S, 0, 0, 0) := by
  unfold x_Mach_doConstant
  dsimp only
  rw [m_gd0 W.1, if_neg (show ¬ (10 : Int32) = 11 by decide), if_neg (show ¬ (10 : Int32) = 12 by decide)]
  exact yS1_bnd (y_layS W hT)
theorem c_text (W : yW r T Y) (hT : T < 8192) (U : UU r Y u L co K po nm ps lc tn) {a : Nat} (ha : a + 1 < K) : yS1 r fu Y T B u pc cl O tk (x_Mach_doConstant (d + 8) 148 12 (nI a) (mh r fu Y T B u pc cl S O tk 0 0)) (S, 0, po a, po (a + 1)) := by
  unfold x_Mach_doConstant
  dsimp only
  rw [m_gd0 W.1, if_neg (show ¬ (12 : Int32) = 11 by decide), if_pos rfl, m_g4 W.1, Option.bind_some, u_ct W.1 U (by omega), bnd_some, m_g4 W.1, Option.bind_some, ← nI_succ, u_ct W.1 U ha, bnd_some]
  exact yS1_bnd (y_layS W hT)
theorem k_bY {j : Nat} (W : yW r T Y) (hj : j < 2 ^ 30) {er dn : Int32} : x_Mach_below (d + 1) 148 (nI j) (mh r fu Y T B u pc cl S O tk er dn) = some (nI (T - j), mh r fu Y T B u pc cl S O tk er dn) := k_below W.1 (by have := W.2.2; omega) hj
theorem k_bY1 (W : yW r T Y) {er dn : Int32} : x_Mach_below (d + 1) 148 1 (mh r fu Y T B u pc cl S O tk er dn) = some (nI (T - 1), mh r fu Y T B u pc cl S O tk er dn) := k_bY (j := 1) W (by decide)
theorem c_loadL (W : yW r T Y) (hT : T < 8192) {i : Nat} (hi : B + i < T) : yS1 r fu Y T B u pc cl O tk (x_Mach_doPlace (d + 8) 148 13 (nI i) (mh r fu Y T B u pc cl S O tk 0 0)) (S, 0, yV Y (B + i)) := by
  have hN : Y.2.2.2.2.2.1 < 2 ^ 31 := by have := W.2.2; omega
  have hb : B + i < Y.2.2.2.2.2.1 := by have := W.2.2; omega
  unfold x_Mach_doPlace
  dsimp only
  rw [m_gd0 W.1, k_bY1 W, bnd_some, if_pos rfl, m_g0 W.1, Option.bind_some, k_localAt W.1 (by have := W.2.2; omega) hb, bnd_some, w_aH W.1 hN hb, Option.bind_some, m_g1 W.1, Option.bind_some, k_localAt W.1 (by have := W.2.2; omega) hb, bnd_some, w_aT W.1 hN hb, Option.bind_some]
  exact yS1_bnd (y_layS W hT)
theorem c_loadR (W : yW r T Y) (hT : T < 8192) (I : SI S) (U : UU r Y u L co K po nm ps lc tn) {a : Nat} (ha : a < K) : yS1 r fu Y T B u pc cl O tk (x_Mach_doPlace (d + 8) 148 15 (nI a) (mh r fu Y T B u pc cl S O tk 0 0)) (S, 0, if s_find S.2.2.2.1 S.2.2.2.2.2.2.1 (po a) < 0 then (0, 0) else (S.2.2.2.2.1 (s_find S.2.2.2.1 S.2.2.2.2.2.2.1 (po a)).toNatClampNeg, S.2.2.2.2.2.1 (s_find S.2.2.2.1 S.2.2.2.2.2.2.1 (po a)).toNatClampNeg)) := by
  have hk := I.1
  unfold x_Mach_doPlace x_Mach_loadRoot
  dsimp only
  rw [m_gd0 W.1, k_bY1 W, bnd_some, if_neg (show ¬ (15 : Int32) = 13 by decide), if_neg (show ¬ (15 : Int32) = 14 by decide), if_pos rfl, m_g10 W.1, Option.bind_some, m_g4 W.1, Option.bind_some, u_ct W.1 U ha, bnd_some, W_rootAt W.1 I, bnd_some, m_gd0 W.1]
  rcases s_fd_neg (g := S.2.2.2.1) (y := po a) S.2.2.2.2.2.2.1 0 (by omega) with ⟨w1, w2, w3⟩ | ⟨j, w1, w2, w3, w4, w5⟩
  · have e : s_find S.2.2.2.1 S.2.2.2.2.2.2.1 (po a) = -1 := w2
    rw [e, if_neg (show ¬ (0 : Int32) ≤ -1 by decide), if_pos (show (-1 : Int32) < 0 by decide)]
    exact yS1_bnd (yS1_bnd (y_layS W hT))
  · have e : s_find S.2.2.2.1 S.2.2.2.2.2.2.1 (po a) = nI j := w3
    rw [e, if_pos (nI_pos' (by omega)), if_neg (nI_pos (by omega)), nI_clamp (by omega)]
    simp only [m_g10 W.1, Option.bind_some, W_g5 W.1, W_g6 W.1, W_a5 W.1 (show j < 12 by omega), W_a6 W.1 (show j < 12 by omega)]
    exact yS1_bnd (yS1_bnd (y_layS W hT))
/-- a STORE_LOCAL -/
theorem c_storeL (W : yW r (T + 1) Y) {i : Nat} (hi : B + i < T) {er dn : Int32} : x_Mach_doPlace (d + 8) 148 14 (nI i) (mh r fu Y (T + 1) B u pc cl S O tk er dn) = some ((), mh r fu (Y.1, Y.2.1, Y.2.2.1, Y.2.2.2.1, Y.2.2.2.2.1, Y.2.2.2.2.2.1, upL Y.2.2.2.2.2.2.1 (B + i) (Y.2.2.2.2.2.2.1 T), upL Y.2.2.2.2.2.2.2.1 (B + i) (Y.2.2.2.2.2.2.2.1 T), Y.2.2.2.2.2.2.2.2.1, Y.2.2.2.2.2.2.2.2.2.1, Y.2.2.2.2.2.2.2.2.2.2.1, Y.2.2.2.2.2.2.2.2.2.2.2.1, Y.2.2.2.2.2.2.2.2.2.2.2.2) T B u pc cl S O tk er dn) := by
  have hN : Y.2.2.2.2.2.1 < 2 ^ 31 := by have := W.2.2; omega
  have hN0 : Y.2.2.2.2.2.1 < 2 ^ 30 := by have := W.2.2; omega
  have hb : B + i < Y.2.2.2.2.2.1 := by have := W.2.2; omega
  have hT : T < Y.2.2.2.2.2.1 := by have := W.2.2; omega
  unfold x_Mach_doPlace
  dsimp only
  rw [m_gd0 W.1, k_bY1 W, bnd_some, if_neg (show ¬ (14 : Int32) = 13 by decide), if_pos rfl, Nat.add_sub_cancel, m_p2 W.1, Option.bind_some, m_g0 W.1, Option.bind_some, k_localAt W.1 hN0 hb, bnd_some, m_g0 W.1, Option.bind_some, w_aH W.1 hN hT, Option.bind_some, w_sH W.1 hN hb, Option.bind_some, m_g1 W.1, Option.bind_some, k_localAt W.1 hN0 hb, bnd_some, m_g1 W.1, Option.bind_some, w_aT W.1 hN hT, Option.bind_some, w_sT W.1 hN hb, Option.bind_some]
theorem c_storeR (W : yW r (T + 1) Y) (I : SI S) (U : UU r Y u L co K po nm ps lc tn) {a : Nat} (ha : a < K) : yS0 r fu Y T B u pc cl O tk (x_Mach_doPlace (d + 8) 148 16 (nI a) (mh r fu Y (T + 1) B u pc cl S O tk 0 0)) (d_stR S (po a) (yV Y T)) := by
  have hN : Y.2.2.2.2.2.1 < 2 ^ 31 := by have := W.2.2; omega
  have hT : T < Y.2.2.2.2.2.1 := by have := W.2.2; omega
  unfold x_Mach_doPlace d_stR
  dsimp only
  rw [m_gd0 W.1, k_bY1 W, bnd_some, if_neg (show ¬ (16 : Int32) = 13 by decide), if_neg (show ¬ (16 : Int32) = 14 by decide), if_neg (show ¬ (16 : Int32) = 15 by decide), if_pos rfl, Nat.add_sub_cancel, m_p2 W.1, Option.bind_some, m_g10 W.1, Option.bind_some, m_g4 W.1, Option.bind_some, u_ct W.1 U ha, bnd_some, m_g0 W.1, Option.bind_some, w_aH W.1 hN hT, Option.bind_some, m_g1 W.1, Option.bind_some, w_aT W.1 hN hT, Option.bind_some, W_setRoot W.1 I, bnd_some]
  refine yS0_of ⟨W.1, W.2.1, W.2.2.1, by have := W.2.2; omega⟩ ?_
  by_cases c : (c_setR S (po a) (Y.2.2.2.2.2.2.1 T) (Y.2.2.2.2.2.2.2.1 T)).1 = true
  · rw [if_pos c, if_neg (show ¬ (1 : Int32) = 0 by decide), if_pos c]
    exact Op0.ok
  · rw [if_neg c, if_pos rfl, if_neg c, k_fail W.1, bnd_some]
    exact Op0.er (by decide)
end
