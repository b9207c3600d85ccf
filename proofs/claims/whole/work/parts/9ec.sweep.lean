/-! sweep: the class -/
def rfB (d x1 : Nat) (v2 v4 : Int32) : (Int32 × HS → Option (Unit × HS)) → Int32 × HS → Option (Unit × HS) := (fun (again18 : Int32 × HS → Option (Unit × HS)) (z18 : Int32 × HS) => (if (v2 + v4) ≤ z18.1 then (some ((), z18.2)) else ((gR z18.2 x1 10 0).bind fun v5 => ((aL z18.2 v5 z18.1).bind fun v6 => ((gR z18.2 x1 10 1).bind fun v7 => ((aL z18.2 v7 z18.1).bind fun v8 => (bnd (x_Sweep_reach d 157 v6 v8 z18.2) fun v10 s9 => (again18 ((z18.1 + 1), s9)))))))))
theorem rfB_eq {d x1 : Nat} {v2 v4 : Int32} {z : Int32} {s : HS} {ag : Int32 × HS → Option (Unit × HS)} : rfB d x1 v2 v4 ag (z, s) = (if (v2 + v4) ≤ z then (some ((), s)) else ((gR s x1 10 0).bind fun v5 => ((aL s v5 z).bind fun v6 => ((gR s x1 10 1).bind fun v7 => ((aL s v7 z).bind fun v8 => (bnd (x_Sweep_reach d 157 v6 v8 s) fun v10 s9 => (ag ((z + 1), s9)))))))) := rfl
def tuB (d x1 : Nat) : (Int32 × Int32 × HS → Option (Int32 × HS)) → Int32 × Int32 × HS → Option (Int32 × HS) := (fun (again4 : Int32 × Int32 × HS → Option (Int32 × HS)) (z4 : Int32 × Int32 × HS) => (if 100 ≤ z4.2.1 then (some (z4.1, z4.2.2)) else ((gR z4.2.2 157 8 0).bind fun v1 => ((aZ z4.2.2 v1 z4.2.1).bind fun v2 => (if v2 = 0 then (bnd (x_Store_isThere d x1 z4.2.1 z4.2.2) fun v4 s3 => (if v4 = 0 then (again4 (z4.1, (z4.2.1 + 1), s3)) else (bnd (x_Store_takeAway d x1 z4.2.1 s3) fun v6 s5 => (again4 ((z4.1 + 1), (z4.2.1 + 1), s5))))) else (again4 (z4.1, (z4.2.1 + 1), z4.2.2)))))))
theorem tuB_eq {d x1 : Nat} {y : Int32} {z : Int32} {s : HS} {ag : Int32 × Int32 × HS → Option (Int32 × HS)} : tuB d x1 ag (y, z, s) = (if 100 ≤ z then (some (y, s)) else ((gR s 157 8 0).bind fun v1 => ((aZ s v1 z).bind fun v2 => (if v2 = 0 then (bnd (x_Store_isThere d x1 z s) fun v4 s3 => (if v4 = 0 then (ag (y, (z + 1), s3)) else (bnd (x_Store_takeAway d x1 z s3) fun v6 s5 => (ag ((y + 1), (z + 1), s5))))) else (ag (y, (z + 1), s)))))) := rfl
def cn2 (d x1 : Nat) : (Int32 × HS → Option (Int32 × HS)) → Int32 × HS → Option (Int32 × HS) := (fun (again60 : Int32 × HS → Option (Int32 × HS)) (z60 : Int32 × HS) => ((gI z60.2 157 8 2).bind fun v4 => (if v4 ≤ z60.1 then (bnd (x_Sweep_takeUnreached d 157 x1 z60.2) fun v6 s5 => (some (v6, s5))) else (if 100 ≤ z60.1 then (bnd (x_Sweep_takeUnreached d 157 x1 z60.2) fun v8 s7 => (some (v8, s7))) else ((gR z60.2 157 8 1).bind fun v9 => ((aI z60.2 v9 z60.1).bind fun v10 => (bnd (x_Sweep_reachFrom d 157 x1 v10 z60.2) fun v12 s11 => (again60 ((z60.1 + 1), s11)))))))))
theorem cn2_eq {d x1 : Nat} {z : Int32} {s : HS} {ag : Int32 × HS → Option (Int32 × HS)} : cn2 d x1 ag (z, s) = ((gI s 157 8 2).bind fun v4 => (if v4 ≤ z then (bnd (x_Sweep_takeUnreached d 157 x1 s) fun v6 s5 => (some (v6, s5))) else (if 100 ≤ z then (bnd (x_Sweep_takeUnreached d 157 x1 s) fun v8 s7 => (some (v8, s7))) else ((gR s 157 8 1).bind fun v9 => ((aI s v9 z).bind fun v10 => (bnd (x_Sweep_reachFrom d 157 x1 v10 s) fun v12 s11 => (ag ((z + 1), s11)))))))) := rfl
def cn1 (d x1 : Nat) : (Int32 × HS → Option (Int32 × HS)) → Int32 × HS → Option (Int32 × HS) := (fun (again28 : Int32 × HS → Option (Int32 × HS)) (z28 : Int32 × HS) => (bnd (x_Store_roots d x1 z28.2) fun v3 s2 => (if v3 ≤ z28.1 then (loopK (cn2 d x1) FU (0, s2)) else ((gR s2 x1 10 4).bind fun v13 => ((aL s2 v13 z28.1).bind fun v14 => ((gR s2 x1 10 5).bind fun v15 => ((aL s2 v15 z28.1).bind fun v16 => (bnd (x_Sweep_reach d 157 v14 v16 s2) fun v18 s17 => (again28 ((z28.1 + 1), s17))))))))))
theorem cn1_eq {d x1 : Nat} {z : Int32} {s : HS} {ag : Int32 × HS → Option (Int32 × HS)} : cn1 d x1 ag (z, s) = (bnd (x_Store_roots d x1 s) fun v3 s2 => (if v3 ≤ z then (loopK (cn2 d x1) FU (0, s2)) else ((gR s2 x1 10 4).bind fun v13 => ((aL s2 v13 z).bind fun v14 => ((gR s2 x1 10 5).bind fun v15 => ((aL s2 v15 z).bind fun v16 => (bnd (x_Sweep_reach d 157 v14 v16 s2) fun v18 s17 => (ag ((z + 1), s17))))))))) := rfl
def cn0 (d x1 : Nat) : (Int32 × HS → Option (Int32 × HS)) → Int32 × HS → Option (Int32 × HS) := (fun (again2 : Int32 × HS → Option (Int32 × HS)) (z2 : Int32 × HS) => (if 100 ≤ z2.1 then ((pV z2.2 157 8 2 (.int 0)).bind fun s1 => (loopK (cn1 d x1) FU (0, s1))) else ((gR z2.2 157 8 0).bind fun v19 => ((sV z2.2 .boolean v19 z2.1 (narrow .boolean (.int 0))).bind fun s20 => (again2 ((z2.1 + 1), s20))))))
theorem cn0_eq {d x1 : Nat} {z : Int32} {s : HS} {ag : Int32 × HS → Option (Int32 × HS)} : cn0 d x1 ag (z, s) = (if 100 ≤ z then ((pV s 157 8 2 (.int 0)).bind fun s1 => (loopK (cn1 d x1) FU (0, s1))) else ((gR s 157 8 0).bind fun v19 => ((sV s .boolean v19 z (narrow .boolean (.int 0))).bind fun s20 => (ag ((z + 1), s20))))) := rfl
abbrev SWs : Type := (Nat → Int32) × (Nat → Int32) × Nat
def HWp (f : Nat → am_C) (X : SWs) : Nat → am_C := fun x => if x = 157 then .inr (8, [.ref 158, .ref 159, .int (nI X.2.2)]) else if x = 158 then .inl (.boolean, 100, fun j => .int (X.1 j)) else if x = 159 then aInt 100 X.2.1 else f x
/-- an OBJECT is reached -/
def rch (X : SWs) (o : Nat) : SWs := if X.1 o = 0 then (upI X.1 o 1, upI X.2.1 X.2.2 (nI o), X.2.2 + 1) else X
def rchQ (X : SWs) (q : VQ) : SWs := if q.1 < 3 then X else rch X q.2.2.1.toInt32.toNatClampNeg
def SWI (X : SWs) : Prop := X.2.2 = cntB (fun o => decide (¬ X.1 o = 0)) 100 ∧ (∀ o, X.1 o = 0 ∨ X.1 o = 1) ∧ ∀ i, i < X.2.2 → ∃ o, o < 100 ∧ X.2.1 i = nI o
theorem cntB_lt {b : Nat → Bool} {o : Nat} : ∀ n, o < n → b o = false → cntB b n < n
  | 0, h, _ => absurd h (Nat.not_lt_zero _)
  | n + 1, h, e => by
    rw [cntB]
    by_cases c : o = n
    · rw [← c, e, if_neg (by decide)]
      have := cntB_le b o
      omega
    · have := cntB_lt (b := b) n (by omega) e
      by_cases q : b n = true
      · rw [if_pos q]
        omega
      · rw [if_neg q]
        omega
theorem cntB_up {b c : Nat → Bool} {o : Nat} : ∀ n, o < n → b o = false → c o = true → (∀ j, ¬ j = o → c j = b j) → cntB c n = cntB b n + 1
  | 0, h, _, _, _ => absurd h (Nat.not_lt_zero _)
  | n + 1, h, e1, e2, e3 => by
    rw [cntB, cntB]
    by_cases q : o = n
    · subst q
      rw [e1, e2, if_pos rfl, if_neg (by decide), cntB_eq o (fun i hi => e3 i (by omega))]
    · rw [cntB_up n (by omega) e1 e2 e3, e3 n (fun w => q w.symm)]
      omega
theorem obj100 : ∀ o, o < 100 → ¬ lg_cmp (nI o).toInt64 0 < 0 ∧ ¬ 0 ≤ lg_cmp (nI o).toInt64 100 ∧ ((nI o).toInt64).toInt32 = nI o := by decide +kernel
section
variable {n us d i o r k : Nat} {f : Nat → am_C} {X : SWs} {kd : Nat → Int32} {h t : Int64} {q : VQ} {S : SC} {R : RS}
theorem SWI.one (I : SWI X) (ho : o < 100) : SWI (rch X o) ∧ (X.1 o = 0 → X.2.2 < 100) := by
  obtain ⟨h1, h2, h3⟩ := I
  unfold rch
  by_cases c : X.1 o = 0
  · have lt : X.2.2 < 100 := by
      rw [h1]
      exact cntB_lt 100 ho (decide_eq_false (fun w => w c))
    rw [if_pos c]
    refine ⟨⟨?_, fun j => ?_, fun j hj => ?_⟩, fun _ => lt⟩
    · show X.2.2 + 1 = _
      rw [h1]
      refine (cntB_up 100 ho (decide_eq_false (fun w => w c)) (decide_eq_true ?_) (fun j hj => ?_)).symm
      · dsimp only
        unfold upI
        rw [if_pos rfl]
        decide
      · dsimp only
        unfold upI
        simp only [if_neg hj]
    · show upI X.1 o 1 j = 0 ∨ upI X.1 o 1 j = 1
      unfold upI
      by_cases q : j = o
      · rw [if_pos q]
        exact Or.inr rfl
      · rw [if_neg q]
        exact h2 j
    · have hj : j < X.2.2 + 1 := hj
      show ∃ o', o' < 100 ∧ upI X.2.1 X.2.2 (nI o) j = nI o'
      unfold upI
      by_cases q : j = X.2.2
      · rw [if_pos q]
        exact ⟨o, ho, rfl⟩
      · rw [if_neg q]
        exact h3 j (by omega)
  · rw [if_neg c]
    exact ⟨⟨h1, h2, h3⟩, fun w => absurd w c⟩
/-- what a VALUE is, as an OBJECT's number -/
theorem VR.ob (V : VR kd (h, t) q) : (q.1 < 3 ∧ s_Cell_isObject h = 0) ∨ (¬ q.1 < 3 ∧ s_Cell_isObject h = 1 ∧ ∃ o, o < 100 ∧ t = (nI o).toInt64 ∧ q.2.2.1 = (nI o).toInt64 ∧ kd o = q.1 ∧ rchQ X q = rch X o) := by
  have s := V.sort
  unfold s_Cell_isObject
  rw [show s_Cell_sortOf h = q.1 from s]
  rcases V.kinds with e | e | e | e | e
  · rw [e]
    exact Or.inl ⟨by decide, by decide⟩
  · rw [e]
    exact Or.inl ⟨by decide, by decide⟩
  · rw [e]
    exact Or.inl ⟨by decide, by decide⟩
  · obtain ⟨o, ho, k1, k2, k3⟩ := V.isO (Or.inl rfl) e
    have t1 : t = (nI o).toInt64 := congrArg (fun z => z.2) k2
    have q1 : q.2.2.1 = (nI o).toInt64 := by rw [k3]
    refine Or.inr ⟨by rw [e]; decide, by rw [e]; decide, o, ho, t1, q1, by rw [e]; exact k1, ?_⟩
    unfold rchQ
    rw [if_neg (by rw [e]; decide), q1, (obj100 o ho).2.2, nI_clamp (by omega)]
  · obtain ⟨o, ho, k1, k2, k3⟩ := V.isO (Or.inr rfl) e
    have t1 : t = (nI o).toInt64 := congrArg (fun z => z.2) k2
    have q1 : q.2.2.1 = (nI o).toInt64 := by rw [k3]
    refine Or.inr ⟨by rw [e]; decide, by rw [e]; decide, o, ho, t1, q1, by rw [e]; exact k1, ?_⟩
    unfold rchQ
    rw [if_neg (by rw [e]; decide), q1, (obj100 o ho).2.2, nI_clamp (by omega)]
theorem SWI.val (I : SWI X) (V : VR kd (h, t) q) : SWI (rchQ X q) := by
  rcases V.ob (X := X) with ⟨c, _⟩ | ⟨c, _, o, ho, _, _, _, e⟩
  · unfold rchQ
    rw [if_pos c]
    exact I
  · rw [e]
    exact (I.one ho).1
theorem HWp_off {x : Nat} (h : x < 157 ∨ 159 < x) : HWp f X x = f x := by
  unfold HWp
  rw [if_neg (by omega), if_neg (by omega), if_neg (by omega)]
theorem HW_7 (f : Nat → am_C) (X : SWs) : HWp f X 157 = .inr (8, [.ref 158, .ref 159, .int (nI X.2.2)]) := rfl
theorem HW_8 (f : Nat → am_C) (X : SWs) : HWp f X 158 = .inl (.boolean, 100, fun j => .int (X.1 j)) := rfl
theorem HW_9 (f : Nat → am_C) (X : SWs) : HWp f X 159 = aInt 100 X.2.1 := rfl
theorem HWu_7 {k : Nat} : va_up (HWp f X) 157 (.inr (8, [.ref 158, .ref 159, .int (nI k)])) = HWp f (X.1, X.2.1, k) := by
  funext x
  by_cases h : x = 157
  · rw [h, va_up_self]
    rfl
  · rw [va_up_ne _ _ h]
    unfold HWp
    rw [if_neg h, if_neg h]
theorem HWu_8 {g : Nat → Int32} : va_up (HWp f X) 158 (.inl (.boolean, 100, fun j => .int (g j))) = HWp f (g, X.2) := by
  funext x
  by_cases h : x = 158
  · rw [h, va_up_self]
    rfl
  · rw [va_up_ne _ _ h]
    unfold HWp
    rw [if_neg h, if_neg h]
theorem HWu_9 {g : Nat → Int32} : va_up (HWp f X) 159 (aInt 100 g) = HWp f (X.1, g, X.2.2) := by
  funext x
  by_cases h : x = 159
  · rw [h, va_up_self]
    rfl
  · rw [va_up_ne _ _ h]
    unfold HWp
    rw [if_neg h, if_neg h]
theorem e_swReach (hn : 1311 ≤ n) (I : SWI X) (V : VR kd (h, t) q) : x_Sweep_reach (d + 2) 157 h t (n, HWp f X, us) = some ((), (n, HWp f (rchQ X q), us)) := by
  unfold x_Sweep_reach
  dsimp only
  have hn7 : 157 < n := by omega
  rw [gd_of (s := (n, HWp f X, us)) (HW_7 f X) (by decide) hn7, e_Cell_isObject, bnd_some]
  rcases V.ob (X := X) with ⟨c, e⟩ | ⟨c, e, o, ho, t1, _, _, e2⟩
  · unfold rchQ
    rw [e, if_pos rfl, if_pos c]
  · obtain ⟨a1, a2, a3⟩ := obj100 o ho
    have b0 := cl0 (show o < 2 ^ 31 by omega)
    have I1 := I.one ho
    rw [e, if_neg (by decide), t1, if_neg a1, if_neg a2, gR_of (s := (n, HWp f X, us)) (k := 0) (x := 158) (HW_7 f X) (by decide) hn7 rfl, Option.bind_some, a3, aZ_of (s := (n, HWp f X, us)) (HW_8 f X) (by decide) (show 158 < n by omega) b0.1 (by rw [b0.2]; exact ho), b0.2, Option.bind_some, e2]
    unfold rch
    by_cases c0 : X.1 o = 0
    · have lt := I1.2 c0
      have bk := cl0 (show X.2.2 < 2 ^ 31 by omega)
      rw [if_pos c0, if_pos c0, gI_of (s := (n, HWp f X, us)) (k := 2) (x := nI X.2.2) (HW_7 f X) (by decide) hn7 rfl, Option.bind_some, if_neg (show ¬ (100 : Int32) ≤ nI X.2.2 from nI_ge (b := 100) lt (by decide)), Option.bind_some, sZ_of (s := (n, HWp f X, us)) (Or.inr rfl) (HW_8 f X) (by decide) (show 158 < n by omega) b0.1 (by rw [b0.2]; exact ho), b0.2, Option.bind_some]
      dsimp only
      rw [HWu_8, gR_of (s := (n, HWp f (upI X.1 o 1, X.2), us)) (k := 1) (x := 159) (HW_7 f _) (by decide) hn7 rfl, Option.bind_some, gI_of (s := (n, HWp f (upI X.1 o 1, X.2), us)) (k := 2) (x := nI X.2.2) (HW_7 f _) (by decide) hn7 rfl, Option.bind_some, sI_of (s := (n, HWp f (upI X.1 o 1, X.2), us)) (HW_9 f _) (by decide) (show 159 < n by omega) bk.1 (by rw [bk.2]; exact lt), bk.2, Option.bind_some]
      dsimp only
      rw [HWu_9, gI_of (s := (n, HWp f (upI X.1 o 1, upI X.2.1 X.2.2 (nI o), X.2.2), us)) (k := 2) (x := nI X.2.2) (HW_7 f _) (by decide) hn7 rfl, Option.bind_some, show nI X.2.2 + 1 = nI (X.2.2 + 1) from nI_add _ 1, pV_of (s := (n, HWp f (upI X.1 o 1, upI X.2.1 X.2.2 (nI o), X.2.2), us)) (HW_7 f _) (by decide) hn7 (by show 2 < 3; decide), Option.bind_some]
      exact congrArg (fun F => some ((), (n, F, us))) HWu_7
    · rw [if_neg c0, if_neg c0]
end
