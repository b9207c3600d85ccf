/-! all functions of a program told: the class -/
def SQt (S S' : SC) : Prop := S'.1 = S.1 ∧ S'.2.1 = S.2.1 ∧ S'.2.2.1 = S.2.2.1 ∧ S'.2.2.2.1 = S.2.2.2.1 ∧ S'.2.2.2.2.1 = S.2.2.2.2.1 ∧ S'.2.2.2.2.2.1 = S.2.2.2.2.2.1 ∧ S'.2.2.2.2.2.2.1 = S.2.2.2.2.2.2.1
theorem SQt.rfl' {S : SC} : SQt S S := ⟨rfl, rfl, rfl, rfl, rfl, rfl, rfl⟩
theorem SQt.trans {S S' S'' : SC} (h : SQt S S') (g : SQt S' S'') : SQt S S'' := ⟨g.1.trans h.1, g.2.1.trans h.2.1, g.2.2.1.trans h.2.2.1, g.2.2.2.1.trans h.2.2.2.1, g.2.2.2.2.1.trans h.2.2.2.2.1, g.2.2.2.2.2.1.trans h.2.2.2.2.2.1, g.2.2.2.2.2.2.trans h.2.2.2.2.2.2⟩
theorem SQt.tl {S : SC} {p u k : Nat} : SQt S (tlS S p u k) := ⟨rfl, rfl, rfl, rfl, rfl, rfl, rfl⟩
/-- and the table of functions: as it was, or a Unit told now -/
def SQu (U : Nat → Prop) (S S' : SC) : Prop := SQt S S' ∧ ∀ i, S'.2.2.2.2.2.2.2.1 i = S.2.2.2.2.2.2.2.1 i ∨ ∃ u, U u ∧ S'.2.2.2.2.2.2.2.1 i = .ref u
theorem SQu.rfl' {U : Nat → Prop} {S : SC} : SQu U S S := ⟨SQt.rfl', fun _ => Or.inl rfl⟩
theorem SQu.trans {U : Nat → Prop} {S S' S'' : SC} (h : SQu U S S') (g : SQu U S' S'') : SQu U S S'' := ⟨h.1.trans g.1, fun i => by
  rcases g.2 i with e | e
  · rcases h.2 i with q | ⟨u, hu, q⟩
    · exact Or.inl (e.trans q)
    · exact Or.inr ⟨u, hu, e.trans q⟩
  · exact Or.inr e⟩
theorem SQu.tl {U : Nat → Prop} {S : SC} {p u k : Nat} (hu : U u) : SQu U S (tlS S p u k) := ⟨SQt.tl, fun i => by
  show updV S.2.2.2.2.2.2.2.1 p (.ref u) i = _ ∨ _
  by_cases c : i = p
  · exact Or.inr ⟨u, hu, if_pos c⟩
  · exact Or.inl (if_neg c)⟩
section
variable {n us r d k N a i : Nat} {f : Nat → am_C} {S S' : SC} {un ul : Nat → Nat} {F : FTb} {TT : Nat → TI} {s : HS}
theorem HT_HT : HT (HT f r S) r S' = HT f r S' := by
  funext x
  by_cases c : r ≤ x ∧ x ≤ r + 7
  · exact HT_in c
  · rw [HT_off (by omega), HT_off (by omega), HT_off (by omega)]
theorem al_size (A : ALR s k N a ul) : x_AL_size d 144 s = some (nI k, s) := by
  obtain ⟨md, g, e1, e2, _⟩ := A
  unfold x_AL_size
  rw [gd_of e1 (by decide) e2, gI_of (k := 1) (x := nI k) e1 (by decide) e2 rfl, Option.bind_some]
theorem al_get (A : ALR s k N a ul) (hi : i < k) : x_AL_get (d + 2) 144 (nI i) s = some (ul i, s) := by
  obtain ⟨md, g, e1, e2, e3, e4, e5⟩ := A
  have b0 := cl0 (show i < 2 ^ 31 by omega)
  rcases e5 with ⟨_, q⟩ | ⟨q1, q2, q3, q4, q5, q6⟩
  · omega
  · have ck : ckI (nI i) (nI k) = some (nI i) := if_pos ⟨b0.1, nI_lt hi (by omega)⟩
    have ar : aR "java/lang/Object" s a (nI i) = some (ul i) := by
      unfold aR
      rw [aV_of q4 (by omega) q3 b0.1 (by rw [b0.2]; omega), b0.2, q6 i hi]
      rfl
    unfold x_AL_get x_AL_elementData
    dsimp only
    rw [gd_of e1 (by decide) e2, gI_of (k := 1) (x := nI k) e1 (by decide) e2 rfl, Option.bind_some, dp_of (by omega), ck, Option.bind_some, gd_of e1 (by decide) e2, gR_of (k := 0) (x := a) e1 (by decide) e2 rfl, Option.bind_some, ar, Option.bind_some, bnd_some]
theorem ti_L (r1 : 1311 ≤ r) (r2 : r + 7 < n) (g4 : ∀ S, gR (n, HT f r S, us) 132 5 4 = some 144) (A : ALR (n, f, us) k N a ul) (ha : a < r ∨ r + 7 < a) (L : ∀ j, j < k → TU f n (ul j) (TT j) ∧ (ul j + 2 < r ∨ r + 7 < ul j)) : ∀ m i M (S : SC) (un : Nat → Nat) (F : FTb), i + m = k → m < M → UTb (HT f r S) n r S un F → (∃ F' S' un', ftL TT m i F = some F' ∧ loopK (tiB (d + 2) 132 r) M (nI i, (n, HT f r S, us)) = some (1, (n, HT f r S', us)) ∧ UTb (HT f r S') n r S' un' F' ∧ SQu (fun u => ∃ j, j < k ∧ u = ul j) S S') ∨ (ftL TT m i F = none ∧ ∃ S', loopK (tiB (d + 2) 132 r) M (nI i, (n, HT f r S, us)) = some (0, (n, HT f r S', us)) ∧ SQu (fun u => ∃ j, j < k ∧ u = ul j) S S') := by
  have k300 : k ≤ 300 := by
    obtain ⟨md, g, e1, e2, e3, e4, e5⟩ := A
    omega
  have A' : ∀ S, ALR (n, HT f r S, us) k N a ul := fun S => A.keep (Nat.le_refl _) (HT_off (by omega)) (fun _ => HT_off ha)
  intro m
  induction m with
  | zero =>
    intro i M S un F e1 e2 U
    obtain ⟨M, rfl⟩ : ∃ M', M = M' + 1 := ⟨M - 1, by omega⟩
    refine Or.inl ⟨F, S, un, rfl, ?_, U, SQu.rfl'⟩
    rw [loopK_succ, tiB_eq, g4, Option.bind_some, al_size (A' S), bnd_some, if_pos (nI_le (by omega) (by omega))]
  | succ m ih =>
    intro i M S un F e1 e2 U
    obtain ⟨M, rfl⟩ : ∃ M', M = M' + 1 := ⟨M - 1, by omega⟩
    obtain ⟨t, tu⟩ := L i (by omega)
    have t' : TU (HT f r S) n (ul i) (TT i) := t.keep (Nat.le_refl _) (fun z z1 z2 => HT_off (by omega))
    have io : isO (n, HT f r S, us) (ul i) 4 = true := t'.isO (s := (n, HT f r S, us))
    have gdu : ∀ {β : Type} {b : Option β}, gd (n, HT f r S, us) (ul i) 4 b = b := fun {β b} => by
      unfold gd
      rw [if_pos io]
    rw [loopK_succ, tiB_eq, g4, Option.bind_some, al_size (A' S), bnd_some, if_neg (fun w => absurd (nI_lt (a := i) (b := k) (by omega) (by omega)) (Int32.not_lt.mpr w)), g4, Option.bind_some, al_get (d := d) (A' S) (by omega), bnd_some, gdu, show nI i + 1 = nI (i + 1) from nI_add i 1, ftL]
    rcases e_tell (d := d) (us := us) (by omega) r2 ST.mk U t' tu with ⟨c, x, U'⟩ | ⟨c, p, k', x⟩ | ⟨c, x⟩
    · rw [HT_HT] at x U'
      rw [x, bnd_some, if_neg (show ¬ (1 : Int32) = 0 by decide), if_pos c]
      rcases ih (i + 1) M (tlS S (ftIx F (TT i)) (ul i) (ftN F (TT i))) _ _ (by omega) (by omega) U' with ⟨F', S', un', y1, y2, y3, y4⟩ | ⟨y1, S', y2, y4⟩
      · exact Or.inl ⟨F', S', un', y1, y2, y3, (SQu.tl ⟨i, by omega, rfl⟩).trans y4⟩
      · exact Or.inr ⟨y1, S', y2, (SQu.tl ⟨i, by omega, rfl⟩).trans y4⟩
    · rw [HT_HT] at x
      rw [x, bnd_some, if_pos rfl, if_neg (by rw [c]; decide)]
      exact Or.inr ⟨rfl, _, rfl, SQu.tl ⟨i, by omega, rfl⟩⟩
    · rw [x, bnd_some, if_pos rfl, if_neg (by rw [c]; decide)]
      exact Or.inr ⟨rfl, S, rfl, SQu.rfl'⟩
theorem e_tellInto (r1 : 1311 ≤ r) (r2 : r + 7 < n) (h : ST f r S) (g132 : ∃ fs, f 132 = .inr (5, fs) ∧ fs[4]? = some (.ref 144)) (A : ALR (n, f, us) k N a ul) (ha : a < r ∨ r + 7 < a) (L : ∀ j, j < k → TU f n (ul j) (TT j) ∧ (ul j + 2 < r ∨ r + 7 < ul j)) (U : UTb f n r S un F) : (∃ F' S' un', ftL TT k 0 F = some F' ∧ x_Pars_tellInto (d + 3) 132 r (n, f, us) = some (1, (n, HT f r S', us)) ∧ UTb (HT f r S') n r S' un' F' ∧ SQu (fun u => ∃ j, j < k ∧ u = ul j) S S') ∨ (ftL TT k 0 F = none ∧ ∃ S', x_Pars_tellInto (d + 3) 132 r (n, f, us) = some (0, (n, HT f r S', us)) ∧ SQu (fun u => ∃ j, j < k ∧ u = ul j) S S') := by
  obtain ⟨fs, h1, h2⟩ := g132
  have g4 : ∀ S, gR (n, HT f r S, us) 132 5 4 = some 144 := fun S => gR_of (s := (n, HT f r S, us)) ((HT_off (by omega)).trans h1) (by decide) (show 132 < n by omega) h2
  have e : x_Pars_tellInto (d + 3) 132 r (n, f, us) = gd (n, f, us) 132 5 (loopK (tiB (d + 2) 132 r) FU (nI 0, (n, f, us))) := rfl
  have k300 : k ≤ 300 := by
    obtain ⟨md, g, e1, e2, e3, e4, e5⟩ := A
    omega
  have U2 : UTb (HT f r S) n r S un F := by rw [show HT f r S = f from h]; exact U
  have x := ti_L (d := d) r1 r2 g4 A ha L k 0 FU S un F (by omega) (by rw [FU_eq]; omega) U2
  rw [show HT f r S = f from h] at x
  rw [e, gd_of (s := (n, f, us)) h1 (by decide) (show 132 < n by omega)]
  exact x
theorem tt_L (g4 : gR (n, f, us) 132 5 4 = some 144) (A : ALR (n, f, us) k N a ul) (L : ∀ j, j < k → TU f n (ul j) (TT j)) : ∀ m i M, i + m = k → m < M → loopK (ttB (d + 2) 132) M (nI (tkS TT i), nI i, (n, f, us)) = some (nI (tkS TT k), (n, f, us)) := by
  have k300 : k ≤ 300 := by
    obtain ⟨md, g, e1, e2, e3, e4, e5⟩ := A
    omega
  intro m
  induction m with
  | zero =>
    intro i M e1 e2
    obtain ⟨M, rfl⟩ : ∃ M', M = M' + 1 := ⟨M - 1, by omega⟩
    rw [loopK_succ, ttB_eq, g4, Option.bind_some, al_size A, bnd_some, if_pos (nI_le (by omega) (by omega)), show i = k by omega]
  | succ m ih =>
    intro i M e1 e2
    obtain ⟨M, rfl⟩ : ∃ M', M = M' + 1 := ⟨M - 1, by omega⟩
    have t := L i (by omega)
    have io : isO (n, f, us) (ul i) 4 = true := t.isO (s := (n, f, us))
    have gdu : ∀ {β : Type} {b : Option β}, gd (n, f, us) (ul i) 4 b = b := fun {β b} => by
      unfold gd
      rw [if_pos io]
    rw [loopK_succ, ttB_eq, g4, Option.bind_some, al_size A, bnd_some, if_neg (fun w => absurd (nI_lt (a := i) (b := k) (by omega) (by omega)) (Int32.not_lt.mpr w)), g4, Option.bind_some, al_get (d := d) A (by omega), bnd_some, gdu, t.tk, bnd_some, nI_ad2, show nI i + 1 = nI (i + 1) from nI_add i 1]
    exact ih (i + 1) M (by omega) (by omega)
theorem e_toldTokens (g132 : ∃ fs, f 132 = .inr (5, fs) ∧ fs[4]? = some (.ref 144)) (hn : 1311 ≤ n) (A : ALR (n, f, us) k N a ul) (L : ∀ j, j < k → TU f n (ul j) (TT j)) : x_Pars_toldTokens (d + 3) 132 (n, f, us) = some (nI (tkS TT k), (n, f, us)) := by
  obtain ⟨fs, h1, h2⟩ := g132
  have g4 : gR (n, f, us) 132 5 4 = some 144 := gR_of (s := (n, f, us)) h1 (by decide) (show 132 < n by omega) h2
  have k300 : k ≤ 300 := by
    obtain ⟨md, g, e1, e2, e3, e4, e5⟩ := A
    omega
  have e : x_Pars_toldTokens (d + 3) 132 (n, f, us) = gd (n, f, us) 132 5 (loopK (ttB (d + 2) 132) FU (nI (tkS TT 0), nI 0, (n, f, us))) := rfl
  rw [e, gd_of (s := (n, f, us)) h1 (by decide) (show 132 < n by omega), tt_L g4 A L k 0 FU (by omega) (by rw [FU_eq]; omega)]
end
