/-! the reference's read(), up to its loop -/
def rrB (d : Nat) : (HS → Option (Int32 × HS)) → HS → Option (Int32 × HS) := (fun (again64 : HS → Option (Int32 × HS)) (z64 : HS) => ((gI z64 160 14 6).bind fun v19 => (if v19 = 0 then ((gR z64 160 14 22).bind fun v20 => ((gI z64 160 14 24).bind fun v21 => ((pV z64 v20 12 6 (.int v21)).bind fun s22 => (bnd (x_Mod_put_I d 160 28 s22) fun v24 s23 => (some (1, s23)))))) else (bnd (x_Mod_is d 160 12 z64) fun v26 s25 => (if v26 = 0 then (bnd (x_Mod_statement d 160 0 s25) fun v28 s27 => (if v28 = 0 then (some (0, s27)) else (again64 s27))) else (bnd (x_Mod_function d 160 s25) fun v30 s29 => (if v30 = 0 then (some (0, s29)) else (again64 s29))))))))
theorem rrB_eq {d : Nat} {s : HS} {ag : HS → Option (Int32 × HS)} : rrB d ag s = ((gI s 160 14 6).bind fun v19 => (if v19 = 0 then ((gR s 160 14 22).bind fun v20 => ((gI s 160 14 24).bind fun v21 => ((pV s v20 12 6 (.int v21)).bind fun s22 => (bnd (x_Mod_put_I d 160 28 s22) fun v24 s23 => (some (1, s23)))))) else (bnd (x_Mod_is d 160 12 s) fun v26 s25 => (if v26 = 0 then (bnd (x_Mod_statement d 160 0 s25) fun v28 s27 => (if v28 = 0 then (some (0, s27)) else (ag s27))) else (bnd (x_Mod_function d 160 s25) fun v30 s29 => (if v30 = 0 then (some (0, s29)) else (ag s29))))))) := rfl
theorem rr_eq {d : Nat} {s : HS} : x_Mod_read (d + 1) 160 s = gd s 160 14 ((gI s 160 14 2).bind fun v1 => ((pV s 160 14 4 (.int v1)).bind fun s2 => ((pV s2 160 14 2 (.int 0)).bind fun s3 => ((pV s3 160 14 5 (.int 0)).bind fun s4 => ((pV s4 160 14 9 (.int (-1))).bind fun s5 => ((pV s5 160 14 20 (.int 0)).bind fun s6 => ((pV s6 160 14 29 (.int 0)).bind fun s7 => ((gR s7 160 14 12).bind fun v8 => (bnd (x_Code_clear d v8 s7) fun v10 s9 => ((gR s9 160 14 21).bind fun v11 => (bnd (x_Code_clear d v11 s9) fun v13 s12 => ((gR s12 160 14 12).bind fun v14 => ((pV s12 160 14 22 (.ref v14)).bind fun s15 => ((pV s15 160 14 24 (.int 0)).bind fun s16 => (bnd (x_Mod_step d 160 s16) fun v18 s17 => loopK (rrB d) FU s17))))))))))))))) := rfl
/-- a Code wherever it lies -/
def RCd (f : Nat → am_C) (r : Nat) (m v k1 k2 k3 k4 k5 k6 : Int32) (sp : Nat → Int32) (q : Nat → VQ) : Prop := f r = .inr (12, [.ref (r + 1), .ref (r + 2), .int m, .int v, .int k1, .int k2, .int k3, .int k4, .int k5, .int k6]) ∧ f (r + 1) = aInt 6000 sp ∧ ∀ kc, kc ∈ vaL (r + 2) 1500 q → f kc.1 = kc.2
/-- the reference's parser between two runs -/
def RY (s : HS) (g : Nat → Int32) (tm om : Int32) (R : List Value) : Prop := 1311 ≤ s.1 ∧ (∃ (sz nx kd fr to fa ps td t gv ev p : Int32) (nb : Int64) (vc : Value), s.2.1 160 = mdC tm om sz nx kd fr to fa ps nb (.ref 163 :: .ref 170 :: .ref 171 :: .ref 172 :: .ref 173 :: .ref 174 :: .ref 175 :: .ref 176 :: .int td :: .ref 177 :: vc :: .ref 184 :: .int t :: .int gv :: .ref 185 :: .int ev :: .ref 186 :: .int p :: R)) ∧ s.2.1 161 = .inl (.byte, 1500, fun j => .int (g j)) ∧ (∃ m v k1 k2 k3 k6 sp q, RCd s.2.1 163 m v k1 k2 k3 0 0 k6 sp q) ∧ (∃ m v k1 k2 k3 k4 k5 k6 sp q, RCd s.2.1 177 m v k1 k2 k3 k4 k5 k6 sp q) ∧ (∃ l, s.2.1 184 = aLong 1500 l) ∧ (∃ l, s.2.1 185 = aLong 1500 l) ∧ (∃ u, s.2.1 186 = aInt 1500 u) ∧ ∃ A, TA s.2.1 A
section
variable {s : HS} {n us d r k L : Nat} {f : Nat → am_C} {fs R : List Value} {v : Value} {g : Nat → Int32} {om : Int32} {TT : Nat → TI}
theorem q160 (hn : 1311 ≤ n) (hk : k < fs.length) : pV (n, va_up f 160 (.inr (14, fs)), us) 160 14 k v = some (n, va_up f 160 (.inr (14, fs.set k v)), us) := by
  rw [pV_of (s := (n, va_up f 160 (.inr (14, fs)), us)) (va_up_self _ _ _) (by decide) (show 160 < n by omega) hk]
  dsimp only
  rw [bx_uu]
theorem e_cclear {a b k4 k5 k6 : Value} {m v k1 k2 k3 : Int32} (h : s.2.1 r = .inr (12, [a, b, .int m, .int v, .int k1, .int k2, .int k3, k4, k5, k6])) (h1 : 128 ≤ r) (h2 : r < s.1) : x_Code_clear d r s = some ((), (s.1, va_up s.2.1 r (.inr (12, [a, b, .int 0, .int 0, .int 0, .int 0, .int 0, k4, k5, k6])), s.2.2)) := by
  have e : s = (s.1, va_up s.2.1 r (.inr (12, [a, b, .int m, .int v, .int k1, .int k2, .int k3, k4, k5, k6])), s.2.2) := by
    rw [am_up_same h]
  unfold x_Code_clear
  rw [gd_of h h1 h2]
  rw [e]
  rw [G_pV h1 h2, if_pos (by show 2 < 10; decide), Option.bind_some, G_pV h1 h2, if_pos (by show 3 < 10; decide), Option.bind_some, G_pV h1 h2, if_pos (by show 4 < 10; decide), Option.bind_some, G_pV h1 h2, if_pos (by show 5 < 10; decide), Option.bind_some, G_pV h1 h2, if_pos (by show 6 < 10; decide), Option.bind_some]
  dsimp only [List.set_cons_succ, List.set_cons_zero]
  rw [bx_uu]
theorem r_begin (Y : RY s g (nI L) om R) (hL : L ≤ 1500) : ∃ (E : RE) (y : RA) (b0 : RLx), x_Mod_read (d + 6) 160 s = loopK (rrB (d + 5)) FU (pm 163 E y) ∧ EOR 163 E ∧ (re_L E = L ∧ re_g E = g ∧ re_tm E = 0 ∧ re_om E = om ∧ re_R E = R ∧ re_n E = s.1 ∧ re_u E = s.2.2) ∧ (∀ z, (z < 160 ∨ z = 161 ∨ z = 162 ∨ 186 < z) → re_f E z = s.2.1 z) ∧ RST E 0 TT 0 ∧ k00 (re_k E) ∧ (ra_b y = advR g L 0 b0 ∧ b0.2.2.2.2.1 = -1) ∧ (ra_m y = 0 ∧ ra_v y = 0 ∧ ra_t y = 0 ∧ ra_p y = 0) := by
  obtain ⟨n, f, us⟩ := s
  obtain ⟨h1, ⟨sz, nx, kd, fr, to, fa, ps, td, t, gv, ev, p, nb, vc, h2⟩, h3, ⟨m, v, k1, k2, k3, k6, sp, q, c1, c2, c3⟩, ⟨m', v', k1', k2', k3', k4', k5', k6', sp', q', d1, d2, d3⟩, ⟨l, h6⟩, ⟨l2, h7⟩, ⟨u, h8⟩, ⟨A, h9⟩⟩ := Y
  have h1 : 1311 ≤ n := h1
  have h2 : f 160 = mdC (nI L) om sz nx kd fr to fa ps nb (.ref 163 :: .ref 170 :: .ref 171 :: .ref 172 :: .ref 173 :: .ref 174 :: .ref 175 :: .ref 176 :: .int td :: .ref 177 :: vc :: .ref 184 :: .int t :: .int gv :: .ref 185 :: .int ev :: .ref 186 :: .int p :: R) := h2
  have h3 : f 161 = .inl (.byte, 1500, fun j => .int (g j)) := h3
  have hn : 160 < n := by omega
  obtain ⟨C1, hC1⟩ : ∃ C1, C1 = mdC 0 om (nI L) 0 kd fr to (-1) ps nb (.ref 163 :: .ref 170 :: .ref 171 :: .ref 172 :: .ref 173 :: .ref 174 :: .ref 175 :: .ref 176 :: .int 0 :: .ref 177 :: vc :: .ref 184 :: .int t :: .int gv :: .ref 185 :: .int ev :: .ref 186 :: .int 0 :: R) := ⟨_, rfl⟩
  obtain ⟨f1, hf1⟩ : ∃ f1, f1 = va_up f 160 C1 := ⟨_, rfl⟩
  obtain ⟨f2, hf2⟩ : ∃ f2, f2 = va_up f1 163 (.inr (12, [.ref (163 + 1), .ref (163 + 2), .int 0, .int 0, .int 0, .int 0, .int 0, .int 0, .int 0, .int k6])) := ⟨_, rfl⟩
  obtain ⟨f3, hf3⟩ : ∃ f3, f3 = va_up f2 177 (.inr (12, [.ref (177 + 1), .ref (177 + 2), .int 0, .int 0, .int 0, .int 0, .int 0, .int k4', .int k5', .int k6'])) := ⟨_, rfl⟩
  obtain ⟨C2, hC2⟩ : ∃ C2, C2 = mdC 0 om (nI L) 0 kd fr to (-1) ps nb (.ref 163 :: .ref 170 :: .ref 171 :: .ref 172 :: .ref 173 :: .ref 174 :: .ref 175 :: .ref 176 :: .int 0 :: .ref 177 :: .ref 163 :: .ref 184 :: .int 0 :: .int gv :: .ref 185 :: .int ev :: .ref 186 :: .int 0 :: R) := ⟨_, rfl⟩
  obtain ⟨F, hF⟩ : ∃ F, F = va_up f3 160 C2 := ⟨_, rfl⟩
  have a1 : f1 163 = .inr (12, [.ref (163 + 1), .ref (163 + 2), .int m, .int v, .int k1, .int k2, .int k3, .int 0, .int 0, .int k6]) := by rw [hf1, va_up_ne _ _ (by decide)]; exact c1
  have a2 : f2 177 = .inr (12, [.ref (177 + 1), .ref (177 + 2), .int m', .int v', .int k1', .int k2', .int k3', .int k4', .int k5', .int k6']) := by rw [hf2, va_up_ne _ _ (by decide), hf1, va_up_ne _ _ (by decide)]; exact d1
  have z1 : f1 160 = C1 := by rw [hf1]; exact va_up_self _ _ _
  have z2 : f2 160 = C1 := by rw [hf2, va_up_ne _ _ (by decide)]; exact z1
  have z3 : f3 160 = C1 := by rw [hf3, va_up_ne _ _ (by decide)]; exact z2
  have F0 : F 160 = C2 := by rw [hF]; exact va_up_self _ _ _
  have F1 : F 163 = .inr (12, [.ref (163 + 1), .ref (163 + 2), .int 0, .int 0, .int 0, .int 0, .int 0, .int 0, .int 0, .int k6]) := by rw [hF, va_up_ne _ _ (by decide), hf3, va_up_ne _ _ (by decide), hf2]; exact va_up_self _ _ _
  have F2 : F 177 = .inr (12, [.ref (177 + 1), .ref (177 + 2), .int 0, .int 0, .int 0, .int 0, .int 0, .int k4', .int k5', .int k6']) := by rw [hF, va_up_ne _ _ (by decide), hf3]; exact va_up_self _ _ _
  have Fz : ∀ z, z ≠ 160 → z ≠ 163 → z ≠ 177 → F z = f z := fun z y1 y2 y3 => by rw [hF, va_up_ne _ _ y1, hf3, va_up_ne _ _ y3, hf2, va_up_ne _ _ y2, hf1, va_up_ne _ _ y1]
  have run : ∀ ag, x_Mod_read (d + 6) 160 (n, f, us) = bnd (x_Mod_step (d + 5) 160 (n, F, us)) ag → True := fun _ _ => trivial
  have up0 : f = va_up f 160 (mdC (nI L) om sz nx kd fr to fa ps nb (.ref 163 :: .ref 170 :: .ref 171 :: .ref 172 :: .ref 173 :: .ref 174 :: .ref 175 :: .ref 176 :: .int td :: .ref 177 :: vc :: .ref 184 :: .int t :: .int gv :: .ref 185 :: .int ev :: .ref 186 :: .int p :: R)) := (am_up_same h2).symm
  have len : ∀ (a b c d e f g h i j k : Value) (w : Value), 30 ≤ (a :: b :: c :: d :: e :: f :: g :: h :: i :: j :: k :: w :: .ref 163 :: .ref 170 :: .ref 171 :: .ref 172 :: .ref 173 :: .ref 174 :: .ref 175 :: .ref 176 :: .int td :: .ref 177 :: vc :: .ref 184 :: .int t :: .int gv :: .ref 185 :: .int ev :: .ref 186 :: .int p :: R : List Value).length := fun a b c d e f g h i j k w => by simp
  have st0 : x_Mod_read (d + 6) 160 (n, f, us) = (bnd (x_Code_clear (d + 5) 163 (n, f1, us)) fun v10 s9 => ((gR s9 160 14 21).bind fun v11 => (bnd (x_Code_clear (d + 5) v11 s9) fun v13 s12 => ((gR s12 160 14 12).bind fun v14 => ((pV s12 160 14 22 (.ref v14)).bind fun s15 => ((pV s15 160 14 24 (.int 0)).bind fun s16 => (bnd (x_Mod_step (d + 5) 160 s16) fun v18 s17 => (loopK (rrB (d + 5)) FU s17)))))))) := by
    rw [rr_eq, gd_of (s := (n, f, us)) h2 (by decide) hn, gI_of (s := (n, f, us)) (k := 2) (x := nI L) h2 (by decide) hn rfl, Option.bind_some]
    rw [up0, q160 h1 (Nat.lt_of_lt_of_le (by decide) (len _ _ _ _ _ _ _ _ _ _ _ _)), Option.bind_some]
    rw [q160 h1 (by rw [List.length_set]; exact Nat.lt_of_lt_of_le (by decide) (len _ _ _ _ _ _ _ _ _ _ _ _)), Option.bind_some]
    rw [q160 h1 (by rw [List.length_set, List.length_set]; exact Nat.lt_of_lt_of_le (by decide) (len _ _ _ _ _ _ _ _ _ _ _ _)), Option.bind_some]
    rw [q160 h1 (by rw [List.length_set, List.length_set, List.length_set]; exact Nat.lt_of_lt_of_le (by decide) (len _ _ _ _ _ _ _ _ _ _ _ _)), Option.bind_some]
    rw [q160 h1 (by rw [List.length_set, List.length_set, List.length_set, List.length_set]; exact Nat.lt_of_lt_of_le (by decide) (len _ _ _ _ _ _ _ _ _ _ _ _)), Option.bind_some]
    rw [q160 h1 (by rw [List.length_set, List.length_set, List.length_set, List.length_set, List.length_set]; exact Nat.lt_of_lt_of_le (by decide) (len _ _ _ _ _ _ _ _ _ _ _ _)), Option.bind_some]
    have e1 : va_up f 160 (.inr (14, ((((((.ref 161 :: .ref 162 :: .int (nI L) :: .int om :: .int sz :: .int nx :: .int kd :: .int fr :: .int to :: .int fa :: .int ps :: .long nb :: .ref 163 :: .ref 170 :: .ref 171 :: .ref 172 :: .ref 173 :: .ref 174 :: .ref 175 :: .ref 176 :: .int td :: .ref 177 :: vc :: .ref 184 :: .int t :: .int gv :: .ref 185 :: .int ev :: .ref 186 :: .int p :: R : List Value).set 4 (.int (nI L))).set 2 (.int 0)).set 5 (.int 0)).set 9 (.int (-1))).set 20 (.int 0)).set 29 (.int 0))) = f1 := by
      rw [hf1, hC1]
      rfl
    rw [e1, gR_of (s := (n, f1, us)) (k := 12) (x := 163) (show f1 160 = _ from z1.trans hC1) (by decide) hn rfl, Option.bind_some]
  have st1 : x_Mod_read (d + 6) 160 (n, f, us) = bnd (x_Mod_step (d + 5) 160 (n, F, us)) fun v18 s17 => (loopK (rrB (d + 5)) FU s17) := by
    rw [st0, e_cclear (s := (n, f1, us)) a1 (by decide) (show 163 < n by omega), bnd_some]
    dsimp only
    rw [← hf2, gR_of (s := (n, f2, us)) (k := 21) (x := 177) (show f2 160 = _ from z2.trans hC1) (by decide) hn rfl, Option.bind_some, e_cclear (s := (n, f2, us)) a2 (by decide) (show 177 < n by omega), bnd_some]
    dsimp only
    rw [← hf3, gR_of (s := (n, f3, us)) (k := 12) (x := 163) (show f3 160 = _ from z3.trans hC1) (by decide) hn rfl, Option.bind_some, pV_of (s := (n, f3, us)) (show f3 160 = _ from z3.trans hC1) (by decide) hn (by simp), Option.bind_some, q160 h1 (by simp), Option.bind_some]
    have e2 : va_up f3 160 (.inr (14, ((.ref 161 :: .ref 162 :: .int 0 :: .int om :: .int (nI L) :: .int 0 :: .int kd :: .int fr :: .int to :: .int (-1) :: .int ps :: .long nb :: .ref 163 :: .ref 170 :: .ref 171 :: .ref 172 :: .ref 173 :: .ref 174 :: .ref 175 :: .ref 176 :: .int 0 :: .ref 177 :: vc :: .ref 184 :: .int t :: .int gv :: .ref 185 :: .int ev :: .ref 186 :: .int 0 :: R : List Value).set 22 (.ref 163)).set 24 (.int 0))) = F := by
      rw [hF, hC2]
      rfl
    rw [e2]
  clear st0 run up0 len hf1 hf2 hf3 hF
  have P : PM 163 ((L, g), (0, om, 0), (n, us, F), (0, 0, 0, 0, 0, k6), R) ((0, kd, fr, to, -1, ps, nb), (0, 0, sp, q), (0, l), (0, u), gv, ev) = F := by
    refine HL_same (fun kc hk => ?_)
    rcases List.mem_cons.mp hk with rfl | hk
    · exact F0.trans hC2
    · rcases List.mem_cons.mp hk with rfl | hk
      · exact (Fz 184 (by decide) (by decide) (by decide)).trans h6
      · rcases List.mem_cons.mp hk with rfl | hk
        · exact (Fz 186 (by decide) (by decide) (by decide)).trans h8
        · rcases List.mem_cons.mp hk with rfl | hk
          · exact F1
          · rcases List.mem_cons.mp hk with rfl | hk
            · exact (Fz 164 (by decide) (by decide) (by decide)).trans c2
            · have i := c3 kc hk
              have j : 165 ≤ kc.1 ∧ kc.1 ≤ 169 := by
                unfold vaL at hk
                simp only [List.mem_cons, List.not_mem_nil, or_false] at hk
                rcases hk with rfl | rfl | rfl | rfl | rfl <;> (dsimp only; omega)
              exact (Fz kc.1 (by omega) (by omega) (by omega)).trans i
  have ee : (n, F, us) = pm 163 ((L, g), (0, om, 0), (n, us, F), (0, 0, 0, 0, 0, k6), R) ((0, kd, fr, to, -1, ps, nb), (0, 0, sp, q), (0, l), (0, u), gv, ev) := by
    show _ = (n, PM 163 _ _, us)
    rw [P]
  have er : EOR 163 ((L, g), (0, om, 0), (n, us, F), (0, 0, 0, 0, 0, k6), R) := ⟨hL, h1, Or.inl rfl, (Fz 161 (by decide) (by decide) (by decide)).trans h3⟩
  refine ⟨((L, g), (0, om, 0), (n, us, F), (0, 0, 0, 0, 0, k6), R), raLex ((0, kd, fr, to, -1, ps, nb), (0, 0, sp, q), (0, l), (0, u), gv, ev) (advR g L 0 (0, kd, fr, to, -1, ps, nb)), (0, kd, fr, to, -1, ps, nb), ?_, er, ⟨rfl, rfl, rfl, rfl, rfl, rfl, rfl⟩, fun z hz => Fz z (by omega) (by omega) (by omega), ⟨A, l2, (0, 0, 0, k4', k5', k6'), 0, 0, sp', q', rfl, ⟨(Fz 170 (by decide) (by decide) (by decide)).trans h9.1, fun z y1 y2 => (Fz z (by omega) (by omega) (by omega)).trans (h9.2 z y1 y2)⟩, (Fz 185 (by decide) (by decide) (by decide)).trans h7, fun kc hk => ?_, fun j hj => absurd hj (Nat.not_lt_zero _), by omega⟩, ⟨rfl, rfl, rfl⟩, ⟨rfl, rfl⟩, ⟨rfl, rfl, rfl, rfl⟩⟩
  · rw [st1, ee, y_step (p := 0) (d := d) er rfl (Nat.zero_le _), bnd_some]
  · rcases List.mem_cons.mp hk with rfl | hk
    · exact F2
    · rcases List.mem_cons.mp hk with rfl | hk
      · exact (Fz 178 (by decide) (by decide) (by decide)).trans d2
      · have i := d3 kc hk
        have j : 179 ≤ kc.1 ∧ kc.1 ≤ 183 := by
          unfold vaL at hk
          simp only [List.mem_cons, List.not_mem_nil, or_false] at hk
          rcases hk with rfl | rfl | rfl | rfl | rfl <;> (dsimp only; omega)
        exact (Fz kc.1 (by omega) (by omega) (by omega)).trans i
end
