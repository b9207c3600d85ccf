section
variable {K : am_K} {X : Nat → am_C}
theorem am_clw : ∀ q ∈ am_cl, am_Cl q ∧ Cond.instantiable q.1 q.2.2 ∈ am_tbl := List.forall_mem_cons.mpr ⟨⟨cl_0, w_180⟩, List.forall_mem_cons.mpr ⟨⟨cl_1, w_203⟩, List.forall_mem_cons.mpr ⟨⟨cl_2, w_293⟩, List.forall_mem_cons.mpr ⟨⟨cl_3, w_319⟩, List.forall_mem_cons.mpr ⟨⟨cl_4, w_345⟩, List.forall_mem_cons.mpr ⟨⟨cl_5, w_197⟩, List.forall_mem_cons.mpr ⟨⟨cl_6, w_395⟩, List.forall_mem_cons.mpr ⟨⟨cl_7, w_458⟩, List.forall_mem_cons.mpr ⟨⟨cl_8, w_479⟩, List.forall_mem_cons.mpr ⟨⟨cl_9, w_172⟩, List.forall_mem_cons.mpr ⟨⟨cl_10, w_961⟩, List.forall_mem_cons.mpr ⟨⟨cl_11, w_1496⟩, List.forall_mem_cons.mpr ⟨⟨cl_12, w_1490⟩, List.forall_mem_cons.mpr ⟨⟨cl_13, w_1562⟩, List.forall_mem_cons.mpr ⟨⟨cl_14, w_1484⟩, fun _ h => absurd h List.not_mem_nil⟩⟩⟩⟩⟩⟩⟩⟩⟩⟩⟩⟩⟩⟩⟩

theorem am_ad_lo {K : am_K} {r : Nat} (h : r < 128) : am_ad K r = K.2.2.2 r := if_pos h
theorem p1_cls {s : State} {args : Array Value} (hts : ∀ w ∈ am_tbl, w.before args s = true) : ∃ g : Nat → ClassId × (Nat → Nat), ∀ (c : Nat) (q : vw_C), am_cl[c]? = some q → u_Kn s q.1 q.2.1 q.2.2 (g c).1 (g c).2 := by
  refine Classical.axiomOfChoice (r := fun c (g : ClassId × (Nat → Nat)) => ∀ q : vw_C, am_cl[c]? = some q → u_Kn s q.1 q.2.1 q.2.2 g.1 g.2) (fun c => ?_)
  cases hq : am_cl[c]? with
  | none => exact ⟨(0, fun _ => 0), fun q h => by cases h⟩
  | some q =>
    have hc := am_clw q (List.mem_of_getElem? hq)
    obtain ⟨cC, iS, h⟩ := u_known hts hc.1.1 (hts _ hc.2)
    exact ⟨(cC, iS), fun q' h' => by cases h'; exact h⟩
theorem p1_aO {s : State} {args : Array Value} {C : String} (hw : (Cond.arrayOver (.object C)).before args s = true) : ∃ cA : ClassId, ArrOfT s cA (.object C) ∧ va_RA s cA (.object C) := by
  obtain ⟨comp, c, k, h1, h2, h3, h4, h5⟩ := Cond.arrayOver_spec hw
  exact ⟨c, fun n z => ⟨fun k h => (by cases h), k, h3, comp, h4⟩, k, comp, h3, h4, h1, h5⟩

theorem p1_a_int {s : State} {args : Array Value} (hw : (Cond.arrayClass .int).before args s = true) : ∃ cA : ClassId, ArrOfT s cA .int ∧ va_RA s cA .int := by
  obtain ⟨c, k, comp, h1, h2, h3⟩ := Cond.arrayClass_spec hw
  exact ⟨c, fun n z => ⟨fun k h => (by cases h), k, h2, comp, h3⟩, h1⟩

theorem p1_a_long {s : State} {args : Array Value} (hw : (Cond.arrayClass .long).before args s = true) : ∃ cA : ClassId, ArrOfT s cA .long ∧ va_RA s cA .long := by
  obtain ⟨c, k, comp, h1, h2, h3⟩ := Cond.arrayClass_spec hw
  exact ⟨c, fun n z => ⟨fun k h => (by cases h), k, h2, comp, h3⟩, h1⟩

theorem p1_a_byte {s : State} {args : Array Value} (hw : (Cond.arrayClass .byte).before args s = true) : ∃ cA : ClassId, ArrOfT s cA .byte ∧ va_RA s cA .byte := by
  obtain ⟨c, k, comp, h1, h2, h3⟩ := Cond.arrayClass_spec hw
  exact ⟨c, fun n z => ⟨fun k h => (by cases h), k, h2, comp, h3⟩, h1⟩

theorem p1_a_boolean {s : State} {args : Array Value} (hw : (Cond.arrayClass .boolean).before args s = true) : ∃ cA : ClassId, ArrOfT s cA .boolean ∧ va_RA s cA .boolean := by
  obtain ⟨c, k, comp, h1, h2, h3⟩ := Cond.arrayClass_spec hw
  exact ⟨c, fun n z => ⟨fun k h => (by cases h), k, h2, comp, h3⟩, h1⟩

theorem p1_tys {s : State} {args : Array Value} (hts : ∀ w ∈ lw_tbl, w.before args s = true) : ∀ ty ∈ am_tys, ∃ cA : ClassId, ArrOfT s cA ty ∧ va_RA s cA ty := List.forall_mem_cons.mpr ⟨p1_a_int (hts _ (show Cond.arrayClass .int ∈ lw_tbl by decide +kernel)), List.forall_mem_cons.mpr ⟨p1_a_long (hts _ (show Cond.arrayClass .long ∈ lw_tbl by decide +kernel)), List.forall_mem_cons.mpr ⟨p1_a_byte (hts _ (show Cond.arrayClass .byte ∈ lw_tbl by decide +kernel)), List.forall_mem_cons.mpr ⟨p1_a_boolean (hts _ (show Cond.arrayClass .boolean ∈ lw_tbl by decide +kernel)), List.forall_mem_cons.mpr ⟨p1_aO (hts _ (show Cond.arrayOver (.object "StowTongue$Unit") ∈ lw_tbl by decide +kernel)), List.forall_mem_cons.mpr ⟨p1_aO (hts _ (show Cond.arrayOver (.object "StowTongue$Store") ∈ lw_tbl by decide +kernel)), List.forall_mem_cons.mpr ⟨p1_aO (hts _ (show Cond.arrayOver (.object "java/lang/Object") ∈ lw_tbl by decide +kernel)), List.forall_mem_cons.mpr ⟨p1_aO (hts _ (show Cond.arrayOver (.object "StowTongueModel$Code") ∈ lw_tbl by decide +kernel)), List.forall_mem_cons.mpr ⟨p1_aO (hts _ (show Cond.arrayOver (.object "StowTongueModel$State") ∈ lw_tbl by decide +kernel)), fun _ h => absurd h List.not_mem_nil⟩⟩⟩⟩⟩⟩⟩⟩⟩
theorem p1_arr {s : State} {args : Array Value} (hts : ∀ w ∈ lw_tbl, w.before args s = true) : ∃ d : FieldType → ClassId, ∀ ty ∈ am_tys, ArrOfT s (d ty) ty ∧ va_RA s (d ty) ty := by
  refine Classical.axiomOfChoice (r := fun ty (cA : ClassId) => ty ∈ am_tys → ArrOfT s cA ty ∧ va_RA s cA ty) (fun ty => ?_)
  by_cases h : ty ∈ am_tys
  · obtain ⟨cA, h1⟩ := p1_tys hts ty h
    exact ⟨cA, fun _ => h1⟩
  · exact ⟨0, fun h' => absurd h' h⟩
def sq (j : Nat) : String × Nat × String := st_q.getD j ("", 0, "")
def sT (j : Nat) : Term := .string (sq j).1 (sq j).2.1
theorem s_ex : ∀ j : Nat, j < 38 → Cond.exactly (sT j) "java/lang/String" ∈ p1_fl := by decide +kernel
theorem s_co : ∀ j : Nat, j < 38 → Cond.eq (.field (sT j) "java/lang/String" "coder" "B") (.int 0) ∈ p1_fl := by decide +kernel
theorem s_ar : ∀ j : Nat, j < 38 → Cond.arrayOf (.field (sT j) "java/lang/String" "value" "[B") .byte ∈ p1_fl := by decide +kernel
theorem s_le : ∀ j : Nat, j < 38 → Cond.eq (.length (.field (sT j) "java/lang/String" "value" "[B")) (.int (Int32.ofNat (st_tb.getD j []).length)) ∈ p1_fl := by decide +kernel
theorem s_el : ∀ j : Nat, j < 38 → ∀ k : Nat, k < (st_tb.getD j []).length → Cond.eq (.elem (.field (sT j) "java/lang/String" "value" "[B") (.int (Int32.ofNat k))) (.int ((st_tb.getD j []).getD k 0)) ∈ p1_fl
  | 0, _ => s_el_0
  | 1, _ => s_el_1
  | 2, _ => s_el_2
  | 3, _ => s_el_3
  | 4, _ => s_el_4
  | 5, _ => s_el_5
  | 6, _ => s_el_6
  | 7, _ => s_el_7
  | 8, _ => s_el_8
  | 9, _ => s_el_9
  | 10, _ => s_el_10
  | 11, _ => s_el_11
  | 12, _ => s_el_12
  | 13, _ => s_el_13
  | 14, _ => s_el_14
  | 15, _ => s_el_15
  | 16, _ => s_el_16
  | 17, _ => s_el_17
  | 18, _ => s_el_18
  | 19, _ => s_el_19
  | 20, _ => s_el_20
  | 21, _ => s_el_21
  | 22, _ => s_el_22
  | 23, _ => s_el_23
  | 24, _ => s_el_24
  | 25, _ => s_el_25
  | 26, _ => s_el_26
  | 27, _ => s_el_27
  | 28, _ => s_el_28
  | 29, _ => s_el_29
  | 30, _ => s_el_30
  | 31, _ => s_el_31
  | 32, _ => s_el_32
  | 33, _ => s_el_33
  | 34, _ => s_el_34
  | 35, _ => s_el_35
  | 36, _ => s_el_36
  | 37, _ => s_el_37
  | n + 38, h => absurd h (by omega)
theorem s_rf : ∀ j : Nat, j < 38 → Cond.stringRef (sq j).1 (sq j).2.1 (sq j).2.2 ∈ lw_tbl := by decide +kernel
theorem s_sm : ∀ j : Nat, j < 38 → (st_tb.getD j []).length < 2 ^ 31 := by decide +kernel
theorem s_all {s : State} {args : Array Value} {A : Nat → Prop} (hs : ∀ w ∈ p1_fl, w.before args s = true) (hA : ∀ a : Nat, a < s.heap.size → ¬ A a) : ∀ j : Nat, ∃ q : Nat × Nat, j < 38 → va_O "java/lang/String" q.1 A s s.heap ∧ va_OF "java/lang/String" "coder" "B" (.int 0) q.1 A s s.heap ∧ va_OF "java/lang/String" "value" "[B" (.ref q.2) q.1 A s s.heap ∧ va_T .byte q.2 (st_tb.getD j []).length (fun k => .int ((st_tb.getD j []).getD k 0)) A s s.heap ∧ (sT j).eval args s none [] s = some (.ref q.1) := by
  intro j
  by_cases hj : j < 38
  · have z : ∀ i : Nat, i < 1 → i = 0 := fun i h => by omega
    obtain ⟨adK, adV, hS, hE⟩ := vk_Sof (args := args) (s := s) (N := 1) (tm := fun _ => sT j) (len := [(st_tb.getD j []).length]) (byt := [st_tb.getD j []]) (A := A)
      (fun i hi => by cases z i hi; exact s_sm j hj)
      (fun i hi => hs _ (s_ex j hj))
      (fun i hi => hs _ (s_co j hj))
      (fun i hi => hs _ (s_ar j hj))
      (fun i hi => by cases z i hi; exact hs _ (s_le j hj))
      (fun i hi k hk => by cases z i hi; exact hs _ (s_el j hj k hk))
      (fun i j hi hj h => absurd ((z i hi).trans (z j hj).symm) h) hA
    obtain ⟨q1, q2, q3, q4⟩ := hS.1 0 (by decide)
    exact ⟨(adK 0, adV 0), fun _ => ⟨q1, q2, q3, q4, hE 0 (by decide)⟩⟩
  · exact ⟨(0, 0), fun h => absurd h hj⟩
/-- the world in which the law is walked -/
theorem wh_world {s : State} {b L : Nat} {xs : Nat → Int32} (hts : ∀ w ∈ lw_tbl, w.before #[Value.ref b] s = true) (hX : va_X b L xs s s.heap) (hbl : b < s.heap.size) (hgv : (Jvm.Cond.and given_1 narrow_1).before #[Value.ref b] s = true) :
    ∃ K : am_K, K.1 = s ∧ am_ad K 0 = b ∧ (∀ X, am_ok K X) ∧ am_T2 K ∧ vk_R "StowTongue$Lexer" 19 (sq 0).2.2 (am_ad K 2) K.1 ∧ am_str K 2 59 (fun j => WDB.getD j 0) ∧ va_T .int (am_ad K 0) L (fun j => .int (xs j)) (am_A K) K.1 K.1.heap := by
  have hs : ∀ w ∈ p1_fl, w.before #[Value.ref b] s = true := flat_of_before _ hgv
  have ht : ∀ w ∈ am_tbl, w.before #[Value.ref b] s = true := fun w hw => hts w (List.mem_filter.mp hw).1
  have hA : ∀ a : Nat, a < s.heap.size → ¬ s.heap.size ≤ a := fun a h => Nat.not_le.mpr h
  obtain ⟨gC, hC⟩ := p1_cls ht
  obtain ⟨dA, hD⟩ := p1_arr hts
  obtain ⟨ad, had⟩ := Classical.axiomOfChoice (s_all (A := fun q => s.heap.size ≤ q) hs hA)
  obtain ⟨mi, hmi⟩ := va_Mi.of (hs _ (show Cond.isRef (.mirror "[Ljava/lang/Object;") ∈ p1_fl by decide +kernel))
  have c1 : va_Z "java/lang/String" "COMPACT_STRINGS" "Z" (.int 1) (fun q => s.heap.size ≤ q) s s.heap := va_Zof (hts _ (show Cond.laysStatic "java/lang/String" "COMPACT_STRINGS" "Z" ∈ lw_tbl by decide +kernel)) (hts _ (show Cond.initialized "java/lang/String" ∈ lw_tbl by decide +kernel)) (va_eqt (hs _ (show Cond.eq (.static "java/lang/String" "COMPACT_STRINGS" "Z") (.int 1) ∈ p1_fl by decide +kernel))) hA
  have c2 : va_Zq "jdk/internal/util/Preconditions" "SIOOBE_FORMATTER" "Ljava/util/function/BiFunction;" (fun q => s.heap.size ≤ q) s s.heap := va_Zqof (hts _ (show Cond.laysStatic "jdk/internal/util/Preconditions" "SIOOBE_FORMATTER" "Ljava/util/function/BiFunction;" ∈ lw_tbl by decide +kernel)) (hts _ (show Cond.initialized "jdk/internal/util/Preconditions" ∈ lw_tbl by decide +kernel)) (hs _ (show Cond.isRef (.static "jdk/internal/util/Preconditions" "SIOOBE_FORMATTER" "Ljava/util/function/BiFunction;") ∈ p1_fl by decide +kernel)) hA
  obtain ⟨t1, e1, hT1⟩ := va_Tof (args := #[Value.ref b]) (s := s) (tm := .static "java/util/ArrayList" "DEFAULTCAPACITY_EMPTY_ELEMENTDATA" "[Ljava/lang/Object;") (ty := .object "java/lang/Object") (N := 0) (f := fun _ => .null) (A := fun q => s.heap.size ≤ q) (by decide) (hs _ (show Cond.arrayOf (.static "java/util/ArrayList" "DEFAULTCAPACITY_EMPTY_ELEMENTDATA" "[Ljava/lang/Object;") (.object "java/lang/Object") ∈ p1_fl by decide +kernel)) (va_eqt (hs _ (show Cond.eq (.length (.static "java/util/ArrayList" "DEFAULTCAPACITY_EMPTY_ELEMENTDATA" "[Ljava/lang/Object;")) (.int (Int32.ofNat 0)) ∈ p1_fl by decide +kernel))) (fun j h => absurd h (Nat.not_lt_zero _)) hA
  have c3 : va_Z "java/util/ArrayList" "DEFAULTCAPACITY_EMPTY_ELEMENTDATA" "[Ljava/lang/Object;" (.ref t1) (fun q => s.heap.size ≤ q) s s.heap := va_Zref (hts _ (show Cond.laysStatic "java/util/ArrayList" "DEFAULTCAPACITY_EMPTY_ELEMENTDATA" "[Ljava/lang/Object;" ∈ lw_tbl by decide +kernel)) (hts _ (show Cond.initialized "java/util/ArrayList" ∈ lw_tbl by decide +kernel)) e1 hA
  obtain ⟨t4, c4⟩ : ∃ t4 : Nat, va_Z "jdk/internal/util/Preconditions" "SIOOBE_FORMATTER" "Ljava/util/function/BiFunction;" .null (fun q => s.heap.size ≤ q) s s.heap ∨ va_Z "jdk/internal/util/Preconditions" "SIOOBE_FORMATTER" "Ljava/util/function/BiFunction;" (.ref t4) (fun q => s.heap.size ≤ q) s s.heap := by
    rcases c2 with h | ⟨t, h⟩
    · exact ⟨0, Or.inl h⟩
    · exact ⟨t, Or.inr h⟩
  have hw : ∀ w ∈ lw_tbl, ∃ A : Array Value, w.before A s = true := fun w h => ⟨_, hts w h⟩
  have hR : ∀ j, j < 38 → vk_R (sq j).1 (sq j).2.1 (sq j).2.2 (ad j).1 s := fun j hj => vk_R.of (hts _ (s_rf j hj)) (had j hj).2.2.2.2
  obtain ⟨scr, x1, x2, x3, x4, x5⟩ := hX
  have hXT : va_T .int b L (fun j => .int (xs j)) (fun q => s.heap.size ≤ q) s s.heap := ⟨scr, x1, x2, x3, Nat.le_of_eq x4.symm, by rw [x4], x5, hA b hbl⟩
  let ex : Nat → Nat := fun r => if r = 0 then b else if r = 1 then t1 else if r = 2 then (ad 0).1 else if r = 3 then (ad 0).2 else if r = 4 then t4 else if r = 5 then mi else if r % 2 = 0 then (ad ((r - 6) / 2)).1 else (ad ((r - 7) / 2)).2
  let K : am_K := (s, (fun c => (gC c).1, fun c => (gC c).2), dA, ex)
  have i0 : am_ad K 0 = b := am_ad_lo (by decide)
  have i1 : am_ad K 1 = t1 := am_ad_lo (by decide)
  have i2 : am_ad K 2 = (ad 0).1 := am_ad_lo (by decide)
  have i3 : am_ad K 3 = (ad 0).2 := am_ad_lo (by decide)
  have i4 : am_ad K 4 = t4 := am_ad_lo (by decide)
  have i5 : am_ad K 5 = mi := am_ad_lo (by decide)
  have iK : ∀ j, j < 38 → am_ad K (2 * j + 6) = (ad j).1 := fun j hj => by
    rw [am_ad_lo (by omega)]
    show ex (2 * j + 6) = _
    simp only [ex]
    rw [if_neg (by omega), if_neg (by omega), if_neg (by omega), if_neg (by omega), if_neg (by omega), if_neg (by omega), if_pos (by omega), show (2 * j + 6 - 6) / 2 = j by omega]
  have iV : ∀ j, j < 38 → am_ad K (2 * j + 6 + 1) = (ad j).2 := fun j hj => by
    rw [am_ad_lo (by omega)]
    show ex (2 * j + 6 + 1) = _
    simp only [ex]
    rw [if_neg (by omega), if_neg (by omega), if_neg (by omega), if_neg (by omega), if_neg (by omega), if_neg (by omega), if_neg (by omega), show (2 * j + 6 + 1 - 7) / 2 = j by omega]
  have hst : ∀ (j : Nat) (l : List Int32), st_tb[j]? = some l → j < 38 ∧ st_tb.getD j [] = l := fun j l h => by
    refine ⟨(List.getElem?_eq_some_iff.mp h).1, ?_⟩
    rw [List.getD_eq_getElem?_getD, h]
    rfl
  have hsq : ∀ (j : Nat) (q : String × Nat × String), st_q[j]? = some q → j < 38 ∧ sq j = q := fun j q h => by
    refine ⟨(List.getElem?_eq_some_iff.mp h).1, ?_⟩
    unfold sq
    rw [List.getD_eq_getElem?_getD, h]
    rfl
  refine ⟨K, rfl, i0, fun X => ⟨hC, hD, hw⟩, ⟨⟨⟨c1, ?_, ?_⟩, fun j l h => ?_, fun j q h => ?_⟩, ?_, ?_⟩, ?_, ⟨?_, ?_, ?_, ?_, by decide⟩, ?_⟩
  · rcases c4 with h | h
    · exact ⟨.null, Or.inl rfl, h⟩
    · refine ⟨.ref 4, Or.inr rfl, ?_⟩
      show va_Z _ _ _ (.ref (am_ad K 4)) _ _ _
      rw [i4]
      exact h
  · rw [i1]; exact c3
  · obtain ⟨hj, el⟩ := hst j l h
    have hh := had j hj
    rw [el] at hh
    refine ⟨?_, ?_, ?_, ?_, by rw [← el]; exact s_sm j hj⟩
    · rw [iK j hj]; exact hh.1
    · rw [iK j hj]; exact hh.2.1
    · rw [iK j hj, iV j hj]; exact hh.2.2.1
    · rw [iV j hj]; exact hh.2.2.2.1
  · obtain ⟨hj, eq⟩ := hsq j q h
    rw [← eq, iK j hj]
    exact hR j hj
  · rw [i1]; exact hT1
  · rw [i5]; exact hmi
  · rw [i2]; exact hR 0 (by decide)
  · rw [i2]; exact (had 0 (by decide)).1
  · rw [i2]; exact (had 0 (by decide)).2.1
  · rw [show 2 + 1 = 3 from rfl, i3, i2]; exact (had 0 (by decide)).2.2.1
  · rw [show 2 + 1 = 3 from rfl, i3]; exact (had 0 (by decide)).2.2.2.1
  · rw [i0]; exact hXT
end
