def lwB (xs : Nat → Int32) (L d : Nat) : (Int32 × HS → Option (Int32 × HS)) → Int32 × HS → Option (Int32 × HS) := (fun (again18 : Int32 × HS → Option (Int32 × HS)) (z18 : Int32 × HS) => (if ((Int32.ofNat L) - 6) < z18.1 then (some (1, z18.2)) else ((scr xs L z18.1).bind fun v2 => (if (v2 &&& 15) = 0 then ((scr xs L (z18.1 + 1)).bind fun v3 => ((scr xs L (z18.1 + 2)).bind fun v4 => ((scr xs L (z18.1 + 3)).bind fun v5 => ((scr xs L (z18.1 + 4)).bind fun v6 => ((scr xs L (z18.1 + 5)).bind fun v7 => (bnd (x_Stow_feed d 128 v3 v4 v5 v6 v7 z18.2) fun v9 s8 => ((scr xs L (z18.1 + 1)).bind fun v10 => ((scr xs L (z18.1 + 2)).bind fun v11 => ((scr xs L (z18.1 + 3)).bind fun v12 => ((scr xs L (z18.1 + 4)).bind fun v13 => ((scr xs L (z18.1 + 5)).bind fun v14 => (bnd (x_Mod_feed d 160 v10 v11 v12 v13 v14 s8) fun v16 s15 => (if v9 = v16 then (again18 ((z18.1 + 6), s15)) else (some (0, s15))))))))))))))) else (if (v2 &&& 15) = 1 then ((scr xs L (z18.1 + 1)).bind fun v17 => (bnd (x_Stow_end d 128 v17 z18.2) fun v19 s18 => ((scr xs L (z18.1 + 1)).bind fun v20 => (bnd (x_Mod_end d 160 v20 s18) fun v22 s21 => (if v19 = v22 then (again18 ((z18.1 + 6), s21)) else (some (0, s21))))))) else (if (v2 &&& 15) = 2 then ((scr xs L (z18.1 + 1)).bind fun v23 => (bnd (x_Stow_run d 128 v23 z18.2) fun v25 s24 => ((scr xs L (z18.1 + 1)).bind fun v26 => (bnd (x_Mod_run d 160 v26 s24) fun v28 s27 => (if v25 = v28 then (again18 ((z18.1 + 6), s27)) else (some (0, s27))))))) else (if (v2 &&& 15) = 3 then (bnd (x_Stow_value d 128 z18.2) fun v30 s29 => (bnd (x_Mod_value_ d 160 s29) fun v32 s31 => (if (lg_cmp v30 v32) = 0 then (again18 ((z18.1 + 6), s31)) else (some (0, s31))))) else (if (v2 &&& 15) = 4 then ((scr xs L (z18.1 + 1)).bind fun v33 => (bnd (x_Stow_octet d 128 v33 z18.2) fun v35 s34 => ((scr xs L (z18.1 + 1)).bind fun v36 => (bnd (x_Mod_octet d 160 v36 s34) fun v38 s37 => (if v35 = v38 then (again18 ((z18.1 + 6), s37)) else (some (0, s37))))))) else (if (v2 &&& 15) = 5 then (bnd (x_Stow_root d 128 z18.2) fun v40 s39 => (bnd (x_Mod_root d 160 s39) fun v42 s41 => (if (lg_cmp v40 v42) = 0 then (again18 ((z18.1 + 6), s41)) else (some (0, s41))))) else (if (v2 &&& 15) = 6 then (bnd (x_Stow_sync d 128 z18.2) fun v44 s43 => (bnd (x_Mod_sync d 160 s43) fun v46 s45 => (if v44 = v46 then (again18 ((z18.1 + 6), s45)) else (some (0, s45))))) else (if (v2 &&& 15) = 7 then ((scr xs L (z18.1 + 1)).bind fun v47 => (bnd (x_Stow_crash d 128 v47 z18.2) fun v49 s48 => ((scr xs L (z18.1 + 1)).bind fun v50 => (bnd (x_Mod_crash d 160 v50 s48) fun v52 s51 => (if v49 = v52 then (again18 ((z18.1 + 6), s51)) else (some (0, s51))))))) else (if (v2 &&& 15) = 8 then (bnd (x_Stow_sweep d 128 z18.2) fun v54 s53 => (bnd (x_Mod_sweep d 160 s53) fun v56 s55 => (if v54 = v56 then (again18 ((z18.1 + 6), s55)) else (some (0, s55))))) else (if (v2 &&& 15) = 9 then ((scr xs L (z18.1 + 1)).bind fun v57 => (bnd (x_Stow_count d 128 v57 z18.2) fun v59 s58 => ((scr xs L (z18.1 + 1)).bind fun v60 => (bnd (x_Mod_count d 160 v60 s58) fun v62 s61 => (if v59 = v62 then (again18 ((z18.1 + 6), s61)) else (some (0, s61))))))) else (again18 ((z18.1 + 6), z18.2)))))))))))))))
theorem lwB_eq {xs : Nat → Int32} {L d : Nat} {z : Int32} {s : HS} {ag : Int32 × HS → Option (Int32 × HS)} : lwB xs L d ag (z, s) = (if ((Int32.ofNat L) - 6) < z then (some (1, s)) else ((scr xs L z).bind fun v2 => (if (v2 &&& 15) = 0 then ((scr xs L (z + 1)).bind fun v3 => ((scr xs L (z + 2)).bind fun v4 => ((scr xs L (z + 3)).bind fun v5 => ((scr xs L (z + 4)).bind fun v6 => ((scr xs L (z + 5)).bind fun v7 => (bnd (x_Stow_feed d 128 v3 v4 v5 v6 v7 s) fun v9 s8 => ((scr xs L (z + 1)).bind fun v10 => ((scr xs L (z + 2)).bind fun v11 => ((scr xs L (z + 3)).bind fun v12 => ((scr xs L (z + 4)).bind fun v13 => ((scr xs L (z + 5)).bind fun v14 => (bnd (x_Mod_feed d 160 v10 v11 v12 v13 v14 s8) fun v16 s15 => (if v9 = v16 then (ag ((z + 6), s15)) else (some (0, s15))))))))))))))) else (if (v2 &&& 15) = 1 then ((scr xs L (z + 1)).bind fun v17 => (bnd (x_Stow_end d 128 v17 s) fun v19 s18 => ((scr xs L (z + 1)).bind fun v20 => (bnd (x_Mod_end d 160 v20 s18) fun v22 s21 => (if v19 = v22 then (ag ((z + 6), s21)) else (some (0, s21))))))) else (if (v2 &&& 15) = 2 then ((scr xs L (z + 1)).bind fun v23 => (bnd (x_Stow_run d 128 v23 s) fun v25 s24 => ((scr xs L (z + 1)).bind fun v26 => (bnd (x_Mod_run d 160 v26 s24) fun v28 s27 => (if v25 = v28 then (ag ((z + 6), s27)) else (some (0, s27))))))) else (if (v2 &&& 15) = 3 then (bnd (x_Stow_value d 128 s) fun v30 s29 => (bnd (x_Mod_value_ d 160 s29) fun v32 s31 => (if (lg_cmp v30 v32) = 0 then (ag ((z + 6), s31)) else (some (0, s31))))) else (if (v2 &&& 15) = 4 then ((scr xs L (z + 1)).bind fun v33 => (bnd (x_Stow_octet d 128 v33 s) fun v35 s34 => ((scr xs L (z + 1)).bind fun v36 => (bnd (x_Mod_octet d 160 v36 s34) fun v38 s37 => (if v35 = v38 then (ag ((z + 6), s37)) else (some (0, s37))))))) else (if (v2 &&& 15) = 5 then (bnd (x_Stow_root d 128 s) fun v40 s39 => (bnd (x_Mod_root d 160 s39) fun v42 s41 => (if (lg_cmp v40 v42) = 0 then (ag ((z + 6), s41)) else (some (0, s41))))) else (if (v2 &&& 15) = 6 then (bnd (x_Stow_sync d 128 s) fun v44 s43 => (bnd (x_Mod_sync d 160 s43) fun v46 s45 => (if v44 = v46 then (ag ((z + 6), s45)) else (some (0, s45))))) else (if (v2 &&& 15) = 7 then ((scr xs L (z + 1)).bind fun v47 => (bnd (x_Stow_crash d 128 v47 s) fun v49 s48 => ((scr xs L (z + 1)).bind fun v50 => (bnd (x_Mod_crash d 160 v50 s48) fun v52 s51 => (if v49 = v52 then (ag ((z + 6), s51)) else (some (0, s51))))))) else (if (v2 &&& 15) = 8 then (bnd (x_Stow_sweep d 128 s) fun v54 s53 => (bnd (x_Mod_sweep d 160 s53) fun v56 s55 => (if v54 = v56 then (ag ((z + 6), s55)) else (some (0, s55))))) else (if (v2 &&& 15) = 9 then ((scr xs L (z + 1)).bind fun v57 => (bnd (x_Stow_count d 128 v57 s) fun v59 s58 => ((scr xs L (z + 1)).bind fun v60 => (bnd (x_Mod_count d 160 v60 s58) fun v62 s61 => (if v59 = v62 then (ag ((z + 6), s61)) else (some (0, s61))))))) else (ag ((z + 6), s)))))))))))))) := rfl

/-! the law's loop -/
section
variable {xs : Nat → Int32} {L m c k : Nat} {s t : HS} {ag : Int32 × HS → Option (Int32 × HS)}
theorem sc_at (h : 6 * m + k < L) (hL : L ≤ 3072) : scr xs L (nI (6 * m + k)) = some (xs (6 * m + k)) := by
  unfold scr
  rw [nI_clamp (by omega), if_pos ⟨nI_pos (by omega), h⟩]
theorem JM.go {α : Type} {A B : HS → Option (α × HS)} (h : JM c s A B) : ∃ r s1 s2, A s = some (r, s1) ∧ B s1 = some (r, s2) ∧ INV (c + 19) s2 := h
theorem law_step (hL : L ≤ 3072) (h : 6 * m + 6 ≤ L) (H : INV c s) : ∃ s', lwB xs L 1299 ag (nI (6 * m), s) = ag (nI (6 * (m + 1)), s') ∧ INV (c + 19) s' := by
  have e6 : nI (6 * m) + 6 = nI (6 * (m + 1)) := by
    rw [show (6 : Int32) = nI 6 from rfl, nI_ad2, show 6 * m + 6 = 6 * (m + 1) by omega]
  have c0 : scr xs L (nI (6 * m)) = some (xs (6 * m)) := sc_at (k := 0) (by omega) hL
  have c1 : scr xs L (nI (6 * m) + 1) = some (xs (6 * m + 1)) := by
    rw [show (1 : Int32) = nI 1 from rfl, nI_ad2]
    exact sc_at (by omega) hL
  have c2 : scr xs L (nI (6 * m) + 2) = some (xs (6 * m + 2)) := by
    rw [show (2 : Int32) = nI 2 from rfl, nI_ad2]
    exact sc_at (by omega) hL
  have c3 : scr xs L (nI (6 * m) + 3) = some (xs (6 * m + 3)) := by
    rw [show (3 : Int32) = nI 3 from rfl, nI_ad2]
    exact sc_at (by omega) hL
  have c4 : scr xs L (nI (6 * m) + 4) = some (xs (6 * m + 4)) := by
    rw [show (4 : Int32) = nI 4 from rfl, nI_ad2]
    exact sc_at (by omega) hL
  have c5 : scr xs L (nI (6 * m) + 5) = some (xs (6 * m + 5)) := by
    rw [show (5 : Int32) = nI 5 from rfl, nI_ad2]
    exact sc_at (by omega) hL
  have cl : ¬ Int32.ofNat L - 6 < nI (6 * m) := by
    show ¬ nI L - nI 6 < nI (6 * m)
    rw [nI_sub (by omega)]
    exact nI_nlt (by omega) (by omega)
  rw [lwB_eq, if_neg cl, c0, Option.bind_some]
  by_cases h0 : xs (6 * m) &&& 15 = 0
  · obtain ⟨r, s1, s2, a1, a2, a3⟩ := (show JM c s (x_Stow_feed 1299 128 (xs (6 * m + 1)) (xs (6 * m + 2)) (xs (6 * m + 3)) (xs (6 * m + 4)) (xs (6 * m + 5))) (x_Mod_feed 1299 160 (xs (6 * m + 1)) (xs (6 * m + 2)) (xs (6 * m + 3)) (xs (6 * m + 4)) (xs (6 * m + 5))) from J_feed (d := 1298) H).go
    refine ⟨s2, ?_, a3⟩
    rw [if_pos h0, c1, Option.bind_some, c2, Option.bind_some, c3, Option.bind_some, c4, Option.bind_some, c5, Option.bind_some, a1, bnd_some, Option.bind_some, Option.bind_some, Option.bind_some, Option.bind_some, Option.bind_some, a2, bnd_some, if_pos rfl, e6]
  rw [if_neg h0]
  by_cases h1 : xs (6 * m) &&& 15 = 1
  · obtain ⟨r, s1, s2, a1, a2, a3⟩ := (show JM c s (x_Stow_end 1299 128 (xs (6 * m + 1))) (x_Mod_end 1299 160 (xs (6 * m + 1))) from J_end (d := 1298) H).go
    refine ⟨s2, ?_, a3⟩
    rw [if_pos h1, c1, Option.bind_some, a1, bnd_some, Option.bind_some, a2, bnd_some, if_pos rfl, e6]
  rw [if_neg h1]
  by_cases h2 : xs (6 * m) &&& 15 = 2
  · obtain ⟨r, s1, s2, a1, a2, a3⟩ := (show JM c s (x_Stow_run 1299 128 (xs (6 * m + 1))) (x_Mod_run 1299 160 (xs (6 * m + 1))) from J_run (d := 1028) H).go
    refine ⟨s2, ?_, a3⟩
    rw [if_pos h2, c1, Option.bind_some, a1, bnd_some, Option.bind_some, a2, bnd_some, if_pos rfl, e6]
  rw [if_neg h2]
  by_cases h3 : xs (6 * m) &&& 15 = 3
  · obtain ⟨r, s1, s2, a1, a2, a3⟩ := (show JM c s (x_Stow_value 1299 128) (x_Mod_value_ 1299 160) from J_value (d := 1295) H).go
    refine ⟨s2, ?_, a3⟩
    rw [if_pos h3, a1, bnd_some, a2, bnd_some, if_pos (lc_eq.mpr rfl), e6]
  rw [if_neg h3]
  by_cases h4 : xs (6 * m) &&& 15 = 4
  · obtain ⟨r, s1, s2, a1, a2, a3⟩ := (show JM c s (x_Stow_octet 1299 128 (xs (6 * m + 1))) (x_Mod_octet 1299 160 (xs (6 * m + 1))) from J_octet (d := 1298) H).go
    refine ⟨s2, ?_, a3⟩
    rw [if_pos h4, c1, Option.bind_some, a1, bnd_some, Option.bind_some, a2, bnd_some, if_pos rfl, e6]
  rw [if_neg h4]
  by_cases h5 : xs (6 * m) &&& 15 = 5
  · obtain ⟨r, s1, s2, a1, a2, a3⟩ := (show JM c s (x_Stow_root 1299 128) (x_Mod_root 1299 160) from J_root (d := 1295) H).go
    refine ⟨s2, ?_, a3⟩
    rw [if_pos h5, a1, bnd_some, a2, bnd_some, if_pos (lc_eq.mpr rfl), e6]
  rw [if_neg h5]
  by_cases h6 : xs (6 * m) &&& 15 = 6
  · obtain ⟨r, s1, s2, a1, a2, a3⟩ := (show JM c s (x_Stow_sync 1299 128) (x_Mod_sync 1299 160) from J_sync (d := 1296) H).go
    refine ⟨s2, ?_, a3⟩
    rw [if_pos h6, a1, bnd_some, a2, bnd_some, if_pos rfl, e6]
  rw [if_neg h6]
  by_cases h7 : xs (6 * m) &&& 15 = 7
  · obtain ⟨r, s1, s2, a1, a2, a3⟩ := (show JM c s (x_Stow_crash 1299 128 (xs (6 * m + 1))) (x_Mod_crash 1299 160 (xs (6 * m + 1))) from J_crash (d := 1296) H).go
    refine ⟨s2, ?_, a3⟩
    rw [if_pos h7, c1, Option.bind_some, a1, bnd_some, Option.bind_some, a2, bnd_some, if_pos rfl, e6]
  rw [if_neg h7]
  by_cases h8 : xs (6 * m) &&& 15 = 8
  · obtain ⟨r, s1, s2, a1, a2, a3⟩ := (show JM c s (x_Stow_sweep 1299 128) (x_Mod_sweep 1299 160) from J_sweep (d := 1292) H).go
    refine ⟨s2, ?_, a3⟩
    rw [if_pos h8, a1, bnd_some, a2, bnd_some, if_pos rfl, e6]
  rw [if_neg h8]
  by_cases h9 : xs (6 * m) &&& 15 = 9
  · obtain ⟨r, s1, s2, a1, a2, a3⟩ := (show JM c s (x_Stow_count 1299 128 (xs (6 * m + 1))) (x_Mod_count 1299 160 (xs (6 * m + 1))) from J_count (d := 1294) H).go
    refine ⟨s2, ?_, a3⟩
    rw [if_pos h9, c1, Option.bind_some, a1, bnd_some, Option.bind_some, a2, bnd_some, if_pos rfl, e6]
  exact ⟨s, by rw [if_neg h9, e6], H.mono (by omega)⟩
theorem l_neg : ∀ L, L < 6 → nI L - 6 < 0 := by decide
theorem law_L (hL : L ≤ 3072) : ∀ r m M c s, m ≤ 600 → L < 6 * m + 6 + 6 * r → r < M → INV c s → ∃ t, loopK (lwB xs L 1299) M (nI (6 * m), s) = some (1, t) ∧ INV (c + 19 * r) t
  | _, _, 0, _, _, _, _, h, _ => by omega
  | r, m, M + 1, c, s, hm, h, hM, H => by
    by_cases q : 6 * m + 6 ≤ L
    · cases r with
      | zero => omega
      | succ r =>
        obtain ⟨s', e1, e2⟩ := law_step (xs := xs) (ag := loopK (lwB xs L 1299) M) hL q H
        obtain ⟨t, e3, e4⟩ := law_L hL r (m + 1) M (c + 19) s' (by omega) (by omega) (by omega) e2
        refine ⟨t, ?_, ?_⟩
        · rw [loopK_succ, e1, e3]
        · rw [show c + 19 * (r + 1) = c + 19 + 19 * r by omega]
          exact e4
    · refine ⟨s, ?_, H.mono (by omega)⟩
      rw [loopK_succ, lwB_eq, if_pos ?_]
      show nI L - 6 < nI (6 * m)
      by_cases q6 : L < 6
      · exact Int32.lt_of_lt_of_le (l_neg L q6) (nI_pos' (by omega))
      · rw [show (6 : Int32) = nI 6 from rfl, nI_sub (by omega)]
        exact nI_lt (by omega) (by omega)
theorem rm_le {n us c L N1 N2 N3 Nm : Nat} (h1 : us + 24 * L ≤ 500 * c + 2 * (N1 + N2) + 4 * N3 + 4 * Nm) (h2 : 32 * n + 144 * L ≤ 41952 + 160 * c + 2 * (N1 + N2) + 32 * N3 + Nm) (hc : c ≤ 9728) (a : N1 ≤ 196608) (b : N2 ≤ 196608) (d : N3 ≤ 300) (e : Nm ≤ 16384) : n ≤ 100000 ∧ us ≤ 6000000 := by omega
theorem INV.room (H : INV c s) (hc : c ≤ 9728) : s.1 ≤ 100000 ∧ s.2.2 ≤ 6000000 := by
  obtain ⟨L, g, O, w, sb, bys, SS, FF, v, fu, om, ob, lg, Rn, Rs, WR, q0, ⟨I, N, hh, tt, Nm, st, rs, un, X, own, C, B⟩, _, _⟩ := H
  obtain ⟨ws, ⟨_, _, _, _, _, ⟨_, _, _, a1, a2, a3, _, _, _, _, _, ⟨a4, a5, a6⟩, _, a7⟩, ⟨_, _, _, b1, b2, b3, _, _, _, _, _, ⟨b4, b5, b6⟩, _, b7⟩, ⟨_, _, _, _, _, _, _, d1, _⟩, _⟩, _⟩ := C.2.1
  have m1 := C.2.2.2.1.2.2.2.2.2.2.2.2.2.2.2.2
  exact rm_le B.1 B.2 hc (by omega) (by omega) d1 m1
end
/-- the law's loop answers 1 within the room, from the heap whose arrays are told to their ends -/
def PURE2 : Prop := ∀ (L : Nat) (xs : Nat → Int32) (X : Nat → am_C) (aL : Nat → Int64), L ≤ 3072 → (∀ i, i < 12 → aL i = Int64.ofNat (C128 8 (RWL.getD i []))) → ∃ t : HS, x_Law xs L 1299 0 (1311, p2_f X aL, 0) = some (1, t) ∧ t.1 ≤ 100000 ∧ t.2.2 ≤ 6000000
theorem pure2 : PURE2 := fun L xs X aL hL hw => by
  obtain ⟨t, e, H⟩ := law_L (xs := xs) hL 512 0 FU 0 (1311, p2_f X aL, 0) (by omega) (by omega) (by rw [FU_eq]; omega) (INV_0 hw)
  exact ⟨t, e, H.room (by decide)⟩
