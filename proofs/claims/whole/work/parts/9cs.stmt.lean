/-! every STATEMENT, if every BLOCK of its depth -/
def HZ (E1 : CE) (cr : Nat) (E2 : RE) (w0 : W2) (V0 p : Nat) : Prop := ∀ d1 d2, 12 * (16 - p) + 42 ≤ d1 → 12 * (16 - p) + 42 ≤ d2 → JSt E1 cr E2 w0 V0 (4000 + 4 * (12 * (16 - p) + 44)) 0 (fun s => x_Pars_statement_b (clP d1) d1 132 (nI p) s) (fun s => x_Mod_statement_b (clM d2) d2 160 (nI p) s)
theorem bnd_un {r : Option (Unit × HS)} : bnd r (fun _ s => some ((), s)) = r := by
  cases r with
  | none => rfl
  | some z => rfl
section
variable {E1 : CE} {cr : Nat} {E2 : RE} {w0 : W2} {u u' u1 u2 v1 q q' d d1 d2 j V0 A B A' B' p m CL i c h e wd qf : Nat} {T T' : TKc} {t t' : TKr} {x x' x'' x1 x2 : CA} {y y' y'' y1 y2 : RA} {s s' s1 : HS} {K dp op opr ar l t0 v l4 t1 : Int32} {w : Bool} {Q : CA → RA → Nat → Prop}
theorem r_brn {i j z : Int32} {r : Nat} : clM (d + 1) 3 r i j z s = x_Mod_branch_b (clM d) d r i s := rfl
theorem r_lop {i j z : Int32} {r : Nat} : clM (d + 1) 4 r i j z s = x_Mod_loop_b (clM d) d r i s := rfl
theorem r_asn {i j z : Int32} {r : Nat} : clM (d + 1) 5 r i j z s = x_Mod_assignment_b (clM d) d r i s := rfl
theorem r_stm {i j z : Int32} {r : Nat} : clM (d + 1) 2 r i j z s = x_Mod_statement_b (clM d) d r i s := rfl
theorem j_stm (hp : p ≤ 16) (hB : HB E1 cr E2 w0 V0 p) : HZ E1 cr E2 w0 V0 p := fun d1 d2 hd1 hd2 s x y u q T t V J hV hh hm => by
  obtain ⟨d1, rfl⟩ : ∃ k, d1 = k + 11 := ⟨d1 - 11, by omega⟩
  obtain ⟨d2, rfl⟩ : ∃ k, d2 = k + 11 := ⟨d2 - 11, by omega⟩
  have hb := J.2.2.2.2.2
  have hu := J.uq
  dsimp only
  unfold x_Pars_statement_b x_Mod_statement_b
  rw [kc_gd V, y_gd J.er, kc_lx V, Option.bind_some, kc_kind V, bnd_some, J.kd, J.is (d := d2 + 7) (K := 123) 4 rfl (by decide) rfl, bnd_some]
  by_cases c123 : T.2.1 = 123
  · rw [if_pos c123, if_pos c123, if_neg (by decide), c_blk, r_blk]
    exact OUT.tail (hB (d1 + 10) (d2 + 10) (by omega) (by omega) s _ _ _ _ _ _ V J hV hh hm) (fun _ _ _ h => h) (Nat.le_refl _) (by omega) okB_tail
  · obtain ⟨s1, e1, V1⟩ := kc_add (d := d1 + 9) (op := 0) (ar := 0) J.eo V (by omega)
    have J1 : JJ E1 cr E2 w0 u q T t (caAdd x 0 0) (raPut y 23) := J.chg ⟨rfl, rfl, rfl, rfl⟩ ⟨rfl, rfl⟩ (by
      show ca_h x + 1 ≤ _ ∧ ca_k x ≤ _ ∧ ra_m y + 1 ≤ _ ∧ ra_v y ≤ _ ∧ ra_p y ≤ _
      omega)
    have H1 : ca_h (caAdd x 0 0) ≤ 2 * u + 1 := by show ca_h x + 1 ≤ _; omega
    have H2 : ra_m (raPut y 23) ≤ 3 * u + 1 := by show ra_m y + 1 ≤ _; omega
    have H3 : V0 ≤ ra_v (raPut y 23) := hV
    have fin : ∀ {r1 : Option (Unit × HS)} {r2 : Option (Int32 × HS)} {B : Nat}, OUT E1 cr E2 w0 (ca_h (caAdd x 0 0)) B (QI V0 1 (caAdd x 0 0) (raPut y 23) u) r1 r2 → B ≤ 4000 + 4 * (12 * (16 - p) + 44) → OUT E1 cr E2 w0 (ca_h x) (4000 + 4 * (12 * (16 - p) + 44)) (QI V0 0 x y u) r1 r2 := fun h g => h.mono (fun _ _ _ k => k.burn) (by show ca_h x ≤ ca_h x + 1; omega) g
    have fin2 : ∀ {r1 : Option (Unit × HS)} {r2 : Option (Int32 × HS)} {B : Nat}, OUT E1 cr E2 w0 (ca_h (caAdd x 0 0)) B (QI V0 1 (caAdd x 0 0) (raPut y 23) u) r1 r2 → B ≤ 4000 + 4 * (12 * (16 - p) + 44) → OUT E1 cr E2 w0 (ca_h x) (4000 + 4 * (12 * (16 - p) + 44)) (QI V0 0 x y u) (bnd r1 fun _ s => some ((), s)) (bnd r2 fun v s => okB v (some (v, s))) := fun h g => OUT.tail h (fun _ _ _ k => k.burn) (by show ca_h x ≤ ca_h x + 1; omega) g okB_tail
    rw [if_neg c123, if_neg c123, if_pos rfl, kc_dr V, Option.bind_some, e1, bnd_some, kc_lx V1, Option.bind_some, kc_kind V1, bnd_some, J1.kd, y_put J.er (by omega), bnd_some, J1.is (d := d2 + 7) (K := 6) 6 rfl (by decide) rfl, bnd_some]
    by_cases c6 : T.2.1 = 6
    · rw [if_pos c6, if_pos c6, if_neg (by decide), c_let, bnd_un]
      exact fin (j_letS hp (by omega) (by omega) V1 J1 H3 H1 H2 c6) (by omega)
    · rw [if_neg c6, if_neg c6, if_pos rfl, J1.is (d := d2 + 7) (K := 7) 29 rfl (by decide) rfl, bnd_some]
      by_cases c7 : T.2.1 = 7
      · rw [if_pos c7, if_pos c7, if_neg (by decide), c_if, r_brn]
        exact fin2 (j_if hB hp (by omega) (by omega) V1 J1 H3 H1 H2 c7) (by omega)
      · rw [if_neg c7, if_neg c7, if_pos rfl, J1.is (d := d2 + 7) (K := 9) 31 rfl (by decide) rfl, bnd_some]
        by_cases c8 : T.2.1 = 8
        · rw [if_pos c8, if_neg (show ¬ T.2.1 = 9 by rw [c8]; decide), if_pos rfl, J1.is (d := d2 + 7) (K := 10) 32 rfl (by decide) rfl, bnd_some, if_neg (show ¬ T.2.1 = 10 by rw [c8]; decide), if_pos rfl, J1.is (d := d2 + 7) (K := 11) 33 rfl (by decide) rfl, bnd_some, if_neg (show ¬ T.2.1 = 11 by rw [c8]; decide), if_pos rfl, J1.is (d := d2 + 7) (K := 12) 34 rfl (by decide) rfl, bnd_some, if_neg (show ¬ T.2.1 = 12 by rw [c8]; decide), if_pos rfl, c_pln, r_asn]
          exact fin2 (j_plain hp (by omega) (by omega) V1 J1 H3 H1 H2) (by omega)
        · by_cases c9 : T.2.1 = 9
          · rw [if_neg c8, if_pos c9, if_pos c9, if_neg (by decide), c_whl, r_lop]
            exact fin2 (j_while hB hp (by omega) (by omega) V1 J1 H3 H1 H2 c9) (by omega)
          · rw [if_neg c8, if_neg c9, if_neg c9, if_pos rfl, J1.is (d := d2 + 7) (K := 10) 32 rfl (by decide) rfl, bnd_some]
            by_cases c10 : T.2.1 = 10
            · rw [if_pos c10, if_pos c10, if_neg (by decide), c_ret, bnd_un]
              exact fin (j_return hp (by omega) (by omega) V1 J1 H3 H1 H2 c10) (by omega)
            · rw [if_neg c10, if_neg c10, if_pos rfl, J1.is (d := d2 + 7) (K := 11) 33 rfl (by decide) rfl, bnd_some]
              by_cases c11 : T.2.1 = 11
              · rw [if_pos c11, if_pos c11, if_neg (by decide)]
                exact fin (B := 3200) (j_abort (by omega) (by omega) (by decide) (by decide) V1 J1 H1 H2 c11) (by omega)
              · rw [if_neg c11, if_neg c11, if_pos rfl, J1.is (d := d2 + 7) (K := 12) 34 rfl (by decide) rfl, bnd_some]
                by_cases c12 : T.2.1 = 12
                · rw [if_pos c12, if_pos c12, if_neg (by decide)]
                  exact fin (j_print hp (by omega) (by omega) V1 J1 H3 H1 H2 c12) (by omega)
                · rw [if_neg c12, if_neg c12, if_pos rfl, c_pln, r_asn]
                  exact fin2 (j_plain hp (by omega) (by omega) V1 J1 H3 H1 H2) (by omega)
end
