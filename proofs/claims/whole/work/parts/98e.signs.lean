section
variable {n us d : Nat} {f : Nat → am_C} {g : Nat → Int32} {L : Nat} {tm om sz nx kd fr to fa ps : Int32} {nb : Int64} {R : List Value}
theorem ite_F {β : Type} {p : Prop} {hp : Decidable p} {A B : Option β} {F : Int32 → β} {u v : Int32} (h1 : A = some (F u)) (h2 : B = some (F v)) : (if p then A else B) = some (F (if p then u else v)) := by
  split <;> assumption
def r_tw2 (c e : Int32) : Int32 := if e = c then (if c = 38 then 1 else if c = 124 then 1 else 0) else 0
def r_two (c e : Int32) : Int32 := if e = 61 then (if c = 61 then 1 else if c = 33 then 1 else if c = 60 then 1 else r_tw2 c e) else r_tw2 c e
def r_one (c : Int32) : Int32 := if c = 123 then 1 else if c = 125 then 1 else if c = 40 then 1 else if c = 41 then 1 else if c = 91 then 1 else if c = 93 then 1 else if c = 44 then 1 else if c = 59 then 1 else if c = 58 then 1 else if c = 46 then 1 else if c = 61 then 1 else if c = 43 then 1 else if c = 45 then 1 else if c = 42 then 1 else if c = 47 then 1 else if c = 37 then 1 else if c = 60 then 1 else if c = 33 then 1 else 0
abbrev r_sk5 (one two : Int32) : Int32 := if one = 0 then (if two = 0 then 6 else 5) else 5
abbrev r_st (two : Int32) : Int32 := if two = 0 then 1 else 2

theorem e_b691 (hn : 1311 ≤ n) {two k1 : Int32} : x_Mod_step_b691 d 160 two 160 k1 (n, va_up f 160 (mdC tm om (nI L) nx kd fr to fa ps nb R), us) = some ((), (n, va_up f 160 (mdC tm om (nI L) (nx + r_st two) k1 fr (nx + r_st two) fa ps nb R), us)) := by
  unfold x_Mod_step_b691
  simp only [gI, gL, gR, G_gV (show 128 ≤ 160 by decide) (show 160 < n by omega), List.getElem?_cons_succ, List.getElem?_cons_zero, asI_s, asL_s, asR_s, Option.bind_some, bnd_some, List.set_cons_succ, List.set_cons_zero, M_pV (k := 5) (by decide) hn, M_pV (k := 6) (by decide) hn, M_pV (k := 8) (by decide) hn]
  split <;> rfl
theorem e_b673 (hn : 1311 ≤ n) {one two : Int32} : x_Mod_step_b673 d 160 one two (n, va_up f 160 (mdC tm om (nI L) nx kd fr to fa ps nb R), us) = some ((), (n, va_up f 160 (mdC tm om (nI L) (nx + r_st two) (r_sk5 one two) fr (nx + r_st two) fa ps nb R), us)) := by
  unfold x_Mod_step_b673 x_Mod_step_b685
  simp only [e_b691 hn]
  (repeat' split) <;> rfl

theorem e_b651 (hn : 1311 ≤ n) {c e one : Int32} : x_Mod_step_b651 d 160 c e one (n, va_up f 160 (mdC tm om (nI L) nx kd fr to fa ps nb R), us) = some ((), (n, va_up f 160 (mdC tm om (nI L) (nx + r_st (r_tw2 c e)) (r_sk5 one (r_tw2 c e)) fr (nx + r_st (r_tw2 c e)) fa ps nb R), us)) := by
  unfold x_Mod_step_b651 r_tw2 x_Mod_step_b668 x_Mod_step_b672
  simp only [e_b673 hn]
  (repeat' split) <;> rfl
theorem e_b626 (hn : 1311 ≤ n) {c e one : Int32} : x_Mod_step_b626 d 160 c e one (n, va_up f 160 (mdC tm om (nI L) nx kd fr to fa ps nb R), us) = some ((), (n, va_up f 160 (mdC tm om (nI L) (nx + r_st (r_two c e)) (r_sk5 one (r_two c e)) fr (nx + r_st (r_two c e)) fa ps nb R), us)) := by
  unfold x_Mod_step_b626 r_two x_Mod_step_b668
  simp only [e_b673 hn, e_b651 hn]
  (repeat' split) <;> rfl
theorem e_b512 (hn : 1311 ≤ n) {c e : Int32} : x_Mod_step_b512 d 160 c e (n, va_up f 160 (mdC tm om (nI L) nx kd fr to fa ps nb R), us) = some ((), (n, va_up f 160 (mdC tm om (nI L) (nx + r_st (r_two c e)) (r_sk5 (r_one c) (r_two c e)) fr (nx + r_st (r_two c e)) fa ps nb R), us)) := by
  show _ = some ((fun one => ((), (n, va_up f 160 (mdC tm om (nI L) (nx + r_st (r_two c e)) (r_sk5 one (r_two c e)) fr (nx + r_st (r_two c e)) fa ps nb R), us))) (r_one c))
  unfold x_Mod_step_b512 r_one x_Mod_step_b621
  iterate 18 refine ite_F (F := fun one => ((), (n, va_up f 160 (mdC tm om (nI L) (nx + r_st (r_two c e)) (r_sk5 one (r_two c e)) fr (nx + r_st (r_two c e)) fa ps nb R), us))) (e_b626 hn) ?_
  exact e_b626 hn

theorem e_b651_1 (hn : 1311 ≤ n) {c e one : Int32} : x_Mod_step_b651_1 d 160 c e one (n, va_up f 160 (mdC tm om (nI L) nx kd fr to fa ps nb R), us) = some ((), (n, va_up f 160 (mdC tm om (nI L) (nx + r_st (r_tw2 c e)) (r_sk5 one (r_tw2 c e)) fr (nx + r_st (r_tw2 c e)) fa ps nb R), us)) := by
  unfold x_Mod_step_b651_1 r_tw2 x_Mod_step_b668 x_Mod_step_b672
  simp only [e_b673 hn]
  (repeat' split) <;> rfl
theorem e_b626_1 (hn : 1311 ≤ n) {c e one : Int32} : x_Mod_step_b626_1 d 160 c e one (n, va_up f 160 (mdC tm om (nI L) nx kd fr to fa ps nb R), us) = some ((), (n, va_up f 160 (mdC tm om (nI L) (nx + r_st (r_two c e)) (r_sk5 one (r_two c e)) fr (nx + r_st (r_two c e)) fa ps nb R), us)) := by
  unfold x_Mod_step_b626_1 r_two x_Mod_step_b668
  simp only [e_b673 hn, e_b651_1 hn]
  (repeat' split) <;> rfl
theorem e_b512_1 (hn : 1311 ≤ n) {c e : Int32} : x_Mod_step_b512_1 d 160 c e (n, va_up f 160 (mdC tm om (nI L) nx kd fr to fa ps nb R), us) = some ((), (n, va_up f 160 (mdC tm om (nI L) (nx + r_st (r_two c e)) (r_sk5 (r_one c) (r_two c e)) fr (nx + r_st (r_two c e)) fa ps nb R), us)) := by
  show _ = some ((fun one => ((), (n, va_up f 160 (mdC tm om (nI L) (nx + r_st (r_two c e)) (r_sk5 one (r_two c e)) fr (nx + r_st (r_two c e)) fa ps nb R), us))) (r_one c))
  unfold x_Mod_step_b512_1 r_one x_Mod_step_b621_1
  iterate 18 refine ite_F (F := fun one => ((), (n, va_up f 160 (mdC tm om (nI L) (nx + r_st (r_two c e)) (r_sk5 one (r_two c e)) fr (nx + r_st (r_two c e)) fa ps nb R), us))) (e_b626_1 hn) ?_
  exact e_b626_1 hn

theorem e_b288 (hn : 1311 ≤ n) : x_Mod_step_b288 d 160 (n, va_up f 160 (mdC tm om (nI L) nx kd fr to fa ps nb R), us) = some ((), (n, va_up f 160 (mdC tm om (nI L) nx (if 0 < lg_cmp nb 2147483647 then 6 else 3) fr nx fa ps nb R), us)) := by
  unfold x_Mod_step_b288
  simp only [gI, gL, gR, G_gV (show 128 ≤ 160 by decide) (show 160 < n by omega), List.getElem?_cons_succ, List.getElem?_cons_zero, asI_s, asL_s, asR_s, Option.bind_some, bnd_some, List.set_cons_succ, List.set_cons_zero, M_pV (k := 6) (by decide) hn, M_pV (k := 8) (by decide) hn]
  split <;> rfl
theorem e_b158 (hn : 1311 ≤ n) (U : f 161 = .inl (.byte, 1500, fun j => .int (g j))) (hL : L ≤ 1500) (hd : 4 ≤ d) {q p : Nat} (hq : q ≤ p) (hp : p ≤ L) : x_Mod_step_b158 d 160 (n, va_up f 160 (mdC tm om (nI L) (nI p) kd (nI q) to fa ps nb R), us) = some ((), (n, va_up f 160 (mdC tm om (nI L) (nI p) (if rsB g q (p - q) 60 0 = true then 2 else if 8 < nI (p - q) then 6 else 1) (nI q) (nI p) fa ps nb R), us)) := by
  obtain ⟨d, rfl⟩ : ∃ d', d = d' + 1 := ⟨d - 1, by omega⟩
  unfold x_Mod_step_b158
  rw [e_isReserved hn U hL (by omega) hq hp, bnd_some]
  simp only [gI, gL, gR, G_gV (show 128 ≤ 160 by decide) (show 160 < n by omega), List.getElem?_cons_succ, List.getElem?_cons_zero, asI_s, asL_s, asR_s, Option.bind_some, bnd_some, List.set_cons_succ, List.set_cons_zero, M_pV (k := 6) (by decide) hn, M_pV (k := 8) (by decide) hn, nI_sub hq]
  by_cases c : rsB g q (p - q) 60 0 = true
  · simp only [if_pos c, show ¬ (1 : Int32) = 0 by decide, if_false]
  · simp only [if_neg c, if_true]
    split <;> rfl

theorem e_b396 (hn : 1311 ≤ n) (U : f 161 = .inl (.byte, 1500, fun j => .int (g j))) (hL : L ≤ 1500) {q p : Nat} (hq : q < p) (hp : p ≤ L) : x_Mod_step_b396 d 160 (n, va_up f 160 (mdC tm om (nI L) (nI p) kd (nI q) to fa ps nb R), us) = some ((), (n, va_up f 160 (mdC tm om (nI L) (if p < L ∧ g p = 34 then nI p + 1 else nI p) (if p < L ∧ g p = 34 then (if 16 < nI (p - q) - 1 then 6 else 4) else 6) (nI q) (if p < L ∧ g p = 34 then nI p + 1 else nI p) fa ps nb R), us)) := by
  unfold x_Mod_step_b396 x_Mod_step_b425 x_Mod_step_b426 x_Mod_step_b452 x_Mod_step_b454
  rcases Nat.lt_or_ge p L with h | h
  · simp only [gI, gL, gR, G_gV (show 128 ≤ 160 by decide) (show 160 < n by omega), List.getElem?_cons_succ, List.getElem?_cons_zero, asI_s, asL_s, asR_s, Option.bind_some, bnd_some, List.set_cons_succ, List.set_cons_zero, M_pV (k := 5) (by decide) hn, M_pV (k := 6) (by decide) hn, M_pV (k := 8) (by decide) hn, if_neg (nI_ge h (show L < 2 ^ 31 by omega)), M_aBn hn U hL (show p < 1500 by omega), h, true_and, nI_sub (show q ≤ p by omega), show ¬ (1 : Int32) = 0 by decide, if_false, if_true]
    by_cases c : g p = 34
    · simp only [if_pos c, c, if_true]
      split <;> rfl
    · simp only [if_neg c, c, if_false]
  · have h' : ¬ p < L := by omega
    simp only [gI, gL, gR, G_gV (show 128 ≤ 160 by decide) (show 160 < n by omega), List.getElem?_cons_succ, List.getElem?_cons_zero, asI_s, asL_s, asR_s, Option.bind_some, bnd_some, List.set_cons_succ, List.set_cons_zero, M_pV (k := 5) (by decide) hn, M_pV (k := 6) (by decide) hn, M_pV (k := 8) (by decide) hn, if_pos (nI_le h (show p < 2 ^ 31 by omega)), h', false_and, if_false, if_true]
end
