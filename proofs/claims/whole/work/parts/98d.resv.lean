abbrev mdC (tm om sz nx kd fr to fa ps : Int32) (nb : Int64) (R : List Value) : am_C := .inr (14, .ref 161 :: .ref 162 :: .int tm :: .int om :: .int sz :: .int nx :: .int kd :: .int fr :: .int to :: .int fa :: .int ps :: .long nb :: R)
theorem asI_s {x : Int32} : asI (some (.int x)) = some x := rfl
theorem asL_s {x : Int64} : asL (some (.long x)) = some x := rfl
theorem asR_s {x : Nat} : asR (some (.ref x)) = some x := rfl
section
variable {n us d : Nat} {f : Nat → am_C} {g : Nat → Int32} {L : Nat} {tm om sz nx kd fr to fa ps : Int32} {nb : Int64} {R : List Value}
theorem M_pV {k : Nat} (hk : k < 12) (hn : 1311 ≤ n) {a0 a1 a2 a3 a4 a5 a6 a7 a8 a9 a10 a11 v : Value} : pV (n, va_up f 160 (.inr (14, a0 :: a1 :: a2 :: a3 :: a4 :: a5 :: a6 :: a7 :: a8 :: a9 :: a10 :: a11 :: R)), us) 160 14 k v = some (n, va_up f 160 (.inr (14, (a0 :: a1 :: a2 :: a3 :: a4 :: a5 :: a6 :: a7 :: a8 :: a9 :: a10 :: a11 :: R).set k v)), us) := by
  rw [G_pV (by decide) (by omega), if_pos (by simp only [List.length_cons]; omega)]
theorem M_aB (hn : 1311 ≤ n) (U : f 161 = .inl (.byte, 1500, fun j => .int (g j))) (hL : L ≤ 1500) {x : Int32} (h0 : ¬ x < 0) (h1 : x.toNatClampNeg < 1500) : aB (n, va_up f 160 (mdC tm om sz nx kd fr to fa ps nb R), us) 161 x = some (g x.toNatClampNeg) := aB_of (show va_up f 160 (mdC tm om sz nx kd fr to fa ps nb R) 161 = _ from (va_up_ne _ _ (by decide)).trans U) (by decide) (show 161 < n by omega) h0 h1
theorem M_aBn (hn : 1311 ≤ n) (U : f 161 = .inl (.byte, 1500, fun j => .int (g j))) (hL : L ≤ 1500) {p : Nat} (h1 : p < 1500) : aB (n, va_up f 160 (mdC tm om sz nx kd fr to fa ps nb R), us) 161 (nI p) = some (g p) := by
  rw [M_aB hn U hL (nI_pos (by omega)) (by rw [nI_clamp (by omega)]; exact h1), nI_clamp (by omega)]

def RSV : List Int32 := [32, 102, 117, 110, 32, 108, 101, 116, 32, 105, 102, 32, 101, 108, 115, 101, 32, 119, 104, 105, 108, 101, 32, 114, 101, 116, 117, 114, 110, 32, 97, 98, 111, 114, 116, 32, 112, 114, 105, 110, 116, 32, 110, 105, 108, 32, 115, 105, 122, 101, 32, 112, 117, 115, 104, 32, 112, 111, 112, 32]
theorem st_10 : st_by 10 = some RSV := rfl
theorem e_strLen10 : strLen 10 = some 60 := rfl
theorem e_strAt10 {k : Nat} (hk : k < 60) : strAt 10 (nI k) = some (RSV.getD k 0) := by
  unfold strAt
  rw [st_10, Option.bind_some, if_pos ⟨nI_pos (by omega), by rw [nI_clamp (by omega)]; exact hk⟩, nI_clamp (by omega)]
  revert k
  decide +kernel
/-- the first n bytes from q on are the reserved word behind place k -/
def mtB (g : Nat → Int32) (q n k : Nat) : Bool := decide (k + n + 1 < 60) && (decide (RSV.getD k 0 = 32) && (decide (RSV.getD (k + n + 1) 0 = 32) && (List.range n).all fun i => decide (RSV.getD (k + 1 + i) 0 = g (q + i))))
def rsB (g : Nat → Int32) (q n : Nat) : Nat → Nat → Bool
  | 0, _ => false
  | m + 1, k => mtB g q n k || rsB g q n m (k + 1)
theorem rsB_end {q n : Nat} : ∀ m k, 60 ≤ k + n + 1 → rsB g q n m k = false
  | 0, _, _ => rfl
  | m + 1, k, h => by
    rw [rsB, rsB_end m (k + 1) (by omega)]
    have : ¬ k + n + 1 < 60 := by omega
    simp [mtB, this]
theorem nI_ad2 {a b : Nat} : nI a + nI b = nI (a + b) := by
  induction b with
  | zero => show nI a + 0 = nI a; simp
  | succ b ih => rw [nI_succ, ← Int32.add_assoc, ih, ← nI_succ]; rfl
theorem nI_sub {a b : Nat} (h : b ≤ a) : nI a - nI b = nI (a - b) := by
  have e : nI a = nI (a - b) + nI b := by rw [nI_ad2, Nat.sub_add_cancel h]
  rw [e, Int32.add_sub_cancel]
theorem nI_inj {a b : Nat} (ha : a < 2 ^ 31) (hb : b < 2 ^ 31) (h : nI a = nI b) : a = b := by
  have := congrArg Int32.toNatClampNeg h
  rwa [nI_clamp ha, nI_clamp hb] at this
def alB (g : Nat → Int32) (q k : Nat) : Nat → Nat → Bool
  | 0, _ => true
  | m + 1, i => decide (RSV.getD (k + 1 + i) 0 = g (q + i)) && alB g q k m (i + 1)
theorem alB_eq {q k : Nat} : ∀ m i, alB g q k m i = (List.range m).all fun j => decide (RSV.getD (k + 1 + (i + j)) 0 = g (q + (i + j)))
  | 0, _ => rfl
  | m + 1, i => by
    rw [alB, alB_eq m (i + 1), List.range_succ_eq_map, List.all_cons, List.all_map]
    congr 1
    apply List.all_congr rfl
    intro j
    show _ = decide (RSV.getD (k + 1 + (i + (j + 1))) 0 = g (q + (i + (j + 1))))
    rw [show i + 1 + j = i + (j + 1) by omega]

set_option maxHeartbeats 4000000 in
theorem e_isReserved (hn : 1311 ≤ n) (U : f 161 = .inl (.byte, 1500, fun j => .int (g j))) (hL : L ≤ 1500) (hd : 3 ≤ d) {q p : Nat} (hq : q ≤ p) (hp : p ≤ L) : x_Mod_isReserved (d + 1) 160 (n, va_up f 160 (mdC tm om (nI L) (nI p) kd (nI q) to fa ps nb R), us) = some (if rsB g q (p - q) 60 0 = true then 1 else 0, (n, va_up f 160 (mdC tm om (nI L) (nI p) kd (nI q) to fa ps nb R), us)) := by
  unfold x_Mod_isReserved
  dsimp only
  rw [G_gd (by decide) (by omega)]
  simp only [gI, gL, gR, G_gV (show 128 ≤ 160 by decide) (show 160 < n by omega), List.getElem?_cons_succ, List.getElem?_cons_zero, asI_s, asL_s, asR_s, Option.bind_some, bnd_some, List.set_cons_succ, List.set_cons_zero, nI_sub hq]
  generalize hm : p - q = m
  refine loop_ind (fun z r => ∀ w k, k + w = 60 → z = (nI k, (n, va_up f 160 (mdC tm om (nI L) (nI p) kd (nI q) to fa ps nb R), us)) → r = some (if rsB g q m w k = true then 1 else 0, (n, va_up f 160 (mdC tm om (nI L) (nI p) kd (nI q) to fa ps nb R), us))) (fun z => 60 - z.1.toNatClampNeg) (fun again z ih w k e ez => ?_) FU _ (by rw [FU_eq]; omega) 60 0 rfl rfl
  subst ez
  simp only [dp_of (show 1 ≤ d by omega), dp_of hd, e_strLen10, Option.bind_some, nI_ad2, ← nI_succ]
  rcases Nat.lt_or_ge (k + m + 1) 60 with h | h
  · rw [if_neg (show ¬ (60 : Int32) ≤ nI (k + m + 1) from nI_ge (b := 60) h (by decide))]
    obtain ⟨w', rfl⟩ : ∃ w', w = w' + 1 := ⟨w - 1, by omega⟩
    have go : ∀ S, S = (n, va_up f 160 (mdC tm om (nI L) (nI p) kd (nI q) to fa ps nb R), us) → again (nI (k + 1), S) = some (if rsB g q m w' (k + 1) = true then 1 else 0, (n, va_up f 160 (mdC tm om (nI L) (nI p) kd (nI q) to fa ps nb R), us)) := fun S hS => by
      subst hS
      exact ih _ (by simp only [nI_clamp (show k + 1 < 2 ^ 31 by omega), nI_clamp (show k < 2 ^ 31 by omega)]; omega) w' (k + 1) (by omega) rfl
    have inner0 : ∀ (b : (Int32 × Int32 × HS → Option (Int32 × HS)) → Int32 × Int32 × HS → Option (Int32 × HS)), (∀ a, b a (0, 0, (n, va_up f 160 (mdC tm om (nI L) (nI p) kd (nI q) to fa ps nb R), us)) = again (nI (k + 1), (n, va_up f 160 (mdC tm om (nI L) (nI p) kd (nI q) to fa ps nb R), us))) → loopK b FU (0, 0, (n, va_up f 160 (mdC tm om (nI L) (nI p) kd (nI q) to fa ps nb R), us)) = some (if rsB g q m w' (k + 1) = true then 1 else 0, (n, va_up f 160 (mdC tm om (nI L) (nI p) kd (nI q) to fa ps nb R), us)) := fun b hb => by
      obtain ⟨K, hK⟩ : ∃ K, FU = K + 1 := ⟨2147483647, rfl⟩
      rw [hK, loopK_succ]
      exact (hb _).trans (go _ rfl)
    rw [e_strAt10 (by omega), Option.bind_some, rsB]
    by_cases c1 : RSV.getD k 0 = 32
    · rw [if_pos c1, e_strAt10 h, Option.bind_some]
      by_cases c2 : RSV.getD (k + m + 1) 0 = 32
      · rw [if_pos c2]
        have hmt : mtB g q m k = alB g q k m 0 := by
          rw [alB_eq]
          unfold mtB
          rw [decide_eq_true h, decide_eq_true c1, decide_eq_true c2, Bool.true_and, Bool.true_and, Bool.true_and]
          simp only [Nat.zero_add]
        rw [hmt]
        refine loop_ind (fun z r => ∀ x i, i + x = m → (z = (1, nI i, (n, va_up f 160 (mdC tm om (nI L) (nI p) kd (nI q) to fa ps nb R), us)) → r = some (if (alB g q k x i || rsB g q m w' (k + 1)) = true then 1 else 0, (n, va_up f 160 (mdC tm om (nI L) (nI p) kd (nI q) to fa ps nb R), us))) ∧ (z = (0, nI i, (n, va_up f 160 (mdC tm om (nI L) (nI p) kd (nI q) to fa ps nb R), us)) → r = some (if rsB g q m w' (k + 1) = true then 1 else 0, (n, va_up f 160 (mdC tm om (nI L) (nI p) kd (nI q) to fa ps nb R), us)))) (fun z => m - z.2.1.toNatClampNeg) (fun again' z ih' x i e' => ⟨fun ez => ?_, fun ez => ?_⟩) FU _ (by rw [FU_eq]; omega) m 0 (by omega) |>.1 rfl
        · subst ez
          dsimp only
          cases x with
          | zero =>
            obtain rfl : i = m := by omega
            rw [if_pos (Int32.le_refl _), if_neg (by decide)]
            rfl
          | succ x =>
            rw [if_neg (nI_ge (show i < m by omega) (by omega)), if_neg (by decide)]
            simp only [gI, gL, gR, G_gV (show 128 ≤ 160 by decide) (show 160 < n by omega), List.getElem?_cons_succ, List.getElem?_cons_zero, asI_s, asL_s, asR_s, Option.bind_some, bnd_some, List.set_cons_succ, List.set_cons_zero, nI_ad2, ← nI_succ, e_strAt10 (show k + 1 + i < 60 by omega), M_aBn hn U hL (show q + i < 1500 by omega)]
            have hi := ih' (1, nI (i + 1), (n, va_up f 160 (mdC tm om (nI L) (nI p) kd (nI q) to fa ps nb R), us)) (by simp only [nI_clamp (show i + 1 < 2 ^ 31 by omega), nI_clamp (show i < 2 ^ 31 by omega)]; omega) x (i + 1) (by omega)
            have hj := ih' (0, nI (i + 1), (n, va_up f 160 (mdC tm om (nI L) (nI p) kd (nI q) to fa ps nb R), us)) (by simp only [nI_clamp (show i + 1 < 2 ^ 31 by omega), nI_clamp (show i < 2 ^ 31 by omega)]; omega) x (i + 1) (by omega)
            by_cases c3 : RSV.getD (k + 1 + i) 0 = g (q + i)
            · rw [if_pos c3, hi.1 rfl, alB, decide_eq_true c3, Bool.true_and]
            · rw [if_neg c3, hj.2 rfl, alB, decide_eq_false c3, Bool.false_and, Bool.false_or]
        · subst ez
          dsimp only
          rw [if_pos rfl, if_pos rfl, ite_self]
          exact go _ rfl
      · rw [if_neg c2]
        have hmt : mtB g q m k = false := by
          unfold mtB
          rw [decide_eq_false c2, Bool.false_and, Bool.and_false, Bool.and_false]
        rw [hmt, Bool.false_or]
        refine inner0 _ (fun a => ?_)
        dsimp only
        rw [if_pos rfl, if_pos rfl, ite_self]
    · rw [if_neg c1]
      have hmt : mtB g q m k = false := by
        unfold mtB
        rw [decide_eq_false c1, Bool.false_and, Bool.and_false]
      rw [hmt, Bool.false_or]
      refine inner0 _ (fun a => ?_)
      dsimp only
      rw [if_pos rfl, if_pos rfl, ite_self]
  · rw [if_pos (show (60 : Int32) ≤ nI (k + m + 1) from nI_le (a := 60) h (by omega)), rsB_end w k h]
    rfl
end
