/-! the texts of the start: text j at number 2 j + 6, its bytes behind it -/
def st_tb : List (List Int32) := [[102, 117, 110, 32, 108, 101, 116, 32, 105, 102, 32, 101, 108, 115, 101, 32, 119, 104, 105, 108, 101, 32, 114, 101, 116, 117, 114, 110, 32, 97, 98, 111, 114, 116, 32, 112, 114, 105, 110, 116, 32, 110, 105, 108, 32, 115, 105, 122, 101, 32, 112, 117, 115, 104, 32, 112, 111, 112, 32], [123, 125, 40, 41, 91, 93, 44, 59, 58, 46, 61, 43, 45, 42, 47, 37, 60, 33], [32, 102, 117, 110, 32, 108, 101, 116, 32, 105, 102, 32, 101, 108, 115, 101, 32, 119, 104, 105, 108, 101, 32, 114, 101, 116, 117, 114, 110, 32, 97, 98, 111, 114, 116, 32, 112, 114, 105, 110, 116, 32, 110, 105, 108, 32, 115, 105, 122, 101, 32, 112, 117, 115, 104, 32, 112, 111, 112, 32], [102, 117, 110], [40], [41], [44], [123], [125], [108, 101, 116], [61], [45], [33], [110, 105, 108], [115, 105, 122, 101], [112, 117, 115, 104], [112, 111, 112], [91], [58], [93], [46], [43], [42], [47], [37], [61, 61], [33, 61], [60], [60, 61], [124, 124], [38, 38], [59], [105, 102], [101, 108, 115, 101], [119, 104, 105, 108, 101], [114, 101, 116, 117, 114, 110], [97, 98, 111, 114, 116], [112, 114, 105, 110, 116]]
def st_q : List (String × Nat × String) := [("StowTongue$Lexer", 19, "fun let if else while return abort print nil size push pop "), ("StowTongue$Lexer", 121, "{}()[],;:.=+-*/%<!"), ("StowTongueModel", 1, " fun let if else while return abort print nil size push pop "), ("StowTongueModel", 152, "fun"), ("StowTongueModel", 177, "("), ("StowTongueModel", 182, ")"), ("StowTongueModel", 184, ","), ("StowTongueModel", 210, "{"), ("StowTongueModel", 212, "}"), ("StowTongueModel", 217, "let"), ("StowTongueModel", 218, "="), ("StowTongueModel", 283, "-"), ("StowTongueModel", 291, "!"), ("StowTongueModel", 311, "nil"), ("StowTongueModel", 316, "size"), ("StowTongueModel", 317, "push"), ("StowTongueModel", 319, "pop"), ("StowTongueModel", 301, "["), ("StowTongueModel", 333, ":"), ("StowTongueModel", 306, "]"), ("StowTongueModel", 299, "."), ("StowTongueModel", 281, "+"), ("StowTongueModel", 285, "*"), ("StowTongueModel", 287, "/"), ("StowTongueModel", 289, "%"), ("StowTongueModel", 270, "=="), ("StowTongueModel", 272, "!="), ("StowTongueModel", 274, "<"), ("StowTongueModel", 276, "<="), ("StowTongueModel", 263, "||"), ("StowTongueModel", 265, "&&"), ("StowTongueModel", 220, ";"), ("StowTongueModel", 222, "if"), ("StowTongueModel", 247, "else"), ("StowTongueModel", 227, "while"), ("StowTongueModel", 232, "return"), ("StowTongueModel", 237, "abort"), ("StowTongueModel", 239, "print")]
def st_by (r : Nat) : Option (List Int32) := if r % 2 = 0 ∧ 6 ≤ r then st_tb[(r - 6) / 2]? else none
def am_T (K : am_K) : Prop := am_E0 K ∧ (∀ (j : Nat) (l : List Int32), st_tb[j]? = some l → am_str K (2 * j + 6) l.length (fun k => l.getD k 0)) ∧ ∀ (j : Nat) (q : String × Nat × String), st_q[j]? = some q → vk_R q.1 q.2.1 q.2.2 (am_ad K (2 * j + 6)) K.1
theorem st_use {K : am_K} (T : am_T K) {r : Nat} {l : List Int32} (h : st_by r = some l) : am_str K r l.length (fun k => l.getD k 0) := by
  unfold st_by at h
  split at h
  · next c =>
    have := T.2.1 _ _ h
    rwa [show 2 * ((r - 6) / 2) + 6 = r by omega] at this
  · cases h
def dp {β : Type} (k d : Nat) (b : Option β) : Option β := if k ≤ d then b else none
def strLen (r : Nat) : Option Int32 := (st_by r).map fun l => nI l.length
def strAt (r : Nat) (i : Int32) : Option Int32 := (st_by r).bind fun l => if ¬ i < 0 ∧ i.toNatClampNeg < l.length then some (((l.getD i.toNatClampNeg 0 &&& 255).toUInt32 % 65536).toInt32) else none
theorem nI_back {i : Int32} (h : ¬ i < 0) : nI i.toNatClampNeg = i := by
  apply Int32.toInt_inj.mp
  have a : 0 ≤ i.toInt := by simpa using Int32.le_iff_toInt_le.mp (Int32.not_lt.mp h)
  have b := Int32.toInt_lt i
  show (nI i.toInt.toNat).toInt = i.toInt
  rw [nI_toInt (show i.toInt.toNat < 2 ^ 31 by omega)]
  omega
section
variable {α : Type} {cv : α → Option Value} {K : am_K} {X : Nat → am_C} {M : am_M} {d pc : Nat} {lv : List (Nat × Value)} {st : List Value} {s : HS} {res : Option (α × HS)}
theorem xW_pureB {pc' : Nat} {lv' : List (Nat × Value)} {st' : List Value} (row : ∀ (kc ks uc us : Nat) (post : Option Value → am_H → Prop), uc ≤ kc → us ≤ ks → am_W K X M d kc ks uc us pc' lv' st' (s.1, s.2.1) post → am_W K X M d kc ks uc us pc lv st (s.1, s.2.1) post) (k : xW cv K X M d pc' lv' st' s res) : xW cv K X M d pc lv st s res :=
  fun a t e => ⟨(k a t e).1, (k a t e).2.1, fun kc ks uc us h1 h2 => row kc ks uc us _ (by have := (k a t e).1; omega) (by have := (k a t e).2.1; omega) ((k a t e).2.2 kc ks uc us h1 h2)⟩
theorem xW_dp {k : Nat} {b : Option (α × HS)} (h : k ≤ d → xW cv K X M (d + 1) pc lv st s b) : xW cv K X M (d + 1) pc lv st s (dp k d b) := xW_by h (fun _ => xW_none)
theorem xW_strLen (O : am_ok K X) (T : am_T K) {ix r n : Nat} {c : Int32 → Option (α × HS)} (L : am_L M.1.cls ix n m_Str_length) (L2 : Cond.instanceMethod m_Str_length.1 ∈ am_tbl ∧ Cond.selects m_Str_length.1.cls m_Str_length.1 m_Str_length.1 ∈ am_tbl) (hn : 0 = n) (hst : (st.map fun v => v.category).sum ≤ 8) (hd : decode M.2.1 pc = .ok (.invokevirtual ix, 3)) (kk : ∀ x, strLen r = some x → xW cv K X M (d + 1) (pc + 3) lv (.int x :: st) s (c x)) : xW cv K X M (d + 1) pc lv (.ref r :: st) s (dp 1 d ((strLen r).bind c)) :=
  xW_dp fun hd1 => xW_bind fun x hx => by
    have hx' := hx
    unfold strLen at hx'
    obtain ⟨l, hl, rfl⟩ := Option.map_eq_some_iff.mp hx'
    have S := st_use T hl
    exact xW_pureB (fun kc ks uc us post u1 u2 kk => am_callVE O (As := []) (c_Str_length O T.1 S) rfl S.1 L L2 hn hst hd (by omega) (by omega) (by omega) (fun v h' hp => by obtain ⟨rfl, rfl⟩ := hp; exact kk)) (kk _ hx)
theorem xW_strAt (O : am_ok K X) (T : am_T K) {ix r n : Nat} {i : Int32} {c : Int32 → Option (α × HS)} (L : am_L M.1.cls ix n m_Str_charAt) (L2 : Cond.instanceMethod m_Str_charAt.1 ∈ am_tbl ∧ Cond.selects m_Str_charAt.1.cls m_Str_charAt.1 m_Str_charAt.1 ∈ am_tbl) (hn : 1 = n) (hst : (st.map fun v => v.category).sum ≤ 8) (hd : decode M.2.1 pc = .ok (.invokevirtual ix, 3)) (kk : ∀ x, strAt r i = some x → xW cv K X M (d + 1) (pc + 3) lv (.int x :: st) s (c x)) : xW cv K X M (d + 1) pc lv (.int i :: .ref r :: st) s (dp 3 d ((strAt r i).bind c)) :=
  xW_dp fun hd1 => xW_bind fun x hx => by
    have hx' := hx
    unfold strAt at hx'
    obtain ⟨l, hl, hx'⟩ := Option.bind_eq_some_iff.mp hx'
    have S := st_use T hl
    split at hx'
    · next cc =>
      cases hx'
      have C := c_Str_charAt (X := X) O T.1 S cc.2 (h := (s.1, s.2.1))
      rw [nI_back cc.1] at C
      exact xW_pureB (fun kc ks uc us post u1 u2 kk => am_callVE O (As := [.int i]) C rfl S.1 L L2 hn hst hd (by omega) (by omega) (by omega) (fun v h' hp => by obtain ⟨rfl, rfl⟩ := hp; exact kk)) (kk _ hx)
    · cases hx'
def strIx (r : Nat) (x : Int32) : Option Int32 := (st_by r).bind fun l => if ¬ x < 0 ∧ x ≤ 255 ∧ 0 < l.length then some (s_ix (fun k => l.getD k 0) x.toInt8.toInt32 l.length 0) else none
theorem xW_strIx (O : am_ok K X) (T : am_T K) {ix r n : Nat} {i : Int32} {c : Int32 → Option (α × HS)} (L : am_L M.1.cls ix n m_Str_indexOf_I) (L2 : Cond.instanceMethod m_Str_indexOf_I.1 ∈ am_tbl ∧ Cond.selects m_Str_indexOf_I.1.cls m_Str_indexOf_I.1 m_Str_indexOf_I.1 ∈ am_tbl) (hn : 1 = n) (hst : (st.map fun v => v.category).sum ≤ 8) (hd : decode M.2.1 pc = .ok (.invokevirtual ix, 3)) (kk : ∀ x, strIx r i = some x → xW cv K X M (d + 1) (pc + 3) lv (.int x :: st) s (c x)) : xW cv K X M (d + 1) pc lv (.int i :: .ref r :: st) s (dp 3 d ((strIx r i).bind c)) :=
  xW_dp fun hd1 => xW_bind fun x hx => by
    have hx' := hx
    unfold strIx at hx'
    obtain ⟨l, hl, hx'⟩ := Option.bind_eq_some_iff.mp hx'
    have S := st_use T hl
    split at hx'
    · next cc =>
      cases hx'
      exact xW_pureB (fun kc ks uc us post u1 u2 kk => am_callVE O (As := [.int i]) (c_Str_indexOf_I O T.1 S cc.2.2 cc.1 cc.2.1) rfl S.1 L L2 hn hst hd (by omega) (by omega) (by omega) (fun v h' hp => by obtain ⟨rfl, rfl⟩ := hp; exact kk)) (kk _ hx)
    · cases hx'
def cpQ (C : String) (ci : Nat) (s : HS) (a0 : Nat) (sp : Int32) (a1 : Nat) (dp n : Int32) : Option HS := match s.2.1 a0, s.2.1 a1 with
  | .inl o, .inl q => if o.1 = .object C ∧ q.1 = .object C ∧ 128 ≤ a0 ∧ a0 < s.1 ∧ 128 ≤ a1 ∧ a1 < s.1 ∧ ¬ sp < 0 ∧ ¬ dp < 0 ∧ ¬ n < 0 ∧ sp.toNatClampNeg + n.toNatClampNeg ≤ o.2.1 ∧ dp.toNatClampNeg + n.toNatClampNeg ≤ q.2.1 ∧ (List.range n.toNatClampNeg).all (fun i => match o.2.2 (sp.toNatClampNeg + i) with | .ref y => isO s y ci | .null => true | _ => false) = true then some (s.1, va_up s.2.1 a1 (.inl (.object C, q.2.1, va_cpy o.2.2 q.2.2 sp.toNatClampNeg dp.toNatClampNeg n.toNatClampNeg)), s.2.2) else none
  | _, _ => none
theorem xW_copyq (O : am_ok K X) {C : String} {ci : Nat} {qc : vw_C} {ix a0 a1 : Nat} {sp dp n : Int32} {c : HS → Option (α × HS)} (hq : am_cl[ci]? = some qc) (hC : qc.1 = C) (ht : ((.object C) : FieldType) ∈ am_tys) (hw : Cond.methodLink M.1.cls ix arraycopyName ∈ am_tbl) (hnat : Cond.native arraycopyName ∈ am_tbl) (hstat : Cond.static arraycopyName ∈ am_tbl) (hini : Cond.initialized "java/lang/System" ∈ am_tbl) (hd : decode M.2.1 pc = .ok (.invokestatic ix, 3)) (hst : (st.map fun v => v.category).sum ≤ 8) (kk : ∀ t, cpQ C ci s a0 sp a1 dp n = some t → xW cv K X M (d + 1) (pc + 3) lv st t (c t)) : xW cv K X M (d + 1) pc lv (.int n :: .int dp :: .ref a1 :: .int sp :: .ref a0 :: st) s ((cpQ C ci s a0 sp a1 dp n).bind c) :=
  xW_bind fun t hx => by
    have hx' := hx
    unfold cpQ at hx'
    split at hx'
    · next o q ho hq' =>
      split at hx'
      · next cc =>
        obtain ⟨c0, c1, c4, c5, c6, c7, c8, c9, c10, c11, c12, c13⟩ := cc
        cases hx'
        refine xW_to (kk _ hx) (fun _ _ _ _ _ => am_copyq (ci := ci) O hw hnat hstat hini hd (show s.2.1 a0 = .inl (.object C, o.2.1, o.2.2) by rw [ho, ← c0]) c4 c5 (show s.2.1 a1 = .inl (.object C, q.2.1, q.2.2) by rw [hq', ← c1]) c6 c7 ht c8 c9 c10 rfl rfl rfl c11 c12 hq hC (fun i hi => ?_) hst (by omega)) rfl rfl
        have c14 := List.all_eq_true.mp c13 i (List.mem_range.mpr hi)
        split at c14
        · next y hy =>
          obtain ⟨fs, f1, f2, f3⟩ := isO_spec c14
          exact Or.inr ⟨y, fs, hy, f1, f2, f3⟩
        · next hy => exact Or.inl hy
        · cases c14
      · cases hx'
    · cases hx'
end
