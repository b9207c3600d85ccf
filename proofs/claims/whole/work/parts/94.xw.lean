/-! MEANINGS: a method's meaning is a partial function over the abstract heap (with a count of the slots taken); xM says that the method follows its meaning, wherever that is defined -/
abbrev HS : Type := Nat × (Nat → am_C) × Nat
def cvU : Unit → Option Value := fun _ => none
def cvI : Int32 → Option Value := fun x => some (.int x)
def cvL : Int64 → Option Value := fun x => some (.long x)
def cvR : Nat → Option Value := fun x => some (.ref x)
def cvN : Option Nat → Option Value := fun x => some (match x with | none => .null | some r => .ref r)
/-- reads and writes -/
def gV (s : HS) (r ci k : Nat) : Option Value := match s.2.1 r with
  | .inr o => if o.1 = ci ∧ 128 ≤ r ∧ r < s.1 then o.2[k]? else none
  | .inl _ => none
def asI : Option Value → Option Int32
  | some (.int x) => some x
  | _ => none
def asL : Option Value → Option Int64
  | some (.long x) => some x
  | _ => none
def asR : Option Value → Option Nat
  | some (.ref x) => some x
  | _ => none
def asN : Option Value → Option (Option Nat)
  | some (.ref x) => some (some x)
  | some .null => some none
  | _ => none
def gI (s : HS) (r ci k : Nat) : Option Int32 := asI (gV s r ci k)
def gL (s : HS) (r ci k : Nat) : Option Int64 := asL (gV s r ci k)
def gR (s : HS) (r ci k : Nat) : Option Nat := asR (gV s r ci k)
def gN (s : HS) (r ci k : Nat) : Option (Option Nat) := asN (gV s r ci k)
def pV (s : HS) (r ci k : Nat) (v : Value) : Option HS := match s.2.1 r with
  | .inr o => if o.1 = ci ∧ 128 ≤ r ∧ r < s.1 ∧ k < o.2.length then some (s.1, va_up s.2.1 r (.inr (ci, o.2.set k v)), s.2.2) else none
  | .inl _ => none
def pZ (s : HS) (r ci k : Nat) (x : Int32) : Option HS := if x = 0 ∨ x = 1 then pV s r ci k (.int x) else none
def aV (s : HS) (ty : FieldType) (a : Nat) (i : Int32) : Option Value := match s.2.1 a with
  | .inl o => if o.1 = ty ∧ 128 ≤ a ∧ a < s.1 ∧ ¬ i < 0 ∧ i.toNatClampNeg < o.2.1 then some (o.2.2 i.toNatClampNeg) else none
  | .inr _ => none
def aI (s : HS) (a : Nat) (i : Int32) : Option Int32 := asI (aV s .int a i)
def aB (s : HS) (a : Nat) (i : Int32) : Option Int32 := asI (aV s .byte a i)
def aZ (s : HS) (a : Nat) (i : Int32) : Option Int32 := asI (aV s .boolean a i)
def aL (s : HS) (a : Nat) (i : Int32) : Option Int64 := asL (aV s .long a i)
def aR (C : String) (s : HS) (a : Nat) (i : Int32) : Option Nat := asR (aV s (.object C) a i)
def aN (C : String) (s : HS) (a : Nat) (i : Int32) : Option (Option Nat) := asN (aV s (.object C) a i)
def sV (s : HS) (ty : FieldType) (a : Nat) (i : Int32) (v : Value) : Option HS := match s.2.1 a with
  | .inl o => if o.1 = ty ∧ 128 ≤ a ∧ a < s.1 ∧ ¬ i < 0 ∧ i.toNatClampNeg < o.2.1 then some (s.1, va_up s.2.1 a (.inl (ty, o.2.1, updV o.2.2 i.toNatClampNeg v)), s.2.2) else none
  | .inr _ => none
def isO (s : HS) (r ci : Nat) : Bool := match s.2.1 r with
  | .inr o => decide (o.1 = ci ∧ 128 ≤ r ∧ r < s.1)
  | .inl _ => false
def gd {β : Type} (s : HS) (r ci : Nat) (b : Option β) : Option β := if isO s r ci = true then b else none
def sR (C : String) (ci : Nat) (s : HS) (a : Nat) (i : Int32) (r : Nat) : Option HS := if isO s r ci = true then sV s (.object C) a i (.ref r) else none
def lenA (s : HS) (a : Nat) : Option Int32 := match s.2.1 a with
  | .inl o => if o.1 ∈ am_tys ∧ 128 ≤ a ∧ a < s.1 then some (Int32.ofNat o.2.1) else none
  | .inr _ => none
def newA (s : HS) (ty : FieldType) (i : Int32) : Option HS := if ¬ i < 0 ∧ i.toNatClampNeg * componentBytes ty ≤ 536870912 then some (s.1 + 1, va_up s.2.1 s.1 (.inl (ty, i.toNatClampNeg, fun _ => defaultValue ty)), s.2.2 + i.toNatClampNeg) else none
def newR (C : String) (s : HS) (i : Int32) : Option HS := if ¬ i < 0 ∧ i.toNatClampNeg * 4 ≤ 536870912 then some (s.1 + 1, va_up s.2.1 s.1 (.inl (.object C, i.toNatClampNeg, fun _ => .null)), s.2.2 + i.toNatClampNeg) else none
def newO (s : HS) (ci : Nat) (fs : List Value) : HS := (s.1 + 1, va_up s.2.1 s.1 (.inr (ci, fs)), s.2.2 + fs.length)
def okB {α : Type} (x : Int32) (b : Option α) : Option α := if x = 0 ∨ x = 1 then b else none
/-- what lies in the first array from place P on, N of it, is laid into the second from place Q on -/
def cpA (s : HS) (a0 : Nat) (sp : Int32) (a1 : Nat) (dp n : Int32) : Option HS := match s.2.1 a0, s.2.1 a1 with
  | .inl o, .inl q => if o.1 = q.1 ∧ o.1 ∈ am_tys ∧ refKind o.1 = false ∧ 128 ≤ a0 ∧ a0 < s.1 ∧ 128 ≤ a1 ∧ a1 < s.1 ∧ ¬ sp < 0 ∧ ¬ dp < 0 ∧ ¬ n < 0 ∧ sp.toNatClampNeg + n.toNatClampNeg ≤ o.2.1 ∧ dp.toNatClampNeg + n.toNatClampNeg ≤ q.2.1 ∧ (List.range n.toNatClampNeg).all (fun i => fits o.1 (o.2.2 (sp.toNatClampNeg + i)) && (match o.2.2 (sp.toNatClampNeg + i) with | .ref _ => false | _ => true)) = true then some (s.1, va_up s.2.1 a1 (.inl (q.1, q.2.1, va_cpy o.2.2 q.2.2 sp.toNatClampNeg dp.toNatClampNeg n.toNatClampNeg)), s.2.2) else none
  | _, _ => none
def bnd {β γ : Type} (r : Option (β × HS)) (c : β → HS → Option γ) : Option γ := r.bind fun y => c y.1 y.2
/-- a loop: b is told what 'again' means; so often at most -/
def loopK {σ ρ : Type} (b : (σ → Option ρ) → σ → Option ρ) : Nat → σ → Option ρ
  | 0, _ => none
  | k + 1, x => b (loopK b k) x
def FU : Nat := 2147483648
def xW {α : Type} (cv : α → Option Value) (K : am_K) (X : Nat → am_C) (M : am_M) (d pc : Nat) (lv : List (Nat × Value)) (st : List Value) (s : HS) (res : Option (α × HS)) : Prop :=
  ∀ (a : α) (t : HS), res = some (a, t) → s.1 ≤ t.1 ∧ s.2.2 ≤ t.2.2 ∧ ∀ kc ks uc us : Nat, t.1 + uc ≤ kc + s.1 → t.2.2 + us ≤ ks + s.2.2 → am_W K X M d kc ks uc us pc lv st (s.1, s.2.1) (fun v h => v = cv a ∧ h = (t.1, t.2.1))
def xM {α : Type} (cv : α → Option Value) (K : am_K) (X : Nat → am_C) (M : am_M) (d : Nat) (vs : List Value) (s : HS) (res : Option (α × HS)) : Prop :=
  ∀ (a : α) (t : HS), res = some (a, t) → s.1 ≤ t.1 ∧ s.2.2 ≤ t.2.2 ∧ am_Mt K X M d (t.1 - s.1) (t.2.2 - s.2.2) vs (s.1, s.2.1) (fun v h => v = cv a ∧ h = (t.1, t.2.1))
section
variable {α β : Type} {cv : α → Option Value} {cv1 : β → Option Value} {K : am_K} {X : Nat → am_C} {M M2 : am_M} {d pc : Nat} {lv : List (Nat × Value)} {st stk As : List Value} {s : HS} {res : Option (α × HS)}
theorem xW_none : xW cv K X M d pc lv st s none := fun a t e => by cases e
theorem xW_pure {pc' : Nat} {lv' : List (Nat × Value)} {st' : List Value} (row : ∀ (kc ks uc us : Nat) (post : Option Value → am_H → Prop), am_W K X M d kc ks uc us pc' lv' st' (s.1, s.2.1) post → am_W K X M d kc ks uc us pc lv st (s.1, s.2.1) post) (k : xW cv K X M d pc' lv' st' s res) : xW cv K X M d pc lv st s res :=
  fun a t e => ⟨(k a t e).1, (k a t e).2.1, fun kc ks uc us h1 h2 => row kc ks uc us _ ((k a t e).2.2 kc ks uc us h1 h2)⟩
theorem xW_locs {lv' : List (Nat × Value)} (ee : lv'.map (fun q => am_lk lv q.1) = lv'.map (fun q => some q.2)) (k : xW cv K X M d pc lv' st s res) : xW cv K X M d pc lv st s res := xW_pure (fun _ _ _ _ _ => am_locs ee) k
theorem xW_by {c : Prop} {hc : Decidable c} {t e : Option (α × HS)} (k1 : c → xW cv K X M d pc lv st s t) (k2 : ¬ c → xW cv K X M d pc lv st s e) : xW cv K X M d pc lv st s (if c then t else e) := by
  by_cases h : c
  · rw [if_pos h]; exact k1 h
  · rw [if_neg h]; exact k2 h
theorem xW_ite {c : Prop} {hc : Decidable c} {t e : Option (α × HS)} {p1 p2 : Nat} {st' : List Value} (row : ∀ (kc ks uc us : Nat) (post : Option Value → am_H → Prop), (c → am_W K X M d kc ks uc us p1 lv st' (s.1, s.2.1) post) → (¬ c → am_W K X M d kc ks uc us p2 lv st' (s.1, s.2.1) post) → am_W K X M d kc ks uc us pc lv st (s.1, s.2.1) post) (k1 : c → xW cv K X M d p1 lv st' s t) (k2 : ¬ c → xW cv K X M d p2 lv st' s e) : xW cv K X M d pc lv st s (if c then t else e) := by
  by_cases h : c
  · rw [if_pos h]
    exact fun a t e => ⟨(k1 h a t e).1, (k1 h a t e).2.1, fun kc ks uc us h1 h2 => row kc ks uc us _ (fun _ => (k1 h a t e).2.2 kc ks uc us h1 h2) (fun q => absurd h q)⟩
  · rw [if_neg h]
    exact fun a t e => ⟨(k2 h a t e).1, (k2 h a t e).2.1, fun kc ks uc us h1 h2 => row kc ks uc us _ (fun q => absurd q h) (fun _ => (k2 h a t e).2.2 kc ks uc us h1 h2)⟩
theorem xW_ret {a : α} (row : ∀ (kc ks uc us : Nat) (post : Option Value → am_H → Prop), post (cv a) (s.1, s.2.1) → am_W K X M d kc ks uc us pc lv st (s.1, s.2.1) post) : xW cv K X M d pc lv st s (some (a, s)) := by
  intro a' t e
  cases e
  exact ⟨Nat.le_refl _, Nat.le_refl _, fun kc ks uc us _ _ => row kc ks uc us _ ⟨rfl, rfl⟩⟩
theorem xW_okB {x : Int32} {b : Option (α × HS)} (k : (x = 0 ∨ x = 1) → xW cv K X M d pc lv st s b) : xW cv K X M d pc lv st s (okB x b) := xW_by k (fun _ => xW_none)
theorem bz_nar {x : Int32} (h : x = 0 ∨ x = 1) : narrow .boolean (.int x) = .int x := by rcases h with rfl | rfl <;> rfl
theorem gV_spec {r ci k : Nat} {v : Value} (h : gV s r ci k = some v) : ∃ fs, s.2.1 r = .inr (ci, fs) ∧ 128 ≤ r ∧ r < s.1 ∧ fs[k]? = some v := by
  unfold gV at h
  split at h
  · next o ho =>
    split at h
    · next c =>
      obtain ⟨c1, c2, c3⟩ := c
      exact ⟨o.2, by rw [ho, ← c1], c2, c3, h⟩
    · cases h
  · cases h
theorem asI_spec {v : Option Value} {x : Int32} (h : asI v = some x) : v = some (.int x) := by
  unfold asI at h
  split at h
  · cases h; rfl
  · cases h
theorem asL_spec {v : Option Value} {x : Int64} (h : asL v = some x) : v = some (.long x) := by
  unfold asL at h
  split at h
  · cases h; rfl
  · cases h
theorem asR_spec {v : Option Value} {x : Nat} (h : asR v = some x) : v = some (.ref x) := by
  unfold asR at h
  split at h
  · cases h; rfl
  · cases h
theorem asN_spec {v : Option Value} {x : Option Nat} (h : asN v = some x) : v = cvN x := by
  unfold asN at h
  split at h
  · cases h; rfl
  · cases h; rfl
  · cases h
theorem xW_bind {γ : Type} {o : Option γ} {c : γ → Option (α × HS)} (k : ∀ x, o = some x → xW cv K X M d pc lv st s (c x)) : xW cv K X M d pc lv st s (o.bind c) := by
  cases o with
  | none => exact xW_none
  | some x => exact k x rfl
theorem xW_gI (O : am_ok K X) {ix ci k r : Nat} {c : Int32 → Option (α × HS)} (hF : am_F M.1.cls ix ci k) (hd : decode M.2.1 pc = .ok (.getfield ix, 3)) (kk : ∀ x, gI s r ci k = some x → xW cv K X M d (pc + 3) lv (.int x :: st) s (c x)) : xW cv K X M d pc lv (.ref r :: st) s ((gI s r ci k).bind c) :=
  xW_bind fun x hx => by
    obtain ⟨fs, h1, h2, h3, h4⟩ := gV_spec (asI_spec hx)
    exact xW_pure (fun _ _ _ _ _ => am_get O hF hd h1 h2 h3 h4) (kk x hx)
theorem xW_gL (O : am_ok K X) {ix ci k r : Nat} {c : Int64 → Option (α × HS)} (hF : am_F M.1.cls ix ci k) (hd : decode M.2.1 pc = .ok (.getfield ix, 3)) (kk : ∀ x, gL s r ci k = some x → xW cv K X M d (pc + 3) lv (.long x :: st) s (c x)) : xW cv K X M d pc lv (.ref r :: st) s ((gL s r ci k).bind c) :=
  xW_bind fun x hx => by
    obtain ⟨fs, h1, h2, h3, h4⟩ := gV_spec (asL_spec hx)
    exact xW_pure (fun _ _ _ _ _ => am_get O hF hd h1 h2 h3 h4) (kk x hx)
theorem xW_gR (O : am_ok K X) {ix ci k r : Nat} {c : Nat → Option (α × HS)} (hF : am_F M.1.cls ix ci k) (hd : decode M.2.1 pc = .ok (.getfield ix, 3)) (kk : ∀ x, gR s r ci k = some x → xW cv K X M d (pc + 3) lv (.ref x :: st) s (c x)) : xW cv K X M d pc lv (.ref r :: st) s ((gR s r ci k).bind c) :=
  xW_bind fun x hx => by
    obtain ⟨fs, h1, h2, h3, h4⟩ := gV_spec (asR_spec hx)
    exact xW_pure (fun _ _ _ _ _ => am_get O hF hd h1 h2 h3 h4) (kk x hx)
theorem xW_gN (O : am_ok K X) {ix ci k r : Nat} {e : Option (α × HS)} {c : Nat → Option (α × HS)} (hF : am_F M.1.cls ix ci k) (hd : decode M.2.1 pc = .ok (.getfield ix, 3)) (k0 : gN s r ci k = some none → xW cv K X M d (pc + 3) lv (.null :: st) s e) (kk : ∀ x, gN s r ci k = some (some x) → xW cv K X M d (pc + 3) lv (.ref x :: st) s (c x)) : xW cv K X M d pc lv (.ref r :: st) s ((gN s r ci k).bind fun y => y.elim e c) :=
  xW_bind fun y hx => by
    obtain ⟨fs, h1, h2, h3, h4⟩ := gV_spec (asN_spec hx)
    cases y with
    | none => exact xW_pure (fun _ _ _ _ _ => am_get O hF hd h1 h2 h3 h4) (k0 hx)
    | some x => exact xW_pure (fun _ _ _ _ _ => am_get O hF hd h1 h2 h3 h4) (kk x hx)
theorem pV_spec {r ci k : Nat} {v : Value} {t : HS} (h : pV s r ci k v = some t) : ∃ fs, s.2.1 r = .inr (ci, fs) ∧ 128 ≤ r ∧ r < s.1 ∧ k < fs.length ∧ t = (s.1, va_up s.2.1 r (.inr (ci, fs.set k v)), s.2.2) := by
  unfold pV at h
  split at h
  · next o ho =>
    split at h
    · next c =>
      obtain ⟨c1, c2, c3, c4⟩ := c
      cases h
      exact ⟨o.2, by rw [ho, ← c1], c2, c3, c4, rfl⟩
    · cases h
  · cases h
/-- a row that goes on at another heap of the same size -/
theorem xW_to {pc' : Nat} {lv' : List (Nat × Value)} {st' : List Value} {t : HS} (k : xW cv K X M d pc' lv' st' t res) (row : ∀ (kc ks uc us : Nat) (post : Option Value → am_H → Prop), am_W K X M d kc ks uc us pc' lv' st' (t.1, t.2.1) post → am_W K X M d kc ks uc us pc lv st (s.1, s.2.1) post) (e1 : t.1 = s.1) (e2 : t.2.2 = s.2.2) : xW cv K X M d pc lv st s res :=
  fun a u e => by
    obtain ⟨k1, k2, k3⟩ := k a u e
    exact ⟨by omega, by omega, fun kc ks uc us h1 h2 => row kc ks uc us _ (k3 kc ks uc us (by omega) (by omega))⟩
theorem xW_put (O : am_ok K X) {ix ci k r : Nat} {v : Value} {c : HS → Option (α × HS)} (hF : am_F M.1.cls ix ci k) (hd : decode M.2.1 pc = .ok (.putfield ix, 3)) (ht : ∀ q : vw_C, am_cl[ci]? = some q → (q.2.1 k).2.2.2 = false ∧ narrow ((parseFieldDescriptor (q.2.1 k).2.2.1).getD .int) v = v ∧ fits ((parseFieldDescriptor (q.2.1 k).2.2.1).getD .int) v = true) (kk : ∀ t, pV s r ci k v = some t → xW cv K X M d (pc + 3) lv st t (c t)) : xW cv K X M d pc lv (v :: .ref r :: st) s ((pV s r ci k v).bind c) :=
  xW_bind fun t hx => by
    obtain ⟨fs, h1, h2, h3, h4, rfl⟩ := pV_spec hx
    exact xW_to (kk _ hx) (fun _ _ _ _ _ => am_put O hF hd h1 h2 h3 h4 ht) rfl rfl
theorem xW_putF (O : am_ok K X) {ix ci k r : Nat} {v : Value} {c : HS → Option (α × HS)} (hF : am_F M.1.cls ix ci k) (hw : ∀ q : vw_C, am_cl[ci]? = some q → Cond.fieldLink M.1.cls ix (q.2.1 k).1 (q.2.1 k).2.1 (q.2.1 k).2.2.1 ∈ am_tbl ∧ M.1.cls = (q.2.1 k).1) (hin : M.1.name = "<init>") (hd : decode M.2.1 pc = .ok (.putfield ix, 3)) (ht : ∀ q : vw_C, am_cl[ci]? = some q → (q.2.1 k).2.2.2 = true ∧ narrow ((parseFieldDescriptor (q.2.1 k).2.2.1).getD .int) v = v ∧ fits ((parseFieldDescriptor (q.2.1 k).2.2.1).getD .int) v = true) (kk : ∀ t, pV s r ci k v = some t → xW cv K X M d (pc + 3) lv st t (c t)) : xW cv K X M d pc lv (v :: .ref r :: st) s ((pV s r ci k v).bind c) :=
  xW_bind fun t hx => by
    obtain ⟨fs, h1, h2, h3, h4, rfl⟩ := pV_spec hx
    exact xW_to (kk _ hx) (fun _ _ _ _ _ => am_putF O hF hw hin hd h1 h2 h3 h4 ht) rfl rfl
theorem xW_putZ (O : am_ok K X) {ix ci k r : Nat} {x : Int32} {c : HS → Option (α × HS)} (hF : am_F M.1.cls ix ci k) (hd : decode M.2.1 pc = .ok (.putfield ix, 3)) (ht : ∀ q : vw_C, am_cl[ci]? = some q → (q.2.1 k).2.2.2 = false ∧ (parseFieldDescriptor (q.2.1 k).2.2.1).getD .int = .boolean) (kk : ∀ t, pZ s r ci k x = some t → xW cv K X M d (pc + 3) lv st t (c t)) : xW cv K X M d pc lv (.int x :: .ref r :: st) s ((pZ s r ci k x).bind c) :=
  xW_bind fun t hx => by
    have hx' := hx
    unfold pZ at hx'
    split at hx'
    · next cc =>
      obtain ⟨fs, h1, h2, h3, h4, rfl⟩ := pV_spec hx'
      exact xW_to (kk _ hx) (fun _ _ _ _ _ => am_put O hF hd h1 h2 h3 h4 (fun q hq => by rw [(ht q hq).2]; exact ⟨(ht q hq).1, bz_nar cc, by rcases cc with rfl | rfl <;> rfl⟩)) rfl rfl
    · cases hx'
theorem aV_spec {ty : FieldType} {a : Nat} {i : Int32} {v : Value} (h : aV s ty a i = some v) : ∃ (N : Nat) (g : Nat → Value), s.2.1 a = .inl (ty, N, g) ∧ 128 ≤ a ∧ a < s.1 ∧ vp_in i N ∧ g i.toNatClampNeg = v := by
  unfold aV at h
  split at h
  · next o ho =>
    split at h
    · next c =>
      obtain ⟨c1, c2, c3, c4, c5⟩ := c
      cases h
      exact ⟨o.2.1, o.2.2, by rw [ho, ← c1], c2, c3, fun q => q.elim c4 (fun q => by omega), rfl⟩
    · cases h
  · cases h
theorem sV_spec {ty : FieldType} {a : Nat} {i : Int32} {v : Value} {t : HS} (h : sV s ty a i v = some t) : ∃ (N : Nat) (g : Nat → Value), s.2.1 a = .inl (ty, N, g) ∧ 128 ≤ a ∧ a < s.1 ∧ vp_in i N ∧ t = (s.1, va_up s.2.1 a (.inl (ty, N, updV g i.toNatClampNeg v)), s.2.2) := by
  unfold sV at h
  split at h
  · next o ho =>
    split at h
    · next c =>
      obtain ⟨c1, c2, c3, c4, c5⟩ := c
      cases h
      exact ⟨o.2.1, o.2.2, by rw [ho, ← c1], c2, c3, fun q => q.elim c4 (fun q => by omega), rfl⟩
    · cases h
  · cases h
theorem xW_aI (O : am_ok K X) {a : Nat} {i : Int32} {c : Int32 → Option (α × HS)} (hd : decode M.2.1 pc = .ok (.iaload, 1)) (kk : ∀ x, aI s a i = some x → xW cv K X M d (pc + 1) lv (.int x :: st) s (c x)) : xW cv K X M d pc lv (.int i :: .ref a :: st) s ((aI s a i).bind c) :=
  xW_bind fun x hx => by
    obtain ⟨N, g, h1, h2, h3, h4, h5⟩ := aV_spec (asI_spec hx)
    exact xW_pure (fun _ _ _ _ _ => am_iald O (by decide) hd h1 h2 h3 h4 h5) (kk x hx)
theorem xW_aB (O : am_ok K X) {a : Nat} {i : Int32} {c : Int32 → Option (α × HS)} (hd : decode M.2.1 pc = .ok (.baload, 1)) (kk : ∀ x, aB s a i = some x → xW cv K X M d (pc + 1) lv (.int x :: st) s (c x)) : xW cv K X M d pc lv (.int i :: .ref a :: st) s ((aB s a i).bind c) :=
  xW_bind fun x hx => by
    obtain ⟨N, g, h1, h2, h3, h4, h5⟩ := aV_spec (asI_spec hx)
    exact xW_pure (fun _ _ _ _ _ => am_bald O (by decide) hd h1 h2 h3 h4 h5) (kk x hx)
theorem xW_aZ (O : am_ok K X) {a : Nat} {i : Int32} {c : Int32 → Option (α × HS)} (hd : decode M.2.1 pc = .ok (.baload, 1)) (kk : ∀ x, aZ s a i = some x → xW cv K X M d (pc + 1) lv (.int x :: st) s (c x)) : xW cv K X M d pc lv (.int i :: .ref a :: st) s ((aZ s a i).bind c) :=
  xW_bind fun x hx => by
    obtain ⟨N, g, h1, h2, h3, h4, h5⟩ := aV_spec (asI_spec hx)
    exact xW_pure (fun _ _ _ _ _ => am_zald O (by decide) hd h1 h2 h3 h4 h5) (kk x hx)
theorem xW_aL (O : am_ok K X) {a : Nat} {i : Int32} {c : Int64 → Option (α × HS)} (hd : decode M.2.1 pc = .ok (.laload, 1)) (kk : ∀ x, aL s a i = some x → xW cv K X M d (pc + 1) lv (.long x :: st) s (c x)) : xW cv K X M d pc lv (.int i :: .ref a :: st) s ((aL s a i).bind c) :=
  xW_bind fun x hx => by
    obtain ⟨N, g, h1, h2, h3, h4, h5⟩ := aV_spec (asL_spec hx)
    exact xW_pure (fun _ _ _ _ _ => am_lald O (by decide) hd h1 h2 h3 h4 h5) (kk x hx)
theorem xW_aR (O : am_ok K X) {C : String} {a : Nat} {i : Int32} {c : Nat → Option (α × HS)} (ht : FieldType.object C ∈ am_tys) (hd : decode M.2.1 pc = .ok (.aaload, 1)) (kk : ∀ x, aR C s a i = some x → xW cv K X M d (pc + 1) lv (.ref x :: st) s (c x)) : xW cv K X M d pc lv (.int i :: .ref a :: st) s ((aR C s a i).bind c) :=
  xW_bind fun x hx => by
    obtain ⟨N, g, h1, h2, h3, h4, h5⟩ := aV_spec (asR_spec hx)
    exact xW_pure (fun _ _ _ _ _ => am_aald O hd h1 h2 h3 ht rfl h4 h5) (kk x hx)
theorem xW_aN (O : am_ok K X) {C : String} {a : Nat} {i : Int32} {e : Option (α × HS)} {c : Nat → Option (α × HS)} (ht : FieldType.object C ∈ am_tys) (hd : decode M.2.1 pc = .ok (.aaload, 1)) (k0 : aN C s a i = some none → xW cv K X M d (pc + 1) lv (.null :: st) s e) (kk : ∀ x, aN C s a i = some (some x) → xW cv K X M d (pc + 1) lv (.ref x :: st) s (c x)) : xW cv K X M d pc lv (.int i :: .ref a :: st) s ((aN C s a i).bind fun y => y.elim e c) :=
  xW_bind fun y hx => by
    obtain ⟨N, g, h1, h2, h3, h4, h5⟩ := aV_spec (asN_spec hx)
    cases y with
    | none => exact xW_pure (fun _ _ _ _ _ => am_aald O hd h1 h2 h3 ht rfl h4 h5) (k0 hx)
    | some x => exact xW_pure (fun _ _ _ _ _ => am_aald O hd h1 h2 h3 ht rfl h4 h5) (kk x hx)
theorem xW_sI (O : am_ok K X) {a : Nat} {i x : Int32} {c : HS → Option (α × HS)} (hd : decode M.2.1 pc = .ok (.iastore, 1)) (kk : ∀ t, sV s .int a i (.int x) = some t → xW cv K X M d (pc + 1) lv st t (c t)) : xW cv K X M d pc lv (.int x :: .int i :: .ref a :: st) s ((sV s .int a i (.int x)).bind c) :=
  xW_bind fun t hx => by
    obtain ⟨N, g, h1, h2, h3, h4, rfl⟩ := sV_spec hx
    exact xW_to (kk _ hx) (fun _ _ _ _ _ => am_iast O (by decide) hd h1 h2 h3 h4) rfl rfl
theorem xW_sL (O : am_ok K X) {a : Nat} {i : Int32} {x : Int64} {c : HS → Option (α × HS)} (hd : decode M.2.1 pc = .ok (.lastore, 1)) (kk : ∀ t, sV s .long a i (.long x) = some t → xW cv K X M d (pc + 1) lv st t (c t)) : xW cv K X M d pc lv (.long x :: .int i :: .ref a :: st) s ((sV s .long a i (.long x)).bind c) :=
  xW_bind fun t hx => by
    obtain ⟨N, g, h1, h2, h3, h4, rfl⟩ := sV_spec hx
    exact xW_to (kk _ hx) (fun _ _ _ _ _ => am_last O (by decide) hd h1 h2 h3 h4) rfl rfl
theorem xW_sB (O : am_ok K X) {a : Nat} {i x : Int32} {c : HS → Option (α × HS)} (hd : decode M.2.1 pc = .ok (.bastore, 1)) (kk : ∀ t, sV s .byte a i (.int x.toInt8.toInt32) = some t → xW cv K X M d (pc + 1) lv st t (c t)) : xW cv K X M d pc lv (.int x :: .int i :: .ref a :: st) s ((sV s .byte a i (.int x.toInt8.toInt32)).bind c) :=
  xW_bind fun t hx => by
    obtain ⟨N, g, h1, h2, h3, h4, rfl⟩ := sV_spec hx
    exact xW_to (kk _ hx) (fun _ _ _ _ _ => am_bast O (by decide) hd h1 h2 h3 h4) rfl rfl
theorem xW_sZ (O : am_ok K X) {a : Nat} {i x : Int32} {c : HS → Option (α × HS)} (hd : decode M.2.1 pc = .ok (.bastore, 1)) (kk : ∀ t, sV s .boolean a i (narrow .boolean (.int x)) = some t → xW cv K X M d (pc + 1) lv st t (c t)) : xW cv K X M d pc lv (.int x :: .int i :: .ref a :: st) s ((sV s .boolean a i (narrow .boolean (.int x))).bind c) :=
  xW_bind fun t hx => by
    obtain ⟨N, g, h1, h2, h3, h4, rfl⟩ := sV_spec hx
    exact xW_to (kk _ hx) (fun _ _ _ _ _ => am_zast O (by decide) hd h1 h2 h3 h4) rfl rfl
theorem isO_spec {r ci : Nat} (h : isO s r ci = true) : ∃ fs, s.2.1 r = .inr (ci, fs) ∧ 128 ≤ r ∧ r < s.1 := by
  unfold isO at h
  split at h
  · next o ho =>
    obtain ⟨c1, c2, c3⟩ := of_decide_eq_true h
    exact ⟨o.2, by rw [ho, ← c1], c2, c3⟩
  · cases h
theorem xW_sR (O : am_ok K X) {C : String} {ci a r : Nat} {q : vw_C} {i : Int32} {c : HS → Option (α × HS)} (hq : am_cl[ci]? = some q) (hC : q.1 = C) (ht : FieldType.object C ∈ am_tys) (hd : decode M.2.1 pc = .ok (.aastore, 1)) (kk : ∀ t, sR C ci s a i r = some t → xW cv K X M d (pc + 1) lv st t (c t)) : xW cv K X M d pc lv (.ref r :: .int i :: .ref a :: st) s ((sR C ci s a i r).bind c) :=
  xW_bind fun t hx => by
    have hx' := hx
    unfold sR at hx'
    split at hx'
    · next hc =>
      obtain ⟨fs, f1, f2, f3⟩ := isO_spec hc
      obtain ⟨N, g, h1, h2, h3, h4, rfl⟩ := sV_spec hx'
      exact xW_to (kk _ hx) (fun _ _ _ _ _ => am_aast O hd h1 h2 h3 f1 f2 f3 hq hC ht h4) rfl rfl
    · cases hx'
theorem xW_sN (O : am_ok K X) {C : String} {a : Nat} {i : Int32} {c : HS → Option (α × HS)} (ht : FieldType.object C ∈ am_tys) (hd : decode M.2.1 pc = .ok (.aastore, 1)) (kk : ∀ t, sV s (.object C) a i .null = some t → xW cv K X M d (pc + 1) lv st t (c t)) : xW cv K X M d pc lv (.null :: .int i :: .ref a :: st) s ((sV s (.object C) a i .null).bind c) :=
  xW_bind fun t hx => by
    obtain ⟨N, g, h1, h2, h3, h4, rfl⟩ := sV_spec hx
    exact xW_to (kk _ hx) (fun _ _ _ _ _ => am_aastN O ht hd h1 h2 h3 h4) rfl rfl
theorem xW_len (O : am_ok K X) {a : Nat} {c : Int32 → Option (α × HS)} (hd : decode M.2.1 pc = .ok (.arraylength, 1)) (kk : ∀ x, lenA s a = some x → xW cv K X M d (pc + 1) lv (.int x :: st) s (c x)) : xW cv K X M d pc lv (.ref a :: st) s ((lenA s a).bind c) :=
  xW_bind fun x hx => by
    have hx' := hx
    unfold lenA at hx'
    split at hx'
    · next o ho =>
      split at hx'
      · next cc =>
        cases hx'
        exact xW_pure (fun _ _ _ _ _ => am_alen O hd ho cc.2.1 cc.2.2 cc.1 rfl) (kk _ hx)
      · cases hx'
    · cases hx'
theorem xW_newA (O : am_ok K X) {at_ : ArrayType} {ty : FieldType} {i : Int32} {c : HS → Option (α × HS)} (hty : newarray.typeOf at_ = ty) (ht : ty ∈ am_tys) (hw : Cond.arrayClass ty ∈ am_tbl) (hd : decode M.2.1 pc = .ok (.newarray at_, 2)) (kk : ∀ t, newA s ty i = some t → xW cv K X M d (pc + 2) lv (.ref s.1 :: st) t (c t)) : xW cv K X M d pc lv (.int i :: st) s ((newA s ty i).bind c) :=
  xW_bind fun t hx => by
    have hx' := hx
    unfold newA at hx'
    split at hx'
    · next cc =>
      cases hx'
      intro a u e
      obtain ⟨k1, k2, k3⟩ := kk _ hx a u e
      have k1 : s.1 + 1 ≤ u.1 := k1
      have k2 : s.2.2 + i.toNatClampNeg ≤ u.2.2 := k2
      refine ⟨by omega, by omega, fun kc ks uc us h1 h2 => am_newa O hty ht hw hd cc.1 rfl cc.2 (by omega) (by omega) (k3 kc ks _ _ ?_ ?_)⟩
      · show u.1 + (uc + 1) ≤ kc + (s.1 + 1); omega
      · show u.2.2 + (us + _) ≤ ks + (s.2.2 + _); omega
    · cases hx'
theorem xW_newR (O : am_ok K X) {C : String} {ix : Nat} {i : Int32} {c : HS → Option (α × HS)} (ht : FieldType.object C ∈ am_tys) (hw : Cond.classLink M.1.cls ix C ∈ am_tbl) (hw2 : Cond.arrayOver (.object C) ∈ lw_tbl) (hd : decode M.2.1 pc = .ok (.anewarray ix, 3)) (kk : ∀ t, newR C s i = some t → xW cv K X M d (pc + 3) lv (.ref s.1 :: st) t (c t)) : xW cv K X M d pc lv (.int i :: st) s ((newR C s i).bind c) :=
  xW_bind fun t hx => by
    have hx' := hx
    unfold newR at hx'
    split at hx'
    · next cc =>
      cases hx'
      intro a u e
      obtain ⟨k1, k2, k3⟩ := kk _ hx a u e
      have k1 : s.1 + 1 ≤ u.1 := k1
      have k2 : s.2.2 + i.toNatClampNeg ≤ u.2.2 := k2
      refine ⟨by omega, by omega, fun kc ks uc us h1 h2 => am_anew O ht hw hw2 hd cc.1 rfl cc.2 (by omega) (by omega) (k3 kc ks _ _ ?_ ?_)⟩
      · show u.1 + (uc + 1) ≤ kc + (s.1 + 1); omega
      · show u.2.2 + (us + _) ≤ ks + (s.2.2 + _); omega
    · cases hx'
theorem xW_newO (O : am_ok K X) {ix ci : Nat} {fs : List Value} (hN : am_N M.1.cls ix ci fs.length fs) (hd : decode M.2.1 pc = .ok (.new ix, 3)) (k : xW cv K X M d (pc + 3) lv (.ref s.1 :: st) (newO s ci fs) res) : xW cv K X M d pc lv st s res := by
  intro a u e
  obtain ⟨k1, k2, k3⟩ := k a u e
  have k1 : s.1 + 1 ≤ u.1 := k1
  have k2 : s.2.2 + fs.length ≤ u.2.2 := k2
  refine ⟨by omega, by omega, fun kc ks uc us h1 h2 => am_new O hN hd (by omega) (by omega) (k3 kc ks _ _ ?_ ?_)⟩
  · show u.1 + (uc + 1) ≤ kc + (s.1 + 1); omega
  · show u.2.2 + (us + _) ≤ ks + (s.2.2 + _); omega
theorem cpA_spec {a0 a1 : Nat} {sp dp n : Int32} {t : HS} (h : cpA s a0 sp a1 dp n = some t) : ∃ (ty : FieldType) (n0 n1 : Nat) (f g : Nat → Value), s.2.1 a0 = .inl (ty, n0, f) ∧ s.2.1 a1 = .inl (ty, n1, g) ∧ ty ∈ am_tys ∧ refKind ty = false ∧ 128 ≤ a0 ∧ a0 < s.1 ∧ 128 ≤ a1 ∧ a1 < s.1 ∧ ¬ sp < 0 ∧ ¬ dp < 0 ∧ ¬ n < 0 ∧ sp.toNatClampNeg + n.toNatClampNeg ≤ n0 ∧ dp.toNatClampNeg + n.toNatClampNeg ≤ n1 ∧ (∀ i : Nat, i < n.toNatClampNeg → fits ty (f (sp.toNatClampNeg + i)) = true ∧ ∀ r, f (sp.toNatClampNeg + i) ≠ .ref r) ∧ t = (s.1, va_up s.2.1 a1 (.inl (ty, n1, va_cpy f g sp.toNatClampNeg dp.toNatClampNeg n.toNatClampNeg)), s.2.2) := by
  unfold cpA at h
  split at h
  · next o q ho hq =>
    split at h
    · next c =>
      obtain ⟨c1, c2, c3, c4, c5, c6, c7, c8, c9, c10, c11, c12, c13⟩ := c
      cases h
      refine ⟨o.1, o.2.1, q.2.1, o.2.2, q.2.2, ho, by rw [hq, c1], c2, c3, c4, c5, c6, c7, c8, c9, c10, c11, c12, fun i hi => ?_, by rw [c1]⟩
      have c14 := List.all_eq_true.mp c13 i (List.mem_range.mpr hi)
      rw [Bool.and_eq_true] at c14
      refine ⟨c14.1, fun r e => ?_⟩
      rw [e] at c14
      cases c14.2
    · cases h
  · cases h
theorem xM_enter (hy : plainName M.1.cls = true) (hn : (lg_sl As).length ≤ M.2.2.1) (k : xW cv K X M d 0 (lv_args 0 As) [] s res) : xM cv K X M d As s res := by
  intro a t e
  obtain ⟨k1, k2, k3⟩ := k a t e
  exact ⟨k1, k2, am_enter hy hn (k3 _ _ 0 0 (by omega) (by omega))⟩
theorem xM_none : xM cv K X M d As s none := fun a t e => by cases e
theorem gd_spec {r ci : Nat} {b : Option β} {y : β} (h : gd s r ci b = some y) : isO s r ci = true ∧ b = some y := by
  unfold gd at h
  split at h
  · next c => exact ⟨c, h⟩
  · cases h
theorem xW_gd {r ci : Nat} {b : Option (α × HS)} (k : isO s r ci = true → xW cv K X M d pc lv st s b) : xW cv K X M d pc lv st s (gd s r ci b) := xW_by k (fun _ => xW_none)
theorem xW_callS (O : am_ok K X) {ix n : Nat} {r1 : Option (β × HS)} {c : β → HS → Option (α × HS)} (hM : xM cv1 K X M2 d As s r1) (hs : stk = As.reverse ++ st) (L : am_L M.1.cls ix n M2) (L2 : Cond.static M2.1 ∈ am_tbl) (hlen : As.length = n) (hst : (st.map fun v => v.category).sum ≤ 8) (hd : decode M.2.1 pc = .ok (.invokestatic ix, 3)) (kk : ∀ a t, r1 = some (a, t) → xW cv K X M (d + 1) (pc + 3) lv ((cv1 a).toList ++ st) t (c a t)) : xW cv K X M (d + 1) pc lv stk s (bnd r1 c) :=
  xW_bind fun y hx => by
    obtain ⟨m1, m2, m3⟩ := hM y.1 y.2 hx
    intro a u e
    obtain ⟨k1, k2, k3⟩ := kk y.1 y.2 hx a u e
    refine ⟨by omega, by omega, fun kc ks uc us h1 h2 => am_callS O m3 hs L L2 hlen hst hd (by omega) (by omega) (by omega) (fun v h' hp => ?_)⟩
    obtain ⟨rfl, rfl⟩ := hp
    exact k3 kc ks _ _ (by omega) (by omega)
theorem xW_callV (O : am_ok K X) {ix n r ci : Nat} {q : vw_C} {r1 : Option (β × HS)} {c : β → HS → Option (α × HS)} (hM : xM cv1 K X M2 d (.ref r :: As) s r1) (hO : ∀ y, r1 = some y → isO s r ci = true) (hs : stk = As.reverse ++ .ref r :: st) (hq : am_cl[ci]? = some q) (hy : M2.1.cls = q.1) (L : am_L M.1.cls ix n M2) (L2 : Cond.instanceMethod M2.1 ∈ am_tbl ∧ Cond.selects M2.1.cls M2.1 M2.1 ∈ am_tbl) (hlen : As.length = n) (hst : (st.map fun v => v.category).sum ≤ 8) (hd : decode M.2.1 pc = .ok (.invokevirtual ix, 3)) (kk : ∀ a t, r1 = some (a, t) → xW cv K X M (d + 1) (pc + 3) lv ((cv1 a).toList ++ st) t (c a t)) : xW cv K X M (d + 1) pc lv stk s (bnd r1 c) :=
  xW_bind fun y hx => by
    obtain ⟨m1, m2, m3⟩ := hM y.1 y.2 hx
    obtain ⟨fs, o1, o2, o3⟩ := isO_spec (hO y hx)
    intro a u e
    obtain ⟨k1, k2, k3⟩ := kk y.1 y.2 hx a u e
    refine ⟨by omega, by omega, fun kc ks uc us h1 h2 => am_callV O m3 hs o1 o2 o3 hq hy L L2 hlen hst hd (by omega) (by omega) (by omega) (fun v h' hp => ?_)⟩
    obtain ⟨rfl, rfl⟩ := hp
    exact k3 kc ks _ _ (by omega) (by omega)
theorem xW_callI (O : am_ok K X) {ix n r : Nat} {r1 : Option (β × HS)} {c : β → HS → Option (α × HS)} (hM : xM cv1 K X M2 d (.ref r :: As) s r1) (hs : stk = As.reverse ++ .ref r :: st) (L : am_L M.1.cls ix n M2) (L2 : Cond.instanceMethod M2.1 ∈ am_tbl) (hi : M2.1.name = "<init>") (hret : M2.2.2.2 = none) (hlen : As.length = n) (hst : (st.map fun v => v.category).sum ≤ 8) (hd : decode M.2.1 pc = .ok (.invokespecial ix, 3)) (kk : ∀ a t, r1 = some (a, t) → xW cv K X M (d + 1) (pc + 3) lv ((cv1 a).toList ++ st) t (c a t)) : xW cv K X M (d + 1) pc lv stk s (bnd r1 c) :=
  xW_bind fun y hx => by
    obtain ⟨m1, m2, m3⟩ := hM y.1 y.2 hx
    intro a u e
    obtain ⟨k1, k2, k3⟩ := kk y.1 y.2 hx a u e
    refine ⟨by omega, by omega, fun kc ks uc us h1 h2 => am_callI O m3 hs L L2 hi hret hlen hst hd (by omega) (by omega) (by omega) (fun v h' hp => ?_)⟩
    obtain ⟨rfl, rfl⟩ := hp
    exact k3 kc ks _ _ (by omega) (by omega)
theorem xW_loop {σ : Type} {lvf : σ → List (Nat × Value)} {hsf : σ → HS} {b : (σ → Option (α × HS)) → σ → Option (α × HS)} (hb : ∀ again : σ → Option (α × HS), (∀ x, xW cv K X M d pc (lvf x) st (hsf x) (again x)) → ∀ x, xW cv K X M d pc (lvf x) st (hsf x) (b again x)) : ∀ (k : Nat) (x : σ), xW cv K X M d pc (lvf x) st (hsf x) (loopK b k x)
  | 0, _ => xW_none
  | k + 1, x => hb (loopK b k) (fun y => xW_loop hb k y) x
theorem xW_copy (O : am_ok K X) {ix a0 a1 : Nat} {sp dp n : Int32} {c : HS → Option (α × HS)} (hw : Cond.methodLink M.1.cls ix arraycopyName ∈ am_tbl) (hnat : Cond.native arraycopyName ∈ am_tbl) (hstat : Cond.static arraycopyName ∈ am_tbl) (hini : Cond.initialized "java/lang/System" ∈ am_tbl) (hd : decode M.2.1 pc = .ok (.invokestatic ix, 3)) (hst : (st.map fun v => v.category).sum ≤ 8) (kk : ∀ t, cpA s a0 sp a1 dp n = some t → xW cv K X M (d + 1) (pc + 3) lv st t (c t)) : xW cv K X M (d + 1) pc lv (.int n :: .int dp :: .ref a1 :: .int sp :: .ref a0 :: st) s ((cpA s a0 sp a1 dp n).bind c) :=
  xW_bind fun t hx => by
    obtain ⟨ty, n0, n1, f, g, c0, c1, c2, c3, c4, c5, c6, c7, c8, c9, c10, c11, c12, c13, rfl⟩ := cpA_spec hx
    exact xW_to (kk _ hx) (fun _ _ _ _ _ => am_copy O hw hnat hstat hini hd c0 c4 c5 c1 c6 c7 c2 c8 c9 c10 rfl rfl rfl c11 c12 c3 c13 hst (by omega)) rfl rfl
end
