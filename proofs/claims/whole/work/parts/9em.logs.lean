/-! what a copy keeps; the log's places move -/
section
variable {S S' T : SC} {R R' Q : RS} {k : Nat} {x : Int32} {F : FTb} {pc : Nat → Nat} {f : Nat → am_C}
theorem cntK_eq {a b : Nat → Int32} : ∀ n, (∀ i, i < n → a i = b i) → cntK a n = cntK b n
  | 0, _ => rfl
  | n + 1, h => by rw [cntK, cntK, cntK_eq n (fun i hi => h i (by omega)), h n (by omega)]
theorem SR.cg (h : SR S R) (a1 : ∀ i, i < 2000 → S'.1 i = S.1 i ∧ S'.2.1 i = S.2.1 i ∧ rIt R' i = rIt R i) (a2 : ∀ i, i < 100 → S'.2.2.1 i = S.2.2.1 i ∧ R'.1 i = R.1 i ∧ R'.2.1 i = R.2.1 i) (a3 : ∀ i, i < 800 → R'.2.2.1 i = R.2.2.1 i) (a4 : ∀ i, i < S.2.2.2.2.2.2.1 → S'.2.2.2.1 i = S.2.2.2.1 i ∧ S'.2.2.2.2.1 i = S.2.2.2.2.1 i ∧ S'.2.2.2.2.2.1 i = S.2.2.2.2.2.1 i ∧ R'.2.2.2.1 i = R.2.2.2.1 i ∧ rVl R' i = rVl R i) (a5 : S'.2.2.2.2.2.2.1 = S.2.2.2.2.2.2.1 ∧ R'.2.2.2.2.2.2.2.2.1 = R.2.2.2.2.2.2.2.2.1 ∧ R'.2.2.2.2.2.2.2.2.2.1 = R.2.2.2.2.2.2.2.2.2.1) (a6 : S'.2.2.2.2.2.2.2.2 ≤ 10 ∧ R'.2.2.2.2.2.2.2.2.2.2.1 = nI S'.2.2.2.2.2.2.2.2) : SR S' R' := by
  obtain ⟨x1, x2, x3, x4, x5, x6, x7⟩ := h
  have K : KM R.1 R'.1 := fun o ho _ => (a2 o ho).2.1
  refine ⟨fun o ho => ?_, ?_, by rw [a5.1]; exact x3, by rw [a5.2.2, a5.1]; exact x4, fun i hi => ?_, a6.1, a6.2⟩
  · obtain ⟨b1, b2, b3⟩ := a2 o ho
    rcases x1 o ho with ⟨c1, c2⟩ | ⟨m, c1, c2, c3, c4, c5⟩ | ⟨m, c1, c2, c3, c4, c5⟩
    · exact Or.inl ⟨b1.trans c1, b2.trans c2⟩
    · refine Or.inr (Or.inl ⟨m, c1, b2.trans c2, b1.trans c3, b3.trans c4, fun j hj => ?_⟩)
      obtain ⟨d1, d2, d3⟩ := a1 (20 * o + j) (by omega)
      rw [d1, d2, d3]
      exact (c5 j hj).mono K
    · refine Or.inr (Or.inr ⟨m, c1, b2.trans c2, b1.trans c3, b3.trans c4, fun j hj => ?_⟩)
      obtain ⟨⟨w, w1, w2, w3, w4⟩, c7⟩ := c5 j hj
      obtain ⟨d1, d2, d3⟩ := a1 (20 * o + 2 * j) (by omega)
      obtain ⟨e1, e2, _⟩ := a1 (20 * o + 2 * j + 1) (by omega)
      obtain ⟨_, _, g3⟩ := a1 (20 * o + j) (by omega)
      refine ⟨⟨w, w1, d1.trans w2, d2.trans w3, (a3 _ (by omega)).trans w4⟩, ?_⟩
      rw [e1, e2, g3]
      exact c7.mono K
  · rw [a5.2.1, x2, cntK_eq 100 (fun i hi => (a2 i hi).2.1)]
  · rw [a5.1] at hi
    obtain ⟨w, w1, w2, w3, w4, w5⟩ := x5 i hi
    obtain ⟨b1, b2, b3, b4, b5⟩ := a4 i hi
    refine ⟨w, w1, b1.trans w2, b4.trans w3, ?_, ?_⟩
    · rw [b2, b3, b5]
      exact w4.mono K
    · rw [b5]
      exact w5
theorem mx_in {α : Type} {n j : Nat} {a b : Nat → α} (h : j < n) : mx n a b j = a j := if_pos h
theorem SR.ccS (h : SR T R) : SR (cpS S T) R := h.cg (fun i hi => ⟨mx_in hi, mx_in hi, rfl⟩) (fun i hi => ⟨mx_in hi, rfl, rfl⟩) (fun _ _ => rfl) (fun i hi => by
  have h12 := h.2.2.1
  exact ⟨mx_in (by omega), mx_in (by omega), mx_in (by omega), rfl, rfl⟩) ⟨rfl, rfl, rfl⟩ ⟨h.2.2.2.2.2.1, h.2.2.2.2.2.2⟩
theorem SR.ccR (h : SR S Q) (hk : k = S.2.2.2.2.2.2.1) : SR S (cpR R Q k) := h.cg (fun i hi => ⟨rfl, rfl, mx_in hi⟩) (fun i hi => ⟨rfl, mx_in hi, mx_in hi⟩) (fun i hi => mx_in hi) (fun i hi => by
  have h12 := h.2.2.1
  exact ⟨rfl, rfl, rfl, mx_in (by omega), mx_in (by omega)⟩) ⟨rfl, rfl, rfl⟩ ⟨h.2.2.2.2.2.1, h.2.2.2.2.2.2⟩
theorem SR.bs (h : SR S R) : SR S (bsR R x) := h
theorem RTb.cp (h : RTb f Q pc F) : RTb f (cpR R Q k) pc F := by
  have h10 := h.1.1
  exact ⟨⟨h.1.1, h.1.2.1, fun j hj => ⟨(mx_in (by omega)).trans (h.1.2.2 j hj).1, (h.1.2.2 j hj).2⟩⟩, fun j hj => ⟨(mx_in (by omega)).trans (h.2 j hj).1, (h.2 j hj).2⟩⟩
theorem RTb.bs (h : RTb f R pc F) : RTb f (bsR R x) pc F := h
theorem CDq.cp (h : CDq Q) : CDq (cpR R Q k) := fun i hi => by
  show mx 10 Q.2.2.2.2.2.2.2.1 R.2.2.2.2.2.2.2.1 i = .null ∨ ∃ p, p < 130 ∧ mx 10 Q.2.2.2.2.2.2.2.1 R.2.2.2.2.2.2.2.1 i = .ref (pC p)
  rw [mx_in hi]
  exact h i hi
theorem CDq.bs (h : CDq R) : CDq (bsR R x) := h
end
def rt10 {α : Type} (K : Nat) (a : Nat → α) : Nat → α := fun j => a ((j + K) % 10)
def upF {α : Type} (a : Nat → α) (p : Nat) (x : α) : Nat → α := fun j => if j = p then x else a j
def CL9 (s : HS) (G : LGS) (rs : Nat → Nat) (SS : Nat → SC) : Prop := HG s.2.1 G = s.2.1 ∧ 1311 ≤ s.1 ∧ G.1 ≤ 9 ∧ (∀ p, p < 10 → (G.2.2.1 p = .null ∧ SS p = S00) ∨ (G.2.2.1 p = .ref (rs p) ∧ ST s.2.1 (rs p) (SS p) ∧ 1311 ≤ rs p ∧ rs p + 7 < s.1)) ∧ (∀ p q, p < 10 → q < 10 → ¬ p = q → ¬ G.2.2.1 p = .null → ¬ G.2.2.1 q = .null → rs p + 7 < rs q ∨ rs q + 7 < rs p) ∧ (1 ≤ G.1 → ∀ p, p ≤ G.1 → ¬ G.2.2.1 p = .null)
def CK9 (s : HS) (L : Nat) (g : Nat → Int32) (I : ID) (N : N3) (hh tt Nm : Nat) (O : oS) (G : LGS) (rs : Nat → Nat) (SS : Nat → SC) (un : Nat → Nat → Nat) (FF : Nat → FTb) (v : V2) (fu : Int32) (X : SWs) (own : Nat → Nat) : Prop := (c128 s.2.1 L v fu ∧ L ≤ 1500 ∧ ∀ j, j < 1500 → isBt (g j)) ∧ (∃ ws, CY s g ws I N ∧ WSP ws) ∧ (OCc s.2.1 O ∧ oW O) ∧ MKc s hh tt Nm ∧ CL9 s G rs SS ∧ (∀ p, p ≤ G.1 → UPl s own (rs p) (SS p) (un p) (FF p)) ∧ (SWc s.2.1 X ∧ ∀ o, X.1 o = 0 ∨ X.1 o = 1) ∧ OWt own I hh tt G rs
section
variable {s s' : HS} {c K L hh tt Nm r w n us d k : Nat} {g : Nat → Int32} {I : ID} {N : N3} {O : oS} {G G' : LGS} {rs : Nat → Nat} {SS : Nat → SC} {un : Nat → Nat → Nat} {uq : Nat → Nat} {FF : Nat → FTb} {F : FTb} {S : SC} {v : V2} {fu sb x : Int32} {bys : Nat → Int32} {X Y : SWs} {own : Nat → Nat} {f f' : Nat → am_C}
theorem HG_HG : HG (HG f G) G' = HG f G' := by
  funext z
  by_cases c : z < 154 ∨ 156 < z
  · rw [HG_off c, HG_off c, HG_off c]
  · obtain rfl | rfl | rfl : z = 154 ∨ z = 155 ∨ z = 156 := by omega
    · rfl
    · rfl
    · rfl
theorem CKx.nine (h : CKx s L g I N hh tt Nm O G rs SS un FF v fu X own) : CK9 s L g I N hh tt Nm O G rs SS un FF v fu X own := by
  obtain ⟨a, b, c, d, e, f, g, h⟩ := h
  exact ⟨a, b, c, d, ⟨e.1, e.2.1, by have := e.2.2.1; omega, e.2.2.2⟩, f, g, h⟩
theorem CK9.ex (h : CK9 s L g I N hh tt Nm O G rs SS un FF v fu X own) (h8 : G.1 ≤ 8) : CKx s L g I N hh tt Nm O G rs SS un FF v fu X own := by
  obtain ⟨a, b, c, d, e, f, g, h⟩ := h
  exact ⟨a, b, c, d, ⟨e.1, e.2.1, h8, e.2.2.2⟩, f, g, h⟩
/-- the log's own three cells are changed -/
theorem CK9.hg {rs' : Nat → Nat} {SS' : Nat → SC} {un' : Nat → Nat → Nat} {FF' : Nat → FTb} (h : CK9 s L g I N hh tt Nm O G rs SS un FF v fu X own) (l9 : G'.1 ≤ 9) (l1 : ∀ p, p < 10 → ∃ q, q < 10 ∧ G'.2.2.1 p = G.2.2.1 q ∧ rs' p = rs q ∧ SS' p = SS q) (l2 : ∀ p q, p < 10 → q < 10 → ¬ p = q → ¬ G'.2.2.1 p = .null → ¬ G'.2.2.1 q = .null → rs' p + 7 < rs' q ∨ rs' q + 7 < rs' p) (l3 : 1 ≤ G'.1 → ∀ p, p ≤ G'.1 → ¬ G'.2.2.1 p = .null) (l4 : ∀ p, p ≤ G'.1 → UPl s own (rs' p) (SS' p) (un' p) (FF' p)) : CK9 (s.1, HG s.2.1 G', s.2.2) L g I N hh tt Nm O G' rs' SS' un' FF' v fu X own := by
  obtain ⟨⟨a1, a2, a3⟩, ⟨ws, b1, b2⟩, ⟨c1, c2⟩, d1, e1, f1, ⟨g1, g2⟩, o1, o2, o3, o4⟩ := h
  have hN : 1311 ≤ s.1 := e1.2.1
  have hi : ∀ z, z < 154 ∨ 156 < z → HG s.2.1 G' z = s.2.1 z := fun z hz => HG_off hz
  have hp : ∀ z, PI I z → z < 154 ∨ 156 < z := fun z hz => by
    have o := o2 z hz
    by_cases c : z < 1311
    · rw [o1 z c] at o
      unfold fxT at o
      by_cases c1 : z ≤ 153
      · exact Or.inl (by omega)
      · by_cases c2 : z ≤ 156
        · rw [if_neg (by omega), if_neg (by omega), if_neg (by omega), if_neg (by omega), if_neg (by omega), if_neg c1, if_pos c2] at o
          exact absurd o (by decide)
        · exact Or.inr (by omega)
    · exact Or.inr (by omega)
  have hh1 := d1.2.2.2.2.2.2
  refine ⟨⟨(hi 128 (by decide)).trans a1, a2, a3⟩, ⟨ws, b1.keep (s' := (s.1, HG s.2.1 G', s.2.2)) (Nat.le_refl _) (fun z hz => ?_), b2⟩, ⟨c1.keep (hi 130 (by decide)) (hi 131 (by decide)), c2⟩, d1.keep (s' := (s.1, HG s.2.1 G', s.2.2)) (Nat.le_refl _) (fun z hz => hi z ?_), ⟨HG_HG, hN, l9, fun p hp => ?_, l2, l3⟩, fun p hp => (l4 p hp).keep (s' := (s.1, HG s.2.1 G', s.2.2)) (Nat.le_refl _) (fun z z1 z2 _ => hi z (Or.inr (by omega))) (fun _ _ => rfl), ⟨g1.keep (fun z z1 z2 => hi z (by omega)), g2⟩, o1, o2, o3, fun p hp hq z z1 z2 => ?_⟩
  · rcases hz with hz | hz | hz
    · exact hi z (hp z hz)
    · exact hi z (by omega)
    · exact hi z (by omega)
  · rcases hz with hz | hz | hz | hz | hz | hz
    · omega
    · omega
    · omega
    · omega
    · have := hh1.1
      omega
    · have := hh1.2.1
      omega
  · obtain ⟨q, q1, q2, q3, q4⟩ := l1 p hp
    rw [q2, q3, q4]
    rcases e1.2.2.2.1 q q1 with e | ⟨x1, x2, x3, x4⟩
    · exact Or.inl e
    · exact Or.inr ⟨x1, x2.keep (fun z z1 z2 => hi z (Or.inr (by omega))), x3, x4⟩
  · obtain ⟨q, q1, q2, q3, q4⟩ := l1 p hp
    rw [q3] at z1 z2 ⊢
    rw [q2] at hq
    exact o4 q q1 hq z z1 z2
theorem CK9.se (h : CK9 s L g I N hh tt Nm O G rs SS un FF v fu X own) (hK : K ≤ G.1) (h8 : G.1 - K ≤ 8) : CKx (s.1, HG s.2.1 (seG K G), s.2.2) L g I N hh tt Nm O (seG K G) (rt10 K rs) (rt10 K SS) (rt10 K un) (rt10 K FF) v fu X own := by
  have e1 := h.2.2.2.2.1
  have h9 := e1.2.2.1
  have st : ∀ p, p < 10 → (seG K G).2.2.1 p = G.2.2.1 ((p + K) % 10) := fun p hp => seG_st K G p (by omega) hp
  have w1 : (seG K G).1 = G.1 - K := seG_w K G
  refine (h.hg (rs' := rt10 K rs) (SS' := rt10 K SS) (un' := rt10 K un) (FF' := rt10 K FF) (by omega) (fun p hp => ⟨(p + K) % 10, by omega, st p hp, rfl, rfl⟩) (fun p q hp hq hne np nq => ?_) (fun h1 p hp => ?_) (fun p hp => ?_)).ex (by omega)
  · rw [st p hp] at np
    rw [st q hq] at nq
    exact e1.2.2.2.2.1 _ _ (by omega) (by omega) (by omega) np nq
  · rw [w1] at h1 hp
    rw [st p (by omega), show (p + K) % 10 = p + K by omega]
    exact e1.2.2.2.2.2 (by omega) _ (by omega)
  · rw [w1] at hp
    show UPl s own (rs ((p + K) % 10)) (SS ((p + K) % 10)) (un ((p + K) % 10)) (FF ((p + K) % 10))
    rw [show (p + K) % 10 = p + K by omega]
    exact h.2.2.2.2.2.1 (p + K) (by omega)
theorem CKx.app {F' : FTb} (h : CKx s L g I N hh tt Nm O G rs SS un FF v fu X own) (n0 : ¬ G.2.2.1 G.1 = .null) (n1 : ¬ G.2.2.1 (G.1 + 1) = .null) (U : UPl s own (rs (G.1 + 1)) (SS (G.1 + 1)) uq F') : CK9 (s.1, HG s.2.1 (G.1 + 1, G.2.1, G.2.2.1, upI G.2.2.2 (G.1 + 1) x), s.2.2) L g I N hh tt Nm O (G.1 + 1, G.2.1, G.2.2.1, upI G.2.2.2 (G.1 + 1) x) rs SS (upF un (G.1 + 1) uq) (upF FF (G.1 + 1) F') v fu X own := by
  have e1 := h.2.2.2.2.1
  have h8 := e1.2.2.1
  refine h.nine.hg (show G.1 + 1 ≤ 9 by omega) (fun p hp => ⟨p, hp, rfl, rfl, rfl⟩) e1.2.2.2.2.1 (fun _ p hp => ?_) (fun p hp => ?_)
  · show ¬ G.2.2.1 p = .null
    have hp : p ≤ G.1 + 1 := hp
    by_cases c : p = G.1 + 1
    · rw [c]
      exact n1
    · by_cases c' : p = G.1
      · rw [c']
        exact n0
      · exact e1.2.2.2.2.2 (by omega) p (by omega)
  · have hp : p ≤ G.1 + 1 := hp
    unfold upF
    by_cases c : p = G.1 + 1
    · rw [if_pos c, if_pos c, c]
      exact U
    · rw [if_neg c, if_neg c]
      exact h.2.2.2.2.2.1 p (by omega)
/-- a Store that is nobody's yet is changed -/
theorem CKx.st {p0 : Nat} {S' : SC} (h : CKx s L g I N hh tt Nm O G rs SS un FF v fu X own) (hp : G.1 < p0) (h10 : p0 < 10) (hn0 : ¬ G.2.2.1 p0 = .null) : CKx (s.1, HT s.2.1 (rs p0) S', s.2.2) L g I N hh tt Nm O G rs (upSS SS p0 S') un FF v fu X own := by
  have hpi := fun z (hz : PI I z) => (h.pi hz).2.2.2.2.2
  obtain ⟨⟨a1, a2, a3⟩, ⟨ws, b1, b2⟩, ⟨c1, c2⟩, d1, e1, f1, ⟨g1, g2⟩, o1, o2, o3, o4⟩ := h
  have hN : 1311 ≤ s.1 := e1.2.1
  obtain ⟨k1, k2, k3, k4⟩ : G.2.2.1 p0 = .ref (rs p0) ∧ ST s.2.1 (rs p0) (SS p0) ∧ 1311 ≤ rs p0 ∧ rs p0 + 7 < s.1 := by
    rcases e1.2.2.2.1 p0 h10 with ⟨w, _⟩ | q
    · exact absurd w hn0
    · exact q
  have of : ∀ z, z < rs p0 ∨ rs p0 + 7 < z → HT s.2.1 (rs p0) S' z = s.2.1 z := fun z hz => HT_off hz
  have fr : ∀ z, own z < 1311 → HT s.2.1 (rs p0) S' z = s.2.1 z := fun z hz => of z (by
    by_cases q : z < rs p0
    · exact Or.inl q
    · by_cases q' : rs p0 + 7 < z
      · exact Or.inr q'
      · have := o4 p0 h10 hn0 z (by omega) (by omega)
        omega)
  have lo : ∀ z, z < 1311 → HT s.2.1 (rs p0) S' z = s.2.1 z := fun z hz => of z (Or.inl (by omega))
  refine ⟨⟨(lo 128 (by decide)).trans a1, a2, a3⟩, ⟨ws, b1.keep (s' := (s.1, HT s.2.1 (rs p0) S', s.2.2)) (Nat.le_refl _) (fun z hz => ?_), b2⟩, ⟨c1.keep (lo 130 (by decide)) (lo 131 (by decide)), c2⟩, d1.keep (s' := (s.1, HT s.2.1 (rs p0) S', s.2.2)) (Nat.le_refl _) (fun z hz => ?_), ⟨?_, hN, e1.2.2.1, fun p hp => ?_, e1.2.2.2.2⟩, fun p hp => ?_, ⟨g1.keep (fun z z1 z2 => lo z (by omega)), g2⟩, o1, o2, o3, o4⟩
  · rcases hz with hz | hz | hz
    · exact fr z (by rw [o2 z hz]; decide)
    · exact lo z (by omega)
    · exact lo z (by omega)
  · rcases hz with hz | hz | hz | hz | hz | hz
    · exact lo z (by omega)
    · exact lo z (by omega)
    · exact lo z (by omega)
    · exact lo z (by omega)
    · rw [hz]
      exact fr hh (by rw [o3.1]; decide)
    · rw [hz]
      exact fr tt (by rw [o3.2]; decide)
  · funext z
    have e := congrFun e1.1 z
    by_cases c : z < 154 ∨ 156 < z
    · exact HG_off c
    · show HG (HT s.2.1 (rs p0) S') G z = HT s.2.1 (rs p0) S' z
      rw [lo z (by omega), ← e]
      obtain rfl | rfl | rfl : z = 154 ∨ z = 155 ∨ z = 156 := by omega
      · rfl
      · rfl
      · rfl
  · unfold upSS
    by_cases c : p = p0
    · rw [if_pos c, c]
      exact Or.inr ⟨k1, ST.mk, k3, k4⟩
    · rw [if_neg c]
      rcases e1.2.2.2.1 p hp with q | ⟨q1, q2, q3, q4⟩
      · exact Or.inl q
      · refine Or.inr ⟨q1, q2.keep (fun z z1 z2 => of z ?_), q3, q4⟩
        have := e1.2.2.2.2.1 p p0 hp h10 c (by rw [q1]; exact rf_nn) hn0
        omega
  · have e : upSS SS p0 S' p = SS p := if_neg (by omega)
    rw [e]
    exact (f1 p hp).keep (s' := (s.1, HT s.2.1 (rs p0) S', s.2.2)) (Nat.le_refl _) (fun z z1 z2 z3 => fr z (by omega)) (fun _ _ => rfl)
/-- the sweeper's own three cells are changed -/
theorem CKx.sw (h : CKx s L g I N hh tt Nm O G rs SS un FF v fu X own) (hY : ∀ o, Y.1 o = 0 ∨ Y.1 o = 1) : CKx (s.1, HWp s.2.1 Y, s.2.2) L g I N hh tt Nm O G rs SS un FF v fu Y own := by
  have hpi := fun z (hz : PI I z) => (h.pi hz).2.2.2.2.2
  obtain ⟨⟨a1, a2, a3⟩, ⟨ws, b1, b2⟩, ⟨c1, c2⟩, d1, e1, f1, ⟨g1, g2⟩, o1⟩ := h
  have hi : ∀ z, z < 157 ∨ 159 < z → HWp s.2.1 Y z = s.2.1 z := fun z hz => by
    unfold HWp
    rw [if_neg (by omega), if_neg (by omega), if_neg (by omega)]
  have hh1 := d1.2.2.2.2.2.2
  refine ⟨⟨(hi 128 (by decide)).trans a1, a2, a3⟩, ⟨ws, b1.keep (s' := (s.1, HWp s.2.1 Y, s.2.2)) (Nat.le_refl _) (fun z hz => hi z ?_), b2⟩, ⟨c1.keep (hi 130 (by decide)) (hi 131 (by decide)), c2⟩, d1.keep (s' := (s.1, HWp s.2.1 Y, s.2.2)) (Nat.le_refl _) (fun z hz => hi z ?_), e1.keep (s' := (s.1, HWp s.2.1 Y, s.2.2)) (Nat.le_refl _) (fun z z1 z2 => hi z (by omega)) (fun p hp hq z z1 z2 => hi z ?_), fun p hp => (f1 p hp).keep (s' := (s.1, HWp s.2.1 Y, s.2.2)) (Nat.le_refl _) (fun z z1 z2 _ => hi z (by omega)) (fun _ _ => rfl), ⟨SWc.mk _ _, hY⟩, o1⟩
  · rcases hz with hz | hz | hz
    · have := hpi z hz
      omega
    · omega
    · omega
  · rcases hz with hz | hz | hz | hz | hz | hz
    · omega
    · omega
    · omega
    · omega
    · have := hh1.1
      omega
    · have := hh1.2.1
      omega
  · rcases e1.2.2.2.1 p hp with ⟨w, _⟩ | ⟨_, _, w1, w2⟩
    · exact absurd w hq
    · omega
end
