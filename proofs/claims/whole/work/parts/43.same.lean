/-! a field under the name of a class below its own -/
def am_FS (own : String) (ix ci k : Nat) : Prop := ∃ (q : vw_C) (ref : String), am_cl[ci]? = some q ∧ am_Cl q ∧ k < q.2.2 ∧ Cond.fieldLink own ix ref (q.2.1 k).2.1 (q.2.1 k).2.2.1 ∈ am_tbl ∧ Cond.sameField ref (q.2.1 k).1 (q.2.1 k).2.1 (q.2.1 k).2.2.1 ∈ am_tbl
section AMS
variable {K : am_K} {X : Nat → am_C} {M : am_M} {d kc ks uc us pc : Nat} {lv : List (Nat × Value)} {st : List Value} {hn : Nat} {hf : Nat → am_C} {post : Option Value → am_H → Prop}
theorem am_getS (O : am_ok K X) {ix ci k r : Nat} {fs : List Value} {v : Value} (hF : am_FS M.1.cls ix ci k) (hd : decode M.2.1 pc = .ok (.getfield ix, 3)) (hc : hf r = .inr (ci, fs)) (hr : 128 ≤ r) (hr2 : r < hn) (hv : fs[k]? = some v) (kk : am_W K X M d kc ks uc us (pc + 3) lv (v :: st) (hn, hf) post) : am_W K X M d kc ks uc us pc lv (.ref r :: st) (hn, hf) post := by
  intro p l e R s m args below meth c H locs cells slots ls z hH hL hl h1 h2
  obtain ⟨q, ref, e1, e2, hk, e4, e5⟩ := hF
  have hat : am_at K (am_ad K r) (hf r) H := hH.2.2.2.2 r hr hr2
  rw [hc] at hat
  obtain ⟨q', f1, cell, g1, g2, g3, g4⟩ := hat
  have hq : q' = q := Option.some.inj (f1.symm.trans e1)
  subst hq
  obtain ⟨hS, hfc, kC, hkC, hkind⟩ := (am_kc O z).1 ci _ e1
  obtain ⟨cf, kf, fi, f, hi, hsl⟩ := hS k hk
  have hst := (u_facts hfc hkC (u_lays z.2.2.2.2.1 e2.1 hk) hi).1
  have hslot : cell.slots[f.slot]? = some (am_tr K v) := by
    rw [hsl, g4 k hk]
    simp [vp_V, hv]
  exact W.getf z.1 z.2.1 z.2.2.2.1 (z.2.2.2.2.1 _ e4) (u_same (z.2.2.2.2.1 _ e5) _ hi) hst g1 (by rw [g3]; exact fun h => by cases h) hslot rfl rfl hd (kk p l e R s m args below meth c H locs cells slots ls z hH hL hl h1 h2)
theorem am_putS (O : am_ok K X) {ix ci k r : Nat} {fs : List Value} {v : Value} (hF : am_FS M.1.cls ix ci k) (hd : decode M.2.1 pc = .ok (.putfield ix, 3)) (hc : hf r = .inr (ci, fs)) (hr : 128 ≤ r) (hr2 : r < hn) (hlen : k < fs.length)
    (ht : ∀ q : vw_C, am_cl[ci]? = some q → (q.2.1 k).2.2.2 = false ∧ narrow ((parseFieldDescriptor (q.2.1 k).2.2.1).getD .int) v = v ∧ fits ((parseFieldDescriptor (q.2.1 k).2.2.1).getD .int) v = true)
    (kk : am_W K X M d kc ks uc us (pc + 3) lv st (hn, va_up hf r (.inr (ci, fs.set k v))) post) : am_W K X M d kc ks uc us pc lv (v :: .ref r :: st) (hn, hf) post := by
  intro p l e R s m args below meth c H locs cells slots ls z hH hL hl h1 h2
  obtain ⟨q, ref, e1, e2, hk, e4, e5⟩ := hF
  have hat : am_at K (am_ad K r) (hf r) H := hH.2.2.2.2 r hr hr2
  rw [hc] at hat
  obtain ⟨q', f1, cell, g1, g2, g3, g4⟩ := hat
  have hq : q' = q := Option.some.inj (f1.symm.trans e1)
  subst hq
  have hK := am_kc O z
  obtain ⟨hS, hfc, kC, hkC, hkind⟩ := hK.1 ci _ e1
  have hap := va_apart (own := M.1.cls) (C := q'.1) (T := q'.2.1) (N := q'.2.2) z.2.2.2.2.1 e2.1 _ e2.2.2 e2.2.1 hK e1
  obtain ⟨cf, kf, fi, f, hi, hsl⟩ := hS k hk
  have hst := (u_facts hfc hkC (u_lays z.2.2.2.2.1 e2.1 hk) hi).1
  have hslt : f.slot < cell.slots.size := by rw [hsl]; exact k2_hasslot (g4 k hk)
  obtain ⟨t1, t2, t3⟩ := ht _ e1
  have tn := am_narrow (K := K) t2
  have tf := am_fits (K := K) t3
  have fin : ∀ H' : Heap, H'[am_ad K r]? = some (cell.setSlot f.slot (am_tr K v)) → H'.size = H.size → (∀ q, q ≠ am_ad K r → H'[q]? = H[q]?) → W p l e R s m args below meth c H' (locs ++ [⟨am_ad K r, f.slot⟩]) cells slots (MQ below (am_Q K X post) args s R.cells R.slots (fun q => K.1.heap.size ≤ q)) (F0 m (pc + 3) ls (st.map (am_tr K))) := by
    intro H' w1 w2 w3
    refine kk p l e R s m args below meth c H' _ cells slots ls z (hH.set hr hr2 w2 w3 ⟨q', e1, ?_⟩) (am_locs2 hL hr) hl h1 h2
    rw [hsl] at w1
    have hlen' : k < (fs.map (am_tr K)).length := by rw [List.length_map]; exact hlen
    have := t_OB.to (V := updV (vp_V (fs.map (am_tr K))) k (am_tr K v)) (V' := vp_V ((fs.map (am_tr K)).set k (am_tr K v))) (N := q'.2.2) ⟨_, w1, g2, g3, t_set g4 hap hk (am_tr K v)⟩ (fun j _ => vp_updV_set hlen' (am_tr K v) j)
    show t_OB _ _ _ _ _ (vp_V ((fs.set k v).map (am_tr K)))
    rw [List.map_set]
    exact this
  have hlay := z.2.2.2.2.1 _ (e2.1 _ (u_in_lay hk))
  unfold u_lay at hlay
  rw [if_neg (by rw [t1]; decide)] at hlay
  have h6 := u_store hfc hkC hkind hlay hi (e2.2.2 k hk) tn tf
  exact W.putK z.1 z.2.1 (f := f) ⟨z.2.2.2.1, z.2.2.2.2.1 _ e4, ⟨_, _, _, u_same (z.2.2.2.2.1 _ e5) _ hi⟩, hst⟩ (by rw [g2]; exact h6) g1 g3 hslt rfl rfl hd fin
end AMS
