section
variable {K : am_K} {X : Nat → am_C} {M : am_M} {d kc ks uc us pc : Nat} {lv : List (Nat × Value)} {st : List Value} {h : am_H} {post : Option Value → am_H → Prop}
theorem am_ldcSw {ix r : Nat} {tx : String} (hE : vk_R M.1.cls ix tx (am_ad K r) K.1) (hd : decode M.2.1 pc = .ok (.ldc_w ix, 3)) (kk : am_W K X M d kc ks uc us (pc + 3) lv (.ref r :: st) h post) : am_W K X M d kc ks uc us pc lv st h post := by
  intro p l e R s m args below meth c H locs cells slots ls z hH hL hl h1 h2
  have hZ := vk_R.warm z.2.2.2.2.2.2.2.2.1 hE
  intro T hT X1
  obtain ⟨t, a1, b1⟩ := kk p l e R s m args below meth c H locs cells slots ls z hH hL hl h1 h2 T hT X1
  refine ⟨t, ?_, b1⟩
  obtain ⟨k, cf, i, a', hk, hcf, hcp, -, hr, hev'⟩ := Cond.stringRef_spec z.2.2.2.1 hZ.1
  cases hZ.2.symm.trans hev'
  obtain ⟨k', hk', he⟩ := X1.warmed.alike.2.2 _ _ hk
  have hr' : k'.resolved[ix]? = some (some (.string (am_ad K r))) := by
    rcases X1.warmed.entry hk hk' ix with h | ⟨h, -⟩
    · rw [h]; exact hr
    · rw [hr] at h; cases h
  have hdc : decode c.code pc = .ok (.ldc_w ix, 3) := by rw [z.2.1]; exact hd
  jvm_step X1.here [z.1, hdc, ldc_w.wp_string (e := e) (s := T) (f := F0 m pc ls (st.map (am_tr K))) X1.here.top hk' (by rw [he]; exact hcf) hcp hr']
  exact a1
end
