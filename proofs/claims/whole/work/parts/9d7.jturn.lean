section
variable {E1 : CE} {cr cr' : Nat} {E2 E2' : RE} {w0 : W2} {w : Int32} {u q : Nat} {T : TKc} {t : TKr} {x : CA} {y : RA}
theorem JJ.turnR (J : JJ E1 cr E2 w0 u q T t x y) (h : EOR cr' E2') (hL : re_L E2' = re_L E2) (hg : re_g E2' = re_g E2) : JJ E1 cr' E2' w0 u q T t x y := by
  obtain ⟨⟨k1, k2, k3, k4⟩, k5⟩ := J
  exact ⟨⟨k1, h, hL.trans k3, hg.trans k4⟩, k5⟩
theorem EOR.td (h : EOR cr E2) : EOR cr (reTd E2 w) := h
end
