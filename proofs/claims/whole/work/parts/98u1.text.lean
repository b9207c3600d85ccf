section
def p1_fl : List Cond := flatC (Jvm.Cond.and given_1 narrow_1)
theorem s_el_0 : ∀ k : Nat, k < 59 → Cond.eq (.elem (.field (.string "StowTongue$Lexer" 19) "java/lang/String" "value" "[B") (.int (Int32.ofNat k))) (.int ([102, 117, 110, 32, 108, 101, 116, 32, 105, 102, 32, 101, 108, 115, 101, 32, 119, 104, 105, 108, 101, 32, 114, 101, 116, 117, 114, 110, 32, 97, 98, 111, 114, 116, 32, 112, 114, 105, 110, 116, 32, 110, 105, 108, 32, 115, 105, 122, 101, 32, 112, 117, 115, 104, 32, 112, 111, 112, 32].getD k 0)) ∈ p1_fl := by decide +kernel
end
