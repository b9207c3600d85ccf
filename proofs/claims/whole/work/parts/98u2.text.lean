section
theorem s_el_1 : ∀ k : Nat, k < 18 → Cond.eq (.elem (.field (.string "StowTongue$Lexer" 121) "java/lang/String" "value" "[B") (.int (Int32.ofNat k))) (.int ([123, 125, 40, 41, 91, 93, 44, 59, 58, 46, 61, 43, 45, 42, 47, 37, 60, 33].getD k 0)) ∈ p1_fl := by decide +kernel
theorem s_el_2 : ∀ k : Nat, k < 60 → Cond.eq (.elem (.field (.string "StowTongueModel" 1) "java/lang/String" "value" "[B") (.int (Int32.ofNat k))) (.int ([32, 102, 117, 110, 32, 108, 101, 116, 32, 105, 102, 32, 101, 108, 115, 101, 32, 119, 104, 105, 108, 101, 32, 114, 101, 116, 117, 114, 110, 32, 97, 98, 111, 114, 116, 32, 112, 114, 105, 110, 116, 32, 110, 105, 108, 32, 115, 105, 122, 101, 32, 112, 117, 115, 104, 32, 112, 111, 112, 32].getD k 0)) ∈ p1_fl := by decide +kernel
end
