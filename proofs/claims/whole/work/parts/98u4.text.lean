section
theorem s_el_22 : ∀ k : Nat, k < 1 → Cond.eq (.elem (.field (.string "StowTongueModel" 285) "java/lang/String" "value" "[B") (.int (Int32.ofNat k))) (.int ([42].getD k 0)) ∈ p1_fl := by decide +kernel
theorem s_el_23 : ∀ k : Nat, k < 1 → Cond.eq (.elem (.field (.string "StowTongueModel" 287) "java/lang/String" "value" "[B") (.int (Int32.ofNat k))) (.int ([47].getD k 0)) ∈ p1_fl := by decide +kernel
theorem s_el_24 : ∀ k : Nat, k < 1 → Cond.eq (.elem (.field (.string "StowTongueModel" 289) "java/lang/String" "value" "[B") (.int (Int32.ofNat k))) (.int ([37].getD k 0)) ∈ p1_fl := by decide +kernel
theorem s_el_25 : ∀ k : Nat, k < 2 → Cond.eq (.elem (.field (.string "StowTongueModel" 270) "java/lang/String" "value" "[B") (.int (Int32.ofNat k))) (.int ([61, 61].getD k 0)) ∈ p1_fl := by decide +kernel
theorem s_el_26 : ∀ k : Nat, k < 2 → Cond.eq (.elem (.field (.string "StowTongueModel" 272) "java/lang/String" "value" "[B") (.int (Int32.ofNat k))) (.int ([33, 61].getD k 0)) ∈ p1_fl := by decide +kernel
theorem s_el_27 : ∀ k : Nat, k < 1 → Cond.eq (.elem (.field (.string "StowTongueModel" 274) "java/lang/String" "value" "[B") (.int (Int32.ofNat k))) (.int ([60].getD k 0)) ∈ p1_fl := by decide +kernel
theorem s_el_28 : ∀ k : Nat, k < 2 → Cond.eq (.elem (.field (.string "StowTongueModel" 276) "java/lang/String" "value" "[B") (.int (Int32.ofNat k))) (.int ([60, 61].getD k 0)) ∈ p1_fl := by decide +kernel
theorem s_el_29 : ∀ k : Nat, k < 2 → Cond.eq (.elem (.field (.string "StowTongueModel" 263) "java/lang/String" "value" "[B") (.int (Int32.ofNat k))) (.int ([124, 124].getD k 0)) ∈ p1_fl := by decide +kernel
theorem s_el_30 : ∀ k : Nat, k < 2 → Cond.eq (.elem (.field (.string "StowTongueModel" 265) "java/lang/String" "value" "[B") (.int (Int32.ofNat k))) (.int ([38, 38].getD k 0)) ∈ p1_fl := by decide +kernel
theorem s_el_31 : ∀ k : Nat, k < 1 → Cond.eq (.elem (.field (.string "StowTongueModel" 220) "java/lang/String" "value" "[B") (.int (Int32.ofNat k))) (.int ([59].getD k 0)) ∈ p1_fl := by decide +kernel
theorem s_el_32 : ∀ k : Nat, k < 2 → Cond.eq (.elem (.field (.string "StowTongueModel" 222) "java/lang/String" "value" "[B") (.int (Int32.ofNat k))) (.int ([105, 102].getD k 0)) ∈ p1_fl := by decide +kernel
theorem s_el_33 : ∀ k : Nat, k < 4 → Cond.eq (.elem (.field (.string "StowTongueModel" 247) "java/lang/String" "value" "[B") (.int (Int32.ofNat k))) (.int ([101, 108, 115, 101].getD k 0)) ∈ p1_fl := by decide +kernel
theorem s_el_34 : ∀ k : Nat, k < 5 → Cond.eq (.elem (.field (.string "StowTongueModel" 227) "java/lang/String" "value" "[B") (.int (Int32.ofNat k))) (.int ([119, 104, 105, 108, 101].getD k 0)) ∈ p1_fl := by decide +kernel
theorem s_el_35 : ∀ k : Nat, k < 6 → Cond.eq (.elem (.field (.string "StowTongueModel" 232) "java/lang/String" "value" "[B") (.int (Int32.ofNat k))) (.int ([114, 101, 116, 117, 114, 110].getD k 0)) ∈ p1_fl := by decide +kernel
theorem s_el_36 : ∀ k : Nat, k < 5 → Cond.eq (.elem (.field (.string "StowTongueModel" 237) "java/lang/String" "value" "[B") (.int (Int32.ofNat k))) (.int ([97, 98, 111, 114, 116].getD k 0)) ∈ p1_fl := by decide +kernel
theorem s_el_37 : ∀ k : Nat, k < 5 → Cond.eq (.elem (.field (.string "StowTongueModel" 239) "java/lang/String" "value" "[B") (.int (Int32.ofNat k))) (.int ([112, 114, 105, 110, 116].getD k 0)) ∈ p1_fl := by decide +kernel
end
