section
theorem s_el_3 : ∀ k : Nat, k < 3 → Cond.eq (.elem (.field (.string "StowTongueModel" 152) "java/lang/String" "value" "[B") (.int (Int32.ofNat k))) (.int ([102, 117, 110].getD k 0)) ∈ p1_fl := by decide +kernel
theorem s_el_4 : ∀ k : Nat, k < 1 → Cond.eq (.elem (.field (.string "StowTongueModel" 177) "java/lang/String" "value" "[B") (.int (Int32.ofNat k))) (.int ([40].getD k 0)) ∈ p1_fl := by decide +kernel
theorem s_el_5 : ∀ k : Nat, k < 1 → Cond.eq (.elem (.field (.string "StowTongueModel" 182) "java/lang/String" "value" "[B") (.int (Int32.ofNat k))) (.int ([41].getD k 0)) ∈ p1_fl := by decide +kernel
theorem s_el_6 : ∀ k : Nat, k < 1 → Cond.eq (.elem (.field (.string "StowTongueModel" 184) "java/lang/String" "value" "[B") (.int (Int32.ofNat k))) (.int ([44].getD k 0)) ∈ p1_fl := by decide +kernel
theorem s_el_7 : ∀ k : Nat, k < 1 → Cond.eq (.elem (.field (.string "StowTongueModel" 210) "java/lang/String" "value" "[B") (.int (Int32.ofNat k))) (.int ([123].getD k 0)) ∈ p1_fl := by decide +kernel
theorem s_el_8 : ∀ k : Nat, k < 1 → Cond.eq (.elem (.field (.string "StowTongueModel" 212) "java/lang/String" "value" "[B") (.int (Int32.ofNat k))) (.int ([125].getD k 0)) ∈ p1_fl := by decide +kernel
theorem s_el_9 : ∀ k : Nat, k < 3 → Cond.eq (.elem (.field (.string "StowTongueModel" 217) "java/lang/String" "value" "[B") (.int (Int32.ofNat k))) (.int ([108, 101, 116].getD k 0)) ∈ p1_fl := by decide +kernel
theorem s_el_10 : ∀ k : Nat, k < 1 → Cond.eq (.elem (.field (.string "StowTongueModel" 218) "java/lang/String" "value" "[B") (.int (Int32.ofNat k))) (.int ([61].getD k 0)) ∈ p1_fl := by decide +kernel
theorem s_el_11 : ∀ k : Nat, k < 1 → Cond.eq (.elem (.field (.string "StowTongueModel" 283) "java/lang/String" "value" "[B") (.int (Int32.ofNat k))) (.int ([45].getD k 0)) ∈ p1_fl := by decide +kernel
theorem s_el_12 : ∀ k : Nat, k < 1 → Cond.eq (.elem (.field (.string "StowTongueModel" 291) "java/lang/String" "value" "[B") (.int (Int32.ofNat k))) (.int ([33].getD k 0)) ∈ p1_fl := by decide +kernel
theorem s_el_13 : ∀ k : Nat, k < 3 → Cond.eq (.elem (.field (.string "StowTongueModel" 311) "java/lang/String" "value" "[B") (.int (Int32.ofNat k))) (.int ([110, 105, 108].getD k 0)) ∈ p1_fl := by decide +kernel
theorem s_el_14 : ∀ k : Nat, k < 4 → Cond.eq (.elem (.field (.string "StowTongueModel" 316) "java/lang/String" "value" "[B") (.int (Int32.ofNat k))) (.int ([115, 105, 122, 101].getD k 0)) ∈ p1_fl := by decide +kernel
theorem s_el_15 : ∀ k : Nat, k < 4 → Cond.eq (.elem (.field (.string "StowTongueModel" 317) "java/lang/String" "value" "[B") (.int (Int32.ofNat k))) (.int ([112, 117, 115, 104].getD k 0)) ∈ p1_fl := by decide +kernel
theorem s_el_16 : ∀ k : Nat, k < 3 → Cond.eq (.elem (.field (.string "StowTongueModel" 319) "java/lang/String" "value" "[B") (.int (Int32.ofNat k))) (.int ([112, 111, 112].getD k 0)) ∈ p1_fl := by decide +kernel
theorem s_el_17 : ∀ k : Nat, k < 1 → Cond.eq (.elem (.field (.string "StowTongueModel" 301) "java/lang/String" "value" "[B") (.int (Int32.ofNat k))) (.int ([91].getD k 0)) ∈ p1_fl := by decide +kernel
theorem s_el_18 : ∀ k : Nat, k < 1 → Cond.eq (.elem (.field (.string "StowTongueModel" 333) "java/lang/String" "value" "[B") (.int (Int32.ofNat k))) (.int ([58].getD k 0)) ∈ p1_fl := by decide +kernel
theorem s_el_19 : ∀ k : Nat, k < 1 → Cond.eq (.elem (.field (.string "StowTongueModel" 306) "java/lang/String" "value" "[B") (.int (Int32.ofNat k))) (.int ([93].getD k 0)) ∈ p1_fl := by decide +kernel
theorem s_el_20 : ∀ k : Nat, k < 1 → Cond.eq (.elem (.field (.string "StowTongueModel" 299) "java/lang/String" "value" "[B") (.int (Int32.ofNat k))) (.int ([46].getD k 0)) ∈ p1_fl := by decide +kernel
theorem s_el_21 : ∀ k : Nat, k < 1 → Cond.eq (.elem (.field (.string "StowTongueModel" 281) "java/lang/String" "value" "[B") (.int (Int32.ofNat k))) (.int ([43].getD k 0)) ∈ p1_fl := by decide +kernel
end
