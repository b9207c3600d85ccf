theorem w_172 : (Cond.instantiable "StowTongue" 10 : Cond) ∈ am_tbl := am_w 172 (by decide +kernel) (by decide +kernel)
theorem w_1484 : (Cond.instantiable "StowTongueModel" 53 : Cond) ∈ am_tbl := am_w 1484 (by decide +kernel) (by decide +kernel)
