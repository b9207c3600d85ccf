abbrev m_Mod_in : am_M := (⟨"StowTongueModel", "in", "(JJJ)Z"⟩, prog_13_method_1_code, 6, (some FieldType.boolean))
