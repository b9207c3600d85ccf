abbrev m_Mod_one : am_M := (⟨"StowTongueModel", "one", "()I"⟩, prog_13_method_52_code, 5, (some FieldType.int))
theorem d_Mod_one_0 : decode prog_13_method_52_code 0 = .ok (.aload_n 0, 1) := by decide +kernel
theorem d_Mod_one_1 : decode prog_13_method_52_code 1 = .ok (.invokevirtual 516, 3) := by decide +kernel
theorem d_Mod_one_4 : decode prog_13_method_52_code 4 = .ok (.istore_n 1, 1) := by decide +kernel
theorem d_Mod_one_5 : decode prog_13_method_52_code 5 = .ok (.aload_n 0, 1) := by decide +kernel
theorem d_Mod_one_6 : decode prog_13_method_52_code 6 = .ok (.getfield 492, 3) := by decide +kernel
theorem d_Mod_one_9 : decode prog_13_method_52_code 9 = .ok (.iconst 1, 1) := by decide +kernel
theorem d_Mod_one_10 : decode prog_13_method_52_code 10 = .ok (.isub, 1) := by decide +kernel
theorem d_Mod_one_11 : decode prog_13_method_52_code 11 = .ok (.istore_n 2, 1) := by decide +kernel
theorem d_Mod_one_12 : decode prog_13_method_52_code 12 = .ok (.iload_n 1, 1) := by decide +kernel
theorem d_Mod_one_13 : decode prog_13_method_52_code 13 = .ok (.tableswitch 511 0 28 #[131, 179, 217, 255, 324, 511, 511, 511, 511, 511, 511, 511, 511, 511, 337, 357, 390, 511, 511, 511, 511, 511, 478, 445, 473, 458, 495, 461, 500], 131) := by decide +kernel
theorem d_Mod_one_144 : decode prog_13_method_52_code 144 = .ok (.aload_n 0, 1) := by decide +kernel
theorem d_Mod_one_145 : decode prog_13_method_52_code 145 = .ok (.invokevirtual 516, 3) := by decide +kernel
theorem d_Mod_one_148 : decode prog_13_method_52_code 148 = .ok (.istore_n 3, 1) := by decide +kernel
theorem d_Mod_one_149 : decode prog_13_method_52_code 149 = .ok (.aload_n 0, 1) := by decide +kernel
theorem d_Mod_one_150 : decode prog_13_method_52_code 150 = .ok (.getfield 368, 3) := by decide +kernel
theorem d_Mod_one_153 : decode prog_13_method_52_code 153 = .ok (.aload_n 0, 1) := by decide +kernel
theorem d_Mod_one_154 : decode prog_13_method_52_code 154 = .ok (.getfield 486, 3) := by decide +kernel
theorem d_Mod_one_157 : decode prog_13_method_52_code 157 = .ok (.aload_n 0, 1) := by decide +kernel
theorem d_Mod_one_158 : decode prog_13_method_52_code 158 = .ok (.getfield 380, 3) := by decide +kernel
theorem d_Mod_one_161 : decode prog_13_method_52_code 161 = .ok (.iload_n 2, 1) := by decide +kernel
theorem d_Mod_one_162 : decode prog_13_method_52_code 162 = .ok (.aaload, 1) := by decide +kernel
theorem d_Mod_one_163 : decode prog_13_method_52_code 163 = .ok (.getfield 107, 3) := by decide +kernel
theorem d_Mod_one_166 : decode prog_13_method_52_code 166 = .ok (.iload_n 3, 1) := by decide +kernel
theorem d_Mod_one_167 : decode prog_13_method_52_code 167 = .ok (.aload_n 0, 1) := by decide +kernel
theorem d_Mod_one_168 : decode prog_13_method_52_code 168 = .ok (.getfield 380, 3) := by decide +kernel
theorem d_Mod_one_171 : decode prog_13_method_52_code 171 = .ok (.iload_n 2, 1) := by decide +kernel
theorem d_Mod_one_172 : decode prog_13_method_52_code 172 = .ok (.aaload, 1) := by decide +kernel
theorem d_Mod_one_173 : decode prog_13_method_52_code 173 = .ok (.getfield 510, 3) := by decide +kernel
theorem d_Mod_one_176 : decode prog_13_method_52_code 176 = .ok (.isub, 1) := by decide +kernel
theorem d_Mod_one_177 : decode prog_13_method_52_code 177 = .ok (.invokevirtual 505, 3) := by decide +kernel
theorem d_Mod_one_180 : decode prog_13_method_52_code 180 = .ok (.aload_n 0, 1) := by decide +kernel
theorem d_Mod_one_181 : decode prog_13_method_52_code 181 = .ok (.dup, 1) := by decide +kernel
theorem d_Mod_one_182 : decode prog_13_method_52_code 182 = .ok (.getfield 486, 3) := by decide +kernel
theorem d_Mod_one_185 : decode prog_13_method_52_code 185 = .ok (.iconst 1, 1) := by decide +kernel
theorem d_Mod_one_186 : decode prog_13_method_52_code 186 = .ok (.iadd, 1) := by decide +kernel
theorem d_Mod_one_187 : decode prog_13_method_52_code 187 = .ok (.putfield 486, 3) := by decide +kernel
theorem d_Mod_one_190 : decode prog_13_method_52_code 190 = .ok (.iconst (-1), 1) := by decide +kernel
theorem d_Mod_one_191 : decode prog_13_method_52_code 191 = .ok (.ireturn, 1) := by decide +kernel
theorem d_Mod_one_192 : decode prog_13_method_52_code 192 = .ok (.aload_n 0, 1) := by decide +kernel
theorem d_Mod_one_193 : decode prog_13_method_52_code 193 = .ok (.getfield 368, 3) := by decide +kernel
theorem d_Mod_one_196 : decode prog_13_method_52_code 196 = .ok (.aload_n 0, 1) := by decide +kernel
theorem d_Mod_one_197 : decode prog_13_method_52_code 197 = .ok (.getfield 486, 3) := by decide +kernel
theorem d_Mod_one_200 : decode prog_13_method_52_code 200 = .ok (.aload_n 0, 1) := by decide +kernel
theorem d_Mod_one_201 : decode prog_13_method_52_code 201 = .ok (.getfield 371, 3) := by decide +kernel
theorem d_Mod_one_204 : decode prog_13_method_52_code 204 = .ok (.aload_n 0, 1) := by decide +kernel
theorem d_Mod_one_205 : decode prog_13_method_52_code 205 = .ok (.getfield 386, 3) := by decide +kernel
theorem d_Mod_one_208 : decode prog_13_method_52_code 208 = .ok (.iload_n 2, 1) := by decide +kernel
theorem d_Mod_one_209 : decode prog_13_method_52_code 209 = .ok (.iaload, 1) := by decide +kernel
theorem d_Mod_one_210 : decode prog_13_method_52_code 210 = .ok (.aload_n 0, 1) := by decide +kernel
theorem d_Mod_one_211 : decode prog_13_method_52_code 211 = .ok (.invokevirtual 516, 3) := by decide +kernel
theorem d_Mod_one_214 : decode prog_13_method_52_code 214 = .ok (.iadd, 1) := by decide +kernel
theorem d_Mod_one_215 : decode prog_13_method_52_code 215 = .ok (.invokevirtual 505, 3) := by decide +kernel
theorem d_Mod_one_218 : decode prog_13_method_52_code 218 = .ok (.aload_n 0, 1) := by decide +kernel
theorem d_Mod_one_219 : decode prog_13_method_52_code 219 = .ok (.dup, 1) := by decide +kernel
theorem d_Mod_one_220 : decode prog_13_method_52_code 220 = .ok (.getfield 486, 3) := by decide +kernel
theorem d_Mod_one_223 : decode prog_13_method_52_code 223 = .ok (.iconst 1, 1) := by decide +kernel
theorem d_Mod_one_224 : decode prog_13_method_52_code 224 = .ok (.iadd, 1) := by decide +kernel
theorem d_Mod_one_225 : decode prog_13_method_52_code 225 = .ok (.putfield 486, 3) := by decide +kernel
theorem d_Mod_one_228 : decode prog_13_method_52_code 228 = .ok (.iconst (-1), 1) := by decide +kernel
theorem d_Mod_one_229 : decode prog_13_method_52_code 229 = .ok (.ireturn, 1) := by decide +kernel
theorem d_Mod_one_230 : decode prog_13_method_52_code 230 = .ok (.aload_n 0, 1) := by decide +kernel
theorem d_Mod_one_231 : decode prog_13_method_52_code 231 = .ok (.dup, 1) := by decide +kernel
theorem d_Mod_one_232 : decode prog_13_method_52_code 232 = .ok (.getfield 486, 3) := by decide +kernel
theorem d_Mod_one_235 : decode prog_13_method_52_code 235 = .ok (.iconst 1, 1) := by decide +kernel
theorem d_Mod_one_236 : decode prog_13_method_52_code 236 = .ok (.isub, 1) := by decide +kernel
theorem d_Mod_one_237 : decode prog_13_method_52_code 237 = .ok (.putfield 486, 3) := by decide +kernel
theorem d_Mod_one_240 : decode prog_13_method_52_code 240 = .ok (.aload_n 0, 1) := by decide +kernel
theorem d_Mod_one_241 : decode prog_13_method_52_code 241 = .ok (.getfield 371, 3) := by decide +kernel
theorem d_Mod_one_244 : decode prog_13_method_52_code 244 = .ok (.aload_n 0, 1) := by decide +kernel
theorem d_Mod_one_245 : decode prog_13_method_52_code 245 = .ok (.getfield 386, 3) := by decide +kernel
theorem d_Mod_one_248 : decode prog_13_method_52_code 248 = .ok (.iload_n 2, 1) := by decide +kernel
theorem d_Mod_one_249 : decode prog_13_method_52_code 249 = .ok (.iaload, 1) := by decide +kernel
theorem d_Mod_one_250 : decode prog_13_method_52_code 250 = .ok (.aload_n 0, 1) := by decide +kernel
theorem d_Mod_one_251 : decode prog_13_method_52_code 251 = .ok (.invokevirtual 516, 3) := by decide +kernel
theorem d_Mod_one_254 : decode prog_13_method_52_code 254 = .ok (.iadd, 1) := by decide +kernel
theorem d_Mod_one_255 : decode prog_13_method_52_code 255 = .ok (.aload_n 0, 1) := by decide +kernel
theorem d_Mod_one_256 : decode prog_13_method_52_code 256 = .ok (.getfield 368, 3) := by decide +kernel
theorem d_Mod_one_259 : decode prog_13_method_52_code 259 = .ok (.aload_n 0, 1) := by decide +kernel
theorem d_Mod_one_260 : decode prog_13_method_52_code 260 = .ok (.getfield 486, 3) := by decide +kernel
theorem d_Mod_one_263 : decode prog_13_method_52_code 263 = .ok (.invokevirtual 505, 3) := by decide +kernel
theorem d_Mod_one_266 : decode prog_13_method_52_code 266 = .ok (.iconst (-1), 1) := by decide +kernel
theorem d_Mod_one_267 : decode prog_13_method_52_code 267 = .ok (.ireturn, 1) := by decide +kernel
theorem d_Mod_one_268 : decode prog_13_method_52_code 268 = .ok (.aload_n 0, 1) := by decide +kernel
theorem d_Mod_one_269 : decode prog_13_method_52_code 269 = .ok (.getfield 353, 3) := by decide +kernel
theorem d_Mod_one_272 : decode prog_13_method_52_code 272 = .ok (.aload_n 0, 1) := by decide +kernel
theorem d_Mod_one_273 : decode prog_13_method_52_code 273 = .ok (.aload_n 0, 1) := by decide +kernel
theorem d_Mod_one_274 : decode prog_13_method_52_code 274 = .ok (.invokevirtual 516, 3) := by decide +kernel
theorem d_Mod_one_277 : decode prog_13_method_52_code 277 = .ok (.invokevirtual 518, 3) := by decide +kernel
theorem d_Mod_one_280 : decode prog_13_method_52_code 280 = .ok (.invokevirtual 469, 3) := by decide +kernel
theorem d_Mod_one_283 : decode prog_13_method_52_code 283 = .ok (.istore_n 3, 1) := by decide +kernel
theorem d_Mod_one_284 : decode prog_13_method_52_code 284 = .ok (.iload_n 3, 1) := by decide +kernel
theorem d_Mod_one_285 : decode prog_13_method_52_code 285 = .ok (.ifCond .ge 21, 3) := by decide +kernel
theorem d_Mod_one_306 : decode prog_13_method_52_code 306 = .ok (.aload_n 0, 1) := by decide +kernel
theorem d_Mod_one_307 : decode prog_13_method_52_code 307 = .ok (.getfield 368, 3) := by decide +kernel
theorem d_Mod_one_310 : decode prog_13_method_52_code 310 = .ok (.aload_n 0, 1) := by decide +kernel
theorem d_Mod_one_311 : decode prog_13_method_52_code 311 = .ok (.getfield 486, 3) := by decide +kernel
theorem d_Mod_one_314 : decode prog_13_method_52_code 314 = .ok (.aload_n 0, 1) := by decide +kernel
theorem d_Mod_one_315 : decode prog_13_method_52_code 315 = .ok (.getfield 353, 3) := by decide +kernel
theorem d_Mod_one_318 : decode prog_13_method_52_code 318 = .ok (.getfield 472, 3) := by decide +kernel
theorem d_Mod_one_321 : decode prog_13_method_52_code 321 = .ok (.iload_n 3, 1) := by decide +kernel
theorem d_Mod_one_322 : decode prog_13_method_52_code 322 = .ok (.invokevirtual 505, 3) := by decide +kernel
theorem d_Mod_one_325 : decode prog_13_method_52_code 325 = .ok (.aload_n 0, 1) := by decide +kernel
theorem d_Mod_one_326 : decode prog_13_method_52_code 326 = .ok (.dup, 1) := by decide +kernel
theorem d_Mod_one_327 : decode prog_13_method_52_code 327 = .ok (.getfield 486, 3) := by decide +kernel
theorem d_Mod_one_330 : decode prog_13_method_52_code 330 = .ok (.iconst 1, 1) := by decide +kernel
theorem d_Mod_one_331 : decode prog_13_method_52_code 331 = .ok (.iadd, 1) := by decide +kernel
theorem d_Mod_one_332 : decode prog_13_method_52_code 332 = .ok (.putfield 486, 3) := by decide +kernel
theorem d_Mod_one_335 : decode prog_13_method_52_code 335 = .ok (.iconst (-1), 1) := by decide +kernel
theorem d_Mod_one_336 : decode prog_13_method_52_code 336 = .ok (.ireturn, 1) := by decide +kernel
theorem d_Mod_one_288 : decode prog_13_method_52_code 288 = .ok (.aload_n 0, 1) := by decide +kernel
theorem d_Mod_one_289 : decode prog_13_method_52_code 289 = .ok (.getfield 368, 3) := by decide +kernel
theorem d_Mod_one_292 : decode prog_13_method_52_code 292 = .ok (.aload_n 0, 1) := by decide +kernel
theorem d_Mod_one_293 : decode prog_13_method_52_code 293 = .ok (.getfield 486, 3) := by decide +kernel
theorem d_Mod_one_296 : decode prog_13_method_52_code 296 = .ok (.iconst 0, 1) := by decide +kernel
theorem d_Mod_one_297 : decode prog_13_method_52_code 297 = .ok (.iconst 0, 1) := by decide +kernel
theorem d_Mod_one_298 : decode prog_13_method_52_code 298 = .ok (.lconst 0, 1) := by decide +kernel
theorem d_Mod_one_299 : decode prog_13_method_52_code 299 = .ok (.lconst 0, 1) := by decide +kernel
theorem d_Mod_one_300 : decode prog_13_method_52_code 300 = .ok (.invokevirtual 114, 3) := by decide +kernel
theorem d_Mod_one_303 : decode prog_13_method_52_code 303 = .ok (.goto 22, 3) := by decide +kernel
theorem d_Mod_one_337 : decode prog_13_method_52_code 337 = .ok (.aload_n 0, 1) := by decide +kernel
theorem d_Mod_one_338 : decode prog_13_method_52_code 338 = .ok (.aload_n 0, 1) := by decide +kernel
theorem d_Mod_one_339 : decode prog_13_method_52_code 339 = .ok (.aload_n 0, 1) := by decide +kernel
theorem d_Mod_one_340 : decode prog_13_method_52_code 340 = .ok (.invokevirtual 516, 3) := by decide +kernel
theorem d_Mod_one_343 : decode prog_13_method_52_code 343 = .ok (.invokevirtual 518, 3) := by decide +kernel
theorem d_Mod_one_346 : decode prog_13_method_52_code 346 = .ok (.invokevirtual 522, 3) := by decide +kernel
theorem w_2046 : (Cond.methodLink "StowTongueModel" 522 ⟨"StowTongueModel", "setRoot", "(J)I"⟩ : Cond) ∈ am_tbl := am_w 2046 (by decide +kernel) (by decide +kernel)
set_option maxRecDepth 100000 in
theorem w_2049 : (Cond.code ⟨"StowTongueModel", "setRoot", "(J)I"⟩ prog_13_method_55_code 4 (some FieldType.int) : Cond) ∈ am_tbl := am_w 2049 rfl rfl
theorem l_Mod_522 : am_L "StowTongueModel" 522 1 m_Mod_setRoot := ⟨Or.inl w_2046, w_160, w_2049, ⟨by decide, by decide⟩, by decide +kernel, by decide⟩
theorem w_2048 : (Cond.instanceMethod ⟨"StowTongueModel", "setRoot", "(J)I"⟩ : Cond) ∈ am_tbl := am_w 2048 (by decide +kernel) (by decide +kernel)
theorem w_122 : (Cond.selects "StowTongueModel" ⟨"StowTongueModel", "setRoot", "(J)I"⟩ ⟨"StowTongueModel", "setRoot", "(J)I"⟩ : Cond) ∈ am_tbl := am_w 122 (by decide +kernel) (by decide +kernel)
theorem d_Mod_one_349 : decode prog_13_method_52_code 349 = .ok (.ireturn, 1) := by decide +kernel
theorem d_Mod_one_524 : decode prog_13_method_52_code 524 = .ok (.iload_n 1, 1) := by decide +kernel
theorem d_Mod_one_525 : decode prog_13_method_52_code 525 = .ok (.bipush 8, 2) := by decide +kernel
theorem d_Mod_one_527 : decode prog_13_method_52_code 527 = .ok (.if_icmp .gt 11, 3) := by decide +kernel
theorem d_Mod_one_538 : decode prog_13_method_52_code 538 = .ok (.iload_n 1, 1) := by decide +kernel
theorem d_Mod_one_539 : decode prog_13_method_52_code 539 = .ok (.bipush 13, 2) := by decide +kernel
theorem d_Mod_one_541 : decode prog_13_method_52_code 541 = .ok (.if_icmp .gt 11, 3) := by decide +kernel
theorem d_Mod_one_552 : decode prog_13_method_52_code 552 = .ok (.aload_n 0, 1) := by decide +kernel
theorem d_Mod_one_553 : decode prog_13_method_52_code 553 = .ok (.iload_n 1, 1) := by decide +kernel
theorem d_Mod_one_554 : decode prog_13_method_52_code 554 = .ok (.invokevirtual 551, 3) := by decide +kernel
theorem w_2125 : (Cond.methodLink "StowTongueModel" 551 ⟨"StowTongueModel", "things", "(I)I"⟩ : Cond) ∈ am_tbl := am_w 2125 (by decide +kernel) (by decide +kernel)
set_option maxRecDepth 100000 in
theorem w_2128 : (Cond.code ⟨"StowTongueModel", "things", "(I)I"⟩ prog_13_method_60_code 6 (some FieldType.int) : Cond) ∈ am_tbl := am_w 2128 rfl rfl
theorem l_Mod_551 : am_L "StowTongueModel" 551 1 m_Mod_things := ⟨Or.inl w_2125, w_160, w_2128, ⟨by decide, by decide⟩, by decide +kernel, by decide⟩
theorem w_2127 : (Cond.instanceMethod ⟨"StowTongueModel", "things", "(I)I"⟩ : Cond) ∈ am_tbl := am_w 2127 (by decide +kernel) (by decide +kernel)
theorem w_138 : (Cond.selects "StowTongueModel" ⟨"StowTongueModel", "things", "(I)I"⟩ ⟨"StowTongueModel", "things", "(I)I"⟩ : Cond) ∈ am_tbl := am_w 138 (by decide +kernel) (by decide +kernel)
theorem d_Mod_one_557 : decode prog_13_method_52_code 557 = .ok (.ireturn, 1) := by decide +kernel
theorem d_Mod_one_544 : decode prog_13_method_52_code 544 = .ok (.aload_n 0, 1) := by decide +kernel
theorem d_Mod_one_545 : decode prog_13_method_52_code 545 = .ok (.iload_n 1, 1) := by decide +kernel
theorem d_Mod_one_546 : decode prog_13_method_52_code 546 = .ok (.invokevirtual 548, 3) := by decide +kernel
theorem w_2104 : (Cond.methodLink "StowTongueModel" 548 ⟨"StowTongueModel", "reckon", "(I)I"⟩ : Cond) ∈ am_tbl := am_w 2104 (by decide +kernel) (by decide +kernel)
set_option maxRecDepth 100000 in
theorem w_2107 : (Cond.code ⟨"StowTongueModel", "reckon", "(I)I"⟩ prog_13_method_62_code 10 (some FieldType.int) : Cond) ∈ am_tbl := am_w 2107 rfl rfl
theorem l_Mod_548 : am_L "StowTongueModel" 548 1 m_Mod_reckon := ⟨Or.inl w_2104, w_160, w_2107, ⟨by decide, by decide⟩, by decide +kernel, by decide⟩
theorem w_2106 : (Cond.instanceMethod ⟨"StowTongueModel", "reckon", "(I)I"⟩ : Cond) ∈ am_tbl := am_w 2106 (by decide +kernel) (by decide +kernel)
theorem w_134 : (Cond.selects "StowTongueModel" ⟨"StowTongueModel", "reckon", "(I)I"⟩ ⟨"StowTongueModel", "reckon", "(I)I"⟩ : Cond) ∈ am_tbl := am_w 134 (by decide +kernel) (by decide +kernel)
theorem d_Mod_one_549 : decode prog_13_method_52_code 549 = .ok (.goto 8, 3) := by decide +kernel
theorem d_Mod_one_530 : decode prog_13_method_52_code 530 = .ok (.aload_n 0, 1) := by decide +kernel
theorem d_Mod_one_531 : decode prog_13_method_52_code 531 = .ok (.iload_n 1, 1) := by decide +kernel
theorem d_Mod_one_532 : decode prog_13_method_52_code 532 = .ok (.invokevirtual 545, 3) := by decide +kernel
theorem w_2088 : (Cond.methodLink "StowTongueModel" 545 ⟨"StowTongueModel", "parts", "(I)I"⟩ : Cond) ∈ am_tbl := am_w 2088 (by decide +kernel) (by decide +kernel)
set_option maxRecDepth 100000 in
theorem w_2091 : (Cond.code ⟨"StowTongueModel", "parts", "(I)I"⟩ prog_13_method_58_code 6 (some FieldType.int) : Cond) ∈ am_tbl := am_w 2091 rfl rfl
theorem l_Mod_545 : am_L "StowTongueModel" 545 1 m_Mod_parts := ⟨Or.inl w_2088, w_160, w_2091, ⟨by decide, by decide⟩, by decide +kernel, by decide⟩
theorem w_2090 : (Cond.instanceMethod ⟨"StowTongueModel", "parts", "(I)I"⟩ : Cond) ∈ am_tbl := am_w 2090 (by decide +kernel) (by decide +kernel)
theorem w_131 : (Cond.selects "StowTongueModel" ⟨"StowTongueModel", "parts", "(I)I"⟩ ⟨"StowTongueModel", "parts", "(I)I"⟩ : Cond) ∈ am_tbl := am_w 131 (by decide +kernel) (by decide +kernel)
theorem d_Mod_one_535 : decode prog_13_method_52_code 535 = .ok (.goto 22, 3) := by decide +kernel
theorem d_Mod_one_350 : decode prog_13_method_52_code 350 = .ok (.aload_n 0, 1) := by decide +kernel
theorem d_Mod_one_351 : decode prog_13_method_52_code 351 = .ok (.aload_n 0, 1) := by decide +kernel
theorem d_Mod_one_352 : decode prog_13_method_52_code 352 = .ok (.getfield 380, 3) := by decide +kernel
theorem d_Mod_one_355 : decode prog_13_method_52_code 355 = .ok (.iload_n 2, 1) := by decide +kernel
theorem d_Mod_one_356 : decode prog_13_method_52_code 356 = .ok (.aaload, 1) := by decide +kernel
theorem d_Mod_one_357 : decode prog_13_method_52_code 357 = .ok (.getfield 95, 3) := by decide +kernel
theorem d_Mod_one_360 : decode prog_13_method_52_code 360 = .ok (.aload_n 0, 1) := by decide +kernel
theorem d_Mod_one_361 : decode prog_13_method_52_code 361 = .ok (.getfield 502, 3) := by decide +kernel
theorem d_Mod_one_364 : decode prog_13_method_52_code 364 = .ok (.iaload, 1) := by decide +kernel
theorem d_Mod_one_365 : decode prog_13_method_52_code 365 = .ok (.invokevirtual 525, 3) := by decide +kernel
theorem w_2050 : (Cond.methodLink "StowTongueModel" 525 ⟨"StowTongueModel", "go", "(I)V"⟩ : Cond) ∈ am_tbl := am_w 2050 (by decide +kernel) (by decide +kernel)
set_option maxRecDepth 100000 in
theorem w_2053 : (Cond.code ⟨"StowTongueModel", "go", "(I)V"⟩ prog_13_method_48_code 2 none : Cond) ∈ am_tbl := am_w 2053 rfl rfl
theorem l_Mod_525 : am_L "StowTongueModel" 525 1 m_Mod_go_I := ⟨Or.inl w_2050, w_160, w_2053, ⟨by decide, by decide⟩, by decide +kernel, by decide⟩
theorem w_2052 : (Cond.instanceMethod ⟨"StowTongueModel", "go", "(I)V"⟩ : Cond) ∈ am_tbl := am_w 2052 (by decide +kernel) (by decide +kernel)
theorem w_123 : (Cond.selects "StowTongueModel" ⟨"StowTongueModel", "go", "(I)V"⟩ ⟨"StowTongueModel", "go", "(I)V"⟩ : Cond) ∈ am_tbl := am_w 123 (by decide +kernel) (by decide +kernel)
theorem d_Mod_one_368 : decode prog_13_method_52_code 368 = .ok (.iconst (-1), 1) := by decide +kernel
theorem d_Mod_one_369 : decode prog_13_method_52_code 369 = .ok (.ireturn, 1) := by decide +kernel
theorem d_Mod_one_370 : decode prog_13_method_52_code 370 = .ok (.aload_n 0, 1) := by decide +kernel
theorem d_Mod_one_371 : decode prog_13_method_52_code 371 = .ok (.invokevirtual 516, 3) := by decide +kernel
theorem d_Mod_one_374 : decode prog_13_method_52_code 374 = .ok (.istore_n 3, 1) := by decide +kernel
theorem d_Mod_one_375 : decode prog_13_method_52_code 375 = .ok (.aload_n 0, 1) := by decide +kernel
theorem d_Mod_one_376 : decode prog_13_method_52_code 376 = .ok (.dup, 1) := by decide +kernel
theorem d_Mod_one_377 : decode prog_13_method_52_code 377 = .ok (.getfield 486, 3) := by decide +kernel
theorem d_Mod_one_380 : decode prog_13_method_52_code 380 = .ok (.iconst 1, 1) := by decide +kernel
theorem d_Mod_one_381 : decode prog_13_method_52_code 381 = .ok (.isub, 1) := by decide +kernel
theorem d_Mod_one_382 : decode prog_13_method_52_code 382 = .ok (.putfield 486, 3) := by decide +kernel
theorem d_Mod_one_385 : decode prog_13_method_52_code 385 = .ok (.aload_n 0, 1) := by decide +kernel
theorem d_Mod_one_386 : decode prog_13_method_52_code 386 = .ok (.aload_n 0, 1) := by decide +kernel
theorem d_Mod_one_387 : decode prog_13_method_52_code 387 = .ok (.getfield 486, 3) := by decide +kernel
theorem d_Mod_one_390 : decode prog_13_method_52_code 390 = .ok (.invokevirtual 527, 3) := by decide +kernel
theorem d_Mod_one_393 : decode prog_13_method_52_code 393 = .ok (.ifCond .ne 8, 3) := by decide +kernel
theorem d_Mod_one_396 : decode prog_13_method_52_code 396 = .ok (.aload_n 0, 1) := by decide +kernel
theorem d_Mod_one_397 : decode prog_13_method_52_code 397 = .ok (.iload_n 3, 1) := by decide +kernel
theorem d_Mod_one_398 : decode prog_13_method_52_code 398 = .ok (.invokevirtual 525, 3) := by decide +kernel
theorem d_Mod_one_401 : decode prog_13_method_52_code 401 = .ok (.iconst (-1), 1) := by decide +kernel
theorem d_Mod_one_402 : decode prog_13_method_52_code 402 = .ok (.ireturn, 1) := by decide +kernel
theorem d_Mod_one_403 : decode prog_13_method_52_code 403 = .ok (.aload_n 0, 1) := by decide +kernel
theorem d_Mod_one_404 : decode prog_13_method_52_code 404 = .ok (.invokevirtual 516, 3) := by decide +kernel
theorem d_Mod_one_407 : decode prog_13_method_52_code 407 = .ok (.iconst 1, 1) := by decide +kernel
theorem d_Mod_one_408 : decode prog_13_method_52_code 408 = .ok (.if_icmp .ne 7, 3) := by decide +kernel
theorem d_Mod_one_411 : decode prog_13_method_52_code 411 = .ok (.iconst 1, 1) := by decide +kernel
theorem d_Mod_one_412 : decode prog_13_method_52_code 412 = .ok (.goto 4, 3) := by decide +kernel
theorem d_Mod_one_416 : decode prog_13_method_52_code 416 = .ok (.istore 4, 2) := by decide +kernel
theorem d_Mod_one_418 : decode prog_13_method_52_code 418 = .ok (.aload_n 0, 1) := by decide +kernel
theorem d_Mod_one_419 : decode prog_13_method_52_code 419 = .ok (.invokevirtual 516, 3) := by decide +kernel
theorem d_Mod_one_422 : decode prog_13_method_52_code 422 = .ok (.istore_n 3, 1) := by decide +kernel
theorem d_Mod_one_423 : decode prog_13_method_52_code 423 = .ok (.aload_n 0, 1) := by decide +kernel
theorem d_Mod_one_424 : decode prog_13_method_52_code 424 = .ok (.aload_n 0, 1) := by decide +kernel
theorem d_Mod_one_425 : decode prog_13_method_52_code 425 = .ok (.getfield 486, 3) := by decide +kernel
theorem d_Mod_one_428 : decode prog_13_method_52_code 428 = .ok (.iconst 1, 1) := by decide +kernel
theorem d_Mod_one_429 : decode prog_13_method_52_code 429 = .ok (.isub, 1) := by decide +kernel
theorem d_Mod_one_430 : decode prog_13_method_52_code 430 = .ok (.invokevirtual 527, 3) := by decide +kernel
theorem d_Mod_one_433 : decode prog_13_method_52_code 433 = .ok (.iload 4, 2) := by decide +kernel
theorem d_Mod_one_435 : decode prog_13_method_52_code 435 = .ok (.if_icmp .eq 11, 3) := by decide +kernel
theorem d_Mod_one_446 : decode prog_13_method_52_code 446 = .ok (.aload_n 0, 1) := by decide +kernel
theorem d_Mod_one_447 : decode prog_13_method_52_code 447 = .ok (.dup, 1) := by decide +kernel
theorem d_Mod_one_448 : decode prog_13_method_52_code 448 = .ok (.getfield 486, 3) := by decide +kernel
theorem d_Mod_one_451 : decode prog_13_method_52_code 451 = .ok (.iconst 1, 1) := by decide +kernel
theorem d_Mod_one_452 : decode prog_13_method_52_code 452 = .ok (.isub, 1) := by decide +kernel
theorem d_Mod_one_453 : decode prog_13_method_52_code 453 = .ok (.putfield 486, 3) := by decide +kernel
theorem d_Mod_one_456 : decode prog_13_method_52_code 456 = .ok (.iconst (-1), 1) := by decide +kernel
theorem d_Mod_one_457 : decode prog_13_method_52_code 457 = .ok (.ireturn, 1) := by decide +kernel
theorem d_Mod_one_438 : decode prog_13_method_52_code 438 = .ok (.aload_n 0, 1) := by decide +kernel
theorem d_Mod_one_439 : decode prog_13_method_52_code 439 = .ok (.iload_n 3, 1) := by decide +kernel
theorem d_Mod_one_440 : decode prog_13_method_52_code 440 = .ok (.invokevirtual 525, 3) := by decide +kernel
theorem d_Mod_one_443 : decode prog_13_method_52_code 443 = .ok (.goto 13, 3) := by decide +kernel
theorem d_Mod_one_415 : decode prog_13_method_52_code 415 = .ok (.iconst 0, 1) := by decide +kernel
theorem d_Mod_one_491 : decode prog_13_method_52_code 491 = .ok (.aload_n 0, 1) := by decide +kernel
theorem d_Mod_one_492 : decode prog_13_method_52_code 492 = .ok (.aload_n 0, 1) := by decide +kernel
theorem d_Mod_one_493 : decode prog_13_method_52_code 493 = .ok (.aload_n 0, 1) := by decide +kernel
theorem d_Mod_one_494 : decode prog_13_method_52_code 494 = .ok (.invokevirtual 516, 3) := by decide +kernel
theorem d_Mod_one_497 : decode prog_13_method_52_code 497 = .ok (.invokevirtual 518, 3) := by decide +kernel
theorem d_Mod_one_500 : decode prog_13_method_52_code 500 = .ok (.aload_n 0, 1) := by decide +kernel
theorem d_Mod_one_501 : decode prog_13_method_52_code 501 = .ok (.invokevirtual 516, 3) := by decide +kernel
theorem d_Mod_one_504 : decode prog_13_method_52_code 504 = .ok (.invokevirtual 535, 3) := by decide +kernel
theorem w_2076 : (Cond.methodLink "StowTongueModel" 535 ⟨"StowTongueModel", "call", "(JI)I"⟩ : Cond) ∈ am_tbl := am_w 2076 (by decide +kernel) (by decide +kernel)
set_option maxRecDepth 100000 in
theorem w_2079 : (Cond.code ⟨"StowTongueModel", "call", "(JI)I"⟩ prog_13_method_54_code 5 (some FieldType.int) : Cond) ∈ am_tbl := am_w 2079 rfl rfl
theorem l_Mod_535 : am_L "StowTongueModel" 535 2 m_Mod_call := ⟨Or.inl w_2076, w_160, w_2079, ⟨by decide, by decide⟩, by decide +kernel, by decide⟩
theorem w_2078 : (Cond.instanceMethod ⟨"StowTongueModel", "call", "(JI)I"⟩ : Cond) ∈ am_tbl := am_w 2078 (by decide +kernel) (by decide +kernel)
theorem w_128 : (Cond.selects "StowTongueModel" ⟨"StowTongueModel", "call", "(JI)I"⟩ ⟨"StowTongueModel", "call", "(JI)I"⟩ : Cond) ∈ am_tbl := am_w 128 (by decide +kernel) (by decide +kernel)
theorem d_Mod_one_507 : decode prog_13_method_52_code 507 = .ok (.ireturn, 1) := by decide +kernel
theorem d_Mod_one_458 : decode prog_13_method_52_code 458 = .ok (.aload_n 0, 1) := by decide +kernel
theorem d_Mod_one_459 : decode prog_13_method_52_code 459 = .ok (.invokevirtual 530, 3) := by decide +kernel
theorem d_Mod_one_462 : decode prog_13_method_52_code 462 = .ok (.ifCond .eq 7, 3) := by decide +kernel
theorem d_Mod_one_469 : decode prog_13_method_52_code 469 = .ok (.iconst 1, 1) := by decide +kernel
theorem d_Mod_one_470 : decode prog_13_method_52_code 470 = .ok (.ireturn, 1) := by decide +kernel
theorem d_Mod_one_465 : decode prog_13_method_52_code 465 = .ok (.iconst (-1), 1) := by decide +kernel
theorem d_Mod_one_466 : decode prog_13_method_52_code 466 = .ok (.goto 4, 3) := by decide +kernel
theorem d_Mod_one_486 : decode prog_13_method_52_code 486 = .ok (.aload_n 0, 1) := by decide +kernel
theorem d_Mod_one_487 : decode prog_13_method_52_code 487 = .ok (.invokevirtual 533, 3) := by decide +kernel
theorem w_2062 : (Cond.methodLink "StowTongueModel" 533 ⟨"StowTongueModel", "print", "()I"⟩ : Cond) ∈ am_tbl := am_w 2062 (by decide +kernel) (by decide +kernel)
set_option maxRecDepth 100000 in
theorem w_2065 : (Cond.code ⟨"StowTongueModel", "print", "()I"⟩ prog_13_method_65_code 8 (some FieldType.int) : Cond) ∈ am_tbl := am_w 2065 rfl rfl
theorem l_Mod_533 : am_L "StowTongueModel" 533 0 m_Mod_print := ⟨Or.inl w_2062, w_160, w_2065, ⟨by decide, by decide⟩, by decide +kernel, by decide⟩
theorem w_2064 : (Cond.instanceMethod ⟨"StowTongueModel", "print", "()I"⟩ : Cond) ∈ am_tbl := am_w 2064 (by decide +kernel) (by decide +kernel)
theorem w_126 : (Cond.selects "StowTongueModel" ⟨"StowTongueModel", "print", "()I"⟩ ⟨"StowTongueModel", "print", "()I"⟩ : Cond) ∈ am_tbl := am_w 126 (by decide +kernel) (by decide +kernel)
theorem d_Mod_one_490 : decode prog_13_method_52_code 490 = .ok (.ireturn, 1) := by decide +kernel
theorem d_Mod_one_471 : decode prog_13_method_52_code 471 = .ok (.bipush 10, 2) := by decide +kernel
theorem d_Mod_one_473 : decode prog_13_method_52_code 473 = .ok (.ireturn, 1) := by decide +kernel
theorem d_Mod_one_508 : decode prog_13_method_52_code 508 = .ok (.aload_n 0, 1) := by decide +kernel
theorem d_Mod_one_509 : decode prog_13_method_52_code 509 = .ok (.invokevirtual 539, 3) := by decide +kernel
theorem w_2080 : (Cond.methodLink "StowTongueModel" 539 ⟨"StowTongueModel", "leave", "()I"⟩ : Cond) ∈ am_tbl := am_w 2080 (by decide +kernel) (by decide +kernel)
set_option maxRecDepth 100000 in
theorem w_2083 : (Cond.code ⟨"StowTongueModel", "leave", "()I"⟩ prog_13_method_53_code 1 (some FieldType.int) : Cond) ∈ am_tbl := am_w 2083 rfl rfl
theorem l_Mod_539 : am_L "StowTongueModel" 539 0 m_Mod_leave := ⟨Or.inl w_2080, w_160, w_2083, ⟨by decide, by decide⟩, by decide +kernel, by decide⟩
theorem w_2082 : (Cond.instanceMethod ⟨"StowTongueModel", "leave", "()I"⟩ : Cond) ∈ am_tbl := am_w 2082 (by decide +kernel) (by decide +kernel)
theorem w_129 : (Cond.selects "StowTongueModel" ⟨"StowTongueModel", "leave", "()I"⟩ ⟨"StowTongueModel", "leave", "()I"⟩ : Cond) ∈ am_tbl := am_w 129 (by decide +kernel) (by decide +kernel)
theorem d_Mod_one_512 : decode prog_13_method_52_code 512 = .ok (.ireturn, 1) := by decide +kernel
theorem d_Mod_one_474 : decode prog_13_method_52_code 474 = .ok (.aload_n 0, 1) := by decide +kernel
theorem d_Mod_one_475 : decode prog_13_method_52_code 475 = .ok (.dup, 1) := by decide +kernel
theorem d_Mod_one_476 : decode prog_13_method_52_code 476 = .ok (.getfield 486, 3) := by decide +kernel
theorem d_Mod_one_479 : decode prog_13_method_52_code 479 = .ok (.iconst 1, 1) := by decide +kernel
theorem d_Mod_one_480 : decode prog_13_method_52_code 480 = .ok (.isub, 1) := by decide +kernel
theorem d_Mod_one_481 : decode prog_13_method_52_code 481 = .ok (.putfield 486, 3) := by decide +kernel
theorem d_Mod_one_484 : decode prog_13_method_52_code 484 = .ok (.iconst (-1), 1) := by decide +kernel
theorem d_Mod_one_485 : decode prog_13_method_52_code 485 = .ok (.ireturn, 1) := by decide +kernel
theorem d_Mod_one_513 : decode prog_13_method_52_code 513 = .ok (.aload_n 0, 1) := by decide +kernel
theorem d_Mod_one_514 : decode prog_13_method_52_code 514 = .ok (.iconst 0, 1) := by decide +kernel
theorem d_Mod_one_515 : decode prog_13_method_52_code 515 = .ok (.lconst 0, 1) := by decide +kernel
theorem d_Mod_one_516 : decode prog_13_method_52_code 516 = .ok (.invokevirtual 542, 3) := by decide +kernel
theorem d_Mod_one_519 : decode prog_13_method_52_code 519 = .ok (.aload_n 0, 1) := by decide +kernel
theorem d_Mod_one_520 : decode prog_13_method_52_code 520 = .ok (.invokevirtual 539, 3) := by decide +kernel
theorem d_Mod_one_523 : decode prog_13_method_52_code 523 = .ok (.ireturn, 1) := by decide +kernel
abbrev m_Lexer_begin : am_M := (⟨"StowTongue$Lexer", "begin", "([BI)V"⟩, prog_4_method_2_code, 3, none)
theorem d_Lexer_begin_0 : decode prog_4_method_2_code 0 = .ok (.aload_n 0, 1) := by decide +kernel
theorem d_Lexer_begin_1 : decode prog_4_method_2_code 1 = .ok (.aload_n 1, 1) := by decide +kernel
theorem d_Lexer_begin_2 : decode prog_4_method_2_code 2 = .ok (.putfield 15, 3) := by decide +kernel
theorem d_Lexer_begin_5 : decode prog_4_method_2_code 5 = .ok (.aload_n 0, 1) := by decide +kernel
theorem d_Lexer_begin_6 : decode prog_4_method_2_code 6 = .ok (.iload_n 2, 1) := by decide +kernel
theorem d_Lexer_begin_7 : decode prog_4_method_2_code 7 = .ok (.aload_n 1, 1) := by decide +kernel
theorem d_Lexer_begin_8 : decode prog_4_method_2_code 8 = .ok (.arraylength, 1) := by decide +kernel
theorem d_Lexer_begin_9 : decode prog_4_method_2_code 9 = .ok (.invokestatic 37, 3) := by decide +kernel
theorem w_550 : (Cond.methodLink "StowTongue$Lexer" 37 ⟨"java/lang/Math", "min", "(II)I"⟩ : Cond) ∈ am_tbl := am_w 550 (by decide +kernel) (by decide +kernel)
theorem d_Lexer_begin_12 : decode prog_4_method_2_code 12 = .ok (.putfield 43, 3) := by decide +kernel
theorem d_Lexer_begin_15 : decode prog_4_method_2_code 15 = .ok (.aload_n 0, 1) := by decide +kernel
theorem d_Lexer_begin_16 : decode prog_4_method_2_code 16 = .ok (.iconst 0, 1) := by decide +kernel
theorem d_Lexer_begin_17 : decode prog_4_method_2_code 17 = .ok (.putfield 46, 3) := by decide +kernel
theorem d_Lexer_begin_20 : decode prog_4_method_2_code 20 = .ok (.aload_n 0, 1) := by decide +kernel
theorem d_Lexer_begin_21 : decode prog_4_method_2_code 21 = .ok (.iconst (-1), 1) := by decide +kernel
theorem d_Lexer_begin_22 : decode prog_4_method_2_code 22 = .ok (.putfield 49, 3) := by decide +kernel
theorem d_Lexer_begin_25 : decode prog_4_method_2_code 25 = .ok (.aload_n 0, 1) := by decide +kernel
theorem d_Lexer_begin_26 : decode prog_4_method_2_code 26 = .ok (.invokevirtual 52, 3) := by decide +kernel
theorem w_553 : (Cond.methodLink "StowTongue$Lexer" 52 ⟨"StowTongue$Lexer", "advance", "()V"⟩ : Cond) ∈ am_tbl := am_w 553 (by decide +kernel) (by decide +kernel)
theorem l_Lexer_52 : am_L "StowTongue$Lexer" 52 0 m_Lexer_advance := ⟨Or.inl w_553, w_146, w_556, ⟨by decide, by decide⟩, by decide +kernel, by decide⟩
theorem d_Lexer_begin_29 : decode prog_4_method_2_code 29 = .ok (.return_, 1) := by decide +kernel
abbrev m_Pars_names : am_M := (⟨"StowTongue$Parser", "names", "()I"⟩, prog_8_method_11_code, 2, (some FieldType.int))
theorem d_Pars_names_0 : decode prog_8_method_11_code 0 = .ok (.iconst 0, 1) := by decide +kernel
theorem d_Pars_names_1 : decode prog_8_method_11_code 1 = .ok (.istore_n 1, 1) := by decide +kernel
theorem d_Pars_names_2 : decode prog_8_method_11_code 2 = .ok (.aload_n 0, 1) := by decide +kernel
theorem d_Pars_names_3 : decode prog_8_method_11_code 3 = .ok (.bipush 40, 2) := by decide +kernel
theorem d_Pars_names_5 : decode prog_8_method_11_code 5 = .ok (.invokevirtual 106, 3) := by decide +kernel
theorem d_Pars_names_8 : decode prog_8_method_11_code 8 = .ok (.aload_n 0, 1) := by decide +kernel
theorem d_Pars_names_9 : decode prog_8_method_11_code 9 = .ok (.getfield 12, 3) := by decide +kernel
theorem d_Pars_names_12 : decode prog_8_method_11_code 12 = .ok (.invokevirtual 59, 3) := by decide +kernel
theorem d_Pars_names_15 : decode prog_8_method_11_code 15 = .ok (.bipush 41, 2) := by decide +kernel
theorem d_Pars_names_17 : decode prog_8_method_11_code 17 = .ok (.if_icmp .eq 44, 3) := by decide +kernel
theorem d_Pars_names_61 : decode prog_8_method_11_code 61 = .ok (.aload_n 0, 1) := by decide +kernel
theorem d_Pars_names_62 : decode prog_8_method_11_code 62 = .ok (.bipush 41, 2) := by decide +kernel
theorem d_Pars_names_64 : decode prog_8_method_11_code 64 = .ok (.invokevirtual 106, 3) := by decide +kernel
theorem d_Pars_names_67 : decode prog_8_method_11_code 67 = .ok (.iload_n 1, 1) := by decide +kernel
theorem d_Pars_names_68 : decode prog_8_method_11_code 68 = .ok (.ireturn, 1) := by decide +kernel
theorem d_Pars_names_20 : decode prog_8_method_11_code 20 = .ok (.aload_n 0, 1) := by decide +kernel
theorem d_Pars_names_21 : decode prog_8_method_11_code 21 = .ok (.iload_n 1, 1) := by decide +kernel
theorem d_Pars_names_22 : decode prog_8_method_11_code 22 = .ok (.invokevirtual 125, 3) := by decide +kernel
theorem w_709 : (Cond.methodLink "StowTongue$Parser" 125 ⟨"StowTongue$Parser", "newName", "(I)V"⟩ : Cond) ∈ am_tbl := am_w 709 (by decide +kernel) (by decide +kernel)
set_option maxRecDepth 100000 in
theorem w_712 : (Cond.code ⟨"StowTongue$Parser", "newName", "(I)V"⟩ prog_8_method_12_code 2 none : Cond) ∈ am_tbl := am_w 712 rfl rfl
theorem l_Pars_125 : am_L "StowTongue$Parser" 125 1 m_Pars_newName := ⟨Or.inl w_709, w_145, w_712, ⟨by decide, by decide⟩, by decide +kernel, by decide⟩
theorem w_711 : (Cond.instanceMethod ⟨"StowTongue$Parser", "newName", "(I)V"⟩ : Cond) ∈ am_tbl := am_w 711 (by decide +kernel) (by decide +kernel)
theorem w_13 : (Cond.selects "StowTongue$Parser" ⟨"StowTongue$Parser", "newName", "(I)V"⟩ ⟨"StowTongue$Parser", "newName", "(I)V"⟩ : Cond) ∈ am_tbl := am_w 13 (by decide +kernel) (by decide +kernel)
theorem d_Pars_names_25 : decode prog_8_method_11_code 25 = .ok (.iconst 1, 1) := by decide +kernel
theorem d_Pars_names_26 : decode prog_8_method_11_code 26 = .ok (.istore_n 1, 1) := by decide +kernel
theorem d_Pars_names_27 : decode prog_8_method_11_code 27 = .ok (.iload_n 1, 1) := by decide +kernel
theorem d_Pars_names_28 : decode prog_8_method_11_code 28 = .ok (.iconst 4, 1) := by decide +kernel
theorem d_Pars_names_29 : decode prog_8_method_11_code 29 = .ok (.if_icmp .gt 32, 3) := by decide +kernel
theorem d_Pars_names_32 : decode prog_8_method_11_code 32 = .ok (.aload_n 0, 1) := by decide +kernel
theorem d_Pars_names_33 : decode prog_8_method_11_code 33 = .ok (.getfield 12, 3) := by decide +kernel
theorem d_Pars_names_36 : decode prog_8_method_11_code 36 = .ok (.invokevirtual 59, 3) := by decide +kernel
theorem d_Pars_names_39 : decode prog_8_method_11_code 39 = .ok (.bipush 44, 2) := by decide +kernel
theorem d_Pars_names_41 : decode prog_8_method_11_code 41 = .ok (.if_icmp .ne 20, 3) := by decide +kernel
theorem d_Pars_names_44 : decode prog_8_method_11_code 44 = .ok (.aload_n 0, 1) := by decide +kernel
theorem d_Pars_names_45 : decode prog_8_method_11_code 45 = .ok (.bipush 44, 2) := by decide +kernel
theorem d_Pars_names_47 : decode prog_8_method_11_code 47 = .ok (.invokevirtual 106, 3) := by decide +kernel
theorem d_Pars_names_50 : decode prog_8_method_11_code 50 = .ok (.aload_n 0, 1) := by decide +kernel
theorem d_Pars_names_51 : decode prog_8_method_11_code 51 = .ok (.iload_n 1, 1) := by decide +kernel
theorem d_Pars_names_52 : decode prog_8_method_11_code 52 = .ok (.invokevirtual 125, 3) := by decide +kernel
theorem d_Pars_names_55 : decode prog_8_method_11_code 55 = .ok (.iinc 1 1, 3) := by decide +kernel
theorem d_Pars_names_58 : decode prog_8_method_11_code 58 = .ok (.goto (-31), 3) := by decide +kernel
abbrev m_Mach_print : am_M := (⟨"StowTongue$Machine", "print", "(I)V"⟩, prog_6_method_20_code, 2, none)
theorem d_Mach_print_0 : decode prog_6_method_20_code 0 = .ok (.aload_n 0, 1) := by decide +kernel
theorem d_Mach_print_1 : decode prog_6_method_20_code 1 = .ok (.iload_n 1, 1) := by decide +kernel
theorem d_Mach_print_2 : decode prog_6_method_20_code 2 = .ok (.invokevirtual 177, 3) := by decide +kernel
theorem d_Mach_print_5 : decode prog_6_method_20_code 5 = .ok (.tableswitch 93 1 4 #[31, 47, 69, 81], 31) := by decide +kernel
theorem d_Mach_print_36 : decode prog_6_method_20_code 36 = .ok (.aload_n 0, 1) := by decide +kernel
theorem d_Mach_print_37 : decode prog_6_method_20_code 37 = .ok (.getfield 33, 3) := by decide +kernel
theorem w_413 : (Cond.fieldLink "StowTongue$Machine" 33 "StowTongue$Machine" "out" "LStowTongue$Out;" : Cond) ∈ am_tbl := am_w 413 (by decide +kernel) (by decide +kernel)
theorem f_Mach_33 : am_F "StowTongue$Machine" 33 6 11 := ⟨_, rfl, cl_6, by decide, Or.inl w_413⟩
theorem d_Mach_print_40 : decode prog_6_method_20_code 40 = .ok (.aload_n 0, 1) := by decide +kernel
theorem d_Mach_print_41 : decode prog_6_method_20_code 41 = .ok (.getfield 13, 3) := by decide +kernel
theorem d_Mach_print_44 : decode prog_6_method_20_code 44 = .ok (.iload_n 1, 1) := by decide +kernel
theorem d_Mach_print_45 : decode prog_6_method_20_code 45 = .ok (.laload, 1) := by decide +kernel
theorem d_Mach_print_46 : decode prog_6_method_20_code 46 = .ok (.invokevirtual 180, 3) := by decide +kernel
theorem w_1143 : (Cond.methodLink "StowTongue$Machine" 180 ⟨"StowTongue$Out", "addNumber", "(J)V"⟩ : Cond) ∈ am_tbl := am_w 1143 (by decide +kernel) (by decide +kernel)
set_option maxRecDepth 100000 in
theorem w_1146 : (Cond.code ⟨"StowTongue$Out", "addNumber", "(J)V"⟩ prog_7_method_8_code 8 none : Cond) ∈ am_tbl := am_w 1146 rfl rfl
theorem l_Mach_180 : am_L "StowTongue$Machine" 180 1 m_Out_addNumber := ⟨Or.inl w_1143, w_144, w_1146, ⟨by decide, by decide⟩, by decide +kernel, by decide⟩
theorem w_1144 : (Cond.instanceMethod ⟨"StowTongue$Out", "addNumber", "(J)V"⟩ : Cond) ∈ am_tbl := am_w 1144 (by decide +kernel) (by decide +kernel)
theorem w_1145 : (Cond.selects "StowTongue$Out" ⟨"StowTongue$Out", "addNumber", "(J)V"⟩ ⟨"StowTongue$Out", "addNumber", "(J)V"⟩ : Cond) ∈ am_tbl := am_w 1145 (by decide +kernel) (by decide +kernel)
theorem d_Mach_print_49 : decode prog_6_method_20_code 49 = .ok (.goto 58, 3) := by decide +kernel
theorem d_Mach_print_107 : decode prog_6_method_20_code 107 = .ok (.aload_n 0, 1) := by decide +kernel
theorem d_Mach_print_108 : decode prog_6_method_20_code 108 = .ok (.getfield 33, 3) := by decide +kernel
theorem d_Mach_print_111 : decode prog_6_method_20_code 111 = .ok (.bipush 10, 2) := by decide +kernel
theorem d_Mach_print_113 : decode prog_6_method_20_code 113 = .ok (.invokevirtual 188, 3) := by decide +kernel
theorem w_1167 : (Cond.methodLink "StowTongue$Machine" 188 ⟨"StowTongue$Out", "add", "(I)V"⟩ : Cond) ∈ am_tbl := am_w 1167 (by decide +kernel) (by decide +kernel)
theorem l_Mach_188 : am_L "StowTongue$Machine" 188 1 m_Out_add := ⟨Or.inl w_1167, w_144, w_1150, ⟨by decide, by decide⟩, by decide +kernel, by decide⟩
theorem d_Mach_print_116 : decode prog_6_method_20_code 116 = .ok (.aload_n 0, 1) := by decide +kernel
theorem d_Mach_print_117 : decode prog_6_method_20_code 117 = .ok (.getfield 33, 3) := by decide +kernel
theorem d_Mach_print_120 : decode prog_6_method_20_code 120 = .ok (.invokevirtual 191, 3) := by decide +kernel
theorem w_1168 : (Cond.methodLink "StowTongue$Machine" 191 ⟨"StowTongue$Out", "spilled", "()Z"⟩ : Cond) ∈ am_tbl := am_w 1168 (by decide +kernel) (by decide +kernel)
set_option maxRecDepth 100000 in
theorem w_1171 : (Cond.code ⟨"StowTongue$Out", "spilled", "()Z"⟩ prog_7_method_4_code 1 (some FieldType.boolean) : Cond) ∈ am_tbl := am_w 1171 rfl rfl
theorem l_Mach_191 : am_L "StowTongue$Machine" 191 0 m_Out_spilled := ⟨Or.inl w_1168, w_144, w_1171, ⟨by decide, by decide⟩, by decide +kernel, by decide⟩
theorem w_1169 : (Cond.instanceMethod ⟨"StowTongue$Out", "spilled", "()Z"⟩ : Cond) ∈ am_tbl := am_w 1169 (by decide +kernel) (by decide +kernel)
theorem w_1170 : (Cond.selects "StowTongue$Out" ⟨"StowTongue$Out", "spilled", "()Z"⟩ ⟨"StowTongue$Out", "spilled", "()Z"⟩ : Cond) ∈ am_tbl := am_w 1170 (by decide +kernel) (by decide +kernel)
theorem d_Mach_print_123 : decode prog_6_method_20_code 123 = .ok (.ifCond .eq 9, 3) := by decide +kernel
theorem d_Mach_print_132 : decode prog_6_method_20_code 132 = .ok (.return_, 1) := by decide +kernel
theorem d_Mach_print_126 : decode prog_6_method_20_code 126 = .ok (.aload_n 0, 1) := by decide +kernel
theorem d_Mach_print_127 : decode prog_6_method_20_code 127 = .ok (.bipush 9, 2) := by decide +kernel
theorem d_Mach_print_129 : decode prog_6_method_20_code 129 = .ok (.invokevirtual 106, 3) := by decide +kernel
theorem d_Mach_print_52 : decode prog_6_method_20_code 52 = .ok (.aload_n 0, 1) := by decide +kernel
theorem d_Mach_print_53 : decode prog_6_method_20_code 53 = .ok (.getfield 33, 3) := by decide +kernel
theorem d_Mach_print_56 : decode prog_6_method_20_code 56 = .ok (.aload_n 0, 1) := by decide +kernel
theorem d_Mach_print_57 : decode prog_6_method_20_code 57 = .ok (.getfield 7, 3) := by decide +kernel
theorem d_Mach_print_60 : decode prog_6_method_20_code 60 = .ok (.iload_n 1, 1) := by decide +kernel
theorem d_Mach_print_61 : decode prog_6_method_20_code 61 = .ok (.laload, 1) := by decide +kernel
theorem d_Mach_print_62 : decode prog_6_method_20_code 62 = .ok (.aload_n 0, 1) := by decide +kernel
theorem d_Mach_print_63 : decode prog_6_method_20_code 63 = .ok (.getfield 13, 3) := by decide +kernel
theorem d_Mach_print_66 : decode prog_6_method_20_code 66 = .ok (.iload_n 1, 1) := by decide +kernel
theorem d_Mach_print_67 : decode prog_6_method_20_code 67 = .ok (.laload, 1) := by decide +kernel
theorem d_Mach_print_68 : decode prog_6_method_20_code 68 = .ok (.invokevirtual 185, 3) := by decide +kernel
theorem w_1156 : (Cond.methodLink "StowTongue$Machine" 185 ⟨"StowTongue$Out", "addText", "(JJ)V"⟩ : Cond) ∈ am_tbl := am_w 1156 (by decide +kernel) (by decide +kernel)
theorem l_Mach_185 : am_L "StowTongue$Machine" 185 2 m_Out_addText := ⟨Or.inl w_1156, w_144, w_1159, ⟨by decide, by decide⟩, by decide +kernel, by decide⟩
theorem d_Mach_print_71 : decode prog_6_method_20_code 71 = .ok (.goto 36, 3) := by decide +kernel
theorem d_Mach_print_74 : decode prog_6_method_20_code 74 = .ok (.aload_n 0, 1) := by decide +kernel
theorem d_Mach_print_75 : decode prog_6_method_20_code 75 = .ok (.getfield 33, 3) := by decide +kernel
theorem d_Mach_print_78 : decode prog_6_method_20_code 78 = .ok (.bipush 114, 2) := by decide +kernel
theorem d_Mach_print_80 : decode prog_6_method_20_code 80 = .ok (.invokevirtual 188, 3) := by decide +kernel
theorem d_Mach_print_83 : decode prog_6_method_20_code 83 = .ok (.goto 24, 3) := by decide +kernel
theorem d_Mach_print_86 : decode prog_6_method_20_code 86 = .ok (.aload_n 0, 1) := by decide +kernel
theorem d_Mach_print_87 : decode prog_6_method_20_code 87 = .ok (.getfield 33, 3) := by decide +kernel
theorem d_Mach_print_90 : decode prog_6_method_20_code 90 = .ok (.bipush 119, 2) := by decide +kernel
theorem d_Mach_print_92 : decode prog_6_method_20_code 92 = .ok (.invokevirtual 188, 3) := by decide +kernel
theorem d_Mach_print_95 : decode prog_6_method_20_code 95 = .ok (.goto 12, 3) := by decide +kernel
theorem d_Mach_print_98 : decode prog_6_method_20_code 98 = .ok (.aload_n 0, 1) := by decide +kernel
theorem d_Mach_print_99 : decode prog_6_method_20_code 99 = .ok (.getfield 33, 3) := by decide +kernel
theorem d_Mach_print_102 : decode prog_6_method_20_code 102 = .ok (.bipush 110, 2) := by decide +kernel
theorem d_Mach_print_104 : decode prog_6_method_20_code 104 = .ok (.invokevirtual 188, 3) := by decide +kernel
abbrev m_Mach_storeField : am_M := (⟨"StowTongue$Machine", "storeField", "(J)V"⟩, prog_6_method_26_code, 5, none)
theorem d_Mach_storeField_0 : decode prog_6_method_26_code 0 = .ok (.aload_n 0, 1) := by decide +kernel
theorem d_Mach_storeField_1 : decode prog_6_method_26_code 1 = .ok (.iconst 2, 1) := by decide +kernel
theorem d_Mach_storeField_2 : decode prog_6_method_26_code 2 = .ok (.invokevirtual 133, 3) := by decide +kernel
theorem d_Mach_storeField_5 : decode prog_6_method_26_code 5 = .ok (.istore_n 3, 1) := by decide +kernel
theorem d_Mach_storeField_6 : decode prog_6_method_26_code 6 = .ok (.aload_n 0, 1) := by decide +kernel
theorem d_Mach_storeField_7 : decode prog_6_method_26_code 7 = .ok (.iconst 1, 1) := by decide +kernel
theorem d_Mach_storeField_8 : decode prog_6_method_26_code 8 = .ok (.invokevirtual 133, 3) := by decide +kernel
theorem d_Mach_storeField_11 : decode prog_6_method_26_code 11 = .ok (.istore 4, 2) := by decide +kernel
theorem d_Mach_storeField_13 : decode prog_6_method_26_code 13 = .ok (.aload_n 0, 1) := by decide +kernel
theorem d_Mach_storeField_14 : decode prog_6_method_26_code 14 = .ok (.iload_n 3, 1) := by decide +kernel
theorem d_Mach_storeField_15 : decode prog_6_method_26_code 15 = .ok (.putfield 54, 3) := by decide +kernel
theorem d_Mach_storeField_18 : decode prog_6_method_26_code 18 = .ok (.aload_n 0, 1) := by decide +kernel
theorem d_Mach_storeField_19 : decode prog_6_method_26_code 19 = .ok (.iload_n 3, 1) := by decide +kernel
theorem d_Mach_storeField_20 : decode prog_6_method_26_code 20 = .ok (.invokevirtual 177, 3) := by decide +kernel
theorem d_Mach_storeField_23 : decode prog_6_method_26_code 23 = .ok (.iconst 3, 1) := by decide +kernel
theorem d_Mach_storeField_24 : decode prog_6_method_26_code 24 = .ok (.if_icmp .eq 11, 3) := by decide +kernel
theorem d_Mach_storeField_35 : decode prog_6_method_26_code 35 = .ok (.aload_n 0, 1) := by decide +kernel
theorem d_Mach_storeField_36 : decode prog_6_method_26_code 36 = .ok (.getfield 29, 3) := by decide +kernel
theorem d_Mach_storeField_39 : decode prog_6_method_26_code 39 = .ok (.aload_n 0, 1) := by decide +kernel
theorem d_Mach_storeField_40 : decode prog_6_method_26_code 40 = .ok (.iload_n 3, 1) := by decide +kernel
theorem d_Mach_storeField_41 : decode prog_6_method_26_code 41 = .ok (.invokevirtual 225, 3) := by decide +kernel
theorem d_Mach_storeField_44 : decode prog_6_method_26_code 44 = .ok (.lload_n 1, 1) := by decide +kernel
theorem d_Mach_storeField_45 : decode prog_6_method_26_code 45 = .ok (.aload_n 0, 1) := by decide +kernel
theorem d_Mach_storeField_46 : decode prog_6_method_26_code 46 = .ok (.getfield 7, 3) := by decide +kernel
theorem d_Mach_storeField_49 : decode prog_6_method_26_code 49 = .ok (.iload 4, 2) := by decide +kernel
theorem d_Mach_storeField_51 : decode prog_6_method_26_code 51 = .ok (.laload, 1) := by decide +kernel
theorem d_Mach_storeField_52 : decode prog_6_method_26_code 52 = .ok (.aload_n 0, 1) := by decide +kernel
theorem d_Mach_storeField_53 : decode prog_6_method_26_code 53 = .ok (.getfield 13, 3) := by decide +kernel
theorem d_Mach_storeField_56 : decode prog_6_method_26_code 56 = .ok (.iload 4, 2) := by decide +kernel
theorem d_Mach_storeField_58 : decode prog_6_method_26_code 58 = .ok (.laload, 1) := by decide +kernel
theorem d_Mach_storeField_59 : decode prog_6_method_26_code 59 = .ok (.invokevirtual 234, 3) := by decide +kernel
theorem d_Mach_storeField_62 : decode prog_6_method_26_code 62 = .ok (.ifCond .ne 8, 3) := by decide +kernel
theorem d_Mach_storeField_65 : decode prog_6_method_26_code 65 = .ok (.aload_n 0, 1) := by decide +kernel
theorem d_Mach_storeField_66 : decode prog_6_method_26_code 66 = .ok (.iconst 4, 1) := by decide +kernel
theorem d_Mach_storeField_67 : decode prog_6_method_26_code 67 = .ok (.invokevirtual 106, 3) := by decide +kernel
theorem d_Mach_storeField_70 : decode prog_6_method_26_code 70 = .ok (.return_, 1) := by decide +kernel
theorem d_Mach_storeField_27 : decode prog_6_method_26_code 27 = .ok (.aload_n 0, 1) := by decide +kernel
theorem d_Mach_storeField_28 : decode prog_6_method_26_code 28 = .ok (.iconst 2, 1) := by decide +kernel
theorem d_Mach_storeField_29 : decode prog_6_method_26_code 29 = .ok (.invokevirtual 106, 3) := by decide +kernel
theorem d_Mach_storeField_32 : decode prog_6_method_26_code 32 = .ok (.goto 38, 3) := by decide +kernel
