abbrev m_Mod_function : am_M := (⟨"StowTongueModel", "function", "()Z"⟩, prog_13_method_17_code, 3, (some FieldType.boolean))
theorem d_Mod_function_0 : decode prog_13_method_17_code 0 = .ok (.aload_n 0, 1) := by decide +kernel
theorem d_Mod_function_1 : decode prog_13_method_17_code 1 = .ok (.invokevirtual 87, 3) := by decide +kernel
theorem d_Mod_function_4 : decode prog_13_method_17_code 4 = .ok (.aload_n 0, 1) := by decide +kernel
theorem d_Mod_function_5 : decode prog_13_method_17_code 5 = .ok (.getfield 32, 3) := by decide +kernel
theorem d_Mod_function_8 : decode prog_13_method_17_code 8 = .ok (.iconst 1, 1) := by decide +kernel
theorem d_Mod_function_9 : decode prog_13_method_17_code 9 = .ok (.if_icmp .eq 8, 3) := by decide +kernel
theorem d_Mod_function_17 : decode prog_13_method_17_code 17 = .ok (.aload_n 0, 1) := by decide +kernel
theorem d_Mod_function_18 : decode prog_13_method_17_code 18 = .ok (.getfield 161, 3) := by decide +kernel
theorem d_Mod_function_21 : decode prog_13_method_17_code 21 = .ok (.aload_n 0, 1) := by decide +kernel
theorem d_Mod_function_22 : decode prog_13_method_17_code 22 = .ok (.getfield 137, 3) := by decide +kernel
theorem d_Mod_function_25 : decode prog_13_method_17_code 25 = .ok (.aload_n 0, 1) := by decide +kernel
theorem d_Mod_function_26 : decode prog_13_method_17_code 26 = .ok (.invokevirtual 164, 3) := by decide +kernel
theorem d_Mod_function_29 : decode prog_13_method_17_code 29 = .ok (.lastore, 1) := by decide +kernel
theorem d_Mod_function_30 : decode prog_13_method_17_code 30 = .ok (.aload_n 0, 1) := by decide +kernel
theorem d_Mod_function_31 : decode prog_13_method_17_code 31 = .ok (.invokevirtual 87, 3) := by decide +kernel
theorem d_Mod_function_34 : decode prog_13_method_17_code 34 = .ok (.aload_n 0, 1) := by decide +kernel
theorem d_Mod_function_35 : decode prog_13_method_17_code 35 = .ok (.getfield 123, 3) := by decide +kernel
theorem d_Mod_function_38 : decode prog_13_method_17_code 38 = .ok (.istore_n 1, 1) := by decide +kernel
theorem d_Mod_function_39 : decode prog_13_method_17_code 39 = .ok (.aload_n 0, 1) := by decide +kernel
theorem d_Mod_function_40 : decode prog_13_method_17_code 40 = .ok (.getfield 126, 3) := by decide +kernel
theorem d_Mod_function_43 : decode prog_13_method_17_code 43 = .ok (.iconst 0, 1) := by decide +kernel
theorem d_Mod_function_44 : decode prog_13_method_17_code 44 = .ok (.aload_n 0, 1) := by decide +kernel
theorem d_Mod_function_45 : decode prog_13_method_17_code 45 = .ok (.getfield 168, 3) := by decide +kernel
theorem d_Mod_function_48 : decode prog_13_method_17_code 48 = .ok (.iconst 0, 1) := by decide +kernel
theorem d_Mod_function_49 : decode prog_13_method_17_code 49 = .ok (.aload_n 0, 1) := by decide +kernel
theorem d_Mod_function_50 : decode prog_13_method_17_code 50 = .ok (.getfield 123, 3) := by decide +kernel
theorem d_Mod_function_53 : decode prog_13_method_17_code 53 = .ok (.invokestatic 171, 3) := by decide +kernel
theorem w_1847 : (Cond.methodLink "StowTongueModel" 171 ⟨"java/lang/System", "arraycopy", "(Ljava/lang/Object;ILjava/lang/Object;II)V"⟩ : Cond) ∈ am_tbl := am_w 1847 (by decide +kernel) (by decide +kernel)
theorem d_Mod_function_56 : decode prog_13_method_17_code 56 = .ok (.aload_n 0, 1) := by decide +kernel
theorem d_Mod_function_57 : decode prog_13_method_17_code 57 = .ok (.iconst 0, 1) := by decide +kernel
theorem d_Mod_function_58 : decode prog_13_method_17_code 58 = .ok (.putfield 123, 3) := by decide +kernel
theorem d_Mod_function_61 : decode prog_13_method_17_code 61 = .ok (.aload_n 0, 1) := by decide +kernel
theorem d_Mod_function_62 : decode prog_13_method_17_code 62 = .ok (.aload_n 0, 1) := by decide +kernel
theorem d_Mod_function_63 : decode prog_13_method_17_code 63 = .ok (.getfield 149, 3) := by decide +kernel
theorem d_Mod_function_66 : decode prog_13_method_17_code 66 = .ok (.putfield 91, 3) := by decide +kernel
theorem d_Mod_function_69 : decode prog_13_method_17_code 69 = .ok (.aload_n 0, 1) := by decide +kernel
theorem d_Mod_function_70 : decode prog_13_method_17_code 70 = .ok (.ldc 177, 2) := by decide +kernel
theorem d_Mod_function_72 : decode prog_13_method_17_code 72 = .ok (.invokevirtual 179, 3) := by decide +kernel
theorem d_Mod_function_75 : decode prog_13_method_17_code 75 = .ok (.ifCond .ne 5, 3) := by decide +kernel
theorem d_Mod_function_78 : decode prog_13_method_17_code 78 = .ok (.iconst 0, 1) := by decide +kernel
theorem d_Mod_function_79 : decode prog_13_method_17_code 79 = .ok (.ireturn, 1) := by decide +kernel
theorem d_Mod_function_80 : decode prog_13_method_17_code 80 = .ok (.aload_n 0, 1) := by decide +kernel
theorem d_Mod_function_81 : decode prog_13_method_17_code 81 = .ok (.getfield 123, 3) := by decide +kernel
theorem d_Mod_function_84 : decode prog_13_method_17_code 84 = .ok (.ifCond .ne 15, 3) := by decide +kernel
theorem d_Mod_function_87 : decode prog_13_method_17_code 87 = .ok (.aload_n 0, 1) := by decide +kernel
theorem d_Mod_function_88 : decode prog_13_method_17_code 88 = .ok (.ldc 182, 2) := by decide +kernel
theorem d_Mod_function_90 : decode prog_13_method_17_code 90 = .ok (.invokevirtual 80, 3) := by decide +kernel
theorem d_Mod_function_93 : decode prog_13_method_17_code 93 = .ok (.ifCond .ne 74, 3) := by decide +kernel
theorem d_Mod_function_96 : decode prog_13_method_17_code 96 = .ok (.goto 12, 3) := by decide +kernel
theorem d_Mod_function_108 : decode prog_13_method_17_code 108 = .ok (.aload_n 0, 1) := by decide +kernel
theorem d_Mod_function_109 : decode prog_13_method_17_code 109 = .ok (.getfield 123, 3) := by decide +kernel
theorem d_Mod_function_112 : decode prog_13_method_17_code 112 = .ok (.ifCond .le 7, 3) := by decide +kernel
theorem d_Mod_function_119 : decode prog_13_method_17_code 119 = .ok (.aload_n 0, 1) := by decide +kernel
theorem d_Mod_function_120 : decode prog_13_method_17_code 120 = .ok (.getfield 32, 3) := by decide +kernel
theorem d_Mod_function_123 : decode prog_13_method_17_code 123 = .ok (.iconst 1, 1) := by decide +kernel
theorem d_Mod_function_124 : decode prog_13_method_17_code 124 = .ok (.if_icmp .ne 22, 3) := by decide +kernel
theorem d_Mod_function_127 : decode prog_13_method_17_code 127 = .ok (.aload_n 0, 1) := by decide +kernel
theorem d_Mod_function_128 : decode prog_13_method_17_code 128 = .ok (.getfield 123, 3) := by decide +kernel
theorem d_Mod_function_131 : decode prog_13_method_17_code 131 = .ok (.iconst 4, 1) := by decide +kernel
theorem d_Mod_function_132 : decode prog_13_method_17_code 132 = .ok (.if_icmp .eq 14, 3) := by decide +kernel
theorem d_Mod_function_146 : decode prog_13_method_17_code 146 = .ok (.aload_n 0, 1) := by decide +kernel
theorem d_Mod_function_147 : decode prog_13_method_17_code 147 = .ok (.invokevirtual 84, 3) := by decide +kernel
theorem d_Mod_function_150 : decode prog_13_method_17_code 150 = .ok (.ireturn, 1) := by decide +kernel
theorem d_Mod_function_135 : decode prog_13_method_17_code 135 = .ok (.aload_n 0, 1) := by decide +kernel
theorem d_Mod_function_136 : decode prog_13_method_17_code 136 = .ok (.aload_n 0, 1) := by decide +kernel
theorem d_Mod_function_137 : decode prog_13_method_17_code 137 = .ok (.invokevirtual 164, 3) := by decide +kernel
theorem d_Mod_function_140 : decode prog_13_method_17_code 140 = .ok (.invokevirtual 130, 3) := by decide +kernel
theorem d_Mod_function_143 : decode prog_13_method_17_code 143 = .ok (.ifCond .lt 8, 3) := by decide +kernel
theorem d_Mod_function_151 : decode prog_13_method_17_code 151 = .ok (.aload_n 0, 1) := by decide +kernel
theorem d_Mod_function_152 : decode prog_13_method_17_code 152 = .ok (.aload_n 0, 1) := by decide +kernel
theorem d_Mod_function_153 : decode prog_13_method_17_code 153 = .ok (.invokevirtual 164, 3) := by decide +kernel
theorem d_Mod_function_156 : decode prog_13_method_17_code 156 = .ok (.invokevirtual 186, 3) := by decide +kernel
theorem d_Mod_function_159 : decode prog_13_method_17_code 159 = .ok (.pop, 1) := by decide +kernel
theorem d_Mod_function_160 : decode prog_13_method_17_code 160 = .ok (.aload_n 0, 1) := by decide +kernel
theorem d_Mod_function_161 : decode prog_13_method_17_code 161 = .ok (.invokevirtual 87, 3) := by decide +kernel
theorem d_Mod_function_164 : decode prog_13_method_17_code 164 = .ok (.goto (-84), 3) := by decide +kernel
theorem d_Mod_function_115 : decode prog_13_method_17_code 115 = .ok (.aload_n 0, 1) := by decide +kernel
theorem d_Mod_function_116 : decode prog_13_method_17_code 116 = .ok (.invokevirtual 87, 3) := by decide +kernel
theorem d_Mod_function_167 : decode prog_13_method_17_code 167 = .ok (.aload_n 0, 1) := by decide +kernel
theorem d_Mod_function_168 : decode prog_13_method_17_code 168 = .ok (.ldc 182, 2) := by decide +kernel
theorem d_Mod_function_170 : decode prog_13_method_17_code 170 = .ok (.invokevirtual 179, 3) := by decide +kernel
theorem d_Mod_function_173 : decode prog_13_method_17_code 173 = .ok (.ifCond .ne 5, 3) := by decide +kernel
theorem d_Mod_function_176 : decode prog_13_method_17_code 176 = .ok (.iconst 0, 1) := by decide +kernel
theorem d_Mod_function_177 : decode prog_13_method_17_code 177 = .ok (.ireturn, 1) := by decide +kernel
theorem d_Mod_function_178 : decode prog_13_method_17_code 178 = .ok (.aload_n 0, 1) := by decide +kernel
theorem d_Mod_function_179 : decode prog_13_method_17_code 179 = .ok (.getfield 189, 3) := by decide +kernel
theorem d_Mod_function_182 : decode prog_13_method_17_code 182 = .ok (.aload_n 0, 1) := by decide +kernel
theorem d_Mod_function_183 : decode prog_13_method_17_code 183 = .ok (.getfield 137, 3) := by decide +kernel
theorem d_Mod_function_186 : decode prog_13_method_17_code 186 = .ok (.aload_n 0, 1) := by decide +kernel
theorem d_Mod_function_187 : decode prog_13_method_17_code 187 = .ok (.getfield 123, 3) := by decide +kernel
theorem d_Mod_function_190 : decode prog_13_method_17_code 190 = .ok (.iastore, 1) := by decide +kernel
theorem d_Mod_function_191 : decode prog_13_method_17_code 191 = .ok (.aload_n 0, 1) := by decide +kernel
theorem d_Mod_function_192 : decode prog_13_method_17_code 192 = .ok (.getfield 192, 3) := by decide +kernel
theorem d_Mod_function_195 : decode prog_13_method_17_code 195 = .ok (.aload_n 0, 1) := by decide +kernel
theorem d_Mod_function_196 : decode prog_13_method_17_code 196 = .ok (.getfield 137, 3) := by decide +kernel
theorem d_Mod_function_199 : decode prog_13_method_17_code 199 = .ok (.aload_n 0, 1) := by decide +kernel
theorem d_Mod_function_200 : decode prog_13_method_17_code 200 = .ok (.getfield 149, 3) := by decide +kernel
theorem d_Mod_function_203 : decode prog_13_method_17_code 203 = .ok (.getfield 100, 3) := by decide +kernel
theorem d_Mod_function_206 : decode prog_13_method_17_code 206 = .ok (.iastore, 1) := by decide +kernel
theorem d_Mod_function_207 : decode prog_13_method_17_code 207 = .ok (.aload_n 0, 1) := by decide +kernel
theorem d_Mod_function_208 : decode prog_13_method_17_code 208 = .ok (.getfield 195, 3) := by decide +kernel
theorem d_Mod_function_211 : decode prog_13_method_17_code 211 = .ok (.aload_n 0, 1) := by decide +kernel
theorem d_Mod_function_212 : decode prog_13_method_17_code 212 = .ok (.getfield 137, 3) := by decide +kernel
theorem d_Mod_function_215 : decode prog_13_method_17_code 215 = .ok (.aload_n 0, 1) := by decide +kernel
theorem d_Mod_function_216 : decode prog_13_method_17_code 216 = .ok (.getfield 149, 3) := by decide +kernel
theorem d_Mod_function_219 : decode prog_13_method_17_code 219 = .ok (.getfield 111, 3) := by decide +kernel
theorem d_Mod_function_222 : decode prog_13_method_17_code 222 = .ok (.iastore, 1) := by decide +kernel
theorem d_Mod_function_223 : decode prog_13_method_17_code 223 = .ok (.aload_n 0, 1) := by decide +kernel
theorem d_Mod_function_224 : decode prog_13_method_17_code 224 = .ok (.getfield 26, 3) := by decide +kernel
theorem d_Mod_function_227 : decode prog_13_method_17_code 227 = .ok (.istore_n 2, 1) := by decide +kernel
theorem d_Mod_function_228 : decode prog_13_method_17_code 228 = .ok (.aload_n 0, 1) := by decide +kernel
theorem d_Mod_function_229 : decode prog_13_method_17_code 229 = .ok (.iconst 0, 1) := by decide +kernel
theorem d_Mod_function_230 : decode prog_13_method_17_code 230 = .ok (.invokevirtual 198, 3) := by decide +kernel
theorem d_Mod_function_233 : decode prog_13_method_17_code 233 = .ok (.ifCond .ne 5, 3) := by decide +kernel
theorem d_Mod_function_236 : decode prog_13_method_17_code 236 = .ok (.iconst 0, 1) := by decide +kernel
theorem d_Mod_function_237 : decode prog_13_method_17_code 237 = .ok (.ireturn, 1) := by decide +kernel
theorem d_Mod_function_238 : decode prog_13_method_17_code 238 = .ok (.aload_n 0, 1) := by decide +kernel
theorem d_Mod_function_239 : decode prog_13_method_17_code 239 = .ok (.bipush 28, 2) := by decide +kernel
theorem d_Mod_function_241 : decode prog_13_method_17_code 241 = .ok (.invokevirtual 103, 3) := by decide +kernel
theorem d_Mod_function_244 : decode prog_13_method_17_code 244 = .ok (.pop, 1) := by decide +kernel
theorem d_Mod_function_245 : decode prog_13_method_17_code 245 = .ok (.aload_n 0, 1) := by decide +kernel
theorem d_Mod_function_246 : decode prog_13_method_17_code 246 = .ok (.getfield 201, 3) := by decide +kernel
theorem d_Mod_function_249 : decode prog_13_method_17_code 249 = .ok (.aload_n 0, 1) := by decide +kernel
theorem d_Mod_function_250 : decode prog_13_method_17_code 250 = .ok (.getfield 137, 3) := by decide +kernel
theorem d_Mod_function_253 : decode prog_13_method_17_code 253 = .ok (.aload_n 0, 1) := by decide +kernel
theorem d_Mod_function_254 : decode prog_13_method_17_code 254 = .ok (.getfield 149, 3) := by decide +kernel
theorem d_Mod_function_257 : decode prog_13_method_17_code 257 = .ok (.getfield 100, 3) := by decide +kernel
theorem d_Mod_function_260 : decode prog_13_method_17_code 260 = .ok (.iastore, 1) := by decide +kernel
theorem d_Mod_function_261 : decode prog_13_method_17_code 261 = .ok (.aload_n 0, 1) := by decide +kernel
theorem d_Mod_function_262 : decode prog_13_method_17_code 262 = .ok (.getfield 204, 3) := by decide +kernel
theorem d_Mod_function_265 : decode prog_13_method_17_code 265 = .ok (.aload_n 0, 1) := by decide +kernel
theorem d_Mod_function_266 : decode prog_13_method_17_code 266 = .ok (.getfield 137, 3) := by decide +kernel
theorem d_Mod_function_269 : decode prog_13_method_17_code 269 = .ok (.aload_n 0, 1) := by decide +kernel
theorem d_Mod_function_270 : decode prog_13_method_17_code 270 = .ok (.getfield 26, 3) := by decide +kernel
theorem d_Mod_function_273 : decode prog_13_method_17_code 273 = .ok (.iload_n 2, 1) := by decide +kernel
theorem d_Mod_function_274 : decode prog_13_method_17_code 274 = .ok (.isub, 1) := by decide +kernel
theorem d_Mod_function_275 : decode prog_13_method_17_code 275 = .ok (.iastore, 1) := by decide +kernel
theorem d_Mod_function_276 : decode prog_13_method_17_code 276 = .ok (.aload_n 0, 1) := by decide +kernel
theorem d_Mod_function_277 : decode prog_13_method_17_code 277 = .ok (.getfield 207, 3) := by decide +kernel
theorem d_Mod_function_280 : decode prog_13_method_17_code 280 = .ok (.aload_n 0, 1) := by decide +kernel
theorem d_Mod_function_281 : decode prog_13_method_17_code 281 = .ok (.getfield 137, 3) := by decide +kernel
theorem d_Mod_function_284 : decode prog_13_method_17_code 284 = .ok (.aload_n 0, 1) := by decide +kernel
theorem d_Mod_function_285 : decode prog_13_method_17_code 285 = .ok (.getfield 123, 3) := by decide +kernel
theorem d_Mod_function_288 : decode prog_13_method_17_code 288 = .ok (.iastore, 1) := by decide +kernel
theorem d_Mod_function_289 : decode prog_13_method_17_code 289 = .ok (.aload_n 0, 1) := by decide +kernel
theorem d_Mod_function_290 : decode prog_13_method_17_code 290 = .ok (.dup, 1) := by decide +kernel
theorem d_Mod_function_291 : decode prog_13_method_17_code 291 = .ok (.getfield 137, 3) := by decide +kernel
theorem d_Mod_function_294 : decode prog_13_method_17_code 294 = .ok (.iconst 1, 1) := by decide +kernel
theorem d_Mod_function_295 : decode prog_13_method_17_code 295 = .ok (.iadd, 1) := by decide +kernel
theorem d_Mod_function_296 : decode prog_13_method_17_code 296 = .ok (.putfield 137, 3) := by decide +kernel
theorem d_Mod_function_299 : decode prog_13_method_17_code 299 = .ok (.aload_n 0, 1) := by decide +kernel
theorem d_Mod_function_300 : decode prog_13_method_17_code 300 = .ok (.iload_n 1, 1) := by decide +kernel
theorem d_Mod_function_301 : decode prog_13_method_17_code 301 = .ok (.putfield 123, 3) := by decide +kernel
theorem d_Mod_function_304 : decode prog_13_method_17_code 304 = .ok (.aload_n 0, 1) := by decide +kernel
theorem d_Mod_function_305 : decode prog_13_method_17_code 305 = .ok (.getfield 168, 3) := by decide +kernel
theorem d_Mod_function_308 : decode prog_13_method_17_code 308 = .ok (.iconst 0, 1) := by decide +kernel
theorem d_Mod_function_309 : decode prog_13_method_17_code 309 = .ok (.aload_n 0, 1) := by decide +kernel
theorem d_Mod_function_310 : decode prog_13_method_17_code 310 = .ok (.getfield 126, 3) := by decide +kernel
theorem d_Mod_function_313 : decode prog_13_method_17_code 313 = .ok (.iconst 0, 1) := by decide +kernel
theorem d_Mod_function_314 : decode prog_13_method_17_code 314 = .ok (.aload_n 0, 1) := by decide +kernel
theorem d_Mod_function_315 : decode prog_13_method_17_code 315 = .ok (.getfield 123, 3) := by decide +kernel
theorem d_Mod_function_318 : decode prog_13_method_17_code 318 = .ok (.invokestatic 171, 3) := by decide +kernel
theorem d_Mod_function_321 : decode prog_13_method_17_code 321 = .ok (.aload_n 0, 1) := by decide +kernel
theorem d_Mod_function_322 : decode prog_13_method_17_code 322 = .ok (.aload_n 0, 1) := by decide +kernel
theorem d_Mod_function_323 : decode prog_13_method_17_code 323 = .ok (.getfield 143, 3) := by decide +kernel
theorem d_Mod_function_326 : decode prog_13_method_17_code 326 = .ok (.putfield 91, 3) := by decide +kernel
theorem d_Mod_function_329 : decode prog_13_method_17_code 329 = .ok (.iconst 1, 1) := by decide +kernel
theorem d_Mod_function_330 : decode prog_13_method_17_code 330 = .ok (.ireturn, 1) := by decide +kernel
theorem d_Mod_function_99 : decode prog_13_method_17_code 99 = .ok (.aload_n 0, 1) := by decide +kernel
theorem d_Mod_function_100 : decode prog_13_method_17_code 100 = .ok (.ldc 184, 2) := by decide +kernel
theorem d_Mod_function_102 : decode prog_13_method_17_code 102 = .ok (.invokevirtual 80, 3) := by decide +kernel
theorem d_Mod_function_105 : decode prog_13_method_17_code 105 = .ok (.ifCond .eq 62, 3) := by decide +kernel
theorem d_Mod_function_12 : decode prog_13_method_17_code 12 = .ok (.aload_n 0, 1) := by decide +kernel
theorem d_Mod_function_13 : decode prog_13_method_17_code 13 = .ok (.invokevirtual 84, 3) := by decide +kernel
theorem d_Mod_function_16 : decode prog_13_method_17_code 16 = .ok (.ireturn, 1) := by decide +kernel
abbrev m_Mod_read : am_M := (⟨"StowTongueModel", "read", "()Z"⟩, prog_13_method_16_code, 1, (some FieldType.boolean))
theorem d_Mod_read_0 : decode prog_13_method_16_code 0 = .ok (.aload_n 0, 1) := by decide +kernel
theorem d_Mod_read_1 : decode prog_13_method_16_code 1 = .ok (.aload_n 0, 1) := by decide +kernel
theorem d_Mod_read_2 : decode prog_13_method_16_code 2 = .ok (.getfield 134, 3) := by decide +kernel
theorem d_Mod_read_5 : decode prog_13_method_16_code 5 = .ok (.putfield 29, 3) := by decide +kernel
theorem d_Mod_read_8 : decode prog_13_method_16_code 8 = .ok (.aload_n 0, 1) := by decide +kernel
theorem d_Mod_read_9 : decode prog_13_method_16_code 9 = .ok (.iconst 0, 1) := by decide +kernel
theorem d_Mod_read_10 : decode prog_13_method_16_code 10 = .ok (.putfield 134, 3) := by decide +kernel
theorem d_Mod_read_13 : decode prog_13_method_16_code 13 = .ok (.aload_n 0, 1) := by decide +kernel
theorem d_Mod_read_14 : decode prog_13_method_16_code 14 = .ok (.iconst 0, 1) := by decide +kernel
theorem d_Mod_read_15 : decode prog_13_method_16_code 15 = .ok (.putfield 3, 3) := by decide +kernel
theorem d_Mod_read_18 : decode prog_13_method_16_code 18 = .ok (.aload_n 0, 1) := by decide +kernel
theorem d_Mod_read_19 : decode prog_13_method_16_code 19 = .ok (.iconst (-1), 1) := by decide +kernel
theorem d_Mod_read_20 : decode prog_13_method_16_code 20 = .ok (.putfield 77, 3) := by decide +kernel
theorem d_Mod_read_23 : decode prog_13_method_16_code 23 = .ok (.aload_n 0, 1) := by decide +kernel
theorem d_Mod_read_24 : decode prog_13_method_16_code 24 = .ok (.iconst 0, 1) := by decide +kernel
theorem d_Mod_read_25 : decode prog_13_method_16_code 25 = .ok (.putfield 137, 3) := by decide +kernel
theorem d_Mod_read_28 : decode prog_13_method_16_code 28 = .ok (.aload_n 0, 1) := by decide +kernel
theorem d_Mod_read_29 : decode prog_13_method_16_code 29 = .ok (.iconst 0, 1) := by decide +kernel
theorem d_Mod_read_30 : decode prog_13_method_16_code 30 = .ok (.putfield 140, 3) := by decide +kernel
theorem d_Mod_read_33 : decode prog_13_method_16_code 33 = .ok (.aload_n 0, 1) := by decide +kernel
theorem d_Mod_read_34 : decode prog_13_method_16_code 34 = .ok (.getfield 143, 3) := by decide +kernel
theorem d_Mod_read_37 : decode prog_13_method_16_code 37 = .ok (.invokevirtual 146, 3) := by decide +kernel
theorem w_1802 : (Cond.methodLink "StowTongueModel" 146 ⟨"StowTongueModel$Code", "clear", "()V"⟩ : Cond) ∈ am_tbl := am_w 1802 (by decide +kernel) (by decide +kernel)
set_option maxRecDepth 100000 in
theorem w_1805 : (Cond.code ⟨"StowTongueModel$Code", "clear", "()V"⟩ prog_14_method_2_code 1 none : Cond) ∈ am_tbl := am_w 1805 rfl rfl
theorem l_Mod_146 : am_L "StowTongueModel" 146 0 m_Code_clear := ⟨Or.inl w_1802, w_161, w_1805, ⟨by decide, by decide⟩, by decide +kernel, by decide⟩
theorem w_1803 : (Cond.instanceMethod ⟨"StowTongueModel$Code", "clear", "()V"⟩ : Cond) ∈ am_tbl := am_w 1803 (by decide +kernel) (by decide +kernel)
theorem w_1804 : (Cond.selects "StowTongueModel$Code" ⟨"StowTongueModel$Code", "clear", "()V"⟩ ⟨"StowTongueModel$Code", "clear", "()V"⟩ : Cond) ∈ am_tbl := am_w 1804 (by decide +kernel) (by decide +kernel)
theorem d_Mod_read_40 : decode prog_13_method_16_code 40 = .ok (.aload_n 0, 1) := by decide +kernel
theorem d_Mod_read_41 : decode prog_13_method_16_code 41 = .ok (.getfield 149, 3) := by decide +kernel
theorem d_Mod_read_44 : decode prog_13_method_16_code 44 = .ok (.invokevirtual 146, 3) := by decide +kernel
theorem d_Mod_read_47 : decode prog_13_method_16_code 47 = .ok (.aload_n 0, 1) := by decide +kernel
theorem d_Mod_read_48 : decode prog_13_method_16_code 48 = .ok (.aload_n 0, 1) := by decide +kernel
theorem d_Mod_read_49 : decode prog_13_method_16_code 49 = .ok (.getfield 143, 3) := by decide +kernel
theorem d_Mod_read_52 : decode prog_13_method_16_code 52 = .ok (.putfield 91, 3) := by decide +kernel
theorem d_Mod_read_55 : decode prog_13_method_16_code 55 = .ok (.aload_n 0, 1) := by decide +kernel
theorem d_Mod_read_56 : decode prog_13_method_16_code 56 = .ok (.iconst 0, 1) := by decide +kernel
theorem d_Mod_read_57 : decode prog_13_method_16_code 57 = .ok (.putfield 123, 3) := by decide +kernel
theorem d_Mod_read_60 : decode prog_13_method_16_code 60 = .ok (.aload_n 0, 1) := by decide +kernel
theorem d_Mod_read_61 : decode prog_13_method_16_code 61 = .ok (.invokevirtual 87, 3) := by decide +kernel
theorem d_Mod_read_64 : decode prog_13_method_16_code 64 = .ok (.aload_n 0, 1) := by decide +kernel
theorem d_Mod_read_65 : decode prog_13_method_16_code 65 = .ok (.getfield 32, 3) := by decide +kernel
theorem d_Mod_read_68 : decode prog_13_method_16_code 68 = .ok (.ifCond .eq 32, 3) := by decide +kernel
theorem d_Mod_read_100 : decode prog_13_method_16_code 100 = .ok (.aload_n 0, 1) := by decide +kernel
theorem d_Mod_read_101 : decode prog_13_method_16_code 101 = .ok (.getfield 91, 3) := by decide +kernel
theorem d_Mod_read_104 : decode prog_13_method_16_code 104 = .ok (.aload_n 0, 1) := by decide +kernel
theorem d_Mod_read_105 : decode prog_13_method_16_code 105 = .ok (.getfield 123, 3) := by decide +kernel
theorem d_Mod_read_108 : decode prog_13_method_16_code 108 = .ok (.putfield 160, 3) := by decide +kernel
theorem d_Mod_read_111 : decode prog_13_method_16_code 111 = .ok (.aload_n 0, 1) := by decide +kernel
theorem d_Mod_read_112 : decode prog_13_method_16_code 112 = .ok (.bipush 28, 2) := by decide +kernel
theorem d_Mod_read_114 : decode prog_13_method_16_code 114 = .ok (.invokevirtual 103, 3) := by decide +kernel
theorem d_Mod_read_117 : decode prog_13_method_16_code 117 = .ok (.pop, 1) := by decide +kernel
theorem d_Mod_read_118 : decode prog_13_method_16_code 118 = .ok (.iconst 1, 1) := by decide +kernel
theorem d_Mod_read_119 : decode prog_13_method_16_code 119 = .ok (.ireturn, 1) := by decide +kernel
theorem d_Mod_read_71 : decode prog_13_method_16_code 71 = .ok (.aload_n 0, 1) := by decide +kernel
theorem d_Mod_read_72 : decode prog_13_method_16_code 72 = .ok (.ldc 152, 2) := by decide +kernel
theorem d_Mod_read_74 : decode prog_13_method_16_code 74 = .ok (.invokevirtual 80, 3) := by decide +kernel
theorem d_Mod_read_77 : decode prog_13_method_16_code 77 = .ok (.ifCond .eq 13, 3) := by decide +kernel
theorem d_Mod_read_90 : decode prog_13_method_16_code 90 = .ok (.aload_n 0, 1) := by decide +kernel
theorem d_Mod_read_91 : decode prog_13_method_16_code 91 = .ok (.iconst 0, 1) := by decide +kernel
theorem d_Mod_read_92 : decode prog_13_method_16_code 92 = .ok (.invokevirtual 157, 3) := by decide +kernel
theorem d_Mod_read_95 : decode prog_13_method_16_code 95 = .ok (.ifCond .ne (-31), 3) := by decide +kernel
theorem d_Mod_read_98 : decode prog_13_method_16_code 98 = .ok (.iconst 0, 1) := by decide +kernel
theorem d_Mod_read_99 : decode prog_13_method_16_code 99 = .ok (.ireturn, 1) := by decide +kernel
theorem d_Mod_read_80 : decode prog_13_method_16_code 80 = .ok (.aload_n 0, 1) := by decide +kernel
theorem d_Mod_read_81 : decode prog_13_method_16_code 81 = .ok (.invokevirtual 154, 3) := by decide +kernel
theorem w_1835 : (Cond.methodLink "StowTongueModel" 154 ⟨"StowTongueModel", "function", "()Z"⟩ : Cond) ∈ am_tbl := am_w 1835 (by decide +kernel) (by decide +kernel)
set_option maxRecDepth 100000 in
theorem w_1838 : (Cond.code ⟨"StowTongueModel", "function", "()Z"⟩ prog_13_method_17_code 3 (some FieldType.boolean) : Cond) ∈ am_tbl := am_w 1838 rfl rfl
theorem l_Mod_154 : am_L "StowTongueModel" 154 0 m_Mod_function := ⟨Or.inl w_1835, w_160, w_1838, ⟨by decide, by decide⟩, by decide +kernel, by decide⟩
theorem w_1837 : (Cond.instanceMethod ⟨"StowTongueModel", "function", "()Z"⟩ : Cond) ∈ am_tbl := am_w 1837 (by decide +kernel) (by decide +kernel)
theorem w_87 : (Cond.selects "StowTongueModel" ⟨"StowTongueModel", "function", "()Z"⟩ ⟨"StowTongueModel", "function", "()Z"⟩ : Cond) ∈ am_tbl := am_w 87 (by decide +kernel) (by decide +kernel)
theorem d_Mod_read_84 : decode prog_13_method_16_code 84 = .ok (.ifCond .eq 14, 3) := by decide +kernel
theorem d_Mod_read_87 : decode prog_13_method_16_code 87 = .ok (.goto (-23), 3) := by decide +kernel
theorem d_Mod_run_0 : decode prog_13_method_42_code 0 = .ok (.iload_n 1, 1) := by decide +kernel
theorem d_Mod_run_1 : decode prog_13_method_42_code 1 = .ok (.i2l, 1) := by decide +kernel
theorem d_Mod_run_2 : decode prog_13_method_42_code 2 = .ok (.lconst 0, 1) := by decide +kernel
theorem d_Mod_run_3 : decode prog_13_method_42_code 3 = .ok (.ldc2_w 435, 3) := by decide +kernel
theorem w_1797 : (Cond.constantLong "StowTongueModel" 435 2000 : Cond) ∈ am_tbl := am_w 1797 (by decide +kernel) (by decide +kernel)
theorem d_Mod_run_6 : decode prog_13_method_42_code 6 = .ok (.invokestatic 70, 3) := by decide +kernel
theorem d_Mod_run_9 : decode prog_13_method_42_code 9 = .ok (.ifCond .ne 5, 3) := by decide +kernel
theorem d_Mod_run_12 : decode prog_13_method_42_code 12 = .ok (.iconst (-1), 1) := by decide +kernel
theorem d_Mod_run_13 : decode prog_13_method_42_code 13 = .ok (.ireturn, 1) := by decide +kernel
theorem d_Mod_run_14 : decode prog_13_method_42_code 14 = .ok (.aload_n 0, 1) := by decide +kernel
theorem d_Mod_run_15 : decode prog_13_method_42_code 15 = .ok (.invokevirtual 437, 3) := by decide +kernel
theorem w_1798 : (Cond.methodLink "StowTongueModel" 437 ⟨"StowTongueModel", "read", "()Z"⟩ : Cond) ∈ am_tbl := am_w 1798 (by decide +kernel) (by decide +kernel)
set_option maxRecDepth 100000 in
theorem w_1801 : (Cond.code ⟨"StowTongueModel", "read", "()Z"⟩ prog_13_method_16_code 1 (some FieldType.boolean) : Cond) ∈ am_tbl := am_w 1801 rfl rfl
theorem l_Mod_437 : am_L "StowTongueModel" 437 0 m_Mod_read := ⟨Or.inl w_1798, w_160, w_1801, ⟨by decide, by decide⟩, by decide +kernel, by decide⟩
theorem w_1800 : (Cond.instanceMethod ⟨"StowTongueModel", "read", "()Z"⟩ : Cond) ∈ am_tbl := am_w 1800 (by decide +kernel) (by decide +kernel)
theorem w_83 : (Cond.selects "StowTongueModel" ⟨"StowTongueModel", "read", "()Z"⟩ ⟨"StowTongueModel", "read", "()Z"⟩ : Cond) ∈ am_tbl := am_w 83 (by decide +kernel) (by decide +kernel)
theorem d_Mod_run_18 : decode prog_13_method_42_code 18 = .ok (.ifCond .ne 11, 3) := by decide +kernel
theorem d_Mod_run_21 : decode prog_13_method_42_code 21 = .ok (.aload_n 0, 1) := by decide +kernel
theorem d_Mod_run_22 : decode prog_13_method_42_code 22 = .ok (.getfield 77, 3) := by decide +kernel
theorem d_Mod_run_25 : decode prog_13_method_42_code 25 = .ok (.bipush 100, 2) := by decide +kernel
theorem d_Mod_run_27 : decode prog_13_method_42_code 27 = .ok (.iadd, 1) := by decide +kernel
theorem d_Mod_run_28 : decode prog_13_method_42_code 28 = .ok (.ireturn, 1) := by decide +kernel
theorem d_Mod_run_29 : decode prog_13_method_42_code 29 = .ok (.aload_n 0, 1) := by decide +kernel
theorem d_Mod_run_30 : decode prog_13_method_42_code 30 = .ok (.iconst 0, 1) := by decide +kernel
theorem d_Mod_run_31 : decode prog_13_method_42_code 31 = .ok (.putfield 440, 3) := by decide +kernel
theorem d_Mod_run_34 : decode prog_13_method_42_code 34 = .ok (.aload_n 0, 1) := by decide +kernel
theorem d_Mod_run_35 : decode prog_13_method_42_code 35 = .ok (.getfield 374, 3) := by decide +kernel
theorem d_Mod_run_38 : decode prog_13_method_42_code 38 = .ok (.iconst 0, 1) := by decide +kernel
theorem d_Mod_run_39 : decode prog_13_method_42_code 39 = .ok (.iconst 0, 1) := by decide +kernel
theorem d_Mod_run_40 : decode prog_13_method_42_code 40 = .ok (.iconst 0, 1) := by decide +kernel
theorem d_Mod_run_41 : decode prog_13_method_42_code 41 = .ok (.lconst 0, 1) := by decide +kernel
theorem d_Mod_run_42 : decode prog_13_method_42_code 42 = .ok (.lconst 0, 1) := by decide +kernel
theorem d_Mod_run_43 : decode prog_13_method_42_code 43 = .ok (.invokevirtual 114, 3) := by decide +kernel
theorem d_Mod_run_46 : decode prog_13_method_42_code 46 = .ok (.aload_n 0, 1) := by decide +kernel
theorem d_Mod_run_47 : decode prog_13_method_42_code 47 = .ok (.iload_n 1, 1) := by decide +kernel
theorem d_Mod_run_48 : decode prog_13_method_42_code 48 = .ok (.putfield 443, 3) := by decide +kernel
theorem d_Mod_run_51 : decode prog_13_method_42_code 51 = .ok (.aload_n 0, 1) := by decide +kernel
theorem d_Mod_run_52 : decode prog_13_method_42_code 52 = .ok (.iconst 0, 1) := by decide +kernel
theorem d_Mod_run_53 : decode prog_13_method_42_code 53 = .ok (.putfield 446, 3) := by decide +kernel
theorem d_Mod_run_56 : decode prog_13_method_42_code 56 = .ok (.aload_n 0, 1) := by decide +kernel
theorem d_Mod_run_57 : decode prog_13_method_42_code 57 = .ok (.getfield 353, 3) := by decide +kernel
theorem d_Mod_run_60 : decode prog_13_method_42_code 60 = .ok (.aload_n 0, 1) := by decide +kernel
theorem d_Mod_run_61 : decode prog_13_method_42_code 61 = .ok (.getfield 349, 3) := by decide +kernel
theorem d_Mod_run_64 : decode prog_13_method_42_code 64 = .ok (.invokevirtual 448, 3) := by decide +kernel
theorem d_Mod_run_67 : decode prog_13_method_42_code 67 = .ok (.aload_n 0, 1) := by decide +kernel
theorem d_Mod_run_68 : decode prog_13_method_42_code 68 = .ok (.invokevirtual 451, 3) := by decide +kernel
theorem w_1996 : (Cond.methodLink "StowTongueModel" 451 ⟨"StowTongueModel", "tellFunctions", "()I"⟩ : Cond) ∈ am_tbl := am_w 1996 (by decide +kernel) (by decide +kernel)
set_option maxRecDepth 100000 in
theorem w_1999 : (Cond.code ⟨"StowTongueModel", "tellFunctions", "()I"⟩ prog_13_method_40_code 4 (some FieldType.int) : Cond) ∈ am_tbl := am_w 1999 rfl rfl
theorem l_Mod_451 : am_L "StowTongueModel" 451 0 m_Mod_tellFunctions := ⟨Or.inl w_1996, w_160, w_1999, ⟨by decide, by decide⟩, by decide +kernel, by decide⟩
theorem w_1998 : (Cond.instanceMethod ⟨"StowTongueModel", "tellFunctions", "()I"⟩ : Cond) ∈ am_tbl := am_w 1998 (by decide +kernel) (by decide +kernel)
theorem w_114 : (Cond.selects "StowTongueModel" ⟨"StowTongueModel", "tellFunctions", "()I"⟩ ⟨"StowTongueModel", "tellFunctions", "()I"⟩ : Cond) ∈ am_tbl := am_w 114 (by decide +kernel) (by decide +kernel)
theorem d_Mod_run_71 : decode prog_13_method_42_code 71 = .ok (.istore_n 2, 1) := by decide +kernel
theorem d_Mod_run_72 : decode prog_13_method_42_code 72 = .ok (.iload_n 2, 1) := by decide +kernel
theorem d_Mod_run_73 : decode prog_13_method_42_code 73 = .ok (.ifCond .ne 8, 3) := by decide +kernel
theorem d_Mod_run_76 : decode prog_13_method_42_code 76 = .ok (.aload_n 0, 1) := by decide +kernel
theorem d_Mod_run_77 : decode prog_13_method_42_code 77 = .ok (.invokevirtual 454, 3) := by decide +kernel
theorem w_2021 : (Cond.methodLink "StowTongueModel" 454 ⟨"StowTongueModel", "go", "()I"⟩ : Cond) ∈ am_tbl := am_w 2021 (by decide +kernel) (by decide +kernel)
set_option maxRecDepth 100000 in
theorem w_2024 : (Cond.code ⟨"StowTongueModel", "go", "()I"⟩ prog_13_method_44_code 2 (some FieldType.int) : Cond) ∈ am_tbl := am_w 2024 rfl rfl
theorem l_Mod_454 : am_L "StowTongueModel" 454 0 m_Mod_go_ := ⟨Or.inl w_2021, w_160, w_2024, ⟨by decide, by decide⟩, by decide +kernel, by decide⟩
theorem w_2023 : (Cond.instanceMethod ⟨"StowTongueModel", "go", "()I"⟩ : Cond) ∈ am_tbl := am_w 2023 (by decide +kernel) (by decide +kernel)
theorem w_117 : (Cond.selects "StowTongueModel" ⟨"StowTongueModel", "go", "()I"⟩ ⟨"StowTongueModel", "go", "()I"⟩ : Cond) ∈ am_tbl := am_w 117 (by decide +kernel) (by decide +kernel)
theorem d_Mod_run_80 : decode prog_13_method_42_code 80 = .ok (.istore_n 2, 1) := by decide +kernel
theorem d_Mod_run_81 : decode prog_13_method_42_code 81 = .ok (.iload_n 2, 1) := by decide +kernel
theorem d_Mod_run_82 : decode prog_13_method_42_code 82 = .ok (.ifCond .eq 17, 3) := by decide +kernel
theorem d_Mod_run_99 : decode prog_13_method_42_code 99 = .ok (.bipush 8, 2) := by decide +kernel
theorem d_Mod_run_101 : decode prog_13_method_42_code 101 = .ok (.istore_n 3, 1) := by decide +kernel
theorem d_Mod_run_102 : decode prog_13_method_42_code 102 = .ok (.iconst 0, 1) := by decide +kernel
theorem d_Mod_run_103 : decode prog_13_method_42_code 103 = .ok (.istore 4, 2) := by decide +kernel
theorem d_Mod_run_163 : decode prog_13_method_42_code 163 = .ok (.iconst 0, 1) := by decide +kernel
theorem d_Mod_run_164 : decode prog_13_method_42_code 164 = .ok (.istore 4, 2) := by decide +kernel
theorem d_Mod_run_166 : decode prog_13_method_42_code 166 = .ok (.iload 4, 2) := by decide +kernel
theorem d_Mod_run_168 : decode prog_13_method_42_code 168 = .ok (.aload_n 0, 1) := by decide +kernel
theorem d_Mod_run_169 : decode prog_13_method_42_code 169 = .ok (.getfield 353, 3) := by decide +kernel
theorem d_Mod_run_172 : decode prog_13_method_42_code 172 = .ok (.getfield 463, 3) := by decide +kernel
theorem d_Mod_run_175 : decode prog_13_method_42_code 175 = .ok (.if_icmp .ge 60, 3) := by decide +kernel
theorem d_Mod_run_235 : decode prog_13_method_42_code 235 = .ok (.iconst 0, 1) := by decide +kernel
theorem d_Mod_run_236 : decode prog_13_method_42_code 236 = .ok (.istore 4, 2) := by decide +kernel
theorem d_Mod_run_238 : decode prog_13_method_42_code 238 = .ok (.iload 4, 2) := by decide +kernel
theorem d_Mod_run_240 : decode prog_13_method_42_code 240 = .ok (.aload_n 0, 1) := by decide +kernel
theorem d_Mod_run_241 : decode prog_13_method_42_code 241 = .ok (.getfield 349, 3) := by decide +kernel
theorem d_Mod_run_244 : decode prog_13_method_42_code 244 = .ok (.getfield 463, 3) := by decide +kernel
theorem d_Mod_run_247 : decode prog_13_method_42_code 247 = .ok (.if_icmp .ge 32, 3) := by decide +kernel
theorem d_Mod_run_279 : decode prog_13_method_42_code 279 = .ok (.iconst 0, 1) := by decide +kernel
theorem d_Mod_run_280 : decode prog_13_method_42_code 280 = .ok (.istore 4, 2) := by decide +kernel
theorem d_Mod_run_282 : decode prog_13_method_42_code 282 = .ok (.iload 4, 2) := by decide +kernel
theorem d_Mod_run_284 : decode prog_13_method_42_code 284 = .ok (.aload_n 0, 1) := by decide +kernel
theorem d_Mod_run_285 : decode prog_13_method_42_code 285 = .ok (.getfield 137, 3) := by decide +kernel
theorem d_Mod_run_288 : decode prog_13_method_42_code 288 = .ok (.if_icmp .ge 21, 3) := by decide +kernel
theorem d_Mod_run_309 : decode prog_13_method_42_code 309 = .ok (.aload_n 0, 1) := by decide +kernel
theorem d_Mod_run_310 : decode prog_13_method_42_code 310 = .ok (.getfield 349, 3) := by decide +kernel
theorem d_Mod_run_313 : decode prog_13_method_42_code 313 = .ok (.astore 4, 2) := by decide +kernel
theorem d_Mod_run_315 : decode prog_13_method_42_code 315 = .ok (.aload_n 0, 1) := by decide +kernel
theorem d_Mod_run_316 : decode prog_13_method_42_code 316 = .ok (.aload_n 0, 1) := by decide +kernel
theorem d_Mod_run_317 : decode prog_13_method_42_code 317 = .ok (.getfield 353, 3) := by decide +kernel
theorem d_Mod_run_320 : decode prog_13_method_42_code 320 = .ok (.putfield 349, 3) := by decide +kernel
theorem d_Mod_run_323 : decode prog_13_method_42_code 323 = .ok (.aload_n 0, 1) := by decide +kernel
theorem d_Mod_run_324 : decode prog_13_method_42_code 324 = .ok (.aload 4, 2) := by decide +kernel
theorem d_Mod_run_326 : decode prog_13_method_42_code 326 = .ok (.putfield 353, 3) := by decide +kernel
theorem d_Mod_run_329 : decode prog_13_method_42_code 329 = .ok (.aload_n 0, 1) := by decide +kernel
theorem d_Mod_run_330 : decode prog_13_method_42_code 330 = .ok (.iload_n 3, 1) := by decide +kernel
theorem d_Mod_run_331 : decode prog_13_method_42_code 331 = .ok (.invokevirtual 477, 3) := by decide +kernel
theorem d_Mod_run_334 : decode prog_13_method_42_code 334 = .ok (.iconst 0, 1) := by decide +kernel
theorem d_Mod_run_335 : decode prog_13_method_42_code 335 = .ok (.ireturn, 1) := by decide +kernel
theorem d_Mod_run_291 : decode prog_13_method_42_code 291 = .ok (.iload_n 3, 1) := by decide +kernel
theorem d_Mod_run_292 : decode prog_13_method_42_code 292 = .ok (.iconst 3, 1) := by decide +kernel
theorem d_Mod_run_293 : decode prog_13_method_42_code 293 = .ok (.aload_n 0, 1) := by decide +kernel
theorem d_Mod_run_294 : decode prog_13_method_42_code 294 = .ok (.getfield 204, 3) := by decide +kernel
theorem d_Mod_run_297 : decode prog_13_method_42_code 297 = .ok (.iload 4, 2) := by decide +kernel
theorem d_Mod_run_299 : decode prog_13_method_42_code 299 = .ok (.iaload, 1) := by decide +kernel
theorem d_Mod_run_300 : decode prog_13_method_42_code 300 = .ok (.imul, 1) := by decide +kernel
theorem d_Mod_run_301 : decode prog_13_method_42_code 301 = .ok (.iadd, 1) := by decide +kernel
theorem d_Mod_run_302 : decode prog_13_method_42_code 302 = .ok (.istore_n 3, 1) := by decide +kernel
theorem d_Mod_run_303 : decode prog_13_method_42_code 303 = .ok (.iinc 4 1, 3) := by decide +kernel
theorem d_Mod_run_306 : decode prog_13_method_42_code 306 = .ok (.goto (-24), 3) := by decide +kernel
theorem d_Mod_run_250 : decode prog_13_method_42_code 250 = .ok (.aload_n 0, 1) := by decide +kernel
theorem d_Mod_run_251 : decode prog_13_method_42_code 251 = .ok (.getfield 353, 3) := by decide +kernel
theorem d_Mod_run_254 : decode prog_13_method_42_code 254 = .ok (.aload_n 0, 1) := by decide +kernel
theorem d_Mod_run_255 : decode prog_13_method_42_code 255 = .ok (.getfield 349, 3) := by decide +kernel
theorem d_Mod_run_258 : decode prog_13_method_42_code 258 = .ok (.getfield 466, 3) := by decide +kernel
theorem d_Mod_run_261 : decode prog_13_method_42_code 261 = .ok (.iload 4, 2) := by decide +kernel
theorem d_Mod_run_263 : decode prog_13_method_42_code 263 = .ok (.laload, 1) := by decide +kernel
theorem d_Mod_run_264 : decode prog_13_method_42_code 264 = .ok (.invokevirtual 469, 3) := by decide +kernel
theorem d_Mod_run_267 : decode prog_13_method_42_code 267 = .ok (.ifCond .ge 6, 3) := by decide +kernel
theorem d_Mod_run_273 : decode prog_13_method_42_code 273 = .ok (.iinc 4 1, 3) := by decide +kernel
theorem d_Mod_run_276 : decode prog_13_method_42_code 276 = .ok (.goto (-38), 3) := by decide +kernel
theorem d_Mod_run_270 : decode prog_13_method_42_code 270 = .ok (.iinc 3 6, 3) := by decide +kernel
theorem d_Mod_run_178 : decode prog_13_method_42_code 178 = .ok (.aload_n 0, 1) := by decide +kernel
theorem d_Mod_run_179 : decode prog_13_method_42_code 179 = .ok (.getfield 349, 3) := by decide +kernel
theorem d_Mod_run_182 : decode prog_13_method_42_code 182 = .ok (.aload_n 0, 1) := by decide +kernel
theorem d_Mod_run_183 : decode prog_13_method_42_code 183 = .ok (.getfield 353, 3) := by decide +kernel
theorem d_Mod_run_186 : decode prog_13_method_42_code 186 = .ok (.getfield 466, 3) := by decide +kernel
theorem d_Mod_run_189 : decode prog_13_method_42_code 189 = .ok (.iload 4, 2) := by decide +kernel
theorem d_Mod_run_191 : decode prog_13_method_42_code 191 = .ok (.laload, 1) := by decide +kernel
theorem d_Mod_run_192 : decode prog_13_method_42_code 192 = .ok (.invokevirtual 469, 3) := by decide +kernel
theorem d_Mod_run_195 : decode prog_13_method_42_code 195 = .ok (.istore 5, 2) := by decide +kernel
theorem d_Mod_run_197 : decode prog_13_method_42_code 197 = .ok (.iload 5, 2) := by decide +kernel
theorem d_Mod_run_199 : decode prog_13_method_42_code 199 = .ok (.ifCond .lt 27, 3) := by decide +kernel
theorem d_Mod_run_226 : decode prog_13_method_42_code 226 = .ok (.iinc 3 6, 3) := by decide +kernel
theorem d_Mod_run_229 : decode prog_13_method_42_code 229 = .ok (.iinc 4 1, 3) := by decide +kernel
theorem d_Mod_run_232 : decode prog_13_method_42_code 232 = .ok (.goto (-66), 3) := by decide +kernel
theorem d_Mod_run_202 : decode prog_13_method_42_code 202 = .ok (.aload_n 0, 1) := by decide +kernel
theorem d_Mod_run_203 : decode prog_13_method_42_code 203 = .ok (.getfield 353, 3) := by decide +kernel
theorem d_Mod_run_206 : decode prog_13_method_42_code 206 = .ok (.getfield 472, 3) := by decide +kernel
theorem d_Mod_run_209 : decode prog_13_method_42_code 209 = .ok (.iload 4, 2) := by decide +kernel
theorem d_Mod_run_211 : decode prog_13_method_42_code 211 = .ok (.aload_n 0, 1) := by decide +kernel
theorem d_Mod_run_212 : decode prog_13_method_42_code 212 = .ok (.getfield 349, 3) := by decide +kernel
theorem d_Mod_run_215 : decode prog_13_method_42_code 215 = .ok (.getfield 472, 3) := by decide +kernel
theorem d_Mod_run_218 : decode prog_13_method_42_code 218 = .ok (.iload 5, 2) := by decide +kernel
theorem d_Mod_run_220 : decode prog_13_method_42_code 220 = .ok (.invokevirtual 473, 3) := by decide +kernel
theorem d_Mod_run_223 : decode prog_13_method_42_code 223 = .ok (.ifCond .ne 6, 3) := by decide +kernel
theorem d_Mod_run_125 : decode prog_13_method_42_code 125 = .ok (.aload_n 0, 1) := by decide +kernel
theorem d_Mod_run_126 : decode prog_13_method_42_code 126 = .ok (.getfield 349, 3) := by decide +kernel
theorem d_Mod_run_129 : decode prog_13_method_42_code 129 = .ok (.getfield 457, 3) := by decide +kernel
theorem d_Mod_run_132 : decode prog_13_method_42_code 132 = .ok (.iload 4, 2) := by decide +kernel
theorem d_Mod_run_134 : decode prog_13_method_42_code 134 = .ok (.iaload, 1) := by decide +kernel
theorem d_Mod_run_135 : decode prog_13_method_42_code 135 = .ok (.ifCond .eq 19, 3) := by decide +kernel
theorem d_Mod_run_154 : decode prog_13_method_42_code 154 = .ok (.iinc 3 16, 3) := by decide +kernel
theorem d_Mod_run_138 : decode prog_13_method_42_code 138 = .ok (.aload_n 0, 1) := by decide +kernel
theorem d_Mod_run_139 : decode prog_13_method_42_code 139 = .ok (.getfield 353, 3) := by decide +kernel
theorem d_Mod_run_142 : decode prog_13_method_42_code 142 = .ok (.iload 4, 2) := by decide +kernel
theorem d_Mod_run_144 : decode prog_13_method_42_code 144 = .ok (.aload_n 0, 1) := by decide +kernel
theorem d_Mod_run_145 : decode prog_13_method_42_code 145 = .ok (.getfield 349, 3) := by decide +kernel
theorem d_Mod_run_148 : decode prog_13_method_42_code 148 = .ok (.invokevirtual 459, 3) := by decide +kernel
theorem w_2133 : (Cond.methodLink "StowTongueModel" 459 ⟨"StowTongueModel$State", "isSame", "(ILStowTongueModel$State;)Z"⟩ : Cond) ∈ am_tbl := am_w 2133 (by decide +kernel) (by decide +kernel)
set_option maxRecDepth 100000 in
theorem w_2136 : (Cond.code ⟨"StowTongueModel$State", "isSame", "(ILStowTongueModel$State;)Z"⟩ prog_15_method_6_code 5 (some FieldType.boolean) : Cond) ∈ am_tbl := am_w 2136 rfl rfl
theorem l_Mod_459 : am_L "StowTongueModel" 459 2 m_State_isSame := ⟨Or.inl w_2133, w_163, w_2136, ⟨by decide, by decide⟩, by decide +kernel, by decide⟩
theorem w_2134 : (Cond.instanceMethod ⟨"StowTongueModel$State", "isSame", "(ILStowTongueModel$State;)Z"⟩ : Cond) ∈ am_tbl := am_w 2134 (by decide +kernel) (by decide +kernel)
theorem w_2135 : (Cond.selects "StowTongueModel$State" ⟨"StowTongueModel$State", "isSame", "(ILStowTongueModel$State;)Z"⟩ ⟨"StowTongueModel$State", "isSame", "(ILStowTongueModel$State;)Z"⟩ : Cond) ∈ am_tbl := am_w 2135 (by decide +kernel) (by decide +kernel)
theorem d_Mod_run_151 : decode prog_13_method_42_code 151 = .ok (.ifCond .ne 6, 3) := by decide +kernel
theorem d_Mod_run_85 : decode prog_13_method_42_code 85 = .ok (.aload_n 0, 1) := by decide +kernel
theorem d_Mod_run_86 : decode prog_13_method_42_code 86 = .ok (.getfield 374, 3) := by decide +kernel
theorem d_Mod_run_89 : decode prog_13_method_42_code 89 = .ok (.iconst 0, 1) := by decide +kernel
theorem d_Mod_run_90 : decode prog_13_method_42_code 90 = .ok (.iconst 0, 1) := by decide +kernel
theorem d_Mod_run_91 : decode prog_13_method_42_code 91 = .ok (.iconst 0, 1) := by decide +kernel
theorem d_Mod_run_92 : decode prog_13_method_42_code 92 = .ok (.lconst 0, 1) := by decide +kernel
theorem d_Mod_run_93 : decode prog_13_method_42_code 93 = .ok (.lconst 0, 1) := by decide +kernel
theorem d_Mod_run_94 : decode prog_13_method_42_code 94 = .ok (.invokevirtual 114, 3) := by decide +kernel
theorem d_Mod_run_97 : decode prog_13_method_42_code 97 = .ok (.iload_n 2, 1) := by decide +kernel
theorem d_Mod_run_98 : decode prog_13_method_42_code 98 = .ok (.ireturn, 1) := by decide +kernel
