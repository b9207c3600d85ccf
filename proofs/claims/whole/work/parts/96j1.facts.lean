abbrev m_Mod_things : am_M := (⟨"StowTongueModel", "things", "(I)I"⟩, prog_13_method_60_code, 6, (some FieldType.int))
theorem d_Mod_things_0 : decode prog_13_method_60_code 0 = .ok (.iload_n 1, 1) := by decide +kernel
theorem d_Mod_things_1 : decode prog_13_method_60_code 1 = .ok (.tableswitch 423 17 20 #[31, 129, 238, 337], 31) := by decide +kernel
theorem d_Mod_things_32 : decode prog_13_method_60_code 32 = .ok (.aload_n 0, 1) := by decide +kernel
theorem d_Mod_things_33 : decode prog_13_method_60_code 33 = .ok (.getfield 368, 3) := by decide +kernel
theorem d_Mod_things_36 : decode prog_13_method_60_code 36 = .ok (.getfield 515, 3) := by decide +kernel
theorem d_Mod_things_39 : decode prog_13_method_60_code 39 = .ok (.aload_n 0, 1) := by decide +kernel
theorem d_Mod_things_40 : decode prog_13_method_60_code 40 = .ok (.getfield 486, 3) := by decide +kernel
theorem d_Mod_things_43 : decode prog_13_method_60_code 43 = .ok (.iconst 1, 1) := by decide +kernel
theorem d_Mod_things_44 : decode prog_13_method_60_code 44 = .ok (.isub, 1) := by decide +kernel
theorem d_Mod_things_45 : decode prog_13_method_60_code 45 = .ok (.iaload, 1) := by decide +kernel
theorem d_Mod_things_46 : decode prog_13_method_60_code 46 = .ok (.iconst 2, 1) := by decide +kernel
theorem d_Mod_things_47 : decode prog_13_method_60_code 47 = .ok (.if_icmp .ge 5, 3) := by decide +kernel
theorem d_Mod_things_52 : decode prog_13_method_60_code 52 = .ok (.aload_n 0, 1) := by decide +kernel
theorem d_Mod_things_53 : decode prog_13_method_60_code 53 = .ok (.getfield 368, 3) := by decide +kernel
theorem d_Mod_things_56 : decode prog_13_method_60_code 56 = .ok (.aload_n 0, 1) := by decide +kernel
theorem d_Mod_things_57 : decode prog_13_method_60_code 57 = .ok (.getfield 486, 3) := by decide +kernel
theorem d_Mod_things_60 : decode prog_13_method_60_code 60 = .ok (.iconst 1, 1) := by decide +kernel
theorem d_Mod_things_61 : decode prog_13_method_60_code 61 = .ok (.isub, 1) := by decide +kernel
theorem d_Mod_things_62 : decode prog_13_method_60_code 62 = .ok (.iconst 1, 1) := by decide +kernel
theorem d_Mod_things_63 : decode prog_13_method_60_code 63 = .ok (.iconst 0, 1) := by decide +kernel
theorem d_Mod_things_64 : decode prog_13_method_60_code 64 = .ok (.aload_n 0, 1) := by decide +kernel
theorem d_Mod_things_65 : decode prog_13_method_60_code 65 = .ok (.getfield 368, 3) := by decide +kernel
theorem d_Mod_things_68 : decode prog_13_method_60_code 68 = .ok (.getfield 515, 3) := by decide +kernel
theorem d_Mod_things_71 : decode prog_13_method_60_code 71 = .ok (.aload_n 0, 1) := by decide +kernel
theorem d_Mod_things_72 : decode prog_13_method_60_code 72 = .ok (.getfield 486, 3) := by decide +kernel
theorem d_Mod_things_75 : decode prog_13_method_60_code 75 = .ok (.iconst 1, 1) := by decide +kernel
theorem d_Mod_things_76 : decode prog_13_method_60_code 76 = .ok (.isub, 1) := by decide +kernel
theorem d_Mod_things_77 : decode prog_13_method_60_code 77 = .ok (.iaload, 1) := by decide +kernel
theorem d_Mod_things_78 : decode prog_13_method_60_code 78 = .ok (.iconst 2, 1) := by decide +kernel
theorem d_Mod_things_79 : decode prog_13_method_60_code 79 = .ok (.if_icmp .ne 21, 3) := by decide +kernel
theorem d_Mod_things_82 : decode prog_13_method_60_code 82 = .ok (.aload_n 0, 1) := by decide +kernel
theorem d_Mod_things_83 : decode prog_13_method_60_code 83 = .ok (.getfield 368, 3) := by decide +kernel
theorem d_Mod_things_86 : decode prog_13_method_60_code 86 = .ok (.getfield 565, 3) := by decide +kernel
theorem d_Mod_things_89 : decode prog_13_method_60_code 89 = .ok (.aload_n 0, 1) := by decide +kernel
theorem d_Mod_things_90 : decode prog_13_method_60_code 90 = .ok (.getfield 486, 3) := by decide +kernel
theorem d_Mod_things_93 : decode prog_13_method_60_code 93 = .ok (.iconst 1, 1) := by decide +kernel
theorem d_Mod_things_94 : decode prog_13_method_60_code 94 = .ok (.isub, 1) := by decide +kernel
theorem d_Mod_things_95 : decode prog_13_method_60_code 95 = .ok (.iaload, 1) := by decide +kernel
theorem d_Mod_things_96 : decode prog_13_method_60_code 96 = .ok (.i2l, 1) := by decide +kernel
theorem d_Mod_things_97 : decode prog_13_method_60_code 97 = .ok (.goto 27, 3) := by decide +kernel
theorem d_Mod_things_124 : decode prog_13_method_60_code 124 = .ok (.lconst 0, 1) := by decide +kernel
theorem d_Mod_things_125 : decode prog_13_method_60_code 125 = .ok (.invokevirtual 114, 3) := by decide +kernel
theorem d_Mod_things_128 : decode prog_13_method_60_code 128 = .ok (.iconst (-1), 1) := by decide +kernel
theorem d_Mod_things_129 : decode prog_13_method_60_code 129 = .ok (.ireturn, 1) := by decide +kernel
theorem d_Mod_things_100 : decode prog_13_method_60_code 100 = .ok (.aload_n 0, 1) := by decide +kernel
theorem d_Mod_things_101 : decode prog_13_method_60_code 101 = .ok (.getfield 353, 3) := by decide +kernel
theorem d_Mod_things_104 : decode prog_13_method_60_code 104 = .ok (.getfield 558, 3) := by decide +kernel
theorem d_Mod_things_107 : decode prog_13_method_60_code 107 = .ok (.aload_n 0, 1) := by decide +kernel
theorem d_Mod_things_108 : decode prog_13_method_60_code 108 = .ok (.getfield 368, 3) := by decide +kernel
theorem d_Mod_things_111 : decode prog_13_method_60_code 111 = .ok (.getfield 508, 3) := by decide +kernel
theorem d_Mod_things_114 : decode prog_13_method_60_code 114 = .ok (.aload_n 0, 1) := by decide +kernel
theorem d_Mod_things_115 : decode prog_13_method_60_code 115 = .ok (.getfield 486, 3) := by decide +kernel
theorem d_Mod_things_118 : decode prog_13_method_60_code 118 = .ok (.iconst 1, 1) := by decide +kernel
theorem d_Mod_things_119 : decode prog_13_method_60_code 119 = .ok (.isub, 1) := by decide +kernel
theorem d_Mod_things_120 : decode prog_13_method_60_code 120 = .ok (.laload, 1) := by decide +kernel
theorem d_Mod_things_121 : decode prog_13_method_60_code 121 = .ok (.l2i, 1) := by decide +kernel
theorem d_Mod_things_122 : decode prog_13_method_60_code 122 = .ok (.iaload, 1) := by decide +kernel
theorem d_Mod_things_123 : decode prog_13_method_60_code 123 = .ok (.i2l, 1) := by decide +kernel
theorem d_Mod_things_50 : decode prog_13_method_60_code 50 = .ok (.iconst 2, 1) := by decide +kernel
theorem d_Mod_things_51 : decode prog_13_method_60_code 51 = .ok (.ireturn, 1) := by decide +kernel
theorem d_Mod_things_130 : decode prog_13_method_60_code 130 = .ok (.aload_n 0, 1) := by decide +kernel
theorem d_Mod_things_131 : decode prog_13_method_60_code 131 = .ok (.dup, 1) := by decide +kernel
theorem d_Mod_things_132 : decode prog_13_method_60_code 132 = .ok (.getfield 486, 3) := by decide +kernel
theorem d_Mod_things_135 : decode prog_13_method_60_code 135 = .ok (.iconst 1, 1) := by decide +kernel
theorem d_Mod_things_136 : decode prog_13_method_60_code 136 = .ok (.isub, 1) := by decide +kernel
theorem d_Mod_things_137 : decode prog_13_method_60_code 137 = .ok (.putfield 486, 3) := by decide +kernel
theorem d_Mod_things_140 : decode prog_13_method_60_code 140 = .ok (.aload_n 0, 1) := by decide +kernel
theorem d_Mod_things_141 : decode prog_13_method_60_code 141 = .ok (.getfield 368, 3) := by decide +kernel
theorem d_Mod_things_144 : decode prog_13_method_60_code 144 = .ok (.getfield 515, 3) := by decide +kernel
theorem d_Mod_things_147 : decode prog_13_method_60_code 147 = .ok (.aload_n 0, 1) := by decide +kernel
theorem d_Mod_things_148 : decode prog_13_method_60_code 148 = .ok (.getfield 486, 3) := by decide +kernel
theorem d_Mod_things_151 : decode prog_13_method_60_code 151 = .ok (.iconst 1, 1) := by decide +kernel
theorem d_Mod_things_152 : decode prog_13_method_60_code 152 = .ok (.isub, 1) := by decide +kernel
theorem d_Mod_things_153 : decode prog_13_method_60_code 153 = .ok (.iaload, 1) := by decide +kernel
theorem d_Mod_things_154 : decode prog_13_method_60_code 154 = .ok (.iconst 4, 1) := by decide +kernel
theorem d_Mod_things_155 : decode prog_13_method_60_code 155 = .ok (.if_icmp .eq 5, 3) := by decide +kernel
theorem d_Mod_things_160 : decode prog_13_method_60_code 160 = .ok (.aload_n 0, 1) := by decide +kernel
theorem d_Mod_things_161 : decode prog_13_method_60_code 161 = .ok (.getfield 368, 3) := by decide +kernel
theorem d_Mod_things_164 : decode prog_13_method_60_code 164 = .ok (.getfield 508, 3) := by decide +kernel
theorem d_Mod_things_167 : decode prog_13_method_60_code 167 = .ok (.aload_n 0, 1) := by decide +kernel
theorem d_Mod_things_168 : decode prog_13_method_60_code 168 = .ok (.getfield 486, 3) := by decide +kernel
theorem d_Mod_things_171 : decode prog_13_method_60_code 171 = .ok (.iconst 1, 1) := by decide +kernel
theorem d_Mod_things_172 : decode prog_13_method_60_code 172 = .ok (.isub, 1) := by decide +kernel
theorem d_Mod_things_173 : decode prog_13_method_60_code 173 = .ok (.laload, 1) := by decide +kernel
theorem d_Mod_things_174 : decode prog_13_method_60_code 174 = .ok (.l2i, 1) := by decide +kernel
theorem d_Mod_things_175 : decode prog_13_method_60_code 175 = .ok (.istore_n 2, 1) := by decide +kernel
theorem d_Mod_things_176 : decode prog_13_method_60_code 176 = .ok (.aload_n 0, 1) := by decide +kernel
theorem d_Mod_things_177 : decode prog_13_method_60_code 177 = .ok (.getfield 353, 3) := by decide +kernel
theorem d_Mod_things_180 : decode prog_13_method_60_code 180 = .ok (.getfield 558, 3) := by decide +kernel
theorem d_Mod_things_183 : decode prog_13_method_60_code 183 = .ok (.iload_n 2, 1) := by decide +kernel
theorem d_Mod_things_184 : decode prog_13_method_60_code 184 = .ok (.iaload, 1) := by decide +kernel
theorem d_Mod_things_185 : decode prog_13_method_60_code 185 = .ok (.bipush 20, 2) := by decide +kernel
theorem d_Mod_things_187 : decode prog_13_method_60_code 187 = .ok (.if_icmp .ne 5, 3) := by decide +kernel
theorem d_Mod_things_190 : decode prog_13_method_60_code 190 = .ok (.iconst 4, 1) := by decide +kernel
theorem d_Mod_things_191 : decode prog_13_method_60_code 191 = .ok (.ireturn, 1) := by decide +kernel
theorem d_Mod_things_192 : decode prog_13_method_60_code 192 = .ok (.aload_n 0, 1) := by decide +kernel
theorem d_Mod_things_193 : decode prog_13_method_60_code 193 = .ok (.getfield 353, 3) := by decide +kernel
theorem d_Mod_things_196 : decode prog_13_method_60_code 196 = .ok (.getfield 562, 3) := by decide +kernel
theorem d_Mod_things_199 : decode prog_13_method_60_code 199 = .ok (.bipush 20, 2) := by decide +kernel
theorem d_Mod_things_201 : decode prog_13_method_60_code 201 = .ok (.iload_n 2, 1) := by decide +kernel
theorem d_Mod_things_202 : decode prog_13_method_60_code 202 = .ok (.imul, 1) := by decide +kernel
theorem d_Mod_things_203 : decode prog_13_method_60_code 203 = .ok (.aload_n 0, 1) := by decide +kernel
theorem d_Mod_things_204 : decode prog_13_method_60_code 204 = .ok (.getfield 353, 3) := by decide +kernel
theorem d_Mod_things_207 : decode prog_13_method_60_code 207 = .ok (.getfield 558, 3) := by decide +kernel
theorem d_Mod_things_210 : decode prog_13_method_60_code 210 = .ok (.iload_n 2, 1) := by decide +kernel
theorem d_Mod_things_211 : decode prog_13_method_60_code 211 = .ok (.iaload, 1) := by decide +kernel
theorem d_Mod_things_212 : decode prog_13_method_60_code 212 = .ok (.iadd, 1) := by decide +kernel
theorem d_Mod_things_213 : decode prog_13_method_60_code 213 = .ok (.aload_n 0, 1) := by decide +kernel
theorem d_Mod_things_214 : decode prog_13_method_60_code 214 = .ok (.getfield 368, 3) := by decide +kernel
theorem d_Mod_things_217 : decode prog_13_method_60_code 217 = .ok (.aload_n 0, 1) := by decide +kernel
theorem d_Mod_things_218 : decode prog_13_method_60_code 218 = .ok (.getfield 486, 3) := by decide +kernel
theorem d_Mod_things_221 : decode prog_13_method_60_code 221 = .ok (.invokevirtual 505, 3) := by decide +kernel
theorem d_Mod_things_224 : decode prog_13_method_60_code 224 = .ok (.aload_n 0, 1) := by decide +kernel
theorem d_Mod_things_225 : decode prog_13_method_60_code 225 = .ok (.getfield 353, 3) := by decide +kernel
theorem d_Mod_things_228 : decode prog_13_method_60_code 228 = .ok (.getfield 558, 3) := by decide +kernel
theorem d_Mod_things_231 : decode prog_13_method_60_code 231 = .ok (.iload_n 2, 1) := by decide +kernel
theorem d_Mod_things_232 : decode prog_13_method_60_code 232 = .ok (.dup2, 1) := by decide +kernel
theorem d_Mod_things_233 : decode prog_13_method_60_code 233 = .ok (.iaload, 1) := by decide +kernel
theorem d_Mod_things_234 : decode prog_13_method_60_code 234 = .ok (.iconst 1, 1) := by decide +kernel
theorem d_Mod_things_235 : decode prog_13_method_60_code 235 = .ok (.iadd, 1) := by decide +kernel
theorem d_Mod_things_236 : decode prog_13_method_60_code 236 = .ok (.iastore, 1) := by decide +kernel
theorem d_Mod_things_237 : decode prog_13_method_60_code 237 = .ok (.iconst (-1), 1) := by decide +kernel
theorem d_Mod_things_238 : decode prog_13_method_60_code 238 = .ok (.ireturn, 1) := by decide +kernel
theorem d_Mod_things_158 : decode prog_13_method_60_code 158 = .ok (.iconst 2, 1) := by decide +kernel
theorem d_Mod_things_159 : decode prog_13_method_60_code 159 = .ok (.ireturn, 1) := by decide +kernel
theorem d_Mod_things_239 : decode prog_13_method_60_code 239 = .ok (.aload_n 0, 1) := by decide +kernel
theorem d_Mod_things_240 : decode prog_13_method_60_code 240 = .ok (.getfield 368, 3) := by decide +kernel
theorem d_Mod_things_243 : decode prog_13_method_60_code 243 = .ok (.getfield 515, 3) := by decide +kernel
theorem d_Mod_things_246 : decode prog_13_method_60_code 246 = .ok (.aload_n 0, 1) := by decide +kernel
theorem d_Mod_things_247 : decode prog_13_method_60_code 247 = .ok (.getfield 486, 3) := by decide +kernel
theorem d_Mod_things_250 : decode prog_13_method_60_code 250 = .ok (.iconst 1, 1) := by decide +kernel
theorem d_Mod_things_251 : decode prog_13_method_60_code 251 = .ok (.isub, 1) := by decide +kernel
theorem d_Mod_things_252 : decode prog_13_method_60_code 252 = .ok (.iaload, 1) := by decide +kernel
theorem d_Mod_things_253 : decode prog_13_method_60_code 253 = .ok (.iconst 4, 1) := by decide +kernel
theorem d_Mod_things_254 : decode prog_13_method_60_code 254 = .ok (.if_icmp .eq 5, 3) := by decide +kernel
theorem d_Mod_things_259 : decode prog_13_method_60_code 259 = .ok (.aload_n 0, 1) := by decide +kernel
theorem d_Mod_things_260 : decode prog_13_method_60_code 260 = .ok (.getfield 368, 3) := by decide +kernel
theorem d_Mod_things_263 : decode prog_13_method_60_code 263 = .ok (.getfield 508, 3) := by decide +kernel
theorem d_Mod_things_266 : decode prog_13_method_60_code 266 = .ok (.aload_n 0, 1) := by decide +kernel
theorem d_Mod_things_267 : decode prog_13_method_60_code 267 = .ok (.getfield 486, 3) := by decide +kernel
theorem d_Mod_things_270 : decode prog_13_method_60_code 270 = .ok (.iconst 1, 1) := by decide +kernel
theorem d_Mod_things_271 : decode prog_13_method_60_code 271 = .ok (.isub, 1) := by decide +kernel
theorem d_Mod_things_272 : decode prog_13_method_60_code 272 = .ok (.laload, 1) := by decide +kernel
theorem d_Mod_things_273 : decode prog_13_method_60_code 273 = .ok (.l2i, 1) := by decide +kernel
theorem d_Mod_things_274 : decode prog_13_method_60_code 274 = .ok (.istore_n 2, 1) := by decide +kernel
theorem d_Mod_things_275 : decode prog_13_method_60_code 275 = .ok (.aload_n 0, 1) := by decide +kernel
theorem d_Mod_things_276 : decode prog_13_method_60_code 276 = .ok (.getfield 353, 3) := by decide +kernel
theorem d_Mod_things_279 : decode prog_13_method_60_code 279 = .ok (.getfield 558, 3) := by decide +kernel
theorem d_Mod_things_282 : decode prog_13_method_60_code 282 = .ok (.iload_n 2, 1) := by decide +kernel
theorem d_Mod_things_283 : decode prog_13_method_60_code 283 = .ok (.iaload, 1) := by decide +kernel
theorem d_Mod_things_284 : decode prog_13_method_60_code 284 = .ok (.ifCond .ne 5, 3) := by decide +kernel
theorem d_Mod_things_287 : decode prog_13_method_60_code 287 = .ok (.iconst 3, 1) := by decide +kernel
theorem d_Mod_things_288 : decode prog_13_method_60_code 288 = .ok (.ireturn, 1) := by decide +kernel
theorem d_Mod_things_289 : decode prog_13_method_60_code 289 = .ok (.aload_n 0, 1) := by decide +kernel
theorem d_Mod_things_290 : decode prog_13_method_60_code 290 = .ok (.getfield 353, 3) := by decide +kernel
theorem d_Mod_things_293 : decode prog_13_method_60_code 293 = .ok (.getfield 558, 3) := by decide +kernel
theorem d_Mod_things_296 : decode prog_13_method_60_code 296 = .ok (.iload_n 2, 1) := by decide +kernel
theorem d_Mod_things_297 : decode prog_13_method_60_code 297 = .ok (.dup2, 1) := by decide +kernel
theorem d_Mod_things_298 : decode prog_13_method_60_code 298 = .ok (.iaload, 1) := by decide +kernel
theorem d_Mod_things_299 : decode prog_13_method_60_code 299 = .ok (.iconst 1, 1) := by decide +kernel
theorem d_Mod_things_300 : decode prog_13_method_60_code 300 = .ok (.isub, 1) := by decide +kernel
theorem d_Mod_things_301 : decode prog_13_method_60_code 301 = .ok (.iastore, 1) := by decide +kernel
theorem d_Mod_things_302 : decode prog_13_method_60_code 302 = .ok (.aload_n 0, 1) := by decide +kernel
theorem d_Mod_things_303 : decode prog_13_method_60_code 303 = .ok (.getfield 368, 3) := by decide +kernel
theorem d_Mod_things_306 : decode prog_13_method_60_code 306 = .ok (.aload_n 0, 1) := by decide +kernel
theorem d_Mod_things_307 : decode prog_13_method_60_code 307 = .ok (.getfield 486, 3) := by decide +kernel
theorem d_Mod_things_310 : decode prog_13_method_60_code 310 = .ok (.iconst 1, 1) := by decide +kernel
theorem d_Mod_things_311 : decode prog_13_method_60_code 311 = .ok (.isub, 1) := by decide +kernel
theorem d_Mod_things_312 : decode prog_13_method_60_code 312 = .ok (.aload_n 0, 1) := by decide +kernel
theorem d_Mod_things_313 : decode prog_13_method_60_code 313 = .ok (.getfield 353, 3) := by decide +kernel
theorem d_Mod_things_316 : decode prog_13_method_60_code 316 = .ok (.getfield 562, 3) := by decide +kernel
theorem d_Mod_things_319 : decode prog_13_method_60_code 319 = .ok (.bipush 20, 2) := by decide +kernel
theorem d_Mod_things_321 : decode prog_13_method_60_code 321 = .ok (.iload_n 2, 1) := by decide +kernel
theorem d_Mod_things_322 : decode prog_13_method_60_code 322 = .ok (.imul, 1) := by decide +kernel
theorem d_Mod_things_323 : decode prog_13_method_60_code 323 = .ok (.aload_n 0, 1) := by decide +kernel
theorem d_Mod_things_324 : decode prog_13_method_60_code 324 = .ok (.getfield 353, 3) := by decide +kernel
theorem d_Mod_things_327 : decode prog_13_method_60_code 327 = .ok (.getfield 558, 3) := by decide +kernel
theorem d_Mod_things_330 : decode prog_13_method_60_code 330 = .ok (.iload_n 2, 1) := by decide +kernel
theorem d_Mod_things_331 : decode prog_13_method_60_code 331 = .ok (.iaload, 1) := by decide +kernel
theorem d_Mod_things_332 : decode prog_13_method_60_code 332 = .ok (.iadd, 1) := by decide +kernel
theorem d_Mod_things_333 : decode prog_13_method_60_code 333 = .ok (.invokevirtual 505, 3) := by decide +kernel
theorem d_Mod_things_336 : decode prog_13_method_60_code 336 = .ok (.iconst (-1), 1) := by decide +kernel
theorem d_Mod_things_337 : decode prog_13_method_60_code 337 = .ok (.ireturn, 1) := by decide +kernel
theorem d_Mod_things_257 : decode prog_13_method_60_code 257 = .ok (.iconst 2, 1) := by decide +kernel
theorem d_Mod_things_258 : decode prog_13_method_60_code 258 = .ok (.ireturn, 1) := by decide +kernel
theorem d_Mod_things_338 : decode prog_13_method_60_code 338 = .ok (.aload_n 0, 1) := by decide +kernel
theorem d_Mod_things_339 : decode prog_13_method_60_code 339 = .ok (.invokevirtual 516, 3) := by decide +kernel
theorem d_Mod_things_342 : decode prog_13_method_60_code 342 = .ok (.istore_n 3, 1) := by decide +kernel
theorem d_Mod_things_343 : decode prog_13_method_60_code 343 = .ok (.aload_n 0, 1) := by decide +kernel
theorem d_Mod_things_344 : decode prog_13_method_60_code 344 = .ok (.iconst 3, 1) := by decide +kernel
theorem d_Mod_things_345 : decode prog_13_method_60_code 345 = .ok (.invokevirtual 581, 3) := by decide +kernel
theorem w_2129 : (Cond.methodLink "StowTongueModel" 581 ⟨"StowTongueModel", "make", "(I)I"⟩ : Cond) ∈ am_tbl := am_w 2129 (by decide +kernel) (by decide +kernel)
set_option maxRecDepth 100000 in
theorem w_2132 : (Cond.code ⟨"StowTongueModel", "make", "(I)I"⟩ prog_13_method_59_code 3 (some FieldType.int) : Cond) ∈ am_tbl := am_w 2132 rfl rfl
theorem l_Mod_581 : am_L "StowTongueModel" 581 1 m_Mod_make := ⟨Or.inl w_2129, w_160, w_2132, ⟨by decide, by decide⟩, by decide +kernel, by decide⟩
theorem w_2131 : (Cond.instanceMethod ⟨"StowTongueModel", "make", "(I)I"⟩ : Cond) ∈ am_tbl := am_w 2131 (by decide +kernel) (by decide +kernel)
theorem w_139 : (Cond.selects "StowTongueModel" ⟨"StowTongueModel", "make", "(I)I"⟩ ⟨"StowTongueModel", "make", "(I)I"⟩ : Cond) ∈ am_tbl := am_w 139 (by decide +kernel) (by decide +kernel)
theorem d_Mod_things_348 : decode prog_13_method_60_code 348 = .ok (.istore_n 2, 1) := by decide +kernel
theorem d_Mod_things_349 : decode prog_13_method_60_code 349 = .ok (.iload_n 2, 1) := by decide +kernel
theorem d_Mod_things_350 : decode prog_13_method_60_code 350 = .ok (.ifCond .ge 6, 3) := by decide +kernel
theorem d_Mod_things_356 : decode prog_13_method_60_code 356 = .ok (.aload_n 0, 1) := by decide +kernel
theorem d_Mod_things_357 : decode prog_13_method_60_code 357 = .ok (.dup, 1) := by decide +kernel
theorem d_Mod_things_358 : decode prog_13_method_60_code 358 = .ok (.getfield 486, 3) := by decide +kernel
theorem d_Mod_things_361 : decode prog_13_method_60_code 361 = .ok (.iload_n 3, 1) := by decide +kernel
theorem d_Mod_things_362 : decode prog_13_method_60_code 362 = .ok (.isub, 1) := by decide +kernel
theorem d_Mod_things_363 : decode prog_13_method_60_code 363 = .ok (.putfield 486, 3) := by decide +kernel
theorem d_Mod_things_366 : decode prog_13_method_60_code 366 = .ok (.iconst 0, 1) := by decide +kernel
theorem d_Mod_things_367 : decode prog_13_method_60_code 367 = .ok (.istore 4, 2) := by decide +kernel
theorem d_Mod_things_369 : decode prog_13_method_60_code 369 = .ok (.iload 4, 2) := by decide +kernel
theorem d_Mod_things_371 : decode prog_13_method_60_code 371 = .ok (.iload_n 3, 1) := by decide +kernel
theorem d_Mod_things_372 : decode prog_13_method_60_code 372 = .ok (.if_icmp .ge 43, 3) := by decide +kernel
theorem d_Mod_things_415 : decode prog_13_method_60_code 415 = .ok (.aload_n 0, 1) := by decide +kernel
theorem d_Mod_things_416 : decode prog_13_method_60_code 416 = .ok (.iconst 3, 1) := by decide +kernel
theorem d_Mod_things_417 : decode prog_13_method_60_code 417 = .ok (.iload_n 2, 1) := by decide +kernel
theorem d_Mod_things_418 : decode prog_13_method_60_code 418 = .ok (.i2l, 1) := by decide +kernel
theorem d_Mod_things_419 : decode prog_13_method_60_code 419 = .ok (.invokevirtual 542, 3) := by decide +kernel
theorem w_2084 : (Cond.methodLink "StowTongueModel" 542 ⟨"StowTongueModel", "push", "(IJ)V"⟩ : Cond) ∈ am_tbl := am_w 2084 (by decide +kernel) (by decide +kernel)
set_option maxRecDepth 100000 in
theorem w_2087 : (Cond.code ⟨"StowTongueModel", "push", "(IJ)V"⟩ prog_13_method_49_code 4 none : Cond) ∈ am_tbl := am_w 2087 rfl rfl
theorem l_Mod_542 : am_L "StowTongueModel" 542 2 m_Mod_push := ⟨Or.inl w_2084, w_160, w_2087, ⟨by decide, by decide⟩, by decide +kernel, by decide⟩
theorem w_2086 : (Cond.instanceMethod ⟨"StowTongueModel", "push", "(IJ)V"⟩ : Cond) ∈ am_tbl := am_w 2086 (by decide +kernel) (by decide +kernel)
theorem w_130 : (Cond.selects "StowTongueModel" ⟨"StowTongueModel", "push", "(IJ)V"⟩ ⟨"StowTongueModel", "push", "(IJ)V"⟩ : Cond) ∈ am_tbl := am_w 130 (by decide +kernel) (by decide +kernel)
theorem d_Mod_things_422 : decode prog_13_method_60_code 422 = .ok (.iconst (-1), 1) := by decide +kernel
theorem d_Mod_things_423 : decode prog_13_method_60_code 423 = .ok (.ireturn, 1) := by decide +kernel
theorem d_Mod_things_375 : decode prog_13_method_60_code 375 = .ok (.aload_n 0, 1) := by decide +kernel
theorem d_Mod_things_376 : decode prog_13_method_60_code 376 = .ok (.iload_n 2, 1) := by decide +kernel
theorem d_Mod_things_377 : decode prog_13_method_60_code 377 = .ok (.aload_n 0, 1) := by decide +kernel
theorem d_Mod_things_378 : decode prog_13_method_60_code 378 = .ok (.aload_n 0, 1) := by decide +kernel
theorem d_Mod_things_379 : decode prog_13_method_60_code 379 = .ok (.invokevirtual 516, 3) := by decide +kernel
theorem d_Mod_things_382 : decode prog_13_method_60_code 382 = .ok (.invokevirtual 518, 3) := by decide +kernel
theorem d_Mod_things_385 : decode prog_13_method_60_code 385 = .ok (.aload_n 0, 1) := by decide +kernel
theorem d_Mod_things_386 : decode prog_13_method_60_code 386 = .ok (.getfield 368, 3) := by decide +kernel
theorem d_Mod_things_389 : decode prog_13_method_60_code 389 = .ok (.aload_n 0, 1) := by decide +kernel
theorem d_Mod_things_390 : decode prog_13_method_60_code 390 = .ok (.getfield 486, 3) := by decide +kernel
theorem d_Mod_things_393 : decode prog_13_method_60_code 393 = .ok (.iload 4, 2) := by decide +kernel
theorem d_Mod_things_395 : decode prog_13_method_60_code 395 = .ok (.iadd, 1) := by decide +kernel
theorem d_Mod_things_396 : decode prog_13_method_60_code 396 = .ok (.invokevirtual 566, 3) := by decide +kernel
theorem d_Mod_things_399 : decode prog_13_method_60_code 399 = .ok (.istore 5, 2) := by decide +kernel
theorem d_Mod_things_401 : decode prog_13_method_60_code 401 = .ok (.iload 5, 2) := by decide +kernel
theorem d_Mod_things_403 : decode prog_13_method_60_code 403 = .ok (.ifCond .le 6, 3) := by decide +kernel
theorem d_Mod_things_409 : decode prog_13_method_60_code 409 = .ok (.iinc 4 1, 3) := by decide +kernel
theorem d_Mod_things_412 : decode prog_13_method_60_code 412 = .ok (.goto (-43), 3) := by decide +kernel
theorem d_Mod_things_406 : decode prog_13_method_60_code 406 = .ok (.iload 5, 2) := by decide +kernel
theorem d_Mod_things_408 : decode prog_13_method_60_code 408 = .ok (.ireturn, 1) := by decide +kernel
theorem d_Mod_things_353 : decode prog_13_method_60_code 353 = .ok (.bipush 8, 2) := by decide +kernel
theorem d_Mod_things_355 : decode prog_13_method_60_code 355 = .ok (.ireturn, 1) := by decide +kernel
theorem d_Mod_things_424 : decode prog_13_method_60_code 424 = .ok (.aload_n 0, 1) := by decide +kernel
theorem d_Mod_things_425 : decode prog_13_method_60_code 425 = .ok (.invokevirtual 516, 3) := by decide +kernel
theorem d_Mod_things_428 : decode prog_13_method_60_code 428 = .ok (.istore_n 3, 1) := by decide +kernel
theorem d_Mod_things_429 : decode prog_13_method_60_code 429 = .ok (.aload_n 0, 1) := by decide +kernel
theorem d_Mod_things_430 : decode prog_13_method_60_code 430 = .ok (.iconst 4, 1) := by decide +kernel
theorem d_Mod_things_431 : decode prog_13_method_60_code 431 = .ok (.invokevirtual 581, 3) := by decide +kernel
theorem d_Mod_things_434 : decode prog_13_method_60_code 434 = .ok (.istore_n 2, 1) := by decide +kernel
theorem d_Mod_things_435 : decode prog_13_method_60_code 435 = .ok (.iload_n 2, 1) := by decide +kernel
theorem d_Mod_things_436 : decode prog_13_method_60_code 436 = .ok (.ifCond .ge 6, 3) := by decide +kernel
theorem d_Mod_things_442 : decode prog_13_method_60_code 442 = .ok (.iload_n 3, 1) := by decide +kernel
theorem d_Mod_things_443 : decode prog_13_method_60_code 443 = .ok (.bipush 20, 2) := by decide +kernel
theorem d_Mod_things_445 : decode prog_13_method_60_code 445 = .ok (.if_icmp .le 5, 3) := by decide +kernel
theorem d_Mod_things_450 : decode prog_13_method_60_code 450 = .ok (.aload_n 0, 1) := by decide +kernel
theorem d_Mod_things_451 : decode prog_13_method_60_code 451 = .ok (.dup, 1) := by decide +kernel
theorem d_Mod_things_452 : decode prog_13_method_60_code 452 = .ok (.getfield 486, 3) := by decide +kernel
theorem d_Mod_things_455 : decode prog_13_method_60_code 455 = .ok (.iload_n 3, 1) := by decide +kernel
theorem d_Mod_things_456 : decode prog_13_method_60_code 456 = .ok (.isub, 1) := by decide +kernel
theorem d_Mod_things_457 : decode prog_13_method_60_code 457 = .ok (.putfield 486, 3) := by decide +kernel
theorem d_Mod_things_460 : decode prog_13_method_60_code 460 = .ok (.iconst 0, 1) := by decide +kernel
theorem d_Mod_things_461 : decode prog_13_method_60_code 461 = .ok (.istore 4, 2) := by decide +kernel
theorem d_Mod_things_463 : decode prog_13_method_60_code 463 = .ok (.iload 4, 2) := by decide +kernel
theorem d_Mod_things_465 : decode prog_13_method_60_code 465 = .ok (.iload_n 3, 1) := by decide +kernel
theorem d_Mod_things_466 : decode prog_13_method_60_code 466 = .ok (.if_icmp .ge 37, 3) := by decide +kernel
theorem d_Mod_things_503 : decode prog_13_method_60_code 503 = .ok (.aload_n 0, 1) := by decide +kernel
theorem d_Mod_things_504 : decode prog_13_method_60_code 504 = .ok (.getfield 353, 3) := by decide +kernel
theorem d_Mod_things_507 : decode prog_13_method_60_code 507 = .ok (.getfield 558, 3) := by decide +kernel
theorem d_Mod_things_510 : decode prog_13_method_60_code 510 = .ok (.iload_n 2, 1) := by decide +kernel
theorem d_Mod_things_511 : decode prog_13_method_60_code 511 = .ok (.iload_n 3, 1) := by decide +kernel
theorem d_Mod_things_512 : decode prog_13_method_60_code 512 = .ok (.iastore, 1) := by decide +kernel
theorem d_Mod_things_513 : decode prog_13_method_60_code 513 = .ok (.aload_n 0, 1) := by decide +kernel
theorem d_Mod_things_514 : decode prog_13_method_60_code 514 = .ok (.iconst 4, 1) := by decide +kernel
theorem d_Mod_things_515 : decode prog_13_method_60_code 515 = .ok (.iload_n 2, 1) := by decide +kernel
theorem d_Mod_things_516 : decode prog_13_method_60_code 516 = .ok (.i2l, 1) := by decide +kernel
theorem d_Mod_things_517 : decode prog_13_method_60_code 517 = .ok (.invokevirtual 542, 3) := by decide +kernel
theorem d_Mod_things_520 : decode prog_13_method_60_code 520 = .ok (.iconst (-1), 1) := by decide +kernel
theorem d_Mod_things_521 : decode prog_13_method_60_code 521 = .ok (.ireturn, 1) := by decide +kernel
theorem d_Mod_things_469 : decode prog_13_method_60_code 469 = .ok (.aload_n 0, 1) := by decide +kernel
theorem d_Mod_things_470 : decode prog_13_method_60_code 470 = .ok (.getfield 353, 3) := by decide +kernel
theorem d_Mod_things_473 : decode prog_13_method_60_code 473 = .ok (.getfield 562, 3) := by decide +kernel
theorem d_Mod_things_476 : decode prog_13_method_60_code 476 = .ok (.bipush 20, 2) := by decide +kernel
theorem d_Mod_things_478 : decode prog_13_method_60_code 478 = .ok (.iload_n 2, 1) := by decide +kernel
theorem d_Mod_things_479 : decode prog_13_method_60_code 479 = .ok (.imul, 1) := by decide +kernel
theorem d_Mod_things_480 : decode prog_13_method_60_code 480 = .ok (.iload 4, 2) := by decide +kernel
theorem d_Mod_things_482 : decode prog_13_method_60_code 482 = .ok (.iadd, 1) := by decide +kernel
theorem d_Mod_things_483 : decode prog_13_method_60_code 483 = .ok (.aload_n 0, 1) := by decide +kernel
theorem d_Mod_things_484 : decode prog_13_method_60_code 484 = .ok (.getfield 368, 3) := by decide +kernel
theorem d_Mod_things_487 : decode prog_13_method_60_code 487 = .ok (.aload_n 0, 1) := by decide +kernel
theorem d_Mod_things_488 : decode prog_13_method_60_code 488 = .ok (.getfield 486, 3) := by decide +kernel
theorem d_Mod_things_491 : decode prog_13_method_60_code 491 = .ok (.iload 4, 2) := by decide +kernel
theorem d_Mod_things_493 : decode prog_13_method_60_code 493 = .ok (.iadd, 1) := by decide +kernel
theorem d_Mod_things_494 : decode prog_13_method_60_code 494 = .ok (.invokevirtual 505, 3) := by decide +kernel
theorem d_Mod_things_497 : decode prog_13_method_60_code 497 = .ok (.iinc 4 1, 3) := by decide +kernel
theorem d_Mod_things_500 : decode prog_13_method_60_code 500 = .ok (.goto (-37), 3) := by decide +kernel
theorem d_Mod_things_448 : decode prog_13_method_60_code 448 = .ok (.iconst 4, 1) := by decide +kernel
theorem d_Mod_things_449 : decode prog_13_method_60_code 449 = .ok (.ireturn, 1) := by decide +kernel
theorem d_Mod_things_439 : decode prog_13_method_60_code 439 = .ok (.bipush 8, 2) := by decide +kernel
theorem d_Mod_things_441 : decode prog_13_method_60_code 441 = .ok (.ireturn, 1) := by decide +kernel
abbrev m_Mod_wait : am_M := (⟨"StowTongueModel", "wait", "(I)V"⟩, prog_13_method_43_code, 4, none)
theorem d_Mod_wait_0 : decode prog_13_method_43_code 0 = .ok (.aload_n 0, 1) := by decide +kernel
theorem d_Mod_wait_1 : decode prog_13_method_43_code 1 = .ok (.dup, 1) := by decide +kernel
theorem d_Mod_wait_2 : decode prog_13_method_43_code 2 = .ok (.getfield 480, 3) := by decide +kernel
theorem d_Mod_wait_5 : decode prog_13_method_43_code 5 = .ok (.iload_n 1, 1) := by decide +kernel
theorem d_Mod_wait_6 : decode prog_13_method_43_code 6 = .ok (.iadd, 1) := by decide +kernel
theorem d_Mod_wait_7 : decode prog_13_method_43_code 7 = .ok (.putfield 480, 3) := by decide +kernel
theorem d_Mod_wait_10 : decode prog_13_method_43_code 10 = .ok (.aload_n 0, 1) := by decide +kernel
theorem d_Mod_wait_11 : decode prog_13_method_43_code 11 = .ok (.getfield 409, 3) := by decide +kernel
theorem d_Mod_wait_14 : decode prog_13_method_43_code 14 = .ok (.bipush 8, 2) := by decide +kernel
theorem d_Mod_wait_16 : decode prog_13_method_43_code 16 = .ok (.if_icmp .ne 69, 3) := by decide +kernel
theorem d_Mod_wait_19 : decode prog_13_method_43_code 19 = .ok (.aload_n 0, 1) := by decide +kernel
theorem d_Mod_wait_20 : decode prog_13_method_43_code 20 = .ok (.getfield 356, 3) := by decide +kernel
theorem d_Mod_wait_23 : decode prog_13_method_43_code 23 = .ok (.aload_n 0, 1) := by decide +kernel
theorem d_Mod_wait_24 : decode prog_13_method_43_code 24 = .ok (.getfield 359, 3) := by decide +kernel
theorem d_Mod_wait_27 : decode prog_13_method_43_code 27 = .ok (.iconst 0, 1) := by decide +kernel
theorem d_Mod_wait_28 : decode prog_13_method_43_code 28 = .ok (.aaload, 1) := by decide +kernel
theorem d_Mod_wait_29 : decode prog_13_method_43_code 29 = .ok (.invokevirtual 448, 3) := by decide +kernel
theorem d_Mod_wait_32 : decode prog_13_method_43_code 32 = .ok (.aload_n 0, 1) := by decide +kernel
theorem d_Mod_wait_33 : decode prog_13_method_43_code 33 = .ok (.getfield 359, 3) := by decide +kernel
theorem d_Mod_wait_36 : decode prog_13_method_43_code 36 = .ok (.iconst 0, 1) := by decide +kernel
theorem d_Mod_wait_37 : decode prog_13_method_43_code 37 = .ok (.aaload, 1) := by decide +kernel
theorem d_Mod_wait_38 : decode prog_13_method_43_code 38 = .ok (.astore_n 2, 1) := by decide +kernel
theorem d_Mod_wait_39 : decode prog_13_method_43_code 39 = .ok (.iconst 1, 1) := by decide +kernel
theorem d_Mod_wait_40 : decode prog_13_method_43_code 40 = .ok (.istore_n 3, 1) := by decide +kernel
theorem d_Mod_wait_41 : decode prog_13_method_43_code 41 = .ok (.iload_n 3, 1) := by decide +kernel
theorem d_Mod_wait_42 : decode prog_13_method_43_code 42 = .ok (.bipush 8, 2) := by decide +kernel
theorem d_Mod_wait_44 : decode prog_13_method_43_code 44 = .ok (.if_icmp .ge 23, 3) := by decide +kernel
theorem d_Mod_wait_67 : decode prog_13_method_43_code 67 = .ok (.aload_n 0, 1) := by decide +kernel
theorem d_Mod_wait_68 : decode prog_13_method_43_code 68 = .ok (.getfield 359, 3) := by decide +kernel
theorem d_Mod_wait_71 : decode prog_13_method_43_code 71 = .ok (.bipush 7, 2) := by decide +kernel
theorem d_Mod_wait_73 : decode prog_13_method_43_code 73 = .ok (.aload_n 2, 1) := by decide +kernel
theorem d_Mod_wait_74 : decode prog_13_method_43_code 74 = .ok (.aastore, 1) := by decide +kernel
theorem d_Mod_wait_75 : decode prog_13_method_43_code 75 = .ok (.aload_n 0, 1) := by decide +kernel
theorem d_Mod_wait_76 : decode prog_13_method_43_code 76 = .ok (.dup, 1) := by decide +kernel
theorem d_Mod_wait_77 : decode prog_13_method_43_code 77 = .ok (.getfield 409, 3) := by decide +kernel
theorem d_Mod_wait_80 : decode prog_13_method_43_code 80 = .ok (.iconst 1, 1) := by decide +kernel
theorem d_Mod_wait_81 : decode prog_13_method_43_code 81 = .ok (.isub, 1) := by decide +kernel
theorem d_Mod_wait_82 : decode prog_13_method_43_code 82 = .ok (.putfield 409, 3) := by decide +kernel
theorem d_Mod_wait_85 : decode prog_13_method_43_code 85 = .ok (.aload_n 0, 1) := by decide +kernel
theorem d_Mod_wait_86 : decode prog_13_method_43_code 86 = .ok (.getfield 359, 3) := by decide +kernel
theorem d_Mod_wait_89 : decode prog_13_method_43_code 89 = .ok (.aload_n 0, 1) := by decide +kernel
theorem d_Mod_wait_90 : decode prog_13_method_43_code 90 = .ok (.getfield 409, 3) := by decide +kernel
theorem d_Mod_wait_93 : decode prog_13_method_43_code 93 = .ok (.aaload, 1) := by decide +kernel
theorem d_Mod_wait_94 : decode prog_13_method_43_code 94 = .ok (.aload_n 0, 1) := by decide +kernel
theorem d_Mod_wait_95 : decode prog_13_method_43_code 95 = .ok (.getfield 349, 3) := by decide +kernel
theorem d_Mod_wait_98 : decode prog_13_method_43_code 98 = .ok (.invokevirtual 448, 3) := by decide +kernel
theorem d_Mod_wait_101 : decode prog_13_method_43_code 101 = .ok (.aload_n 0, 1) := by decide +kernel
theorem d_Mod_wait_102 : decode prog_13_method_43_code 102 = .ok (.getfield 359, 3) := by decide +kernel
theorem d_Mod_wait_105 : decode prog_13_method_43_code 105 = .ok (.aload_n 0, 1) := by decide +kernel
theorem d_Mod_wait_106 : decode prog_13_method_43_code 106 = .ok (.getfield 409, 3) := by decide +kernel
theorem d_Mod_wait_109 : decode prog_13_method_43_code 109 = .ok (.aaload, 1) := by decide +kernel
theorem d_Mod_wait_110 : decode prog_13_method_43_code 110 = .ok (.iload_n 1, 1) := by decide +kernel
theorem d_Mod_wait_111 : decode prog_13_method_43_code 111 = .ok (.putfield 483, 3) := by decide +kernel
theorem d_Mod_wait_114 : decode prog_13_method_43_code 114 = .ok (.aload_n 0, 1) := by decide +kernel
theorem d_Mod_wait_115 : decode prog_13_method_43_code 115 = .ok (.dup, 1) := by decide +kernel
theorem d_Mod_wait_116 : decode prog_13_method_43_code 116 = .ok (.getfield 409, 3) := by decide +kernel
theorem d_Mod_wait_119 : decode prog_13_method_43_code 119 = .ok (.iconst 1, 1) := by decide +kernel
theorem d_Mod_wait_120 : decode prog_13_method_43_code 120 = .ok (.iadd, 1) := by decide +kernel
theorem d_Mod_wait_121 : decode prog_13_method_43_code 121 = .ok (.putfield 409, 3) := by decide +kernel
theorem d_Mod_wait_124 : decode prog_13_method_43_code 124 = .ok (.return_, 1) := by decide +kernel
theorem d_Mod_wait_47 : decode prog_13_method_43_code 47 = .ok (.aload_n 0, 1) := by decide +kernel
theorem d_Mod_wait_48 : decode prog_13_method_43_code 48 = .ok (.getfield 359, 3) := by decide +kernel
theorem d_Mod_wait_51 : decode prog_13_method_43_code 51 = .ok (.iload_n 3, 1) := by decide +kernel
theorem d_Mod_wait_52 : decode prog_13_method_43_code 52 = .ok (.iconst 1, 1) := by decide +kernel
theorem d_Mod_wait_53 : decode prog_13_method_43_code 53 = .ok (.isub, 1) := by decide +kernel
theorem d_Mod_wait_54 : decode prog_13_method_43_code 54 = .ok (.aload_n 0, 1) := by decide +kernel
theorem d_Mod_wait_55 : decode prog_13_method_43_code 55 = .ok (.getfield 359, 3) := by decide +kernel
theorem d_Mod_wait_58 : decode prog_13_method_43_code 58 = .ok (.iload_n 3, 1) := by decide +kernel
theorem d_Mod_wait_59 : decode prog_13_method_43_code 59 = .ok (.aaload, 1) := by decide +kernel
theorem d_Mod_wait_60 : decode prog_13_method_43_code 60 = .ok (.aastore, 1) := by decide +kernel
theorem d_Mod_wait_61 : decode prog_13_method_43_code 61 = .ok (.iinc 3 1, 3) := by decide +kernel
theorem d_Mod_wait_64 : decode prog_13_method_43_code 64 = .ok (.goto (-23), 3) := by decide +kernel
abbrev m_Mod_crash : am_M := (⟨"StowTongueModel", "crash", "(I)I"⟩, prog_13_method_68_code, 5, (some FieldType.int))
theorem d_Mod_crash_0 : decode prog_13_method_68_code 0 = .ok (.iload_n 1, 1) := by decide +kernel
theorem d_Mod_crash_1 : decode prog_13_method_68_code 1 = .ok (.ifCond .ge 5, 3) := by decide +kernel
theorem d_Mod_crash_6 : decode prog_13_method_68_code 6 = .ok (.iconst 0, 1) := by decide +kernel
theorem d_Mod_crash_7 : decode prog_13_method_68_code 7 = .ok (.istore_n 2, 1) := by decide +kernel
theorem d_Mod_crash_8 : decode prog_13_method_68_code 8 = .ok (.iconst 0, 1) := by decide +kernel
theorem d_Mod_crash_9 : decode prog_13_method_68_code 9 = .ok (.istore_n 3, 1) := by decide +kernel
theorem d_Mod_crash_10 : decode prog_13_method_68_code 10 = .ok (.iload_n 2, 1) := by decide +kernel
theorem d_Mod_crash_11 : decode prog_13_method_68_code 11 = .ok (.aload_n 0, 1) := by decide +kernel
theorem d_Mod_crash_12 : decode prog_13_method_68_code 12 = .ok (.getfield 409, 3) := by decide +kernel
theorem d_Mod_crash_15 : decode prog_13_method_68_code 15 = .ok (.if_icmp .ge 36, 3) := by decide +kernel
theorem d_Mod_crash_51 : decode prog_13_method_68_code 51 = .ok (.iload_n 2, 1) := by decide +kernel
theorem d_Mod_crash_52 : decode prog_13_method_68_code 52 = .ok (.istore 4, 2) := by decide +kernel
theorem d_Mod_crash_54 : decode prog_13_method_68_code 54 = .ok (.iload 4, 2) := by decide +kernel
theorem d_Mod_crash_56 : decode prog_13_method_68_code 56 = .ok (.aload_n 0, 1) := by decide +kernel
theorem d_Mod_crash_57 : decode prog_13_method_68_code 57 = .ok (.getfield 409, 3) := by decide +kernel
theorem d_Mod_crash_60 : decode prog_13_method_68_code 60 = .ok (.if_icmp .ge 28, 3) := by decide +kernel
theorem d_Mod_crash_88 : decode prog_13_method_68_code 88 = .ok (.aload_n 0, 1) := by decide +kernel
theorem d_Mod_crash_89 : decode prog_13_method_68_code 89 = .ok (.getfield 349, 3) := by decide +kernel
theorem d_Mod_crash_92 : decode prog_13_method_68_code 92 = .ok (.iload_n 2, 1) := by decide +kernel
theorem d_Mod_crash_93 : decode prog_13_method_68_code 93 = .ok (.ifCond .ne 10, 3) := by decide +kernel
theorem d_Mod_crash_96 : decode prog_13_method_68_code 96 = .ok (.aload_n 0, 1) := by decide +kernel
theorem d_Mod_crash_97 : decode prog_13_method_68_code 97 = .ok (.getfield 356, 3) := by decide +kernel
theorem d_Mod_crash_100 : decode prog_13_method_68_code 100 = .ok (.goto 11, 3) := by decide +kernel
theorem d_Mod_crash_111 : decode prog_13_method_68_code 111 = .ok (.invokevirtual 448, 3) := by decide +kernel
theorem d_Mod_crash_114 : decode prog_13_method_68_code 114 = .ok (.aload_n 0, 1) := by decide +kernel
theorem d_Mod_crash_115 : decode prog_13_method_68_code 115 = .ok (.getfield 356, 3) := by decide +kernel
theorem d_Mod_crash_118 : decode prog_13_method_68_code 118 = .ok (.aload_n 0, 1) := by decide +kernel
theorem d_Mod_crash_119 : decode prog_13_method_68_code 119 = .ok (.getfield 349, 3) := by decide +kernel
theorem d_Mod_crash_122 : decode prog_13_method_68_code 122 = .ok (.invokevirtual 448, 3) := by decide +kernel
theorem d_Mod_crash_125 : decode prog_13_method_68_code 125 = .ok (.aload_n 0, 1) := by decide +kernel
theorem d_Mod_crash_126 : decode prog_13_method_68_code 126 = .ok (.iconst 0, 1) := by decide +kernel
theorem d_Mod_crash_127 : decode prog_13_method_68_code 127 = .ok (.putfield 409, 3) := by decide +kernel
theorem d_Mod_crash_130 : decode prog_13_method_68_code 130 = .ok (.iload_n 2, 1) := by decide +kernel
theorem d_Mod_crash_131 : decode prog_13_method_68_code 131 = .ok (.ireturn, 1) := by decide +kernel
theorem d_Mod_crash_103 : decode prog_13_method_68_code 103 = .ok (.aload_n 0, 1) := by decide +kernel
theorem d_Mod_crash_104 : decode prog_13_method_68_code 104 = .ok (.getfield 359, 3) := by decide +kernel
theorem d_Mod_crash_107 : decode prog_13_method_68_code 107 = .ok (.iload_n 2, 1) := by decide +kernel
theorem d_Mod_crash_108 : decode prog_13_method_68_code 108 = .ok (.iconst 1, 1) := by decide +kernel
theorem d_Mod_crash_109 : decode prog_13_method_68_code 109 = .ok (.isub, 1) := by decide +kernel
theorem d_Mod_crash_110 : decode prog_13_method_68_code 110 = .ok (.aaload, 1) := by decide +kernel
theorem d_Mod_crash_63 : decode prog_13_method_68_code 63 = .ok (.aload_n 0, 1) := by decide +kernel
theorem d_Mod_crash_64 : decode prog_13_method_68_code 64 = .ok (.dup, 1) := by decide +kernel
theorem d_Mod_crash_65 : decode prog_13_method_68_code 65 = .ok (.getfield 480, 3) := by decide +kernel
theorem d_Mod_crash_68 : decode prog_13_method_68_code 68 = .ok (.aload_n 0, 1) := by decide +kernel
theorem d_Mod_crash_69 : decode prog_13_method_68_code 69 = .ok (.getfield 359, 3) := by decide +kernel
theorem d_Mod_crash_72 : decode prog_13_method_68_code 72 = .ok (.iload 4, 2) := by decide +kernel
theorem d_Mod_crash_74 : decode prog_13_method_68_code 74 = .ok (.aaload, 1) := by decide +kernel
theorem d_Mod_crash_75 : decode prog_13_method_68_code 75 = .ok (.getfield 483, 3) := by decide +kernel
theorem d_Mod_crash_78 : decode prog_13_method_68_code 78 = .ok (.isub, 1) := by decide +kernel
theorem d_Mod_crash_79 : decode prog_13_method_68_code 79 = .ok (.putfield 480, 3) := by decide +kernel
theorem d_Mod_crash_82 : decode prog_13_method_68_code 82 = .ok (.iinc 4 1, 3) := by decide +kernel
theorem d_Mod_crash_85 : decode prog_13_method_68_code 85 = .ok (.goto (-31), 3) := by decide +kernel
theorem d_Mod_crash_18 : decode prog_13_method_68_code 18 = .ok (.iload_n 3, 1) := by decide +kernel
theorem d_Mod_crash_19 : decode prog_13_method_68_code 19 = .ok (.aload_n 0, 1) := by decide +kernel
theorem d_Mod_crash_20 : decode prog_13_method_68_code 20 = .ok (.getfield 359, 3) := by decide +kernel
theorem d_Mod_crash_23 : decode prog_13_method_68_code 23 = .ok (.iload_n 2, 1) := by decide +kernel
theorem d_Mod_crash_24 : decode prog_13_method_68_code 24 = .ok (.aaload, 1) := by decide +kernel
theorem d_Mod_crash_25 : decode prog_13_method_68_code 25 = .ok (.getfield 483, 3) := by decide +kernel
theorem d_Mod_crash_28 : decode prog_13_method_68_code 28 = .ok (.iadd, 1) := by decide +kernel
theorem d_Mod_crash_29 : decode prog_13_method_68_code 29 = .ok (.iload_n 1, 1) := by decide +kernel
theorem d_Mod_crash_30 : decode prog_13_method_68_code 30 = .ok (.if_icmp .gt 21, 3) := by decide +kernel
theorem d_Mod_crash_33 : decode prog_13_method_68_code 33 = .ok (.iload_n 3, 1) := by decide +kernel
theorem d_Mod_crash_34 : decode prog_13_method_68_code 34 = .ok (.aload_n 0, 1) := by decide +kernel
theorem d_Mod_crash_35 : decode prog_13_method_68_code 35 = .ok (.getfield 359, 3) := by decide +kernel
theorem d_Mod_crash_38 : decode prog_13_method_68_code 38 = .ok (.iload_n 2, 1) := by decide +kernel
theorem d_Mod_crash_39 : decode prog_13_method_68_code 39 = .ok (.aaload, 1) := by decide +kernel
theorem d_Mod_crash_40 : decode prog_13_method_68_code 40 = .ok (.getfield 483, 3) := by decide +kernel
theorem d_Mod_crash_43 : decode prog_13_method_68_code 43 = .ok (.iadd, 1) := by decide +kernel
theorem d_Mod_crash_44 : decode prog_13_method_68_code 44 = .ok (.istore_n 3, 1) := by decide +kernel
theorem d_Mod_crash_45 : decode prog_13_method_68_code 45 = .ok (.iinc 2 1, 3) := by decide +kernel
theorem d_Mod_crash_48 : decode prog_13_method_68_code 48 = .ok (.goto (-38), 3) := by decide +kernel
theorem d_Mod_crash_4 : decode prog_13_method_68_code 4 = .ok (.iconst (-1), 1) := by decide +kernel
theorem d_Mod_crash_5 : decode prog_13_method_68_code 5 = .ok (.ireturn, 1) := by decide +kernel
theorem d_Mod_sweep_222 : decode prog_13_method_70_code 222 = .ok (.aload_n 0, 1) := by decide +kernel
theorem d_Mod_sweep_223 : decode prog_13_method_70_code 223 = .ok (.bipush 8, 2) := by decide +kernel
theorem d_Mod_sweep_225 : decode prog_13_method_70_code 225 = .ok (.invokevirtual 477, 3) := by decide +kernel
theorem w_2138 : (Cond.methodLink "StowTongueModel" 477 ⟨"StowTongueModel", "wait", "(I)V"⟩ : Cond) ∈ am_tbl := am_w 2138 (by decide +kernel) (by decide +kernel)
set_option maxRecDepth 100000 in
theorem w_2141 : (Cond.code ⟨"StowTongueModel", "wait", "(I)V"⟩ prog_13_method_43_code 4 none : Cond) ∈ am_tbl := am_w 2141 rfl rfl
theorem l_Mod_477 : am_L "StowTongueModel" 477 1 m_Mod_wait := ⟨Or.inl w_2138, w_160, w_2141, ⟨by decide, by decide⟩, by decide +kernel, by decide⟩
theorem w_2140 : (Cond.instanceMethod ⟨"StowTongueModel", "wait", "(I)V"⟩ : Cond) ∈ am_tbl := am_w 2140 (by decide +kernel) (by decide +kernel)
theorem w_140 : (Cond.selects "StowTongueModel" ⟨"StowTongueModel", "wait", "(I)V"⟩ ⟨"StowTongueModel", "wait", "(I)V"⟩ : Cond) ∈ am_tbl := am_w 140 (by decide +kernel) (by decide +kernel)
theorem d_Mod_sweep_164 : decode prog_13_method_70_code 164 = .ok (.aload_n 0, 1) := by decide +kernel
theorem d_Mod_sweep_165 : decode prog_13_method_70_code 165 = .ok (.getfield 389, 3) := by decide +kernel
theorem d_Mod_sweep_168 : decode prog_13_method_70_code 168 = .ok (.iload_n 2, 1) := by decide +kernel
theorem d_Mod_sweep_169 : decode prog_13_method_70_code 169 = .ok (.baload, 1) := by decide +kernel
theorem d_Mod_sweep_170 : decode prog_13_method_70_code 170 = .ok (.ifCond .eq 6, 3) := by decide +kernel
theorem d_Mod_sweep_176 : decode prog_13_method_70_code 176 = .ok (.aload_n 0, 1) := by decide +kernel
theorem d_Mod_sweep_177 : decode prog_13_method_70_code 177 = .ok (.getfield 349, 3) := by decide +kernel
theorem d_Mod_sweep_180 : decode prog_13_method_70_code 180 = .ok (.getfield 457, 3) := by decide +kernel
theorem d_Mod_sweep_183 : decode prog_13_method_70_code 183 = .ok (.iload_n 2, 1) := by decide +kernel
theorem d_Mod_sweep_184 : decode prog_13_method_70_code 184 = .ok (.iconst 0, 1) := by decide +kernel
theorem d_Mod_sweep_185 : decode prog_13_method_70_code 185 = .ok (.iastore, 1) := by decide +kernel
theorem d_Mod_sweep_186 : decode prog_13_method_70_code 186 = .ok (.aload_n 0, 1) := by decide +kernel
theorem d_Mod_sweep_187 : decode prog_13_method_70_code 187 = .ok (.getfield 349, 3) := by decide +kernel
theorem d_Mod_sweep_190 : decode prog_13_method_70_code 190 = .ok (.getfield 558, 3) := by decide +kernel
theorem d_Mod_sweep_193 : decode prog_13_method_70_code 193 = .ok (.iload_n 2, 1) := by decide +kernel
theorem d_Mod_sweep_194 : decode prog_13_method_70_code 194 = .ok (.iconst 0, 1) := by decide +kernel
theorem d_Mod_sweep_195 : decode prog_13_method_70_code 195 = .ok (.iastore, 1) := by decide +kernel
theorem d_Mod_sweep_196 : decode prog_13_method_70_code 196 = .ok (.aload_n 0, 1) := by decide +kernel
theorem d_Mod_sweep_197 : decode prog_13_method_70_code 197 = .ok (.getfield 349, 3) := by decide +kernel
theorem d_Mod_sweep_200 : decode prog_13_method_70_code 200 = .ok (.dup, 1) := by decide +kernel
theorem d_Mod_sweep_201 : decode prog_13_method_70_code 201 = .ok (.getfield 578, 3) := by decide +kernel
theorem d_Mod_sweep_204 : decode prog_13_method_70_code 204 = .ok (.iconst 1, 1) := by decide +kernel
theorem d_Mod_sweep_205 : decode prog_13_method_70_code 205 = .ok (.isub, 1) := by decide +kernel
theorem d_Mod_sweep_206 : decode prog_13_method_70_code 206 = .ok (.putfield 578, 3) := by decide +kernel
theorem d_Mod_sweep_209 : decode prog_13_method_70_code 209 = .ok (.iinc 1 1, 3) := by decide +kernel
theorem d_Mod_sweep_173 : decode prog_13_method_70_code 173 = .ok (.goto 39, 3) := by decide +kernel
theorem d_Mod_sweep_70 : decode prog_13_method_70_code 70 = .ok (.bipush 20, 2) := by decide +kernel
theorem d_Mod_sweep_72 : decode prog_13_method_70_code 72 = .ok (.aload_n 0, 1) := by decide +kernel
theorem d_Mod_sweep_73 : decode prog_13_method_70_code 73 = .ok (.getfield 393, 3) := by decide +kernel
theorem d_Mod_sweep_76 : decode prog_13_method_70_code 76 = .ok (.iload_n 1, 1) := by decide +kernel
theorem d_Mod_sweep_77 : decode prog_13_method_70_code 77 = .ok (.iaload, 1) := by decide +kernel
theorem d_Mod_sweep_78 : decode prog_13_method_70_code 78 = .ok (.imul, 1) := by decide +kernel
theorem d_Mod_sweep_79 : decode prog_13_method_70_code 79 = .ok (.istore_n 2, 1) := by decide +kernel
theorem d_Mod_sweep_80 : decode prog_13_method_70_code 80 = .ok (.iload_n 2, 1) := by decide +kernel
theorem d_Mod_sweep_81 : decode prog_13_method_70_code 81 = .ok (.istore_n 3, 1) := by decide +kernel
theorem d_Mod_sweep_82 : decode prog_13_method_70_code 82 = .ok (.iload_n 3, 1) := by decide +kernel
theorem d_Mod_sweep_83 : decode prog_13_method_70_code 83 = .ok (.iload_n 2, 1) := by decide +kernel
theorem d_Mod_sweep_84 : decode prog_13_method_70_code 84 = .ok (.aload_n 0, 1) := by decide +kernel
theorem d_Mod_sweep_85 : decode prog_13_method_70_code 85 = .ok (.getfield 349, 3) := by decide +kernel
theorem d_Mod_sweep_88 : decode prog_13_method_70_code 88 = .ok (.getfield 558, 3) := by decide +kernel
theorem d_Mod_sweep_91 : decode prog_13_method_70_code 91 = .ok (.aload_n 0, 1) := by decide +kernel
theorem d_Mod_sweep_92 : decode prog_13_method_70_code 92 = .ok (.getfield 393, 3) := by decide +kernel
theorem d_Mod_sweep_95 : decode prog_13_method_70_code 95 = .ok (.iload_n 1, 1) := by decide +kernel
theorem d_Mod_sweep_96 : decode prog_13_method_70_code 96 = .ok (.iaload, 1) := by decide +kernel
theorem d_Mod_sweep_97 : decode prog_13_method_70_code 97 = .ok (.iaload, 1) := by decide +kernel
theorem d_Mod_sweep_98 : decode prog_13_method_70_code 98 = .ok (.iadd, 1) := by decide +kernel
theorem d_Mod_sweep_99 : decode prog_13_method_70_code 99 = .ok (.if_icmp .ge 37, 3) := by decide +kernel
theorem d_Mod_sweep_136 : decode prog_13_method_70_code 136 = .ok (.iinc 1 1, 3) := by decide +kernel
theorem d_Mod_sweep_139 : decode prog_13_method_70_code 139 = .ok (.goto (-77), 3) := by decide +kernel
theorem d_Mod_sweep_102 : decode prog_13_method_70_code 102 = .ok (.aload_n 0, 1) := by decide +kernel
theorem d_Mod_sweep_103 : decode prog_13_method_70_code 103 = .ok (.aload_n 0, 1) := by decide +kernel
theorem d_Mod_sweep_104 : decode prog_13_method_70_code 104 = .ok (.getfield 349, 3) := by decide +kernel
theorem d_Mod_sweep_107 : decode prog_13_method_70_code 107 = .ok (.getfield 562, 3) := by decide +kernel
theorem d_Mod_sweep_110 : decode prog_13_method_70_code 110 = .ok (.getfield 515, 3) := by decide +kernel
theorem d_Mod_sweep_113 : decode prog_13_method_70_code 113 = .ok (.iload_n 3, 1) := by decide +kernel
theorem d_Mod_sweep_114 : decode prog_13_method_70_code 114 = .ok (.iaload, 1) := by decide +kernel
theorem d_Mod_sweep_115 : decode prog_13_method_70_code 115 = .ok (.aload_n 0, 1) := by decide +kernel
theorem d_Mod_sweep_116 : decode prog_13_method_70_code 116 = .ok (.getfield 349, 3) := by decide +kernel
theorem d_Mod_sweep_119 : decode prog_13_method_70_code 119 = .ok (.getfield 562, 3) := by decide +kernel
theorem d_Mod_sweep_122 : decode prog_13_method_70_code 122 = .ok (.getfield 508, 3) := by decide +kernel
theorem d_Mod_sweep_125 : decode prog_13_method_70_code 125 = .ok (.iload_n 3, 1) := by decide +kernel
theorem d_Mod_sweep_126 : decode prog_13_method_70_code 126 = .ok (.laload, 1) := by decide +kernel
theorem d_Mod_sweep_127 : decode prog_13_method_70_code 127 = .ok (.invokevirtual 613, 3) := by decide +kernel
theorem w_2157 : (Cond.methodLink "StowTongueModel" 613 ⟨"StowTongueModel", "reach", "(IJ)V"⟩ : Cond) ∈ am_tbl := am_w 2157 (by decide +kernel) (by decide +kernel)
set_option maxRecDepth 100000 in
theorem w_2160 : (Cond.code ⟨"StowTongueModel", "reach", "(IJ)V"⟩ prog_13_method_69_code 4 none : Cond) ∈ am_tbl := am_w 2160 rfl rfl
theorem l_Mod_613 : am_L "StowTongueModel" 613 2 m_Mod_reach := ⟨Or.inl w_2157, w_160, w_2160, ⟨by decide, by decide⟩, by decide +kernel, by decide⟩
theorem w_2159 : (Cond.instanceMethod ⟨"StowTongueModel", "reach", "(IJ)V"⟩ : Cond) ∈ am_tbl := am_w 2159 (by decide +kernel) (by decide +kernel)
theorem w_141 : (Cond.selects "StowTongueModel" ⟨"StowTongueModel", "reach", "(IJ)V"⟩ ⟨"StowTongueModel", "reach", "(IJ)V"⟩ : Cond) ∈ am_tbl := am_w 141 (by decide +kernel) (by decide +kernel)
theorem d_Mod_sweep_130 : decode prog_13_method_70_code 130 = .ok (.iinc 3 1, 3) := by decide +kernel
theorem d_Mod_sweep_133 : decode prog_13_method_70_code 133 = .ok (.goto (-51), 3) := by decide +kernel
theorem d_Mod_sweep_26 : decode prog_13_method_70_code 26 = .ok (.aload_n 0, 1) := by decide +kernel
theorem d_Mod_sweep_27 : decode prog_13_method_70_code 27 = .ok (.aload_n 0, 1) := by decide +kernel
theorem d_Mod_sweep_28 : decode prog_13_method_70_code 28 = .ok (.getfield 349, 3) := by decide +kernel
theorem d_Mod_sweep_31 : decode prog_13_method_70_code 31 = .ok (.getfield 472, 3) := by decide +kernel
theorem d_Mod_sweep_34 : decode prog_13_method_70_code 34 = .ok (.getfield 515, 3) := by decide +kernel
theorem d_Mod_sweep_37 : decode prog_13_method_70_code 37 = .ok (.iload_n 1, 1) := by decide +kernel
theorem d_Mod_sweep_38 : decode prog_13_method_70_code 38 = .ok (.iaload, 1) := by decide +kernel
theorem d_Mod_sweep_39 : decode prog_13_method_70_code 39 = .ok (.aload_n 0, 1) := by decide +kernel
theorem d_Mod_sweep_40 : decode prog_13_method_70_code 40 = .ok (.getfield 349, 3) := by decide +kernel
theorem d_Mod_sweep_43 : decode prog_13_method_70_code 43 = .ok (.getfield 472, 3) := by decide +kernel
theorem d_Mod_sweep_46 : decode prog_13_method_70_code 46 = .ok (.getfield 508, 3) := by decide +kernel
theorem d_Mod_sweep_49 : decode prog_13_method_70_code 49 = .ok (.iload_n 1, 1) := by decide +kernel
theorem d_Mod_sweep_50 : decode prog_13_method_70_code 50 = .ok (.laload, 1) := by decide +kernel
theorem d_Mod_sweep_51 : decode prog_13_method_70_code 51 = .ok (.invokevirtual 613, 3) := by decide +kernel
theorem d_Mod_sweep_54 : decode prog_13_method_70_code 54 = .ok (.iinc 1 1, 3) := by decide +kernel
theorem d_Mod_sweep_57 : decode prog_13_method_70_code 57 = .ok (.goto (-42), 3) := by decide +kernel
abbrev m_Lexer_advance : am_M := (⟨"StowTongue$Lexer", "advance", "()V"⟩, prog_4_method_3_code, 2, none)
theorem d_Lexer_advance_0 : decode prog_4_method_3_code 0 = .ok (.aload_n 0, 1) := by decide +kernel
theorem d_Lexer_advance_1 : decode prog_4_method_3_code 1 = .ok (.dup, 1) := by decide +kernel
theorem d_Lexer_advance_2 : decode prog_4_method_3_code 2 = .ok (.getfield 49, 3) := by decide +kernel
theorem d_Lexer_advance_5 : decode prog_4_method_3_code 5 = .ok (.iconst 1, 1) := by decide +kernel
theorem d_Lexer_advance_6 : decode prog_4_method_3_code 6 = .ok (.iadd, 1) := by decide +kernel
theorem d_Lexer_advance_7 : decode prog_4_method_3_code 7 = .ok (.putfield 49, 3) := by decide +kernel
theorem d_Lexer_advance_10 : decode prog_4_method_3_code 10 = .ok (.aload_n 0, 1) := by decide +kernel
theorem d_Lexer_advance_11 : decode prog_4_method_3_code 11 = .ok (.invokevirtual 55, 3) := by decide +kernel
theorem w_557 : (Cond.methodLink "StowTongue$Lexer" 55 ⟨"StowTongue$Lexer", "skipBlanks", "()V"⟩ : Cond) ∈ am_tbl := am_w 557 (by decide +kernel) (by decide +kernel)
set_option maxRecDepth 100000 in
theorem w_560 : (Cond.code ⟨"StowTongue$Lexer", "skipBlanks", "()V"⟩ prog_4_method_16_code 2 none : Cond) ∈ am_tbl := am_w 560 rfl rfl
theorem l_Lexer_55 : am_L "StowTongue$Lexer" 55 0 m_Lexer_skipBlanks := ⟨Or.inl w_557, w_146, w_560, ⟨by decide, by decide⟩, by decide +kernel, by decide⟩
theorem w_559 : (Cond.instanceMethod ⟨"StowTongue$Lexer", "skipBlanks", "()V"⟩ : Cond) ∈ am_tbl := am_w 559 (by decide +kernel) (by decide +kernel)
theorem w_1 : (Cond.selects "StowTongue$Lexer" ⟨"StowTongue$Lexer", "skipBlanks", "()V"⟩ ⟨"StowTongue$Lexer", "skipBlanks", "()V"⟩ : Cond) ∈ am_tbl := am_w 1 (by decide +kernel) (by decide +kernel)
theorem d_Lexer_advance_14 : decode prog_4_method_3_code 14 = .ok (.aload_n 0, 1) := by decide +kernel
theorem d_Lexer_advance_15 : decode prog_4_method_3_code 15 = .ok (.aload_n 0, 1) := by decide +kernel
theorem d_Lexer_advance_16 : decode prog_4_method_3_code 16 = .ok (.getfield 46, 3) := by decide +kernel
theorem d_Lexer_advance_19 : decode prog_4_method_3_code 19 = .ok (.putfield 58, 3) := by decide +kernel
theorem d_Lexer_advance_22 : decode prog_4_method_3_code 22 = .ok (.aload_n 0, 1) := by decide +kernel
theorem d_Lexer_advance_23 : decode prog_4_method_3_code 23 = .ok (.aload_n 0, 1) := by decide +kernel
theorem d_Lexer_advance_24 : decode prog_4_method_3_code 24 = .ok (.getfield 46, 3) := by decide +kernel
theorem d_Lexer_advance_27 : decode prog_4_method_3_code 27 = .ok (.invokevirtual 61, 3) := by decide +kernel
theorem d_Lexer_advance_30 : decode prog_4_method_3_code 30 = .ok (.istore_n 1, 1) := by decide +kernel
theorem d_Lexer_advance_31 : decode prog_4_method_3_code 31 = .ok (.iload_n 1, 1) := by decide +kernel
theorem d_Lexer_advance_32 : decode prog_4_method_3_code 32 = .ok (.ifCond .ge 11, 3) := by decide +kernel
theorem d_Lexer_advance_43 : decode prog_4_method_3_code 43 = .ok (.iload_n 1, 1) := by decide +kernel
theorem d_Lexer_advance_44 : decode prog_4_method_3_code 44 = .ok (.invokestatic 68, 3) := by decide +kernel
theorem d_Lexer_advance_47 : decode prog_4_method_3_code 47 = .ok (.ifCond .eq 10, 3) := by decide +kernel
theorem d_Lexer_advance_57 : decode prog_4_method_3_code 57 = .ok (.iload_n 1, 1) := by decide +kernel
theorem d_Lexer_advance_58 : decode prog_4_method_3_code 58 = .ok (.invokestatic 75, 3) := by decide +kernel
theorem d_Lexer_advance_61 : decode prog_4_method_3_code 61 = .ok (.ifCond .eq 10, 3) := by decide +kernel
theorem d_Lexer_advance_71 : decode prog_4_method_3_code 71 = .ok (.iload_n 1, 1) := by decide +kernel
theorem d_Lexer_advance_72 : decode prog_4_method_3_code 72 = .ok (.bipush 34, 2) := by decide +kernel
theorem d_Lexer_advance_74 : decode prog_4_method_3_code 74 = .ok (.if_icmp .ne 10, 3) := by decide +kernel
theorem d_Lexer_advance_77 : decode prog_4_method_3_code 77 = .ok (.aload_n 0, 1) := by decide +kernel
theorem d_Lexer_advance_78 : decode prog_4_method_3_code 78 = .ok (.invokevirtual 81, 3) := by decide +kernel
theorem w_589 : (Cond.methodLink "StowTongue$Lexer" 81 ⟨"StowTongue$Lexer", "scanText", "()V"⟩ : Cond) ∈ am_tbl := am_w 589 (by decide +kernel) (by decide +kernel)
set_option maxRecDepth 100000 in
theorem w_592 : (Cond.code ⟨"StowTongue$Lexer", "scanText", "()V"⟩ prog_4_method_20_code 2 none : Cond) ∈ am_tbl := am_w 592 rfl rfl
theorem l_Lexer_81 : am_L "StowTongue$Lexer" 81 0 m_Lexer_scanText := ⟨Or.inl w_589, w_146, w_592, ⟨by decide, by decide⟩, by decide +kernel, by decide⟩
theorem w_591 : (Cond.instanceMethod ⟨"StowTongue$Lexer", "scanText", "()V"⟩ : Cond) ∈ am_tbl := am_w 591 (by decide +kernel) (by decide +kernel)
theorem w_6 : (Cond.selects "StowTongue$Lexer" ⟨"StowTongue$Lexer", "scanText", "()V"⟩ ⟨"StowTongue$Lexer", "scanText", "()V"⟩ : Cond) ∈ am_tbl := am_w 6 (by decide +kernel) (by decide +kernel)
theorem d_Lexer_advance_81 : decode prog_4_method_3_code 81 = .ok (.goto 8, 3) := by decide +kernel
theorem d_Lexer_advance_89 : decode prog_4_method_3_code 89 = .ok (.return_, 1) := by decide +kernel
theorem d_Lexer_advance_84 : decode prog_4_method_3_code 84 = .ok (.aload_n 0, 1) := by decide +kernel
theorem d_Lexer_advance_85 : decode prog_4_method_3_code 85 = .ok (.iload_n 1, 1) := by decide +kernel
theorem d_Lexer_advance_86 : decode prog_4_method_3_code 86 = .ok (.invokevirtual 84, 3) := by decide +kernel
theorem w_599 : (Cond.methodLink "StowTongue$Lexer" 84 ⟨"StowTongue$Lexer", "scanSign", "(I)V"⟩ : Cond) ∈ am_tbl := am_w 599 (by decide +kernel) (by decide +kernel)
set_option maxRecDepth 100000 in
theorem w_602 : (Cond.code ⟨"StowTongue$Lexer", "scanSign", "(I)V"⟩ prog_4_method_21_code 2 none : Cond) ∈ am_tbl := am_w 602 rfl rfl
theorem l_Lexer_84 : am_L "StowTongue$Lexer" 84 1 m_Lexer_scanSign := ⟨Or.inl w_599, w_146, w_602, ⟨by decide, by decide⟩, by decide +kernel, by decide⟩
theorem w_601 : (Cond.instanceMethod ⟨"StowTongue$Lexer", "scanSign", "(I)V"⟩ : Cond) ∈ am_tbl := am_w 601 (by decide +kernel) (by decide +kernel)
theorem w_7 : (Cond.selects "StowTongue$Lexer" ⟨"StowTongue$Lexer", "scanSign", "(I)V"⟩ ⟨"StowTongue$Lexer", "scanSign", "(I)V"⟩ : Cond) ∈ am_tbl := am_w 7 (by decide +kernel) (by decide +kernel)
theorem d_Lexer_advance_64 : decode prog_4_method_3_code 64 = .ok (.aload_n 0, 1) := by decide +kernel
theorem d_Lexer_advance_65 : decode prog_4_method_3_code 65 = .ok (.invokevirtual 78, 3) := by decide +kernel
theorem w_579 : (Cond.methodLink "StowTongue$Lexer" 78 ⟨"StowTongue$Lexer", "scanNumber", "()V"⟩ : Cond) ∈ am_tbl := am_w 579 (by decide +kernel) (by decide +kernel)
set_option maxRecDepth 100000 in
theorem w_582 : (Cond.code ⟨"StowTongue$Lexer", "scanNumber", "()V"⟩ prog_4_method_19_code 3 none : Cond) ∈ am_tbl := am_w 582 rfl rfl
theorem l_Lexer_78 : am_L "StowTongue$Lexer" 78 0 m_Lexer_scanNumber := ⟨Or.inl w_579, w_146, w_582, ⟨by decide, by decide⟩, by decide +kernel, by decide⟩
theorem w_581 : (Cond.instanceMethod ⟨"StowTongue$Lexer", "scanNumber", "()V"⟩ : Cond) ∈ am_tbl := am_w 581 (by decide +kernel) (by decide +kernel)
theorem w_5 : (Cond.selects "StowTongue$Lexer" ⟨"StowTongue$Lexer", "scanNumber", "()V"⟩ ⟨"StowTongue$Lexer", "scanNumber", "()V"⟩ : Cond) ∈ am_tbl := am_w 5 (by decide +kernel) (by decide +kernel)
theorem d_Lexer_advance_68 : decode prog_4_method_3_code 68 = .ok (.goto 21, 3) := by decide +kernel
theorem d_Lexer_advance_50 : decode prog_4_method_3_code 50 = .ok (.aload_n 0, 1) := by decide +kernel
theorem d_Lexer_advance_51 : decode prog_4_method_3_code 51 = .ok (.invokevirtual 72, 3) := by decide +kernel
theorem w_568 : (Cond.methodLink "StowTongue$Lexer" 72 ⟨"StowTongue$Lexer", "scanName", "()V"⟩ : Cond) ∈ am_tbl := am_w 568 (by decide +kernel) (by decide +kernel)
set_option maxRecDepth 100000 in
theorem w_571 : (Cond.code ⟨"StowTongue$Lexer", "scanName", "()V"⟩ prog_4_method_17_code 3 none : Cond) ∈ am_tbl := am_w 571 rfl rfl
theorem l_Lexer_72 : am_L "StowTongue$Lexer" 72 0 m_Lexer_scanName := ⟨Or.inl w_568, w_146, w_571, ⟨by decide, by decide⟩, by decide +kernel, by decide⟩
theorem w_570 : (Cond.instanceMethod ⟨"StowTongue$Lexer", "scanName", "()V"⟩ : Cond) ∈ am_tbl := am_w 570 (by decide +kernel) (by decide +kernel)
theorem w_3 : (Cond.selects "StowTongue$Lexer" ⟨"StowTongue$Lexer", "scanName", "()V"⟩ ⟨"StowTongue$Lexer", "scanName", "()V"⟩ : Cond) ∈ am_tbl := am_w 3 (by decide +kernel) (by decide +kernel)
theorem d_Lexer_advance_54 : decode prog_4_method_3_code 54 = .ok (.goto 35, 3) := by decide +kernel
theorem d_Lexer_advance_35 : decode prog_4_method_3_code 35 = .ok (.aload_n 0, 1) := by decide +kernel
theorem d_Lexer_advance_36 : decode prog_4_method_3_code 36 = .ok (.iconst 0, 1) := by decide +kernel
theorem d_Lexer_advance_37 : decode prog_4_method_3_code 37 = .ok (.putfield 65, 3) := by decide +kernel
theorem d_Lexer_advance_40 : decode prog_4_method_3_code 40 = .ok (.goto 49, 3) := by decide +kernel
abbrev m_Pars_take : am_M := (⟨"StowTongue$Parser", "take", "(I)V"⟩, prog_8_method_7_code, 2, none)
theorem d_Pars_take_0 : decode prog_8_method_7_code 0 = .ok (.aload_n 0, 1) := by decide +kernel
theorem d_Pars_take_1 : decode prog_8_method_7_code 1 = .ok (.getfield 12, 3) := by decide +kernel
theorem d_Pars_take_4 : decode prog_8_method_7_code 4 = .ok (.invokevirtual 59, 3) := by decide +kernel
theorem w_672 : (Cond.methodLink "StowTongue$Parser" 59 ⟨"StowTongue$Lexer", "kind", "()I"⟩ : Cond) ∈ am_tbl := am_w 672 (by decide +kernel) (by decide +kernel)
set_option maxRecDepth 100000 in
theorem w_675 : (Cond.code ⟨"StowTongue$Lexer", "kind", "()I"⟩ prog_4_method_5_code 1 (some FieldType.int) : Cond) ∈ am_tbl := am_w 675 rfl rfl
theorem l_Pars_59 : am_L "StowTongue$Parser" 59 0 m_Lexer_kind := ⟨Or.inl w_672, w_146, w_675, ⟨by decide, by decide⟩, by decide +kernel, by decide⟩
theorem w_673 : (Cond.instanceMethod ⟨"StowTongue$Lexer", "kind", "()I"⟩ : Cond) ∈ am_tbl := am_w 673 (by decide +kernel) (by decide +kernel)
theorem w_674 : (Cond.selects "StowTongue$Lexer" ⟨"StowTongue$Lexer", "kind", "()I"⟩ ⟨"StowTongue$Lexer", "kind", "()I"⟩ : Cond) ∈ am_tbl := am_w 674 (by decide +kernel) (by decide +kernel)
theorem d_Pars_take_7 : decode prog_8_method_7_code 7 = .ok (.iload_n 1, 1) := by decide +kernel
theorem d_Pars_take_8 : decode prog_8_method_7_code 8 = .ok (.if_icmp .ne 13, 3) := by decide +kernel
theorem d_Pars_take_11 : decode prog_8_method_7_code 11 = .ok (.aload_n 0, 1) := by decide +kernel
theorem d_Pars_take_12 : decode prog_8_method_7_code 12 = .ok (.getfield 12, 3) := by decide +kernel
theorem d_Pars_take_15 : decode prog_8_method_7_code 15 = .ok (.invokevirtual 96, 3) := by decide +kernel
theorem w_684 : (Cond.methodLink "StowTongue$Parser" 96 ⟨"StowTongue$Lexer", "advance", "()V"⟩ : Cond) ∈ am_tbl := am_w 684 (by decide +kernel) (by decide +kernel)
set_option maxRecDepth 100000 in
theorem w_556 : (Cond.code ⟨"StowTongue$Lexer", "advance", "()V"⟩ prog_4_method_3_code 2 none : Cond) ∈ am_tbl := am_w 556 rfl rfl
theorem l_Pars_96 : am_L "StowTongue$Parser" 96 0 m_Lexer_advance := ⟨Or.inl w_684, w_146, w_556, ⟨by decide, by decide⟩, by decide +kernel, by decide⟩
theorem w_554 : (Cond.instanceMethod ⟨"StowTongue$Lexer", "advance", "()V"⟩ : Cond) ∈ am_tbl := am_w 554 (by decide +kernel) (by decide +kernel)
theorem w_555 : (Cond.selects "StowTongue$Lexer" ⟨"StowTongue$Lexer", "advance", "()V"⟩ ⟨"StowTongue$Lexer", "advance", "()V"⟩ : Cond) ∈ am_tbl := am_w 555 (by decide +kernel) (by decide +kernel)
theorem d_Pars_take_18 : decode prog_8_method_7_code 18 = .ok (.goto 7, 3) := by decide +kernel
theorem d_Pars_take_25 : decode prog_8_method_7_code 25 = .ok (.return_, 1) := by decide +kernel
theorem d_Pars_take_21 : decode prog_8_method_7_code 21 = .ok (.aload_n 0, 1) := by decide +kernel
theorem d_Pars_take_22 : decode prog_8_method_7_code 22 = .ok (.invokevirtual 99, 3) := by decide +kernel
theorem w_685 : (Cond.methodLink "StowTongue$Parser" 99 ⟨"StowTongue$Parser", "fail", "()V"⟩ : Cond) ∈ am_tbl := am_w 685 (by decide +kernel) (by decide +kernel)
set_option maxRecDepth 100000 in
theorem w_688 : (Cond.code ⟨"StowTongue$Parser", "fail", "()V"⟩ prog_8_method_6_code 1 none : Cond) ∈ am_tbl := am_w 688 rfl rfl
theorem l_Pars_99 : am_L "StowTongue$Parser" 99 0 m_Pars_fail := ⟨Or.inl w_685, w_145, w_688, ⟨by decide, by decide⟩, by decide +kernel, by decide⟩
theorem w_687 : (Cond.instanceMethod ⟨"StowTongue$Parser", "fail", "()V"⟩ : Cond) ∈ am_tbl := am_w 687 (by decide +kernel) (by decide +kernel)
theorem w_10 : (Cond.selects "StowTongue$Parser" ⟨"StowTongue$Parser", "fail", "()V"⟩ ⟨"StowTongue$Parser", "fail", "()V"⟩ : Cond) ∈ am_tbl := am_w 10 (by decide +kernel) (by decide +kernel)
abbrev m_Pars_takeName : am_M := (⟨"StowTongue$Parser", "takeName", "()J"⟩, prog_8_method_9_code, 3, (some FieldType.long))
theorem d_Pars_takeName_0 : decode prog_8_method_9_code 0 = .ok (.aload_n 0, 1) := by decide +kernel
theorem d_Pars_takeName_1 : decode prog_8_method_9_code 1 = .ok (.getfield 12, 3) := by decide +kernel
theorem d_Pars_takeName_4 : decode prog_8_method_9_code 4 = .ok (.invokevirtual 102, 3) := by decide +kernel
theorem w_701 : (Cond.methodLink "StowTongue$Parser" 102 ⟨"StowTongue$Lexer", "head", "()J"⟩ : Cond) ∈ am_tbl := am_w 701 (by decide +kernel) (by decide +kernel)
set_option maxRecDepth 100000 in
theorem w_704 : (Cond.code ⟨"StowTongue$Lexer", "head", "()J"⟩ prog_4_method_9_code 1 (some FieldType.long) : Cond) ∈ am_tbl := am_w 704 rfl rfl
theorem l_Pars_102 : am_L "StowTongue$Parser" 102 0 m_Lexer_head := ⟨Or.inl w_701, w_146, w_704, ⟨by decide, by decide⟩, by decide +kernel, by decide⟩
theorem w_702 : (Cond.instanceMethod ⟨"StowTongue$Lexer", "head", "()J"⟩ : Cond) ∈ am_tbl := am_w 702 (by decide +kernel) (by decide +kernel)
theorem w_703 : (Cond.selects "StowTongue$Lexer" ⟨"StowTongue$Lexer", "head", "()J"⟩ ⟨"StowTongue$Lexer", "head", "()J"⟩ : Cond) ∈ am_tbl := am_w 703 (by decide +kernel) (by decide +kernel)
theorem d_Pars_takeName_7 : decode prog_8_method_9_code 7 = .ok (.lstore_n 1, 1) := by decide +kernel
theorem d_Pars_takeName_8 : decode prog_8_method_9_code 8 = .ok (.aload_n 0, 1) := by decide +kernel
theorem d_Pars_takeName_9 : decode prog_8_method_9_code 9 = .ok (.iconst 2, 1) := by decide +kernel
theorem d_Pars_takeName_10 : decode prog_8_method_9_code 10 = .ok (.invokevirtual 106, 3) := by decide +kernel
theorem w_680 : (Cond.methodLink "StowTongue$Parser" 106 ⟨"StowTongue$Parser", "take", "(I)V"⟩ : Cond) ∈ am_tbl := am_w 680 (by decide +kernel) (by decide +kernel)
set_option maxRecDepth 100000 in
theorem w_683 : (Cond.code ⟨"StowTongue$Parser", "take", "(I)V"⟩ prog_8_method_7_code 2 none : Cond) ∈ am_tbl := am_w 683 rfl rfl
theorem l_Pars_106 : am_L "StowTongue$Parser" 106 1 m_Pars_take := ⟨Or.inl w_680, w_145, w_683, ⟨by decide, by decide⟩, by decide +kernel, by decide⟩
theorem w_682 : (Cond.instanceMethod ⟨"StowTongue$Parser", "take", "(I)V"⟩ : Cond) ∈ am_tbl := am_w 682 (by decide +kernel) (by decide +kernel)
theorem w_9 : (Cond.selects "StowTongue$Parser" ⟨"StowTongue$Parser", "take", "(I)V"⟩ ⟨"StowTongue$Parser", "take", "(I)V"⟩ : Cond) ∈ am_tbl := am_w 9 (by decide +kernel) (by decide +kernel)
theorem d_Pars_takeName_13 : decode prog_8_method_9_code 13 = .ok (.lload_n 1, 1) := by decide +kernel
theorem d_Pars_takeName_14 : decode prog_8_method_9_code 14 = .ok (.lreturn, 1) := by decide +kernel
abbrev m_Pars_newName : am_M := (⟨"StowTongue$Parser", "newName", "(I)V"⟩, prog_8_method_12_code, 2, none)
theorem d_Pars_newName_0 : decode prog_8_method_12_code 0 = .ok (.iload_n 1, 1) := by decide +kernel
theorem d_Pars_newName_1 : decode prog_8_method_12_code 1 = .ok (.iconst 4, 1) := by decide +kernel
theorem d_Pars_newName_2 : decode prog_8_method_12_code 2 = .ok (.if_icmp .eq 20, 3) := by decide +kernel
theorem d_Pars_newName_22 : decode prog_8_method_12_code 22 = .ok (.aload_n 0, 1) := by decide +kernel
theorem d_Pars_newName_23 : decode prog_8_method_12_code 23 = .ok (.invokevirtual 99, 3) := by decide +kernel
theorem d_Pars_newName_26 : decode prog_8_method_12_code 26 = .ok (.aload_n 0, 1) := by decide +kernel
theorem d_Pars_newName_27 : decode prog_8_method_12_code 27 = .ok (.getfield 28, 3) := by decide +kernel
theorem d_Pars_newName_30 : decode prog_8_method_12_code 30 = .ok (.aload_n 0, 1) := by decide +kernel
theorem d_Pars_newName_31 : decode prog_8_method_12_code 31 = .ok (.invokevirtual 109, 3) := by decide +kernel
theorem w_697 : (Cond.methodLink "StowTongue$Parser" 109 ⟨"StowTongue$Parser", "takeName", "()J"⟩ : Cond) ∈ am_tbl := am_w 697 (by decide +kernel) (by decide +kernel)
set_option maxRecDepth 100000 in
theorem w_700 : (Cond.code ⟨"StowTongue$Parser", "takeName", "()J"⟩ prog_8_method_9_code 3 (some FieldType.long) : Cond) ∈ am_tbl := am_w 700 rfl rfl
theorem l_Pars_109 : am_L "StowTongue$Parser" 109 0 m_Pars_takeName := ⟨Or.inl w_697, w_145, w_700, ⟨by decide, by decide⟩, by decide +kernel, by decide⟩
theorem w_699 : (Cond.instanceMethod ⟨"StowTongue$Parser", "takeName", "()J"⟩ : Cond) ∈ am_tbl := am_w 699 (by decide +kernel) (by decide +kernel)
theorem w_11 : (Cond.selects "StowTongue$Parser" ⟨"StowTongue$Parser", "takeName", "()J"⟩ ⟨"StowTongue$Parser", "takeName", "()J"⟩ : Cond) ∈ am_tbl := am_w 11 (by decide +kernel) (by decide +kernel)
theorem d_Pars_newName_34 : decode prog_8_method_12_code 34 = .ok (.invokevirtual 132, 3) := by decide +kernel
theorem w_717 : (Cond.methodLink "StowTongue$Parser" 132 ⟨"StowTongue$Draft", "makeLocal", "(J)I"⟩ : Cond) ∈ am_tbl := am_w 717 (by decide +kernel) (by decide +kernel)
set_option maxRecDepth 100000 in
theorem w_720 : (Cond.code ⟨"StowTongue$Draft", "makeLocal", "(J)I"⟩ prog_3_method_11_code 4 (some FieldType.int) : Cond) ∈ am_tbl := am_w 720 rfl rfl
theorem l_Pars_132 : am_L "StowTongue$Parser" 132 1 m_Draft_makeLocal := ⟨Or.inl w_717, w_152, w_720, ⟨by decide, by decide⟩, by decide +kernel, by decide⟩
theorem w_718 : (Cond.instanceMethod ⟨"StowTongue$Draft", "makeLocal", "(J)I"⟩ : Cond) ∈ am_tbl := am_w 718 (by decide +kernel) (by decide +kernel)
theorem w_719 : (Cond.selects "StowTongue$Draft" ⟨"StowTongue$Draft", "makeLocal", "(J)I"⟩ ⟨"StowTongue$Draft", "makeLocal", "(J)I"⟩ : Cond) ∈ am_tbl := am_w 719 (by decide +kernel) (by decide +kernel)
theorem d_Pars_newName_37 : decode prog_8_method_12_code 37 = .ok (.pop, 1) := by decide +kernel
theorem d_Pars_newName_38 : decode prog_8_method_12_code 38 = .ok (.return_, 1) := by decide +kernel
theorem d_Pars_newName_5 : decode prog_8_method_12_code 5 = .ok (.aload_n 0, 1) := by decide +kernel
theorem d_Pars_newName_6 : decode prog_8_method_12_code 6 = .ok (.getfield 28, 3) := by decide +kernel
theorem d_Pars_newName_9 : decode prog_8_method_12_code 9 = .ok (.aload_n 0, 1) := by decide +kernel
theorem d_Pars_newName_10 : decode prog_8_method_12_code 10 = .ok (.getfield 12, 3) := by decide +kernel
theorem d_Pars_newName_13 : decode prog_8_method_12_code 13 = .ok (.invokevirtual 102, 3) := by decide +kernel
theorem d_Pars_newName_16 : decode prog_8_method_12_code 16 = .ok (.invokevirtual 128, 3) := by decide +kernel
theorem w_713 : (Cond.methodLink "StowTongue$Parser" 128 ⟨"StowTongue$Draft", "localOf", "(J)I"⟩ : Cond) ∈ am_tbl := am_w 713 (by decide +kernel) (by decide +kernel)
theorem l_Pars_128 : am_L "StowTongue$Parser" 128 1 m_Draft_localOf := ⟨Or.inl w_713, w_152, w_716, ⟨by decide, by decide⟩, by decide +kernel, by decide⟩
theorem d_Pars_newName_19 : decode prog_8_method_12_code 19 = .ok (.ifCond .lt 7, 3) := by decide +kernel
