

abbrev b_Law_law : ByteArray := code
theorem d_Law_law_0 : decode b_Law_law 0 = .ok (.new 8, 3) := by decide +kernel
theorem d_Law_law_3 : decode b_Law_law 3 = .ok (.dup, 1) := by decide +kernel
theorem d_Law_law_4 : decode b_Law_law 4 = .ok (.aload_n 0, 1) := by decide +kernel
theorem d_Law_law_5 : decode b_Law_law 5 = .ok (.iconst 0, 1) := by decide +kernel
theorem d_Law_law_6 : decode b_Law_law 6 = .ok (.invokestatic 22, 3) := by decide +kernel
theorem d_Law_law_9 : decode b_Law_law 9 = .ok (.aload_n 0, 1) := by decide +kernel
theorem d_Law_law_10 : decode b_Law_law 10 = .ok (.iconst 1, 1) := by decide +kernel
theorem d_Law_law_11 : decode b_Law_law 11 = .ok (.invokestatic 22, 3) := by decide +kernel
theorem d_Law_law_14 : decode b_Law_law 14 = .ok (.invokespecial 28, 3) := by decide +kernel
theorem d_Law_law_17 : decode b_Law_law 17 = .ok (.astore_n 1, 1) := by decide +kernel
theorem d_Law_law_18 : decode b_Law_law 18 = .ok (.new 31, 3) := by decide +kernel
theorem d_Law_law_21 : decode b_Law_law 21 = .ok (.dup, 1) := by decide +kernel
theorem d_Law_law_22 : decode b_Law_law 22 = .ok (.aload_n 0, 1) := by decide +kernel
theorem d_Law_law_23 : decode b_Law_law 23 = .ok (.iconst 0, 1) := by decide +kernel
theorem d_Law_law_24 : decode b_Law_law 24 = .ok (.invokestatic 22, 3) := by decide +kernel
theorem d_Law_law_27 : decode b_Law_law 27 = .ok (.aload_n 0, 1) := by decide +kernel
theorem d_Law_law_28 : decode b_Law_law 28 = .ok (.iconst 1, 1) := by decide +kernel
theorem d_Law_law_29 : decode b_Law_law 29 = .ok (.invokestatic 22, 3) := by decide +kernel
theorem d_Law_law_32 : decode b_Law_law 32 = .ok (.invokespecial 33, 3) := by decide +kernel
theorem d_Law_law_35 : decode b_Law_law 35 = .ok (.astore_n 2, 1) := by decide +kernel
theorem d_Law_law_36 : decode b_Law_law 36 = .ok (.iconst 1, 1) := by decide +kernel
theorem d_Law_law_37 : decode b_Law_law 37 = .ok (.newarray .long, 2) := by decide +kernel
theorem d_Law_law_39 : decode b_Law_law 39 = .ok (.astore_n 3, 1) := by decide +kernel
theorem d_Law_law_40 : decode b_Law_law 40 = .ok (.iconst 2, 1) := by decide +kernel
theorem d_Law_law_41 : decode b_Law_law 41 = .ok (.istore 4, 2) := by decide +kernel
theorem d_Law_law_43 : decode b_Law_law 43 = .ok (.iload 4, 2) := by decide +kernel
theorem d_Law_law_45 : decode b_Law_law 45 = .ok (.aload_n 0, 1) := by decide +kernel
theorem d_Law_law_46 : decode b_Law_law 46 = .ok (.arraylength, 1) := by decide +kernel
theorem d_Law_law_47 : decode b_Law_law 47 = .ok (.bipush 6, 2) := by decide +kernel
theorem d_Law_law_49 : decode b_Law_law 49 = .ok (.isub, 1) := by decide +kernel
theorem d_Law_law_50 : decode b_Law_law 50 = .ok (.if_icmp .gt 383, 3) := by decide +kernel
theorem d_Law_law_53 : decode b_Law_law 53 = .ok (.aload_n 0, 1) := by decide +kernel
theorem d_Law_law_54 : decode b_Law_law 54 = .ok (.iload 4, 2) := by decide +kernel
theorem d_Law_law_56 : decode b_Law_law 56 = .ok (.iaload, 1) := by decide +kernel
theorem d_Law_law_57 : decode b_Law_law 57 = .ok (.bipush 7, 2) := by decide +kernel
theorem d_Law_law_59 : decode b_Law_law 59 = .ok (.iand, 1) := by decide +kernel
theorem d_Law_law_60 : decode b_Law_law 60 = .ok (.tableswitch 367 0 6 #[44, 117, 185, 198, 224, 292, 342], 44) := by decide +kernel
theorem d_Law_law_104 : decode b_Law_law 104 = .ok (.aload_n 1, 1) := by decide +kernel
theorem d_Law_law_105 : decode b_Law_law 105 = .ok (.aload_n 0, 1) := by decide +kernel
theorem d_Law_law_106 : decode b_Law_law 106 = .ok (.iload 4, 2) := by decide +kernel
theorem d_Law_law_108 : decode b_Law_law 108 = .ok (.iconst 1, 1) := by decide +kernel
theorem d_Law_law_109 : decode b_Law_law 109 = .ok (.iadd, 1) := by decide +kernel
theorem d_Law_law_110 : decode b_Law_law 110 = .ok (.iaload, 1) := by decide +kernel
theorem d_Law_law_111 : decode b_Law_law 111 = .ok (.aload_n 0, 1) := by decide +kernel
theorem d_Law_law_112 : decode b_Law_law 112 = .ok (.iload 4, 2) := by decide +kernel
theorem d_Law_law_114 : decode b_Law_law 114 = .ok (.iconst 2, 1) := by decide +kernel
theorem d_Law_law_115 : decode b_Law_law 115 = .ok (.iadd, 1) := by decide +kernel
theorem d_Law_law_116 : decode b_Law_law 116 = .ok (.iaload, 1) := by decide +kernel
theorem d_Law_law_117 : decode b_Law_law 117 = .ok (.aload_n 0, 1) := by decide +kernel
theorem d_Law_law_118 : decode b_Law_law 118 = .ok (.iload 4, 2) := by decide +kernel
theorem d_Law_law_120 : decode b_Law_law 120 = .ok (.iconst 3, 1) := by decide +kernel
theorem d_Law_law_121 : decode b_Law_law 121 = .ok (.iadd, 1) := by decide +kernel
theorem d_Law_law_122 : decode b_Law_law 122 = .ok (.iaload, 1) := by decide +kernel
theorem d_Law_law_123 : decode b_Law_law 123 = .ok (.aload_n 0, 1) := by decide +kernel
theorem d_Law_law_124 : decode b_Law_law 124 = .ok (.iload 4, 2) := by decide +kernel
theorem d_Law_law_126 : decode b_Law_law 126 = .ok (.iconst 4, 1) := by decide +kernel
theorem d_Law_law_127 : decode b_Law_law 127 = .ok (.iadd, 1) := by decide +kernel
theorem d_Law_law_128 : decode b_Law_law 128 = .ok (.iaload, 1) := by decide +kernel
theorem d_Law_law_129 : decode b_Law_law 129 = .ok (.aload_n 0, 1) := by decide +kernel
theorem d_Law_law_130 : decode b_Law_law 130 = .ok (.iload 4, 2) := by decide +kernel
theorem d_Law_law_132 : decode b_Law_law 132 = .ok (.iconst 5, 1) := by decide +kernel
theorem d_Law_law_133 : decode b_Law_law 133 = .ok (.iadd, 1) := by decide +kernel
theorem d_Law_law_134 : decode b_Law_law 134 = .ok (.iaload, 1) := by decide +kernel
theorem d_Law_law_135 : decode b_Law_law 135 = .ok (.invokevirtual 34, 3) := by decide +kernel
theorem d_Law_law_138 : decode b_Law_law 138 = .ok (.aload_n 2, 1) := by decide +kernel
theorem d_Law_law_139 : decode b_Law_law 139 = .ok (.aload_n 0, 1) := by decide +kernel
theorem d_Law_law_140 : decode b_Law_law 140 = .ok (.iload 4, 2) := by decide +kernel
theorem d_Law_law_142 : decode b_Law_law 142 = .ok (.iconst 1, 1) := by decide +kernel
theorem d_Law_law_143 : decode b_Law_law 143 = .ok (.iadd, 1) := by decide +kernel
theorem d_Law_law_144 : decode b_Law_law 144 = .ok (.iaload, 1) := by decide +kernel
theorem d_Law_law_145 : decode b_Law_law 145 = .ok (.aload_n 0, 1) := by decide +kernel
theorem d_Law_law_146 : decode b_Law_law 146 = .ok (.iload 4, 2) := by decide +kernel
theorem d_Law_law_148 : decode b_Law_law 148 = .ok (.iconst 2, 1) := by decide +kernel
theorem d_Law_law_149 : decode b_Law_law 149 = .ok (.iadd, 1) := by decide +kernel
theorem d_Law_law_150 : decode b_Law_law 150 = .ok (.iaload, 1) := by decide +kernel
theorem d_Law_law_151 : decode b_Law_law 151 = .ok (.aload_n 0, 1) := by decide +kernel
theorem d_Law_law_152 : decode b_Law_law 152 = .ok (.iload 4, 2) := by decide +kernel
theorem d_Law_law_154 : decode b_Law_law 154 = .ok (.iconst 3, 1) := by decide +kernel
theorem d_Law_law_155 : decode b_Law_law 155 = .ok (.iadd, 1) := by decide +kernel
theorem d_Law_law_156 : decode b_Law_law 156 = .ok (.iaload, 1) := by decide +kernel
theorem d_Law_law_157 : decode b_Law_law 157 = .ok (.aload_n 0, 1) := by decide +kernel
theorem d_Law_law_158 : decode b_Law_law 158 = .ok (.iload 4, 2) := by decide +kernel
theorem d_Law_law_160 : decode b_Law_law 160 = .ok (.iconst 4, 1) := by decide +kernel
theorem d_Law_law_161 : decode b_Law_law 161 = .ok (.iadd, 1) := by decide +kernel
theorem d_Law_law_162 : decode b_Law_law 162 = .ok (.iaload, 1) := by decide +kernel
theorem d_Law_law_163 : decode b_Law_law 163 = .ok (.aload_n 0, 1) := by decide +kernel
theorem d_Law_law_164 : decode b_Law_law 164 = .ok (.iload 4, 2) := by decide +kernel
theorem d_Law_law_166 : decode b_Law_law 166 = .ok (.iconst 5, 1) := by decide +kernel
theorem d_Law_law_167 : decode b_Law_law 167 = .ok (.iadd, 1) := by decide +kernel
theorem d_Law_law_168 : decode b_Law_law 168 = .ok (.iaload, 1) := by decide +kernel
theorem d_Law_law_169 : decode b_Law_law 169 = .ok (.invokevirtual 38, 3) := by decide +kernel
theorem d_Law_law_172 : decode b_Law_law 172 = .ok (.if_icmp .eq 255, 3) := by decide +kernel
theorem d_Law_law_175 : decode b_Law_law 175 = .ok (.iconst 0, 1) := by decide +kernel
theorem d_Law_law_176 : decode b_Law_law 176 = .ok (.ireturn, 1) := by decide +kernel
theorem d_Law_law_177 : decode b_Law_law 177 = .ok (.aload_n 1, 1) := by decide +kernel
theorem d_Law_law_178 : decode b_Law_law 178 = .ok (.aload_n 0, 1) := by decide +kernel
theorem d_Law_law_179 : decode b_Law_law 179 = .ok (.iload 4, 2) := by decide +kernel
theorem d_Law_law_181 : decode b_Law_law 181 = .ok (.iconst 1, 1) := by decide +kernel
theorem d_Law_law_182 : decode b_Law_law 182 = .ok (.iadd, 1) := by decide +kernel
theorem d_Law_law_183 : decode b_Law_law 183 = .ok (.iaload, 1) := by decide +kernel
theorem d_Law_law_184 : decode b_Law_law 184 = .ok (.aload_n 0, 1) := by decide +kernel
theorem d_Law_law_185 : decode b_Law_law 185 = .ok (.iload 4, 2) := by decide +kernel
theorem d_Law_law_187 : decode b_Law_law 187 = .ok (.iconst 2, 1) := by decide +kernel
theorem d_Law_law_188 : decode b_Law_law 188 = .ok (.iadd, 1) := by decide +kernel
theorem d_Law_law_189 : decode b_Law_law 189 = .ok (.iaload, 1) := by decide +kernel
theorem d_Law_law_190 : decode b_Law_law 190 = .ok (.aload_n 3, 1) := by decide +kernel
theorem d_Law_law_191 : decode b_Law_law 191 = .ok (.invokestatic 39, 3) := by decide +kernel
theorem d_Law_law_194 : decode b_Law_law 194 = .ok (.istore 5, 2) := by decide +kernel
theorem d_Law_law_196 : decode b_Law_law 196 = .ok (.aload_n 2, 1) := by decide +kernel
theorem d_Law_law_197 : decode b_Law_law 197 = .ok (.aload_n 0, 1) := by decide +kernel
theorem d_Law_law_198 : decode b_Law_law 198 = .ok (.iload 4, 2) := by decide +kernel
theorem d_Law_law_200 : decode b_Law_law 200 = .ok (.iconst 1, 1) := by decide +kernel
theorem d_Law_law_201 : decode b_Law_law 201 = .ok (.iadd, 1) := by decide +kernel
theorem d_Law_law_202 : decode b_Law_law 202 = .ok (.iaload, 1) := by decide +kernel
theorem d_Law_law_203 : decode b_Law_law 203 = .ok (.aload_n 0, 1) := by decide +kernel
theorem d_Law_law_204 : decode b_Law_law 204 = .ok (.iload 4, 2) := by decide +kernel
theorem d_Law_law_206 : decode b_Law_law 206 = .ok (.iconst 2, 1) := by decide +kernel
theorem d_Law_law_207 : decode b_Law_law 207 = .ok (.iadd, 1) := by decide +kernel
theorem d_Law_law_208 : decode b_Law_law 208 = .ok (.iaload, 1) := by decide +kernel
theorem d_Law_law_209 : decode b_Law_law 209 = .ok (.invokevirtual 42, 3) := by decide +kernel
theorem d_Law_law_212 : decode b_Law_law 212 = .ok (.istore 6, 2) := by decide +kernel
theorem d_Law_law_214 : decode b_Law_law 214 = .ok (.aload_n 2, 1) := by decide +kernel
theorem d_Law_law_215 : decode b_Law_law 215 = .ok (.invokevirtual 43, 3) := by decide +kernel
theorem d_Law_law_218 : decode b_Law_law 218 = .ok (.iload 5, 2) := by decide +kernel
theorem d_Law_law_220 : decode b_Law_law 220 = .ok (.if_icmp .eq 5, 3) := by decide +kernel
theorem d_Law_law_223 : decode b_Law_law 223 = .ok (.iconst 0, 1) := by decide +kernel
theorem d_Law_law_224 : decode b_Law_law 224 = .ok (.ireturn, 1) := by decide +kernel
theorem d_Law_law_225 : decode b_Law_law 225 = .ok (.iload 5, 2) := by decide +kernel
theorem d_Law_law_227 : decode b_Law_law 227 = .ok (.ifCond .ne 15, 3) := by decide +kernel
theorem d_Law_law_230 : decode b_Law_law 230 = .ok (.aload_n 3, 1) := by decide +kernel
theorem d_Law_law_231 : decode b_Law_law 231 = .ok (.iconst 0, 1) := by decide +kernel
theorem d_Law_law_232 : decode b_Law_law 232 = .ok (.laload, 1) := by decide +kernel
theorem d_Law_law_233 : decode b_Law_law 233 = .ok (.iload 6, 2) := by decide +kernel
theorem d_Law_law_235 : decode b_Law_law 235 = .ok (.i2l, 1) := by decide +kernel
theorem d_Law_law_236 : decode b_Law_law 236 = .ok (.lcmp, 1) := by decide +kernel
theorem d_Law_law_237 : decode b_Law_law 237 = .ok (.ifCond .eq 5, 3) := by decide +kernel
theorem d_Law_law_240 : decode b_Law_law 240 = .ok (.iconst 0, 1) := by decide +kernel
theorem d_Law_law_241 : decode b_Law_law 241 = .ok (.ireturn, 1) := by decide +kernel
theorem d_Law_law_242 : decode b_Law_law 242 = .ok (.goto 185, 3) := by decide +kernel
theorem d_Law_law_245 : decode b_Law_law 245 = .ok (.aload_n 1, 1) := by decide +kernel
theorem d_Law_law_246 : decode b_Law_law 246 = .ok (.invokevirtual 47, 3) := by decide +kernel
theorem d_Law_law_249 : decode b_Law_law 249 = .ok (.aload_n 2, 1) := by decide +kernel
theorem d_Law_law_250 : decode b_Law_law 250 = .ok (.invokevirtual 50, 3) := by decide +kernel
theorem d_Law_law_253 : decode b_Law_law 253 = .ok (.if_icmp .eq 174, 3) := by decide +kernel
theorem d_Law_law_256 : decode b_Law_law 256 = .ok (.iconst 0, 1) := by decide +kernel
theorem d_Law_law_257 : decode b_Law_law 257 = .ok (.ireturn, 1) := by decide +kernel
theorem d_Law_law_258 : decode b_Law_law 258 = .ok (.aload_n 1, 1) := by decide +kernel
theorem d_Law_law_259 : decode b_Law_law 259 = .ok (.aload_n 0, 1) := by decide +kernel
theorem d_Law_law_260 : decode b_Law_law 260 = .ok (.iload 4, 2) := by decide +kernel
theorem d_Law_law_262 : decode b_Law_law 262 = .ok (.iconst 1, 1) := by decide +kernel
theorem d_Law_law_263 : decode b_Law_law 263 = .ok (.iadd, 1) := by decide +kernel
theorem d_Law_law_264 : decode b_Law_law 264 = .ok (.iaload, 1) := by decide +kernel
theorem d_Law_law_265 : decode b_Law_law 265 = .ok (.invokevirtual 51, 3) := by decide +kernel
theorem d_Law_law_268 : decode b_Law_law 268 = .ok (.aload_n 2, 1) := by decide +kernel
theorem d_Law_law_269 : decode b_Law_law 269 = .ok (.aload_n 0, 1) := by decide +kernel
theorem d_Law_law_270 : decode b_Law_law 270 = .ok (.iload 4, 2) := by decide +kernel
theorem d_Law_law_272 : decode b_Law_law 272 = .ok (.iconst 1, 1) := by decide +kernel
theorem d_Law_law_273 : decode b_Law_law 273 = .ok (.iadd, 1) := by decide +kernel
theorem d_Law_law_274 : decode b_Law_law 274 = .ok (.iaload, 1) := by decide +kernel
theorem d_Law_law_275 : decode b_Law_law 275 = .ok (.invokevirtual 55, 3) := by decide +kernel
theorem d_Law_law_278 : decode b_Law_law 278 = .ok (.lcmp, 1) := by decide +kernel
theorem d_Law_law_279 : decode b_Law_law 279 = .ok (.ifCond .eq 148, 3) := by decide +kernel
theorem d_Law_law_282 : decode b_Law_law 282 = .ok (.iconst 0, 1) := by decide +kernel
theorem d_Law_law_283 : decode b_Law_law 283 = .ok (.ireturn, 1) := by decide +kernel
theorem d_Law_law_284 : decode b_Law_law 284 = .ok (.aload_n 1, 1) := by decide +kernel
theorem d_Law_law_285 : decode b_Law_law 285 = .ok (.aload_n 0, 1) := by decide +kernel
theorem d_Law_law_286 : decode b_Law_law 286 = .ok (.iload 4, 2) := by decide +kernel
theorem d_Law_law_288 : decode b_Law_law 288 = .ok (.iconst 1, 1) := by decide +kernel
theorem d_Law_law_289 : decode b_Law_law 289 = .ok (.iadd, 1) := by decide +kernel
theorem d_Law_law_290 : decode b_Law_law 290 = .ok (.iaload, 1) := by decide +kernel
theorem d_Law_law_291 : decode b_Law_law 291 = .ok (.aload_n 0, 1) := by decide +kernel
theorem d_Law_law_292 : decode b_Law_law 292 = .ok (.iload 4, 2) := by decide +kernel
theorem d_Law_law_294 : decode b_Law_law 294 = .ok (.iconst 2, 1) := by decide +kernel
theorem d_Law_law_295 : decode b_Law_law 295 = .ok (.iadd, 1) := by decide +kernel
theorem d_Law_law_296 : decode b_Law_law 296 = .ok (.iaload, 1) := by decide +kernel
theorem d_Law_law_297 : decode b_Law_law 297 = .ok (.aload_n 3, 1) := by decide +kernel
theorem d_Law_law_298 : decode b_Law_law 298 = .ok (.invokestatic 56, 3) := by decide +kernel
theorem d_Law_law_301 : decode b_Law_law 301 = .ok (.istore 5, 2) := by decide +kernel
theorem d_Law_law_303 : decode b_Law_law 303 = .ok (.aload_n 2, 1) := by decide +kernel
theorem d_Law_law_304 : decode b_Law_law 304 = .ok (.aload_n 0, 1) := by decide +kernel
theorem d_Law_law_305 : decode b_Law_law 305 = .ok (.iload 4, 2) := by decide +kernel
theorem d_Law_law_307 : decode b_Law_law 307 = .ok (.iconst 1, 1) := by decide +kernel
theorem d_Law_law_308 : decode b_Law_law 308 = .ok (.iadd, 1) := by decide +kernel
theorem d_Law_law_309 : decode b_Law_law 309 = .ok (.iaload, 1) := by decide +kernel
theorem d_Law_law_310 : decode b_Law_law 310 = .ok (.aload_n 0, 1) := by decide +kernel
theorem d_Law_law_311 : decode b_Law_law 311 = .ok (.iload 4, 2) := by decide +kernel
theorem d_Law_law_313 : decode b_Law_law 313 = .ok (.iconst 2, 1) := by decide +kernel
theorem d_Law_law_314 : decode b_Law_law 314 = .ok (.iadd, 1) := by decide +kernel
theorem d_Law_law_315 : decode b_Law_law 315 = .ok (.iaload, 1) := by decide +kernel
theorem d_Law_law_316 : decode b_Law_law 316 = .ok (.invokevirtual 58, 3) := by decide +kernel
theorem d_Law_law_319 : decode b_Law_law 319 = .ok (.istore 6, 2) := by decide +kernel
theorem d_Law_law_321 : decode b_Law_law 321 = .ok (.aload_n 2, 1) := by decide +kernel
theorem d_Law_law_322 : decode b_Law_law 322 = .ok (.invokevirtual 43, 3) := by decide +kernel
theorem d_Law_law_325 : decode b_Law_law 325 = .ok (.iload 5, 2) := by decide +kernel
theorem d_Law_law_327 : decode b_Law_law 327 = .ok (.if_icmp .eq 5, 3) := by decide +kernel
theorem d_Law_law_330 : decode b_Law_law 330 = .ok (.iconst 0, 1) := by decide +kernel
theorem d_Law_law_331 : decode b_Law_law 331 = .ok (.ireturn, 1) := by decide +kernel
theorem d_Law_law_332 : decode b_Law_law 332 = .ok (.iload 5, 2) := by decide +kernel
theorem d_Law_law_334 : decode b_Law_law 334 = .ok (.ifCond .ne 15, 3) := by decide +kernel
theorem d_Law_law_337 : decode b_Law_law 337 = .ok (.aload_n 3, 1) := by decide +kernel
theorem d_Law_law_338 : decode b_Law_law 338 = .ok (.iconst 0, 1) := by decide +kernel
theorem d_Law_law_339 : decode b_Law_law 339 = .ok (.laload, 1) := by decide +kernel
theorem d_Law_law_340 : decode b_Law_law 340 = .ok (.iload 6, 2) := by decide +kernel
theorem d_Law_law_342 : decode b_Law_law 342 = .ok (.i2l, 1) := by decide +kernel
theorem d_Law_law_343 : decode b_Law_law 343 = .ok (.lcmp, 1) := by decide +kernel
theorem d_Law_law_344 : decode b_Law_law 344 = .ok (.ifCond .eq 5, 3) := by decide +kernel
theorem d_Law_law_347 : decode b_Law_law 347 = .ok (.iconst 0, 1) := by decide +kernel
theorem d_Law_law_348 : decode b_Law_law 348 = .ok (.ireturn, 1) := by decide +kernel
theorem d_Law_law_349 : decode b_Law_law 349 = .ok (.goto 78, 3) := by decide +kernel
theorem d_Law_law_352 : decode b_Law_law 352 = .ok (.aload_n 1, 1) := by decide +kernel
theorem d_Law_law_353 : decode b_Law_law 353 = .ok (.aload_n 0, 1) := by decide +kernel
theorem d_Law_law_354 : decode b_Law_law 354 = .ok (.iload 4, 2) := by decide +kernel
theorem d_Law_law_356 : decode b_Law_law 356 = .ok (.iconst 1, 1) := by decide +kernel
theorem d_Law_law_357 : decode b_Law_law 357 = .ok (.iadd, 1) := by decide +kernel
theorem d_Law_law_358 : decode b_Law_law 358 = .ok (.iaload, 1) := by decide +kernel
theorem d_Law_law_359 : decode b_Law_law 359 = .ok (.aload_n 0, 1) := by decide +kernel
theorem d_Law_law_360 : decode b_Law_law 360 = .ok (.iload 4, 2) := by decide +kernel
theorem d_Law_law_362 : decode b_Law_law 362 = .ok (.iconst 2, 1) := by decide +kernel
theorem d_Law_law_363 : decode b_Law_law 363 = .ok (.iadd, 1) := by decide +kernel
theorem d_Law_law_364 : decode b_Law_law 364 = .ok (.iaload, 1) := by decide +kernel
theorem d_Law_law_365 : decode b_Law_law 365 = .ok (.aload_n 0, 1) := by decide +kernel
theorem d_Law_law_366 : decode b_Law_law 366 = .ok (.iload 4, 2) := by decide +kernel
theorem d_Law_law_368 : decode b_Law_law 368 = .ok (.iconst 3, 1) := by decide +kernel
theorem d_Law_law_369 : decode b_Law_law 369 = .ok (.iadd, 1) := by decide +kernel
theorem d_Law_law_370 : decode b_Law_law 370 = .ok (.iaload, 1) := by decide +kernel
theorem d_Law_law_371 : decode b_Law_law 371 = .ok (.invokevirtual 59, 3) := by decide +kernel
theorem d_Law_law_374 : decode b_Law_law 374 = .ok (.aload_n 2, 1) := by decide +kernel
theorem d_Law_law_375 : decode b_Law_law 375 = .ok (.aload_n 0, 1) := by decide +kernel
theorem d_Law_law_376 : decode b_Law_law 376 = .ok (.iload 4, 2) := by decide +kernel
theorem d_Law_law_378 : decode b_Law_law 378 = .ok (.iconst 1, 1) := by decide +kernel
theorem d_Law_law_379 : decode b_Law_law 379 = .ok (.iadd, 1) := by decide +kernel
theorem d_Law_law_380 : decode b_Law_law 380 = .ok (.iaload, 1) := by decide +kernel
theorem d_Law_law_381 : decode b_Law_law 381 = .ok (.aload_n 0, 1) := by decide +kernel
theorem d_Law_law_382 : decode b_Law_law 382 = .ok (.iload 4, 2) := by decide +kernel
theorem d_Law_law_384 : decode b_Law_law 384 = .ok (.iconst 2, 1) := by decide +kernel
theorem d_Law_law_385 : decode b_Law_law 385 = .ok (.iadd, 1) := by decide +kernel
theorem d_Law_law_386 : decode b_Law_law 386 = .ok (.iaload, 1) := by decide +kernel
theorem d_Law_law_387 : decode b_Law_law 387 = .ok (.aload_n 0, 1) := by decide +kernel
theorem d_Law_law_388 : decode b_Law_law 388 = .ok (.iload 4, 2) := by decide +kernel
theorem d_Law_law_390 : decode b_Law_law 390 = .ok (.iconst 3, 1) := by decide +kernel
theorem d_Law_law_391 : decode b_Law_law 391 = .ok (.iadd, 1) := by decide +kernel
theorem d_Law_law_392 : decode b_Law_law 392 = .ok (.iaload, 1) := by decide +kernel
theorem d_Law_law_393 : decode b_Law_law 393 = .ok (.invokevirtual 63, 3) := by decide +kernel
theorem d_Law_law_396 : decode b_Law_law 396 = .ok (.lcmp, 1) := by decide +kernel
theorem d_Law_law_397 : decode b_Law_law 397 = .ok (.ifCond .eq 30, 3) := by decide +kernel
theorem d_Law_law_400 : decode b_Law_law 400 = .ok (.iconst 0, 1) := by decide +kernel
theorem d_Law_law_401 : decode b_Law_law 401 = .ok (.ireturn, 1) := by decide +kernel
theorem d_Law_law_402 : decode b_Law_law 402 = .ok (.aload_n 1, 1) := by decide +kernel
theorem d_Law_law_403 : decode b_Law_law 403 = .ok (.aload_n 0, 1) := by decide +kernel
theorem d_Law_law_404 : decode b_Law_law 404 = .ok (.iload 4, 2) := by decide +kernel
theorem d_Law_law_406 : decode b_Law_law 406 = .ok (.iconst 1, 1) := by decide +kernel
theorem d_Law_law_407 : decode b_Law_law 407 = .ok (.iadd, 1) := by decide +kernel
theorem d_Law_law_408 : decode b_Law_law 408 = .ok (.iaload, 1) := by decide +kernel
theorem d_Law_law_409 : decode b_Law_law 409 = .ok (.invokevirtual 64, 3) := by decide +kernel
theorem d_Law_law_412 : decode b_Law_law 412 = .ok (.aload_n 2, 1) := by decide +kernel
theorem d_Law_law_413 : decode b_Law_law 413 = .ok (.aload_n 0, 1) := by decide +kernel
theorem d_Law_law_414 : decode b_Law_law 414 = .ok (.iload 4, 2) := by decide +kernel
theorem d_Law_law_416 : decode b_Law_law 416 = .ok (.iconst 1, 1) := by decide +kernel
theorem d_Law_law_417 : decode b_Law_law 417 = .ok (.iadd, 1) := by decide +kernel
theorem d_Law_law_418 : decode b_Law_law 418 = .ok (.iaload, 1) := by decide +kernel
theorem d_Law_law_419 : decode b_Law_law 419 = .ok (.invokevirtual 68, 3) := by decide +kernel
theorem d_Law_law_422 : decode b_Law_law 422 = .ok (.if_icmp .eq 5, 3) := by decide +kernel
theorem d_Law_law_425 : decode b_Law_law 425 = .ok (.iconst 0, 1) := by decide +kernel
theorem d_Law_law_426 : decode b_Law_law 426 = .ok (.ireturn, 1) := by decide +kernel
theorem d_Law_law_427 : decode b_Law_law 427 = .ok (.iinc 4 6, 3) := by decide +kernel
theorem d_Law_law_430 : decode b_Law_law 430 = .ok (.goto (-387), 3) := by decide +kernel
theorem d_Law_law_433 : decode b_Law_law 433 = .ok (.iconst 1, 1) := by decide +kernel
theorem d_Law_law_434 : decode b_Law_law 434 = .ok (.ireturn, 1) := by decide +kernel
/-! THE CLAIM OUT OF ONE WALK OF THE LAW'S BODY. Your part is whole_start (and what it stands on); all else here is the same for every law, but numbers. -/
def R_law : String := "SheetPrinterLaw"
def lw_P (b : Addr) (xs : List Int32) (args : Array Value) (s : State) : Prop := args = #[.ref b] ∧ s.IntsAt b xs ∧ xs.length ≤ 3074 ∧ (Jvm.Cond.and given_1 narrow_1).before args s = true
def lw_Q (_ : Array Value) (s : State) (o : Outcome) (t : State) : Prop := o = .returned (some (.int 1)) ∧ Framed s o t [] room_1.cells room_1.slots
def lw_Z (below : List Frame) (a : Array Value) (s : State) : State → Prop := fun t => ∃ o, t.status = .running ∧ Ended t below o ∧ lw_Q a s o t
/-- the law's own end, with 1 on the stack, nothing written that was there before, its room as the claim has it -/
theorem lw_ret {p : Program} {l : Launch} {e : Env} {s : State} {m : MethodId} {below : List Frame} {meth : Method} {c : Code} {b : Nat} (hx : p.tables.exec = Jvm.exec) (hb : c.code = code) (hr : meth.sig.returnType = ret) (hlocks : meth.locks = false) {pc : Nat} {H : Heap} {ls : Array Slot} (hdg : decode code pc = .ok (.ireturn, 1)) : W p l e room_1 s m #[Value.ref b] below meth c H [] room_1.cells room_1.slots (lw_Z below #[Value.ref b] s) (F0 m pc ls [.int 1]) := by
  intro T hT X
  obtain ⟨fs, hret, hrun, hended, hW, hframe⟩ := X.leave (v := some (.int 1)) (hlocks := hlocks) (fun h => by rw [hr] at h; cases h)
  have hmeth' : T.vm.method? m = some meth := X.method'
  refine ⟨T.setFrames fs, ?_, .returned (some (.int 1)), hrun, hended, rfl, ⟨_, rfl⟩, hW, hframe⟩
  jvm_step X.here [X.here.top, hx, hb, hdg, hmeth', hr, ret, narrow_b1]
  (try refine ⟨rfl, ?_⟩); (try refine ⟨rfl, ?_⟩)
  first | (intro acts; rw [hret _ acts rfl rfl rfl]) | rw [hret _ _ rfl rfl rfl]
  exact Steps.refl _
/-- what holds at the law's entry: the machine, the code, the tables' words (any of lw_tbl by 'hts w (by decide +kernel)'), the script of L ints xs at the cell b, what the Statement gives of the start (any of its parts by flat_of_before) -/
def lw_At (p : Program) (s : State) (m : MethodId) (meth : Method) (c : Code) (b L : Nat) (xs : Nat → Int32) : Prop :=
  p.tables.exec = Jvm.exec ∧ c.code = code ∧ meth.sig.returnType = ret ∧ c.maxLocals = 7 ∧ s.vm.findClass R_law = some m.cls ∧ (∀ w ∈ lw_tbl, w.before #[Value.ref b] s = true) ∧ va_X b L xs s s.heap ∧ b < s.heap.size ∧ meth.locks = false ∧ (Jvm.Cond.and given_1 narrow_1).before #[Value.ref b] s = true

theorem yv_eq : pg_cl (pg_H 1 0) (pg_home 3600 1200).toInt64 = 4500 := by decide +kernel
theorem ls_8 : ∀ L : Nat, L < 8 → Int32.ofNat L - 6 < 2 := by decide
set_option maxRecDepth 100000 in
theorem lw_known {s : State} {args : Array Value} (hwd : ∀ w ∈ gT, w.before args s = true) : ∃ (dC : Nat → ClassId) (dI : Nat → Nat → Nat), ∀ (k : Nat) (q : vw_C), vcl[k]? = some q → u_Kn s q.1 q.2.1 q.2.2 (dC k) (dI k) := by
  obtain ⟨c0, j0, h0⟩ := u_known (C := R_Main) (T := F_Main) (N := 18) (n := 18) hwd i_Main (hwd _ wd_1_30)
  obtain ⟨c1, j1, h1⟩ := u_known (C := R_Ref) (T := F_Ref) (N := 47) (n := 47) hwd i_Ref (hwd _ wd_9_24)
  obtain ⟨c2, j2, h2⟩ := u_known (C := R_Coder) (T := F_Coder) (N := 11) (n := 11) hwd i_Coder (hwd _ wd_3_236)
  obtain ⟨c3, j3, h3⟩ := u_known (C := R_FontShelf) (T := F_FontShelf) (N := 16) (n := 16) hwd i_FontShelf (hwd _ wd_2_7)
  obtain ⟨c4, j4, h4⟩ := u_known (C := R_Interpreter) (T := F_Interpreter) (N := 20) (n := 20) hwd i_Interpreter (hwd _ wd_3_42)
  obtain ⟨c5, j5, h5⟩ := u_known (C := R_LineReader) (T := F_LineReader) (N := 15) (n := 15) hwd i_LineReader (hwd _ wd_4_37)
  obtain ⟨c6, j6, h6⟩ := u_known (C := R_Macros) (T := F_Macros) (N := 17) (n := 17) hwd i_Macros (hwd _ wd_2_152)
  obtain ⟨c7, j7, h7⟩ := u_known (C := R_OutFile) (T := F_OutFile) (N := 5) (n := 5) hwd i_OutFile (hwd _ wd_3_207)
  obtain ⟨c8, j8, h8⟩ := u_known (C := R_Page) (T := F_Page) (N := 19) (n := 19) hwd i_Page (hwd _ wd_1_39)
  obtain ⟨c9, j9, h9⟩ := u_known (C := R_Parser) (T := F_Parser) (N := 16) (n := 16) hwd i_Parser (hwd _ wd_3_48)
  obtain ⟨c10, j10, h10⟩ := u_known (C := R_PictureFile) (T := F_PictureFile) (N := 8) (n := 8) hwd i_PictureFile (hwd _ wd_3_174)
  obtain ⟨c11, j11, h11⟩ := u_known (C := R_Raster) (T := F_Raster) (N := 14) (n := 14) hwd i_Raster (hwd _ wd_2_220)
  obtain ⟨c12, j12, h12⟩ := u_known (C := R_Sheet) (T := F_Sheet) (N := 17) (n := 17) hwd i_Sheet (hwd _ wd_1_169)
  obtain ⟨c13, j13, h13⟩ := u_known (C := R_mDesk) (T := F_mDesk) (N := 36) (n := 36) hwd i_mDesk (hwd _ wd_9_30)
  obtain ⟨c14, j14, h14⟩ := u_known (C := R_mLines) (T := F_mLines) (N := 21) (n := 21) hwd i_mLines (hwd _ wd_10_77)
  obtain ⟨c15, j15, h15⟩ := u_known (C := R_mMacros) (T := F_mMacros) (N := 11) (n := 11) hwd i_mMacros (hwd _ wd_10_31)
  obtain ⟨c16, j16, h16⟩ := u_known (C := R_mPictures) (T := F_mPictures) (N := 30) (n := 30) hwd i_mPictures (hwd _ wd_10_152)
  obtain ⟨c17, j17, h17⟩ := u_known (C := R_mSheet) (T := F_mSheet) (N := 12) (n := 12) hwd i_mSheet (hwd _ wd_11_15)
  obtain ⟨c18, j18, h18⟩ := u_known (C := R_mShelf) (T := F_mShelf) (N := 20) (n := 20) hwd i_mShelf (hwd _ wd_9_198)
  refine ⟨fun k => ([c0, c1, c2, c3, c4, c5, c6, c7, c8, c9, c10, c11, c12, c13, c14, c15, c16, c17, c18] : List ClassId).getD k 0, fun k => ([j0, j1, j2, j3, j4, j5, j6, j7, j8, j9, j10, j11, j12, j13, j14, j15, j16, j17, j18] : List (Nat → Nat)).getD k (fun _ => 0), ?_⟩
  intro k q hq
  match k, hq with
  | 0, hq => cases hq; exact h0
  | 1, hq => cases hq; exact h1
  | 2, hq => cases hq; exact h2
  | 3, hq => cases hq; exact h3
  | 4, hq => cases hq; exact h4
  | 5, hq => cases hq; exact h5
  | 6, hq => cases hq; exact h6
  | 7, hq => cases hq; exact h7
  | 8, hq => cases hq; exact h8
  | 9, hq => cases hq; exact h9
  | 10, hq => cases hq; exact h10
  | 11, hq => cases hq; exact h11
  | 12, hq => cases hq; exact h12
  | 13, hq => cases hq; exact h13
  | 14, hq => cases hq; exact h14
  | 15, hq => cases hq; exact h15
  | 16, hq => cases hq; exact h16
  | 17, hq => cases hq; exact h17
  | 18, hq => cases hq; exact h18
  | k + 19, hq => simp [vcl] at hq
