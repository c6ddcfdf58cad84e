abbrev zc_La_law : ByteArray := code
theorem zd_La_law_0 : decode zc_La_law 0 = .ok (.new 8, 3) := by decide +kernel
theorem zd_La_law_3 : decode zc_La_law 3 = .ok (.dup, 1) := by decide +kernel
theorem zd_La_law_4 : decode zc_La_law 4 = .ok (.invokespecial 49, 3) := by decide +kernel
theorem zd_La_law_7 : decode zc_La_law 7 = .ok (.astore_n 1, 1) := by decide +kernel
theorem zd_La_law_8 : decode zc_La_law 8 = .ok (.new 50, 3) := by decide +kernel
theorem zd_La_law_11 : decode zc_La_law 11 = .ok (.dup, 1) := by decide +kernel
theorem zd_La_law_12 : decode zc_La_law 12 = .ok (.invokespecial 52, 3) := by decide +kernel
theorem zd_La_law_15 : decode zc_La_law 15 = .ok (.astore_n 2, 1) := by decide +kernel
theorem zd_La_law_16 : decode zc_La_law 16 = .ok (.iconst 1, 1) := by decide +kernel
theorem zd_La_law_17 : decode zc_La_law 17 = .ok (.newarray .long, 2) := by decide +kernel
theorem zd_La_law_19 : decode zc_La_law 19 = .ok (.astore_n 3, 1) := by decide +kernel
theorem zd_La_law_20 : decode zc_La_law 20 = .ok (.iconst 0, 1) := by decide +kernel
theorem zd_La_law_21 : decode zc_La_law 21 = .ok (.istore 4, 2) := by decide +kernel
theorem zd_La_law_23 : decode zc_La_law 23 = .ok (.iload 4, 2) := by decide +kernel
theorem zd_La_law_25 : decode zc_La_law 25 = .ok (.aload_n 0, 1) := by decide +kernel
theorem zd_La_law_26 : decode zc_La_law 26 = .ok (.arraylength, 1) := by decide +kernel
theorem zd_La_law_27 : decode zc_La_law 27 = .ok (.bipush 7, 2) := by decide +kernel
theorem zd_La_law_29 : decode zc_La_law 29 = .ok (.isub, 1) := by decide +kernel
theorem zd_La_law_30 : decode zc_La_law 30 = .ok (.if_icmp .gt 663, 3) := by decide +kernel
theorem zd_La_law_33 : decode zc_La_law 33 = .ok (.aload_n 0, 1) := by decide +kernel
theorem zd_La_law_34 : decode zc_La_law 34 = .ok (.iload 4, 2) := by decide +kernel
theorem zd_La_law_36 : decode zc_La_law 36 = .ok (.iaload, 1) := by decide +kernel
theorem zd_La_law_37 : decode zc_La_law 37 = .ok (.bipush 15, 2) := by decide +kernel
theorem zd_La_law_39 : decode zc_La_law 39 = .ok (.iand, 1) := by decide +kernel
theorem zd_La_law_40 : decode zc_La_law 40 = .ok (.tableswitch 647 0 9 #[56, 154, 190, 246, 314, 382, 430, 498, 566, 622], 56) := by decide +kernel
theorem zd_La_law_96 : decode zc_La_law 96 = .ok (.aload_n 1, 1) := by decide +kernel
theorem zd_La_law_97 : decode zc_La_law 97 = .ok (.aload_n 0, 1) := by decide +kernel
theorem zd_La_law_98 : decode zc_La_law 98 = .ok (.iload 4, 2) := by decide +kernel
theorem zd_La_law_100 : decode zc_La_law 100 = .ok (.iconst 1, 1) := by decide +kernel
theorem zd_La_law_101 : decode zc_La_law 101 = .ok (.iadd, 1) := by decide +kernel
theorem zd_La_law_102 : decode zc_La_law 102 = .ok (.iaload, 1) := by decide +kernel
theorem zd_La_law_103 : decode zc_La_law 103 = .ok (.aload_n 0, 1) := by decide +kernel
theorem zd_La_law_104 : decode zc_La_law 104 = .ok (.iload 4, 2) := by decide +kernel
theorem zd_La_law_106 : decode zc_La_law 106 = .ok (.iconst 2, 1) := by decide +kernel
theorem zd_La_law_107 : decode zc_La_law 107 = .ok (.iadd, 1) := by decide +kernel
theorem zd_La_law_108 : decode zc_La_law 108 = .ok (.iaload, 1) := by decide +kernel
theorem zd_La_law_109 : decode zc_La_law 109 = .ok (.aload_n 0, 1) := by decide +kernel
theorem zd_La_law_110 : decode zc_La_law 110 = .ok (.iload 4, 2) := by decide +kernel
theorem zd_La_law_112 : decode zc_La_law 112 = .ok (.iconst 3, 1) := by decide +kernel
theorem zd_La_law_113 : decode zc_La_law 113 = .ok (.iadd, 1) := by decide +kernel
theorem zd_La_law_114 : decode zc_La_law 114 = .ok (.iaload, 1) := by decide +kernel
theorem zd_La_law_115 : decode zc_La_law 115 = .ok (.aload_n 0, 1) := by decide +kernel
theorem zd_La_law_116 : decode zc_La_law 116 = .ok (.iload 4, 2) := by decide +kernel
theorem zd_La_law_118 : decode zc_La_law 118 = .ok (.iconst 4, 1) := by decide +kernel
theorem zd_La_law_119 : decode zc_La_law 119 = .ok (.iadd, 1) := by decide +kernel
theorem zd_La_law_120 : decode zc_La_law 120 = .ok (.iaload, 1) := by decide +kernel
theorem zd_La_law_121 : decode zc_La_law 121 = .ok (.aload_n 0, 1) := by decide +kernel
theorem zd_La_law_122 : decode zc_La_law 122 = .ok (.iload 4, 2) := by decide +kernel
theorem zd_La_law_124 : decode zc_La_law 124 = .ok (.iconst 5, 1) := by decide +kernel
theorem zd_La_law_125 : decode zc_La_law 125 = .ok (.iadd, 1) := by decide +kernel
theorem zd_La_law_126 : decode zc_La_law 126 = .ok (.iaload, 1) := by decide +kernel
theorem zd_La_law_127 : decode zc_La_law 127 = .ok (.aload_n 0, 1) := by decide +kernel
theorem zd_La_law_128 : decode zc_La_law 128 = .ok (.iload 4, 2) := by decide +kernel
theorem zd_La_law_130 : decode zc_La_law 130 = .ok (.bipush 6, 2) := by decide +kernel
theorem zd_La_law_132 : decode zc_La_law 132 = .ok (.iadd, 1) := by decide +kernel
theorem zd_La_law_133 : decode zc_La_law 133 = .ok (.iaload, 1) := by decide +kernel
theorem zd_La_law_134 : decode zc_La_law 134 = .ok (.invokestatic 53, 3) := by decide +kernel
theorem zd_La_law_137 : decode zc_La_law 137 = .ok (.istore 5, 2) := by decide +kernel
theorem zd_La_law_139 : decode zc_La_law 139 = .ok (.aload_n 2, 1) := by decide +kernel
theorem zd_La_law_140 : decode zc_La_law 140 = .ok (.aload_n 0, 1) := by decide +kernel
theorem zd_La_law_141 : decode zc_La_law 141 = .ok (.iload 4, 2) := by decide +kernel
theorem zd_La_law_143 : decode zc_La_law 143 = .ok (.iconst 1, 1) := by decide +kernel
theorem zd_La_law_144 : decode zc_La_law 144 = .ok (.iadd, 1) := by decide +kernel
theorem zd_La_law_145 : decode zc_La_law 145 = .ok (.iaload, 1) := by decide +kernel
theorem zd_La_law_146 : decode zc_La_law 146 = .ok (.aload_n 0, 1) := by decide +kernel
theorem zd_La_law_147 : decode zc_La_law 147 = .ok (.iload 4, 2) := by decide +kernel
theorem zd_La_law_149 : decode zc_La_law 149 = .ok (.iconst 2, 1) := by decide +kernel
theorem zd_La_law_150 : decode zc_La_law 150 = .ok (.iadd, 1) := by decide +kernel
theorem zd_La_law_151 : decode zc_La_law 151 = .ok (.iaload, 1) := by decide +kernel
theorem zd_La_law_152 : decode zc_La_law 152 = .ok (.aload_n 0, 1) := by decide +kernel
theorem zd_La_law_153 : decode zc_La_law 153 = .ok (.iload 4, 2) := by decide +kernel
theorem zd_La_law_155 : decode zc_La_law 155 = .ok (.iconst 3, 1) := by decide +kernel
theorem zd_La_law_156 : decode zc_La_law 156 = .ok (.iadd, 1) := by decide +kernel
theorem zd_La_law_157 : decode zc_La_law 157 = .ok (.iaload, 1) := by decide +kernel
theorem zd_La_law_158 : decode zc_La_law 158 = .ok (.aload_n 0, 1) := by decide +kernel
theorem zd_La_law_159 : decode zc_La_law 159 = .ok (.iload 4, 2) := by decide +kernel
theorem zd_La_law_161 : decode zc_La_law 161 = .ok (.iconst 4, 1) := by decide +kernel
theorem zd_La_law_162 : decode zc_La_law 162 = .ok (.iadd, 1) := by decide +kernel
theorem zd_La_law_163 : decode zc_La_law 163 = .ok (.iaload, 1) := by decide +kernel
theorem zd_La_law_164 : decode zc_La_law 164 = .ok (.aload_n 0, 1) := by decide +kernel
theorem zd_La_law_165 : decode zc_La_law 165 = .ok (.iload 4, 2) := by decide +kernel
theorem zd_La_law_167 : decode zc_La_law 167 = .ok (.iconst 5, 1) := by decide +kernel
theorem zd_La_law_168 : decode zc_La_law 168 = .ok (.iadd, 1) := by decide +kernel
theorem zd_La_law_169 : decode zc_La_law 169 = .ok (.iaload, 1) := by decide +kernel
theorem zd_La_law_170 : decode zc_La_law 170 = .ok (.aload_n 0, 1) := by decide +kernel
theorem zd_La_law_171 : decode zc_La_law 171 = .ok (.iload 4, 2) := by decide +kernel
theorem zd_La_law_173 : decode zc_La_law 173 = .ok (.bipush 6, 2) := by decide +kernel
theorem zd_La_law_175 : decode zc_La_law 175 = .ok (.iadd, 1) := by decide +kernel
theorem zd_La_law_176 : decode zc_La_law 176 = .ok (.iaload, 1) := by decide +kernel
theorem zd_La_law_177 : decode zc_La_law 177 = .ok (.invokevirtual 58, 3) := by decide +kernel
theorem zd_La_law_180 : decode zc_La_law 180 = .ok (.aload_n 2, 1) := by decide +kernel
theorem zd_La_law_181 : decode zc_La_law 181 = .ok (.invokevirtual 59, 3) := by decide +kernel
theorem zd_La_law_184 : decode zc_La_law 184 = .ok (.iload 5, 2) := by decide +kernel
theorem zd_La_law_186 : decode zc_La_law 186 = .ok (.if_icmp .eq 5, 3) := by decide +kernel
theorem zd_La_law_189 : decode zc_La_law 189 = .ok (.iconst 0, 1) := by decide +kernel
theorem zd_La_law_190 : decode zc_La_law 190 = .ok (.ireturn, 1) := by decide +kernel
theorem zd_La_law_191 : decode zc_La_law 191 = .ok (.goto 496, 3) := by decide +kernel
theorem zd_La_law_194 : decode zc_La_law 194 = .ok (.aload_n 1, 1) := by decide +kernel
theorem zd_La_law_195 : decode zc_La_law 195 = .ok (.aload_n 0, 1) := by decide +kernel
theorem zd_La_law_196 : decode zc_La_law 196 = .ok (.iload 4, 2) := by decide +kernel
theorem zd_La_law_198 : decode zc_La_law 198 = .ok (.iconst 1, 1) := by decide +kernel
theorem zd_La_law_199 : decode zc_La_law 199 = .ok (.iadd, 1) := by decide +kernel
theorem zd_La_law_200 : decode zc_La_law 200 = .ok (.iaload, 1) := by decide +kernel
theorem zd_La_law_201 : decode zc_La_law 201 = .ok (.invokestatic 63, 3) := by decide +kernel
theorem zd_La_law_204 : decode zc_La_law 204 = .ok (.istore 5, 2) := by decide +kernel
theorem zd_La_law_206 : decode zc_La_law 206 = .ok (.aload_n 2, 1) := by decide +kernel
theorem zd_La_law_207 : decode zc_La_law 207 = .ok (.aload_n 0, 1) := by decide +kernel
theorem zd_La_law_208 : decode zc_La_law 208 = .ok (.iload 4, 2) := by decide +kernel
theorem zd_La_law_210 : decode zc_La_law 210 = .ok (.iconst 1, 1) := by decide +kernel
theorem zd_La_law_211 : decode zc_La_law 211 = .ok (.iadd, 1) := by decide +kernel
theorem zd_La_law_212 : decode zc_La_law 212 = .ok (.iaload, 1) := by decide +kernel
theorem zd_La_law_213 : decode zc_La_law 213 = .ok (.invokevirtual 66, 3) := by decide +kernel
theorem zd_La_law_216 : decode zc_La_law 216 = .ok (.aload_n 2, 1) := by decide +kernel
theorem zd_La_law_217 : decode zc_La_law 217 = .ok (.invokevirtual 59, 3) := by decide +kernel
theorem zd_La_law_220 : decode zc_La_law 220 = .ok (.iload 5, 2) := by decide +kernel
theorem zd_La_law_222 : decode zc_La_law 222 = .ok (.if_icmp .eq 5, 3) := by decide +kernel
theorem zd_La_law_225 : decode zc_La_law 225 = .ok (.iconst 0, 1) := by decide +kernel
theorem zd_La_law_226 : decode zc_La_law 226 = .ok (.ireturn, 1) := by decide +kernel
theorem zd_La_law_227 : decode zc_La_law 227 = .ok (.goto 460, 3) := by decide +kernel
theorem zd_La_law_230 : decode zc_La_law 230 = .ok (.aload_n 1, 1) := by decide +kernel
theorem zd_La_law_231 : decode zc_La_law 231 = .ok (.aload_n 0, 1) := by decide +kernel
theorem zd_La_law_232 : decode zc_La_law 232 = .ok (.iload 4, 2) := by decide +kernel
theorem zd_La_law_234 : decode zc_La_law 234 = .ok (.iconst 1, 1) := by decide +kernel
theorem zd_La_law_235 : decode zc_La_law 235 = .ok (.iadd, 1) := by decide +kernel
theorem zd_La_law_236 : decode zc_La_law 236 = .ok (.iaload, 1) := by decide +kernel
theorem zd_La_law_237 : decode zc_La_law 237 = .ok (.aload_n 3, 1) := by decide +kernel
theorem zd_La_law_238 : decode zc_La_law 238 = .ok (.invokestatic 67, 3) := by decide +kernel
theorem zd_La_law_241 : decode zc_La_law 241 = .ok (.istore 5, 2) := by decide +kernel
theorem zd_La_law_243 : decode zc_La_law 243 = .ok (.aload_n 2, 1) := by decide +kernel
theorem zd_La_law_244 : decode zc_La_law 244 = .ok (.aload_n 0, 1) := by decide +kernel
theorem zd_La_law_245 : decode zc_La_law 245 = .ok (.iload 4, 2) := by decide +kernel
theorem zd_La_law_247 : decode zc_La_law 247 = .ok (.iconst 1, 1) := by decide +kernel
theorem zd_La_law_248 : decode zc_La_law 248 = .ok (.iadd, 1) := by decide +kernel
theorem zd_La_law_249 : decode zc_La_law 249 = .ok (.iaload, 1) := by decide +kernel
theorem zd_La_law_250 : decode zc_La_law 250 = .ok (.invokevirtual 70, 3) := by decide +kernel
theorem zd_La_law_253 : decode zc_La_law 253 = .ok (.istore 6, 2) := by decide +kernel
theorem zd_La_law_255 : decode zc_La_law 255 = .ok (.aload_n 2, 1) := by decide +kernel
theorem zd_La_law_256 : decode zc_La_law 256 = .ok (.invokevirtual 59, 3) := by decide +kernel
theorem zd_La_law_259 : decode zc_La_law 259 = .ok (.iload 5, 2) := by decide +kernel
theorem zd_La_law_261 : decode zc_La_law 261 = .ok (.if_icmp .eq 5, 3) := by decide +kernel
theorem zd_La_law_264 : decode zc_La_law 264 = .ok (.iconst 0, 1) := by decide +kernel
theorem zd_La_law_265 : decode zc_La_law 265 = .ok (.ireturn, 1) := by decide +kernel
theorem zd_La_law_266 : decode zc_La_law 266 = .ok (.iload 5, 2) := by decide +kernel
theorem zd_La_law_268 : decode zc_La_law 268 = .ok (.ifCond .ne 15, 3) := by decide +kernel
theorem zd_La_law_271 : decode zc_La_law 271 = .ok (.aload_n 3, 1) := by decide +kernel
theorem zd_La_law_272 : decode zc_La_law 272 = .ok (.iconst 0, 1) := by decide +kernel
theorem zd_La_law_273 : decode zc_La_law 273 = .ok (.laload, 1) := by decide +kernel
theorem zd_La_law_274 : decode zc_La_law 274 = .ok (.iload 6, 2) := by decide +kernel
theorem zd_La_law_276 : decode zc_La_law 276 = .ok (.i2l, 1) := by decide +kernel
theorem zd_La_law_277 : decode zc_La_law 277 = .ok (.lcmp, 1) := by decide +kernel
theorem zd_La_law_278 : decode zc_La_law 278 = .ok (.ifCond .eq 5, 3) := by decide +kernel
theorem zd_La_law_281 : decode zc_La_law 281 = .ok (.iconst 0, 1) := by decide +kernel
theorem zd_La_law_282 : decode zc_La_law 282 = .ok (.ireturn, 1) := by decide +kernel
theorem zd_La_law_283 : decode zc_La_law 283 = .ok (.goto 404, 3) := by decide +kernel
theorem zd_La_law_286 : decode zc_La_law 286 = .ok (.aload_n 1, 1) := by decide +kernel
theorem zd_La_law_287 : decode zc_La_law 287 = .ok (.aload_n 0, 1) := by decide +kernel
theorem zd_La_law_288 : decode zc_La_law 288 = .ok (.iload 4, 2) := by decide +kernel
theorem zd_La_law_290 : decode zc_La_law 290 = .ok (.iconst 1, 1) := by decide +kernel
theorem zd_La_law_291 : decode zc_La_law 291 = .ok (.iadd, 1) := by decide +kernel
theorem zd_La_law_292 : decode zc_La_law 292 = .ok (.iaload, 1) := by decide +kernel
theorem zd_La_law_293 : decode zc_La_law 293 = .ok (.aload_n 0, 1) := by decide +kernel
theorem zd_La_law_294 : decode zc_La_law 294 = .ok (.iload 4, 2) := by decide +kernel
theorem zd_La_law_296 : decode zc_La_law 296 = .ok (.iconst 2, 1) := by decide +kernel
theorem zd_La_law_297 : decode zc_La_law 297 = .ok (.iadd, 1) := by decide +kernel
theorem zd_La_law_298 : decode zc_La_law 298 = .ok (.iaload, 1) := by decide +kernel
theorem zd_La_law_299 : decode zc_La_law 299 = .ok (.aload_n 3, 1) := by decide +kernel
theorem zd_La_law_300 : decode zc_La_law 300 = .ok (.invokestatic 71, 3) := by decide +kernel
theorem zd_La_law_303 : decode zc_La_law 303 = .ok (.istore 5, 2) := by decide +kernel
theorem zd_La_law_305 : decode zc_La_law 305 = .ok (.aload_n 2, 1) := by decide +kernel
theorem zd_La_law_306 : decode zc_La_law 306 = .ok (.aload_n 0, 1) := by decide +kernel
theorem zd_La_law_307 : decode zc_La_law 307 = .ok (.iload 4, 2) := by decide +kernel
theorem zd_La_law_309 : decode zc_La_law 309 = .ok (.iconst 1, 1) := by decide +kernel
theorem zd_La_law_310 : decode zc_La_law 310 = .ok (.iadd, 1) := by decide +kernel
theorem zd_La_law_311 : decode zc_La_law 311 = .ok (.iaload, 1) := by decide +kernel
theorem zd_La_law_312 : decode zc_La_law 312 = .ok (.aload_n 0, 1) := by decide +kernel
theorem zd_La_law_313 : decode zc_La_law 313 = .ok (.iload 4, 2) := by decide +kernel
theorem zd_La_law_315 : decode zc_La_law 315 = .ok (.iconst 2, 1) := by decide +kernel
theorem zd_La_law_316 : decode zc_La_law 316 = .ok (.iadd, 1) := by decide +kernel
theorem zd_La_law_317 : decode zc_La_law 317 = .ok (.iaload, 1) := by decide +kernel
theorem zd_La_law_318 : decode zc_La_law 318 = .ok (.invokevirtual 74, 3) := by decide +kernel
theorem zd_La_law_321 : decode zc_La_law 321 = .ok (.istore 6, 2) := by decide +kernel
theorem zd_La_law_323 : decode zc_La_law 323 = .ok (.aload_n 2, 1) := by decide +kernel
theorem zd_La_law_324 : decode zc_La_law 324 = .ok (.invokevirtual 59, 3) := by decide +kernel
theorem zd_La_law_327 : decode zc_La_law 327 = .ok (.iload 5, 2) := by decide +kernel
theorem zd_La_law_329 : decode zc_La_law 329 = .ok (.if_icmp .eq 5, 3) := by decide +kernel
theorem zd_La_law_332 : decode zc_La_law 332 = .ok (.iconst 0, 1) := by decide +kernel
theorem zd_La_law_333 : decode zc_La_law 333 = .ok (.ireturn, 1) := by decide +kernel
theorem zd_La_law_334 : decode zc_La_law 334 = .ok (.iload 5, 2) := by decide +kernel
theorem zd_La_law_336 : decode zc_La_law 336 = .ok (.ifCond .ne 15, 3) := by decide +kernel
theorem zd_La_law_339 : decode zc_La_law 339 = .ok (.aload_n 3, 1) := by decide +kernel
theorem zd_La_law_340 : decode zc_La_law 340 = .ok (.iconst 0, 1) := by decide +kernel
theorem zd_La_law_341 : decode zc_La_law 341 = .ok (.laload, 1) := by decide +kernel
theorem zd_La_law_342 : decode zc_La_law 342 = .ok (.iload 6, 2) := by decide +kernel
theorem zd_La_law_344 : decode zc_La_law 344 = .ok (.i2l, 1) := by decide +kernel
theorem zd_La_law_345 : decode zc_La_law 345 = .ok (.lcmp, 1) := by decide +kernel
theorem zd_La_law_346 : decode zc_La_law 346 = .ok (.ifCond .eq 5, 3) := by decide +kernel
theorem zd_La_law_349 : decode zc_La_law 349 = .ok (.iconst 0, 1) := by decide +kernel
theorem zd_La_law_350 : decode zc_La_law 350 = .ok (.ireturn, 1) := by decide +kernel
theorem zd_La_law_351 : decode zc_La_law 351 = .ok (.goto 336, 3) := by decide +kernel
theorem zd_La_law_354 : decode zc_La_law 354 = .ok (.aload_n 1, 1) := by decide +kernel
theorem zd_La_law_355 : decode zc_La_law 355 = .ok (.aload_n 0, 1) := by decide +kernel
theorem zd_La_law_356 : decode zc_La_law 356 = .ok (.iload 4, 2) := by decide +kernel
theorem zd_La_law_358 : decode zc_La_law 358 = .ok (.iconst 1, 1) := by decide +kernel
theorem zd_La_law_359 : decode zc_La_law 359 = .ok (.iadd, 1) := by decide +kernel
theorem zd_La_law_360 : decode zc_La_law 360 = .ok (.iaload, 1) := by decide +kernel
theorem zd_La_law_361 : decode zc_La_law 361 = .ok (.aload_n 0, 1) := by decide +kernel
theorem zd_La_law_362 : decode zc_La_law 362 = .ok (.iload 4, 2) := by decide +kernel
theorem zd_La_law_364 : decode zc_La_law 364 = .ok (.iconst 2, 1) := by decide +kernel
theorem zd_La_law_365 : decode zc_La_law 365 = .ok (.iadd, 1) := by decide +kernel
theorem zd_La_law_366 : decode zc_La_law 366 = .ok (.iaload, 1) := by decide +kernel
theorem zd_La_law_367 : decode zc_La_law 367 = .ok (.aload_n 3, 1) := by decide +kernel
theorem zd_La_law_368 : decode zc_La_law 368 = .ok (.invokestatic 75, 3) := by decide +kernel
theorem zd_La_law_371 : decode zc_La_law 371 = .ok (.istore 5, 2) := by decide +kernel
theorem zd_La_law_373 : decode zc_La_law 373 = .ok (.aload_n 2, 1) := by decide +kernel
theorem zd_La_law_374 : decode zc_La_law 374 = .ok (.aload_n 0, 1) := by decide +kernel
theorem zd_La_law_375 : decode zc_La_law 375 = .ok (.iload 4, 2) := by decide +kernel
theorem zd_La_law_377 : decode zc_La_law 377 = .ok (.iconst 1, 1) := by decide +kernel
theorem zd_La_law_378 : decode zc_La_law 378 = .ok (.iadd, 1) := by decide +kernel
theorem zd_La_law_379 : decode zc_La_law 379 = .ok (.iaload, 1) := by decide +kernel
theorem zd_La_law_380 : decode zc_La_law 380 = .ok (.aload_n 0, 1) := by decide +kernel
theorem zd_La_law_381 : decode zc_La_law 381 = .ok (.iload 4, 2) := by decide +kernel
theorem zd_La_law_383 : decode zc_La_law 383 = .ok (.iconst 2, 1) := by decide +kernel
theorem zd_La_law_384 : decode zc_La_law 384 = .ok (.iadd, 1) := by decide +kernel
theorem zd_La_law_385 : decode zc_La_law 385 = .ok (.iaload, 1) := by decide +kernel
theorem zd_La_law_386 : decode zc_La_law 386 = .ok (.invokevirtual 77, 3) := by decide +kernel
theorem zd_La_law_389 : decode zc_La_law 389 = .ok (.istore 6, 2) := by decide +kernel
theorem zd_La_law_391 : decode zc_La_law 391 = .ok (.aload_n 2, 1) := by decide +kernel
theorem zd_La_law_392 : decode zc_La_law 392 = .ok (.invokevirtual 59, 3) := by decide +kernel
theorem zd_La_law_395 : decode zc_La_law 395 = .ok (.iload 5, 2) := by decide +kernel
theorem zd_La_law_397 : decode zc_La_law 397 = .ok (.if_icmp .eq 5, 3) := by decide +kernel
theorem zd_La_law_400 : decode zc_La_law 400 = .ok (.iconst 0, 1) := by decide +kernel
theorem zd_La_law_401 : decode zc_La_law 401 = .ok (.ireturn, 1) := by decide +kernel
theorem zd_La_law_402 : decode zc_La_law 402 = .ok (.iload 5, 2) := by decide +kernel
theorem zd_La_law_404 : decode zc_La_law 404 = .ok (.ifCond .ne 15, 3) := by decide +kernel
theorem zd_La_law_407 : decode zc_La_law 407 = .ok (.aload_n 3, 1) := by decide +kernel
theorem zd_La_law_408 : decode zc_La_law 408 = .ok (.iconst 0, 1) := by decide +kernel
theorem zd_La_law_409 : decode zc_La_law 409 = .ok (.laload, 1) := by decide +kernel
theorem zd_La_law_410 : decode zc_La_law 410 = .ok (.iload 6, 2) := by decide +kernel
theorem zd_La_law_412 : decode zc_La_law 412 = .ok (.i2l, 1) := by decide +kernel
theorem zd_La_law_413 : decode zc_La_law 413 = .ok (.lcmp, 1) := by decide +kernel
theorem zd_La_law_414 : decode zc_La_law 414 = .ok (.ifCond .eq 5, 3) := by decide +kernel
theorem zd_La_law_417 : decode zc_La_law 417 = .ok (.iconst 0, 1) := by decide +kernel
theorem zd_La_law_418 : decode zc_La_law 418 = .ok (.ireturn, 1) := by decide +kernel
theorem zd_La_law_419 : decode zc_La_law 419 = .ok (.goto 268, 3) := by decide +kernel
theorem zd_La_law_422 : decode zc_La_law 422 = .ok (.aload_n 1, 1) := by decide +kernel
theorem zd_La_law_423 : decode zc_La_law 423 = .ok (.aload_n 0, 1) := by decide +kernel
theorem zd_La_law_424 : decode zc_La_law 424 = .ok (.iload 4, 2) := by decide +kernel
theorem zd_La_law_426 : decode zc_La_law 426 = .ok (.iconst 1, 1) := by decide +kernel
theorem zd_La_law_427 : decode zc_La_law 427 = .ok (.iadd, 1) := by decide +kernel
theorem zd_La_law_428 : decode zc_La_law 428 = .ok (.iaload, 1) := by decide +kernel
theorem zd_La_law_429 : decode zc_La_law 429 = .ok (.aload_n 0, 1) := by decide +kernel
theorem zd_La_law_430 : decode zc_La_law 430 = .ok (.iload 4, 2) := by decide +kernel
theorem zd_La_law_432 : decode zc_La_law 432 = .ok (.iconst 2, 1) := by decide +kernel
theorem zd_La_law_433 : decode zc_La_law 433 = .ok (.iadd, 1) := by decide +kernel
theorem zd_La_law_434 : decode zc_La_law 434 = .ok (.iaload, 1) := by decide +kernel
theorem zd_La_law_435 : decode zc_La_law 435 = .ok (.invokestatic 78, 3) := by decide +kernel
theorem zd_La_law_438 : decode zc_La_law 438 = .ok (.istore 5, 2) := by decide +kernel
theorem zd_La_law_440 : decode zc_La_law 440 = .ok (.aload_n 2, 1) := by decide +kernel
theorem zd_La_law_441 : decode zc_La_law 441 = .ok (.aload_n 0, 1) := by decide +kernel
theorem zd_La_law_442 : decode zc_La_law 442 = .ok (.iload 4, 2) := by decide +kernel
theorem zd_La_law_444 : decode zc_La_law 444 = .ok (.iconst 1, 1) := by decide +kernel
theorem zd_La_law_445 : decode zc_La_law 445 = .ok (.iadd, 1) := by decide +kernel
theorem zd_La_law_446 : decode zc_La_law 446 = .ok (.iaload, 1) := by decide +kernel
theorem zd_La_law_447 : decode zc_La_law 447 = .ok (.aload_n 0, 1) := by decide +kernel
theorem zd_La_law_448 : decode zc_La_law 448 = .ok (.iload 4, 2) := by decide +kernel
theorem zd_La_law_450 : decode zc_La_law 450 = .ok (.iconst 2, 1) := by decide +kernel
theorem zd_La_law_451 : decode zc_La_law 451 = .ok (.iadd, 1) := by decide +kernel
theorem zd_La_law_452 : decode zc_La_law 452 = .ok (.iaload, 1) := by decide +kernel
theorem zd_La_law_453 : decode zc_La_law 453 = .ok (.invokevirtual 81, 3) := by decide +kernel
theorem zd_La_law_456 : decode zc_La_law 456 = .ok (.aload_n 2, 1) := by decide +kernel
theorem zd_La_law_457 : decode zc_La_law 457 = .ok (.invokevirtual 59, 3) := by decide +kernel
theorem zd_La_law_460 : decode zc_La_law 460 = .ok (.iload 5, 2) := by decide +kernel
theorem zd_La_law_462 : decode zc_La_law 462 = .ok (.if_icmp .eq 5, 3) := by decide +kernel
theorem zd_La_law_465 : decode zc_La_law 465 = .ok (.iconst 0, 1) := by decide +kernel
theorem zd_La_law_466 : decode zc_La_law 466 = .ok (.ireturn, 1) := by decide +kernel
theorem zd_La_law_467 : decode zc_La_law 467 = .ok (.goto 220, 3) := by decide +kernel
theorem zd_La_law_470 : decode zc_La_law 470 = .ok (.aload_n 1, 1) := by decide +kernel
theorem zd_La_law_471 : decode zc_La_law 471 = .ok (.aload_n 0, 1) := by decide +kernel
theorem zd_La_law_472 : decode zc_La_law 472 = .ok (.iload 4, 2) := by decide +kernel
theorem zd_La_law_474 : decode zc_La_law 474 = .ok (.iconst 1, 1) := by decide +kernel
theorem zd_La_law_475 : decode zc_La_law 475 = .ok (.iadd, 1) := by decide +kernel
theorem zd_La_law_476 : decode zc_La_law 476 = .ok (.iaload, 1) := by decide +kernel
theorem zd_La_law_477 : decode zc_La_law 477 = .ok (.aload_n 0, 1) := by decide +kernel
theorem zd_La_law_478 : decode zc_La_law 478 = .ok (.iload 4, 2) := by decide +kernel
theorem zd_La_law_480 : decode zc_La_law 480 = .ok (.iconst 2, 1) := by decide +kernel
theorem zd_La_law_481 : decode zc_La_law 481 = .ok (.iadd, 1) := by decide +kernel
theorem zd_La_law_482 : decode zc_La_law 482 = .ok (.iaload, 1) := by decide +kernel
theorem zd_La_law_483 : decode zc_La_law 483 = .ok (.aload_n 3, 1) := by decide +kernel
theorem zd_La_law_484 : decode zc_La_law 484 = .ok (.invokestatic 82, 3) := by decide +kernel
theorem zd_La_law_487 : decode zc_La_law 487 = .ok (.istore 5, 2) := by decide +kernel
theorem zd_La_law_489 : decode zc_La_law 489 = .ok (.aload_n 2, 1) := by decide +kernel
theorem zd_La_law_490 : decode zc_La_law 490 = .ok (.aload_n 0, 1) := by decide +kernel
theorem zd_La_law_491 : decode zc_La_law 491 = .ok (.iload 4, 2) := by decide +kernel
theorem zd_La_law_493 : decode zc_La_law 493 = .ok (.iconst 1, 1) := by decide +kernel
theorem zd_La_law_494 : decode zc_La_law 494 = .ok (.iadd, 1) := by decide +kernel
theorem zd_La_law_495 : decode zc_La_law 495 = .ok (.iaload, 1) := by decide +kernel
theorem zd_La_law_496 : decode zc_La_law 496 = .ok (.aload_n 0, 1) := by decide +kernel
theorem zd_La_law_497 : decode zc_La_law 497 = .ok (.iload 4, 2) := by decide +kernel
theorem zd_La_law_499 : decode zc_La_law 499 = .ok (.iconst 2, 1) := by decide +kernel
theorem zd_La_law_500 : decode zc_La_law 500 = .ok (.iadd, 1) := by decide +kernel
theorem zd_La_law_501 : decode zc_La_law 501 = .ok (.iaload, 1) := by decide +kernel
theorem zd_La_law_502 : decode zc_La_law 502 = .ok (.invokevirtual 84, 3) := by decide +kernel
theorem zd_La_law_505 : decode zc_La_law 505 = .ok (.istore 6, 2) := by decide +kernel
theorem zd_La_law_507 : decode zc_La_law 507 = .ok (.aload_n 2, 1) := by decide +kernel
theorem zd_La_law_508 : decode zc_La_law 508 = .ok (.invokevirtual 59, 3) := by decide +kernel
theorem zd_La_law_511 : decode zc_La_law 511 = .ok (.iload 5, 2) := by decide +kernel
theorem zd_La_law_513 : decode zc_La_law 513 = .ok (.if_icmp .eq 5, 3) := by decide +kernel
theorem zd_La_law_516 : decode zc_La_law 516 = .ok (.iconst 0, 1) := by decide +kernel
theorem zd_La_law_517 : decode zc_La_law 517 = .ok (.ireturn, 1) := by decide +kernel
theorem zd_La_law_518 : decode zc_La_law 518 = .ok (.iload 5, 2) := by decide +kernel
theorem zd_La_law_520 : decode zc_La_law 520 = .ok (.ifCond .ne 15, 3) := by decide +kernel
theorem zd_La_law_523 : decode zc_La_law 523 = .ok (.aload_n 3, 1) := by decide +kernel
theorem zd_La_law_524 : decode zc_La_law 524 = .ok (.iconst 0, 1) := by decide +kernel
theorem zd_La_law_525 : decode zc_La_law 525 = .ok (.laload, 1) := by decide +kernel
theorem zd_La_law_526 : decode zc_La_law 526 = .ok (.iload 6, 2) := by decide +kernel
theorem zd_La_law_528 : decode zc_La_law 528 = .ok (.i2l, 1) := by decide +kernel
theorem zd_La_law_529 : decode zc_La_law 529 = .ok (.lcmp, 1) := by decide +kernel
theorem zd_La_law_530 : decode zc_La_law 530 = .ok (.ifCond .eq 5, 3) := by decide +kernel
theorem zd_La_law_533 : decode zc_La_law 533 = .ok (.iconst 0, 1) := by decide +kernel
theorem zd_La_law_534 : decode zc_La_law 534 = .ok (.ireturn, 1) := by decide +kernel
theorem zd_La_law_535 : decode zc_La_law 535 = .ok (.goto 152, 3) := by decide +kernel
theorem zd_La_law_538 : decode zc_La_law 538 = .ok (.aload_n 1, 1) := by decide +kernel
theorem zd_La_law_539 : decode zc_La_law 539 = .ok (.aload_n 0, 1) := by decide +kernel
theorem zd_La_law_540 : decode zc_La_law 540 = .ok (.iload 4, 2) := by decide +kernel
theorem zd_La_law_542 : decode zc_La_law 542 = .ok (.iconst 1, 1) := by decide +kernel
theorem zd_La_law_543 : decode zc_La_law 543 = .ok (.iadd, 1) := by decide +kernel
theorem zd_La_law_544 : decode zc_La_law 544 = .ok (.iaload, 1) := by decide +kernel
theorem zd_La_law_545 : decode zc_La_law 545 = .ok (.aload_n 0, 1) := by decide +kernel
theorem zd_La_law_546 : decode zc_La_law 546 = .ok (.iload 4, 2) := by decide +kernel
theorem zd_La_law_548 : decode zc_La_law 548 = .ok (.iconst 2, 1) := by decide +kernel
theorem zd_La_law_549 : decode zc_La_law 549 = .ok (.iadd, 1) := by decide +kernel
theorem zd_La_law_550 : decode zc_La_law 550 = .ok (.iaload, 1) := by decide +kernel
theorem zd_La_law_551 : decode zc_La_law 551 = .ok (.aload_n 3, 1) := by decide +kernel
theorem zd_La_law_552 : decode zc_La_law 552 = .ok (.invokestatic 85, 3) := by decide +kernel
theorem zd_La_law_555 : decode zc_La_law 555 = .ok (.istore 5, 2) := by decide +kernel
theorem zd_La_law_557 : decode zc_La_law 557 = .ok (.aload_n 2, 1) := by decide +kernel
theorem zd_La_law_558 : decode zc_La_law 558 = .ok (.aload_n 0, 1) := by decide +kernel
theorem zd_La_law_559 : decode zc_La_law 559 = .ok (.iload 4, 2) := by decide +kernel
theorem zd_La_law_561 : decode zc_La_law 561 = .ok (.iconst 1, 1) := by decide +kernel
theorem zd_La_law_562 : decode zc_La_law 562 = .ok (.iadd, 1) := by decide +kernel
theorem zd_La_law_563 : decode zc_La_law 563 = .ok (.iaload, 1) := by decide +kernel
theorem zd_La_law_564 : decode zc_La_law 564 = .ok (.aload_n 0, 1) := by decide +kernel
theorem zd_La_law_565 : decode zc_La_law 565 = .ok (.iload 4, 2) := by decide +kernel
theorem zd_La_law_567 : decode zc_La_law 567 = .ok (.iconst 2, 1) := by decide +kernel
theorem zd_La_law_568 : decode zc_La_law 568 = .ok (.iadd, 1) := by decide +kernel
theorem zd_La_law_569 : decode zc_La_law 569 = .ok (.iaload, 1) := by decide +kernel
theorem zd_La_law_570 : decode zc_La_law 570 = .ok (.invokevirtual 87, 3) := by decide +kernel
theorem zd_La_law_573 : decode zc_La_law 573 = .ok (.istore 6, 2) := by decide +kernel
theorem zd_La_law_575 : decode zc_La_law 575 = .ok (.aload_n 2, 1) := by decide +kernel
theorem zd_La_law_576 : decode zc_La_law 576 = .ok (.invokevirtual 59, 3) := by decide +kernel
theorem zd_La_law_579 : decode zc_La_law 579 = .ok (.iload 5, 2) := by decide +kernel
theorem zd_La_law_581 : decode zc_La_law 581 = .ok (.if_icmp .eq 5, 3) := by decide +kernel
theorem zd_La_law_584 : decode zc_La_law 584 = .ok (.iconst 0, 1) := by decide +kernel
theorem zd_La_law_585 : decode zc_La_law 585 = .ok (.ireturn, 1) := by decide +kernel
theorem zd_La_law_586 : decode zc_La_law 586 = .ok (.iload 5, 2) := by decide +kernel
theorem zd_La_law_588 : decode zc_La_law 588 = .ok (.ifCond .ne 15, 3) := by decide +kernel
theorem zd_La_law_591 : decode zc_La_law 591 = .ok (.aload_n 3, 1) := by decide +kernel
theorem zd_La_law_592 : decode zc_La_law 592 = .ok (.iconst 0, 1) := by decide +kernel
theorem zd_La_law_593 : decode zc_La_law 593 = .ok (.laload, 1) := by decide +kernel
theorem zd_La_law_594 : decode zc_La_law 594 = .ok (.iload 6, 2) := by decide +kernel
theorem zd_La_law_596 : decode zc_La_law 596 = .ok (.i2l, 1) := by decide +kernel
theorem zd_La_law_597 : decode zc_La_law 597 = .ok (.lcmp, 1) := by decide +kernel
theorem zd_La_law_598 : decode zc_La_law 598 = .ok (.ifCond .eq 5, 3) := by decide +kernel
theorem zd_La_law_601 : decode zc_La_law 601 = .ok (.iconst 0, 1) := by decide +kernel
theorem zd_La_law_602 : decode zc_La_law 602 = .ok (.ireturn, 1) := by decide +kernel
theorem zd_La_law_603 : decode zc_La_law 603 = .ok (.goto 84, 3) := by decide +kernel
theorem zd_La_law_606 : decode zc_La_law 606 = .ok (.aload_n 1, 1) := by decide +kernel
theorem zd_La_law_607 : decode zc_La_law 607 = .ok (.aload_n 0, 1) := by decide +kernel
theorem zd_La_law_608 : decode zc_La_law 608 = .ok (.iload 4, 2) := by decide +kernel
theorem zd_La_law_610 : decode zc_La_law 610 = .ok (.iconst 1, 1) := by decide +kernel
theorem zd_La_law_611 : decode zc_La_law 611 = .ok (.iadd, 1) := by decide +kernel
theorem zd_La_law_612 : decode zc_La_law 612 = .ok (.iaload, 1) := by decide +kernel
theorem zd_La_law_613 : decode zc_La_law 613 = .ok (.aload_n 3, 1) := by decide +kernel
theorem zd_La_law_614 : decode zc_La_law 614 = .ok (.invokestatic 88, 3) := by decide +kernel
theorem zd_La_law_617 : decode zc_La_law 617 = .ok (.istore 5, 2) := by decide +kernel
theorem zd_La_law_619 : decode zc_La_law 619 = .ok (.aload_n 2, 1) := by decide +kernel
theorem zd_La_law_620 : decode zc_La_law 620 = .ok (.aload_n 0, 1) := by decide +kernel
theorem zd_La_law_621 : decode zc_La_law 621 = .ok (.iload 4, 2) := by decide +kernel
theorem zd_La_law_623 : decode zc_La_law 623 = .ok (.iconst 1, 1) := by decide +kernel
theorem zd_La_law_624 : decode zc_La_law 624 = .ok (.iadd, 1) := by decide +kernel
theorem zd_La_law_625 : decode zc_La_law 625 = .ok (.iaload, 1) := by decide +kernel
theorem zd_La_law_626 : decode zc_La_law 626 = .ok (.invokevirtual 90, 3) := by decide +kernel
theorem zd_La_law_629 : decode zc_La_law 629 = .ok (.istore 6, 2) := by decide +kernel
theorem zd_La_law_631 : decode zc_La_law 631 = .ok (.aload_n 2, 1) := by decide +kernel
theorem zd_La_law_632 : decode zc_La_law 632 = .ok (.invokevirtual 59, 3) := by decide +kernel
theorem zd_La_law_635 : decode zc_La_law 635 = .ok (.iload 5, 2) := by decide +kernel
theorem zd_La_law_637 : decode zc_La_law 637 = .ok (.if_icmp .eq 5, 3) := by decide +kernel
theorem zd_La_law_640 : decode zc_La_law 640 = .ok (.iconst 0, 1) := by decide +kernel
theorem zd_La_law_641 : decode zc_La_law 641 = .ok (.ireturn, 1) := by decide +kernel
theorem zd_La_law_642 : decode zc_La_law 642 = .ok (.iload 5, 2) := by decide +kernel
theorem zd_La_law_644 : decode zc_La_law 644 = .ok (.ifCond .ne 15, 3) := by decide +kernel
theorem zd_La_law_647 : decode zc_La_law 647 = .ok (.aload_n 3, 1) := by decide +kernel
theorem zd_La_law_648 : decode zc_La_law 648 = .ok (.iconst 0, 1) := by decide +kernel
theorem zd_La_law_649 : decode zc_La_law 649 = .ok (.laload, 1) := by decide +kernel
theorem zd_La_law_650 : decode zc_La_law 650 = .ok (.iload 6, 2) := by decide +kernel
theorem zd_La_law_652 : decode zc_La_law 652 = .ok (.i2l, 1) := by decide +kernel
theorem zd_La_law_653 : decode zc_La_law 653 = .ok (.lcmp, 1) := by decide +kernel
theorem zd_La_law_654 : decode zc_La_law 654 = .ok (.ifCond .eq 5, 3) := by decide +kernel
theorem zd_La_law_657 : decode zc_La_law 657 = .ok (.iconst 0, 1) := by decide +kernel
theorem zd_La_law_658 : decode zc_La_law 658 = .ok (.ireturn, 1) := by decide +kernel
theorem zd_La_law_659 : decode zc_La_law 659 = .ok (.goto 28, 3) := by decide +kernel
theorem zd_La_law_662 : decode zc_La_law 662 = .ok (.aload_n 1, 1) := by decide +kernel
theorem zd_La_law_663 : decode zc_La_law 663 = .ok (.aload_n 0, 1) := by decide +kernel
theorem zd_La_law_664 : decode zc_La_law 664 = .ok (.iload 4, 2) := by decide +kernel
theorem zd_La_law_666 : decode zc_La_law 666 = .ok (.iconst 1, 1) := by decide +kernel
theorem zd_La_law_667 : decode zc_La_law 667 = .ok (.iadd, 1) := by decide +kernel
theorem zd_La_law_668 : decode zc_La_law 668 = .ok (.iaload, 1) := by decide +kernel
theorem zd_La_law_669 : decode zc_La_law 669 = .ok (.invokevirtual 91, 3) := by decide +kernel
theorem zd_La_law_672 : decode zc_La_law 672 = .ok (.aload_n 2, 1) := by decide +kernel
theorem zd_La_law_673 : decode zc_La_law 673 = .ok (.aload_n 0, 1) := by decide +kernel
theorem zd_La_law_674 : decode zc_La_law 674 = .ok (.iload 4, 2) := by decide +kernel
theorem zd_La_law_676 : decode zc_La_law 676 = .ok (.iconst 1, 1) := by decide +kernel
theorem zd_La_law_677 : decode zc_La_law 677 = .ok (.iadd, 1) := by decide +kernel
theorem zd_La_law_678 : decode zc_La_law 678 = .ok (.iaload, 1) := by decide +kernel
theorem zd_La_law_679 : decode zc_La_law 679 = .ok (.invokevirtual 94, 3) := by decide +kernel
theorem zd_La_law_682 : decode zc_La_law 682 = .ok (.if_icmp .eq 5, 3) := by decide +kernel
theorem zd_La_law_685 : decode zc_La_law 685 = .ok (.iconst 0, 1) := by decide +kernel
theorem zd_La_law_686 : decode zc_La_law 686 = .ok (.ireturn, 1) := by decide +kernel
theorem zd_La_law_687 : decode zc_La_law 687 = .ok (.iinc 4 7, 3) := by decide +kernel
theorem zd_La_law_690 : decode zc_La_law 690 = .ok (.goto (-667), 3) := by decide +kernel
theorem zd_La_law_693 : decode zc_La_law 693 = .ok (.iconst 1, 1) := by decide +kernel
theorem zd_La_law_694 : decode zc_La_law 694 = .ok (.ireturn, 1) := by decide +kernel
theorem zln_8 : Cond.classLink zR_La 8 zR_SW ∈ zz_WS := zz_in 67 (by decide +kernel) rfl
theorem zll_49 : Cond.methodLink zR_La 49 zy_SW_init ∈ zz_WS := zz_in 69 (by decide +kernel) rfl
theorem zln_50 : Cond.classLink zR_La 50 zR_Mo ∈ zz_WS := zz_in 812 (by decide +kernel) rfl
theorem zll_52 : Cond.methodLink zR_La 52 zy_Mo_init ∈ zz_WS := zz_in 814 (by decide +kernel) rfl
theorem zkh_La_code : zz_kh zy_La_code zc_La_code 8 zhh_La_code 7 := ⟨zz_in 346 (by decide +kernel) rfl, zz_in 47 (by decide +kernel) rfl, zz_in 347 (by decide +kernel) rfl, ⟨by decide +kernel, by decide +kernel⟩, by decide +kernel⟩
theorem zll_53 : Cond.methodLink zR_La 53 zy_La_code ∈ zz_WS := zz_in 345 (by decide +kernel) rfl
theorem zll_58 : Cond.methodLink zR_La 58 zy_Mo_code ∈ zz_WS := zz_in 910 (by decide +kernel) rfl
theorem zll_59 : Cond.methodLink zR_La 59 zy_Mo_thrown ∈ zz_WS := zz_in 906 (by decide +kernel) rfl
theorem zkh_La_start : zz_kh zy_La_start zc_La_start 3 zhh_La_start 2 := ⟨zz_in 435 (by decide +kernel) rfl, zz_in 47 (by decide +kernel) rfl, zz_in 436 (by decide +kernel) rfl, ⟨by decide +kernel, by decide +kernel⟩, by decide +kernel⟩
theorem zll_63 : Cond.methodLink zR_La 63 zy_La_start ∈ zz_WS := zz_in 434 (by decide +kernel) rfl
theorem zll_66 : Cond.methodLink zR_La 66 zy_Mo_start ∈ zz_WS := zz_in 929 (by decide +kernel) rfl
theorem zkh_La_run : zz_kh zy_La_run zc_La_run 4 zhh_La_run 3 := ⟨zz_in 447 (by decide +kernel) rfl, zz_in 47 (by decide +kernel) rfl, zz_in 448 (by decide +kernel) rfl, ⟨by decide +kernel, by decide +kernel⟩, by decide +kernel⟩
theorem zll_67 : Cond.methodLink zR_La 67 zy_La_run ∈ zz_WS := zz_in 446 (by decide +kernel) rfl
theorem zll_70 : Cond.methodLink zR_La 70 zy_Mo_run ∈ zz_WS := zz_in 937 (by decide +kernel) rfl
theorem zkh_La_register : zz_kh zy_La_register zc_La_register 5 zhh_La_register 4 := ⟨zz_in 663 (by decide +kernel) rfl, zz_in 47 (by decide +kernel) rfl, zz_in 664 (by decide +kernel) rfl, ⟨by decide +kernel, by decide +kernel⟩, by decide +kernel⟩
theorem zll_71 : Cond.methodLink zR_La 71 zy_La_register ∈ zz_WS := zz_in 662 (by decide +kernel) rfl
theorem zll_74 : Cond.methodLink zR_La 74 zy_Mo_register ∈ zz_WS := zz_in 1002 (by decide +kernel) rfl
theorem zkh_La_memory : zz_kh zy_La_memory zc_La_memory 5 zhh_La_memory 4 := ⟨zz_in 672 (by decide +kernel) rfl, zz_in 47 (by decide +kernel) rfl, zz_in 673 (by decide +kernel) rfl, ⟨by decide +kernel, by decide +kernel⟩, by decide +kernel⟩
theorem zll_75 : Cond.methodLink zR_La 75 zy_La_memory ∈ zz_WS := zz_in 671 (by decide +kernel) rfl
theorem zll_77 : Cond.methodLink zR_La 77 zy_Mo_memory ∈ zz_WS := zz_in 1006 (by decide +kernel) rfl
theorem zkh_La_poke : zz_kh zy_La_poke zc_La_poke 4 zhh_La_poke 3 := ⟨zz_in 683 (by decide +kernel) rfl, zz_in 47 (by decide +kernel) rfl, zz_in 684 (by decide +kernel) rfl, ⟨by decide +kernel, by decide +kernel⟩, by decide +kernel⟩
theorem zll_78 : Cond.methodLink zR_La 78 zy_La_poke ∈ zz_WS := zz_in 682 (by decide +kernel) rfl
theorem zll_81 : Cond.methodLink zR_La 81 zy_Mo_poke ∈ zz_WS := zz_in 1010 (by decide +kernel) rfl
theorem zkh_La_finding : zz_kh zy_La_finding zc_La_finding 5 zhh_La_finding 4 := ⟨zz_in 691 (by decide +kernel) rfl, zz_in 47 (by decide +kernel) rfl, zz_in 692 (by decide +kernel) rfl, ⟨by decide +kernel, by decide +kernel⟩, by decide +kernel⟩
theorem zll_82 : Cond.methodLink zR_La 82 zy_La_finding ∈ zz_WS := zz_in 690 (by decide +kernel) rfl
theorem zll_84 : Cond.methodLink zR_La 84 zy_Mo_finding ∈ zz_WS := zz_in 1014 (by decide +kernel) rfl
theorem zkh_La_block : zz_kh zy_La_block zc_La_block 5 zhh_La_block 4 := ⟨zz_in 734 (by decide +kernel) rfl, zz_in 47 (by decide +kernel) rfl, zz_in 735 (by decide +kernel) rfl, ⟨by decide +kernel, by decide +kernel⟩, by decide +kernel⟩
theorem zll_85 : Cond.methodLink zR_La 85 zy_La_block ∈ zz_WS := zz_in 733 (by decide +kernel) rfl
theorem zll_87 : Cond.methodLink zR_La 87 zy_Mo_block ∈ zz_WS := zz_in 1018 (by decide +kernel) rfl
theorem zkh_La_leaks : zz_kh zy_La_leaks zc_La_leaks 4 zhh_La_leaks 3 := ⟨zz_in 802 (by decide +kernel) rfl, zz_in 47 (by decide +kernel) rfl, zz_in 803 (by decide +kernel) rfl, ⟨by decide +kernel, by decide +kernel⟩, by decide +kernel⟩
theorem zll_88 : Cond.methodLink zR_La 88 zy_La_leaks ∈ zz_WS := zz_in 801 (by decide +kernel) rfl
theorem zll_90 : Cond.methodLink zR_La 90 zy_Mo_leaks ∈ zz_WS := zz_in 1050 (by decide +kernel) rfl
theorem zll_91 : Cond.methodLink zR_La 91 zy_SW_count ∈ zz_WS := zz_in 297 (by decide +kernel) rfl
theorem zll_94 : Cond.methodLink zR_La 94 zy_Mo_count ∈ zz_WS := zz_in 1054 (by decide +kernel) rfl
