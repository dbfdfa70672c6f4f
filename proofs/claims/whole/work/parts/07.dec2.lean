theorem dL_input_0 : decode cL_input 0 = .ok (.aload_n 1, 1) := by decide +kernel
theorem dL_input_1 : decode cL_input 1 = .ok (.iconst 0, 1) := by decide +kernel
theorem dL_input_2 : decode cL_input 2 = .ok (.aload_n 0, 1) := by decide +kernel
theorem dL_input_3 : decode cL_input 3 = .ok (.invokevirtual 7, 3) := by decide +kernel
theorem dL_input_6 : decode cL_input 6 = .ok (.i2l, 1) := by decide +kernel
theorem dL_input_7 : decode cL_input 7 = .ok (.lastore, 1) := by decide +kernel
theorem dL_input_8 : decode cL_input 8 = .ok (.goto 6, 3) := by decide +kernel
theorem dL_input_11 : decode cL_input 11 = .ok (.astore_n 2, 1) := by decide +kernel
theorem dL_input_12 : decode cL_input 12 = .ok (.iconst 1, 1) := by decide +kernel
theorem dL_input_13 : decode cL_input 13 = .ok (.ireturn, 1) := by decide +kernel
theorem dL_input_14 : decode cL_input 14 = .ok (.iconst 0, 1) := by decide +kernel
theorem dL_input_15 : decode cL_input 15 = .ok (.ireturn, 1) := by decide +kernel
theorem dL_and_0 : decode cL_and 0 = .ok (.aload_n 3, 1) := by decide +kernel
theorem dL_and_1 : decode cL_and 1 = .ok (.iconst 0, 1) := by decide +kernel
theorem dL_and_2 : decode cL_and 2 = .ok (.aload_n 0, 1) := by decide +kernel
theorem dL_and_3 : decode cL_and 3 = .ok (.iload_n 1, 1) := by decide +kernel
theorem dL_and_4 : decode cL_and 4 = .ok (.iload_n 2, 1) := by decide +kernel
theorem dL_and_5 : decode cL_and 5 = .ok (.invokevirtual 15, 3) := by decide +kernel
theorem dL_and_8 : decode cL_and 8 = .ok (.i2l, 1) := by decide +kernel
theorem dL_and_9 : decode cL_and 9 = .ok (.lastore, 1) := by decide +kernel
theorem dL_and_10 : decode cL_and 10 = .ok (.goto 11, 3) := by decide +kernel
theorem dL_and_13 : decode cL_and 13 = .ok (.astore 4, 2) := by decide +kernel
theorem dL_and_15 : decode cL_and 15 = .ok (.iconst 1, 1) := by decide +kernel
theorem dL_and_16 : decode cL_and 16 = .ok (.ireturn, 1) := by decide +kernel
theorem dL_and_17 : decode cL_and 17 = .ok (.astore 4, 2) := by decide +kernel
theorem dL_and_19 : decode cL_and 19 = .ok (.iconst 2, 1) := by decide +kernel
theorem dL_and_20 : decode cL_and 20 = .ok (.ireturn, 1) := by decide +kernel
theorem dL_and_21 : decode cL_and 21 = .ok (.iconst 0, 1) := by decide +kernel
theorem dL_and_22 : decode cL_and 22 = .ok (.ireturn, 1) := by decide +kernel
theorem dL_join_0 : decode cL_join 0 = .ok (.aload 4, 2) := by decide +kernel
theorem dL_join_2 : decode cL_join 2 = .ok (.iconst 0, 1) := by decide +kernel
theorem dL_join_3 : decode cL_join 3 = .ok (.aload_n 0, 1) := by decide +kernel
theorem dL_join_4 : decode cL_join 4 = .ok (.iload_n 1, 1) := by decide +kernel
theorem dL_join_5 : decode cL_join 5 = .ok (.iload_n 2, 1) := by decide +kernel
theorem dL_join_6 : decode cL_join 6 = .ok (.iload_n 3, 1) := by decide +kernel
theorem dL_join_7 : decode cL_join 7 = .ok (.invokevirtual 21, 3) := by decide +kernel
theorem dL_join_10 : decode cL_join 10 = .ok (.i2l, 1) := by decide +kernel
theorem dL_join_11 : decode cL_join 11 = .ok (.lastore, 1) := by decide +kernel
theorem dL_join_12 : decode cL_join 12 = .ok (.goto 11, 3) := by decide +kernel
theorem dL_join_15 : decode cL_join 15 = .ok (.astore 5, 2) := by decide +kernel
theorem dL_join_17 : decode cL_join 17 = .ok (.iconst 1, 1) := by decide +kernel
theorem dL_join_18 : decode cL_join 18 = .ok (.ireturn, 1) := by decide +kernel
theorem dL_join_19 : decode cL_join 19 = .ok (.astore 5, 2) := by decide +kernel
theorem dL_join_21 : decode cL_join 21 = .ok (.iconst 2, 1) := by decide +kernel
theorem dL_join_22 : decode cL_join 22 = .ok (.ireturn, 1) := by decide +kernel
theorem dL_join_23 : decode cL_join 23 = .ok (.iconst 0, 1) := by decide +kernel
theorem dL_join_24 : decode cL_join 24 = .ok (.ireturn, 1) := by decide +kernel
theorem dL_law_0 : decode code 0 = .ok (.new 8, 3) := by decide +kernel
theorem dL_law_3 : decode code 3 = .ok (.dup, 1) := by decide +kernel
theorem dL_law_4 : decode code 4 = .ok (.invokespecial 51, 3) := by decide +kernel
theorem dL_law_7 : decode code 7 = .ok (.astore_n 1, 1) := by decide +kernel
theorem dL_law_8 : decode code 8 = .ok (.new 52, 3) := by decide +kernel
theorem dL_law_11 : decode code 11 = .ok (.dup, 1) := by decide +kernel
theorem dL_law_12 : decode code 12 = .ok (.invokespecial 54, 3) := by decide +kernel
theorem dL_law_15 : decode code 15 = .ok (.astore_n 2, 1) := by decide +kernel
theorem dL_law_16 : decode code 16 = .ok (.iconst 1, 1) := by decide +kernel
theorem dL_law_17 : decode code 17 = .ok (.newarray .long, 2) := by decide +kernel
theorem dL_law_19 : decode code 19 = .ok (.astore_n 3, 1) := by decide +kernel
theorem dL_law_20 : decode code 20 = .ok (.iconst 0, 1) := by decide +kernel
theorem dL_law_21 : decode code 21 = .ok (.istore 4, 2) := by decide +kernel
theorem dL_law_23 : decode code 23 = .ok (.iload 4, 2) := by decide +kernel
theorem dL_law_25 : decode code 25 = .ok (.aload_n 0, 1) := by decide +kernel
theorem dL_law_26 : decode code 26 = .ok (.arraylength, 1) := by decide +kernel
theorem dL_law_27 : decode code 27 = .ok (.iconst 5, 1) := by decide +kernel
theorem dL_law_28 : decode code 28 = .ok (.isub, 1) := by decide +kernel
theorem dL_law_29 : decode code 29 = .ok (.if_icmp .gt 796, 3) := by decide +kernel
theorem dL_law_32 : decode code 32 = .ok (.aload_n 0, 1) := by decide +kernel
theorem dL_law_33 : decode code 33 = .ok (.iload 4, 2) := by decide +kernel
theorem dL_law_35 : decode code 35 = .ok (.iaload, 1) := by decide +kernel
theorem dL_law_36 : decode code 36 = .ok (.bipush 15, 2) := by decide +kernel
theorem dL_law_38 : decode code 38 = .ok (.iand, 1) := by decide +kernel
theorem dL_law_39 : decode code 39 = .ok (.tableswitch 780 0 11 #[61, 105, 173, 253, 345, 436, 499, 567, 623, 698, 754, 767], 61) := by decide +kernel
theorem dL_law_100 : decode code 100 = .ok (.aload_n 1, 1) := by decide +kernel
theorem dL_law_101 : decode code 101 = .ok (.aload_n 3, 1) := by decide +kernel
theorem dL_law_102 : decode code 102 = .ok (.invokestatic 55, 3) := by decide +kernel
theorem dL_law_105 : decode code 105 = .ok (.istore 5, 2) := by decide +kernel
theorem dL_law_107 : decode code 107 = .ok (.aload_n 2, 1) := by decide +kernel
theorem dL_law_108 : decode code 108 = .ok (.invokevirtual 60, 3) := by decide +kernel
theorem dL_law_111 : decode code 111 = .ok (.istore 6, 2) := by decide +kernel
theorem dL_law_113 : decode code 113 = .ok (.aload_n 2, 1) := by decide +kernel
theorem dL_law_114 : decode code 114 = .ok (.invokevirtual 61, 3) := by decide +kernel
theorem dL_law_117 : decode code 117 = .ok (.iload 5, 2) := by decide +kernel
theorem dL_law_119 : decode code 119 = .ok (.if_icmp .eq 5, 3) := by decide +kernel
theorem dL_law_122 : decode code 122 = .ok (.iconst 0, 1) := by decide +kernel
theorem dL_law_123 : decode code 123 = .ok (.ireturn, 1) := by decide +kernel
theorem dL_law_124 : decode code 124 = .ok (.iload 5, 2) := by decide +kernel
theorem dL_law_126 : decode code 126 = .ok (.ifCond .ne 15, 3) := by decide +kernel
theorem dL_law_129 : decode code 129 = .ok (.aload_n 3, 1) := by decide +kernel
theorem dL_law_130 : decode code 130 = .ok (.iconst 0, 1) := by decide +kernel
theorem dL_law_131 : decode code 131 = .ok (.laload, 1) := by decide +kernel
theorem dL_law_132 : decode code 132 = .ok (.iload 6, 2) := by decide +kernel
theorem dL_law_134 : decode code 134 = .ok (.i2l, 1) := by decide +kernel
theorem dL_law_135 : decode code 135 = .ok (.lcmp, 1) := by decide +kernel
theorem dL_law_136 : decode code 136 = .ok (.ifCond .eq 5, 3) := by decide +kernel
theorem dL_law_139 : decode code 139 = .ok (.iconst 0, 1) := by decide +kernel
theorem dL_law_140 : decode code 140 = .ok (.ireturn, 1) := by decide +kernel
theorem dL_law_141 : decode code 141 = .ok (.goto 678, 3) := by decide +kernel
theorem dL_law_144 : decode code 144 = .ok (.aload_n 1, 1) := by decide +kernel
theorem dL_law_145 : decode code 145 = .ok (.aload_n 0, 1) := by decide +kernel
theorem dL_law_146 : decode code 146 = .ok (.iload 4, 2) := by decide +kernel
theorem dL_law_148 : decode code 148 = .ok (.iconst 1, 1) := by decide +kernel
theorem dL_law_149 : decode code 149 = .ok (.iadd, 1) := by decide +kernel
theorem dL_law_150 : decode code 150 = .ok (.iaload, 1) := by decide +kernel
theorem dL_law_151 : decode code 151 = .ok (.aload_n 0, 1) := by decide +kernel
theorem dL_law_152 : decode code 152 = .ok (.iload 4, 2) := by decide +kernel
theorem dL_law_154 : decode code 154 = .ok (.iconst 2, 1) := by decide +kernel
theorem dL_law_155 : decode code 155 = .ok (.iadd, 1) := by decide +kernel
theorem dL_law_156 : decode code 156 = .ok (.iaload, 1) := by decide +kernel
theorem dL_law_157 : decode code 157 = .ok (.aload_n 3, 1) := by decide +kernel
theorem dL_law_158 : decode code 158 = .ok (.invokestatic 64, 3) := by decide +kernel
theorem dL_law_161 : decode code 161 = .ok (.istore 5, 2) := by decide +kernel
theorem dL_law_163 : decode code 163 = .ok (.aload_n 2, 1) := by decide +kernel
theorem dL_law_164 : decode code 164 = .ok (.aload_n 0, 1) := by decide +kernel
theorem dL_law_165 : decode code 165 = .ok (.iload 4, 2) := by decide +kernel
theorem dL_law_167 : decode code 167 = .ok (.iconst 1, 1) := by decide +kernel
theorem dL_law_168 : decode code 168 = .ok (.iadd, 1) := by decide +kernel
theorem dL_law_169 : decode code 169 = .ok (.iaload, 1) := by decide +kernel
theorem dL_law_170 : decode code 170 = .ok (.aload_n 0, 1) := by decide +kernel
theorem dL_law_171 : decode code 171 = .ok (.iload 4, 2) := by decide +kernel
theorem dL_law_173 : decode code 173 = .ok (.iconst 2, 1) := by decide +kernel
theorem dL_law_174 : decode code 174 = .ok (.iadd, 1) := by decide +kernel
theorem dL_law_175 : decode code 175 = .ok (.iaload, 1) := by decide +kernel
theorem dL_law_176 : decode code 176 = .ok (.invokevirtual 67, 3) := by decide +kernel
theorem dL_law_179 : decode code 179 = .ok (.istore 6, 2) := by decide +kernel
theorem dL_law_181 : decode code 181 = .ok (.aload_n 2, 1) := by decide +kernel
theorem dL_law_182 : decode code 182 = .ok (.invokevirtual 61, 3) := by decide +kernel
theorem dL_law_185 : decode code 185 = .ok (.iload 5, 2) := by decide +kernel
theorem dL_law_187 : decode code 187 = .ok (.if_icmp .eq 5, 3) := by decide +kernel
theorem dL_law_190 : decode code 190 = .ok (.iconst 0, 1) := by decide +kernel
theorem dL_law_191 : decode code 191 = .ok (.ireturn, 1) := by decide +kernel
theorem dL_law_192 : decode code 192 = .ok (.iload 5, 2) := by decide +kernel
theorem dL_law_194 : decode code 194 = .ok (.ifCond .ne 15, 3) := by decide +kernel
theorem dL_law_197 : decode code 197 = .ok (.aload_n 3, 1) := by decide +kernel
theorem dL_law_198 : decode code 198 = .ok (.iconst 0, 1) := by decide +kernel
theorem dL_law_199 : decode code 199 = .ok (.laload, 1) := by decide +kernel
theorem dL_law_200 : decode code 200 = .ok (.iload 6, 2) := by decide +kernel
theorem dL_law_202 : decode code 202 = .ok (.i2l, 1) := by decide +kernel
theorem dL_law_203 : decode code 203 = .ok (.lcmp, 1) := by decide +kernel
theorem dL_law_204 : decode code 204 = .ok (.ifCond .eq 5, 3) := by decide +kernel
theorem dL_law_207 : decode code 207 = .ok (.iconst 0, 1) := by decide +kernel
theorem dL_law_208 : decode code 208 = .ok (.ireturn, 1) := by decide +kernel
theorem dL_law_209 : decode code 209 = .ok (.goto 610, 3) := by decide +kernel
theorem dL_law_212 : decode code 212 = .ok (.aload_n 1, 1) := by decide +kernel
theorem dL_law_213 : decode code 213 = .ok (.aload_n 0, 1) := by decide +kernel
theorem dL_law_214 : decode code 214 = .ok (.iload 4, 2) := by decide +kernel
theorem dL_law_216 : decode code 216 = .ok (.iconst 1, 1) := by decide +kernel
theorem dL_law_217 : decode code 217 = .ok (.iadd, 1) := by decide +kernel
theorem dL_law_218 : decode code 218 = .ok (.iaload, 1) := by decide +kernel
theorem dL_law_219 : decode code 219 = .ok (.aload_n 0, 1) := by decide +kernel
theorem dL_law_220 : decode code 220 = .ok (.iload 4, 2) := by decide +kernel
theorem dL_law_222 : decode code 222 = .ok (.iconst 2, 1) := by decide +kernel
theorem dL_law_223 : decode code 223 = .ok (.iadd, 1) := by decide +kernel
theorem dL_law_224 : decode code 224 = .ok (.iaload, 1) := by decide +kernel
theorem dL_law_225 : decode code 225 = .ok (.aload_n 0, 1) := by decide +kernel
theorem dL_law_226 : decode code 226 = .ok (.iload 4, 2) := by decide +kernel
theorem dL_law_228 : decode code 228 = .ok (.iconst 3, 1) := by decide +kernel
theorem dL_law_229 : decode code 229 = .ok (.iadd, 1) := by decide +kernel
theorem dL_law_230 : decode code 230 = .ok (.iaload, 1) := by decide +kernel
theorem dL_law_231 : decode code 231 = .ok (.aload_n 3, 1) := by decide +kernel
theorem dL_law_232 : decode code 232 = .ok (.invokestatic 68, 3) := by decide +kernel
theorem dL_law_235 : decode code 235 = .ok (.istore 5, 2) := by decide +kernel
theorem dL_law_237 : decode code 237 = .ok (.aload_n 2, 1) := by decide +kernel
theorem dL_law_238 : decode code 238 = .ok (.aload_n 0, 1) := by decide +kernel
theorem dL_law_239 : decode code 239 = .ok (.iload 4, 2) := by decide +kernel
theorem dL_law_241 : decode code 241 = .ok (.iconst 1, 1) := by decide +kernel
theorem dL_law_242 : decode code 242 = .ok (.iadd, 1) := by decide +kernel
theorem dL_law_243 : decode code 243 = .ok (.iaload, 1) := by decide +kernel
theorem dL_law_244 : decode code 244 = .ok (.aload_n 0, 1) := by decide +kernel
theorem dL_law_245 : decode code 245 = .ok (.iload 4, 2) := by decide +kernel
theorem dL_law_247 : decode code 247 = .ok (.iconst 2, 1) := by decide +kernel
theorem dL_law_248 : decode code 248 = .ok (.iadd, 1) := by decide +kernel
theorem dL_law_249 : decode code 249 = .ok (.iaload, 1) := by decide +kernel
theorem dL_law_250 : decode code 250 = .ok (.aload_n 0, 1) := by decide +kernel
theorem dL_law_251 : decode code 251 = .ok (.iload 4, 2) := by decide +kernel
theorem dL_law_253 : decode code 253 = .ok (.iconst 3, 1) := by decide +kernel
theorem dL_law_254 : decode code 254 = .ok (.iadd, 1) := by decide +kernel
theorem dL_law_255 : decode code 255 = .ok (.iaload, 1) := by decide +kernel
theorem dL_law_256 : decode code 256 = .ok (.invokevirtual 71, 3) := by decide +kernel
theorem dL_law_259 : decode code 259 = .ok (.istore 6, 2) := by decide +kernel
theorem dL_law_261 : decode code 261 = .ok (.aload_n 2, 1) := by decide +kernel
theorem dL_law_262 : decode code 262 = .ok (.invokevirtual 61, 3) := by decide +kernel
theorem dL_law_265 : decode code 265 = .ok (.iload 5, 2) := by decide +kernel
theorem dL_law_267 : decode code 267 = .ok (.if_icmp .eq 5, 3) := by decide +kernel
theorem dL_law_270 : decode code 270 = .ok (.iconst 0, 1) := by decide +kernel
theorem dL_law_271 : decode code 271 = .ok (.ireturn, 1) := by decide +kernel
theorem dL_law_272 : decode code 272 = .ok (.iload 5, 2) := by decide +kernel
theorem dL_law_274 : decode code 274 = .ok (.ifCond .ne 15, 3) := by decide +kernel
theorem dL_law_277 : decode code 277 = .ok (.aload_n 3, 1) := by decide +kernel
theorem dL_law_278 : decode code 278 = .ok (.iconst 0, 1) := by decide +kernel
theorem dL_law_279 : decode code 279 = .ok (.laload, 1) := by decide +kernel
theorem dL_law_280 : decode code 280 = .ok (.iload 6, 2) := by decide +kernel
theorem dL_law_282 : decode code 282 = .ok (.i2l, 1) := by decide +kernel
theorem dL_law_283 : decode code 283 = .ok (.lcmp, 1) := by decide +kernel
theorem dL_law_284 : decode code 284 = .ok (.ifCond .eq 5, 3) := by decide +kernel
theorem dL_law_287 : decode code 287 = .ok (.iconst 0, 1) := by decide +kernel
theorem dL_law_288 : decode code 288 = .ok (.ireturn, 1) := by decide +kernel
theorem dL_law_289 : decode code 289 = .ok (.goto 530, 3) := by decide +kernel
theorem dL_law_292 : decode code 292 = .ok (.aload_n 1, 1) := by decide +kernel
theorem dL_law_293 : decode code 293 = .ok (.aload_n 0, 1) := by decide +kernel
theorem dL_law_294 : decode code 294 = .ok (.iload 4, 2) := by decide +kernel
theorem dL_law_296 : decode code 296 = .ok (.iconst 1, 1) := by decide +kernel
theorem dL_law_297 : decode code 297 = .ok (.iadd, 1) := by decide +kernel
theorem dL_law_298 : decode code 298 = .ok (.iaload, 1) := by decide +kernel
theorem dL_law_299 : decode code 299 = .ok (.aload_n 0, 1) := by decide +kernel
theorem dL_law_300 : decode code 300 = .ok (.iload 4, 2) := by decide +kernel
theorem dL_law_302 : decode code 302 = .ok (.iconst 2, 1) := by decide +kernel
theorem dL_law_303 : decode code 303 = .ok (.iadd, 1) := by decide +kernel
theorem dL_law_304 : decode code 304 = .ok (.iaload, 1) := by decide +kernel
theorem dL_law_305 : decode code 305 = .ok (.aload_n 0, 1) := by decide +kernel
theorem dL_law_306 : decode code 306 = .ok (.iload 4, 2) := by decide +kernel
theorem dL_law_308 : decode code 308 = .ok (.iconst 3, 1) := by decide +kernel
theorem dL_law_309 : decode code 309 = .ok (.iadd, 1) := by decide +kernel
theorem dL_law_310 : decode code 310 = .ok (.iaload, 1) := by decide +kernel
theorem dL_law_311 : decode code 311 = .ok (.aload_n 0, 1) := by decide +kernel
theorem dL_law_312 : decode code 312 = .ok (.iload 4, 2) := by decide +kernel
theorem dL_law_314 : decode code 314 = .ok (.iconst 4, 1) := by decide +kernel
theorem dL_law_315 : decode code 315 = .ok (.iadd, 1) := by decide +kernel
theorem dL_law_316 : decode code 316 = .ok (.iaload, 1) := by decide +kernel
theorem dL_law_317 : decode code 317 = .ok (.aload_n 3, 1) := by decide +kernel
theorem dL_law_318 : decode code 318 = .ok (.invokestatic 72, 3) := by decide +kernel
theorem dL_law_321 : decode code 321 = .ok (.istore 5, 2) := by decide +kernel
theorem dL_law_323 : decode code 323 = .ok (.aload_n 2, 1) := by decide +kernel
theorem dL_law_324 : decode code 324 = .ok (.aload_n 0, 1) := by decide +kernel
theorem dL_law_325 : decode code 325 = .ok (.iload 4, 2) := by decide +kernel
theorem dL_law_327 : decode code 327 = .ok (.iconst 1, 1) := by decide +kernel
theorem dL_law_328 : decode code 328 = .ok (.iadd, 1) := by decide +kernel
theorem dL_law_329 : decode code 329 = .ok (.iaload, 1) := by decide +kernel
theorem dL_law_330 : decode code 330 = .ok (.aload_n 0, 1) := by decide +kernel
theorem dL_law_331 : decode code 331 = .ok (.iload 4, 2) := by decide +kernel
theorem dL_law_333 : decode code 333 = .ok (.iconst 2, 1) := by decide +kernel
theorem dL_law_334 : decode code 334 = .ok (.iadd, 1) := by decide +kernel
theorem dL_law_335 : decode code 335 = .ok (.iaload, 1) := by decide +kernel
theorem dL_law_336 : decode code 336 = .ok (.aload_n 0, 1) := by decide +kernel
theorem dL_law_337 : decode code 337 = .ok (.iload 4, 2) := by decide +kernel
theorem dL_law_339 : decode code 339 = .ok (.iconst 3, 1) := by decide +kernel
theorem dL_law_340 : decode code 340 = .ok (.iadd, 1) := by decide +kernel
theorem dL_law_341 : decode code 341 = .ok (.iaload, 1) := by decide +kernel
theorem dL_law_342 : decode code 342 = .ok (.aload_n 0, 1) := by decide +kernel
theorem dL_law_343 : decode code 343 = .ok (.iload 4, 2) := by decide +kernel
theorem dL_law_345 : decode code 345 = .ok (.iconst 4, 1) := by decide +kernel
theorem dL_law_346 : decode code 346 = .ok (.iadd, 1) := by decide +kernel
theorem dL_law_347 : decode code 347 = .ok (.iaload, 1) := by decide +kernel
theorem dL_law_348 : decode code 348 = .ok (.invokevirtual 75, 3) := by decide +kernel
theorem dL_law_351 : decode code 351 = .ok (.istore 6, 2) := by decide +kernel
theorem dL_law_353 : decode code 353 = .ok (.aload_n 2, 1) := by decide +kernel
theorem dL_law_354 : decode code 354 = .ok (.invokevirtual 61, 3) := by decide +kernel
theorem dL_law_357 : decode code 357 = .ok (.iload 5, 2) := by decide +kernel
theorem dL_law_359 : decode code 359 = .ok (.if_icmp .eq 5, 3) := by decide +kernel
theorem dL_law_362 : decode code 362 = .ok (.iconst 0, 1) := by decide +kernel
theorem dL_law_363 : decode code 363 = .ok (.ireturn, 1) := by decide +kernel
theorem dL_law_364 : decode code 364 = .ok (.iload 5, 2) := by decide +kernel
theorem dL_law_366 : decode code 366 = .ok (.ifCond .ne 15, 3) := by decide +kernel
theorem dL_law_369 : decode code 369 = .ok (.aload_n 3, 1) := by decide +kernel
theorem dL_law_370 : decode code 370 = .ok (.iconst 0, 1) := by decide +kernel
theorem dL_law_371 : decode code 371 = .ok (.laload, 1) := by decide +kernel
theorem dL_law_372 : decode code 372 = .ok (.iload 6, 2) := by decide +kernel
theorem dL_law_374 : decode code 374 = .ok (.i2l, 1) := by decide +kernel
theorem dL_law_375 : decode code 375 = .ok (.lcmp, 1) := by decide +kernel
theorem dL_law_376 : decode code 376 = .ok (.ifCond .eq 5, 3) := by decide +kernel
theorem dL_law_379 : decode code 379 = .ok (.iconst 0, 1) := by decide +kernel
theorem dL_law_380 : decode code 380 = .ok (.ireturn, 1) := by decide +kernel
theorem dL_law_381 : decode code 381 = .ok (.goto 438, 3) := by decide +kernel
theorem dL_law_384 : decode code 384 = .ok (.aload_n 1, 1) := by decide +kernel
theorem dL_law_385 : decode code 385 = .ok (.aload_n 0, 1) := by decide +kernel
theorem dL_law_386 : decode code 386 = .ok (.iload 4, 2) := by decide +kernel
theorem dL_law_388 : decode code 388 = .ok (.iconst 1, 1) := by decide +kernel
theorem dL_law_389 : decode code 389 = .ok (.iadd, 1) := by decide +kernel
theorem dL_law_390 : decode code 390 = .ok (.iaload, 1) := by decide +kernel
theorem dL_law_391 : decode code 391 = .ok (.aload_n 0, 1) := by decide +kernel
theorem dL_law_392 : decode code 392 = .ok (.iload 4, 2) := by decide +kernel
theorem dL_law_394 : decode code 394 = .ok (.iconst 2, 1) := by decide +kernel
theorem dL_law_395 : decode code 395 = .ok (.iadd, 1) := by decide +kernel
theorem dL_law_396 : decode code 396 = .ok (.iaload, 1) := by decide +kernel
theorem dL_law_397 : decode code 397 = .ok (.ifCond .eq 7, 3) := by decide +kernel
theorem dL_law_400 : decode code 400 = .ok (.iconst 1, 1) := by decide +kernel
theorem dL_law_401 : decode code 401 = .ok (.goto 4, 3) := by decide +kernel
theorem dL_law_404 : decode code 404 = .ok (.iconst 0, 1) := by decide +kernel
theorem dL_law_405 : decode code 405 = .ok (.aload_n 3, 1) := by decide +kernel
theorem dL_law_406 : decode code 406 = .ok (.invokestatic 76, 3) := by decide +kernel
theorem dL_law_409 : decode code 409 = .ok (.istore 5, 2) := by decide +kernel
theorem dL_law_411 : decode code 411 = .ok (.aload_n 2, 1) := by decide +kernel
theorem dL_law_412 : decode code 412 = .ok (.aload_n 0, 1) := by decide +kernel
theorem dL_law_413 : decode code 413 = .ok (.iload 4, 2) := by decide +kernel
theorem dL_law_415 : decode code 415 = .ok (.iconst 1, 1) := by decide +kernel
theorem dL_law_416 : decode code 416 = .ok (.iadd, 1) := by decide +kernel
theorem dL_law_417 : decode code 417 = .ok (.iaload, 1) := by decide +kernel
theorem dL_law_418 : decode code 418 = .ok (.aload_n 0, 1) := by decide +kernel
theorem dL_law_419 : decode code 419 = .ok (.iload 4, 2) := by decide +kernel
theorem dL_law_421 : decode code 421 = .ok (.iconst 2, 1) := by decide +kernel
theorem dL_law_422 : decode code 422 = .ok (.iadd, 1) := by decide +kernel
theorem dL_law_423 : decode code 423 = .ok (.iaload, 1) := by decide +kernel
theorem dL_law_424 : decode code 424 = .ok (.ifCond .eq 7, 3) := by decide +kernel
theorem dL_law_427 : decode code 427 = .ok (.iconst 1, 1) := by decide +kernel
theorem dL_law_428 : decode code 428 = .ok (.goto 4, 3) := by decide +kernel
theorem dL_law_431 : decode code 431 = .ok (.iconst 0, 1) := by decide +kernel
theorem dL_law_432 : decode code 432 = .ok (.invokevirtual 79, 3) := by decide +kernel
theorem dL_law_435 : decode code 435 = .ok (.istore 6, 2) := by decide +kernel
theorem dL_law_437 : decode code 437 = .ok (.aload_n 2, 1) := by decide +kernel
theorem dL_law_438 : decode code 438 = .ok (.invokevirtual 61, 3) := by decide +kernel
theorem dL_law_441 : decode code 441 = .ok (.iload 5, 2) := by decide +kernel
theorem dL_law_443 : decode code 443 = .ok (.if_icmp .eq 5, 3) := by decide +kernel
theorem dL_law_446 : decode code 446 = .ok (.iconst 0, 1) := by decide +kernel
theorem dL_law_447 : decode code 447 = .ok (.ireturn, 1) := by decide +kernel
theorem dL_law_448 : decode code 448 = .ok (.iload 5, 2) := by decide +kernel
theorem dL_law_450 : decode code 450 = .ok (.ifCond .ne 22, 3) := by decide +kernel
theorem dL_law_453 : decode code 453 = .ok (.aload_n 3, 1) := by decide +kernel
theorem dL_law_454 : decode code 454 = .ok (.iconst 0, 1) := by decide +kernel
theorem dL_law_455 : decode code 455 = .ok (.laload, 1) := by decide +kernel
theorem dL_law_456 : decode code 456 = .ok (.iload 6, 2) := by decide +kernel
theorem dL_law_458 : decode code 458 = .ok (.ifCond .eq 7, 3) := by decide +kernel
theorem dL_law_461 : decode code 461 = .ok (.lconst 1, 1) := by decide +kernel
theorem dL_law_462 : decode code 462 = .ok (.goto 4, 3) := by decide +kernel
theorem dL_law_465 : decode code 465 = .ok (.lconst 0, 1) := by decide +kernel
theorem dL_law_466 : decode code 466 = .ok (.lcmp, 1) := by decide +kernel
theorem dL_law_467 : decode code 467 = .ok (.ifCond .eq 5, 3) := by decide +kernel
theorem dL_law_470 : decode code 470 = .ok (.iconst 0, 1) := by decide +kernel
theorem dL_law_471 : decode code 471 = .ok (.ireturn, 1) := by decide +kernel
theorem dL_law_472 : decode code 472 = .ok (.goto 347, 3) := by decide +kernel
theorem dL_law_475 : decode code 475 = .ok (.aload_n 1, 1) := by decide +kernel
theorem dL_law_476 : decode code 476 = .ok (.aload_n 0, 1) := by decide +kernel
theorem dL_law_477 : decode code 477 = .ok (.iload 4, 2) := by decide +kernel
theorem dL_law_479 : decode code 479 = .ok (.iconst 1, 1) := by decide +kernel
theorem dL_law_480 : decode code 480 = .ok (.iadd, 1) := by decide +kernel
theorem dL_law_481 : decode code 481 = .ok (.iaload, 1) := by decide +kernel
theorem dL_law_482 : decode code 482 = .ok (.aload_n 3, 1) := by decide +kernel
theorem dL_law_483 : decode code 483 = .ok (.invokestatic 80, 3) := by decide +kernel
theorem dL_law_486 : decode code 486 = .ok (.istore 5, 2) := by decide +kernel
theorem dL_law_488 : decode code 488 = .ok (.aload_n 2, 1) := by decide +kernel
theorem dL_law_489 : decode code 489 = .ok (.aload_n 0, 1) := by decide +kernel
theorem dL_law_490 : decode code 490 = .ok (.iload 4, 2) := by decide +kernel
theorem dL_law_492 : decode code 492 = .ok (.iconst 1, 1) := by decide +kernel
theorem dL_law_493 : decode code 493 = .ok (.iadd, 1) := by decide +kernel
theorem dL_law_494 : decode code 494 = .ok (.iaload, 1) := by decide +kernel
theorem dL_law_495 : decode code 495 = .ok (.invokevirtual 83, 3) := by decide +kernel
theorem dL_law_498 : decode code 498 = .ok (.istore 6, 2) := by decide +kernel
theorem dL_law_500 : decode code 500 = .ok (.aload_n 2, 1) := by decide +kernel
theorem dL_law_501 : decode code 501 = .ok (.invokevirtual 61, 3) := by decide +kernel
theorem dL_law_504 : decode code 504 = .ok (.iload 5, 2) := by decide +kernel
theorem dL_law_506 : decode code 506 = .ok (.if_icmp .eq 5, 3) := by decide +kernel
theorem dL_law_509 : decode code 509 = .ok (.iconst 0, 1) := by decide +kernel
theorem dL_law_510 : decode code 510 = .ok (.ireturn, 1) := by decide +kernel
theorem dL_law_511 : decode code 511 = .ok (.iload 5, 2) := by decide +kernel
theorem dL_law_513 : decode code 513 = .ok (.ifCond .ne 22, 3) := by decide +kernel
theorem dL_law_516 : decode code 516 = .ok (.aload_n 3, 1) := by decide +kernel
theorem dL_law_517 : decode code 517 = .ok (.iconst 0, 1) := by decide +kernel
theorem dL_law_518 : decode code 518 = .ok (.laload, 1) := by decide +kernel
theorem dL_law_519 : decode code 519 = .ok (.iload 6, 2) := by decide +kernel
theorem dL_law_521 : decode code 521 = .ok (.ifCond .eq 7, 3) := by decide +kernel
theorem dL_law_524 : decode code 524 = .ok (.lconst 1, 1) := by decide +kernel
theorem dL_law_525 : decode code 525 = .ok (.goto 4, 3) := by decide +kernel
theorem dL_law_528 : decode code 528 = .ok (.lconst 0, 1) := by decide +kernel
theorem dL_law_529 : decode code 529 = .ok (.lcmp, 1) := by decide +kernel
theorem dL_law_530 : decode code 530 = .ok (.ifCond .eq 5, 3) := by decide +kernel
theorem dL_law_533 : decode code 533 = .ok (.iconst 0, 1) := by decide +kernel
theorem dL_law_534 : decode code 534 = .ok (.ireturn, 1) := by decide +kernel
theorem dL_law_535 : decode code 535 = .ok (.goto 284, 3) := by decide +kernel
theorem dL_law_538 : decode code 538 = .ok (.aload_n 1, 1) := by decide +kernel
theorem dL_law_539 : decode code 539 = .ok (.aload_n 0, 1) := by decide +kernel
theorem dL_law_540 : decode code 540 = .ok (.iload 4, 2) := by decide +kernel
theorem dL_law_542 : decode code 542 = .ok (.iconst 1, 1) := by decide +kernel
theorem dL_law_543 : decode code 543 = .ok (.iadd, 1) := by decide +kernel
theorem dL_law_544 : decode code 544 = .ok (.iaload, 1) := by decide +kernel
theorem dL_law_545 : decode code 545 = .ok (.aload_n 0, 1) := by decide +kernel
theorem dL_law_546 : decode code 546 = .ok (.iload 4, 2) := by decide +kernel
theorem dL_law_548 : decode code 548 = .ok (.iconst 2, 1) := by decide +kernel
theorem dL_law_549 : decode code 549 = .ok (.iadd, 1) := by decide +kernel
theorem dL_law_550 : decode code 550 = .ok (.iaload, 1) := by decide +kernel
theorem dL_law_551 : decode code 551 = .ok (.aload_n 3, 1) := by decide +kernel
theorem dL_law_552 : decode code 552 = .ok (.invokestatic 84, 3) := by decide +kernel
theorem dL_law_555 : decode code 555 = .ok (.istore 5, 2) := by decide +kernel
theorem dL_law_557 : decode code 557 = .ok (.aload_n 2, 1) := by decide +kernel
theorem dL_law_558 : decode code 558 = .ok (.aload_n 0, 1) := by decide +kernel
theorem dL_law_559 : decode code 559 = .ok (.iload 4, 2) := by decide +kernel
theorem dL_law_561 : decode code 561 = .ok (.iconst 1, 1) := by decide +kernel
theorem dL_law_562 : decode code 562 = .ok (.iadd, 1) := by decide +kernel
theorem dL_law_563 : decode code 563 = .ok (.iaload, 1) := by decide +kernel
theorem dL_law_564 : decode code 564 = .ok (.aload_n 0, 1) := by decide +kernel
theorem dL_law_565 : decode code 565 = .ok (.iload 4, 2) := by decide +kernel
theorem dL_law_567 : decode code 567 = .ok (.iconst 2, 1) := by decide +kernel
theorem dL_law_568 : decode code 568 = .ok (.iadd, 1) := by decide +kernel
theorem dL_law_569 : decode code 569 = .ok (.iaload, 1) := by decide +kernel
theorem dL_law_570 : decode code 570 = .ok (.invokevirtual 86, 3) := by decide +kernel
theorem dL_law_573 : decode code 573 = .ok (.istore 6, 2) := by decide +kernel
theorem dL_law_575 : decode code 575 = .ok (.aload_n 2, 1) := by decide +kernel
theorem dL_law_576 : decode code 576 = .ok (.invokevirtual 61, 3) := by decide +kernel
theorem dL_law_579 : decode code 579 = .ok (.iload 5, 2) := by decide +kernel
theorem dL_law_581 : decode code 581 = .ok (.if_icmp .eq 5, 3) := by decide +kernel
theorem dL_law_584 : decode code 584 = .ok (.iconst 0, 1) := by decide +kernel
theorem dL_law_585 : decode code 585 = .ok (.ireturn, 1) := by decide +kernel
theorem dL_law_586 : decode code 586 = .ok (.iload 5, 2) := by decide +kernel
theorem dL_law_588 : decode code 588 = .ok (.ifCond .ne 15, 3) := by decide +kernel
theorem dL_law_591 : decode code 591 = .ok (.aload_n 3, 1) := by decide +kernel
theorem dL_law_592 : decode code 592 = .ok (.iconst 0, 1) := by decide +kernel
theorem dL_law_593 : decode code 593 = .ok (.laload, 1) := by decide +kernel
theorem dL_law_594 : decode code 594 = .ok (.iload 6, 2) := by decide +kernel
theorem dL_law_596 : decode code 596 = .ok (.i2l, 1) := by decide +kernel
theorem dL_law_597 : decode code 597 = .ok (.lcmp, 1) := by decide +kernel
theorem dL_law_598 : decode code 598 = .ok (.ifCond .eq 5, 3) := by decide +kernel
theorem dL_law_601 : decode code 601 = .ok (.iconst 0, 1) := by decide +kernel
theorem dL_law_602 : decode code 602 = .ok (.ireturn, 1) := by decide +kernel
theorem dL_law_603 : decode code 603 = .ok (.goto 216, 3) := by decide +kernel
theorem dL_law_606 : decode code 606 = .ok (.aload_n 1, 1) := by decide +kernel
theorem dL_law_607 : decode code 607 = .ok (.aload_n 0, 1) := by decide +kernel
theorem dL_law_608 : decode code 608 = .ok (.iload 4, 2) := by decide +kernel
theorem dL_law_610 : decode code 610 = .ok (.iconst 1, 1) := by decide +kernel
theorem dL_law_611 : decode code 611 = .ok (.iadd, 1) := by decide +kernel
theorem dL_law_612 : decode code 612 = .ok (.iaload, 1) := by decide +kernel
theorem dL_law_613 : decode code 613 = .ok (.aload_n 3, 1) := by decide +kernel
theorem dL_law_614 : decode code 614 = .ok (.invokestatic 87, 3) := by decide +kernel
theorem dL_law_617 : decode code 617 = .ok (.istore 5, 2) := by decide +kernel
theorem dL_law_619 : decode code 619 = .ok (.aload_n 2, 1) := by decide +kernel
theorem dL_law_620 : decode code 620 = .ok (.aload_n 0, 1) := by decide +kernel
theorem dL_law_621 : decode code 621 = .ok (.iload 4, 2) := by decide +kernel
theorem dL_law_623 : decode code 623 = .ok (.iconst 1, 1) := by decide +kernel
theorem dL_law_624 : decode code 624 = .ok (.iadd, 1) := by decide +kernel
theorem dL_law_625 : decode code 625 = .ok (.iaload, 1) := by decide +kernel
theorem dL_law_626 : decode code 626 = .ok (.invokevirtual 89, 3) := by decide +kernel
theorem dL_law_629 : decode code 629 = .ok (.istore 6, 2) := by decide +kernel
theorem dL_law_631 : decode code 631 = .ok (.aload_n 2, 1) := by decide +kernel
theorem dL_law_632 : decode code 632 = .ok (.invokevirtual 61, 3) := by decide +kernel
theorem dL_law_635 : decode code 635 = .ok (.iload 5, 2) := by decide +kernel
theorem dL_law_637 : decode code 637 = .ok (.if_icmp .eq 5, 3) := by decide +kernel
theorem dL_law_640 : decode code 640 = .ok (.iconst 0, 1) := by decide +kernel
theorem dL_law_641 : decode code 641 = .ok (.ireturn, 1) := by decide +kernel
theorem dL_law_642 : decode code 642 = .ok (.iload 5, 2) := by decide +kernel
theorem dL_law_644 : decode code 644 = .ok (.ifCond .ne 15, 3) := by decide +kernel
theorem dL_law_647 : decode code 647 = .ok (.aload_n 3, 1) := by decide +kernel
theorem dL_law_648 : decode code 648 = .ok (.iconst 0, 1) := by decide +kernel
theorem dL_law_649 : decode code 649 = .ok (.laload, 1) := by decide +kernel
theorem dL_law_650 : decode code 650 = .ok (.iload 6, 2) := by decide +kernel
theorem dL_law_652 : decode code 652 = .ok (.i2l, 1) := by decide +kernel
theorem dL_law_653 : decode code 653 = .ok (.lcmp, 1) := by decide +kernel
theorem dL_law_654 : decode code 654 = .ok (.ifCond .eq 5, 3) := by decide +kernel
theorem dL_law_657 : decode code 657 = .ok (.iconst 0, 1) := by decide +kernel
theorem dL_law_658 : decode code 658 = .ok (.ireturn, 1) := by decide +kernel
theorem dL_law_659 : decode code 659 = .ok (.goto 160, 3) := by decide +kernel
theorem dL_law_662 : decode code 662 = .ok (.aload_n 1, 1) := by decide +kernel
theorem dL_law_663 : decode code 663 = .ok (.aload_n 0, 1) := by decide +kernel
theorem dL_law_664 : decode code 664 = .ok (.iload 4, 2) := by decide +kernel
theorem dL_law_666 : decode code 666 = .ok (.iconst 1, 1) := by decide +kernel
theorem dL_law_667 : decode code 667 = .ok (.iadd, 1) := by decide +kernel
theorem dL_law_668 : decode code 668 = .ok (.iaload, 1) := by decide +kernel
theorem dL_law_669 : decode code 669 = .ok (.aload_n 0, 1) := by decide +kernel
theorem dL_law_670 : decode code 670 = .ok (.iload 4, 2) := by decide +kernel
theorem dL_law_672 : decode code 672 = .ok (.iconst 2, 1) := by decide +kernel
theorem dL_law_673 : decode code 673 = .ok (.iadd, 1) := by decide +kernel
theorem dL_law_674 : decode code 674 = .ok (.iaload, 1) := by decide +kernel
theorem dL_law_675 : decode code 675 = .ok (.aload_n 3, 1) := by decide +kernel
theorem dL_law_676 : decode code 676 = .ok (.invokestatic 90, 3) := by decide +kernel
theorem dL_law_679 : decode code 679 = .ok (.istore 5, 2) := by decide +kernel
theorem dL_law_681 : decode code 681 = .ok (.aload_n 2, 1) := by decide +kernel
theorem dL_law_682 : decode code 682 = .ok (.aload_n 0, 1) := by decide +kernel
theorem dL_law_683 : decode code 683 = .ok (.iload 4, 2) := by decide +kernel
theorem dL_law_685 : decode code 685 = .ok (.iconst 1, 1) := by decide +kernel
theorem dL_law_686 : decode code 686 = .ok (.iadd, 1) := by decide +kernel
theorem dL_law_687 : decode code 687 = .ok (.iaload, 1) := by decide +kernel
theorem dL_law_688 : decode code 688 = .ok (.aload_n 0, 1) := by decide +kernel
theorem dL_law_689 : decode code 689 = .ok (.iload 4, 2) := by decide +kernel
theorem dL_law_691 : decode code 691 = .ok (.iconst 2, 1) := by decide +kernel
theorem dL_law_692 : decode code 692 = .ok (.iadd, 1) := by decide +kernel
theorem dL_law_693 : decode code 693 = .ok (.iaload, 1) := by decide +kernel
theorem dL_law_694 : decode code 694 = .ok (.invokevirtual 92, 3) := by decide +kernel
theorem dL_law_697 : decode code 697 = .ok (.istore 6, 2) := by decide +kernel
theorem dL_law_699 : decode code 699 = .ok (.aload_n 2, 1) := by decide +kernel
theorem dL_law_700 : decode code 700 = .ok (.invokevirtual 61, 3) := by decide +kernel
theorem dL_law_703 : decode code 703 = .ok (.iload 5, 2) := by decide +kernel
theorem dL_law_705 : decode code 705 = .ok (.if_icmp .eq 5, 3) := by decide +kernel
theorem dL_law_708 : decode code 708 = .ok (.iconst 0, 1) := by decide +kernel
theorem dL_law_709 : decode code 709 = .ok (.ireturn, 1) := by decide +kernel
theorem dL_law_710 : decode code 710 = .ok (.iload 5, 2) := by decide +kernel
theorem dL_law_712 : decode code 712 = .ok (.ifCond .ne 22, 3) := by decide +kernel
theorem dL_law_715 : decode code 715 = .ok (.aload_n 3, 1) := by decide +kernel
theorem dL_law_716 : decode code 716 = .ok (.iconst 0, 1) := by decide +kernel
theorem dL_law_717 : decode code 717 = .ok (.laload, 1) := by decide +kernel
theorem dL_law_718 : decode code 718 = .ok (.iload 6, 2) := by decide +kernel
theorem dL_law_720 : decode code 720 = .ok (.ifCond .eq 7, 3) := by decide +kernel
theorem dL_law_723 : decode code 723 = .ok (.lconst 1, 1) := by decide +kernel
theorem dL_law_724 : decode code 724 = .ok (.goto 4, 3) := by decide +kernel
theorem dL_law_727 : decode code 727 = .ok (.lconst 0, 1) := by decide +kernel
theorem dL_law_728 : decode code 728 = .ok (.lcmp, 1) := by decide +kernel
theorem dL_law_729 : decode code 729 = .ok (.ifCond .eq 5, 3) := by decide +kernel
theorem dL_law_732 : decode code 732 = .ok (.iconst 0, 1) := by decide +kernel
theorem dL_law_733 : decode code 733 = .ok (.ireturn, 1) := by decide +kernel
theorem dL_law_734 : decode code 734 = .ok (.goto 85, 3) := by decide +kernel
theorem dL_law_737 : decode code 737 = .ok (.aload_n 1, 1) := by decide +kernel
theorem dL_law_738 : decode code 738 = .ok (.aload_n 0, 1) := by decide +kernel
theorem dL_law_739 : decode code 739 = .ok (.iload 4, 2) := by decide +kernel
theorem dL_law_741 : decode code 741 = .ok (.iconst 1, 1) := by decide +kernel
theorem dL_law_742 : decode code 742 = .ok (.iadd, 1) := by decide +kernel
theorem dL_law_743 : decode code 743 = .ok (.iaload, 1) := by decide +kernel
theorem dL_law_744 : decode code 744 = .ok (.aload_n 3, 1) := by decide +kernel
theorem dL_law_745 : decode code 745 = .ok (.invokestatic 93, 3) := by decide +kernel
theorem dL_law_748 : decode code 748 = .ok (.istore 5, 2) := by decide +kernel
theorem dL_law_750 : decode code 750 = .ok (.aload_n 2, 1) := by decide +kernel
theorem dL_law_751 : decode code 751 = .ok (.aload_n 0, 1) := by decide +kernel
theorem dL_law_752 : decode code 752 = .ok (.iload 4, 2) := by decide +kernel
theorem dL_law_754 : decode code 754 = .ok (.iconst 1, 1) := by decide +kernel
theorem dL_law_755 : decode code 755 = .ok (.iadd, 1) := by decide +kernel
theorem dL_law_756 : decode code 756 = .ok (.iaload, 1) := by decide +kernel
theorem dL_law_757 : decode code 757 = .ok (.invokevirtual 95, 3) := by decide +kernel
theorem dL_law_760 : decode code 760 = .ok (.istore 6, 2) := by decide +kernel
theorem dL_law_762 : decode code 762 = .ok (.aload_n 2, 1) := by decide +kernel
theorem dL_law_763 : decode code 763 = .ok (.invokevirtual 61, 3) := by decide +kernel
theorem dL_law_766 : decode code 766 = .ok (.iload 5, 2) := by decide +kernel
theorem dL_law_768 : decode code 768 = .ok (.if_icmp .eq 5, 3) := by decide +kernel
theorem dL_law_771 : decode code 771 = .ok (.iconst 0, 1) := by decide +kernel
theorem dL_law_772 : decode code 772 = .ok (.ireturn, 1) := by decide +kernel
theorem dL_law_773 : decode code 773 = .ok (.iload 5, 2) := by decide +kernel
theorem dL_law_775 : decode code 775 = .ok (.ifCond .ne 15, 3) := by decide +kernel
theorem dL_law_778 : decode code 778 = .ok (.aload_n 3, 1) := by decide +kernel
theorem dL_law_779 : decode code 779 = .ok (.iconst 0, 1) := by decide +kernel
theorem dL_law_780 : decode code 780 = .ok (.laload, 1) := by decide +kernel
theorem dL_law_781 : decode code 781 = .ok (.iload 6, 2) := by decide +kernel
theorem dL_law_783 : decode code 783 = .ok (.i2l, 1) := by decide +kernel
theorem dL_law_784 : decode code 784 = .ok (.lcmp, 1) := by decide +kernel
theorem dL_law_785 : decode code 785 = .ok (.ifCond .eq 5, 3) := by decide +kernel
theorem dL_law_788 : decode code 788 = .ok (.iconst 0, 1) := by decide +kernel
theorem dL_law_789 : decode code 789 = .ok (.ireturn, 1) := by decide +kernel
theorem dL_law_790 : decode code 790 = .ok (.goto 29, 3) := by decide +kernel
theorem dL_law_793 : decode code 793 = .ok (.aload_n 1, 1) := by decide +kernel
theorem dL_law_794 : decode code 794 = .ok (.invokevirtual 96, 3) := by decide +kernel
theorem dL_law_797 : decode code 797 = .ok (.aload_n 2, 1) := by decide +kernel
theorem dL_law_798 : decode code 798 = .ok (.invokevirtual 99, 3) := by decide +kernel
theorem dL_law_801 : decode code 801 = .ok (.if_icmp .eq 18, 3) := by decide +kernel
theorem dL_law_804 : decode code 804 = .ok (.iconst 0, 1) := by decide +kernel
theorem dL_law_805 : decode code 805 = .ok (.ireturn, 1) := by decide +kernel
theorem dL_law_806 : decode code 806 = .ok (.aload_n 1, 1) := by decide +kernel
theorem dL_law_807 : decode code 807 = .ok (.invokevirtual 100, 3) := by decide +kernel
theorem dL_law_810 : decode code 810 = .ok (.aload_n 2, 1) := by decide +kernel
theorem dL_law_811 : decode code 811 = .ok (.invokevirtual 103, 3) := by decide +kernel
theorem dL_law_814 : decode code 814 = .ok (.if_icmp .eq 5, 3) := by decide +kernel
theorem dL_law_817 : decode code 817 = .ok (.iconst 0, 1) := by decide +kernel
theorem dL_law_818 : decode code 818 = .ok (.ireturn, 1) := by decide +kernel
theorem dL_law_819 : decode code 819 = .ok (.iinc 4 5, 3) := by decide +kernel
theorem dL_law_822 : decode code 822 = .ok (.goto (-799), 3) := by decide +kernel
theorem dL_law_825 : decode code 825 = .ok (.iconst 1, 1) := by decide +kernel
theorem dL_law_826 : decode code 826 = .ok (.ireturn, 1) := by decide +kernel
theorem dL_three_0 : decode cL_three 0 = .ok (.aload 5, 2) := by decide +kernel
theorem dL_three_2 : decode cL_three 2 = .ok (.iconst 0, 1) := by decide +kernel
theorem dL_three_3 : decode cL_three 3 = .ok (.aload_n 0, 1) := by decide +kernel
theorem dL_three_4 : decode cL_three 4 = .ok (.iload_n 1, 1) := by decide +kernel
theorem dL_three_5 : decode cL_three 5 = .ok (.iload_n 2, 1) := by decide +kernel
theorem dL_three_6 : decode cL_three 6 = .ok (.iload_n 3, 1) := by decide +kernel
theorem dL_three_7 : decode cL_three 7 = .ok (.iload 4, 2) := by decide +kernel
theorem dL_three_9 : decode cL_three 9 = .ok (.invokevirtual 25, 3) := by decide +kernel
theorem dL_three_12 : decode cL_three 12 = .ok (.i2l, 1) := by decide +kernel
theorem dL_three_13 : decode cL_three 13 = .ok (.lastore, 1) := by decide +kernel
theorem dL_three_14 : decode cL_three 14 = .ok (.goto 11, 3) := by decide +kernel
theorem dL_three_17 : decode cL_three 17 = .ok (.astore 6, 2) := by decide +kernel
theorem dL_three_19 : decode cL_three 19 = .ok (.iconst 1, 1) := by decide +kernel
theorem dL_three_20 : decode cL_three 20 = .ok (.ireturn, 1) := by decide +kernel
theorem dL_three_21 : decode cL_three 21 = .ok (.astore 6, 2) := by decide +kernel
theorem dL_three_23 : decode cL_three 23 = .ok (.iconst 2, 1) := by decide +kernel
theorem dL_three_24 : decode cL_three 24 = .ok (.ireturn, 1) := by decide +kernel
theorem dL_three_25 : decode cL_three 25 = .ok (.iconst 0, 1) := by decide +kernel
theorem dL_three_26 : decode cL_three 26 = .ok (.ireturn, 1) := by decide +kernel
theorem dL_set_0 : decode cL_set 0 = .ok (.aload_n 3, 1) := by decide +kernel
theorem dL_set_1 : decode cL_set 1 = .ok (.iconst 0, 1) := by decide +kernel
theorem dL_set_2 : decode cL_set 2 = .ok (.aload_n 0, 1) := by decide +kernel
theorem dL_set_3 : decode cL_set 3 = .ok (.iload_n 1, 1) := by decide +kernel
theorem dL_set_4 : decode cL_set 4 = .ok (.iload_n 2, 1) := by decide +kernel
theorem dL_set_5 : decode cL_set 5 = .ok (.invokevirtual 29, 3) := by decide +kernel
theorem dL_set_8 : decode cL_set 8 = .ok (.ifCond .eq 7, 3) := by decide +kernel
theorem dL_set_11 : decode cL_set 11 = .ok (.lconst 1, 1) := by decide +kernel
theorem dL_set_12 : decode cL_set 12 = .ok (.goto 4, 3) := by decide +kernel
theorem dL_set_15 : decode cL_set 15 = .ok (.lconst 0, 1) := by decide +kernel
theorem dL_set_16 : decode cL_set 16 = .ok (.lastore, 1) := by decide +kernel
theorem dL_set_17 : decode cL_set 17 = .ok (.goto 7, 3) := by decide +kernel
theorem dL_set_20 : decode cL_set 20 = .ok (.astore 4, 2) := by decide +kernel
theorem dL_set_22 : decode cL_set 22 = .ok (.iconst 1, 1) := by decide +kernel
theorem dL_set_23 : decode cL_set 23 = .ok (.ireturn, 1) := by decide +kernel
theorem dL_set_24 : decode cL_set 24 = .ok (.iconst 0, 1) := by decide +kernel
theorem dL_set_25 : decode cL_set 25 = .ok (.ireturn, 1) := by decide +kernel
theorem dL_value_0 : decode cL_value 0 = .ok (.aload_n 2, 1) := by decide +kernel
theorem dL_value_1 : decode cL_value 1 = .ok (.iconst 0, 1) := by decide +kernel
theorem dL_value_2 : decode cL_value 2 = .ok (.aload_n 0, 1) := by decide +kernel
theorem dL_value_3 : decode cL_value 3 = .ok (.iload_n 1, 1) := by decide +kernel
theorem dL_value_4 : decode cL_value 4 = .ok (.invokevirtual 33, 3) := by decide +kernel
theorem dL_value_7 : decode cL_value 7 = .ok (.ifCond .eq 7, 3) := by decide +kernel
theorem dL_value_10 : decode cL_value 10 = .ok (.lconst 1, 1) := by decide +kernel
theorem dL_value_11 : decode cL_value 11 = .ok (.goto 4, 3) := by decide +kernel
theorem dL_value_14 : decode cL_value 14 = .ok (.lconst 0, 1) := by decide +kernel
theorem dL_value_15 : decode cL_value 15 = .ok (.lastore, 1) := by decide +kernel
theorem dL_value_16 : decode cL_value 16 = .ok (.goto 6, 3) := by decide +kernel
theorem dL_value_19 : decode cL_value 19 = .ok (.astore_n 3, 1) := by decide +kernel
theorem dL_value_20 : decode cL_value 20 = .ok (.iconst 1, 1) := by decide +kernel
theorem dL_value_21 : decode cL_value 21 = .ok (.ireturn, 1) := by decide +kernel
theorem dL_value_22 : decode cL_value 22 = .ok (.iconst 0, 1) := by decide +kernel
theorem dL_value_23 : decode cL_value 23 = .ok (.ireturn, 1) := by decide +kernel
theorem dL_node_0 : decode cL_node 0 = .ok (.aload_n 3, 1) := by decide +kernel
theorem dL_node_1 : decode cL_node 1 = .ok (.iconst 0, 1) := by decide +kernel
theorem dL_node_2 : decode cL_node 2 = .ok (.aload_n 0, 1) := by decide +kernel
theorem dL_node_3 : decode cL_node 3 = .ok (.iload_n 1, 1) := by decide +kernel
theorem dL_node_4 : decode cL_node 4 = .ok (.iload_n 2, 1) := by decide +kernel
theorem dL_node_5 : decode cL_node 5 = .ok (.invokevirtual 37, 3) := by decide +kernel
theorem dL_node_8 : decode cL_node 8 = .ok (.i2l, 1) := by decide +kernel
theorem dL_node_9 : decode cL_node 9 = .ok (.lastore, 1) := by decide +kernel
theorem dL_node_10 : decode cL_node 10 = .ok (.goto 7, 3) := by decide +kernel
theorem dL_node_13 : decode cL_node 13 = .ok (.astore 4, 2) := by decide +kernel
theorem dL_node_15 : decode cL_node 15 = .ok (.iconst 1, 1) := by decide +kernel
theorem dL_node_16 : decode cL_node 16 = .ok (.ireturn, 1) := by decide +kernel
theorem dL_node_17 : decode cL_node 17 = .ok (.iconst 0, 1) := by decide +kernel
theorem dL_node_18 : decode cL_node 18 = .ok (.ireturn, 1) := by decide +kernel
theorem dL_cone_0 : decode cL_cone 0 = .ok (.aload_n 2, 1) := by decide +kernel
theorem dL_cone_1 : decode cL_cone 1 = .ok (.iconst 0, 1) := by decide +kernel
theorem dL_cone_2 : decode cL_cone 2 = .ok (.aload_n 0, 1) := by decide +kernel
theorem dL_cone_3 : decode cL_cone 3 = .ok (.iload_n 1, 1) := by decide +kernel
theorem dL_cone_4 : decode cL_cone 4 = .ok (.invokevirtual 40, 3) := by decide +kernel
theorem dL_cone_7 : decode cL_cone 7 = .ok (.i2l, 1) := by decide +kernel
theorem dL_cone_8 : decode cL_cone 8 = .ok (.lastore, 1) := by decide +kernel
theorem dL_cone_9 : decode cL_cone 9 = .ok (.goto 6, 3) := by decide +kernel
theorem dL_cone_12 : decode cL_cone 12 = .ok (.astore_n 3, 1) := by decide +kernel
theorem dL_cone_13 : decode cL_cone 13 = .ok (.iconst 1, 1) := by decide +kernel
theorem dL_cone_14 : decode cL_cone 14 = .ok (.ireturn, 1) := by decide +kernel
theorem dL_cone_15 : decode cL_cone 15 = .ok (.iconst 0, 1) := by decide +kernel
theorem dL_cone_16 : decode cL_cone 16 = .ok (.ireturn, 1) := by decide +kernel
theorem dL_below_0 : decode cL_below 0 = .ok (.aload_n 3, 1) := by decide +kernel
theorem dL_below_1 : decode cL_below 1 = .ok (.iconst 0, 1) := by decide +kernel
theorem dL_below_2 : decode cL_below 2 = .ok (.aload_n 0, 1) := by decide +kernel
theorem dL_below_3 : decode cL_below 3 = .ok (.iload_n 1, 1) := by decide +kernel
theorem dL_below_4 : decode cL_below 4 = .ok (.iload_n 2, 1) := by decide +kernel
theorem dL_below_5 : decode cL_below 5 = .ok (.invokevirtual 44, 3) := by decide +kernel
theorem dL_below_8 : decode cL_below 8 = .ok (.ifCond .eq 7, 3) := by decide +kernel
theorem dL_below_11 : decode cL_below 11 = .ok (.lconst 1, 1) := by decide +kernel
theorem dL_below_12 : decode cL_below 12 = .ok (.goto 4, 3) := by decide +kernel
theorem dL_below_15 : decode cL_below 15 = .ok (.lconst 0, 1) := by decide +kernel
theorem dL_below_16 : decode cL_below 16 = .ok (.lastore, 1) := by decide +kernel
theorem dL_below_17 : decode cL_below 17 = .ok (.goto 7, 3) := by decide +kernel
theorem dL_below_20 : decode cL_below 20 = .ok (.astore 4, 2) := by decide +kernel
theorem dL_below_22 : decode cL_below 22 = .ok (.iconst 1, 1) := by decide +kernel
theorem dL_below_23 : decode cL_below 23 = .ok (.ireturn, 1) := by decide +kernel
theorem dL_below_24 : decode cL_below 24 = .ok (.iconst 0, 1) := by decide +kernel
theorem dL_below_25 : decode cL_below 25 = .ok (.ireturn, 1) := by decide +kernel
theorem dL_depth_0 : decode cL_depth 0 = .ok (.aload_n 2, 1) := by decide +kernel
theorem dL_depth_1 : decode cL_depth 1 = .ok (.iconst 0, 1) := by decide +kernel
theorem dL_depth_2 : decode cL_depth 2 = .ok (.aload_n 0, 1) := by decide +kernel
theorem dL_depth_3 : decode cL_depth 3 = .ok (.iload_n 1, 1) := by decide +kernel
theorem dL_depth_4 : decode cL_depth 4 = .ok (.invokevirtual 48, 3) := by decide +kernel
theorem dL_depth_7 : decode cL_depth 7 = .ok (.i2l, 1) := by decide +kernel
theorem dL_depth_8 : decode cL_depth 8 = .ok (.lastore, 1) := by decide +kernel
theorem dL_depth_9 : decode cL_depth 9 = .ok (.goto 6, 3) := by decide +kernel
theorem dL_depth_12 : decode cL_depth 12 = .ok (.astore_n 3, 1) := by decide +kernel
theorem dL_depth_13 : decode cL_depth 13 = .ok (.iconst 1, 1) := by decide +kernel
theorem dL_depth_14 : decode cL_depth 14 = .ok (.ireturn, 1) := by decide +kernel
theorem dL_depth_15 : decode cL_depth 15 = .ok (.iconst 0, 1) := by decide +kernel
theorem dL_depth_16 : decode cL_depth 16 = .ok (.ireturn, 1) := by decide +kernel
