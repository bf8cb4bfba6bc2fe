theorem dL_cell_0 : decode bL_cell 0 = .ok (.iload_n 1, 1) := by decide +kernel
theorem dL_cell_1 : decode bL_cell 1 = .ok (.aload_n 0, 1) := by decide +kernel
theorem dL_cell_2 : decode bL_cell 2 = .ok (.arraylength, 1) := by decide +kernel
theorem dL_cell_3 : decode bL_cell 3 = .ok (.if_icmp .ge 9, 3) := by decide +kernel
theorem dL_cell_6 : decode bL_cell 6 = .ok (.aload_n 0, 1) := by decide +kernel
theorem dL_cell_7 : decode bL_cell 7 = .ok (.iload_n 1, 1) := by decide +kernel
theorem dL_cell_8 : decode bL_cell 8 = .ok (.iaload, 1) := by decide +kernel
theorem dL_cell_9 : decode bL_cell 9 = .ok (.goto 4, 3) := by decide +kernel
theorem dL_cell_12 : decode bL_cell 12 = .ok (.iconst 0, 1) := by decide +kernel
theorem dL_cell_13 : decode bL_cell 13 = .ok (.ireturn, 1) := by decide +kernel
theorem dL_law_0 : decode bL_law 0 = .ok (.new 7, 3) := by decide +kernel
theorem dL_law_3 : decode bL_law 3 = .ok (.dup, 1) := by decide +kernel
theorem dL_law_4 : decode bL_law 4 = .ok (.aload_n 0, 1) := by decide +kernel
theorem dL_law_5 : decode bL_law 5 = .ok (.iconst 0, 1) := by decide +kernel
theorem dL_law_6 : decode bL_law 6 = .ok (.invokestatic 9, 3) := by decide +kernel
theorem dL_law_9 : decode bL_law 9 = .ok (.aload_n 0, 1) := by decide +kernel
theorem dL_law_10 : decode bL_law 10 = .ok (.iconst 1, 1) := by decide +kernel
theorem dL_law_11 : decode bL_law 11 = .ok (.invokestatic 9, 3) := by decide +kernel
theorem dL_law_14 : decode bL_law 14 = .ok (.aload_n 0, 1) := by decide +kernel
theorem dL_law_15 : decode bL_law 15 = .ok (.iconst 2, 1) := by decide +kernel
theorem dL_law_16 : decode bL_law 16 = .ok (.invokestatic 9, 3) := by decide +kernel
theorem dL_law_19 : decode bL_law 19 = .ok (.invokespecial 15, 3) := by decide +kernel
theorem dL_law_22 : decode bL_law 22 = .ok (.astore_n 1, 1) := by decide +kernel
theorem dL_law_23 : decode bL_law 23 = .ok (.new 18, 3) := by decide +kernel
theorem dL_law_26 : decode bL_law 26 = .ok (.dup, 1) := by decide +kernel
theorem dL_law_27 : decode bL_law 27 = .ok (.aload_n 0, 1) := by decide +kernel
theorem dL_law_28 : decode bL_law 28 = .ok (.iconst 0, 1) := by decide +kernel
theorem dL_law_29 : decode bL_law 29 = .ok (.invokestatic 9, 3) := by decide +kernel
theorem dL_law_32 : decode bL_law 32 = .ok (.aload_n 0, 1) := by decide +kernel
theorem dL_law_33 : decode bL_law 33 = .ok (.iconst 1, 1) := by decide +kernel
theorem dL_law_34 : decode bL_law 34 = .ok (.invokestatic 9, 3) := by decide +kernel
theorem dL_law_37 : decode bL_law 37 = .ok (.aload_n 0, 1) := by decide +kernel
theorem dL_law_38 : decode bL_law 38 = .ok (.iconst 2, 1) := by decide +kernel
theorem dL_law_39 : decode bL_law 39 = .ok (.invokestatic 9, 3) := by decide +kernel
theorem dL_law_42 : decode bL_law 42 = .ok (.invokespecial 20, 3) := by decide +kernel
theorem dL_law_45 : decode bL_law 45 = .ok (.astore_n 2, 1) := by decide +kernel
theorem dL_law_46 : decode bL_law 46 = .ok (.iconst 3, 1) := by decide +kernel
theorem dL_law_47 : decode bL_law 47 = .ok (.istore_n 3, 1) := by decide +kernel
theorem dL_law_48 : decode bL_law 48 = .ok (.iload_n 3, 1) := by decide +kernel
theorem dL_law_49 : decode bL_law 49 = .ok (.aload_n 0, 1) := by decide +kernel
theorem dL_law_50 : decode bL_law 50 = .ok (.arraylength, 1) := by decide +kernel
theorem dL_law_51 : decode bL_law 51 = .ok (.iconst 5, 1) := by decide +kernel
theorem dL_law_52 : decode bL_law 52 = .ok (.isub, 1) := by decide +kernel
theorem dL_law_53 : decode bL_law 53 = .ok (.if_icmp .gt 656, 3) := by decide +kernel
theorem dL_law_56 : decode bL_law 56 = .ok (.aload_n 0, 1) := by decide +kernel
theorem dL_law_57 : decode bL_law 57 = .ok (.iload_n 3, 1) := by decide +kernel
theorem dL_law_58 : decode bL_law 58 = .ok (.iaload, 1) := by decide +kernel
theorem dL_law_59 : decode bL_law 59 = .ok (.bipush 15, 2) := by decide +kernel
theorem dL_law_61 : decode bL_law 61 = .ok (.iand, 1) := by decide +kernel
theorem dL_law_62 : decode bL_law 62 = .ok (.tableswitch 641 0 14 #[74, 137, 200, 233, 306, 329, 342, 365, 388, 411, 434, 467, 491, 524, 547], 74) := by decide +kernel
theorem dL_law_136 : decode bL_law 136 = .ok (.aload_n 1, 1) := by decide +kernel
theorem dL_law_137 : decode bL_law 137 = .ok (.aload_n 0, 1) := by decide +kernel
theorem dL_law_138 : decode bL_law 138 = .ok (.iload_n 3, 1) := by decide +kernel
theorem dL_law_139 : decode bL_law 139 = .ok (.iconst 1, 1) := by decide +kernel
theorem dL_law_140 : decode bL_law 140 = .ok (.iadd, 1) := by decide +kernel
theorem dL_law_141 : decode bL_law 141 = .ok (.iaload, 1) := by decide +kernel
theorem dL_law_142 : decode bL_law 142 = .ok (.i2l, 1) := by decide +kernel
theorem dL_law_143 : decode bL_law 143 = .ok (.bipush 32, 2) := by decide +kernel
theorem dL_law_145 : decode bL_law 145 = .ok (.lshl, 1) := by decide +kernel
theorem dL_law_146 : decode bL_law 146 = .ok (.aload_n 0, 1) := by decide +kernel
theorem dL_law_147 : decode bL_law 147 = .ok (.iload_n 3, 1) := by decide +kernel
theorem dL_law_148 : decode bL_law 148 = .ok (.iconst 2, 1) := by decide +kernel
theorem dL_law_149 : decode bL_law 149 = .ok (.iadd, 1) := by decide +kernel
theorem dL_law_150 : decode bL_law 150 = .ok (.iaload, 1) := by decide +kernel
theorem dL_law_151 : decode bL_law 151 = .ok (.i2l, 1) := by decide +kernel
theorem dL_law_152 : decode bL_law 152 = .ok (.ldc2_w 21, 3) := by decide +kernel
theorem dL_law_155 : decode bL_law 155 = .ok (.land, 1) := by decide +kernel
theorem dL_law_156 : decode bL_law 156 = .ok (.lor, 1) := by decide +kernel
theorem dL_law_157 : decode bL_law 157 = .ok (.aload_n 0, 1) := by decide +kernel
theorem dL_law_158 : decode bL_law 158 = .ok (.iload_n 3, 1) := by decide +kernel
theorem dL_law_159 : decode bL_law 159 = .ok (.iconst 3, 1) := by decide +kernel
theorem dL_law_160 : decode bL_law 160 = .ok (.iadd, 1) := by decide +kernel
theorem dL_law_161 : decode bL_law 161 = .ok (.iaload, 1) := by decide +kernel
theorem dL_law_162 : decode bL_law 162 = .ok (.invokevirtual 23, 3) := by decide +kernel
theorem dL_law_165 : decode bL_law 165 = .ok (.aload_n 2, 1) := by decide +kernel
theorem dL_law_166 : decode bL_law 166 = .ok (.aload_n 0, 1) := by decide +kernel
theorem dL_law_167 : decode bL_law 167 = .ok (.iload_n 3, 1) := by decide +kernel
theorem dL_law_168 : decode bL_law 168 = .ok (.iconst 1, 1) := by decide +kernel
theorem dL_law_169 : decode bL_law 169 = .ok (.iadd, 1) := by decide +kernel
theorem dL_law_170 : decode bL_law 170 = .ok (.iaload, 1) := by decide +kernel
theorem dL_law_171 : decode bL_law 171 = .ok (.i2l, 1) := by decide +kernel
theorem dL_law_172 : decode bL_law 172 = .ok (.bipush 32, 2) := by decide +kernel
theorem dL_law_174 : decode bL_law 174 = .ok (.lshl, 1) := by decide +kernel
theorem dL_law_175 : decode bL_law 175 = .ok (.aload_n 0, 1) := by decide +kernel
theorem dL_law_176 : decode bL_law 176 = .ok (.iload_n 3, 1) := by decide +kernel
theorem dL_law_177 : decode bL_law 177 = .ok (.iconst 2, 1) := by decide +kernel
theorem dL_law_178 : decode bL_law 178 = .ok (.iadd, 1) := by decide +kernel
theorem dL_law_179 : decode bL_law 179 = .ok (.iaload, 1) := by decide +kernel
theorem dL_law_180 : decode bL_law 180 = .ok (.i2l, 1) := by decide +kernel
theorem dL_law_181 : decode bL_law 181 = .ok (.ldc2_w 21, 3) := by decide +kernel
theorem dL_law_184 : decode bL_law 184 = .ok (.land, 1) := by decide +kernel
theorem dL_law_185 : decode bL_law 185 = .ok (.lor, 1) := by decide +kernel
theorem dL_law_186 : decode bL_law 186 = .ok (.aload_n 0, 1) := by decide +kernel
theorem dL_law_187 : decode bL_law 187 = .ok (.iload_n 3, 1) := by decide +kernel
theorem dL_law_188 : decode bL_law 188 = .ok (.iconst 3, 1) := by decide +kernel
theorem dL_law_189 : decode bL_law 189 = .ok (.iadd, 1) := by decide +kernel
theorem dL_law_190 : decode bL_law 190 = .ok (.iaload, 1) := by decide +kernel
theorem dL_law_191 : decode bL_law 191 = .ok (.invokevirtual 27, 3) := by decide +kernel
theorem dL_law_194 : decode bL_law 194 = .ok (.if_icmp .eq 509, 3) := by decide +kernel
theorem dL_law_197 : decode bL_law 197 = .ok (.iconst 0, 1) := by decide +kernel
theorem dL_law_198 : decode bL_law 198 = .ok (.ireturn, 1) := by decide +kernel
theorem dL_law_199 : decode bL_law 199 = .ok (.aload_n 1, 1) := by decide +kernel
theorem dL_law_200 : decode bL_law 200 = .ok (.aload_n 0, 1) := by decide +kernel
theorem dL_law_201 : decode bL_law 201 = .ok (.iload_n 3, 1) := by decide +kernel
theorem dL_law_202 : decode bL_law 202 = .ok (.iconst 1, 1) := by decide +kernel
theorem dL_law_203 : decode bL_law 203 = .ok (.iadd, 1) := by decide +kernel
theorem dL_law_204 : decode bL_law 204 = .ok (.iaload, 1) := by decide +kernel
theorem dL_law_205 : decode bL_law 205 = .ok (.aload_n 0, 1) := by decide +kernel
theorem dL_law_206 : decode bL_law 206 = .ok (.iload_n 3, 1) := by decide +kernel
theorem dL_law_207 : decode bL_law 207 = .ok (.iconst 2, 1) := by decide +kernel
theorem dL_law_208 : decode bL_law 208 = .ok (.iadd, 1) := by decide +kernel
theorem dL_law_209 : decode bL_law 209 = .ok (.iaload, 1) := by decide +kernel
theorem dL_law_210 : decode bL_law 210 = .ok (.i2l, 1) := by decide +kernel
theorem dL_law_211 : decode bL_law 211 = .ok (.bipush 32, 2) := by decide +kernel
theorem dL_law_213 : decode bL_law 213 = .ok (.lshl, 1) := by decide +kernel
theorem dL_law_214 : decode bL_law 214 = .ok (.aload_n 0, 1) := by decide +kernel
theorem dL_law_215 : decode bL_law 215 = .ok (.iload_n 3, 1) := by decide +kernel
theorem dL_law_216 : decode bL_law 216 = .ok (.iconst 3, 1) := by decide +kernel
theorem dL_law_217 : decode bL_law 217 = .ok (.iadd, 1) := by decide +kernel
theorem dL_law_218 : decode bL_law 218 = .ok (.iaload, 1) := by decide +kernel
theorem dL_law_219 : decode bL_law 219 = .ok (.i2l, 1) := by decide +kernel
theorem dL_law_220 : decode bL_law 220 = .ok (.ldc2_w 21, 3) := by decide +kernel
theorem dL_law_223 : decode bL_law 223 = .ok (.land, 1) := by decide +kernel
theorem dL_law_224 : decode bL_law 224 = .ok (.lor, 1) := by decide +kernel
theorem dL_law_225 : decode bL_law 225 = .ok (.invokevirtual 28, 3) := by decide +kernel
theorem dL_law_228 : decode bL_law 228 = .ok (.aload_n 2, 1) := by decide +kernel
theorem dL_law_229 : decode bL_law 229 = .ok (.aload_n 0, 1) := by decide +kernel
theorem dL_law_230 : decode bL_law 230 = .ok (.iload_n 3, 1) := by decide +kernel
theorem dL_law_231 : decode bL_law 231 = .ok (.iconst 1, 1) := by decide +kernel
theorem dL_law_232 : decode bL_law 232 = .ok (.iadd, 1) := by decide +kernel
theorem dL_law_233 : decode bL_law 233 = .ok (.iaload, 1) := by decide +kernel
theorem dL_law_234 : decode bL_law 234 = .ok (.aload_n 0, 1) := by decide +kernel
theorem dL_law_235 : decode bL_law 235 = .ok (.iload_n 3, 1) := by decide +kernel
theorem dL_law_236 : decode bL_law 236 = .ok (.iconst 2, 1) := by decide +kernel
theorem dL_law_237 : decode bL_law 237 = .ok (.iadd, 1) := by decide +kernel
theorem dL_law_238 : decode bL_law 238 = .ok (.iaload, 1) := by decide +kernel
theorem dL_law_239 : decode bL_law 239 = .ok (.i2l, 1) := by decide +kernel
theorem dL_law_240 : decode bL_law 240 = .ok (.bipush 32, 2) := by decide +kernel
theorem dL_law_242 : decode bL_law 242 = .ok (.lshl, 1) := by decide +kernel
theorem dL_law_243 : decode bL_law 243 = .ok (.aload_n 0, 1) := by decide +kernel
theorem dL_law_244 : decode bL_law 244 = .ok (.iload_n 3, 1) := by decide +kernel
theorem dL_law_245 : decode bL_law 245 = .ok (.iconst 3, 1) := by decide +kernel
theorem dL_law_246 : decode bL_law 246 = .ok (.iadd, 1) := by decide +kernel
theorem dL_law_247 : decode bL_law 247 = .ok (.iaload, 1) := by decide +kernel
theorem dL_law_248 : decode bL_law 248 = .ok (.i2l, 1) := by decide +kernel
theorem dL_law_249 : decode bL_law 249 = .ok (.ldc2_w 21, 3) := by decide +kernel
theorem dL_law_252 : decode bL_law 252 = .ok (.land, 1) := by decide +kernel
theorem dL_law_253 : decode bL_law 253 = .ok (.lor, 1) := by decide +kernel
theorem dL_law_254 : decode bL_law 254 = .ok (.invokevirtual 32, 3) := by decide +kernel
theorem dL_law_257 : decode bL_law 257 = .ok (.if_icmp .eq 446, 3) := by decide +kernel
theorem dL_law_260 : decode bL_law 260 = .ok (.iconst 0, 1) := by decide +kernel
theorem dL_law_261 : decode bL_law 261 = .ok (.ireturn, 1) := by decide +kernel
theorem dL_law_262 : decode bL_law 262 = .ok (.aload_n 1, 1) := by decide +kernel
theorem dL_law_263 : decode bL_law 263 = .ok (.aload_n 0, 1) := by decide +kernel
theorem dL_law_264 : decode bL_law 264 = .ok (.iload_n 3, 1) := by decide +kernel
theorem dL_law_265 : decode bL_law 265 = .ok (.iconst 1, 1) := by decide +kernel
theorem dL_law_266 : decode bL_law 266 = .ok (.iadd, 1) := by decide +kernel
theorem dL_law_267 : decode bL_law 267 = .ok (.iaload, 1) := by decide +kernel
theorem dL_law_268 : decode bL_law 268 = .ok (.aload_n 0, 1) := by decide +kernel
theorem dL_law_269 : decode bL_law 269 = .ok (.iload_n 3, 1) := by decide +kernel
theorem dL_law_270 : decode bL_law 270 = .ok (.iconst 2, 1) := by decide +kernel
theorem dL_law_271 : decode bL_law 271 = .ok (.iadd, 1) := by decide +kernel
theorem dL_law_272 : decode bL_law 272 = .ok (.iaload, 1) := by decide +kernel
theorem dL_law_273 : decode bL_law 273 = .ok (.invokevirtual 33, 3) := by decide +kernel
theorem dL_law_276 : decode bL_law 276 = .ok (.aload_n 2, 1) := by decide +kernel
theorem dL_law_277 : decode bL_law 277 = .ok (.aload_n 0, 1) := by decide +kernel
theorem dL_law_278 : decode bL_law 278 = .ok (.iload_n 3, 1) := by decide +kernel
theorem dL_law_279 : decode bL_law 279 = .ok (.iconst 1, 1) := by decide +kernel
theorem dL_law_280 : decode bL_law 280 = .ok (.iadd, 1) := by decide +kernel
theorem dL_law_281 : decode bL_law 281 = .ok (.iaload, 1) := by decide +kernel
theorem dL_law_282 : decode bL_law 282 = .ok (.aload_n 0, 1) := by decide +kernel
theorem dL_law_283 : decode bL_law 283 = .ok (.iload_n 3, 1) := by decide +kernel
theorem dL_law_284 : decode bL_law 284 = .ok (.iconst 2, 1) := by decide +kernel
theorem dL_law_285 : decode bL_law 285 = .ok (.iadd, 1) := by decide +kernel
theorem dL_law_286 : decode bL_law 286 = .ok (.iaload, 1) := by decide +kernel
theorem dL_law_287 : decode bL_law 287 = .ok (.invokevirtual 37, 3) := by decide +kernel
theorem dL_law_290 : decode bL_law 290 = .ok (.if_icmp .eq 413, 3) := by decide +kernel
theorem dL_law_293 : decode bL_law 293 = .ok (.iconst 0, 1) := by decide +kernel
theorem dL_law_294 : decode bL_law 294 = .ok (.ireturn, 1) := by decide +kernel
theorem dL_law_295 : decode bL_law 295 = .ok (.aload_n 1, 1) := by decide +kernel
theorem dL_law_296 : decode bL_law 296 = .ok (.aload_n 0, 1) := by decide +kernel
theorem dL_law_297 : decode bL_law 297 = .ok (.iload_n 3, 1) := by decide +kernel
theorem dL_law_298 : decode bL_law 298 = .ok (.iconst 1, 1) := by decide +kernel
theorem dL_law_299 : decode bL_law 299 = .ok (.iadd, 1) := by decide +kernel
theorem dL_law_300 : decode bL_law 300 = .ok (.iaload, 1) := by decide +kernel
theorem dL_law_301 : decode bL_law 301 = .ok (.aload_n 0, 1) := by decide +kernel
theorem dL_law_302 : decode bL_law 302 = .ok (.iload_n 3, 1) := by decide +kernel
theorem dL_law_303 : decode bL_law 303 = .ok (.iconst 2, 1) := by decide +kernel
theorem dL_law_304 : decode bL_law 304 = .ok (.iadd, 1) := by decide +kernel
theorem dL_law_305 : decode bL_law 305 = .ok (.iaload, 1) := by decide +kernel
theorem dL_law_306 : decode bL_law 306 = .ok (.i2l, 1) := by decide +kernel
theorem dL_law_307 : decode bL_law 307 = .ok (.bipush 32, 2) := by decide +kernel
theorem dL_law_309 : decode bL_law 309 = .ok (.lshl, 1) := by decide +kernel
theorem dL_law_310 : decode bL_law 310 = .ok (.aload_n 0, 1) := by decide +kernel
theorem dL_law_311 : decode bL_law 311 = .ok (.iload_n 3, 1) := by decide +kernel
theorem dL_law_312 : decode bL_law 312 = .ok (.iconst 3, 1) := by decide +kernel
theorem dL_law_313 : decode bL_law 313 = .ok (.iadd, 1) := by decide +kernel
theorem dL_law_314 : decode bL_law 314 = .ok (.iaload, 1) := by decide +kernel
theorem dL_law_315 : decode bL_law 315 = .ok (.i2l, 1) := by decide +kernel
theorem dL_law_316 : decode bL_law 316 = .ok (.ldc2_w 21, 3) := by decide +kernel
theorem dL_law_319 : decode bL_law 319 = .ok (.land, 1) := by decide +kernel
theorem dL_law_320 : decode bL_law 320 = .ok (.lor, 1) := by decide +kernel
theorem dL_law_321 : decode bL_law 321 = .ok (.aload_n 0, 1) := by decide +kernel
theorem dL_law_322 : decode bL_law 322 = .ok (.iload_n 3, 1) := by decide +kernel
theorem dL_law_323 : decode bL_law 323 = .ok (.iconst 4, 1) := by decide +kernel
theorem dL_law_324 : decode bL_law 324 = .ok (.iadd, 1) := by decide +kernel
theorem dL_law_325 : decode bL_law 325 = .ok (.iaload, 1) := by decide +kernel
theorem dL_law_326 : decode bL_law 326 = .ok (.invokevirtual 38, 3) := by decide +kernel
theorem dL_law_329 : decode bL_law 329 = .ok (.aload_n 2, 1) := by decide +kernel
theorem dL_law_330 : decode bL_law 330 = .ok (.aload_n 0, 1) := by decide +kernel
theorem dL_law_331 : decode bL_law 331 = .ok (.iload_n 3, 1) := by decide +kernel
theorem dL_law_332 : decode bL_law 332 = .ok (.iconst 1, 1) := by decide +kernel
theorem dL_law_333 : decode bL_law 333 = .ok (.iadd, 1) := by decide +kernel
theorem dL_law_334 : decode bL_law 334 = .ok (.iaload, 1) := by decide +kernel
theorem dL_law_335 : decode bL_law 335 = .ok (.aload_n 0, 1) := by decide +kernel
theorem dL_law_336 : decode bL_law 336 = .ok (.iload_n 3, 1) := by decide +kernel
theorem dL_law_337 : decode bL_law 337 = .ok (.iconst 2, 1) := by decide +kernel
theorem dL_law_338 : decode bL_law 338 = .ok (.iadd, 1) := by decide +kernel
theorem dL_law_339 : decode bL_law 339 = .ok (.iaload, 1) := by decide +kernel
theorem dL_law_340 : decode bL_law 340 = .ok (.i2l, 1) := by decide +kernel
theorem dL_law_341 : decode bL_law 341 = .ok (.bipush 32, 2) := by decide +kernel
theorem dL_law_343 : decode bL_law 343 = .ok (.lshl, 1) := by decide +kernel
theorem dL_law_344 : decode bL_law 344 = .ok (.aload_n 0, 1) := by decide +kernel
theorem dL_law_345 : decode bL_law 345 = .ok (.iload_n 3, 1) := by decide +kernel
theorem dL_law_346 : decode bL_law 346 = .ok (.iconst 3, 1) := by decide +kernel
theorem dL_law_347 : decode bL_law 347 = .ok (.iadd, 1) := by decide +kernel
theorem dL_law_348 : decode bL_law 348 = .ok (.iaload, 1) := by decide +kernel
theorem dL_law_349 : decode bL_law 349 = .ok (.i2l, 1) := by decide +kernel
theorem dL_law_350 : decode bL_law 350 = .ok (.ldc2_w 21, 3) := by decide +kernel
theorem dL_law_353 : decode bL_law 353 = .ok (.land, 1) := by decide +kernel
theorem dL_law_354 : decode bL_law 354 = .ok (.lor, 1) := by decide +kernel
theorem dL_law_355 : decode bL_law 355 = .ok (.aload_n 0, 1) := by decide +kernel
theorem dL_law_356 : decode bL_law 356 = .ok (.iload_n 3, 1) := by decide +kernel
theorem dL_law_357 : decode bL_law 357 = .ok (.iconst 4, 1) := by decide +kernel
theorem dL_law_358 : decode bL_law 358 = .ok (.iadd, 1) := by decide +kernel
theorem dL_law_359 : decode bL_law 359 = .ok (.iaload, 1) := by decide +kernel
theorem dL_law_360 : decode bL_law 360 = .ok (.invokevirtual 42, 3) := by decide +kernel
theorem dL_law_363 : decode bL_law 363 = .ok (.if_icmp .eq 340, 3) := by decide +kernel
theorem dL_law_366 : decode bL_law 366 = .ok (.iconst 0, 1) := by decide +kernel
theorem dL_law_367 : decode bL_law 367 = .ok (.ireturn, 1) := by decide +kernel
theorem dL_law_368 : decode bL_law 368 = .ok (.aload_n 1, 1) := by decide +kernel
theorem dL_law_369 : decode bL_law 369 = .ok (.aload_n 0, 1) := by decide +kernel
theorem dL_law_370 : decode bL_law 370 = .ok (.iload_n 3, 1) := by decide +kernel
theorem dL_law_371 : decode bL_law 371 = .ok (.iconst 1, 1) := by decide +kernel
theorem dL_law_372 : decode bL_law 372 = .ok (.iadd, 1) := by decide +kernel
theorem dL_law_373 : decode bL_law 373 = .ok (.iaload, 1) := by decide +kernel
theorem dL_law_374 : decode bL_law 374 = .ok (.invokevirtual 43, 3) := by decide +kernel
theorem dL_law_377 : decode bL_law 377 = .ok (.aload_n 2, 1) := by decide +kernel
theorem dL_law_378 : decode bL_law 378 = .ok (.aload_n 0, 1) := by decide +kernel
theorem dL_law_379 : decode bL_law 379 = .ok (.iload_n 3, 1) := by decide +kernel
theorem dL_law_380 : decode bL_law 380 = .ok (.iconst 1, 1) := by decide +kernel
theorem dL_law_381 : decode bL_law 381 = .ok (.iadd, 1) := by decide +kernel
theorem dL_law_382 : decode bL_law 382 = .ok (.iaload, 1) := by decide +kernel
theorem dL_law_383 : decode bL_law 383 = .ok (.invokevirtual 47, 3) := by decide +kernel
theorem dL_law_386 : decode bL_law 386 = .ok (.if_icmp .eq 317, 3) := by decide +kernel
theorem dL_law_389 : decode bL_law 389 = .ok (.iconst 0, 1) := by decide +kernel
theorem dL_law_390 : decode bL_law 390 = .ok (.ireturn, 1) := by decide +kernel
theorem dL_law_391 : decode bL_law 391 = .ok (.aload_n 1, 1) := by decide +kernel
theorem dL_law_392 : decode bL_law 392 = .ok (.invokevirtual 48, 3) := by decide +kernel
theorem dL_law_395 : decode bL_law 395 = .ok (.aload_n 2, 1) := by decide +kernel
theorem dL_law_396 : decode bL_law 396 = .ok (.invokevirtual 52, 3) := by decide +kernel
theorem dL_law_399 : decode bL_law 399 = .ok (.if_icmp .eq 304, 3) := by decide +kernel
theorem dL_law_402 : decode bL_law 402 = .ok (.iconst 0, 1) := by decide +kernel
theorem dL_law_403 : decode bL_law 403 = .ok (.ireturn, 1) := by decide +kernel
theorem dL_law_404 : decode bL_law 404 = .ok (.aload_n 1, 1) := by decide +kernel
theorem dL_law_405 : decode bL_law 405 = .ok (.aload_n 0, 1) := by decide +kernel
theorem dL_law_406 : decode bL_law 406 = .ok (.iload_n 3, 1) := by decide +kernel
theorem dL_law_407 : decode bL_law 407 = .ok (.iconst 1, 1) := by decide +kernel
theorem dL_law_408 : decode bL_law 408 = .ok (.iadd, 1) := by decide +kernel
theorem dL_law_409 : decode bL_law 409 = .ok (.iaload, 1) := by decide +kernel
theorem dL_law_410 : decode bL_law 410 = .ok (.invokevirtual 53, 3) := by decide +kernel
theorem dL_law_413 : decode bL_law 413 = .ok (.aload_n 2, 1) := by decide +kernel
theorem dL_law_414 : decode bL_law 414 = .ok (.aload_n 0, 1) := by decide +kernel
theorem dL_law_415 : decode bL_law 415 = .ok (.iload_n 3, 1) := by decide +kernel
theorem dL_law_416 : decode bL_law 416 = .ok (.iconst 1, 1) := by decide +kernel
theorem dL_law_417 : decode bL_law 417 = .ok (.iadd, 1) := by decide +kernel
theorem dL_law_418 : decode bL_law 418 = .ok (.iaload, 1) := by decide +kernel
theorem dL_law_419 : decode bL_law 419 = .ok (.invokevirtual 56, 3) := by decide +kernel
theorem dL_law_422 : decode bL_law 422 = .ok (.if_icmp .eq 281, 3) := by decide +kernel
theorem dL_law_425 : decode bL_law 425 = .ok (.iconst 0, 1) := by decide +kernel
theorem dL_law_426 : decode bL_law 426 = .ok (.ireturn, 1) := by decide +kernel
theorem dL_law_427 : decode bL_law 427 = .ok (.aload_n 1, 1) := by decide +kernel
theorem dL_law_428 : decode bL_law 428 = .ok (.aload_n 0, 1) := by decide +kernel
theorem dL_law_429 : decode bL_law 429 = .ok (.iload_n 3, 1) := by decide +kernel
theorem dL_law_430 : decode bL_law 430 = .ok (.iconst 1, 1) := by decide +kernel
theorem dL_law_431 : decode bL_law 431 = .ok (.iadd, 1) := by decide +kernel
theorem dL_law_432 : decode bL_law 432 = .ok (.iaload, 1) := by decide +kernel
theorem dL_law_433 : decode bL_law 433 = .ok (.invokevirtual 57, 3) := by decide +kernel
theorem dL_law_436 : decode bL_law 436 = .ok (.aload_n 2, 1) := by decide +kernel
theorem dL_law_437 : decode bL_law 437 = .ok (.aload_n 0, 1) := by decide +kernel
theorem dL_law_438 : decode bL_law 438 = .ok (.iload_n 3, 1) := by decide +kernel
theorem dL_law_439 : decode bL_law 439 = .ok (.iconst 1, 1) := by decide +kernel
theorem dL_law_440 : decode bL_law 440 = .ok (.iadd, 1) := by decide +kernel
theorem dL_law_441 : decode bL_law 441 = .ok (.iaload, 1) := by decide +kernel
theorem dL_law_442 : decode bL_law 442 = .ok (.invokevirtual 60, 3) := by decide +kernel
theorem dL_law_445 : decode bL_law 445 = .ok (.if_icmp .eq 258, 3) := by decide +kernel
theorem dL_law_448 : decode bL_law 448 = .ok (.iconst 0, 1) := by decide +kernel
theorem dL_law_449 : decode bL_law 449 = .ok (.ireturn, 1) := by decide +kernel
theorem dL_law_450 : decode bL_law 450 = .ok (.aload_n 1, 1) := by decide +kernel
theorem dL_law_451 : decode bL_law 451 = .ok (.aload_n 0, 1) := by decide +kernel
theorem dL_law_452 : decode bL_law 452 = .ok (.iload_n 3, 1) := by decide +kernel
theorem dL_law_453 : decode bL_law 453 = .ok (.iconst 1, 1) := by decide +kernel
theorem dL_law_454 : decode bL_law 454 = .ok (.iadd, 1) := by decide +kernel
theorem dL_law_455 : decode bL_law 455 = .ok (.iaload, 1) := by decide +kernel
theorem dL_law_456 : decode bL_law 456 = .ok (.invokevirtual 61, 3) := by decide +kernel
theorem dL_law_459 : decode bL_law 459 = .ok (.aload_n 2, 1) := by decide +kernel
theorem dL_law_460 : decode bL_law 460 = .ok (.aload_n 0, 1) := by decide +kernel
theorem dL_law_461 : decode bL_law 461 = .ok (.iload_n 3, 1) := by decide +kernel
theorem dL_law_462 : decode bL_law 462 = .ok (.iconst 1, 1) := by decide +kernel
theorem dL_law_463 : decode bL_law 463 = .ok (.iadd, 1) := by decide +kernel
theorem dL_law_464 : decode bL_law 464 = .ok (.iaload, 1) := by decide +kernel
theorem dL_law_465 : decode bL_law 465 = .ok (.invokevirtual 64, 3) := by decide +kernel
theorem dL_law_468 : decode bL_law 468 = .ok (.if_icmp .eq 235, 3) := by decide +kernel
theorem dL_law_471 : decode bL_law 471 = .ok (.iconst 0, 1) := by decide +kernel
theorem dL_law_472 : decode bL_law 472 = .ok (.ireturn, 1) := by decide +kernel
theorem dL_law_473 : decode bL_law 473 = .ok (.aload_n 1, 1) := by decide +kernel
theorem dL_law_474 : decode bL_law 474 = .ok (.aload_n 0, 1) := by decide +kernel
theorem dL_law_475 : decode bL_law 475 = .ok (.iload_n 3, 1) := by decide +kernel
theorem dL_law_476 : decode bL_law 476 = .ok (.iconst 1, 1) := by decide +kernel
theorem dL_law_477 : decode bL_law 477 = .ok (.iadd, 1) := by decide +kernel
theorem dL_law_478 : decode bL_law 478 = .ok (.iaload, 1) := by decide +kernel
theorem dL_law_479 : decode bL_law 479 = .ok (.invokevirtual 65, 3) := by decide +kernel
theorem dL_law_482 : decode bL_law 482 = .ok (.aload_n 2, 1) := by decide +kernel
theorem dL_law_483 : decode bL_law 483 = .ok (.aload_n 0, 1) := by decide +kernel
theorem dL_law_484 : decode bL_law 484 = .ok (.iload_n 3, 1) := by decide +kernel
theorem dL_law_485 : decode bL_law 485 = .ok (.iconst 1, 1) := by decide +kernel
theorem dL_law_486 : decode bL_law 486 = .ok (.iadd, 1) := by decide +kernel
theorem dL_law_487 : decode bL_law 487 = .ok (.iaload, 1) := by decide +kernel
theorem dL_law_488 : decode bL_law 488 = .ok (.invokevirtual 68, 3) := by decide +kernel
theorem dL_law_491 : decode bL_law 491 = .ok (.if_icmp .eq 212, 3) := by decide +kernel
theorem dL_law_494 : decode bL_law 494 = .ok (.iconst 0, 1) := by decide +kernel
theorem dL_law_495 : decode bL_law 495 = .ok (.ireturn, 1) := by decide +kernel
theorem dL_law_496 : decode bL_law 496 = .ok (.aload_n 1, 1) := by decide +kernel
theorem dL_law_497 : decode bL_law 497 = .ok (.aload_n 0, 1) := by decide +kernel
theorem dL_law_498 : decode bL_law 498 = .ok (.iload_n 3, 1) := by decide +kernel
theorem dL_law_499 : decode bL_law 499 = .ok (.iconst 1, 1) := by decide +kernel
theorem dL_law_500 : decode bL_law 500 = .ok (.iadd, 1) := by decide +kernel
theorem dL_law_501 : decode bL_law 501 = .ok (.iaload, 1) := by decide +kernel
theorem dL_law_502 : decode bL_law 502 = .ok (.aload_n 0, 1) := by decide +kernel
theorem dL_law_503 : decode bL_law 503 = .ok (.iload_n 3, 1) := by decide +kernel
theorem dL_law_504 : decode bL_law 504 = .ok (.iconst 2, 1) := by decide +kernel
theorem dL_law_505 : decode bL_law 505 = .ok (.iadd, 1) := by decide +kernel
theorem dL_law_506 : decode bL_law 506 = .ok (.iaload, 1) := by decide +kernel
theorem dL_law_507 : decode bL_law 507 = .ok (.invokevirtual 69, 3) := by decide +kernel
theorem dL_law_510 : decode bL_law 510 = .ok (.aload_n 2, 1) := by decide +kernel
theorem dL_law_511 : decode bL_law 511 = .ok (.aload_n 0, 1) := by decide +kernel
theorem dL_law_512 : decode bL_law 512 = .ok (.iload_n 3, 1) := by decide +kernel
theorem dL_law_513 : decode bL_law 513 = .ok (.iconst 1, 1) := by decide +kernel
theorem dL_law_514 : decode bL_law 514 = .ok (.iadd, 1) := by decide +kernel
theorem dL_law_515 : decode bL_law 515 = .ok (.iaload, 1) := by decide +kernel
theorem dL_law_516 : decode bL_law 516 = .ok (.aload_n 0, 1) := by decide +kernel
theorem dL_law_517 : decode bL_law 517 = .ok (.iload_n 3, 1) := by decide +kernel
theorem dL_law_518 : decode bL_law 518 = .ok (.iconst 2, 1) := by decide +kernel
theorem dL_law_519 : decode bL_law 519 = .ok (.iadd, 1) := by decide +kernel
theorem dL_law_520 : decode bL_law 520 = .ok (.iaload, 1) := by decide +kernel
theorem dL_law_521 : decode bL_law 521 = .ok (.invokevirtual 73, 3) := by decide +kernel
theorem dL_law_524 : decode bL_law 524 = .ok (.if_icmp .eq 179, 3) := by decide +kernel
theorem dL_law_527 : decode bL_law 527 = .ok (.iconst 0, 1) := by decide +kernel
theorem dL_law_528 : decode bL_law 528 = .ok (.ireturn, 1) := by decide +kernel
theorem dL_law_529 : decode bL_law 529 = .ok (.aload_n 1, 1) := by decide +kernel
theorem dL_law_530 : decode bL_law 530 = .ok (.aload_n 0, 1) := by decide +kernel
theorem dL_law_531 : decode bL_law 531 = .ok (.iload_n 3, 1) := by decide +kernel
theorem dL_law_532 : decode bL_law 532 = .ok (.iconst 1, 1) := by decide +kernel
theorem dL_law_533 : decode bL_law 533 = .ok (.iadd, 1) := by decide +kernel
theorem dL_law_534 : decode bL_law 534 = .ok (.iaload, 1) := by decide +kernel
theorem dL_law_535 : decode bL_law 535 = .ok (.invokevirtual 74, 3) := by decide +kernel
theorem dL_law_538 : decode bL_law 538 = .ok (.aload_n 2, 1) := by decide +kernel
theorem dL_law_539 : decode bL_law 539 = .ok (.aload_n 0, 1) := by decide +kernel
theorem dL_law_540 : decode bL_law 540 = .ok (.iload_n 3, 1) := by decide +kernel
theorem dL_law_541 : decode bL_law 541 = .ok (.iconst 1, 1) := by decide +kernel
theorem dL_law_542 : decode bL_law 542 = .ok (.iadd, 1) := by decide +kernel
theorem dL_law_543 : decode bL_law 543 = .ok (.iaload, 1) := by decide +kernel
theorem dL_law_544 : decode bL_law 544 = .ok (.invokevirtual 78, 3) := by decide +kernel
theorem dL_law_547 : decode bL_law 547 = .ok (.lcmp, 1) := by decide +kernel
theorem dL_law_548 : decode bL_law 548 = .ok (.ifCond .eq 155, 3) := by decide +kernel
theorem dL_law_551 : decode bL_law 551 = .ok (.iconst 0, 1) := by decide +kernel
theorem dL_law_552 : decode bL_law 552 = .ok (.ireturn, 1) := by decide +kernel
theorem dL_law_553 : decode bL_law 553 = .ok (.aload_n 1, 1) := by decide +kernel
theorem dL_law_554 : decode bL_law 554 = .ok (.aload_n 0, 1) := by decide +kernel
theorem dL_law_555 : decode bL_law 555 = .ok (.iload_n 3, 1) := by decide +kernel
theorem dL_law_556 : decode bL_law 556 = .ok (.iconst 1, 1) := by decide +kernel
theorem dL_law_557 : decode bL_law 557 = .ok (.iadd, 1) := by decide +kernel
theorem dL_law_558 : decode bL_law 558 = .ok (.iaload, 1) := by decide +kernel
theorem dL_law_559 : decode bL_law 559 = .ok (.aload_n 0, 1) := by decide +kernel
theorem dL_law_560 : decode bL_law 560 = .ok (.iload_n 3, 1) := by decide +kernel
theorem dL_law_561 : decode bL_law 561 = .ok (.iconst 2, 1) := by decide +kernel
theorem dL_law_562 : decode bL_law 562 = .ok (.iadd, 1) := by decide +kernel
theorem dL_law_563 : decode bL_law 563 = .ok (.iaload, 1) := by decide +kernel
theorem dL_law_564 : decode bL_law 564 = .ok (.invokevirtual 79, 3) := by decide +kernel
theorem dL_law_567 : decode bL_law 567 = .ok (.aload_n 2, 1) := by decide +kernel
theorem dL_law_568 : decode bL_law 568 = .ok (.aload_n 0, 1) := by decide +kernel
theorem dL_law_569 : decode bL_law 569 = .ok (.iload_n 3, 1) := by decide +kernel
theorem dL_law_570 : decode bL_law 570 = .ok (.iconst 1, 1) := by decide +kernel
theorem dL_law_571 : decode bL_law 571 = .ok (.iadd, 1) := by decide +kernel
theorem dL_law_572 : decode bL_law 572 = .ok (.iaload, 1) := by decide +kernel
theorem dL_law_573 : decode bL_law 573 = .ok (.aload_n 0, 1) := by decide +kernel
theorem dL_law_574 : decode bL_law 574 = .ok (.iload_n 3, 1) := by decide +kernel
theorem dL_law_575 : decode bL_law 575 = .ok (.iconst 2, 1) := by decide +kernel
theorem dL_law_576 : decode bL_law 576 = .ok (.iadd, 1) := by decide +kernel
theorem dL_law_577 : decode bL_law 577 = .ok (.iaload, 1) := by decide +kernel
theorem dL_law_578 : decode bL_law 578 = .ok (.invokevirtual 82, 3) := by decide +kernel
theorem dL_law_581 : decode bL_law 581 = .ok (.if_icmp .eq 122, 3) := by decide +kernel
theorem dL_law_584 : decode bL_law 584 = .ok (.iconst 0, 1) := by decide +kernel
theorem dL_law_585 : decode bL_law 585 = .ok (.ireturn, 1) := by decide +kernel
theorem dL_law_586 : decode bL_law 586 = .ok (.aload_n 1, 1) := by decide +kernel
theorem dL_law_587 : decode bL_law 587 = .ok (.aload_n 0, 1) := by decide +kernel
theorem dL_law_588 : decode bL_law 588 = .ok (.iload_n 3, 1) := by decide +kernel
theorem dL_law_589 : decode bL_law 589 = .ok (.iconst 1, 1) := by decide +kernel
theorem dL_law_590 : decode bL_law 590 = .ok (.iadd, 1) := by decide +kernel
theorem dL_law_591 : decode bL_law 591 = .ok (.iaload, 1) := by decide +kernel
theorem dL_law_592 : decode bL_law 592 = .ok (.invokevirtual 83, 3) := by decide +kernel
theorem dL_law_595 : decode bL_law 595 = .ok (.aload_n 2, 1) := by decide +kernel
theorem dL_law_596 : decode bL_law 596 = .ok (.aload_n 0, 1) := by decide +kernel
theorem dL_law_597 : decode bL_law 597 = .ok (.iload_n 3, 1) := by decide +kernel
theorem dL_law_598 : decode bL_law 598 = .ok (.iconst 1, 1) := by decide +kernel
theorem dL_law_599 : decode bL_law 599 = .ok (.iadd, 1) := by decide +kernel
theorem dL_law_600 : decode bL_law 600 = .ok (.iaload, 1) := by decide +kernel
theorem dL_law_601 : decode bL_law 601 = .ok (.invokevirtual 86, 3) := by decide +kernel
theorem dL_law_604 : decode bL_law 604 = .ok (.if_icmp .eq 99, 3) := by decide +kernel
theorem dL_law_607 : decode bL_law 607 = .ok (.iconst 0, 1) := by decide +kernel
theorem dL_law_608 : decode bL_law 608 = .ok (.ireturn, 1) := by decide +kernel
theorem dL_law_609 : decode bL_law 609 = .ok (.aload_n 1, 1) := by decide +kernel
theorem dL_law_610 : decode bL_law 610 = .ok (.aload_n 0, 1) := by decide +kernel
theorem dL_law_611 : decode bL_law 611 = .ok (.iload_n 3, 1) := by decide +kernel
theorem dL_law_612 : decode bL_law 612 = .ok (.iconst 1, 1) := by decide +kernel
theorem dL_law_613 : decode bL_law 613 = .ok (.iadd, 1) := by decide +kernel
theorem dL_law_614 : decode bL_law 614 = .ok (.iaload, 1) := by decide +kernel
theorem dL_law_615 : decode bL_law 615 = .ok (.i2l, 1) := by decide +kernel
theorem dL_law_616 : decode bL_law 616 = .ok (.bipush 32, 2) := by decide +kernel
theorem dL_law_618 : decode bL_law 618 = .ok (.lshl, 1) := by decide +kernel
theorem dL_law_619 : decode bL_law 619 = .ok (.aload_n 0, 1) := by decide +kernel
theorem dL_law_620 : decode bL_law 620 = .ok (.iload_n 3, 1) := by decide +kernel
theorem dL_law_621 : decode bL_law 621 = .ok (.iconst 2, 1) := by decide +kernel
theorem dL_law_622 : decode bL_law 622 = .ok (.iadd, 1) := by decide +kernel
theorem dL_law_623 : decode bL_law 623 = .ok (.iaload, 1) := by decide +kernel
theorem dL_law_624 : decode bL_law 624 = .ok (.i2l, 1) := by decide +kernel
theorem dL_law_625 : decode bL_law 625 = .ok (.ldc2_w 21, 3) := by decide +kernel
theorem dL_law_628 : decode bL_law 628 = .ok (.land, 1) := by decide +kernel
theorem dL_law_629 : decode bL_law 629 = .ok (.lor, 1) := by decide +kernel
theorem dL_law_630 : decode bL_law 630 = .ok (.aload_n 0, 1) := by decide +kernel
theorem dL_law_631 : decode bL_law 631 = .ok (.iload_n 3, 1) := by decide +kernel
theorem dL_law_632 : decode bL_law 632 = .ok (.iconst 3, 1) := by decide +kernel
theorem dL_law_633 : decode bL_law 633 = .ok (.iadd, 1) := by decide +kernel
theorem dL_law_634 : decode bL_law 634 = .ok (.iaload, 1) := by decide +kernel
theorem dL_law_635 : decode bL_law 635 = .ok (.i2l, 1) := by decide +kernel
theorem dL_law_636 : decode bL_law 636 = .ok (.bipush 32, 2) := by decide +kernel
theorem dL_law_638 : decode bL_law 638 = .ok (.lshl, 1) := by decide +kernel
theorem dL_law_639 : decode bL_law 639 = .ok (.aload_n 0, 1) := by decide +kernel
theorem dL_law_640 : decode bL_law 640 = .ok (.iload_n 3, 1) := by decide +kernel
theorem dL_law_641 : decode bL_law 641 = .ok (.iconst 4, 1) := by decide +kernel
theorem dL_law_642 : decode bL_law 642 = .ok (.iadd, 1) := by decide +kernel
theorem dL_law_643 : decode bL_law 643 = .ok (.iaload, 1) := by decide +kernel
theorem dL_law_644 : decode bL_law 644 = .ok (.i2l, 1) := by decide +kernel
theorem dL_law_645 : decode bL_law 645 = .ok (.ldc2_w 21, 3) := by decide +kernel
theorem dL_law_648 : decode bL_law 648 = .ok (.land, 1) := by decide +kernel
theorem dL_law_649 : decode bL_law 649 = .ok (.lor, 1) := by decide +kernel
theorem dL_law_650 : decode bL_law 650 = .ok (.invokevirtual 87, 3) := by decide +kernel
theorem dL_law_653 : decode bL_law 653 = .ok (.aload_n 2, 1) := by decide +kernel
theorem dL_law_654 : decode bL_law 654 = .ok (.aload_n 0, 1) := by decide +kernel
theorem dL_law_655 : decode bL_law 655 = .ok (.iload_n 3, 1) := by decide +kernel
theorem dL_law_656 : decode bL_law 656 = .ok (.iconst 1, 1) := by decide +kernel
theorem dL_law_657 : decode bL_law 657 = .ok (.iadd, 1) := by decide +kernel
theorem dL_law_658 : decode bL_law 658 = .ok (.iaload, 1) := by decide +kernel
theorem dL_law_659 : decode bL_law 659 = .ok (.i2l, 1) := by decide +kernel
theorem dL_law_660 : decode bL_law 660 = .ok (.bipush 32, 2) := by decide +kernel
theorem dL_law_662 : decode bL_law 662 = .ok (.lshl, 1) := by decide +kernel
theorem dL_law_663 : decode bL_law 663 = .ok (.aload_n 0, 1) := by decide +kernel
theorem dL_law_664 : decode bL_law 664 = .ok (.iload_n 3, 1) := by decide +kernel
theorem dL_law_665 : decode bL_law 665 = .ok (.iconst 2, 1) := by decide +kernel
theorem dL_law_666 : decode bL_law 666 = .ok (.iadd, 1) := by decide +kernel
theorem dL_law_667 : decode bL_law 667 = .ok (.iaload, 1) := by decide +kernel
theorem dL_law_668 : decode bL_law 668 = .ok (.i2l, 1) := by decide +kernel
theorem dL_law_669 : decode bL_law 669 = .ok (.ldc2_w 21, 3) := by decide +kernel
theorem dL_law_672 : decode bL_law 672 = .ok (.land, 1) := by decide +kernel
theorem dL_law_673 : decode bL_law 673 = .ok (.lor, 1) := by decide +kernel
theorem dL_law_674 : decode bL_law 674 = .ok (.aload_n 0, 1) := by decide +kernel
theorem dL_law_675 : decode bL_law 675 = .ok (.iload_n 3, 1) := by decide +kernel
theorem dL_law_676 : decode bL_law 676 = .ok (.iconst 3, 1) := by decide +kernel
theorem dL_law_677 : decode bL_law 677 = .ok (.iadd, 1) := by decide +kernel
theorem dL_law_678 : decode bL_law 678 = .ok (.iaload, 1) := by decide +kernel
theorem dL_law_679 : decode bL_law 679 = .ok (.i2l, 1) := by decide +kernel
theorem dL_law_680 : decode bL_law 680 = .ok (.bipush 32, 2) := by decide +kernel
theorem dL_law_682 : decode bL_law 682 = .ok (.lshl, 1) := by decide +kernel
theorem dL_law_683 : decode bL_law 683 = .ok (.aload_n 0, 1) := by decide +kernel
theorem dL_law_684 : decode bL_law 684 = .ok (.iload_n 3, 1) := by decide +kernel
theorem dL_law_685 : decode bL_law 685 = .ok (.iconst 4, 1) := by decide +kernel
theorem dL_law_686 : decode bL_law 686 = .ok (.iadd, 1) := by decide +kernel
theorem dL_law_687 : decode bL_law 687 = .ok (.iaload, 1) := by decide +kernel
theorem dL_law_688 : decode bL_law 688 = .ok (.i2l, 1) := by decide +kernel
theorem dL_law_689 : decode bL_law 689 = .ok (.ldc2_w 21, 3) := by decide +kernel
theorem dL_law_692 : decode bL_law 692 = .ok (.land, 1) := by decide +kernel
theorem dL_law_693 : decode bL_law 693 = .ok (.lor, 1) := by decide +kernel
theorem dL_law_694 : decode bL_law 694 = .ok (.invokevirtual 91, 3) := by decide +kernel
theorem dL_law_697 : decode bL_law 697 = .ok (.lcmp, 1) := by decide +kernel
theorem dL_law_698 : decode bL_law 698 = .ok (.ifCond .eq 5, 3) := by decide +kernel
theorem dL_law_701 : decode bL_law 701 = .ok (.iconst 0, 1) := by decide +kernel
theorem dL_law_702 : decode bL_law 702 = .ok (.ireturn, 1) := by decide +kernel
theorem dL_law_703 : decode bL_law 703 = .ok (.iinc 3 5, 3) := by decide +kernel
theorem dL_law_706 : decode bL_law 706 = .ok (.goto (-658), 3) := by decide +kernel
theorem dL_law_709 : decode bL_law 709 = .ok (.iconst 1, 1) := by decide +kernel
theorem dL_law_710 : decode bL_law 710 = .ok (.ireturn, 1) := by decide +kernel
