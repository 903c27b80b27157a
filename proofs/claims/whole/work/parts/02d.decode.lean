theorem eL_law_0 : decode (zYb kL_law) 0 = .ok (.new 7, 3) := by decide +kernel
theorem eL_law_3 : decode (zYb kL_law) 3 = .ok (.dup, 1) := by decide +kernel
theorem eL_law_4 : decode (zYb kL_law) 4 = .ok (.invokespecial 9, 3) := by decide +kernel
theorem eL_law_7 : decode (zYb kL_law) 7 = .ok (.astore_n 1, 1) := by decide +kernel
theorem eL_law_8 : decode (zYb kL_law) 8 = .ok (.new 10, 3) := by decide +kernel
theorem eL_law_11 : decode (zYb kL_law) 11 = .ok (.dup, 1) := by decide +kernel
theorem eL_law_12 : decode (zYb kL_law) 12 = .ok (.invokespecial 12, 3) := by decide +kernel
theorem eL_law_15 : decode (zYb kL_law) 15 = .ok (.astore_n 2, 1) := by decide +kernel
theorem eL_law_16 : decode (zYb kL_law) 16 = .ok (.iconst 0, 1) := by decide +kernel
theorem eL_law_17 : decode (zYb kL_law) 17 = .ok (.istore_n 3, 1) := by decide +kernel
theorem eL_law_18 : decode (zYb kL_law) 18 = .ok (.iload_n 3, 1) := by decide +kernel
theorem eL_law_19 : decode (zYb kL_law) 19 = .ok (.aload_n 0, 1) := by decide +kernel
theorem eL_law_20 : decode (zYb kL_law) 20 = .ok (.arraylength, 1) := by decide +kernel
theorem eL_law_21 : decode (zYb kL_law) 21 = .ok (.iconst 4, 1) := by decide +kernel
theorem eL_law_22 : decode (zYb kL_law) 22 = .ok (.isub, 1) := by decide +kernel
theorem eL_law_23 : decode (zYb kL_law) 23 = .ok (.if_icmp .gt 822, 3) := by decide +kernel
theorem eL_law_26 : decode (zYb kL_law) 26 = .ok (.aload_n 0, 1) := by decide +kernel
theorem eL_law_27 : decode (zYb kL_law) 27 = .ok (.iload_n 3, 1) := by decide +kernel
theorem eL_law_28 : decode (zYb kL_law) 28 = .ok (.iaload, 1) := by decide +kernel
theorem eL_law_29 : decode (zYb kL_law) 29 = .ok (.bipush 31, 2) := by decide +kernel
theorem eL_law_31 : decode (zYb kL_law) 31 = .ok (.iand, 1) := by decide +kernel
theorem eL_law_32 : decode (zYb kL_law) 32 = .ok (.tableswitch 807 0 22 #[108, 121, 144, 187, 220, 253, 286, 319, 352, 385, 428, 471, 504, 537, 570, 593, 636, 669, 722, 735, 748, 761, 784], 108) := by decide +kernel
theorem eL_law_140 : decode (zYb kL_law) 140 = .ok (.aload_n 1, 1) := by decide +kernel
theorem eL_law_141 : decode (zYb kL_law) 141 = .ok (.invokevirtual 13, 3) := by decide +kernel
theorem eL_law_144 : decode (zYb kL_law) 144 = .ok (.aload_n 2, 1) := by decide +kernel
theorem eL_law_145 : decode (zYb kL_law) 145 = .ok (.invokevirtual 17, 3) := by decide +kernel
theorem eL_law_148 : decode (zYb kL_law) 148 = .ok (.if_icmp .eq 691, 3) := by decide +kernel
theorem eL_law_151 : decode (zYb kL_law) 151 = .ok (.iconst 0, 1) := by decide +kernel
theorem eL_law_152 : decode (zYb kL_law) 152 = .ok (.ireturn, 1) := by decide +kernel
theorem eL_law_153 : decode (zYb kL_law) 153 = .ok (.aload_n 1, 1) := by decide +kernel
theorem eL_law_154 : decode (zYb kL_law) 154 = .ok (.aload_n 0, 1) := by decide +kernel
theorem eL_law_155 : decode (zYb kL_law) 155 = .ok (.iload_n 3, 1) := by decide +kernel
theorem eL_law_156 : decode (zYb kL_law) 156 = .ok (.iconst 1, 1) := by decide +kernel
theorem eL_law_157 : decode (zYb kL_law) 157 = .ok (.iadd, 1) := by decide +kernel
theorem eL_law_158 : decode (zYb kL_law) 158 = .ok (.iaload, 1) := by decide +kernel
theorem eL_law_159 : decode (zYb kL_law) 159 = .ok (.invokevirtual 18, 3) := by decide +kernel
theorem eL_law_162 : decode (zYb kL_law) 162 = .ok (.aload_n 2, 1) := by decide +kernel
theorem eL_law_163 : decode (zYb kL_law) 163 = .ok (.aload_n 0, 1) := by decide +kernel
theorem eL_law_164 : decode (zYb kL_law) 164 = .ok (.iload_n 3, 1) := by decide +kernel
theorem eL_law_165 : decode (zYb kL_law) 165 = .ok (.iconst 1, 1) := by decide +kernel
theorem eL_law_166 : decode (zYb kL_law) 166 = .ok (.iadd, 1) := by decide +kernel
theorem eL_law_167 : decode (zYb kL_law) 167 = .ok (.iaload, 1) := by decide +kernel
theorem eL_law_168 : decode (zYb kL_law) 168 = .ok (.invokevirtual 22, 3) := by decide +kernel
theorem eL_law_171 : decode (zYb kL_law) 171 = .ok (.if_icmp .eq 668, 3) := by decide +kernel
theorem eL_law_174 : decode (zYb kL_law) 174 = .ok (.iconst 0, 1) := by decide +kernel
theorem eL_law_175 : decode (zYb kL_law) 175 = .ok (.ireturn, 1) := by decide +kernel
theorem eL_law_176 : decode (zYb kL_law) 176 = .ok (.aload_n 1, 1) := by decide +kernel
theorem eL_law_177 : decode (zYb kL_law) 177 = .ok (.aload_n 0, 1) := by decide +kernel
theorem eL_law_178 : decode (zYb kL_law) 178 = .ok (.iload_n 3, 1) := by decide +kernel
theorem eL_law_179 : decode (zYb kL_law) 179 = .ok (.iconst 1, 1) := by decide +kernel
theorem eL_law_180 : decode (zYb kL_law) 180 = .ok (.iadd, 1) := by decide +kernel
theorem eL_law_181 : decode (zYb kL_law) 181 = .ok (.iaload, 1) := by decide +kernel
theorem eL_law_182 : decode (zYb kL_law) 182 = .ok (.aload_n 0, 1) := by decide +kernel
theorem eL_law_183 : decode (zYb kL_law) 183 = .ok (.iload_n 3, 1) := by decide +kernel
theorem eL_law_184 : decode (zYb kL_law) 184 = .ok (.iconst 2, 1) := by decide +kernel
theorem eL_law_185 : decode (zYb kL_law) 185 = .ok (.iadd, 1) := by decide +kernel
theorem eL_law_186 : decode (zYb kL_law) 186 = .ok (.iaload, 1) := by decide +kernel
theorem eL_law_187 : decode (zYb kL_law) 187 = .ok (.aload_n 0, 1) := by decide +kernel
theorem eL_law_188 : decode (zYb kL_law) 188 = .ok (.iload_n 3, 1) := by decide +kernel
theorem eL_law_189 : decode (zYb kL_law) 189 = .ok (.iconst 3, 1) := by decide +kernel
theorem eL_law_190 : decode (zYb kL_law) 190 = .ok (.iadd, 1) := by decide +kernel
theorem eL_law_191 : decode (zYb kL_law) 191 = .ok (.iaload, 1) := by decide +kernel
theorem eL_law_192 : decode (zYb kL_law) 192 = .ok (.invokevirtual 23, 3) := by decide +kernel
theorem eL_law_195 : decode (zYb kL_law) 195 = .ok (.aload_n 2, 1) := by decide +kernel
theorem eL_law_196 : decode (zYb kL_law) 196 = .ok (.aload_n 0, 1) := by decide +kernel
theorem eL_law_197 : decode (zYb kL_law) 197 = .ok (.iload_n 3, 1) := by decide +kernel
theorem eL_law_198 : decode (zYb kL_law) 198 = .ok (.iconst 1, 1) := by decide +kernel
theorem eL_law_199 : decode (zYb kL_law) 199 = .ok (.iadd, 1) := by decide +kernel
theorem eL_law_200 : decode (zYb kL_law) 200 = .ok (.iaload, 1) := by decide +kernel
theorem eL_law_201 : decode (zYb kL_law) 201 = .ok (.aload_n 0, 1) := by decide +kernel
theorem eL_law_202 : decode (zYb kL_law) 202 = .ok (.iload_n 3, 1) := by decide +kernel
theorem eL_law_203 : decode (zYb kL_law) 203 = .ok (.iconst 2, 1) := by decide +kernel
theorem eL_law_204 : decode (zYb kL_law) 204 = .ok (.iadd, 1) := by decide +kernel
theorem eL_law_205 : decode (zYb kL_law) 205 = .ok (.iaload, 1) := by decide +kernel
theorem eL_law_206 : decode (zYb kL_law) 206 = .ok (.aload_n 0, 1) := by decide +kernel
theorem eL_law_207 : decode (zYb kL_law) 207 = .ok (.iload_n 3, 1) := by decide +kernel
theorem eL_law_208 : decode (zYb kL_law) 208 = .ok (.iconst 3, 1) := by decide +kernel
theorem eL_law_209 : decode (zYb kL_law) 209 = .ok (.iadd, 1) := by decide +kernel
theorem eL_law_210 : decode (zYb kL_law) 210 = .ok (.iaload, 1) := by decide +kernel
theorem eL_law_211 : decode (zYb kL_law) 211 = .ok (.invokevirtual 27, 3) := by decide +kernel
theorem eL_law_214 : decode (zYb kL_law) 214 = .ok (.if_icmp .eq 625, 3) := by decide +kernel
theorem eL_law_217 : decode (zYb kL_law) 217 = .ok (.iconst 0, 1) := by decide +kernel
theorem eL_law_218 : decode (zYb kL_law) 218 = .ok (.ireturn, 1) := by decide +kernel
theorem eL_law_219 : decode (zYb kL_law) 219 = .ok (.aload_n 1, 1) := by decide +kernel
theorem eL_law_220 : decode (zYb kL_law) 220 = .ok (.aload_n 0, 1) := by decide +kernel
theorem eL_law_221 : decode (zYb kL_law) 221 = .ok (.iload_n 3, 1) := by decide +kernel
theorem eL_law_222 : decode (zYb kL_law) 222 = .ok (.iconst 1, 1) := by decide +kernel
theorem eL_law_223 : decode (zYb kL_law) 223 = .ok (.iadd, 1) := by decide +kernel
theorem eL_law_224 : decode (zYb kL_law) 224 = .ok (.iaload, 1) := by decide +kernel
theorem eL_law_225 : decode (zYb kL_law) 225 = .ok (.aload_n 0, 1) := by decide +kernel
theorem eL_law_226 : decode (zYb kL_law) 226 = .ok (.iload_n 3, 1) := by decide +kernel
theorem eL_law_227 : decode (zYb kL_law) 227 = .ok (.iconst 2, 1) := by decide +kernel
theorem eL_law_228 : decode (zYb kL_law) 228 = .ok (.iadd, 1) := by decide +kernel
theorem eL_law_229 : decode (zYb kL_law) 229 = .ok (.iaload, 1) := by decide +kernel
theorem eL_law_230 : decode (zYb kL_law) 230 = .ok (.invokevirtual 28, 3) := by decide +kernel
theorem eL_law_233 : decode (zYb kL_law) 233 = .ok (.aload_n 2, 1) := by decide +kernel
theorem eL_law_234 : decode (zYb kL_law) 234 = .ok (.aload_n 0, 1) := by decide +kernel
theorem eL_law_235 : decode (zYb kL_law) 235 = .ok (.iload_n 3, 1) := by decide +kernel
theorem eL_law_236 : decode (zYb kL_law) 236 = .ok (.iconst 1, 1) := by decide +kernel
theorem eL_law_237 : decode (zYb kL_law) 237 = .ok (.iadd, 1) := by decide +kernel
theorem eL_law_238 : decode (zYb kL_law) 238 = .ok (.iaload, 1) := by decide +kernel
theorem eL_law_239 : decode (zYb kL_law) 239 = .ok (.aload_n 0, 1) := by decide +kernel
theorem eL_law_240 : decode (zYb kL_law) 240 = .ok (.iload_n 3, 1) := by decide +kernel
theorem eL_law_241 : decode (zYb kL_law) 241 = .ok (.iconst 2, 1) := by decide +kernel
theorem eL_law_242 : decode (zYb kL_law) 242 = .ok (.iadd, 1) := by decide +kernel
theorem eL_law_243 : decode (zYb kL_law) 243 = .ok (.iaload, 1) := by decide +kernel
theorem eL_law_244 : decode (zYb kL_law) 244 = .ok (.invokevirtual 32, 3) := by decide +kernel
theorem eL_law_247 : decode (zYb kL_law) 247 = .ok (.if_icmp .eq 592, 3) := by decide +kernel
theorem eL_law_250 : decode (zYb kL_law) 250 = .ok (.iconst 0, 1) := by decide +kernel
theorem eL_law_251 : decode (zYb kL_law) 251 = .ok (.ireturn, 1) := by decide +kernel
theorem eL_law_252 : decode (zYb kL_law) 252 = .ok (.aload_n 1, 1) := by decide +kernel
theorem eL_law_253 : decode (zYb kL_law) 253 = .ok (.aload_n 0, 1) := by decide +kernel
theorem eL_law_254 : decode (zYb kL_law) 254 = .ok (.iload_n 3, 1) := by decide +kernel
theorem eL_law_255 : decode (zYb kL_law) 255 = .ok (.iconst 1, 1) := by decide +kernel
theorem eL_law_256 : decode (zYb kL_law) 256 = .ok (.iadd, 1) := by decide +kernel
theorem eL_law_257 : decode (zYb kL_law) 257 = .ok (.iaload, 1) := by decide +kernel
theorem eL_law_258 : decode (zYb kL_law) 258 = .ok (.aload_n 0, 1) := by decide +kernel
theorem eL_law_259 : decode (zYb kL_law) 259 = .ok (.iload_n 3, 1) := by decide +kernel
theorem eL_law_260 : decode (zYb kL_law) 260 = .ok (.iconst 2, 1) := by decide +kernel
theorem eL_law_261 : decode (zYb kL_law) 261 = .ok (.iadd, 1) := by decide +kernel
theorem eL_law_262 : decode (zYb kL_law) 262 = .ok (.iaload, 1) := by decide +kernel
theorem eL_law_263 : decode (zYb kL_law) 263 = .ok (.invokevirtual 33, 3) := by decide +kernel
theorem eL_law_266 : decode (zYb kL_law) 266 = .ok (.aload_n 2, 1) := by decide +kernel
theorem eL_law_267 : decode (zYb kL_law) 267 = .ok (.aload_n 0, 1) := by decide +kernel
theorem eL_law_268 : decode (zYb kL_law) 268 = .ok (.iload_n 3, 1) := by decide +kernel
theorem eL_law_269 : decode (zYb kL_law) 269 = .ok (.iconst 1, 1) := by decide +kernel
theorem eL_law_270 : decode (zYb kL_law) 270 = .ok (.iadd, 1) := by decide +kernel
theorem eL_law_271 : decode (zYb kL_law) 271 = .ok (.iaload, 1) := by decide +kernel
theorem eL_law_272 : decode (zYb kL_law) 272 = .ok (.aload_n 0, 1) := by decide +kernel
theorem eL_law_273 : decode (zYb kL_law) 273 = .ok (.iload_n 3, 1) := by decide +kernel
theorem eL_law_274 : decode (zYb kL_law) 274 = .ok (.iconst 2, 1) := by decide +kernel
theorem eL_law_275 : decode (zYb kL_law) 275 = .ok (.iadd, 1) := by decide +kernel
theorem eL_law_276 : decode (zYb kL_law) 276 = .ok (.iaload, 1) := by decide +kernel
theorem eL_law_277 : decode (zYb kL_law) 277 = .ok (.invokevirtual 36, 3) := by decide +kernel
theorem eL_law_280 : decode (zYb kL_law) 280 = .ok (.if_icmp .eq 559, 3) := by decide +kernel
theorem eL_law_283 : decode (zYb kL_law) 283 = .ok (.iconst 0, 1) := by decide +kernel
theorem eL_law_284 : decode (zYb kL_law) 284 = .ok (.ireturn, 1) := by decide +kernel
theorem eL_law_285 : decode (zYb kL_law) 285 = .ok (.aload_n 1, 1) := by decide +kernel
theorem eL_law_286 : decode (zYb kL_law) 286 = .ok (.aload_n 0, 1) := by decide +kernel
theorem eL_law_287 : decode (zYb kL_law) 287 = .ok (.iload_n 3, 1) := by decide +kernel
theorem eL_law_288 : decode (zYb kL_law) 288 = .ok (.iconst 1, 1) := by decide +kernel
theorem eL_law_289 : decode (zYb kL_law) 289 = .ok (.iadd, 1) := by decide +kernel
theorem eL_law_290 : decode (zYb kL_law) 290 = .ok (.iaload, 1) := by decide +kernel
theorem eL_law_291 : decode (zYb kL_law) 291 = .ok (.aload_n 0, 1) := by decide +kernel
theorem eL_law_292 : decode (zYb kL_law) 292 = .ok (.iload_n 3, 1) := by decide +kernel
theorem eL_law_293 : decode (zYb kL_law) 293 = .ok (.iconst 2, 1) := by decide +kernel
theorem eL_law_294 : decode (zYb kL_law) 294 = .ok (.iadd, 1) := by decide +kernel
theorem eL_law_295 : decode (zYb kL_law) 295 = .ok (.iaload, 1) := by decide +kernel
theorem eL_law_296 : decode (zYb kL_law) 296 = .ok (.invokevirtual 37, 3) := by decide +kernel
theorem eL_law_299 : decode (zYb kL_law) 299 = .ok (.aload_n 2, 1) := by decide +kernel
theorem eL_law_300 : decode (zYb kL_law) 300 = .ok (.aload_n 0, 1) := by decide +kernel
theorem eL_law_301 : decode (zYb kL_law) 301 = .ok (.iload_n 3, 1) := by decide +kernel
theorem eL_law_302 : decode (zYb kL_law) 302 = .ok (.iconst 1, 1) := by decide +kernel
theorem eL_law_303 : decode (zYb kL_law) 303 = .ok (.iadd, 1) := by decide +kernel
theorem eL_law_304 : decode (zYb kL_law) 304 = .ok (.iaload, 1) := by decide +kernel
theorem eL_law_305 : decode (zYb kL_law) 305 = .ok (.aload_n 0, 1) := by decide +kernel
theorem eL_law_306 : decode (zYb kL_law) 306 = .ok (.iload_n 3, 1) := by decide +kernel
theorem eL_law_307 : decode (zYb kL_law) 307 = .ok (.iconst 2, 1) := by decide +kernel
theorem eL_law_308 : decode (zYb kL_law) 308 = .ok (.iadd, 1) := by decide +kernel
theorem eL_law_309 : decode (zYb kL_law) 309 = .ok (.iaload, 1) := by decide +kernel
theorem eL_law_310 : decode (zYb kL_law) 310 = .ok (.invokevirtual 40, 3) := by decide +kernel
theorem eL_law_313 : decode (zYb kL_law) 313 = .ok (.if_icmp .eq 526, 3) := by decide +kernel
theorem eL_law_316 : decode (zYb kL_law) 316 = .ok (.iconst 0, 1) := by decide +kernel
theorem eL_law_317 : decode (zYb kL_law) 317 = .ok (.ireturn, 1) := by decide +kernel
theorem eL_law_318 : decode (zYb kL_law) 318 = .ok (.aload_n 1, 1) := by decide +kernel
theorem eL_law_319 : decode (zYb kL_law) 319 = .ok (.aload_n 0, 1) := by decide +kernel
theorem eL_law_320 : decode (zYb kL_law) 320 = .ok (.iload_n 3, 1) := by decide +kernel
theorem eL_law_321 : decode (zYb kL_law) 321 = .ok (.iconst 1, 1) := by decide +kernel
theorem eL_law_322 : decode (zYb kL_law) 322 = .ok (.iadd, 1) := by decide +kernel
theorem eL_law_323 : decode (zYb kL_law) 323 = .ok (.iaload, 1) := by decide +kernel
theorem eL_law_324 : decode (zYb kL_law) 324 = .ok (.aload_n 0, 1) := by decide +kernel
theorem eL_law_325 : decode (zYb kL_law) 325 = .ok (.iload_n 3, 1) := by decide +kernel
theorem eL_law_326 : decode (zYb kL_law) 326 = .ok (.iconst 2, 1) := by decide +kernel
theorem eL_law_327 : decode (zYb kL_law) 327 = .ok (.iadd, 1) := by decide +kernel
theorem eL_law_328 : decode (zYb kL_law) 328 = .ok (.iaload, 1) := by decide +kernel
theorem eL_law_329 : decode (zYb kL_law) 329 = .ok (.invokevirtual 41, 3) := by decide +kernel
theorem eL_law_332 : decode (zYb kL_law) 332 = .ok (.aload_n 2, 1) := by decide +kernel
theorem eL_law_333 : decode (zYb kL_law) 333 = .ok (.aload_n 0, 1) := by decide +kernel
theorem eL_law_334 : decode (zYb kL_law) 334 = .ok (.iload_n 3, 1) := by decide +kernel
theorem eL_law_335 : decode (zYb kL_law) 335 = .ok (.iconst 1, 1) := by decide +kernel
theorem eL_law_336 : decode (zYb kL_law) 336 = .ok (.iadd, 1) := by decide +kernel
theorem eL_law_337 : decode (zYb kL_law) 337 = .ok (.iaload, 1) := by decide +kernel
theorem eL_law_338 : decode (zYb kL_law) 338 = .ok (.aload_n 0, 1) := by decide +kernel
theorem eL_law_339 : decode (zYb kL_law) 339 = .ok (.iload_n 3, 1) := by decide +kernel
theorem eL_law_340 : decode (zYb kL_law) 340 = .ok (.iconst 2, 1) := by decide +kernel
theorem eL_law_341 : decode (zYb kL_law) 341 = .ok (.iadd, 1) := by decide +kernel
theorem eL_law_342 : decode (zYb kL_law) 342 = .ok (.iaload, 1) := by decide +kernel
theorem eL_law_343 : decode (zYb kL_law) 343 = .ok (.invokevirtual 44, 3) := by decide +kernel
theorem eL_law_346 : decode (zYb kL_law) 346 = .ok (.if_icmp .eq 493, 3) := by decide +kernel
theorem eL_law_349 : decode (zYb kL_law) 349 = .ok (.iconst 0, 1) := by decide +kernel
theorem eL_law_350 : decode (zYb kL_law) 350 = .ok (.ireturn, 1) := by decide +kernel
theorem eL_law_351 : decode (zYb kL_law) 351 = .ok (.aload_n 1, 1) := by decide +kernel
theorem eL_law_352 : decode (zYb kL_law) 352 = .ok (.aload_n 0, 1) := by decide +kernel
theorem eL_law_353 : decode (zYb kL_law) 353 = .ok (.iload_n 3, 1) := by decide +kernel
theorem eL_law_354 : decode (zYb kL_law) 354 = .ok (.iconst 1, 1) := by decide +kernel
theorem eL_law_355 : decode (zYb kL_law) 355 = .ok (.iadd, 1) := by decide +kernel
theorem eL_law_356 : decode (zYb kL_law) 356 = .ok (.iaload, 1) := by decide +kernel
theorem eL_law_357 : decode (zYb kL_law) 357 = .ok (.aload_n 0, 1) := by decide +kernel
theorem eL_law_358 : decode (zYb kL_law) 358 = .ok (.iload_n 3, 1) := by decide +kernel
theorem eL_law_359 : decode (zYb kL_law) 359 = .ok (.iconst 2, 1) := by decide +kernel
theorem eL_law_360 : decode (zYb kL_law) 360 = .ok (.iadd, 1) := by decide +kernel
theorem eL_law_361 : decode (zYb kL_law) 361 = .ok (.iaload, 1) := by decide +kernel
theorem eL_law_362 : decode (zYb kL_law) 362 = .ok (.invokevirtual 45, 3) := by decide +kernel
theorem eL_law_365 : decode (zYb kL_law) 365 = .ok (.aload_n 2, 1) := by decide +kernel
theorem eL_law_366 : decode (zYb kL_law) 366 = .ok (.aload_n 0, 1) := by decide +kernel
theorem eL_law_367 : decode (zYb kL_law) 367 = .ok (.iload_n 3, 1) := by decide +kernel
theorem eL_law_368 : decode (zYb kL_law) 368 = .ok (.iconst 1, 1) := by decide +kernel
theorem eL_law_369 : decode (zYb kL_law) 369 = .ok (.iadd, 1) := by decide +kernel
theorem eL_law_370 : decode (zYb kL_law) 370 = .ok (.iaload, 1) := by decide +kernel
theorem eL_law_371 : decode (zYb kL_law) 371 = .ok (.aload_n 0, 1) := by decide +kernel
theorem eL_law_372 : decode (zYb kL_law) 372 = .ok (.iload_n 3, 1) := by decide +kernel
theorem eL_law_373 : decode (zYb kL_law) 373 = .ok (.iconst 2, 1) := by decide +kernel
theorem eL_law_374 : decode (zYb kL_law) 374 = .ok (.iadd, 1) := by decide +kernel
theorem eL_law_375 : decode (zYb kL_law) 375 = .ok (.iaload, 1) := by decide +kernel
theorem eL_law_376 : decode (zYb kL_law) 376 = .ok (.invokevirtual 48, 3) := by decide +kernel
theorem eL_law_379 : decode (zYb kL_law) 379 = .ok (.if_icmp .eq 460, 3) := by decide +kernel
theorem eL_law_382 : decode (zYb kL_law) 382 = .ok (.iconst 0, 1) := by decide +kernel
theorem eL_law_383 : decode (zYb kL_law) 383 = .ok (.ireturn, 1) := by decide +kernel
theorem eL_law_384 : decode (zYb kL_law) 384 = .ok (.aload_n 1, 1) := by decide +kernel
theorem eL_law_385 : decode (zYb kL_law) 385 = .ok (.aload_n 0, 1) := by decide +kernel
theorem eL_law_386 : decode (zYb kL_law) 386 = .ok (.iload_n 3, 1) := by decide +kernel
theorem eL_law_387 : decode (zYb kL_law) 387 = .ok (.iconst 1, 1) := by decide +kernel
theorem eL_law_388 : decode (zYb kL_law) 388 = .ok (.iadd, 1) := by decide +kernel
theorem eL_law_389 : decode (zYb kL_law) 389 = .ok (.iaload, 1) := by decide +kernel
theorem eL_law_390 : decode (zYb kL_law) 390 = .ok (.aload_n 0, 1) := by decide +kernel
theorem eL_law_391 : decode (zYb kL_law) 391 = .ok (.iload_n 3, 1) := by decide +kernel
theorem eL_law_392 : decode (zYb kL_law) 392 = .ok (.iconst 2, 1) := by decide +kernel
theorem eL_law_393 : decode (zYb kL_law) 393 = .ok (.iadd, 1) := by decide +kernel
theorem eL_law_394 : decode (zYb kL_law) 394 = .ok (.iaload, 1) := by decide +kernel
theorem eL_law_395 : decode (zYb kL_law) 395 = .ok (.invokevirtual 49, 3) := by decide +kernel
theorem eL_law_398 : decode (zYb kL_law) 398 = .ok (.aload_n 2, 1) := by decide +kernel
theorem eL_law_399 : decode (zYb kL_law) 399 = .ok (.aload_n 0, 1) := by decide +kernel
theorem eL_law_400 : decode (zYb kL_law) 400 = .ok (.iload_n 3, 1) := by decide +kernel
theorem eL_law_401 : decode (zYb kL_law) 401 = .ok (.iconst 1, 1) := by decide +kernel
theorem eL_law_402 : decode (zYb kL_law) 402 = .ok (.iadd, 1) := by decide +kernel
theorem eL_law_403 : decode (zYb kL_law) 403 = .ok (.iaload, 1) := by decide +kernel
theorem eL_law_404 : decode (zYb kL_law) 404 = .ok (.aload_n 0, 1) := by decide +kernel
theorem eL_law_405 : decode (zYb kL_law) 405 = .ok (.iload_n 3, 1) := by decide +kernel
theorem eL_law_406 : decode (zYb kL_law) 406 = .ok (.iconst 2, 1) := by decide +kernel
theorem eL_law_407 : decode (zYb kL_law) 407 = .ok (.iadd, 1) := by decide +kernel
theorem eL_law_408 : decode (zYb kL_law) 408 = .ok (.iaload, 1) := by decide +kernel
theorem eL_law_409 : decode (zYb kL_law) 409 = .ok (.invokevirtual 52, 3) := by decide +kernel
theorem eL_law_412 : decode (zYb kL_law) 412 = .ok (.if_icmp .eq 427, 3) := by decide +kernel
theorem eL_law_415 : decode (zYb kL_law) 415 = .ok (.iconst 0, 1) := by decide +kernel
theorem eL_law_416 : decode (zYb kL_law) 416 = .ok (.ireturn, 1) := by decide +kernel
theorem eL_law_417 : decode (zYb kL_law) 417 = .ok (.aload_n 1, 1) := by decide +kernel
theorem eL_law_418 : decode (zYb kL_law) 418 = .ok (.aload_n 0, 1) := by decide +kernel
theorem eL_law_419 : decode (zYb kL_law) 419 = .ok (.iload_n 3, 1) := by decide +kernel
theorem eL_law_420 : decode (zYb kL_law) 420 = .ok (.iconst 1, 1) := by decide +kernel
theorem eL_law_421 : decode (zYb kL_law) 421 = .ok (.iadd, 1) := by decide +kernel
theorem eL_law_422 : decode (zYb kL_law) 422 = .ok (.iaload, 1) := by decide +kernel
theorem eL_law_423 : decode (zYb kL_law) 423 = .ok (.aload_n 0, 1) := by decide +kernel
theorem eL_law_424 : decode (zYb kL_law) 424 = .ok (.iload_n 3, 1) := by decide +kernel
theorem eL_law_425 : decode (zYb kL_law) 425 = .ok (.iconst 2, 1) := by decide +kernel
theorem eL_law_426 : decode (zYb kL_law) 426 = .ok (.iadd, 1) := by decide +kernel
theorem eL_law_427 : decode (zYb kL_law) 427 = .ok (.iaload, 1) := by decide +kernel
theorem eL_law_428 : decode (zYb kL_law) 428 = .ok (.aload_n 0, 1) := by decide +kernel
theorem eL_law_429 : decode (zYb kL_law) 429 = .ok (.iload_n 3, 1) := by decide +kernel
theorem eL_law_430 : decode (zYb kL_law) 430 = .ok (.iconst 3, 1) := by decide +kernel
theorem eL_law_431 : decode (zYb kL_law) 431 = .ok (.iadd, 1) := by decide +kernel
theorem eL_law_432 : decode (zYb kL_law) 432 = .ok (.iaload, 1) := by decide +kernel
theorem eL_law_433 : decode (zYb kL_law) 433 = .ok (.invokevirtual 53, 3) := by decide +kernel
theorem eL_law_436 : decode (zYb kL_law) 436 = .ok (.aload_n 2, 1) := by decide +kernel
theorem eL_law_437 : decode (zYb kL_law) 437 = .ok (.aload_n 0, 1) := by decide +kernel
theorem eL_law_438 : decode (zYb kL_law) 438 = .ok (.iload_n 3, 1) := by decide +kernel
theorem eL_law_439 : decode (zYb kL_law) 439 = .ok (.iconst 1, 1) := by decide +kernel
theorem eL_law_440 : decode (zYb kL_law) 440 = .ok (.iadd, 1) := by decide +kernel
theorem eL_law_441 : decode (zYb kL_law) 441 = .ok (.iaload, 1) := by decide +kernel
theorem eL_law_442 : decode (zYb kL_law) 442 = .ok (.aload_n 0, 1) := by decide +kernel
theorem eL_law_443 : decode (zYb kL_law) 443 = .ok (.iload_n 3, 1) := by decide +kernel
theorem eL_law_444 : decode (zYb kL_law) 444 = .ok (.iconst 2, 1) := by decide +kernel
theorem eL_law_445 : decode (zYb kL_law) 445 = .ok (.iadd, 1) := by decide +kernel
theorem eL_law_446 : decode (zYb kL_law) 446 = .ok (.iaload, 1) := by decide +kernel
theorem eL_law_447 : decode (zYb kL_law) 447 = .ok (.aload_n 0, 1) := by decide +kernel
theorem eL_law_448 : decode (zYb kL_law) 448 = .ok (.iload_n 3, 1) := by decide +kernel
theorem eL_law_449 : decode (zYb kL_law) 449 = .ok (.iconst 3, 1) := by decide +kernel
theorem eL_law_450 : decode (zYb kL_law) 450 = .ok (.iadd, 1) := by decide +kernel
theorem eL_law_451 : decode (zYb kL_law) 451 = .ok (.iaload, 1) := by decide +kernel
theorem eL_law_452 : decode (zYb kL_law) 452 = .ok (.invokevirtual 56, 3) := by decide +kernel
theorem eL_law_455 : decode (zYb kL_law) 455 = .ok (.if_icmp .eq 384, 3) := by decide +kernel
theorem eL_law_458 : decode (zYb kL_law) 458 = .ok (.iconst 0, 1) := by decide +kernel
theorem eL_law_459 : decode (zYb kL_law) 459 = .ok (.ireturn, 1) := by decide +kernel
theorem eL_law_460 : decode (zYb kL_law) 460 = .ok (.aload_n 1, 1) := by decide +kernel
theorem eL_law_461 : decode (zYb kL_law) 461 = .ok (.aload_n 0, 1) := by decide +kernel
theorem eL_law_462 : decode (zYb kL_law) 462 = .ok (.iload_n 3, 1) := by decide +kernel
theorem eL_law_463 : decode (zYb kL_law) 463 = .ok (.iconst 1, 1) := by decide +kernel
theorem eL_law_464 : decode (zYb kL_law) 464 = .ok (.iadd, 1) := by decide +kernel
theorem eL_law_465 : decode (zYb kL_law) 465 = .ok (.iaload, 1) := by decide +kernel
theorem eL_law_466 : decode (zYb kL_law) 466 = .ok (.aload_n 0, 1) := by decide +kernel
theorem eL_law_467 : decode (zYb kL_law) 467 = .ok (.iload_n 3, 1) := by decide +kernel
theorem eL_law_468 : decode (zYb kL_law) 468 = .ok (.iconst 2, 1) := by decide +kernel
theorem eL_law_469 : decode (zYb kL_law) 469 = .ok (.iadd, 1) := by decide +kernel
theorem eL_law_470 : decode (zYb kL_law) 470 = .ok (.iaload, 1) := by decide +kernel
theorem eL_law_471 : decode (zYb kL_law) 471 = .ok (.aload_n 0, 1) := by decide +kernel
theorem eL_law_472 : decode (zYb kL_law) 472 = .ok (.iload_n 3, 1) := by decide +kernel
theorem eL_law_473 : decode (zYb kL_law) 473 = .ok (.iconst 3, 1) := by decide +kernel
theorem eL_law_474 : decode (zYb kL_law) 474 = .ok (.iadd, 1) := by decide +kernel
theorem eL_law_475 : decode (zYb kL_law) 475 = .ok (.iaload, 1) := by decide +kernel
theorem eL_law_476 : decode (zYb kL_law) 476 = .ok (.invokevirtual 57, 3) := by decide +kernel
theorem eL_law_479 : decode (zYb kL_law) 479 = .ok (.aload_n 2, 1) := by decide +kernel
theorem eL_law_480 : decode (zYb kL_law) 480 = .ok (.aload_n 0, 1) := by decide +kernel
theorem eL_law_481 : decode (zYb kL_law) 481 = .ok (.iload_n 3, 1) := by decide +kernel
theorem eL_law_482 : decode (zYb kL_law) 482 = .ok (.iconst 1, 1) := by decide +kernel
theorem eL_law_483 : decode (zYb kL_law) 483 = .ok (.iadd, 1) := by decide +kernel
theorem eL_law_484 : decode (zYb kL_law) 484 = .ok (.iaload, 1) := by decide +kernel
theorem eL_law_485 : decode (zYb kL_law) 485 = .ok (.aload_n 0, 1) := by decide +kernel
theorem eL_law_486 : decode (zYb kL_law) 486 = .ok (.iload_n 3, 1) := by decide +kernel
theorem eL_law_487 : decode (zYb kL_law) 487 = .ok (.iconst 2, 1) := by decide +kernel
theorem eL_law_488 : decode (zYb kL_law) 488 = .ok (.iadd, 1) := by decide +kernel
theorem eL_law_489 : decode (zYb kL_law) 489 = .ok (.iaload, 1) := by decide +kernel
theorem eL_law_490 : decode (zYb kL_law) 490 = .ok (.aload_n 0, 1) := by decide +kernel
theorem eL_law_491 : decode (zYb kL_law) 491 = .ok (.iload_n 3, 1) := by decide +kernel
theorem eL_law_492 : decode (zYb kL_law) 492 = .ok (.iconst 3, 1) := by decide +kernel
theorem eL_law_493 : decode (zYb kL_law) 493 = .ok (.iadd, 1) := by decide +kernel
theorem eL_law_494 : decode (zYb kL_law) 494 = .ok (.iaload, 1) := by decide +kernel
theorem eL_law_495 : decode (zYb kL_law) 495 = .ok (.invokevirtual 60, 3) := by decide +kernel
theorem eL_law_498 : decode (zYb kL_law) 498 = .ok (.if_icmp .eq 341, 3) := by decide +kernel
theorem eL_law_501 : decode (zYb kL_law) 501 = .ok (.iconst 0, 1) := by decide +kernel
theorem eL_law_502 : decode (zYb kL_law) 502 = .ok (.ireturn, 1) := by decide +kernel
theorem eL_law_503 : decode (zYb kL_law) 503 = .ok (.aload_n 1, 1) := by decide +kernel
theorem eL_law_504 : decode (zYb kL_law) 504 = .ok (.aload_n 0, 1) := by decide +kernel
theorem eL_law_505 : decode (zYb kL_law) 505 = .ok (.iload_n 3, 1) := by decide +kernel
theorem eL_law_506 : decode (zYb kL_law) 506 = .ok (.iconst 1, 1) := by decide +kernel
theorem eL_law_507 : decode (zYb kL_law) 507 = .ok (.iadd, 1) := by decide +kernel
theorem eL_law_508 : decode (zYb kL_law) 508 = .ok (.iaload, 1) := by decide +kernel
theorem eL_law_509 : decode (zYb kL_law) 509 = .ok (.aload_n 0, 1) := by decide +kernel
theorem eL_law_510 : decode (zYb kL_law) 510 = .ok (.iload_n 3, 1) := by decide +kernel
theorem eL_law_511 : decode (zYb kL_law) 511 = .ok (.iconst 2, 1) := by decide +kernel
theorem eL_law_512 : decode (zYb kL_law) 512 = .ok (.iadd, 1) := by decide +kernel
theorem eL_law_513 : decode (zYb kL_law) 513 = .ok (.iaload, 1) := by decide +kernel
theorem eL_law_514 : decode (zYb kL_law) 514 = .ok (.invokevirtual 61, 3) := by decide +kernel
theorem eL_law_517 : decode (zYb kL_law) 517 = .ok (.aload_n 2, 1) := by decide +kernel
theorem eL_law_518 : decode (zYb kL_law) 518 = .ok (.aload_n 0, 1) := by decide +kernel
theorem eL_law_519 : decode (zYb kL_law) 519 = .ok (.iload_n 3, 1) := by decide +kernel
theorem eL_law_520 : decode (zYb kL_law) 520 = .ok (.iconst 1, 1) := by decide +kernel
theorem eL_law_521 : decode (zYb kL_law) 521 = .ok (.iadd, 1) := by decide +kernel
theorem eL_law_522 : decode (zYb kL_law) 522 = .ok (.iaload, 1) := by decide +kernel
theorem eL_law_523 : decode (zYb kL_law) 523 = .ok (.aload_n 0, 1) := by decide +kernel
theorem eL_law_524 : decode (zYb kL_law) 524 = .ok (.iload_n 3, 1) := by decide +kernel
theorem eL_law_525 : decode (zYb kL_law) 525 = .ok (.iconst 2, 1) := by decide +kernel
theorem eL_law_526 : decode (zYb kL_law) 526 = .ok (.iadd, 1) := by decide +kernel
theorem eL_law_527 : decode (zYb kL_law) 527 = .ok (.iaload, 1) := by decide +kernel
theorem eL_law_528 : decode (zYb kL_law) 528 = .ok (.invokevirtual 64, 3) := by decide +kernel
theorem eL_law_531 : decode (zYb kL_law) 531 = .ok (.if_icmp .eq 308, 3) := by decide +kernel
theorem eL_law_534 : decode (zYb kL_law) 534 = .ok (.iconst 0, 1) := by decide +kernel
theorem eL_law_535 : decode (zYb kL_law) 535 = .ok (.ireturn, 1) := by decide +kernel
theorem eL_law_536 : decode (zYb kL_law) 536 = .ok (.aload_n 1, 1) := by decide +kernel
theorem eL_law_537 : decode (zYb kL_law) 537 = .ok (.aload_n 0, 1) := by decide +kernel
theorem eL_law_538 : decode (zYb kL_law) 538 = .ok (.iload_n 3, 1) := by decide +kernel
theorem eL_law_539 : decode (zYb kL_law) 539 = .ok (.iconst 1, 1) := by decide +kernel
theorem eL_law_540 : decode (zYb kL_law) 540 = .ok (.iadd, 1) := by decide +kernel
theorem eL_law_541 : decode (zYb kL_law) 541 = .ok (.iaload, 1) := by decide +kernel
theorem eL_law_542 : decode (zYb kL_law) 542 = .ok (.aload_n 0, 1) := by decide +kernel
theorem eL_law_543 : decode (zYb kL_law) 543 = .ok (.iload_n 3, 1) := by decide +kernel
theorem eL_law_544 : decode (zYb kL_law) 544 = .ok (.iconst 2, 1) := by decide +kernel
theorem eL_law_545 : decode (zYb kL_law) 545 = .ok (.iadd, 1) := by decide +kernel
theorem eL_law_546 : decode (zYb kL_law) 546 = .ok (.iaload, 1) := by decide +kernel
theorem eL_law_547 : decode (zYb kL_law) 547 = .ok (.invokevirtual 65, 3) := by decide +kernel
theorem eL_law_550 : decode (zYb kL_law) 550 = .ok (.aload_n 2, 1) := by decide +kernel
theorem eL_law_551 : decode (zYb kL_law) 551 = .ok (.aload_n 0, 1) := by decide +kernel
theorem eL_law_552 : decode (zYb kL_law) 552 = .ok (.iload_n 3, 1) := by decide +kernel
theorem eL_law_553 : decode (zYb kL_law) 553 = .ok (.iconst 1, 1) := by decide +kernel
theorem eL_law_554 : decode (zYb kL_law) 554 = .ok (.iadd, 1) := by decide +kernel
theorem eL_law_555 : decode (zYb kL_law) 555 = .ok (.iaload, 1) := by decide +kernel
theorem eL_law_556 : decode (zYb kL_law) 556 = .ok (.aload_n 0, 1) := by decide +kernel
theorem eL_law_557 : decode (zYb kL_law) 557 = .ok (.iload_n 3, 1) := by decide +kernel
theorem eL_law_558 : decode (zYb kL_law) 558 = .ok (.iconst 2, 1) := by decide +kernel
theorem eL_law_559 : decode (zYb kL_law) 559 = .ok (.iadd, 1) := by decide +kernel
theorem eL_law_560 : decode (zYb kL_law) 560 = .ok (.iaload, 1) := by decide +kernel
theorem eL_law_561 : decode (zYb kL_law) 561 = .ok (.invokevirtual 68, 3) := by decide +kernel
theorem eL_law_564 : decode (zYb kL_law) 564 = .ok (.if_icmp .eq 275, 3) := by decide +kernel
theorem eL_law_567 : decode (zYb kL_law) 567 = .ok (.iconst 0, 1) := by decide +kernel
theorem eL_law_568 : decode (zYb kL_law) 568 = .ok (.ireturn, 1) := by decide +kernel
theorem eL_law_569 : decode (zYb kL_law) 569 = .ok (.aload_n 1, 1) := by decide +kernel
theorem eL_law_570 : decode (zYb kL_law) 570 = .ok (.aload_n 0, 1) := by decide +kernel
theorem eL_law_571 : decode (zYb kL_law) 571 = .ok (.iload_n 3, 1) := by decide +kernel
theorem eL_law_572 : decode (zYb kL_law) 572 = .ok (.iconst 1, 1) := by decide +kernel
theorem eL_law_573 : decode (zYb kL_law) 573 = .ok (.iadd, 1) := by decide +kernel
theorem eL_law_574 : decode (zYb kL_law) 574 = .ok (.iaload, 1) := by decide +kernel
theorem eL_law_575 : decode (zYb kL_law) 575 = .ok (.aload_n 0, 1) := by decide +kernel
theorem eL_law_576 : decode (zYb kL_law) 576 = .ok (.iload_n 3, 1) := by decide +kernel
theorem eL_law_577 : decode (zYb kL_law) 577 = .ok (.iconst 2, 1) := by decide +kernel
theorem eL_law_578 : decode (zYb kL_law) 578 = .ok (.iadd, 1) := by decide +kernel
theorem eL_law_579 : decode (zYb kL_law) 579 = .ok (.iaload, 1) := by decide +kernel
theorem eL_law_580 : decode (zYb kL_law) 580 = .ok (.invokevirtual 69, 3) := by decide +kernel
theorem eL_law_583 : decode (zYb kL_law) 583 = .ok (.aload_n 2, 1) := by decide +kernel
theorem eL_law_584 : decode (zYb kL_law) 584 = .ok (.aload_n 0, 1) := by decide +kernel
theorem eL_law_585 : decode (zYb kL_law) 585 = .ok (.iload_n 3, 1) := by decide +kernel
theorem eL_law_586 : decode (zYb kL_law) 586 = .ok (.iconst 1, 1) := by decide +kernel
theorem eL_law_587 : decode (zYb kL_law) 587 = .ok (.iadd, 1) := by decide +kernel
theorem eL_law_588 : decode (zYb kL_law) 588 = .ok (.iaload, 1) := by decide +kernel
theorem eL_law_589 : decode (zYb kL_law) 589 = .ok (.aload_n 0, 1) := by decide +kernel
theorem eL_law_590 : decode (zYb kL_law) 590 = .ok (.iload_n 3, 1) := by decide +kernel
theorem eL_law_591 : decode (zYb kL_law) 591 = .ok (.iconst 2, 1) := by decide +kernel
theorem eL_law_592 : decode (zYb kL_law) 592 = .ok (.iadd, 1) := by decide +kernel
theorem eL_law_593 : decode (zYb kL_law) 593 = .ok (.iaload, 1) := by decide +kernel
theorem eL_law_594 : decode (zYb kL_law) 594 = .ok (.invokevirtual 72, 3) := by decide +kernel
theorem eL_law_597 : decode (zYb kL_law) 597 = .ok (.if_icmp .eq 242, 3) := by decide +kernel
theorem eL_law_600 : decode (zYb kL_law) 600 = .ok (.iconst 0, 1) := by decide +kernel
theorem eL_law_601 : decode (zYb kL_law) 601 = .ok (.ireturn, 1) := by decide +kernel
theorem eL_law_602 : decode (zYb kL_law) 602 = .ok (.aload_n 1, 1) := by decide +kernel
theorem eL_law_603 : decode (zYb kL_law) 603 = .ok (.aload_n 0, 1) := by decide +kernel
theorem eL_law_604 : decode (zYb kL_law) 604 = .ok (.iload_n 3, 1) := by decide +kernel
theorem eL_law_605 : decode (zYb kL_law) 605 = .ok (.iconst 1, 1) := by decide +kernel
theorem eL_law_606 : decode (zYb kL_law) 606 = .ok (.iadd, 1) := by decide +kernel
theorem eL_law_607 : decode (zYb kL_law) 607 = .ok (.iaload, 1) := by decide +kernel
theorem eL_law_608 : decode (zYb kL_law) 608 = .ok (.invokevirtual 73, 3) := by decide +kernel
theorem eL_law_611 : decode (zYb kL_law) 611 = .ok (.aload_n 2, 1) := by decide +kernel
theorem eL_law_612 : decode (zYb kL_law) 612 = .ok (.aload_n 0, 1) := by decide +kernel
theorem eL_law_613 : decode (zYb kL_law) 613 = .ok (.iload_n 3, 1) := by decide +kernel
theorem eL_law_614 : decode (zYb kL_law) 614 = .ok (.iconst 1, 1) := by decide +kernel
theorem eL_law_615 : decode (zYb kL_law) 615 = .ok (.iadd, 1) := by decide +kernel
theorem eL_law_616 : decode (zYb kL_law) 616 = .ok (.iaload, 1) := by decide +kernel
theorem eL_law_617 : decode (zYb kL_law) 617 = .ok (.invokevirtual 76, 3) := by decide +kernel
theorem eL_law_620 : decode (zYb kL_law) 620 = .ok (.if_icmp .eq 219, 3) := by decide +kernel
theorem eL_law_623 : decode (zYb kL_law) 623 = .ok (.iconst 0, 1) := by decide +kernel
theorem eL_law_624 : decode (zYb kL_law) 624 = .ok (.ireturn, 1) := by decide +kernel
theorem eL_law_625 : decode (zYb kL_law) 625 = .ok (.aload_n 1, 1) := by decide +kernel
theorem eL_law_626 : decode (zYb kL_law) 626 = .ok (.aload_n 0, 1) := by decide +kernel
theorem eL_law_627 : decode (zYb kL_law) 627 = .ok (.iload_n 3, 1) := by decide +kernel
theorem eL_law_628 : decode (zYb kL_law) 628 = .ok (.iconst 1, 1) := by decide +kernel
theorem eL_law_629 : decode (zYb kL_law) 629 = .ok (.iadd, 1) := by decide +kernel
theorem eL_law_630 : decode (zYb kL_law) 630 = .ok (.iaload, 1) := by decide +kernel
theorem eL_law_631 : decode (zYb kL_law) 631 = .ok (.aload_n 0, 1) := by decide +kernel
theorem eL_law_632 : decode (zYb kL_law) 632 = .ok (.iload_n 3, 1) := by decide +kernel
theorem eL_law_633 : decode (zYb kL_law) 633 = .ok (.iconst 2, 1) := by decide +kernel
theorem eL_law_634 : decode (zYb kL_law) 634 = .ok (.iadd, 1) := by decide +kernel
theorem eL_law_635 : decode (zYb kL_law) 635 = .ok (.iaload, 1) := by decide +kernel
theorem eL_law_636 : decode (zYb kL_law) 636 = .ok (.aload_n 0, 1) := by decide +kernel
theorem eL_law_637 : decode (zYb kL_law) 637 = .ok (.iload_n 3, 1) := by decide +kernel
theorem eL_law_638 : decode (zYb kL_law) 638 = .ok (.iconst 3, 1) := by decide +kernel
theorem eL_law_639 : decode (zYb kL_law) 639 = .ok (.iadd, 1) := by decide +kernel
theorem eL_law_640 : decode (zYb kL_law) 640 = .ok (.iaload, 1) := by decide +kernel
theorem eL_law_641 : decode (zYb kL_law) 641 = .ok (.invokevirtual 77, 3) := by decide +kernel
theorem eL_law_644 : decode (zYb kL_law) 644 = .ok (.aload_n 2, 1) := by decide +kernel
theorem eL_law_645 : decode (zYb kL_law) 645 = .ok (.aload_n 0, 1) := by decide +kernel
theorem eL_law_646 : decode (zYb kL_law) 646 = .ok (.iload_n 3, 1) := by decide +kernel
theorem eL_law_647 : decode (zYb kL_law) 647 = .ok (.iconst 1, 1) := by decide +kernel
theorem eL_law_648 : decode (zYb kL_law) 648 = .ok (.iadd, 1) := by decide +kernel
theorem eL_law_649 : decode (zYb kL_law) 649 = .ok (.iaload, 1) := by decide +kernel
theorem eL_law_650 : decode (zYb kL_law) 650 = .ok (.aload_n 0, 1) := by decide +kernel
theorem eL_law_651 : decode (zYb kL_law) 651 = .ok (.iload_n 3, 1) := by decide +kernel
theorem eL_law_652 : decode (zYb kL_law) 652 = .ok (.iconst 2, 1) := by decide +kernel
theorem eL_law_653 : decode (zYb kL_law) 653 = .ok (.iadd, 1) := by decide +kernel
theorem eL_law_654 : decode (zYb kL_law) 654 = .ok (.iaload, 1) := by decide +kernel
theorem eL_law_655 : decode (zYb kL_law) 655 = .ok (.aload_n 0, 1) := by decide +kernel
theorem eL_law_656 : decode (zYb kL_law) 656 = .ok (.iload_n 3, 1) := by decide +kernel
theorem eL_law_657 : decode (zYb kL_law) 657 = .ok (.iconst 3, 1) := by decide +kernel
theorem eL_law_658 : decode (zYb kL_law) 658 = .ok (.iadd, 1) := by decide +kernel
theorem eL_law_659 : decode (zYb kL_law) 659 = .ok (.iaload, 1) := by decide +kernel
theorem eL_law_660 : decode (zYb kL_law) 660 = .ok (.invokevirtual 80, 3) := by decide +kernel
theorem eL_law_663 : decode (zYb kL_law) 663 = .ok (.if_icmp .eq 176, 3) := by decide +kernel
theorem eL_law_666 : decode (zYb kL_law) 666 = .ok (.iconst 0, 1) := by decide +kernel
theorem eL_law_667 : decode (zYb kL_law) 667 = .ok (.ireturn, 1) := by decide +kernel
theorem eL_law_668 : decode (zYb kL_law) 668 = .ok (.aload_n 1, 1) := by decide +kernel
theorem eL_law_669 : decode (zYb kL_law) 669 = .ok (.aload_n 0, 1) := by decide +kernel
theorem eL_law_670 : decode (zYb kL_law) 670 = .ok (.iload_n 3, 1) := by decide +kernel
theorem eL_law_671 : decode (zYb kL_law) 671 = .ok (.iconst 1, 1) := by decide +kernel
theorem eL_law_672 : decode (zYb kL_law) 672 = .ok (.iadd, 1) := by decide +kernel
theorem eL_law_673 : decode (zYb kL_law) 673 = .ok (.iaload, 1) := by decide +kernel
theorem eL_law_674 : decode (zYb kL_law) 674 = .ok (.aload_n 0, 1) := by decide +kernel
theorem eL_law_675 : decode (zYb kL_law) 675 = .ok (.iload_n 3, 1) := by decide +kernel
theorem eL_law_676 : decode (zYb kL_law) 676 = .ok (.iconst 2, 1) := by decide +kernel
theorem eL_law_677 : decode (zYb kL_law) 677 = .ok (.iadd, 1) := by decide +kernel
theorem eL_law_678 : decode (zYb kL_law) 678 = .ok (.iaload, 1) := by decide +kernel
theorem eL_law_679 : decode (zYb kL_law) 679 = .ok (.invokevirtual 81, 3) := by decide +kernel
theorem eL_law_682 : decode (zYb kL_law) 682 = .ok (.aload_n 2, 1) := by decide +kernel
theorem eL_law_683 : decode (zYb kL_law) 683 = .ok (.aload_n 0, 1) := by decide +kernel
theorem eL_law_684 : decode (zYb kL_law) 684 = .ok (.iload_n 3, 1) := by decide +kernel
theorem eL_law_685 : decode (zYb kL_law) 685 = .ok (.iconst 1, 1) := by decide +kernel
theorem eL_law_686 : decode (zYb kL_law) 686 = .ok (.iadd, 1) := by decide +kernel
theorem eL_law_687 : decode (zYb kL_law) 687 = .ok (.iaload, 1) := by decide +kernel
theorem eL_law_688 : decode (zYb kL_law) 688 = .ok (.aload_n 0, 1) := by decide +kernel
theorem eL_law_689 : decode (zYb kL_law) 689 = .ok (.iload_n 3, 1) := by decide +kernel
theorem eL_law_690 : decode (zYb kL_law) 690 = .ok (.iconst 2, 1) := by decide +kernel
theorem eL_law_691 : decode (zYb kL_law) 691 = .ok (.iadd, 1) := by decide +kernel
theorem eL_law_692 : decode (zYb kL_law) 692 = .ok (.iaload, 1) := by decide +kernel
theorem eL_law_693 : decode (zYb kL_law) 693 = .ok (.invokevirtual 84, 3) := by decide +kernel
theorem eL_law_696 : decode (zYb kL_law) 696 = .ok (.if_icmp .eq 143, 3) := by decide +kernel
theorem eL_law_699 : decode (zYb kL_law) 699 = .ok (.iconst 0, 1) := by decide +kernel
theorem eL_law_700 : decode (zYb kL_law) 700 = .ok (.ireturn, 1) := by decide +kernel
theorem eL_law_701 : decode (zYb kL_law) 701 = .ok (.aload_n 1, 1) := by decide +kernel
theorem eL_law_702 : decode (zYb kL_law) 702 = .ok (.aload_n 0, 1) := by decide +kernel
theorem eL_law_703 : decode (zYb kL_law) 703 = .ok (.iload_n 3, 1) := by decide +kernel
theorem eL_law_704 : decode (zYb kL_law) 704 = .ok (.iconst 1, 1) := by decide +kernel
theorem eL_law_705 : decode (zYb kL_law) 705 = .ok (.iadd, 1) := by decide +kernel
theorem eL_law_706 : decode (zYb kL_law) 706 = .ok (.iaload, 1) := by decide +kernel
theorem eL_law_707 : decode (zYb kL_law) 707 = .ok (.i2l, 1) := by decide +kernel
theorem eL_law_708 : decode (zYb kL_law) 708 = .ok (.bipush 32, 2) := by decide +kernel
theorem eL_law_710 : decode (zYb kL_law) 710 = .ok (.lshl, 1) := by decide +kernel
theorem eL_law_711 : decode (zYb kL_law) 711 = .ok (.aload_n 0, 1) := by decide +kernel
theorem eL_law_712 : decode (zYb kL_law) 712 = .ok (.iload_n 3, 1) := by decide +kernel
theorem eL_law_713 : decode (zYb kL_law) 713 = .ok (.iconst 2, 1) := by decide +kernel
theorem eL_law_714 : decode (zYb kL_law) 714 = .ok (.iadd, 1) := by decide +kernel
theorem eL_law_715 : decode (zYb kL_law) 715 = .ok (.iaload, 1) := by decide +kernel
theorem eL_law_716 : decode (zYb kL_law) 716 = .ok (.i2l, 1) := by decide +kernel
theorem eL_law_717 : decode (zYb kL_law) 717 = .ok (.ldc2_w 85, 3) := by decide +kernel
theorem eL_law_720 : decode (zYb kL_law) 720 = .ok (.land, 1) := by decide +kernel
theorem eL_law_721 : decode (zYb kL_law) 721 = .ok (.lor, 1) := by decide +kernel
theorem eL_law_722 : decode (zYb kL_law) 722 = .ok (.invokevirtual 87, 3) := by decide +kernel
theorem eL_law_725 : decode (zYb kL_law) 725 = .ok (.aload_n 2, 1) := by decide +kernel
theorem eL_law_726 : decode (zYb kL_law) 726 = .ok (.aload_n 0, 1) := by decide +kernel
theorem eL_law_727 : decode (zYb kL_law) 727 = .ok (.iload_n 3, 1) := by decide +kernel
theorem eL_law_728 : decode (zYb kL_law) 728 = .ok (.iconst 1, 1) := by decide +kernel
theorem eL_law_729 : decode (zYb kL_law) 729 = .ok (.iadd, 1) := by decide +kernel
theorem eL_law_730 : decode (zYb kL_law) 730 = .ok (.iaload, 1) := by decide +kernel
theorem eL_law_731 : decode (zYb kL_law) 731 = .ok (.i2l, 1) := by decide +kernel
theorem eL_law_732 : decode (zYb kL_law) 732 = .ok (.bipush 32, 2) := by decide +kernel
theorem eL_law_734 : decode (zYb kL_law) 734 = .ok (.lshl, 1) := by decide +kernel
theorem eL_law_735 : decode (zYb kL_law) 735 = .ok (.aload_n 0, 1) := by decide +kernel
theorem eL_law_736 : decode (zYb kL_law) 736 = .ok (.iload_n 3, 1) := by decide +kernel
theorem eL_law_737 : decode (zYb kL_law) 737 = .ok (.iconst 2, 1) := by decide +kernel
theorem eL_law_738 : decode (zYb kL_law) 738 = .ok (.iadd, 1) := by decide +kernel
theorem eL_law_739 : decode (zYb kL_law) 739 = .ok (.iaload, 1) := by decide +kernel
theorem eL_law_740 : decode (zYb kL_law) 740 = .ok (.i2l, 1) := by decide +kernel
theorem eL_law_741 : decode (zYb kL_law) 741 = .ok (.ldc2_w 85, 3) := by decide +kernel
theorem eL_law_744 : decode (zYb kL_law) 744 = .ok (.land, 1) := by decide +kernel
theorem eL_law_745 : decode (zYb kL_law) 745 = .ok (.lor, 1) := by decide +kernel
theorem eL_law_746 : decode (zYb kL_law) 746 = .ok (.invokevirtual 91, 3) := by decide +kernel
theorem eL_law_749 : decode (zYb kL_law) 749 = .ok (.if_icmp .eq 90, 3) := by decide +kernel
theorem eL_law_752 : decode (zYb kL_law) 752 = .ok (.iconst 0, 1) := by decide +kernel
theorem eL_law_753 : decode (zYb kL_law) 753 = .ok (.ireturn, 1) := by decide +kernel
theorem eL_law_754 : decode (zYb kL_law) 754 = .ok (.aload_n 1, 1) := by decide +kernel
theorem eL_law_755 : decode (zYb kL_law) 755 = .ok (.invokevirtual 92, 3) := by decide +kernel
theorem eL_law_758 : decode (zYb kL_law) 758 = .ok (.aload_n 2, 1) := by decide +kernel
theorem eL_law_759 : decode (zYb kL_law) 759 = .ok (.invokevirtual 95, 3) := by decide +kernel
theorem eL_law_762 : decode (zYb kL_law) 762 = .ok (.if_icmp .eq 77, 3) := by decide +kernel
theorem eL_law_765 : decode (zYb kL_law) 765 = .ok (.iconst 0, 1) := by decide +kernel
theorem eL_law_766 : decode (zYb kL_law) 766 = .ok (.ireturn, 1) := by decide +kernel
theorem eL_law_767 : decode (zYb kL_law) 767 = .ok (.aload_n 1, 1) := by decide +kernel
theorem eL_law_768 : decode (zYb kL_law) 768 = .ok (.invokevirtual 96, 3) := by decide +kernel
theorem eL_law_771 : decode (zYb kL_law) 771 = .ok (.aload_n 2, 1) := by decide +kernel
theorem eL_law_772 : decode (zYb kL_law) 772 = .ok (.invokevirtual 99, 3) := by decide +kernel
theorem eL_law_775 : decode (zYb kL_law) 775 = .ok (.if_icmp .eq 64, 3) := by decide +kernel
theorem eL_law_778 : decode (zYb kL_law) 778 = .ok (.iconst 0, 1) := by decide +kernel
theorem eL_law_779 : decode (zYb kL_law) 779 = .ok (.ireturn, 1) := by decide +kernel
theorem eL_law_780 : decode (zYb kL_law) 780 = .ok (.aload_n 1, 1) := by decide +kernel
theorem eL_law_781 : decode (zYb kL_law) 781 = .ok (.invokevirtual 100, 3) := by decide +kernel
theorem eL_law_784 : decode (zYb kL_law) 784 = .ok (.aload_n 2, 1) := by decide +kernel
theorem eL_law_785 : decode (zYb kL_law) 785 = .ok (.invokevirtual 103, 3) := by decide +kernel
theorem eL_law_788 : decode (zYb kL_law) 788 = .ok (.if_icmp .eq 51, 3) := by decide +kernel
theorem eL_law_791 : decode (zYb kL_law) 791 = .ok (.iconst 0, 1) := by decide +kernel
theorem eL_law_792 : decode (zYb kL_law) 792 = .ok (.ireturn, 1) := by decide +kernel
theorem eL_law_793 : decode (zYb kL_law) 793 = .ok (.aload_n 1, 1) := by decide +kernel
theorem eL_law_794 : decode (zYb kL_law) 794 = .ok (.aload_n 0, 1) := by decide +kernel
theorem eL_law_795 : decode (zYb kL_law) 795 = .ok (.iload_n 3, 1) := by decide +kernel
theorem eL_law_796 : decode (zYb kL_law) 796 = .ok (.iconst 1, 1) := by decide +kernel
theorem eL_law_797 : decode (zYb kL_law) 797 = .ok (.iadd, 1) := by decide +kernel
theorem eL_law_798 : decode (zYb kL_law) 798 = .ok (.iaload, 1) := by decide +kernel
theorem eL_law_799 : decode (zYb kL_law) 799 = .ok (.invokevirtual 104, 3) := by decide +kernel
theorem eL_law_802 : decode (zYb kL_law) 802 = .ok (.aload_n 2, 1) := by decide +kernel
theorem eL_law_803 : decode (zYb kL_law) 803 = .ok (.aload_n 0, 1) := by decide +kernel
theorem eL_law_804 : decode (zYb kL_law) 804 = .ok (.iload_n 3, 1) := by decide +kernel
theorem eL_law_805 : decode (zYb kL_law) 805 = .ok (.iconst 1, 1) := by decide +kernel
theorem eL_law_806 : decode (zYb kL_law) 806 = .ok (.iadd, 1) := by decide +kernel
theorem eL_law_807 : decode (zYb kL_law) 807 = .ok (.iaload, 1) := by decide +kernel
theorem eL_law_808 : decode (zYb kL_law) 808 = .ok (.invokevirtual 107, 3) := by decide +kernel
theorem eL_law_811 : decode (zYb kL_law) 811 = .ok (.if_icmp .eq 28, 3) := by decide +kernel
theorem eL_law_814 : decode (zYb kL_law) 814 = .ok (.iconst 0, 1) := by decide +kernel
theorem eL_law_815 : decode (zYb kL_law) 815 = .ok (.ireturn, 1) := by decide +kernel
theorem eL_law_816 : decode (zYb kL_law) 816 = .ok (.aload_n 1, 1) := by decide +kernel
theorem eL_law_817 : decode (zYb kL_law) 817 = .ok (.aload_n 0, 1) := by decide +kernel
theorem eL_law_818 : decode (zYb kL_law) 818 = .ok (.iload_n 3, 1) := by decide +kernel
theorem eL_law_819 : decode (zYb kL_law) 819 = .ok (.iconst 1, 1) := by decide +kernel
theorem eL_law_820 : decode (zYb kL_law) 820 = .ok (.iadd, 1) := by decide +kernel
theorem eL_law_821 : decode (zYb kL_law) 821 = .ok (.iaload, 1) := by decide +kernel
theorem eL_law_822 : decode (zYb kL_law) 822 = .ok (.invokevirtual 108, 3) := by decide +kernel
theorem eL_law_825 : decode (zYb kL_law) 825 = .ok (.aload_n 2, 1) := by decide +kernel
theorem eL_law_826 : decode (zYb kL_law) 826 = .ok (.aload_n 0, 1) := by decide +kernel
theorem eL_law_827 : decode (zYb kL_law) 827 = .ok (.iload_n 3, 1) := by decide +kernel
theorem eL_law_828 : decode (zYb kL_law) 828 = .ok (.iconst 1, 1) := by decide +kernel
theorem eL_law_829 : decode (zYb kL_law) 829 = .ok (.iadd, 1) := by decide +kernel
theorem eL_law_830 : decode (zYb kL_law) 830 = .ok (.iaload, 1) := by decide +kernel
theorem eL_law_831 : decode (zYb kL_law) 831 = .ok (.invokevirtual 111, 3) := by decide +kernel
theorem eL_law_834 : decode (zYb kL_law) 834 = .ok (.if_icmp .eq 5, 3) := by decide +kernel
theorem eL_law_837 : decode (zYb kL_law) 837 = .ok (.iconst 0, 1) := by decide +kernel
theorem eL_law_838 : decode (zYb kL_law) 838 = .ok (.ireturn, 1) := by decide +kernel
theorem eL_law_839 : decode (zYb kL_law) 839 = .ok (.iinc 3 4, 3) := by decide +kernel
theorem eL_law_842 : decode (zYb kL_law) 842 = .ok (.goto (-824), 3) := by decide +kernel
theorem eL_law_845 : decode (zYb kL_law) 845 = .ok (.iconst 1, 1) := by decide +kernel
theorem eL_law_846 : decode (zYb kL_law) 846 = .ok (.ireturn, 1) := by decide +kernel
