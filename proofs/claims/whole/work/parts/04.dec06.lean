theorem d_Law_law_0 : decode b_Law_law 0 = .ok (.new 7, 3) := by decide +kernel
theorem d_Law_law_3 : decode b_Law_law 3 = .ok (.dup, 1) := by decide +kernel
theorem d_Law_law_4 : decode b_Law_law 4 = .ok (.aload_n 0, 1) := by decide +kernel
theorem d_Law_law_5 : decode b_Law_law 5 = .ok (.iconst 0, 1) := by decide +kernel
theorem d_Law_law_6 : decode b_Law_law 6 = .ok (.invokestatic 9, 3) := by decide +kernel
theorem d_Law_law_9 : decode b_Law_law 9 = .ok (.invokespecial 15, 3) := by decide +kernel
theorem d_Law_law_12 : decode b_Law_law 12 = .ok (.astore_n 1, 1) := by decide +kernel
theorem d_Law_law_13 : decode b_Law_law 13 = .ok (.new 18, 3) := by decide +kernel
theorem d_Law_law_16 : decode b_Law_law 16 = .ok (.dup, 1) := by decide +kernel
theorem d_Law_law_17 : decode b_Law_law 17 = .ok (.aload_n 0, 1) := by decide +kernel
theorem d_Law_law_18 : decode b_Law_law 18 = .ok (.iconst 0, 1) := by decide +kernel
theorem d_Law_law_19 : decode b_Law_law 19 = .ok (.invokestatic 9, 3) := by decide +kernel
theorem d_Law_law_22 : decode b_Law_law 22 = .ok (.invokespecial 20, 3) := by decide +kernel
theorem d_Law_law_25 : decode b_Law_law 25 = .ok (.astore_n 2, 1) := by decide +kernel
theorem d_Law_law_26 : decode b_Law_law 26 = .ok (.iconst 1, 1) := by decide +kernel
theorem d_Law_law_27 : decode b_Law_law 27 = .ok (.istore_n 3, 1) := by decide +kernel
theorem d_Law_law_28 : decode b_Law_law 28 = .ok (.iload_n 3, 1) := by decide +kernel
theorem d_Law_law_29 : decode b_Law_law 29 = .ok (.aload_n 0, 1) := by decide +kernel
theorem d_Law_law_30 : decode b_Law_law 30 = .ok (.arraylength, 1) := by decide +kernel
theorem d_Law_law_31 : decode b_Law_law 31 = .ok (.iconst 5, 1) := by decide +kernel
theorem d_Law_law_32 : decode b_Law_law 32 = .ok (.isub, 1) := by decide +kernel
theorem d_Law_law_33 : decode b_Law_law 33 = .ok (.if_icmp .gt 604, 3) := by decide +kernel
theorem d_Law_law_36 : decode b_Law_law 36 = .ok (.aload_n 0, 1) := by decide +kernel
theorem d_Law_law_37 : decode b_Law_law 37 = .ok (.iload_n 3, 1) := by decide +kernel
theorem d_Law_law_38 : decode b_Law_law 38 = .ok (.iaload, 1) := by decide +kernel
theorem d_Law_law_39 : decode b_Law_law 39 = .ok (.bipush 31, 2) := by decide +kernel
theorem d_Law_law_41 : decode b_Law_law 41 = .ok (.iand, 1) := by decide +kernel
theorem d_Law_law_42 : decode b_Law_law 42 = .ok (.tableswitch 589 0 16 #[82, 151, 184, 207, 230, 253, 276, 289, 312, 325, 358, 391, 424, 457, 490, 523, 556], 82) := by decide +kernel
theorem d_Law_law_124 : decode b_Law_law 124 = .ok (.aload_n 1, 1) := by decide +kernel
theorem d_Law_law_125 : decode b_Law_law 125 = .ok (.aload_n 0, 1) := by decide +kernel
theorem d_Law_law_126 : decode b_Law_law 126 = .ok (.iload_n 3, 1) := by decide +kernel
theorem d_Law_law_127 : decode b_Law_law 127 = .ok (.iconst 1, 1) := by decide +kernel
theorem d_Law_law_128 : decode b_Law_law 128 = .ok (.iadd, 1) := by decide +kernel
theorem d_Law_law_129 : decode b_Law_law 129 = .ok (.iaload, 1) := by decide +kernel
theorem d_Law_law_130 : decode b_Law_law 130 = .ok (.aload_n 0, 1) := by decide +kernel
theorem d_Law_law_131 : decode b_Law_law 131 = .ok (.iload_n 3, 1) := by decide +kernel
theorem d_Law_law_132 : decode b_Law_law 132 = .ok (.iconst 2, 1) := by decide +kernel
theorem d_Law_law_133 : decode b_Law_law 133 = .ok (.iadd, 1) := by decide +kernel
theorem d_Law_law_134 : decode b_Law_law 134 = .ok (.iaload, 1) := by decide +kernel
theorem d_Law_law_135 : decode b_Law_law 135 = .ok (.aload_n 0, 1) := by decide +kernel
theorem d_Law_law_136 : decode b_Law_law 136 = .ok (.iload_n 3, 1) := by decide +kernel
theorem d_Law_law_137 : decode b_Law_law 137 = .ok (.iconst 3, 1) := by decide +kernel
theorem d_Law_law_138 : decode b_Law_law 138 = .ok (.iadd, 1) := by decide +kernel
theorem d_Law_law_139 : decode b_Law_law 139 = .ok (.iaload, 1) := by decide +kernel
theorem d_Law_law_140 : decode b_Law_law 140 = .ok (.ifCond .eq 7, 3) := by decide +kernel
theorem d_Law_law_143 : decode b_Law_law 143 = .ok (.iconst 1, 1) := by decide +kernel
theorem d_Law_law_144 : decode b_Law_law 144 = .ok (.goto 4, 3) := by decide +kernel
theorem d_Law_law_147 : decode b_Law_law 147 = .ok (.iconst 0, 1) := by decide +kernel
theorem d_Law_law_148 : decode b_Law_law 148 = .ok (.aload_n 0, 1) := by decide +kernel
theorem d_Law_law_149 : decode b_Law_law 149 = .ok (.iload_n 3, 1) := by decide +kernel
theorem d_Law_law_150 : decode b_Law_law 150 = .ok (.iconst 4, 1) := by decide +kernel
theorem d_Law_law_151 : decode b_Law_law 151 = .ok (.iadd, 1) := by decide +kernel
theorem d_Law_law_152 : decode b_Law_law 152 = .ok (.iaload, 1) := by decide +kernel
theorem d_Law_law_153 : decode b_Law_law 153 = .ok (.invokevirtual 21, 3) := by decide +kernel
theorem d_Law_law_156 : decode b_Law_law 156 = .ok (.aload_n 2, 1) := by decide +kernel
theorem d_Law_law_157 : decode b_Law_law 157 = .ok (.aload_n 0, 1) := by decide +kernel
theorem d_Law_law_158 : decode b_Law_law 158 = .ok (.iload_n 3, 1) := by decide +kernel
theorem d_Law_law_159 : decode b_Law_law 159 = .ok (.iconst 1, 1) := by decide +kernel
theorem d_Law_law_160 : decode b_Law_law 160 = .ok (.iadd, 1) := by decide +kernel
theorem d_Law_law_161 : decode b_Law_law 161 = .ok (.iaload, 1) := by decide +kernel
theorem d_Law_law_162 : decode b_Law_law 162 = .ok (.aload_n 0, 1) := by decide +kernel
theorem d_Law_law_163 : decode b_Law_law 163 = .ok (.iload_n 3, 1) := by decide +kernel
theorem d_Law_law_164 : decode b_Law_law 164 = .ok (.iconst 2, 1) := by decide +kernel
theorem d_Law_law_165 : decode b_Law_law 165 = .ok (.iadd, 1) := by decide +kernel
theorem d_Law_law_166 : decode b_Law_law 166 = .ok (.iaload, 1) := by decide +kernel
theorem d_Law_law_167 : decode b_Law_law 167 = .ok (.aload_n 0, 1) := by decide +kernel
theorem d_Law_law_168 : decode b_Law_law 168 = .ok (.iload_n 3, 1) := by decide +kernel
theorem d_Law_law_169 : decode b_Law_law 169 = .ok (.iconst 3, 1) := by decide +kernel
theorem d_Law_law_170 : decode b_Law_law 170 = .ok (.iadd, 1) := by decide +kernel
theorem d_Law_law_171 : decode b_Law_law 171 = .ok (.iaload, 1) := by decide +kernel
theorem d_Law_law_172 : decode b_Law_law 172 = .ok (.ifCond .eq 7, 3) := by decide +kernel
theorem d_Law_law_175 : decode b_Law_law 175 = .ok (.iconst 1, 1) := by decide +kernel
theorem d_Law_law_176 : decode b_Law_law 176 = .ok (.goto 4, 3) := by decide +kernel
theorem d_Law_law_179 : decode b_Law_law 179 = .ok (.iconst 0, 1) := by decide +kernel
theorem d_Law_law_180 : decode b_Law_law 180 = .ok (.aload_n 0, 1) := by decide +kernel
theorem d_Law_law_181 : decode b_Law_law 181 = .ok (.iload_n 3, 1) := by decide +kernel
theorem d_Law_law_182 : decode b_Law_law 182 = .ok (.iconst 4, 1) := by decide +kernel
theorem d_Law_law_183 : decode b_Law_law 183 = .ok (.iadd, 1) := by decide +kernel
theorem d_Law_law_184 : decode b_Law_law 184 = .ok (.iaload, 1) := by decide +kernel
theorem d_Law_law_185 : decode b_Law_law 185 = .ok (.invokevirtual 25, 3) := by decide +kernel
theorem d_Law_law_188 : decode b_Law_law 188 = .ok (.if_icmp .eq 443, 3) := by decide +kernel
theorem d_Law_law_191 : decode b_Law_law 191 = .ok (.iconst 0, 1) := by decide +kernel
theorem d_Law_law_192 : decode b_Law_law 192 = .ok (.ireturn, 1) := by decide +kernel
theorem d_Law_law_193 : decode b_Law_law 193 = .ok (.aload_n 1, 1) := by decide +kernel
theorem d_Law_law_194 : decode b_Law_law 194 = .ok (.aload_n 0, 1) := by decide +kernel
theorem d_Law_law_195 : decode b_Law_law 195 = .ok (.iload_n 3, 1) := by decide +kernel
theorem d_Law_law_196 : decode b_Law_law 196 = .ok (.iconst 1, 1) := by decide +kernel
theorem d_Law_law_197 : decode b_Law_law 197 = .ok (.iadd, 1) := by decide +kernel
theorem d_Law_law_198 : decode b_Law_law 198 = .ok (.iaload, 1) := by decide +kernel
theorem d_Law_law_199 : decode b_Law_law 199 = .ok (.aload_n 0, 1) := by decide +kernel
theorem d_Law_law_200 : decode b_Law_law 200 = .ok (.iload_n 3, 1) := by decide +kernel
theorem d_Law_law_201 : decode b_Law_law 201 = .ok (.iconst 2, 1) := by decide +kernel
theorem d_Law_law_202 : decode b_Law_law 202 = .ok (.iadd, 1) := by decide +kernel
theorem d_Law_law_203 : decode b_Law_law 203 = .ok (.iaload, 1) := by decide +kernel
theorem d_Law_law_204 : decode b_Law_law 204 = .ok (.invokevirtual 26, 3) := by decide +kernel
theorem d_Law_law_207 : decode b_Law_law 207 = .ok (.aload_n 2, 1) := by decide +kernel
theorem d_Law_law_208 : decode b_Law_law 208 = .ok (.aload_n 0, 1) := by decide +kernel
theorem d_Law_law_209 : decode b_Law_law 209 = .ok (.iload_n 3, 1) := by decide +kernel
theorem d_Law_law_210 : decode b_Law_law 210 = .ok (.iconst 1, 1) := by decide +kernel
theorem d_Law_law_211 : decode b_Law_law 211 = .ok (.iadd, 1) := by decide +kernel
theorem d_Law_law_212 : decode b_Law_law 212 = .ok (.iaload, 1) := by decide +kernel
theorem d_Law_law_213 : decode b_Law_law 213 = .ok (.aload_n 0, 1) := by decide +kernel
theorem d_Law_law_214 : decode b_Law_law 214 = .ok (.iload_n 3, 1) := by decide +kernel
theorem d_Law_law_215 : decode b_Law_law 215 = .ok (.iconst 2, 1) := by decide +kernel
theorem d_Law_law_216 : decode b_Law_law 216 = .ok (.iadd, 1) := by decide +kernel
theorem d_Law_law_217 : decode b_Law_law 217 = .ok (.iaload, 1) := by decide +kernel
theorem d_Law_law_218 : decode b_Law_law 218 = .ok (.invokevirtual 30, 3) := by decide +kernel
theorem d_Law_law_221 : decode b_Law_law 221 = .ok (.if_icmp .eq 410, 3) := by decide +kernel
theorem d_Law_law_224 : decode b_Law_law 224 = .ok (.iconst 0, 1) := by decide +kernel
theorem d_Law_law_225 : decode b_Law_law 225 = .ok (.ireturn, 1) := by decide +kernel
theorem d_Law_law_226 : decode b_Law_law 226 = .ok (.aload_n 1, 1) := by decide +kernel
theorem d_Law_law_227 : decode b_Law_law 227 = .ok (.aload_n 0, 1) := by decide +kernel
theorem d_Law_law_228 : decode b_Law_law 228 = .ok (.iload_n 3, 1) := by decide +kernel
theorem d_Law_law_229 : decode b_Law_law 229 = .ok (.iconst 1, 1) := by decide +kernel
theorem d_Law_law_230 : decode b_Law_law 230 = .ok (.iadd, 1) := by decide +kernel
theorem d_Law_law_231 : decode b_Law_law 231 = .ok (.iaload, 1) := by decide +kernel
theorem d_Law_law_232 : decode b_Law_law 232 = .ok (.invokevirtual 31, 3) := by decide +kernel
theorem d_Law_law_235 : decode b_Law_law 235 = .ok (.aload_n 2, 1) := by decide +kernel
theorem d_Law_law_236 : decode b_Law_law 236 = .ok (.aload_n 0, 1) := by decide +kernel
theorem d_Law_law_237 : decode b_Law_law 237 = .ok (.iload_n 3, 1) := by decide +kernel
theorem d_Law_law_238 : decode b_Law_law 238 = .ok (.iconst 1, 1) := by decide +kernel
theorem d_Law_law_239 : decode b_Law_law 239 = .ok (.iadd, 1) := by decide +kernel
theorem d_Law_law_240 : decode b_Law_law 240 = .ok (.iaload, 1) := by decide +kernel
theorem d_Law_law_241 : decode b_Law_law 241 = .ok (.invokevirtual 35, 3) := by decide +kernel
theorem d_Law_law_244 : decode b_Law_law 244 = .ok (.if_icmp .eq 387, 3) := by decide +kernel
theorem d_Law_law_247 : decode b_Law_law 247 = .ok (.iconst 0, 1) := by decide +kernel
theorem d_Law_law_248 : decode b_Law_law 248 = .ok (.ireturn, 1) := by decide +kernel
theorem d_Law_law_249 : decode b_Law_law 249 = .ok (.aload_n 1, 1) := by decide +kernel
theorem d_Law_law_250 : decode b_Law_law 250 = .ok (.aload_n 0, 1) := by decide +kernel
theorem d_Law_law_251 : decode b_Law_law 251 = .ok (.iload_n 3, 1) := by decide +kernel
theorem d_Law_law_252 : decode b_Law_law 252 = .ok (.iconst 1, 1) := by decide +kernel
theorem d_Law_law_253 : decode b_Law_law 253 = .ok (.iadd, 1) := by decide +kernel
theorem d_Law_law_254 : decode b_Law_law 254 = .ok (.iaload, 1) := by decide +kernel
theorem d_Law_law_255 : decode b_Law_law 255 = .ok (.invokevirtual 36, 3) := by decide +kernel
theorem d_Law_law_258 : decode b_Law_law 258 = .ok (.aload_n 2, 1) := by decide +kernel
theorem d_Law_law_259 : decode b_Law_law 259 = .ok (.aload_n 0, 1) := by decide +kernel
theorem d_Law_law_260 : decode b_Law_law 260 = .ok (.iload_n 3, 1) := by decide +kernel
theorem d_Law_law_261 : decode b_Law_law 261 = .ok (.iconst 1, 1) := by decide +kernel
theorem d_Law_law_262 : decode b_Law_law 262 = .ok (.iadd, 1) := by decide +kernel
theorem d_Law_law_263 : decode b_Law_law 263 = .ok (.iaload, 1) := by decide +kernel
theorem d_Law_law_264 : decode b_Law_law 264 = .ok (.invokevirtual 40, 3) := by decide +kernel
theorem d_Law_law_267 : decode b_Law_law 267 = .ok (.if_icmp .eq 364, 3) := by decide +kernel
theorem d_Law_law_270 : decode b_Law_law 270 = .ok (.iconst 0, 1) := by decide +kernel
theorem d_Law_law_271 : decode b_Law_law 271 = .ok (.ireturn, 1) := by decide +kernel
theorem d_Law_law_272 : decode b_Law_law 272 = .ok (.aload_n 1, 1) := by decide +kernel
theorem d_Law_law_273 : decode b_Law_law 273 = .ok (.aload_n 0, 1) := by decide +kernel
theorem d_Law_law_274 : decode b_Law_law 274 = .ok (.iload_n 3, 1) := by decide +kernel
theorem d_Law_law_275 : decode b_Law_law 275 = .ok (.iconst 1, 1) := by decide +kernel
theorem d_Law_law_276 : decode b_Law_law 276 = .ok (.iadd, 1) := by decide +kernel
theorem d_Law_law_277 : decode b_Law_law 277 = .ok (.iaload, 1) := by decide +kernel
theorem d_Law_law_278 : decode b_Law_law 278 = .ok (.invokevirtual 41, 3) := by decide +kernel
theorem d_Law_law_281 : decode b_Law_law 281 = .ok (.aload_n 2, 1) := by decide +kernel
theorem d_Law_law_282 : decode b_Law_law 282 = .ok (.aload_n 0, 1) := by decide +kernel
theorem d_Law_law_283 : decode b_Law_law 283 = .ok (.iload_n 3, 1) := by decide +kernel
theorem d_Law_law_284 : decode b_Law_law 284 = .ok (.iconst 1, 1) := by decide +kernel
theorem d_Law_law_285 : decode b_Law_law 285 = .ok (.iadd, 1) := by decide +kernel
theorem d_Law_law_286 : decode b_Law_law 286 = .ok (.iaload, 1) := by decide +kernel
theorem d_Law_law_287 : decode b_Law_law 287 = .ok (.invokevirtual 44, 3) := by decide +kernel
theorem d_Law_law_290 : decode b_Law_law 290 = .ok (.if_icmp .eq 341, 3) := by decide +kernel
theorem d_Law_law_293 : decode b_Law_law 293 = .ok (.iconst 0, 1) := by decide +kernel
theorem d_Law_law_294 : decode b_Law_law 294 = .ok (.ireturn, 1) := by decide +kernel
theorem d_Law_law_295 : decode b_Law_law 295 = .ok (.aload_n 1, 1) := by decide +kernel
theorem d_Law_law_296 : decode b_Law_law 296 = .ok (.aload_n 0, 1) := by decide +kernel
theorem d_Law_law_297 : decode b_Law_law 297 = .ok (.iload_n 3, 1) := by decide +kernel
theorem d_Law_law_298 : decode b_Law_law 298 = .ok (.iconst 1, 1) := by decide +kernel
theorem d_Law_law_299 : decode b_Law_law 299 = .ok (.iadd, 1) := by decide +kernel
theorem d_Law_law_300 : decode b_Law_law 300 = .ok (.iaload, 1) := by decide +kernel
theorem d_Law_law_301 : decode b_Law_law 301 = .ok (.invokevirtual 45, 3) := by decide +kernel
theorem d_Law_law_304 : decode b_Law_law 304 = .ok (.aload_n 2, 1) := by decide +kernel
theorem d_Law_law_305 : decode b_Law_law 305 = .ok (.aload_n 0, 1) := by decide +kernel
theorem d_Law_law_306 : decode b_Law_law 306 = .ok (.iload_n 3, 1) := by decide +kernel
theorem d_Law_law_307 : decode b_Law_law 307 = .ok (.iconst 1, 1) := by decide +kernel
theorem d_Law_law_308 : decode b_Law_law 308 = .ok (.iadd, 1) := by decide +kernel
theorem d_Law_law_309 : decode b_Law_law 309 = .ok (.iaload, 1) := by decide +kernel
theorem d_Law_law_310 : decode b_Law_law 310 = .ok (.invokevirtual 48, 3) := by decide +kernel
theorem d_Law_law_313 : decode b_Law_law 313 = .ok (.if_icmp .eq 318, 3) := by decide +kernel
theorem d_Law_law_316 : decode b_Law_law 316 = .ok (.iconst 0, 1) := by decide +kernel
theorem d_Law_law_317 : decode b_Law_law 317 = .ok (.ireturn, 1) := by decide +kernel
theorem d_Law_law_318 : decode b_Law_law 318 = .ok (.aload_n 1, 1) := by decide +kernel
theorem d_Law_law_319 : decode b_Law_law 319 = .ok (.invokevirtual 49, 3) := by decide +kernel
theorem d_Law_law_322 : decode b_Law_law 322 = .ok (.aload_n 2, 1) := by decide +kernel
theorem d_Law_law_323 : decode b_Law_law 323 = .ok (.invokevirtual 53, 3) := by decide +kernel
theorem d_Law_law_326 : decode b_Law_law 326 = .ok (.if_icmp .eq 305, 3) := by decide +kernel
theorem d_Law_law_329 : decode b_Law_law 329 = .ok (.iconst 0, 1) := by decide +kernel
theorem d_Law_law_330 : decode b_Law_law 330 = .ok (.ireturn, 1) := by decide +kernel
theorem d_Law_law_331 : decode b_Law_law 331 = .ok (.aload_n 1, 1) := by decide +kernel
theorem d_Law_law_332 : decode b_Law_law 332 = .ok (.aload_n 0, 1) := by decide +kernel
theorem d_Law_law_333 : decode b_Law_law 333 = .ok (.iload_n 3, 1) := by decide +kernel
theorem d_Law_law_334 : decode b_Law_law 334 = .ok (.iconst 1, 1) := by decide +kernel
theorem d_Law_law_335 : decode b_Law_law 335 = .ok (.iadd, 1) := by decide +kernel
theorem d_Law_law_336 : decode b_Law_law 336 = .ok (.iaload, 1) := by decide +kernel
theorem d_Law_law_337 : decode b_Law_law 337 = .ok (.invokevirtual 54, 3) := by decide +kernel
theorem d_Law_law_340 : decode b_Law_law 340 = .ok (.aload_n 2, 1) := by decide +kernel
theorem d_Law_law_341 : decode b_Law_law 341 = .ok (.aload_n 0, 1) := by decide +kernel
theorem d_Law_law_342 : decode b_Law_law 342 = .ok (.iload_n 3, 1) := by decide +kernel
theorem d_Law_law_343 : decode b_Law_law 343 = .ok (.iconst 1, 1) := by decide +kernel
theorem d_Law_law_344 : decode b_Law_law 344 = .ok (.iadd, 1) := by decide +kernel
theorem d_Law_law_345 : decode b_Law_law 345 = .ok (.iaload, 1) := by decide +kernel
theorem d_Law_law_346 : decode b_Law_law 346 = .ok (.invokevirtual 57, 3) := by decide +kernel
theorem d_Law_law_349 : decode b_Law_law 349 = .ok (.if_icmp .eq 282, 3) := by decide +kernel
theorem d_Law_law_352 : decode b_Law_law 352 = .ok (.iconst 0, 1) := by decide +kernel
theorem d_Law_law_353 : decode b_Law_law 353 = .ok (.ireturn, 1) := by decide +kernel
theorem d_Law_law_354 : decode b_Law_law 354 = .ok (.aload_n 1, 1) := by decide +kernel
theorem d_Law_law_355 : decode b_Law_law 355 = .ok (.invokevirtual 58, 3) := by decide +kernel
theorem d_Law_law_358 : decode b_Law_law 358 = .ok (.aload_n 2, 1) := by decide +kernel
theorem d_Law_law_359 : decode b_Law_law 359 = .ok (.invokevirtual 61, 3) := by decide +kernel
theorem d_Law_law_362 : decode b_Law_law 362 = .ok (.if_icmp .eq 269, 3) := by decide +kernel
theorem d_Law_law_365 : decode b_Law_law 365 = .ok (.iconst 0, 1) := by decide +kernel
theorem d_Law_law_366 : decode b_Law_law 366 = .ok (.ireturn, 1) := by decide +kernel
theorem d_Law_law_367 : decode b_Law_law 367 = .ok (.aload_n 1, 1) := by decide +kernel
theorem d_Law_law_368 : decode b_Law_law 368 = .ok (.aload_n 0, 1) := by decide +kernel
theorem d_Law_law_369 : decode b_Law_law 369 = .ok (.iload_n 3, 1) := by decide +kernel
theorem d_Law_law_370 : decode b_Law_law 370 = .ok (.iconst 1, 1) := by decide +kernel
theorem d_Law_law_371 : decode b_Law_law 371 = .ok (.iadd, 1) := by decide +kernel
theorem d_Law_law_372 : decode b_Law_law 372 = .ok (.iaload, 1) := by decide +kernel
theorem d_Law_law_373 : decode b_Law_law 373 = .ok (.aload_n 0, 1) := by decide +kernel
theorem d_Law_law_374 : decode b_Law_law 374 = .ok (.iload_n 3, 1) := by decide +kernel
theorem d_Law_law_375 : decode b_Law_law 375 = .ok (.iconst 2, 1) := by decide +kernel
theorem d_Law_law_376 : decode b_Law_law 376 = .ok (.iadd, 1) := by decide +kernel
theorem d_Law_law_377 : decode b_Law_law 377 = .ok (.iaload, 1) := by decide +kernel
theorem d_Law_law_378 : decode b_Law_law 378 = .ok (.invokevirtual 62, 3) := by decide +kernel
theorem d_Law_law_381 : decode b_Law_law 381 = .ok (.aload_n 2, 1) := by decide +kernel
theorem d_Law_law_382 : decode b_Law_law 382 = .ok (.aload_n 0, 1) := by decide +kernel
theorem d_Law_law_383 : decode b_Law_law 383 = .ok (.iload_n 3, 1) := by decide +kernel
theorem d_Law_law_384 : decode b_Law_law 384 = .ok (.iconst 1, 1) := by decide +kernel
theorem d_Law_law_385 : decode b_Law_law 385 = .ok (.iadd, 1) := by decide +kernel
theorem d_Law_law_386 : decode b_Law_law 386 = .ok (.iaload, 1) := by decide +kernel
theorem d_Law_law_387 : decode b_Law_law 387 = .ok (.aload_n 0, 1) := by decide +kernel
theorem d_Law_law_388 : decode b_Law_law 388 = .ok (.iload_n 3, 1) := by decide +kernel
theorem d_Law_law_389 : decode b_Law_law 389 = .ok (.iconst 2, 1) := by decide +kernel
theorem d_Law_law_390 : decode b_Law_law 390 = .ok (.iadd, 1) := by decide +kernel
theorem d_Law_law_391 : decode b_Law_law 391 = .ok (.iaload, 1) := by decide +kernel
theorem d_Law_law_392 : decode b_Law_law 392 = .ok (.invokevirtual 65, 3) := by decide +kernel
theorem d_Law_law_395 : decode b_Law_law 395 = .ok (.if_icmp .eq 236, 3) := by decide +kernel
theorem d_Law_law_398 : decode b_Law_law 398 = .ok (.iconst 0, 1) := by decide +kernel
theorem d_Law_law_399 : decode b_Law_law 399 = .ok (.ireturn, 1) := by decide +kernel
theorem d_Law_law_400 : decode b_Law_law 400 = .ok (.aload_n 1, 1) := by decide +kernel
theorem d_Law_law_401 : decode b_Law_law 401 = .ok (.aload_n 0, 1) := by decide +kernel
theorem d_Law_law_402 : decode b_Law_law 402 = .ok (.iload_n 3, 1) := by decide +kernel
theorem d_Law_law_403 : decode b_Law_law 403 = .ok (.iconst 1, 1) := by decide +kernel
theorem d_Law_law_404 : decode b_Law_law 404 = .ok (.iadd, 1) := by decide +kernel
theorem d_Law_law_405 : decode b_Law_law 405 = .ok (.iaload, 1) := by decide +kernel
theorem d_Law_law_406 : decode b_Law_law 406 = .ok (.aload_n 0, 1) := by decide +kernel
theorem d_Law_law_407 : decode b_Law_law 407 = .ok (.iload_n 3, 1) := by decide +kernel
theorem d_Law_law_408 : decode b_Law_law 408 = .ok (.iconst 2, 1) := by decide +kernel
theorem d_Law_law_409 : decode b_Law_law 409 = .ok (.iadd, 1) := by decide +kernel
theorem d_Law_law_410 : decode b_Law_law 410 = .ok (.iaload, 1) := by decide +kernel
theorem d_Law_law_411 : decode b_Law_law 411 = .ok (.invokevirtual 66, 3) := by decide +kernel
theorem d_Law_law_414 : decode b_Law_law 414 = .ok (.aload_n 2, 1) := by decide +kernel
theorem d_Law_law_415 : decode b_Law_law 415 = .ok (.aload_n 0, 1) := by decide +kernel
theorem d_Law_law_416 : decode b_Law_law 416 = .ok (.iload_n 3, 1) := by decide +kernel
theorem d_Law_law_417 : decode b_Law_law 417 = .ok (.iconst 1, 1) := by decide +kernel
theorem d_Law_law_418 : decode b_Law_law 418 = .ok (.iadd, 1) := by decide +kernel
theorem d_Law_law_419 : decode b_Law_law 419 = .ok (.iaload, 1) := by decide +kernel
theorem d_Law_law_420 : decode b_Law_law 420 = .ok (.aload_n 0, 1) := by decide +kernel
theorem d_Law_law_421 : decode b_Law_law 421 = .ok (.iload_n 3, 1) := by decide +kernel
theorem d_Law_law_422 : decode b_Law_law 422 = .ok (.iconst 2, 1) := by decide +kernel
theorem d_Law_law_423 : decode b_Law_law 423 = .ok (.iadd, 1) := by decide +kernel
theorem d_Law_law_424 : decode b_Law_law 424 = .ok (.iaload, 1) := by decide +kernel
theorem d_Law_law_425 : decode b_Law_law 425 = .ok (.invokevirtual 69, 3) := by decide +kernel
theorem d_Law_law_428 : decode b_Law_law 428 = .ok (.if_icmp .eq 203, 3) := by decide +kernel
theorem d_Law_law_431 : decode b_Law_law 431 = .ok (.iconst 0, 1) := by decide +kernel
theorem d_Law_law_432 : decode b_Law_law 432 = .ok (.ireturn, 1) := by decide +kernel
theorem d_Law_law_433 : decode b_Law_law 433 = .ok (.aload_n 1, 1) := by decide +kernel
theorem d_Law_law_434 : decode b_Law_law 434 = .ok (.aload_n 0, 1) := by decide +kernel
theorem d_Law_law_435 : decode b_Law_law 435 = .ok (.iload_n 3, 1) := by decide +kernel
theorem d_Law_law_436 : decode b_Law_law 436 = .ok (.iconst 1, 1) := by decide +kernel
theorem d_Law_law_437 : decode b_Law_law 437 = .ok (.iadd, 1) := by decide +kernel
theorem d_Law_law_438 : decode b_Law_law 438 = .ok (.iaload, 1) := by decide +kernel
theorem d_Law_law_439 : decode b_Law_law 439 = .ok (.aload_n 0, 1) := by decide +kernel
theorem d_Law_law_440 : decode b_Law_law 440 = .ok (.iload_n 3, 1) := by decide +kernel
theorem d_Law_law_441 : decode b_Law_law 441 = .ok (.iconst 2, 1) := by decide +kernel
theorem d_Law_law_442 : decode b_Law_law 442 = .ok (.iadd, 1) := by decide +kernel
theorem d_Law_law_443 : decode b_Law_law 443 = .ok (.iaload, 1) := by decide +kernel
theorem d_Law_law_444 : decode b_Law_law 444 = .ok (.invokevirtual 70, 3) := by decide +kernel
theorem d_Law_law_447 : decode b_Law_law 447 = .ok (.aload_n 2, 1) := by decide +kernel
theorem d_Law_law_448 : decode b_Law_law 448 = .ok (.aload_n 0, 1) := by decide +kernel
theorem d_Law_law_449 : decode b_Law_law 449 = .ok (.iload_n 3, 1) := by decide +kernel
theorem d_Law_law_450 : decode b_Law_law 450 = .ok (.iconst 1, 1) := by decide +kernel
theorem d_Law_law_451 : decode b_Law_law 451 = .ok (.iadd, 1) := by decide +kernel
theorem d_Law_law_452 : decode b_Law_law 452 = .ok (.iaload, 1) := by decide +kernel
theorem d_Law_law_453 : decode b_Law_law 453 = .ok (.aload_n 0, 1) := by decide +kernel
theorem d_Law_law_454 : decode b_Law_law 454 = .ok (.iload_n 3, 1) := by decide +kernel
theorem d_Law_law_455 : decode b_Law_law 455 = .ok (.iconst 2, 1) := by decide +kernel
theorem d_Law_law_456 : decode b_Law_law 456 = .ok (.iadd, 1) := by decide +kernel
theorem d_Law_law_457 : decode b_Law_law 457 = .ok (.iaload, 1) := by decide +kernel
theorem d_Law_law_458 : decode b_Law_law 458 = .ok (.invokevirtual 73, 3) := by decide +kernel
theorem d_Law_law_461 : decode b_Law_law 461 = .ok (.if_icmp .eq 170, 3) := by decide +kernel
theorem d_Law_law_464 : decode b_Law_law 464 = .ok (.iconst 0, 1) := by decide +kernel
theorem d_Law_law_465 : decode b_Law_law 465 = .ok (.ireturn, 1) := by decide +kernel
theorem d_Law_law_466 : decode b_Law_law 466 = .ok (.aload_n 1, 1) := by decide +kernel
theorem d_Law_law_467 : decode b_Law_law 467 = .ok (.aload_n 0, 1) := by decide +kernel
theorem d_Law_law_468 : decode b_Law_law 468 = .ok (.iload_n 3, 1) := by decide +kernel
theorem d_Law_law_469 : decode b_Law_law 469 = .ok (.iconst 1, 1) := by decide +kernel
theorem d_Law_law_470 : decode b_Law_law 470 = .ok (.iadd, 1) := by decide +kernel
theorem d_Law_law_471 : decode b_Law_law 471 = .ok (.iaload, 1) := by decide +kernel
theorem d_Law_law_472 : decode b_Law_law 472 = .ok (.aload_n 0, 1) := by decide +kernel
theorem d_Law_law_473 : decode b_Law_law 473 = .ok (.iload_n 3, 1) := by decide +kernel
theorem d_Law_law_474 : decode b_Law_law 474 = .ok (.iconst 2, 1) := by decide +kernel
theorem d_Law_law_475 : decode b_Law_law 475 = .ok (.iadd, 1) := by decide +kernel
theorem d_Law_law_476 : decode b_Law_law 476 = .ok (.iaload, 1) := by decide +kernel
theorem d_Law_law_477 : decode b_Law_law 477 = .ok (.invokevirtual 74, 3) := by decide +kernel
theorem d_Law_law_480 : decode b_Law_law 480 = .ok (.aload_n 2, 1) := by decide +kernel
theorem d_Law_law_481 : decode b_Law_law 481 = .ok (.aload_n 0, 1) := by decide +kernel
theorem d_Law_law_482 : decode b_Law_law 482 = .ok (.iload_n 3, 1) := by decide +kernel
theorem d_Law_law_483 : decode b_Law_law 483 = .ok (.iconst 1, 1) := by decide +kernel
theorem d_Law_law_484 : decode b_Law_law 484 = .ok (.iadd, 1) := by decide +kernel
theorem d_Law_law_485 : decode b_Law_law 485 = .ok (.iaload, 1) := by decide +kernel
theorem d_Law_law_486 : decode b_Law_law 486 = .ok (.aload_n 0, 1) := by decide +kernel
theorem d_Law_law_487 : decode b_Law_law 487 = .ok (.iload_n 3, 1) := by decide +kernel
theorem d_Law_law_488 : decode b_Law_law 488 = .ok (.iconst 2, 1) := by decide +kernel
theorem d_Law_law_489 : decode b_Law_law 489 = .ok (.iadd, 1) := by decide +kernel
theorem d_Law_law_490 : decode b_Law_law 490 = .ok (.iaload, 1) := by decide +kernel
theorem d_Law_law_491 : decode b_Law_law 491 = .ok (.invokevirtual 77, 3) := by decide +kernel
theorem d_Law_law_494 : decode b_Law_law 494 = .ok (.if_icmp .eq 137, 3) := by decide +kernel
theorem d_Law_law_497 : decode b_Law_law 497 = .ok (.iconst 0, 1) := by decide +kernel
theorem d_Law_law_498 : decode b_Law_law 498 = .ok (.ireturn, 1) := by decide +kernel
theorem d_Law_law_499 : decode b_Law_law 499 = .ok (.aload_n 1, 1) := by decide +kernel
theorem d_Law_law_500 : decode b_Law_law 500 = .ok (.aload_n 0, 1) := by decide +kernel
theorem d_Law_law_501 : decode b_Law_law 501 = .ok (.iload_n 3, 1) := by decide +kernel
theorem d_Law_law_502 : decode b_Law_law 502 = .ok (.iconst 1, 1) := by decide +kernel
theorem d_Law_law_503 : decode b_Law_law 503 = .ok (.iadd, 1) := by decide +kernel
theorem d_Law_law_504 : decode b_Law_law 504 = .ok (.iaload, 1) := by decide +kernel
theorem d_Law_law_505 : decode b_Law_law 505 = .ok (.aload_n 0, 1) := by decide +kernel
theorem d_Law_law_506 : decode b_Law_law 506 = .ok (.iload_n 3, 1) := by decide +kernel
theorem d_Law_law_507 : decode b_Law_law 507 = .ok (.iconst 2, 1) := by decide +kernel
theorem d_Law_law_508 : decode b_Law_law 508 = .ok (.iadd, 1) := by decide +kernel
theorem d_Law_law_509 : decode b_Law_law 509 = .ok (.iaload, 1) := by decide +kernel
theorem d_Law_law_510 : decode b_Law_law 510 = .ok (.invokevirtual 78, 3) := by decide +kernel
theorem d_Law_law_513 : decode b_Law_law 513 = .ok (.aload_n 2, 1) := by decide +kernel
theorem d_Law_law_514 : decode b_Law_law 514 = .ok (.aload_n 0, 1) := by decide +kernel
theorem d_Law_law_515 : decode b_Law_law 515 = .ok (.iload_n 3, 1) := by decide +kernel
theorem d_Law_law_516 : decode b_Law_law 516 = .ok (.iconst 1, 1) := by decide +kernel
theorem d_Law_law_517 : decode b_Law_law 517 = .ok (.iadd, 1) := by decide +kernel
theorem d_Law_law_518 : decode b_Law_law 518 = .ok (.iaload, 1) := by decide +kernel
theorem d_Law_law_519 : decode b_Law_law 519 = .ok (.aload_n 0, 1) := by decide +kernel
theorem d_Law_law_520 : decode b_Law_law 520 = .ok (.iload_n 3, 1) := by decide +kernel
theorem d_Law_law_521 : decode b_Law_law 521 = .ok (.iconst 2, 1) := by decide +kernel
theorem d_Law_law_522 : decode b_Law_law 522 = .ok (.iadd, 1) := by decide +kernel
theorem d_Law_law_523 : decode b_Law_law 523 = .ok (.iaload, 1) := by decide +kernel
theorem d_Law_law_524 : decode b_Law_law 524 = .ok (.invokevirtual 81, 3) := by decide +kernel
theorem d_Law_law_527 : decode b_Law_law 527 = .ok (.if_icmp .eq 104, 3) := by decide +kernel
theorem d_Law_law_530 : decode b_Law_law 530 = .ok (.iconst 0, 1) := by decide +kernel
theorem d_Law_law_531 : decode b_Law_law 531 = .ok (.ireturn, 1) := by decide +kernel
theorem d_Law_law_532 : decode b_Law_law 532 = .ok (.aload_n 1, 1) := by decide +kernel
theorem d_Law_law_533 : decode b_Law_law 533 = .ok (.aload_n 0, 1) := by decide +kernel
theorem d_Law_law_534 : decode b_Law_law 534 = .ok (.iload_n 3, 1) := by decide +kernel
theorem d_Law_law_535 : decode b_Law_law 535 = .ok (.iconst 1, 1) := by decide +kernel
theorem d_Law_law_536 : decode b_Law_law 536 = .ok (.iadd, 1) := by decide +kernel
theorem d_Law_law_537 : decode b_Law_law 537 = .ok (.iaload, 1) := by decide +kernel
theorem d_Law_law_538 : decode b_Law_law 538 = .ok (.aload_n 0, 1) := by decide +kernel
theorem d_Law_law_539 : decode b_Law_law 539 = .ok (.iload_n 3, 1) := by decide +kernel
theorem d_Law_law_540 : decode b_Law_law 540 = .ok (.iconst 2, 1) := by decide +kernel
theorem d_Law_law_541 : decode b_Law_law 541 = .ok (.iadd, 1) := by decide +kernel
theorem d_Law_law_542 : decode b_Law_law 542 = .ok (.iaload, 1) := by decide +kernel
theorem d_Law_law_543 : decode b_Law_law 543 = .ok (.invokevirtual 82, 3) := by decide +kernel
theorem d_Law_law_546 : decode b_Law_law 546 = .ok (.aload_n 2, 1) := by decide +kernel
theorem d_Law_law_547 : decode b_Law_law 547 = .ok (.aload_n 0, 1) := by decide +kernel
theorem d_Law_law_548 : decode b_Law_law 548 = .ok (.iload_n 3, 1) := by decide +kernel
theorem d_Law_law_549 : decode b_Law_law 549 = .ok (.iconst 1, 1) := by decide +kernel
theorem d_Law_law_550 : decode b_Law_law 550 = .ok (.iadd, 1) := by decide +kernel
theorem d_Law_law_551 : decode b_Law_law 551 = .ok (.iaload, 1) := by decide +kernel
theorem d_Law_law_552 : decode b_Law_law 552 = .ok (.aload_n 0, 1) := by decide +kernel
theorem d_Law_law_553 : decode b_Law_law 553 = .ok (.iload_n 3, 1) := by decide +kernel
theorem d_Law_law_554 : decode b_Law_law 554 = .ok (.iconst 2, 1) := by decide +kernel
theorem d_Law_law_555 : decode b_Law_law 555 = .ok (.iadd, 1) := by decide +kernel
theorem d_Law_law_556 : decode b_Law_law 556 = .ok (.iaload, 1) := by decide +kernel
theorem d_Law_law_557 : decode b_Law_law 557 = .ok (.invokevirtual 85, 3) := by decide +kernel
theorem d_Law_law_560 : decode b_Law_law 560 = .ok (.if_icmp .eq 71, 3) := by decide +kernel
theorem d_Law_law_563 : decode b_Law_law 563 = .ok (.iconst 0, 1) := by decide +kernel
theorem d_Law_law_564 : decode b_Law_law 564 = .ok (.ireturn, 1) := by decide +kernel
theorem d_Law_law_565 : decode b_Law_law 565 = .ok (.aload_n 1, 1) := by decide +kernel
theorem d_Law_law_566 : decode b_Law_law 566 = .ok (.aload_n 0, 1) := by decide +kernel
theorem d_Law_law_567 : decode b_Law_law 567 = .ok (.iload_n 3, 1) := by decide +kernel
theorem d_Law_law_568 : decode b_Law_law 568 = .ok (.iconst 1, 1) := by decide +kernel
theorem d_Law_law_569 : decode b_Law_law 569 = .ok (.iadd, 1) := by decide +kernel
theorem d_Law_law_570 : decode b_Law_law 570 = .ok (.iaload, 1) := by decide +kernel
theorem d_Law_law_571 : decode b_Law_law 571 = .ok (.aload_n 0, 1) := by decide +kernel
theorem d_Law_law_572 : decode b_Law_law 572 = .ok (.iload_n 3, 1) := by decide +kernel
theorem d_Law_law_573 : decode b_Law_law 573 = .ok (.iconst 2, 1) := by decide +kernel
theorem d_Law_law_574 : decode b_Law_law 574 = .ok (.iadd, 1) := by decide +kernel
theorem d_Law_law_575 : decode b_Law_law 575 = .ok (.iaload, 1) := by decide +kernel
theorem d_Law_law_576 : decode b_Law_law 576 = .ok (.invokevirtual 86, 3) := by decide +kernel
theorem d_Law_law_579 : decode b_Law_law 579 = .ok (.aload_n 2, 1) := by decide +kernel
theorem d_Law_law_580 : decode b_Law_law 580 = .ok (.aload_n 0, 1) := by decide +kernel
theorem d_Law_law_581 : decode b_Law_law 581 = .ok (.iload_n 3, 1) := by decide +kernel
theorem d_Law_law_582 : decode b_Law_law 582 = .ok (.iconst 1, 1) := by decide +kernel
theorem d_Law_law_583 : decode b_Law_law 583 = .ok (.iadd, 1) := by decide +kernel
theorem d_Law_law_584 : decode b_Law_law 584 = .ok (.iaload, 1) := by decide +kernel
theorem d_Law_law_585 : decode b_Law_law 585 = .ok (.aload_n 0, 1) := by decide +kernel
theorem d_Law_law_586 : decode b_Law_law 586 = .ok (.iload_n 3, 1) := by decide +kernel
theorem d_Law_law_587 : decode b_Law_law 587 = .ok (.iconst 2, 1) := by decide +kernel
theorem d_Law_law_588 : decode b_Law_law 588 = .ok (.iadd, 1) := by decide +kernel
theorem d_Law_law_589 : decode b_Law_law 589 = .ok (.iaload, 1) := by decide +kernel
theorem d_Law_law_590 : decode b_Law_law 590 = .ok (.invokevirtual 89, 3) := by decide +kernel
theorem d_Law_law_593 : decode b_Law_law 593 = .ok (.if_icmp .eq 38, 3) := by decide +kernel
theorem d_Law_law_596 : decode b_Law_law 596 = .ok (.iconst 0, 1) := by decide +kernel
theorem d_Law_law_597 : decode b_Law_law 597 = .ok (.ireturn, 1) := by decide +kernel
theorem d_Law_law_598 : decode b_Law_law 598 = .ok (.aload_n 1, 1) := by decide +kernel
theorem d_Law_law_599 : decode b_Law_law 599 = .ok (.aload_n 0, 1) := by decide +kernel
theorem d_Law_law_600 : decode b_Law_law 600 = .ok (.iload_n 3, 1) := by decide +kernel
theorem d_Law_law_601 : decode b_Law_law 601 = .ok (.iconst 1, 1) := by decide +kernel
theorem d_Law_law_602 : decode b_Law_law 602 = .ok (.iadd, 1) := by decide +kernel
theorem d_Law_law_603 : decode b_Law_law 603 = .ok (.iaload, 1) := by decide +kernel
theorem d_Law_law_604 : decode b_Law_law 604 = .ok (.aload_n 0, 1) := by decide +kernel
theorem d_Law_law_605 : decode b_Law_law 605 = .ok (.iload_n 3, 1) := by decide +kernel
theorem d_Law_law_606 : decode b_Law_law 606 = .ok (.iconst 2, 1) := by decide +kernel
theorem d_Law_law_607 : decode b_Law_law 607 = .ok (.iadd, 1) := by decide +kernel
theorem d_Law_law_608 : decode b_Law_law 608 = .ok (.iaload, 1) := by decide +kernel
theorem d_Law_law_609 : decode b_Law_law 609 = .ok (.invokevirtual 90, 3) := by decide +kernel
theorem d_Law_law_612 : decode b_Law_law 612 = .ok (.aload_n 2, 1) := by decide +kernel
theorem d_Law_law_613 : decode b_Law_law 613 = .ok (.aload_n 0, 1) := by decide +kernel
theorem d_Law_law_614 : decode b_Law_law 614 = .ok (.iload_n 3, 1) := by decide +kernel
theorem d_Law_law_615 : decode b_Law_law 615 = .ok (.iconst 1, 1) := by decide +kernel
theorem d_Law_law_616 : decode b_Law_law 616 = .ok (.iadd, 1) := by decide +kernel
theorem d_Law_law_617 : decode b_Law_law 617 = .ok (.iaload, 1) := by decide +kernel
theorem d_Law_law_618 : decode b_Law_law 618 = .ok (.aload_n 0, 1) := by decide +kernel
theorem d_Law_law_619 : decode b_Law_law 619 = .ok (.iload_n 3, 1) := by decide +kernel
theorem d_Law_law_620 : decode b_Law_law 620 = .ok (.iconst 2, 1) := by decide +kernel
theorem d_Law_law_621 : decode b_Law_law 621 = .ok (.iadd, 1) := by decide +kernel
theorem d_Law_law_622 : decode b_Law_law 622 = .ok (.iaload, 1) := by decide +kernel
theorem d_Law_law_623 : decode b_Law_law 623 = .ok (.invokevirtual 93, 3) := by decide +kernel
theorem d_Law_law_626 : decode b_Law_law 626 = .ok (.if_icmp .eq 5, 3) := by decide +kernel
theorem d_Law_law_629 : decode b_Law_law 629 = .ok (.iconst 0, 1) := by decide +kernel
theorem d_Law_law_630 : decode b_Law_law 630 = .ok (.ireturn, 1) := by decide +kernel
theorem d_Law_law_631 : decode b_Law_law 631 = .ok (.iinc 3 5, 3) := by decide +kernel
theorem d_Law_law_634 : decode b_Law_law 634 = .ok (.goto (-606), 3) := by decide +kernel
theorem d_Law_law_637 : decode b_Law_law 637 = .ok (.iconst 1, 1) := by decide +kernel
theorem d_Law_law_638 : decode b_Law_law 638 = .ok (.ireturn, 1) := by decide +kernel
