theorem d_La_law_0 : decode Y_La_law.2.1 0 = .ok (.new 7, 3) := by decide +kernel
theorem d_La_law_3 : decode Y_La_law.2.1 3 = .ok (.dup, 1) := by decide +kernel
theorem d_La_law_4 : decode Y_La_law.2.1 4 = .ok (.invokespecial 9, 3) := by decide +kernel
theorem d_La_law_7 : decode Y_La_law.2.1 7 = .ok (.astore_n 1, 1) := by decide +kernel
theorem d_La_law_8 : decode Y_La_law.2.1 8 = .ok (.new 10, 3) := by decide +kernel
theorem d_La_law_11 : decode Y_La_law.2.1 11 = .ok (.dup, 1) := by decide +kernel
theorem d_La_law_12 : decode Y_La_law.2.1 12 = .ok (.invokespecial 12, 3) := by decide +kernel
theorem d_La_law_15 : decode Y_La_law.2.1 15 = .ok (.astore_n 2, 1) := by decide +kernel
theorem d_La_law_16 : decode Y_La_law.2.1 16 = .ok (.iconst 0, 1) := by decide +kernel
theorem d_La_law_17 : decode Y_La_law.2.1 17 = .ok (.istore_n 3, 1) := by decide +kernel
theorem d_La_law_18 : decode Y_La_law.2.1 18 = .ok (.iload_n 3, 1) := by decide +kernel
theorem d_La_law_19 : decode Y_La_law.2.1 19 = .ok (.aload_n 0, 1) := by decide +kernel
theorem d_La_law_20 : decode Y_La_law.2.1 20 = .ok (.arraylength, 1) := by decide +kernel
theorem d_La_law_21 : decode Y_La_law.2.1 21 = .ok (.iconst 4, 1) := by decide +kernel
theorem d_La_law_22 : decode Y_La_law.2.1 22 = .ok (.isub, 1) := by decide +kernel
theorem d_La_law_23 : decode Y_La_law.2.1 23 = .ok (.if_icmp .gt 782, 3) := by decide +kernel
theorem d_La_law_26 : decode Y_La_law.2.1 26 = .ok (.aload_n 0, 1) := by decide +kernel
theorem d_La_law_27 : decode Y_La_law.2.1 27 = .ok (.iload_n 3, 1) := by decide +kernel
theorem d_La_law_28 : decode Y_La_law.2.1 28 = .ok (.iaload, 1) := by decide +kernel
theorem d_La_law_29 : decode Y_La_law.2.1 29 = .ok (.bipush 31, 2) := by decide +kernel
theorem d_La_law_31 : decode Y_La_law.2.1 31 = .ok (.iand, 1) := by decide +kernel
theorem d_La_law_32 : decode Y_La_law.2.1 32 = .ok (.tableswitch 767 0 24 #[116, 139, 182, 215, 248, 307, 340, 353, 366, 389, 422, 445, 468, 501, 514, 547, 570, 583, 616, 639, 662, 685, 708, 721, 744], 116) := by decide +kernel
theorem d_La_law_148 : decode Y_La_law.2.1 148 = .ok (.aload_n 1, 1) := by decide +kernel
theorem d_La_law_149 : decode Y_La_law.2.1 149 = .ok (.aload_n 0, 1) := by decide +kernel
theorem d_La_law_150 : decode Y_La_law.2.1 150 = .ok (.iload_n 3, 1) := by decide +kernel
theorem d_La_law_151 : decode Y_La_law.2.1 151 = .ok (.iconst 1, 1) := by decide +kernel
theorem d_La_law_152 : decode Y_La_law.2.1 152 = .ok (.iadd, 1) := by decide +kernel
theorem d_La_law_153 : decode Y_La_law.2.1 153 = .ok (.iaload, 1) := by decide +kernel
theorem d_La_law_154 : decode Y_La_law.2.1 154 = .ok (.invokevirtual 13, 3) := by decide +kernel
theorem d_La_law_157 : decode Y_La_law.2.1 157 = .ok (.aload_n 2, 1) := by decide +kernel
theorem d_La_law_158 : decode Y_La_law.2.1 158 = .ok (.aload_n 0, 1) := by decide +kernel
theorem d_La_law_159 : decode Y_La_law.2.1 159 = .ok (.iload_n 3, 1) := by decide +kernel
theorem d_La_law_160 : decode Y_La_law.2.1 160 = .ok (.iconst 1, 1) := by decide +kernel
theorem d_La_law_161 : decode Y_La_law.2.1 161 = .ok (.iadd, 1) := by decide +kernel
theorem d_La_law_162 : decode Y_La_law.2.1 162 = .ok (.iaload, 1) := by decide +kernel
theorem d_La_law_163 : decode Y_La_law.2.1 163 = .ok (.invokevirtual 17, 3) := by decide +kernel
theorem d_La_law_166 : decode Y_La_law.2.1 166 = .ok (.if_icmp .eq 633, 3) := by decide +kernel
theorem d_La_law_169 : decode Y_La_law.2.1 169 = .ok (.iconst 0, 1) := by decide +kernel
theorem d_La_law_170 : decode Y_La_law.2.1 170 = .ok (.ireturn, 1) := by decide +kernel
theorem d_La_law_171 : decode Y_La_law.2.1 171 = .ok (.aload_n 1, 1) := by decide +kernel
theorem d_La_law_172 : decode Y_La_law.2.1 172 = .ok (.aload_n 0, 1) := by decide +kernel
theorem d_La_law_173 : decode Y_La_law.2.1 173 = .ok (.iload_n 3, 1) := by decide +kernel
theorem d_La_law_174 : decode Y_La_law.2.1 174 = .ok (.iconst 1, 1) := by decide +kernel
theorem d_La_law_175 : decode Y_La_law.2.1 175 = .ok (.iadd, 1) := by decide +kernel
theorem d_La_law_176 : decode Y_La_law.2.1 176 = .ok (.iaload, 1) := by decide +kernel
theorem d_La_law_177 : decode Y_La_law.2.1 177 = .ok (.aload_n 0, 1) := by decide +kernel
theorem d_La_law_178 : decode Y_La_law.2.1 178 = .ok (.iload_n 3, 1) := by decide +kernel
theorem d_La_law_179 : decode Y_La_law.2.1 179 = .ok (.iconst 2, 1) := by decide +kernel
theorem d_La_law_180 : decode Y_La_law.2.1 180 = .ok (.iadd, 1) := by decide +kernel
theorem d_La_law_181 : decode Y_La_law.2.1 181 = .ok (.iaload, 1) := by decide +kernel
theorem d_La_law_182 : decode Y_La_law.2.1 182 = .ok (.aload_n 0, 1) := by decide +kernel
theorem d_La_law_183 : decode Y_La_law.2.1 183 = .ok (.iload_n 3, 1) := by decide +kernel
theorem d_La_law_184 : decode Y_La_law.2.1 184 = .ok (.iconst 3, 1) := by decide +kernel
theorem d_La_law_185 : decode Y_La_law.2.1 185 = .ok (.iadd, 1) := by decide +kernel
theorem d_La_law_186 : decode Y_La_law.2.1 186 = .ok (.iaload, 1) := by decide +kernel
theorem d_La_law_187 : decode Y_La_law.2.1 187 = .ok (.invokevirtual 18, 3) := by decide +kernel
theorem d_La_law_190 : decode Y_La_law.2.1 190 = .ok (.aload_n 2, 1) := by decide +kernel
theorem d_La_law_191 : decode Y_La_law.2.1 191 = .ok (.aload_n 0, 1) := by decide +kernel
theorem d_La_law_192 : decode Y_La_law.2.1 192 = .ok (.iload_n 3, 1) := by decide +kernel
theorem d_La_law_193 : decode Y_La_law.2.1 193 = .ok (.iconst 1, 1) := by decide +kernel
theorem d_La_law_194 : decode Y_La_law.2.1 194 = .ok (.iadd, 1) := by decide +kernel
theorem d_La_law_195 : decode Y_La_law.2.1 195 = .ok (.iaload, 1) := by decide +kernel
theorem d_La_law_196 : decode Y_La_law.2.1 196 = .ok (.aload_n 0, 1) := by decide +kernel
theorem d_La_law_197 : decode Y_La_law.2.1 197 = .ok (.iload_n 3, 1) := by decide +kernel
theorem d_La_law_198 : decode Y_La_law.2.1 198 = .ok (.iconst 2, 1) := by decide +kernel
theorem d_La_law_199 : decode Y_La_law.2.1 199 = .ok (.iadd, 1) := by decide +kernel
theorem d_La_law_200 : decode Y_La_law.2.1 200 = .ok (.iaload, 1) := by decide +kernel
theorem d_La_law_201 : decode Y_La_law.2.1 201 = .ok (.aload_n 0, 1) := by decide +kernel
theorem d_La_law_202 : decode Y_La_law.2.1 202 = .ok (.iload_n 3, 1) := by decide +kernel
theorem d_La_law_203 : decode Y_La_law.2.1 203 = .ok (.iconst 3, 1) := by decide +kernel
theorem d_La_law_204 : decode Y_La_law.2.1 204 = .ok (.iadd, 1) := by decide +kernel
theorem d_La_law_205 : decode Y_La_law.2.1 205 = .ok (.iaload, 1) := by decide +kernel
theorem d_La_law_206 : decode Y_La_law.2.1 206 = .ok (.invokevirtual 22, 3) := by decide +kernel
theorem d_La_law_209 : decode Y_La_law.2.1 209 = .ok (.if_icmp .eq 590, 3) := by decide +kernel
theorem d_La_law_212 : decode Y_La_law.2.1 212 = .ok (.iconst 0, 1) := by decide +kernel
theorem d_La_law_213 : decode Y_La_law.2.1 213 = .ok (.ireturn, 1) := by decide +kernel
theorem d_La_law_214 : decode Y_La_law.2.1 214 = .ok (.aload_n 1, 1) := by decide +kernel
theorem d_La_law_215 : decode Y_La_law.2.1 215 = .ok (.aload_n 0, 1) := by decide +kernel
theorem d_La_law_216 : decode Y_La_law.2.1 216 = .ok (.iload_n 3, 1) := by decide +kernel
theorem d_La_law_217 : decode Y_La_law.2.1 217 = .ok (.iconst 1, 1) := by decide +kernel
theorem d_La_law_218 : decode Y_La_law.2.1 218 = .ok (.iadd, 1) := by decide +kernel
theorem d_La_law_219 : decode Y_La_law.2.1 219 = .ok (.iaload, 1) := by decide +kernel
theorem d_La_law_220 : decode Y_La_law.2.1 220 = .ok (.aload_n 0, 1) := by decide +kernel
theorem d_La_law_221 : decode Y_La_law.2.1 221 = .ok (.iload_n 3, 1) := by decide +kernel
theorem d_La_law_222 : decode Y_La_law.2.1 222 = .ok (.iconst 2, 1) := by decide +kernel
theorem d_La_law_223 : decode Y_La_law.2.1 223 = .ok (.iadd, 1) := by decide +kernel
theorem d_La_law_224 : decode Y_La_law.2.1 224 = .ok (.iaload, 1) := by decide +kernel
theorem d_La_law_225 : decode Y_La_law.2.1 225 = .ok (.invokevirtual 23, 3) := by decide +kernel
theorem d_La_law_228 : decode Y_La_law.2.1 228 = .ok (.aload_n 2, 1) := by decide +kernel
theorem d_La_law_229 : decode Y_La_law.2.1 229 = .ok (.aload_n 0, 1) := by decide +kernel
theorem d_La_law_230 : decode Y_La_law.2.1 230 = .ok (.iload_n 3, 1) := by decide +kernel
theorem d_La_law_231 : decode Y_La_law.2.1 231 = .ok (.iconst 1, 1) := by decide +kernel
theorem d_La_law_232 : decode Y_La_law.2.1 232 = .ok (.iadd, 1) := by decide +kernel
theorem d_La_law_233 : decode Y_La_law.2.1 233 = .ok (.iaload, 1) := by decide +kernel
theorem d_La_law_234 : decode Y_La_law.2.1 234 = .ok (.aload_n 0, 1) := by decide +kernel
theorem d_La_law_235 : decode Y_La_law.2.1 235 = .ok (.iload_n 3, 1) := by decide +kernel
theorem d_La_law_236 : decode Y_La_law.2.1 236 = .ok (.iconst 2, 1) := by decide +kernel
theorem d_La_law_237 : decode Y_La_law.2.1 237 = .ok (.iadd, 1) := by decide +kernel
theorem d_La_law_238 : decode Y_La_law.2.1 238 = .ok (.iaload, 1) := by decide +kernel
theorem d_La_law_239 : decode Y_La_law.2.1 239 = .ok (.invokevirtual 27, 3) := by decide +kernel
theorem d_La_law_242 : decode Y_La_law.2.1 242 = .ok (.if_icmp .eq 557, 3) := by decide +kernel
theorem d_La_law_245 : decode Y_La_law.2.1 245 = .ok (.iconst 0, 1) := by decide +kernel
theorem d_La_law_246 : decode Y_La_law.2.1 246 = .ok (.ireturn, 1) := by decide +kernel
theorem d_La_law_247 : decode Y_La_law.2.1 247 = .ok (.aload_n 1, 1) := by decide +kernel
theorem d_La_law_248 : decode Y_La_law.2.1 248 = .ok (.aload_n 0, 1) := by decide +kernel
theorem d_La_law_249 : decode Y_La_law.2.1 249 = .ok (.iload_n 3, 1) := by decide +kernel
theorem d_La_law_250 : decode Y_La_law.2.1 250 = .ok (.iconst 1, 1) := by decide +kernel
theorem d_La_law_251 : decode Y_La_law.2.1 251 = .ok (.iadd, 1) := by decide +kernel
theorem d_La_law_252 : decode Y_La_law.2.1 252 = .ok (.iaload, 1) := by decide +kernel
theorem d_La_law_253 : decode Y_La_law.2.1 253 = .ok (.aload_n 0, 1) := by decide +kernel
theorem d_La_law_254 : decode Y_La_law.2.1 254 = .ok (.iload_n 3, 1) := by decide +kernel
theorem d_La_law_255 : decode Y_La_law.2.1 255 = .ok (.iconst 2, 1) := by decide +kernel
theorem d_La_law_256 : decode Y_La_law.2.1 256 = .ok (.iadd, 1) := by decide +kernel
theorem d_La_law_257 : decode Y_La_law.2.1 257 = .ok (.iaload, 1) := by decide +kernel
theorem d_La_law_258 : decode Y_La_law.2.1 258 = .ok (.invokevirtual 28, 3) := by decide +kernel
theorem d_La_law_261 : decode Y_La_law.2.1 261 = .ok (.aload_n 2, 1) := by decide +kernel
theorem d_La_law_262 : decode Y_La_law.2.1 262 = .ok (.aload_n 0, 1) := by decide +kernel
theorem d_La_law_263 : decode Y_La_law.2.1 263 = .ok (.iload_n 3, 1) := by decide +kernel
theorem d_La_law_264 : decode Y_La_law.2.1 264 = .ok (.iconst 1, 1) := by decide +kernel
theorem d_La_law_265 : decode Y_La_law.2.1 265 = .ok (.iadd, 1) := by decide +kernel
theorem d_La_law_266 : decode Y_La_law.2.1 266 = .ok (.iaload, 1) := by decide +kernel
theorem d_La_law_267 : decode Y_La_law.2.1 267 = .ok (.aload_n 0, 1) := by decide +kernel
theorem d_La_law_268 : decode Y_La_law.2.1 268 = .ok (.iload_n 3, 1) := by decide +kernel
theorem d_La_law_269 : decode Y_La_law.2.1 269 = .ok (.iconst 2, 1) := by decide +kernel
theorem d_La_law_270 : decode Y_La_law.2.1 270 = .ok (.iadd, 1) := by decide +kernel
theorem d_La_law_271 : decode Y_La_law.2.1 271 = .ok (.iaload, 1) := by decide +kernel
theorem d_La_law_272 : decode Y_La_law.2.1 272 = .ok (.invokevirtual 31, 3) := by decide +kernel
theorem d_La_law_275 : decode Y_La_law.2.1 275 = .ok (.if_icmp .eq 524, 3) := by decide +kernel
theorem d_La_law_278 : decode Y_La_law.2.1 278 = .ok (.iconst 0, 1) := by decide +kernel
theorem d_La_law_279 : decode Y_La_law.2.1 279 = .ok (.ireturn, 1) := by decide +kernel
theorem d_La_law_280 : decode Y_La_law.2.1 280 = .ok (.aload_n 1, 1) := by decide +kernel
theorem d_La_law_281 : decode Y_La_law.2.1 281 = .ok (.aload_n 0, 1) := by decide +kernel
theorem d_La_law_282 : decode Y_La_law.2.1 282 = .ok (.iload_n 3, 1) := by decide +kernel
theorem d_La_law_283 : decode Y_La_law.2.1 283 = .ok (.iconst 1, 1) := by decide +kernel
theorem d_La_law_284 : decode Y_La_law.2.1 284 = .ok (.iadd, 1) := by decide +kernel
theorem d_La_law_285 : decode Y_La_law.2.1 285 = .ok (.iaload, 1) := by decide +kernel
theorem d_La_law_286 : decode Y_La_law.2.1 286 = .ok (.aload_n 0, 1) := by decide +kernel
theorem d_La_law_287 : decode Y_La_law.2.1 287 = .ok (.iload_n 3, 1) := by decide +kernel
theorem d_La_law_288 : decode Y_La_law.2.1 288 = .ok (.iconst 2, 1) := by decide +kernel
theorem d_La_law_289 : decode Y_La_law.2.1 289 = .ok (.iadd, 1) := by decide +kernel
theorem d_La_law_290 : decode Y_La_law.2.1 290 = .ok (.iaload, 1) := by decide +kernel
theorem d_La_law_291 : decode Y_La_law.2.1 291 = .ok (.aload_n 0, 1) := by decide +kernel
theorem d_La_law_292 : decode Y_La_law.2.1 292 = .ok (.iload_n 3, 1) := by decide +kernel
theorem d_La_law_293 : decode Y_La_law.2.1 293 = .ok (.iconst 3, 1) := by decide +kernel
theorem d_La_law_294 : decode Y_La_law.2.1 294 = .ok (.iadd, 1) := by decide +kernel
theorem d_La_law_295 : decode Y_La_law.2.1 295 = .ok (.iaload, 1) := by decide +kernel
theorem d_La_law_296 : decode Y_La_law.2.1 296 = .ok (.ifCond .eq 7, 3) := by decide +kernel
theorem d_La_law_299 : decode Y_La_law.2.1 299 = .ok (.iconst 1, 1) := by decide +kernel
theorem d_La_law_300 : decode Y_La_law.2.1 300 = .ok (.goto 4, 3) := by decide +kernel
theorem d_La_law_303 : decode Y_La_law.2.1 303 = .ok (.iconst 0, 1) := by decide +kernel
theorem d_La_law_304 : decode Y_La_law.2.1 304 = .ok (.invokevirtual 32, 3) := by decide +kernel
theorem d_La_law_307 : decode Y_La_law.2.1 307 = .ok (.aload_n 2, 1) := by decide +kernel
theorem d_La_law_308 : decode Y_La_law.2.1 308 = .ok (.aload_n 0, 1) := by decide +kernel
theorem d_La_law_309 : decode Y_La_law.2.1 309 = .ok (.iload_n 3, 1) := by decide +kernel
theorem d_La_law_310 : decode Y_La_law.2.1 310 = .ok (.iconst 1, 1) := by decide +kernel
theorem d_La_law_311 : decode Y_La_law.2.1 311 = .ok (.iadd, 1) := by decide +kernel
theorem d_La_law_312 : decode Y_La_law.2.1 312 = .ok (.iaload, 1) := by decide +kernel
theorem d_La_law_313 : decode Y_La_law.2.1 313 = .ok (.aload_n 0, 1) := by decide +kernel
theorem d_La_law_314 : decode Y_La_law.2.1 314 = .ok (.iload_n 3, 1) := by decide +kernel
theorem d_La_law_315 : decode Y_La_law.2.1 315 = .ok (.iconst 2, 1) := by decide +kernel
theorem d_La_law_316 : decode Y_La_law.2.1 316 = .ok (.iadd, 1) := by decide +kernel
theorem d_La_law_317 : decode Y_La_law.2.1 317 = .ok (.iaload, 1) := by decide +kernel
theorem d_La_law_318 : decode Y_La_law.2.1 318 = .ok (.aload_n 0, 1) := by decide +kernel
theorem d_La_law_319 : decode Y_La_law.2.1 319 = .ok (.iload_n 3, 1) := by decide +kernel
theorem d_La_law_320 : decode Y_La_law.2.1 320 = .ok (.iconst 3, 1) := by decide +kernel
theorem d_La_law_321 : decode Y_La_law.2.1 321 = .ok (.iadd, 1) := by decide +kernel
theorem d_La_law_322 : decode Y_La_law.2.1 322 = .ok (.iaload, 1) := by decide +kernel
theorem d_La_law_323 : decode Y_La_law.2.1 323 = .ok (.ifCond .eq 7, 3) := by decide +kernel
theorem d_La_law_326 : decode Y_La_law.2.1 326 = .ok (.iconst 1, 1) := by decide +kernel
theorem d_La_law_327 : decode Y_La_law.2.1 327 = .ok (.goto 4, 3) := by decide +kernel
theorem d_La_law_330 : decode Y_La_law.2.1 330 = .ok (.iconst 0, 1) := by decide +kernel
theorem d_La_law_331 : decode Y_La_law.2.1 331 = .ok (.invokevirtual 36, 3) := by decide +kernel
theorem d_La_law_334 : decode Y_La_law.2.1 334 = .ok (.if_icmp .eq 465, 3) := by decide +kernel
theorem d_La_law_337 : decode Y_La_law.2.1 337 = .ok (.iconst 0, 1) := by decide +kernel
theorem d_La_law_338 : decode Y_La_law.2.1 338 = .ok (.ireturn, 1) := by decide +kernel
theorem d_La_law_339 : decode Y_La_law.2.1 339 = .ok (.aload_n 1, 1) := by decide +kernel
theorem d_La_law_340 : decode Y_La_law.2.1 340 = .ok (.aload_n 0, 1) := by decide +kernel
theorem d_La_law_341 : decode Y_La_law.2.1 341 = .ok (.iload_n 3, 1) := by decide +kernel
theorem d_La_law_342 : decode Y_La_law.2.1 342 = .ok (.iconst 1, 1) := by decide +kernel
theorem d_La_law_343 : decode Y_La_law.2.1 343 = .ok (.iadd, 1) := by decide +kernel
theorem d_La_law_344 : decode Y_La_law.2.1 344 = .ok (.iaload, 1) := by decide +kernel
theorem d_La_law_345 : decode Y_La_law.2.1 345 = .ok (.aload_n 0, 1) := by decide +kernel
theorem d_La_law_346 : decode Y_La_law.2.1 346 = .ok (.iload_n 3, 1) := by decide +kernel
theorem d_La_law_347 : decode Y_La_law.2.1 347 = .ok (.iconst 2, 1) := by decide +kernel
theorem d_La_law_348 : decode Y_La_law.2.1 348 = .ok (.iadd, 1) := by decide +kernel
theorem d_La_law_349 : decode Y_La_law.2.1 349 = .ok (.iaload, 1) := by decide +kernel
theorem d_La_law_350 : decode Y_La_law.2.1 350 = .ok (.invokevirtual 37, 3) := by decide +kernel
theorem d_La_law_353 : decode Y_La_law.2.1 353 = .ok (.aload_n 2, 1) := by decide +kernel
theorem d_La_law_354 : decode Y_La_law.2.1 354 = .ok (.aload_n 0, 1) := by decide +kernel
theorem d_La_law_355 : decode Y_La_law.2.1 355 = .ok (.iload_n 3, 1) := by decide +kernel
theorem d_La_law_356 : decode Y_La_law.2.1 356 = .ok (.iconst 1, 1) := by decide +kernel
theorem d_La_law_357 : decode Y_La_law.2.1 357 = .ok (.iadd, 1) := by decide +kernel
theorem d_La_law_358 : decode Y_La_law.2.1 358 = .ok (.iaload, 1) := by decide +kernel
theorem d_La_law_359 : decode Y_La_law.2.1 359 = .ok (.aload_n 0, 1) := by decide +kernel
theorem d_La_law_360 : decode Y_La_law.2.1 360 = .ok (.iload_n 3, 1) := by decide +kernel
theorem d_La_law_361 : decode Y_La_law.2.1 361 = .ok (.iconst 2, 1) := by decide +kernel
theorem d_La_law_362 : decode Y_La_law.2.1 362 = .ok (.iadd, 1) := by decide +kernel
theorem d_La_law_363 : decode Y_La_law.2.1 363 = .ok (.iaload, 1) := by decide +kernel
theorem d_La_law_364 : decode Y_La_law.2.1 364 = .ok (.invokevirtual 40, 3) := by decide +kernel
theorem d_La_law_367 : decode Y_La_law.2.1 367 = .ok (.if_icmp .eq 432, 3) := by decide +kernel
theorem d_La_law_370 : decode Y_La_law.2.1 370 = .ok (.iconst 0, 1) := by decide +kernel
theorem d_La_law_371 : decode Y_La_law.2.1 371 = .ok (.ireturn, 1) := by decide +kernel
theorem d_La_law_372 : decode Y_La_law.2.1 372 = .ok (.aload_n 1, 1) := by decide +kernel
theorem d_La_law_373 : decode Y_La_law.2.1 373 = .ok (.invokevirtual 41, 3) := by decide +kernel
theorem d_La_law_376 : decode Y_La_law.2.1 376 = .ok (.aload_n 2, 1) := by decide +kernel
theorem d_La_law_377 : decode Y_La_law.2.1 377 = .ok (.invokevirtual 45, 3) := by decide +kernel
theorem d_La_law_380 : decode Y_La_law.2.1 380 = .ok (.if_icmp .eq 419, 3) := by decide +kernel
theorem d_La_law_383 : decode Y_La_law.2.1 383 = .ok (.iconst 0, 1) := by decide +kernel
theorem d_La_law_384 : decode Y_La_law.2.1 384 = .ok (.ireturn, 1) := by decide +kernel
theorem d_La_law_385 : decode Y_La_law.2.1 385 = .ok (.aload_n 1, 1) := by decide +kernel
theorem d_La_law_386 : decode Y_La_law.2.1 386 = .ok (.invokevirtual 46, 3) := by decide +kernel
theorem d_La_law_389 : decode Y_La_law.2.1 389 = .ok (.aload_n 2, 1) := by decide +kernel
theorem d_La_law_390 : decode Y_La_law.2.1 390 = .ok (.invokevirtual 49, 3) := by decide +kernel
theorem d_La_law_393 : decode Y_La_law.2.1 393 = .ok (.if_icmp .eq 406, 3) := by decide +kernel
theorem d_La_law_396 : decode Y_La_law.2.1 396 = .ok (.iconst 0, 1) := by decide +kernel
theorem d_La_law_397 : decode Y_La_law.2.1 397 = .ok (.ireturn, 1) := by decide +kernel
theorem d_La_law_398 : decode Y_La_law.2.1 398 = .ok (.aload_n 1, 1) := by decide +kernel
theorem d_La_law_399 : decode Y_La_law.2.1 399 = .ok (.aload_n 0, 1) := by decide +kernel
theorem d_La_law_400 : decode Y_La_law.2.1 400 = .ok (.iload_n 3, 1) := by decide +kernel
theorem d_La_law_401 : decode Y_La_law.2.1 401 = .ok (.iconst 1, 1) := by decide +kernel
theorem d_La_law_402 : decode Y_La_law.2.1 402 = .ok (.iadd, 1) := by decide +kernel
theorem d_La_law_403 : decode Y_La_law.2.1 403 = .ok (.iaload, 1) := by decide +kernel
theorem d_La_law_404 : decode Y_La_law.2.1 404 = .ok (.invokevirtual 50, 3) := by decide +kernel
theorem d_La_law_407 : decode Y_La_law.2.1 407 = .ok (.aload_n 2, 1) := by decide +kernel
theorem d_La_law_408 : decode Y_La_law.2.1 408 = .ok (.aload_n 0, 1) := by decide +kernel
theorem d_La_law_409 : decode Y_La_law.2.1 409 = .ok (.iload_n 3, 1) := by decide +kernel
theorem d_La_law_410 : decode Y_La_law.2.1 410 = .ok (.iconst 1, 1) := by decide +kernel
theorem d_La_law_411 : decode Y_La_law.2.1 411 = .ok (.iadd, 1) := by decide +kernel
theorem d_La_law_412 : decode Y_La_law.2.1 412 = .ok (.iaload, 1) := by decide +kernel
theorem d_La_law_413 : decode Y_La_law.2.1 413 = .ok (.invokevirtual 53, 3) := by decide +kernel
theorem d_La_law_416 : decode Y_La_law.2.1 416 = .ok (.if_icmp .eq 383, 3) := by decide +kernel
theorem d_La_law_419 : decode Y_La_law.2.1 419 = .ok (.iconst 0, 1) := by decide +kernel
theorem d_La_law_420 : decode Y_La_law.2.1 420 = .ok (.ireturn, 1) := by decide +kernel
theorem d_La_law_421 : decode Y_La_law.2.1 421 = .ok (.aload_n 1, 1) := by decide +kernel
theorem d_La_law_422 : decode Y_La_law.2.1 422 = .ok (.aload_n 0, 1) := by decide +kernel
theorem d_La_law_423 : decode Y_La_law.2.1 423 = .ok (.iload_n 3, 1) := by decide +kernel
theorem d_La_law_424 : decode Y_La_law.2.1 424 = .ok (.iconst 1, 1) := by decide +kernel
theorem d_La_law_425 : decode Y_La_law.2.1 425 = .ok (.iadd, 1) := by decide +kernel
theorem d_La_law_426 : decode Y_La_law.2.1 426 = .ok (.iaload, 1) := by decide +kernel
theorem d_La_law_427 : decode Y_La_law.2.1 427 = .ok (.aload_n 0, 1) := by decide +kernel
theorem d_La_law_428 : decode Y_La_law.2.1 428 = .ok (.iload_n 3, 1) := by decide +kernel
theorem d_La_law_429 : decode Y_La_law.2.1 429 = .ok (.iconst 2, 1) := by decide +kernel
theorem d_La_law_430 : decode Y_La_law.2.1 430 = .ok (.iadd, 1) := by decide +kernel
theorem d_La_law_431 : decode Y_La_law.2.1 431 = .ok (.iaload, 1) := by decide +kernel
theorem d_La_law_432 : decode Y_La_law.2.1 432 = .ok (.invokevirtual 54, 3) := by decide +kernel
theorem d_La_law_435 : decode Y_La_law.2.1 435 = .ok (.aload_n 2, 1) := by decide +kernel
theorem d_La_law_436 : decode Y_La_law.2.1 436 = .ok (.aload_n 0, 1) := by decide +kernel
theorem d_La_law_437 : decode Y_La_law.2.1 437 = .ok (.iload_n 3, 1) := by decide +kernel
theorem d_La_law_438 : decode Y_La_law.2.1 438 = .ok (.iconst 1, 1) := by decide +kernel
theorem d_La_law_439 : decode Y_La_law.2.1 439 = .ok (.iadd, 1) := by decide +kernel
theorem d_La_law_440 : decode Y_La_law.2.1 440 = .ok (.iaload, 1) := by decide +kernel
theorem d_La_law_441 : decode Y_La_law.2.1 441 = .ok (.aload_n 0, 1) := by decide +kernel
theorem d_La_law_442 : decode Y_La_law.2.1 442 = .ok (.iload_n 3, 1) := by decide +kernel
theorem d_La_law_443 : decode Y_La_law.2.1 443 = .ok (.iconst 2, 1) := by decide +kernel
theorem d_La_law_444 : decode Y_La_law.2.1 444 = .ok (.iadd, 1) := by decide +kernel
theorem d_La_law_445 : decode Y_La_law.2.1 445 = .ok (.iaload, 1) := by decide +kernel
theorem d_La_law_446 : decode Y_La_law.2.1 446 = .ok (.invokevirtual 57, 3) := by decide +kernel
theorem d_La_law_449 : decode Y_La_law.2.1 449 = .ok (.if_icmp .eq 350, 3) := by decide +kernel
theorem d_La_law_452 : decode Y_La_law.2.1 452 = .ok (.iconst 0, 1) := by decide +kernel
theorem d_La_law_453 : decode Y_La_law.2.1 453 = .ok (.ireturn, 1) := by decide +kernel
theorem d_La_law_454 : decode Y_La_law.2.1 454 = .ok (.aload_n 1, 1) := by decide +kernel
theorem d_La_law_455 : decode Y_La_law.2.1 455 = .ok (.aload_n 0, 1) := by decide +kernel
theorem d_La_law_456 : decode Y_La_law.2.1 456 = .ok (.iload_n 3, 1) := by decide +kernel
theorem d_La_law_457 : decode Y_La_law.2.1 457 = .ok (.iconst 1, 1) := by decide +kernel
theorem d_La_law_458 : decode Y_La_law.2.1 458 = .ok (.iadd, 1) := by decide +kernel
theorem d_La_law_459 : decode Y_La_law.2.1 459 = .ok (.iaload, 1) := by decide +kernel
theorem d_La_law_460 : decode Y_La_law.2.1 460 = .ok (.invokevirtual 58, 3) := by decide +kernel
theorem d_La_law_463 : decode Y_La_law.2.1 463 = .ok (.aload_n 2, 1) := by decide +kernel
theorem d_La_law_464 : decode Y_La_law.2.1 464 = .ok (.aload_n 0, 1) := by decide +kernel
theorem d_La_law_465 : decode Y_La_law.2.1 465 = .ok (.iload_n 3, 1) := by decide +kernel
theorem d_La_law_466 : decode Y_La_law.2.1 466 = .ok (.iconst 1, 1) := by decide +kernel
theorem d_La_law_467 : decode Y_La_law.2.1 467 = .ok (.iadd, 1) := by decide +kernel
theorem d_La_law_468 : decode Y_La_law.2.1 468 = .ok (.iaload, 1) := by decide +kernel
theorem d_La_law_469 : decode Y_La_law.2.1 469 = .ok (.invokevirtual 61, 3) := by decide +kernel
theorem d_La_law_472 : decode Y_La_law.2.1 472 = .ok (.if_icmp .eq 327, 3) := by decide +kernel
theorem d_La_law_475 : decode Y_La_law.2.1 475 = .ok (.iconst 0, 1) := by decide +kernel
theorem d_La_law_476 : decode Y_La_law.2.1 476 = .ok (.ireturn, 1) := by decide +kernel
theorem d_La_law_477 : decode Y_La_law.2.1 477 = .ok (.aload_n 1, 1) := by decide +kernel
theorem d_La_law_478 : decode Y_La_law.2.1 478 = .ok (.aload_n 0, 1) := by decide +kernel
theorem d_La_law_479 : decode Y_La_law.2.1 479 = .ok (.iload_n 3, 1) := by decide +kernel
theorem d_La_law_480 : decode Y_La_law.2.1 480 = .ok (.iconst 1, 1) := by decide +kernel
theorem d_La_law_481 : decode Y_La_law.2.1 481 = .ok (.iadd, 1) := by decide +kernel
theorem d_La_law_482 : decode Y_La_law.2.1 482 = .ok (.iaload, 1) := by decide +kernel
theorem d_La_law_483 : decode Y_La_law.2.1 483 = .ok (.invokevirtual 62, 3) := by decide +kernel
theorem d_La_law_486 : decode Y_La_law.2.1 486 = .ok (.aload_n 2, 1) := by decide +kernel
theorem d_La_law_487 : decode Y_La_law.2.1 487 = .ok (.aload_n 0, 1) := by decide +kernel
theorem d_La_law_488 : decode Y_La_law.2.1 488 = .ok (.iload_n 3, 1) := by decide +kernel
theorem d_La_law_489 : decode Y_La_law.2.1 489 = .ok (.iconst 1, 1) := by decide +kernel
theorem d_La_law_490 : decode Y_La_law.2.1 490 = .ok (.iadd, 1) := by decide +kernel
theorem d_La_law_491 : decode Y_La_law.2.1 491 = .ok (.iaload, 1) := by decide +kernel
theorem d_La_law_492 : decode Y_La_law.2.1 492 = .ok (.invokevirtual 65, 3) := by decide +kernel
theorem d_La_law_495 : decode Y_La_law.2.1 495 = .ok (.if_icmp .eq 304, 3) := by decide +kernel
theorem d_La_law_498 : decode Y_La_law.2.1 498 = .ok (.iconst 0, 1) := by decide +kernel
theorem d_La_law_499 : decode Y_La_law.2.1 499 = .ok (.ireturn, 1) := by decide +kernel
theorem d_La_law_500 : decode Y_La_law.2.1 500 = .ok (.aload_n 1, 1) := by decide +kernel
theorem d_La_law_501 : decode Y_La_law.2.1 501 = .ok (.aload_n 0, 1) := by decide +kernel
theorem d_La_law_502 : decode Y_La_law.2.1 502 = .ok (.iload_n 3, 1) := by decide +kernel
theorem d_La_law_503 : decode Y_La_law.2.1 503 = .ok (.iconst 1, 1) := by decide +kernel
theorem d_La_law_504 : decode Y_La_law.2.1 504 = .ok (.iadd, 1) := by decide +kernel
theorem d_La_law_505 : decode Y_La_law.2.1 505 = .ok (.iaload, 1) := by decide +kernel
theorem d_La_law_506 : decode Y_La_law.2.1 506 = .ok (.aload_n 0, 1) := by decide +kernel
theorem d_La_law_507 : decode Y_La_law.2.1 507 = .ok (.iload_n 3, 1) := by decide +kernel
theorem d_La_law_508 : decode Y_La_law.2.1 508 = .ok (.iconst 2, 1) := by decide +kernel
theorem d_La_law_509 : decode Y_La_law.2.1 509 = .ok (.iadd, 1) := by decide +kernel
theorem d_La_law_510 : decode Y_La_law.2.1 510 = .ok (.iaload, 1) := by decide +kernel
theorem d_La_law_511 : decode Y_La_law.2.1 511 = .ok (.invokevirtual 66, 3) := by decide +kernel
theorem d_La_law_514 : decode Y_La_law.2.1 514 = .ok (.aload_n 2, 1) := by decide +kernel
theorem d_La_law_515 : decode Y_La_law.2.1 515 = .ok (.aload_n 0, 1) := by decide +kernel
theorem d_La_law_516 : decode Y_La_law.2.1 516 = .ok (.iload_n 3, 1) := by decide +kernel
theorem d_La_law_517 : decode Y_La_law.2.1 517 = .ok (.iconst 1, 1) := by decide +kernel
theorem d_La_law_518 : decode Y_La_law.2.1 518 = .ok (.iadd, 1) := by decide +kernel
theorem d_La_law_519 : decode Y_La_law.2.1 519 = .ok (.iaload, 1) := by decide +kernel
theorem d_La_law_520 : decode Y_La_law.2.1 520 = .ok (.aload_n 0, 1) := by decide +kernel
theorem d_La_law_521 : decode Y_La_law.2.1 521 = .ok (.iload_n 3, 1) := by decide +kernel
theorem d_La_law_522 : decode Y_La_law.2.1 522 = .ok (.iconst 2, 1) := by decide +kernel
theorem d_La_law_523 : decode Y_La_law.2.1 523 = .ok (.iadd, 1) := by decide +kernel
theorem d_La_law_524 : decode Y_La_law.2.1 524 = .ok (.iaload, 1) := by decide +kernel
theorem d_La_law_525 : decode Y_La_law.2.1 525 = .ok (.invokevirtual 69, 3) := by decide +kernel
theorem d_La_law_528 : decode Y_La_law.2.1 528 = .ok (.if_icmp .eq 271, 3) := by decide +kernel
theorem d_La_law_531 : decode Y_La_law.2.1 531 = .ok (.iconst 0, 1) := by decide +kernel
theorem d_La_law_532 : decode Y_La_law.2.1 532 = .ok (.ireturn, 1) := by decide +kernel
theorem d_La_law_533 : decode Y_La_law.2.1 533 = .ok (.aload_n 1, 1) := by decide +kernel
theorem d_La_law_534 : decode Y_La_law.2.1 534 = .ok (.invokevirtual 70, 3) := by decide +kernel
theorem d_La_law_537 : decode Y_La_law.2.1 537 = .ok (.aload_n 2, 1) := by decide +kernel
theorem d_La_law_538 : decode Y_La_law.2.1 538 = .ok (.invokevirtual 73, 3) := by decide +kernel
theorem d_La_law_541 : decode Y_La_law.2.1 541 = .ok (.if_icmp .eq 258, 3) := by decide +kernel
theorem d_La_law_544 : decode Y_La_law.2.1 544 = .ok (.iconst 0, 1) := by decide +kernel
theorem d_La_law_545 : decode Y_La_law.2.1 545 = .ok (.ireturn, 1) := by decide +kernel
theorem d_La_law_546 : decode Y_La_law.2.1 546 = .ok (.aload_n 1, 1) := by decide +kernel
theorem d_La_law_547 : decode Y_La_law.2.1 547 = .ok (.aload_n 0, 1) := by decide +kernel
theorem d_La_law_548 : decode Y_La_law.2.1 548 = .ok (.iload_n 3, 1) := by decide +kernel
theorem d_La_law_549 : decode Y_La_law.2.1 549 = .ok (.iconst 1, 1) := by decide +kernel
theorem d_La_law_550 : decode Y_La_law.2.1 550 = .ok (.iadd, 1) := by decide +kernel
theorem d_La_law_551 : decode Y_La_law.2.1 551 = .ok (.iaload, 1) := by decide +kernel
theorem d_La_law_552 : decode Y_La_law.2.1 552 = .ok (.aload_n 0, 1) := by decide +kernel
theorem d_La_law_553 : decode Y_La_law.2.1 553 = .ok (.iload_n 3, 1) := by decide +kernel
theorem d_La_law_554 : decode Y_La_law.2.1 554 = .ok (.iconst 2, 1) := by decide +kernel
theorem d_La_law_555 : decode Y_La_law.2.1 555 = .ok (.iadd, 1) := by decide +kernel
theorem d_La_law_556 : decode Y_La_law.2.1 556 = .ok (.iaload, 1) := by decide +kernel
theorem d_La_law_557 : decode Y_La_law.2.1 557 = .ok (.invokevirtual 74, 3) := by decide +kernel
theorem d_La_law_560 : decode Y_La_law.2.1 560 = .ok (.aload_n 2, 1) := by decide +kernel
theorem d_La_law_561 : decode Y_La_law.2.1 561 = .ok (.aload_n 0, 1) := by decide +kernel
theorem d_La_law_562 : decode Y_La_law.2.1 562 = .ok (.iload_n 3, 1) := by decide +kernel
theorem d_La_law_563 : decode Y_La_law.2.1 563 = .ok (.iconst 1, 1) := by decide +kernel
theorem d_La_law_564 : decode Y_La_law.2.1 564 = .ok (.iadd, 1) := by decide +kernel
theorem d_La_law_565 : decode Y_La_law.2.1 565 = .ok (.iaload, 1) := by decide +kernel
theorem d_La_law_566 : decode Y_La_law.2.1 566 = .ok (.aload_n 0, 1) := by decide +kernel
theorem d_La_law_567 : decode Y_La_law.2.1 567 = .ok (.iload_n 3, 1) := by decide +kernel
theorem d_La_law_568 : decode Y_La_law.2.1 568 = .ok (.iconst 2, 1) := by decide +kernel
theorem d_La_law_569 : decode Y_La_law.2.1 569 = .ok (.iadd, 1) := by decide +kernel
theorem d_La_law_570 : decode Y_La_law.2.1 570 = .ok (.iaload, 1) := by decide +kernel
theorem d_La_law_571 : decode Y_La_law.2.1 571 = .ok (.invokevirtual 77, 3) := by decide +kernel
theorem d_La_law_574 : decode Y_La_law.2.1 574 = .ok (.if_icmp .eq 225, 3) := by decide +kernel
theorem d_La_law_577 : decode Y_La_law.2.1 577 = .ok (.iconst 0, 1) := by decide +kernel
theorem d_La_law_578 : decode Y_La_law.2.1 578 = .ok (.ireturn, 1) := by decide +kernel
theorem d_La_law_579 : decode Y_La_law.2.1 579 = .ok (.aload_n 1, 1) := by decide +kernel
theorem d_La_law_580 : decode Y_La_law.2.1 580 = .ok (.aload_n 0, 1) := by decide +kernel
theorem d_La_law_581 : decode Y_La_law.2.1 581 = .ok (.iload_n 3, 1) := by decide +kernel
theorem d_La_law_582 : decode Y_La_law.2.1 582 = .ok (.iconst 1, 1) := by decide +kernel
theorem d_La_law_583 : decode Y_La_law.2.1 583 = .ok (.iadd, 1) := by decide +kernel
theorem d_La_law_584 : decode Y_La_law.2.1 584 = .ok (.iaload, 1) := by decide +kernel
theorem d_La_law_585 : decode Y_La_law.2.1 585 = .ok (.invokevirtual 78, 3) := by decide +kernel
theorem d_La_law_588 : decode Y_La_law.2.1 588 = .ok (.aload_n 2, 1) := by decide +kernel
theorem d_La_law_589 : decode Y_La_law.2.1 589 = .ok (.aload_n 0, 1) := by decide +kernel
theorem d_La_law_590 : decode Y_La_law.2.1 590 = .ok (.iload_n 3, 1) := by decide +kernel
theorem d_La_law_591 : decode Y_La_law.2.1 591 = .ok (.iconst 1, 1) := by decide +kernel
theorem d_La_law_592 : decode Y_La_law.2.1 592 = .ok (.iadd, 1) := by decide +kernel
theorem d_La_law_593 : decode Y_La_law.2.1 593 = .ok (.iaload, 1) := by decide +kernel
theorem d_La_law_594 : decode Y_La_law.2.1 594 = .ok (.invokevirtual 81, 3) := by decide +kernel
theorem d_La_law_597 : decode Y_La_law.2.1 597 = .ok (.if_icmp .eq 202, 3) := by decide +kernel
theorem d_La_law_600 : decode Y_La_law.2.1 600 = .ok (.iconst 0, 1) := by decide +kernel
theorem d_La_law_601 : decode Y_La_law.2.1 601 = .ok (.ireturn, 1) := by decide +kernel
theorem d_La_law_602 : decode Y_La_law.2.1 602 = .ok (.aload_n 1, 1) := by decide +kernel
theorem d_La_law_603 : decode Y_La_law.2.1 603 = .ok (.invokevirtual 82, 3) := by decide +kernel
theorem d_La_law_606 : decode Y_La_law.2.1 606 = .ok (.aload_n 2, 1) := by decide +kernel
theorem d_La_law_607 : decode Y_La_law.2.1 607 = .ok (.invokevirtual 85, 3) := by decide +kernel
theorem d_La_law_610 : decode Y_La_law.2.1 610 = .ok (.if_icmp .eq 189, 3) := by decide +kernel
theorem d_La_law_613 : decode Y_La_law.2.1 613 = .ok (.iconst 0, 1) := by decide +kernel
theorem d_La_law_614 : decode Y_La_law.2.1 614 = .ok (.ireturn, 1) := by decide +kernel
theorem d_La_law_615 : decode Y_La_law.2.1 615 = .ok (.aload_n 1, 1) := by decide +kernel
theorem d_La_law_616 : decode Y_La_law.2.1 616 = .ok (.aload_n 0, 1) := by decide +kernel
theorem d_La_law_617 : decode Y_La_law.2.1 617 = .ok (.iload_n 3, 1) := by decide +kernel
theorem d_La_law_618 : decode Y_La_law.2.1 618 = .ok (.iconst 1, 1) := by decide +kernel
theorem d_La_law_619 : decode Y_La_law.2.1 619 = .ok (.iadd, 1) := by decide +kernel
theorem d_La_law_620 : decode Y_La_law.2.1 620 = .ok (.iaload, 1) := by decide +kernel
theorem d_La_law_621 : decode Y_La_law.2.1 621 = .ok (.aload_n 0, 1) := by decide +kernel
theorem d_La_law_622 : decode Y_La_law.2.1 622 = .ok (.iload_n 3, 1) := by decide +kernel
theorem d_La_law_623 : decode Y_La_law.2.1 623 = .ok (.iconst 2, 1) := by decide +kernel
theorem d_La_law_624 : decode Y_La_law.2.1 624 = .ok (.iadd, 1) := by decide +kernel
theorem d_La_law_625 : decode Y_La_law.2.1 625 = .ok (.iaload, 1) := by decide +kernel
theorem d_La_law_626 : decode Y_La_law.2.1 626 = .ok (.invokevirtual 86, 3) := by decide +kernel
theorem d_La_law_629 : decode Y_La_law.2.1 629 = .ok (.aload_n 2, 1) := by decide +kernel
theorem d_La_law_630 : decode Y_La_law.2.1 630 = .ok (.aload_n 0, 1) := by decide +kernel
theorem d_La_law_631 : decode Y_La_law.2.1 631 = .ok (.iload_n 3, 1) := by decide +kernel
theorem d_La_law_632 : decode Y_La_law.2.1 632 = .ok (.iconst 1, 1) := by decide +kernel
theorem d_La_law_633 : decode Y_La_law.2.1 633 = .ok (.iadd, 1) := by decide +kernel
theorem d_La_law_634 : decode Y_La_law.2.1 634 = .ok (.iaload, 1) := by decide +kernel
theorem d_La_law_635 : decode Y_La_law.2.1 635 = .ok (.aload_n 0, 1) := by decide +kernel
theorem d_La_law_636 : decode Y_La_law.2.1 636 = .ok (.iload_n 3, 1) := by decide +kernel
theorem d_La_law_637 : decode Y_La_law.2.1 637 = .ok (.iconst 2, 1) := by decide +kernel
theorem d_La_law_638 : decode Y_La_law.2.1 638 = .ok (.iadd, 1) := by decide +kernel
theorem d_La_law_639 : decode Y_La_law.2.1 639 = .ok (.iaload, 1) := by decide +kernel
theorem d_La_law_640 : decode Y_La_law.2.1 640 = .ok (.invokevirtual 89, 3) := by decide +kernel
theorem d_La_law_643 : decode Y_La_law.2.1 643 = .ok (.if_icmp .eq 156, 3) := by decide +kernel
theorem d_La_law_646 : decode Y_La_law.2.1 646 = .ok (.iconst 0, 1) := by decide +kernel
theorem d_La_law_647 : decode Y_La_law.2.1 647 = .ok (.ireturn, 1) := by decide +kernel
theorem d_La_law_648 : decode Y_La_law.2.1 648 = .ok (.aload_n 1, 1) := by decide +kernel
theorem d_La_law_649 : decode Y_La_law.2.1 649 = .ok (.aload_n 0, 1) := by decide +kernel
theorem d_La_law_650 : decode Y_La_law.2.1 650 = .ok (.iload_n 3, 1) := by decide +kernel
theorem d_La_law_651 : decode Y_La_law.2.1 651 = .ok (.iconst 1, 1) := by decide +kernel
theorem d_La_law_652 : decode Y_La_law.2.1 652 = .ok (.iadd, 1) := by decide +kernel
theorem d_La_law_653 : decode Y_La_law.2.1 653 = .ok (.iaload, 1) := by decide +kernel
theorem d_La_law_654 : decode Y_La_law.2.1 654 = .ok (.invokevirtual 90, 3) := by decide +kernel
theorem d_La_law_657 : decode Y_La_law.2.1 657 = .ok (.aload_n 2, 1) := by decide +kernel
theorem d_La_law_658 : decode Y_La_law.2.1 658 = .ok (.aload_n 0, 1) := by decide +kernel
theorem d_La_law_659 : decode Y_La_law.2.1 659 = .ok (.iload_n 3, 1) := by decide +kernel
theorem d_La_law_660 : decode Y_La_law.2.1 660 = .ok (.iconst 1, 1) := by decide +kernel
theorem d_La_law_661 : decode Y_La_law.2.1 661 = .ok (.iadd, 1) := by decide +kernel
theorem d_La_law_662 : decode Y_La_law.2.1 662 = .ok (.iaload, 1) := by decide +kernel
theorem d_La_law_663 : decode Y_La_law.2.1 663 = .ok (.invokevirtual 93, 3) := by decide +kernel
theorem d_La_law_666 : decode Y_La_law.2.1 666 = .ok (.if_icmp .eq 133, 3) := by decide +kernel
theorem d_La_law_669 : decode Y_La_law.2.1 669 = .ok (.iconst 0, 1) := by decide +kernel
theorem d_La_law_670 : decode Y_La_law.2.1 670 = .ok (.ireturn, 1) := by decide +kernel
theorem d_La_law_671 : decode Y_La_law.2.1 671 = .ok (.aload_n 1, 1) := by decide +kernel
theorem d_La_law_672 : decode Y_La_law.2.1 672 = .ok (.aload_n 0, 1) := by decide +kernel
theorem d_La_law_673 : decode Y_La_law.2.1 673 = .ok (.iload_n 3, 1) := by decide +kernel
theorem d_La_law_674 : decode Y_La_law.2.1 674 = .ok (.iconst 1, 1) := by decide +kernel
theorem d_La_law_675 : decode Y_La_law.2.1 675 = .ok (.iadd, 1) := by decide +kernel
theorem d_La_law_676 : decode Y_La_law.2.1 676 = .ok (.iaload, 1) := by decide +kernel
theorem d_La_law_677 : decode Y_La_law.2.1 677 = .ok (.invokevirtual 94, 3) := by decide +kernel
theorem d_La_law_680 : decode Y_La_law.2.1 680 = .ok (.aload_n 2, 1) := by decide +kernel
theorem d_La_law_681 : decode Y_La_law.2.1 681 = .ok (.aload_n 0, 1) := by decide +kernel
theorem d_La_law_682 : decode Y_La_law.2.1 682 = .ok (.iload_n 3, 1) := by decide +kernel
theorem d_La_law_683 : decode Y_La_law.2.1 683 = .ok (.iconst 1, 1) := by decide +kernel
theorem d_La_law_684 : decode Y_La_law.2.1 684 = .ok (.iadd, 1) := by decide +kernel
theorem d_La_law_685 : decode Y_La_law.2.1 685 = .ok (.iaload, 1) := by decide +kernel
theorem d_La_law_686 : decode Y_La_law.2.1 686 = .ok (.invokevirtual 97, 3) := by decide +kernel
theorem d_La_law_689 : decode Y_La_law.2.1 689 = .ok (.if_icmp .eq 110, 3) := by decide +kernel
theorem d_La_law_692 : decode Y_La_law.2.1 692 = .ok (.iconst 0, 1) := by decide +kernel
theorem d_La_law_693 : decode Y_La_law.2.1 693 = .ok (.ireturn, 1) := by decide +kernel
theorem d_La_law_694 : decode Y_La_law.2.1 694 = .ok (.aload_n 1, 1) := by decide +kernel
theorem d_La_law_695 : decode Y_La_law.2.1 695 = .ok (.aload_n 0, 1) := by decide +kernel
theorem d_La_law_696 : decode Y_La_law.2.1 696 = .ok (.iload_n 3, 1) := by decide +kernel
theorem d_La_law_697 : decode Y_La_law.2.1 697 = .ok (.iconst 1, 1) := by decide +kernel
theorem d_La_law_698 : decode Y_La_law.2.1 698 = .ok (.iadd, 1) := by decide +kernel
theorem d_La_law_699 : decode Y_La_law.2.1 699 = .ok (.iaload, 1) := by decide +kernel
theorem d_La_law_700 : decode Y_La_law.2.1 700 = .ok (.invokevirtual 98, 3) := by decide +kernel
theorem d_La_law_703 : decode Y_La_law.2.1 703 = .ok (.aload_n 2, 1) := by decide +kernel
theorem d_La_law_704 : decode Y_La_law.2.1 704 = .ok (.aload_n 0, 1) := by decide +kernel
theorem d_La_law_705 : decode Y_La_law.2.1 705 = .ok (.iload_n 3, 1) := by decide +kernel
theorem d_La_law_706 : decode Y_La_law.2.1 706 = .ok (.iconst 1, 1) := by decide +kernel
theorem d_La_law_707 : decode Y_La_law.2.1 707 = .ok (.iadd, 1) := by decide +kernel
theorem d_La_law_708 : decode Y_La_law.2.1 708 = .ok (.iaload, 1) := by decide +kernel
theorem d_La_law_709 : decode Y_La_law.2.1 709 = .ok (.invokevirtual 101, 3) := by decide +kernel
theorem d_La_law_712 : decode Y_La_law.2.1 712 = .ok (.if_icmp .eq 87, 3) := by decide +kernel
theorem d_La_law_715 : decode Y_La_law.2.1 715 = .ok (.iconst 0, 1) := by decide +kernel
theorem d_La_law_716 : decode Y_La_law.2.1 716 = .ok (.ireturn, 1) := by decide +kernel
theorem d_La_law_717 : decode Y_La_law.2.1 717 = .ok (.aload_n 1, 1) := by decide +kernel
theorem d_La_law_718 : decode Y_La_law.2.1 718 = .ok (.aload_n 0, 1) := by decide +kernel
theorem d_La_law_719 : decode Y_La_law.2.1 719 = .ok (.iload_n 3, 1) := by decide +kernel
theorem d_La_law_720 : decode Y_La_law.2.1 720 = .ok (.iconst 1, 1) := by decide +kernel
theorem d_La_law_721 : decode Y_La_law.2.1 721 = .ok (.iadd, 1) := by decide +kernel
theorem d_La_law_722 : decode Y_La_law.2.1 722 = .ok (.iaload, 1) := by decide +kernel
theorem d_La_law_723 : decode Y_La_law.2.1 723 = .ok (.invokevirtual 102, 3) := by decide +kernel
theorem d_La_law_726 : decode Y_La_law.2.1 726 = .ok (.aload_n 2, 1) := by decide +kernel
theorem d_La_law_727 : decode Y_La_law.2.1 727 = .ok (.aload_n 0, 1) := by decide +kernel
theorem d_La_law_728 : decode Y_La_law.2.1 728 = .ok (.iload_n 3, 1) := by decide +kernel
theorem d_La_law_729 : decode Y_La_law.2.1 729 = .ok (.iconst 1, 1) := by decide +kernel
theorem d_La_law_730 : decode Y_La_law.2.1 730 = .ok (.iadd, 1) := by decide +kernel
theorem d_La_law_731 : decode Y_La_law.2.1 731 = .ok (.iaload, 1) := by decide +kernel
theorem d_La_law_732 : decode Y_La_law.2.1 732 = .ok (.invokevirtual 105, 3) := by decide +kernel
theorem d_La_law_735 : decode Y_La_law.2.1 735 = .ok (.if_icmp .eq 64, 3) := by decide +kernel
theorem d_La_law_738 : decode Y_La_law.2.1 738 = .ok (.iconst 0, 1) := by decide +kernel
theorem d_La_law_739 : decode Y_La_law.2.1 739 = .ok (.ireturn, 1) := by decide +kernel
theorem d_La_law_740 : decode Y_La_law.2.1 740 = .ok (.aload_n 1, 1) := by decide +kernel
theorem d_La_law_741 : decode Y_La_law.2.1 741 = .ok (.invokevirtual 106, 3) := by decide +kernel
theorem d_La_law_744 : decode Y_La_law.2.1 744 = .ok (.aload_n 2, 1) := by decide +kernel
theorem d_La_law_745 : decode Y_La_law.2.1 745 = .ok (.invokevirtual 109, 3) := by decide +kernel
theorem d_La_law_748 : decode Y_La_law.2.1 748 = .ok (.if_icmp .eq 51, 3) := by decide +kernel
theorem d_La_law_751 : decode Y_La_law.2.1 751 = .ok (.iconst 0, 1) := by decide +kernel
theorem d_La_law_752 : decode Y_La_law.2.1 752 = .ok (.ireturn, 1) := by decide +kernel
theorem d_La_law_753 : decode Y_La_law.2.1 753 = .ok (.aload_n 1, 1) := by decide +kernel
theorem d_La_law_754 : decode Y_La_law.2.1 754 = .ok (.aload_n 0, 1) := by decide +kernel
theorem d_La_law_755 : decode Y_La_law.2.1 755 = .ok (.iload_n 3, 1) := by decide +kernel
theorem d_La_law_756 : decode Y_La_law.2.1 756 = .ok (.iconst 1, 1) := by decide +kernel
theorem d_La_law_757 : decode Y_La_law.2.1 757 = .ok (.iadd, 1) := by decide +kernel
theorem d_La_law_758 : decode Y_La_law.2.1 758 = .ok (.iaload, 1) := by decide +kernel
theorem d_La_law_759 : decode Y_La_law.2.1 759 = .ok (.invokevirtual 110, 3) := by decide +kernel
theorem d_La_law_762 : decode Y_La_law.2.1 762 = .ok (.aload_n 2, 1) := by decide +kernel
theorem d_La_law_763 : decode Y_La_law.2.1 763 = .ok (.aload_n 0, 1) := by decide +kernel
theorem d_La_law_764 : decode Y_La_law.2.1 764 = .ok (.iload_n 3, 1) := by decide +kernel
theorem d_La_law_765 : decode Y_La_law.2.1 765 = .ok (.iconst 1, 1) := by decide +kernel
theorem d_La_law_766 : decode Y_La_law.2.1 766 = .ok (.iadd, 1) := by decide +kernel
theorem d_La_law_767 : decode Y_La_law.2.1 767 = .ok (.iaload, 1) := by decide +kernel
theorem d_La_law_768 : decode Y_La_law.2.1 768 = .ok (.invokevirtual 113, 3) := by decide +kernel
theorem d_La_law_771 : decode Y_La_law.2.1 771 = .ok (.if_icmp .eq 28, 3) := by decide +kernel
theorem d_La_law_774 : decode Y_La_law.2.1 774 = .ok (.iconst 0, 1) := by decide +kernel
theorem d_La_law_775 : decode Y_La_law.2.1 775 = .ok (.ireturn, 1) := by decide +kernel
theorem d_La_law_776 : decode Y_La_law.2.1 776 = .ok (.aload_n 1, 1) := by decide +kernel
theorem d_La_law_777 : decode Y_La_law.2.1 777 = .ok (.aload_n 0, 1) := by decide +kernel
theorem d_La_law_778 : decode Y_La_law.2.1 778 = .ok (.iload_n 3, 1) := by decide +kernel
theorem d_La_law_779 : decode Y_La_law.2.1 779 = .ok (.iconst 1, 1) := by decide +kernel
theorem d_La_law_780 : decode Y_La_law.2.1 780 = .ok (.iadd, 1) := by decide +kernel
theorem d_La_law_781 : decode Y_La_law.2.1 781 = .ok (.iaload, 1) := by decide +kernel
theorem d_La_law_782 : decode Y_La_law.2.1 782 = .ok (.invokevirtual 114, 3) := by decide +kernel
theorem d_La_law_785 : decode Y_La_law.2.1 785 = .ok (.aload_n 2, 1) := by decide +kernel
theorem d_La_law_786 : decode Y_La_law.2.1 786 = .ok (.aload_n 0, 1) := by decide +kernel
theorem d_La_law_787 : decode Y_La_law.2.1 787 = .ok (.iload_n 3, 1) := by decide +kernel
theorem d_La_law_788 : decode Y_La_law.2.1 788 = .ok (.iconst 1, 1) := by decide +kernel
theorem d_La_law_789 : decode Y_La_law.2.1 789 = .ok (.iadd, 1) := by decide +kernel
theorem d_La_law_790 : decode Y_La_law.2.1 790 = .ok (.iaload, 1) := by decide +kernel
theorem d_La_law_791 : decode Y_La_law.2.1 791 = .ok (.invokevirtual 117, 3) := by decide +kernel
theorem d_La_law_794 : decode Y_La_law.2.1 794 = .ok (.if_icmp .eq 5, 3) := by decide +kernel
theorem d_La_law_797 : decode Y_La_law.2.1 797 = .ok (.iconst 0, 1) := by decide +kernel
theorem d_La_law_798 : decode Y_La_law.2.1 798 = .ok (.ireturn, 1) := by decide +kernel
theorem d_La_law_799 : decode Y_La_law.2.1 799 = .ok (.iinc 3 4, 3) := by decide +kernel
theorem d_La_law_802 : decode Y_La_law.2.1 802 = .ok (.goto (-784), 3) := by decide +kernel
theorem d_La_law_805 : decode Y_La_law.2.1 805 = .ok (.iconst 1, 1) := by decide +kernel
theorem d_La_law_806 : decode Y_La_law.2.1 806 = .ok (.ireturn, 1) := by decide +kernel
