theorem d_L_law_224 : decode c_L_law 224 = .ok (.iadd, 1) := by decide +kernel
theorem d_L_law_225 : decode c_L_law 225 = .ok (.iaload, 1) := by decide +kernel
theorem d_L_law_226 : decode c_L_law 226 = .ok (.aload_n 0, 1) := by decide +kernel
theorem d_L_law_227 : decode c_L_law 227 = .ok (.iload 4, 2) := by decide +kernel
theorem d_L_law_229 : decode c_L_law 229 = .ok (.iconst 4, 1) := by decide +kernel
theorem d_L_law_230 : decode c_L_law 230 = .ok (.iadd, 1) := by decide +kernel
theorem d_L_law_231 : decode c_L_law 231 = .ok (.iaload, 1) := by decide +kernel
theorem d_L_law_232 : decode c_L_law 232 = .ok (.invokevirtual 36, 3) := by decide +kernel
theorem d_L_law_235 : decode c_L_law 235 = .ok (.aload_n 2, 1) := by decide +kernel
theorem d_L_law_236 : decode c_L_law 236 = .ok (.aload_n 0, 1) := by decide +kernel
theorem d_L_law_237 : decode c_L_law 237 = .ok (.iload 4, 2) := by decide +kernel
theorem d_L_law_239 : decode c_L_law 239 = .ok (.iconst 1, 1) := by decide +kernel
theorem d_L_law_240 : decode c_L_law 240 = .ok (.iadd, 1) := by decide +kernel
theorem d_L_law_241 : decode c_L_law 241 = .ok (.iaload, 1) := by decide +kernel
theorem d_L_law_242 : decode c_L_law 242 = .ok (.aload_n 0, 1) := by decide +kernel
theorem d_L_law_243 : decode c_L_law 243 = .ok (.iload 4, 2) := by decide +kernel
theorem d_L_law_245 : decode c_L_law 245 = .ok (.iconst 2, 1) := by decide +kernel
theorem d_L_law_246 : decode c_L_law 246 = .ok (.iadd, 1) := by decide +kernel
theorem d_L_law_247 : decode c_L_law 247 = .ok (.iaload, 1) := by decide +kernel
theorem d_L_law_248 : decode c_L_law 248 = .ok (.aload_n 0, 1) := by decide +kernel
theorem d_L_law_249 : decode c_L_law 249 = .ok (.iload 4, 2) := by decide +kernel
theorem d_L_law_251 : decode c_L_law 251 = .ok (.iconst 3, 1) := by decide +kernel
theorem d_L_law_252 : decode c_L_law 252 = .ok (.iadd, 1) := by decide +kernel
theorem d_L_law_253 : decode c_L_law 253 = .ok (.iaload, 1) := by decide +kernel
theorem d_L_law_254 : decode c_L_law 254 = .ok (.aload_n 0, 1) := by decide +kernel
theorem d_L_law_255 : decode c_L_law 255 = .ok (.iload 4, 2) := by decide +kernel
theorem d_L_law_257 : decode c_L_law 257 = .ok (.iconst 4, 1) := by decide +kernel
theorem d_L_law_258 : decode c_L_law 258 = .ok (.iadd, 1) := by decide +kernel
theorem d_L_law_259 : decode c_L_law 259 = .ok (.iaload, 1) := by decide +kernel
theorem d_L_law_260 : decode c_L_law 260 = .ok (.invokevirtual 40, 3) := by decide +kernel
theorem d_L_law_263 : decode c_L_law 263 = .ok (.if_icmp .eq 571, 3) := by decide +kernel
theorem d_L_law_266 : decode c_L_law 266 = .ok (.iconst 0, 1) := by decide +kernel
theorem d_L_law_267 : decode c_L_law 267 = .ok (.ireturn, 1) := by decide +kernel
theorem d_L_law_268 : decode c_L_law 268 = .ok (.aload_n 1, 1) := by decide +kernel
theorem d_L_law_269 : decode c_L_law 269 = .ok (.aload_n 0, 1) := by decide +kernel
theorem d_L_law_270 : decode c_L_law 270 = .ok (.iload 4, 2) := by decide +kernel
theorem d_L_law_272 : decode c_L_law 272 = .ok (.iconst 1, 1) := by decide +kernel
theorem d_L_law_273 : decode c_L_law 273 = .ok (.iadd, 1) := by decide +kernel
theorem d_L_law_274 : decode c_L_law 274 = .ok (.iaload, 1) := by decide +kernel
theorem d_L_law_275 : decode c_L_law 275 = .ok (.aload_n 0, 1) := by decide +kernel
theorem d_L_law_276 : decode c_L_law 276 = .ok (.iload 4, 2) := by decide +kernel
theorem d_L_law_278 : decode c_L_law 278 = .ok (.iconst 2, 1) := by decide +kernel
theorem d_L_law_279 : decode c_L_law 279 = .ok (.iadd, 1) := by decide +kernel
theorem d_L_law_280 : decode c_L_law 280 = .ok (.iaload, 1) := by decide +kernel
theorem d_L_law_281 : decode c_L_law 281 = .ok (.invokevirtual 41, 3) := by decide +kernel
theorem d_L_law_284 : decode c_L_law 284 = .ok (.aload_n 2, 1) := by decide +kernel
theorem d_L_law_285 : decode c_L_law 285 = .ok (.aload_n 0, 1) := by decide +kernel
theorem d_L_law_286 : decode c_L_law 286 = .ok (.iload 4, 2) := by decide +kernel
theorem d_L_law_288 : decode c_L_law 288 = .ok (.iconst 1, 1) := by decide +kernel
theorem d_L_law_289 : decode c_L_law 289 = .ok (.iadd, 1) := by decide +kernel
theorem d_L_law_290 : decode c_L_law 290 = .ok (.iaload, 1) := by decide +kernel
theorem d_L_law_291 : decode c_L_law 291 = .ok (.aload_n 0, 1) := by decide +kernel
theorem d_L_law_292 : decode c_L_law 292 = .ok (.iload 4, 2) := by decide +kernel
theorem d_L_law_294 : decode c_L_law 294 = .ok (.iconst 2, 1) := by decide +kernel
theorem d_L_law_295 : decode c_L_law 295 = .ok (.iadd, 1) := by decide +kernel
theorem d_L_law_296 : decode c_L_law 296 = .ok (.iaload, 1) := by decide +kernel
theorem d_L_law_297 : decode c_L_law 297 = .ok (.invokevirtual 44, 3) := by decide +kernel
theorem d_L_law_300 : decode c_L_law 300 = .ok (.if_icmp .eq 534, 3) := by decide +kernel
theorem d_L_law_303 : decode c_L_law 303 = .ok (.iconst 0, 1) := by decide +kernel
theorem d_L_law_304 : decode c_L_law 304 = .ok (.ireturn, 1) := by decide +kernel
theorem d_L_law_305 : decode c_L_law 305 = .ok (.aload_n 1, 1) := by decide +kernel
theorem d_L_law_306 : decode c_L_law 306 = .ok (.aload_n 0, 1) := by decide +kernel
theorem d_L_law_307 : decode c_L_law 307 = .ok (.iload 4, 2) := by decide +kernel
theorem d_L_law_309 : decode c_L_law 309 = .ok (.iconst 1, 1) := by decide +kernel
theorem d_L_law_310 : decode c_L_law 310 = .ok (.iadd, 1) := by decide +kernel
theorem d_L_law_311 : decode c_L_law 311 = .ok (.iaload, 1) := by decide +kernel
theorem d_L_law_312 : decode c_L_law 312 = .ok (.aload_n 0, 1) := by decide +kernel
theorem d_L_law_313 : decode c_L_law 313 = .ok (.iload 4, 2) := by decide +kernel
theorem d_L_law_315 : decode c_L_law 315 = .ok (.iconst 2, 1) := by decide +kernel
theorem d_L_law_316 : decode c_L_law 316 = .ok (.iadd, 1) := by decide +kernel
theorem d_L_law_317 : decode c_L_law 317 = .ok (.iaload, 1) := by decide +kernel
theorem d_L_law_318 : decode c_L_law 318 = .ok (.invokevirtual 45, 3) := by decide +kernel
theorem d_L_law_321 : decode c_L_law 321 = .ok (.aload_n 2, 1) := by decide +kernel
theorem d_L_law_322 : decode c_L_law 322 = .ok (.aload_n 0, 1) := by decide +kernel
theorem d_L_law_323 : decode c_L_law 323 = .ok (.iload 4, 2) := by decide +kernel
theorem d_L_law_325 : decode c_L_law 325 = .ok (.iconst 1, 1) := by decide +kernel
theorem d_L_law_326 : decode c_L_law 326 = .ok (.iadd, 1) := by decide +kernel
theorem d_L_law_327 : decode c_L_law 327 = .ok (.iaload, 1) := by decide +kernel
theorem d_L_law_328 : decode c_L_law 328 = .ok (.aload_n 0, 1) := by decide +kernel
theorem d_L_law_329 : decode c_L_law 329 = .ok (.iload 4, 2) := by decide +kernel
theorem d_L_law_331 : decode c_L_law 331 = .ok (.iconst 2, 1) := by decide +kernel
theorem d_L_law_332 : decode c_L_law 332 = .ok (.iadd, 1) := by decide +kernel
theorem d_L_law_333 : decode c_L_law 333 = .ok (.iaload, 1) := by decide +kernel
theorem d_L_law_334 : decode c_L_law 334 = .ok (.invokevirtual 48, 3) := by decide +kernel
theorem d_L_law_337 : decode c_L_law 337 = .ok (.if_icmp .eq 497, 3) := by decide +kernel
theorem d_L_law_340 : decode c_L_law 340 = .ok (.iconst 0, 1) := by decide +kernel
theorem d_L_law_341 : decode c_L_law 341 = .ok (.ireturn, 1) := by decide +kernel
theorem d_L_law_342 : decode c_L_law 342 = .ok (.aload_n 1, 1) := by decide +kernel
theorem d_L_law_343 : decode c_L_law 343 = .ok (.aload_n 0, 1) := by decide +kernel
theorem d_L_law_344 : decode c_L_law 344 = .ok (.iload 4, 2) := by decide +kernel
