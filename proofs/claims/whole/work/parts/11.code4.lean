/-! ===== the code: segments, control instructions, entries of methods 127 to 130 ===== -/
def sg_127_0 : List RI := [(.new 7, 3, 10, 0, 0, 0), (.dup, 1, 0, 0, 0, 0)]
theorem sk_127_0 : segB 12 false code 0 sg_127_0 = true := by decide +kernel
def sg_127_7 : List RI := [(.astore_n 1, 1, 0, 0, 0, 0), (.new 10, 3, 11, 0, 0, 0), (.dup, 1, 0, 0, 0, 0)]
theorem sk_127_7 : segB 12 false code 7 sg_127_7 = true := by decide +kernel
def sg_127_15 : List RI := [(.astore_n 2, 1, 0, 0, 0, 0), (.iconst 0, 1, 0, 0, 0, 0), (.istore_n 3, 1, 0, 0, 0, 0)]
theorem sk_127_15 : segB 12 false code 15 sg_127_15 = true := by decide +kernel
def sg_127_18 : List RI := [(.iload_n 3, 1, 0, 0, 0, 0), (.aload_n 0, 1, 0, 0, 0, 0), (.arraylength, 1, 1, 0, 0, 0), (.bipush 7, 2, 0, 0, 0, 7), (.isub, 1, 0, 0, 0, 0)]
theorem sk_127_18 : segB 12 false code 18 sg_127_18 = true := by decide +kernel
def sg_127_27 : List RI := [(.aload_n 0, 1, 0, 0, 0, 0), (.iload_n 3, 1, 0, 0, 0, 0)]
theorem sk_127_27 : segB 12 false code 27 sg_127_27 = true := by decide +kernel
def sg_127_30 : List RI := [(.bipush 31, 2, 0, 0, 0, 31), (.iand, 1, 0, 0, 0, 0)]
theorem sk_127_30 : segB 12 false code 30 sg_127_30 = true := by decide +kernel
def sg_127_128 : List RI := [(.aload_n 1, 1, 0, 0, 0, 0), (.aload_n 0, 1, 0, 0, 0, 0), (.iload_n 3, 1, 0, 0, 0, 0), (.iconst 1, 1, 0, 0, 0, 1), (.iadd, 1, 0, 0, 0, 0)]
theorem sk_127_128 : segB 12 false code 128 sg_127_128 = true := by decide +kernel
def sg_127_134 : List RI := [(.aload_n 0, 1, 0, 0, 0, 0), (.iload_n 3, 1, 0, 0, 0, 0), (.iconst 2, 1, 0, 0, 0, 2), (.iadd, 1, 0, 0, 0, 0)]
theorem sk_127_134 : segB 12 false code 134 sg_127_134 = true := by decide +kernel
def sg_127_139 : List RI := [(.aload_n 0, 1, 0, 0, 0, 0), (.iload_n 3, 1, 0, 0, 0, 0), (.iconst 3, 1, 0, 0, 0, 3), (.iadd, 1, 0, 0, 0, 0)]
theorem sk_127_139 : segB 12 false code 139 sg_127_139 = true := by decide +kernel
def sg_127_144 : List RI := [(.aload_n 0, 1, 0, 0, 0, 0), (.iload_n 3, 1, 0, 0, 0, 0), (.iconst 4, 1, 0, 0, 0, 4), (.iadd, 1, 0, 0, 0, 0)]
theorem sk_127_144 : segB 12 false code 144 sg_127_144 = true := by decide +kernel
def sg_127_149 : List RI := [(.aload_n 0, 1, 0, 0, 0, 0), (.iload_n 3, 1, 0, 0, 0, 0), (.iconst 5, 1, 0, 0, 0, 5), (.iadd, 1, 0, 0, 0, 0)]
theorem sk_127_149 : segB 12 false code 149 sg_127_149 = true := by decide +kernel
def sg_127_154 : List RI := [(.aload_n 0, 1, 0, 0, 0, 0), (.iload_n 3, 1, 0, 0, 0, 0), (.bipush 6, 2, 0, 0, 0, 6), (.iadd, 1, 0, 0, 0, 0)]
theorem sk_127_154 : segB 12 false code 154 sg_127_154 = true := by decide +kernel
def sg_127_163 : List RI := [(.aload_n 2, 1, 0, 0, 0, 0), (.aload_n 0, 1, 0, 0, 0, 0), (.iload_n 3, 1, 0, 0, 0, 0), (.iconst 1, 1, 0, 0, 0, 1), (.iadd, 1, 0, 0, 0, 0)]
theorem sk_127_163 : segB 12 false code 163 sg_127_163 = true := by decide +kernel
def sg_127_169 : List RI := [(.aload_n 0, 1, 0, 0, 0, 0), (.iload_n 3, 1, 0, 0, 0, 0), (.iconst 2, 1, 0, 0, 0, 2), (.iadd, 1, 0, 0, 0, 0)]
theorem sk_127_169 : segB 12 false code 169 sg_127_169 = true := by decide +kernel
def sg_127_174 : List RI := [(.aload_n 0, 1, 0, 0, 0, 0), (.iload_n 3, 1, 0, 0, 0, 0), (.iconst 3, 1, 0, 0, 0, 3), (.iadd, 1, 0, 0, 0, 0)]
theorem sk_127_174 : segB 12 false code 174 sg_127_174 = true := by decide +kernel
def sg_127_179 : List RI := [(.aload_n 0, 1, 0, 0, 0, 0), (.iload_n 3, 1, 0, 0, 0, 0), (.iconst 4, 1, 0, 0, 0, 4), (.iadd, 1, 0, 0, 0, 0)]
theorem sk_127_179 : segB 12 false code 179 sg_127_179 = true := by decide +kernel
def sg_127_184 : List RI := [(.aload_n 0, 1, 0, 0, 0, 0), (.iload_n 3, 1, 0, 0, 0, 0), (.iconst 5, 1, 0, 0, 0, 5), (.iadd, 1, 0, 0, 0, 0)]
theorem sk_127_184 : segB 12 false code 184 sg_127_184 = true := by decide +kernel
def sg_127_189 : List RI := [(.aload_n 0, 1, 0, 0, 0, 0), (.iload_n 3, 1, 0, 0, 0, 0), (.bipush 6, 2, 0, 0, 0, 6), (.iadd, 1, 0, 0, 0, 0)]
theorem sk_127_189 : segB 12 false code 189 sg_127_189 = true := by decide +kernel
def sg_127_201 : List RI := [(.iconst 0, 1, 0, 0, 0, 0)]
theorem sk_127_201 : segB 12 false code 201 sg_127_201 = true := by decide +kernel
def sg_127_203 : List RI := [(.aload_n 1, 1, 0, 0, 0, 0), (.aload_n 0, 1, 0, 0, 0, 0), (.iload_n 3, 1, 0, 0, 0, 0), (.iconst 1, 1, 0, 0, 0, 1), (.iadd, 1, 0, 0, 0, 0)]
theorem sk_127_203 : segB 12 false code 203 sg_127_203 = true := by decide +kernel
def sg_127_209 : List RI := [(.aload_n 0, 1, 0, 0, 0, 0), (.iload_n 3, 1, 0, 0, 0, 0), (.iconst 2, 1, 0, 0, 0, 2), (.iadd, 1, 0, 0, 0, 0)]
theorem sk_127_209 : segB 12 false code 209 sg_127_209 = true := by decide +kernel
def sg_127_214 : List RI := [(.aload_n 0, 1, 0, 0, 0, 0), (.iload_n 3, 1, 0, 0, 0, 0), (.iconst 3, 1, 0, 0, 0, 3), (.iadd, 1, 0, 0, 0, 0)]
theorem sk_127_214 : segB 12 false code 214 sg_127_214 = true := by decide +kernel
def sg_127_222 : List RI := [(.aload_n 2, 1, 0, 0, 0, 0), (.aload_n 0, 1, 0, 0, 0, 0), (.iload_n 3, 1, 0, 0, 0, 0), (.iconst 1, 1, 0, 0, 0, 1), (.iadd, 1, 0, 0, 0, 0)]
theorem sk_127_222 : segB 12 false code 222 sg_127_222 = true := by decide +kernel
def sg_127_228 : List RI := [(.aload_n 0, 1, 0, 0, 0, 0), (.iload_n 3, 1, 0, 0, 0, 0), (.iconst 2, 1, 0, 0, 0, 2), (.iadd, 1, 0, 0, 0, 0)]
theorem sk_127_228 : segB 12 false code 228 sg_127_228 = true := by decide +kernel
def sg_127_233 : List RI := [(.aload_n 0, 1, 0, 0, 0, 0), (.iload_n 3, 1, 0, 0, 0, 0), (.iconst 3, 1, 0, 0, 0, 3), (.iadd, 1, 0, 0, 0, 0)]
theorem sk_127_233 : segB 12 false code 233 sg_127_233 = true := by decide +kernel
def sg_127_244 : List RI := [(.iconst 0, 1, 0, 0, 0, 0)]
theorem sk_127_244 : segB 12 false code 244 sg_127_244 = true := by decide +kernel
def sg_127_246 : List RI := [(.aload_n 1, 1, 0, 0, 0, 0), (.aload_n 0, 1, 0, 0, 0, 0), (.iload_n 3, 1, 0, 0, 0, 0), (.iconst 1, 1, 0, 0, 0, 1), (.iadd, 1, 0, 0, 0, 0)]
theorem sk_127_246 : segB 12 false code 246 sg_127_246 = true := by decide +kernel
def sg_127_252 : List RI := [(.aload_n 0, 1, 0, 0, 0, 0), (.iload_n 3, 1, 0, 0, 0, 0), (.iconst 2, 1, 0, 0, 0, 2), (.iadd, 1, 0, 0, 0, 0)]
theorem sk_127_252 : segB 12 false code 252 sg_127_252 = true := by decide +kernel
def sg_127_257 : List RI := [(.aload_n 0, 1, 0, 0, 0, 0), (.iload_n 3, 1, 0, 0, 0, 0), (.iconst 3, 1, 0, 0, 0, 3), (.iadd, 1, 0, 0, 0, 0)]
theorem sk_127_257 : segB 12 false code 257 sg_127_257 = true := by decide +kernel
def sg_127_262 : List RI := [(.aload_n 0, 1, 0, 0, 0, 0), (.iload_n 3, 1, 0, 0, 0, 0), (.iconst 4, 1, 0, 0, 0, 4), (.iadd, 1, 0, 0, 0, 0)]
theorem sk_127_262 : segB 12 false code 262 sg_127_262 = true := by decide +kernel
def sg_127_270 : List RI := [(.aload_n 2, 1, 0, 0, 0, 0), (.aload_n 0, 1, 0, 0, 0, 0), (.iload_n 3, 1, 0, 0, 0, 0), (.iconst 1, 1, 0, 0, 0, 1), (.iadd, 1, 0, 0, 0, 0)]
theorem sk_127_270 : segB 12 false code 270 sg_127_270 = true := by decide +kernel
def sg_127_276 : List RI := [(.aload_n 0, 1, 0, 0, 0, 0), (.iload_n 3, 1, 0, 0, 0, 0), (.iconst 2, 1, 0, 0, 0, 2), (.iadd, 1, 0, 0, 0, 0)]
theorem sk_127_276 : segB 12 false code 276 sg_127_276 = true := by decide +kernel
def sg_127_281 : List RI := [(.aload_n 0, 1, 0, 0, 0, 0), (.iload_n 3, 1, 0, 0, 0, 0), (.iconst 3, 1, 0, 0, 0, 3), (.iadd, 1, 0, 0, 0, 0)]
theorem sk_127_281 : segB 12 false code 281 sg_127_281 = true := by decide +kernel
def sg_127_286 : List RI := [(.aload_n 0, 1, 0, 0, 0, 0), (.iload_n 3, 1, 0, 0, 0, 0), (.iconst 4, 1, 0, 0, 0, 4), (.iadd, 1, 0, 0, 0, 0)]
theorem sk_127_286 : segB 12 false code 286 sg_127_286 = true := by decide +kernel
def sg_127_297 : List RI := [(.iconst 0, 1, 0, 0, 0, 0)]
theorem sk_127_297 : segB 12 false code 297 sg_127_297 = true := by decide +kernel
def sg_127_299 : List RI := [(.aload_n 1, 1, 0, 0, 0, 0), (.aload_n 0, 1, 0, 0, 0, 0), (.iload_n 3, 1, 0, 0, 0, 0), (.iconst 1, 1, 0, 0, 0, 1), (.iadd, 1, 0, 0, 0, 0)]
theorem sk_127_299 : segB 12 false code 299 sg_127_299 = true := by decide +kernel
def sg_127_305 : List RI := [(.aload_n 0, 1, 0, 0, 0, 0), (.iload_n 3, 1, 0, 0, 0, 0), (.iconst 2, 1, 0, 0, 0, 2), (.iadd, 1, 0, 0, 0, 0)]
theorem sk_127_305 : segB 12 false code 305 sg_127_305 = true := by decide +kernel
def sg_127_310 : List RI := [(.aload_n 0, 1, 0, 0, 0, 0), (.iload_n 3, 1, 0, 0, 0, 0), (.iconst 3, 1, 0, 0, 0, 3), (.iadd, 1, 0, 0, 0, 0)]
theorem sk_127_310 : segB 12 false code 310 sg_127_310 = true := by decide +kernel
def sg_127_315 : List RI := [(.aload_n 0, 1, 0, 0, 0, 0), (.iload_n 3, 1, 0, 0, 0, 0), (.iconst 4, 1, 0, 0, 0, 4), (.iadd, 1, 0, 0, 0, 0)]
theorem sk_127_315 : segB 12 false code 315 sg_127_315 = true := by decide +kernel
def sg_127_320 : List RI := [(.aload_n 0, 1, 0, 0, 0, 0), (.iload_n 3, 1, 0, 0, 0, 0), (.iconst 5, 1, 0, 0, 0, 5), (.iadd, 1, 0, 0, 0, 0)]
theorem sk_127_320 : segB 12 false code 320 sg_127_320 = true := by decide +kernel
def sg_127_325 : List RI := [(.aload_n 0, 1, 0, 0, 0, 0), (.iload_n 3, 1, 0, 0, 0, 0), (.bipush 6, 2, 0, 0, 0, 6), (.iadd, 1, 0, 0, 0, 0)]
theorem sk_127_325 : segB 12 false code 325 sg_127_325 = true := by decide +kernel
def sg_127_334 : List RI := [(.iconst 1, 1, 0, 0, 0, 1)]
theorem sk_127_334 : segB 12 false code 334 sg_127_334 = true := by decide +kernel
def sg_127_338 : List RI := [(.iconst 0, 1, 0, 0, 0, 0)]
theorem sk_127_338 : segB 12 false code 338 sg_127_338 = true := by decide +kernel
def sg_127_342 : List RI := [(.aload_n 2, 1, 0, 0, 0, 0), (.aload_n 0, 1, 0, 0, 0, 0), (.iload_n 3, 1, 0, 0, 0, 0), (.iconst 1, 1, 0, 0, 0, 1), (.iadd, 1, 0, 0, 0, 0)]
theorem sk_127_342 : segB 12 false code 342 sg_127_342 = true := by decide +kernel
def sg_127_348 : List RI := [(.aload_n 0, 1, 0, 0, 0, 0), (.iload_n 3, 1, 0, 0, 0, 0), (.iconst 2, 1, 0, 0, 0, 2), (.iadd, 1, 0, 0, 0, 0)]
theorem sk_127_348 : segB 12 false code 348 sg_127_348 = true := by decide +kernel
def sg_127_353 : List RI := [(.aload_n 0, 1, 0, 0, 0, 0), (.iload_n 3, 1, 0, 0, 0, 0), (.iconst 3, 1, 0, 0, 0, 3), (.iadd, 1, 0, 0, 0, 0)]
theorem sk_127_353 : segB 12 false code 353 sg_127_353 = true := by decide +kernel
def sg_127_358 : List RI := [(.aload_n 0, 1, 0, 0, 0, 0), (.iload_n 3, 1, 0, 0, 0, 0), (.iconst 4, 1, 0, 0, 0, 4), (.iadd, 1, 0, 0, 0, 0)]
theorem sk_127_358 : segB 12 false code 358 sg_127_358 = true := by decide +kernel
def sg_127_363 : List RI := [(.aload_n 0, 1, 0, 0, 0, 0), (.iload_n 3, 1, 0, 0, 0, 0), (.iconst 5, 1, 0, 0, 0, 5), (.iadd, 1, 0, 0, 0, 0)]
theorem sk_127_363 : segB 12 false code 363 sg_127_363 = true := by decide +kernel
def sg_127_368 : List RI := [(.aload_n 0, 1, 0, 0, 0, 0), (.iload_n 3, 1, 0, 0, 0, 0), (.bipush 6, 2, 0, 0, 0, 6), (.iadd, 1, 0, 0, 0, 0)]
theorem sk_127_368 : segB 12 false code 368 sg_127_368 = true := by decide +kernel
def sg_127_377 : List RI := [(.iconst 1, 1, 0, 0, 0, 1)]
theorem sk_127_377 : segB 12 false code 377 sg_127_377 = true := by decide +kernel
def sg_127_381 : List RI := [(.iconst 0, 1, 0, 0, 0, 0)]
theorem sk_127_381 : segB 12 false code 381 sg_127_381 = true := by decide +kernel
def sg_127_388 : List RI := [(.iconst 0, 1, 0, 0, 0, 0)]
theorem sk_127_388 : segB 12 false code 388 sg_127_388 = true := by decide +kernel
def sg_127_390 : List RI := [(.aload_n 1, 1, 0, 0, 0, 0), (.aload_n 0, 1, 0, 0, 0, 0), (.iload_n 3, 1, 0, 0, 0, 0), (.iconst 1, 1, 0, 0, 0, 1), (.iadd, 1, 0, 0, 0, 0)]
theorem sk_127_390 : segB 12 false code 390 sg_127_390 = true := by decide +kernel
def sg_127_396 : List RI := [(.aload_n 0, 1, 0, 0, 0, 0), (.iload_n 3, 1, 0, 0, 0, 0), (.iconst 2, 1, 0, 0, 0, 2), (.iadd, 1, 0, 0, 0, 0)]
theorem sk_127_396 : segB 12 false code 396 sg_127_396 = true := by decide +kernel
def sg_127_401 : List RI := [(.aload_n 0, 1, 0, 0, 0, 0), (.iload_n 3, 1, 0, 0, 0, 0), (.iconst 3, 1, 0, 0, 0, 3), (.iadd, 1, 0, 0, 0, 0)]
theorem sk_127_401 : segB 12 false code 401 sg_127_401 = true := by decide +kernel
def sg_127_409 : List RI := [(.iconst 1, 1, 0, 0, 0, 1)]
theorem sk_127_409 : segB 12 false code 409 sg_127_409 = true := by decide +kernel
def sg_127_413 : List RI := [(.iconst 0, 1, 0, 0, 0, 0)]
theorem sk_127_413 : segB 12 false code 413 sg_127_413 = true := by decide +kernel
def sg_127_417 : List RI := [(.aload_n 2, 1, 0, 0, 0, 0), (.aload_n 0, 1, 0, 0, 0, 0), (.iload_n 3, 1, 0, 0, 0, 0), (.iconst 1, 1, 0, 0, 0, 1), (.iadd, 1, 0, 0, 0, 0)]
theorem sk_127_417 : segB 12 false code 417 sg_127_417 = true := by decide +kernel
def sg_127_423 : List RI := [(.aload_n 0, 1, 0, 0, 0, 0), (.iload_n 3, 1, 0, 0, 0, 0), (.iconst 2, 1, 0, 0, 0, 2), (.iadd, 1, 0, 0, 0, 0)]
theorem sk_127_423 : segB 12 false code 423 sg_127_423 = true := by decide +kernel
def sg_127_428 : List RI := [(.aload_n 0, 1, 0, 0, 0, 0), (.iload_n 3, 1, 0, 0, 0, 0), (.iconst 3, 1, 0, 0, 0, 3), (.iadd, 1, 0, 0, 0, 0)]
theorem sk_127_428 : segB 12 false code 428 sg_127_428 = true := by decide +kernel
def sg_127_436 : List RI := [(.iconst 1, 1, 0, 0, 0, 1)]
theorem sk_127_436 : segB 12 false code 436 sg_127_436 = true := by decide +kernel
def sg_127_440 : List RI := [(.iconst 0, 1, 0, 0, 0, 0)]
theorem sk_127_440 : segB 12 false code 440 sg_127_440 = true := by decide +kernel
def sg_127_447 : List RI := [(.iconst 0, 1, 0, 0, 0, 0)]
theorem sk_127_447 : segB 12 false code 447 sg_127_447 = true := by decide +kernel
def sg_127_449 : List RI := [(.aload_n 1, 1, 0, 0, 0, 0), (.aload_n 0, 1, 0, 0, 0, 0), (.iload_n 3, 1, 0, 0, 0, 0), (.iconst 1, 1, 0, 0, 0, 1), (.iadd, 1, 0, 0, 0, 0)]
theorem sk_127_449 : segB 12 false code 449 sg_127_449 = true := by decide +kernel
def sg_127_455 : List RI := [(.aload_n 0, 1, 0, 0, 0, 0), (.iload_n 3, 1, 0, 0, 0, 0), (.iconst 2, 1, 0, 0, 0, 2), (.iadd, 1, 0, 0, 0, 0)]
theorem sk_127_455 : segB 12 false code 455 sg_127_455 = true := by decide +kernel
def sg_127_460 : List RI := [(.aload_n 0, 1, 0, 0, 0, 0), (.iload_n 3, 1, 0, 0, 0, 0), (.iconst 3, 1, 0, 0, 0, 3), (.iadd, 1, 0, 0, 0, 0)]
theorem sk_127_460 : segB 12 false code 460 sg_127_460 = true := by decide +kernel
def sg_127_465 : List RI := [(.aload_n 0, 1, 0, 0, 0, 0), (.iload_n 3, 1, 0, 0, 0, 0), (.iconst 4, 1, 0, 0, 0, 4), (.iadd, 1, 0, 0, 0, 0)]
theorem sk_127_465 : segB 12 false code 465 sg_127_465 = true := by decide +kernel
def sg_127_473 : List RI := [(.aload_n 2, 1, 0, 0, 0, 0), (.aload_n 0, 1, 0, 0, 0, 0), (.iload_n 3, 1, 0, 0, 0, 0), (.iconst 1, 1, 0, 0, 0, 1), (.iadd, 1, 0, 0, 0, 0)]
theorem sk_127_473 : segB 12 false code 473 sg_127_473 = true := by decide +kernel
def sg_127_479 : List RI := [(.aload_n 0, 1, 0, 0, 0, 0), (.iload_n 3, 1, 0, 0, 0, 0), (.iconst 2, 1, 0, 0, 0, 2), (.iadd, 1, 0, 0, 0, 0)]
theorem sk_127_479 : segB 12 false code 479 sg_127_479 = true := by decide +kernel
def sg_127_484 : List RI := [(.aload_n 0, 1, 0, 0, 0, 0), (.iload_n 3, 1, 0, 0, 0, 0), (.iconst 3, 1, 0, 0, 0, 3), (.iadd, 1, 0, 0, 0, 0)]
theorem sk_127_484 : segB 12 false code 484 sg_127_484 = true := by decide +kernel
def sg_127_489 : List RI := [(.aload_n 0, 1, 0, 0, 0, 0), (.iload_n 3, 1, 0, 0, 0, 0), (.iconst 4, 1, 0, 0, 0, 4), (.iadd, 1, 0, 0, 0, 0)]
theorem sk_127_489 : segB 12 false code 489 sg_127_489 = true := by decide +kernel
def sg_127_500 : List RI := [(.iconst 0, 1, 0, 0, 0, 0)]
theorem sk_127_500 : segB 12 false code 500 sg_127_500 = true := by decide +kernel
def sg_127_502 : List RI := [(.aload_n 1, 1, 0, 0, 0, 0), (.aload_n 0, 1, 0, 0, 0, 0), (.iload_n 3, 1, 0, 0, 0, 0), (.iconst 1, 1, 0, 0, 0, 1), (.iadd, 1, 0, 0, 0, 0)]
theorem sk_127_502 : segB 12 false code 502 sg_127_502 = true := by decide +kernel
def sg_127_508 : List RI := [(.aload_n 0, 1, 0, 0, 0, 0), (.iload_n 3, 1, 0, 0, 0, 0), (.iconst 2, 1, 0, 0, 0, 2), (.iadd, 1, 0, 0, 0, 0)]
theorem sk_127_508 : segB 12 false code 508 sg_127_508 = true := by decide +kernel
def sg_127_513 : List RI := [(.aload_n 0, 1, 0, 0, 0, 0), (.iload_n 3, 1, 0, 0, 0, 0), (.iconst 3, 1, 0, 0, 0, 3), (.iadd, 1, 0, 0, 0, 0)]
theorem sk_127_513 : segB 12 false code 513 sg_127_513 = true := by decide +kernel
def sg_127_518 : List RI := [(.aload_n 0, 1, 0, 0, 0, 0), (.iload_n 3, 1, 0, 0, 0, 0), (.iconst 4, 1, 0, 0, 0, 4), (.iadd, 1, 0, 0, 0, 0)]
theorem sk_127_518 : segB 12 false code 518 sg_127_518 = true := by decide +kernel
def sg_127_526 : List RI := [(.aload_n 2, 1, 0, 0, 0, 0), (.aload_n 0, 1, 0, 0, 0, 0), (.iload_n 3, 1, 0, 0, 0, 0), (.iconst 1, 1, 0, 0, 0, 1), (.iadd, 1, 0, 0, 0, 0)]
theorem sk_127_526 : segB 12 false code 526 sg_127_526 = true := by decide +kernel
def sg_127_532 : List RI := [(.aload_n 0, 1, 0, 0, 0, 0), (.iload_n 3, 1, 0, 0, 0, 0), (.iconst 2, 1, 0, 0, 0, 2), (.iadd, 1, 0, 0, 0, 0)]
theorem sk_127_532 : segB 12 false code 532 sg_127_532 = true := by decide +kernel
def sg_127_537 : List RI := [(.aload_n 0, 1, 0, 0, 0, 0), (.iload_n 3, 1, 0, 0, 0, 0), (.iconst 3, 1, 0, 0, 0, 3), (.iadd, 1, 0, 0, 0, 0)]
theorem sk_127_537 : segB 12 false code 537 sg_127_537 = true := by decide +kernel
def sg_127_542 : List RI := [(.aload_n 0, 1, 0, 0, 0, 0), (.iload_n 3, 1, 0, 0, 0, 0), (.iconst 4, 1, 0, 0, 0, 4), (.iadd, 1, 0, 0, 0, 0)]
theorem sk_127_542 : segB 12 false code 542 sg_127_542 = true := by decide +kernel
def sg_127_553 : List RI := [(.iconst 0, 1, 0, 0, 0, 0)]
theorem sk_127_553 : segB 12 false code 553 sg_127_553 = true := by decide +kernel
def sg_127_555 : List RI := [(.aload_n 1, 1, 0, 0, 0, 0), (.aload_n 0, 1, 0, 0, 0, 0), (.iload_n 3, 1, 0, 0, 0, 0), (.iconst 1, 1, 0, 0, 0, 1), (.iadd, 1, 0, 0, 0, 0)]
theorem sk_127_555 : segB 12 false code 555 sg_127_555 = true := by decide +kernel
def sg_127_561 : List RI := [(.aload_n 0, 1, 0, 0, 0, 0), (.iload_n 3, 1, 0, 0, 0, 0), (.iconst 2, 1, 0, 0, 0, 2), (.iadd, 1, 0, 0, 0, 0)]
theorem sk_127_561 : segB 12 false code 561 sg_127_561 = true := by decide +kernel
def sg_127_566 : List RI := [(.aload_n 0, 1, 0, 0, 0, 0), (.iload_n 3, 1, 0, 0, 0, 0), (.iconst 3, 1, 0, 0, 0, 3), (.iadd, 1, 0, 0, 0, 0)]
theorem sk_127_566 : segB 12 false code 566 sg_127_566 = true := by decide +kernel
def sg_127_571 : List RI := [(.aload_n 0, 1, 0, 0, 0, 0), (.iload_n 3, 1, 0, 0, 0, 0), (.iconst 4, 1, 0, 0, 0, 4), (.iadd, 1, 0, 0, 0, 0)]
theorem sk_127_571 : segB 12 false code 571 sg_127_571 = true := by decide +kernel
def sg_127_576 : List RI := [(.aload_n 0, 1, 0, 0, 0, 0), (.iload_n 3, 1, 0, 0, 0, 0), (.iconst 5, 1, 0, 0, 0, 5), (.iadd, 1, 0, 0, 0, 0)]
theorem sk_127_576 : segB 12 false code 576 sg_127_576 = true := by decide +kernel
def sg_127_584 : List RI := [(.aload_n 2, 1, 0, 0, 0, 0), (.aload_n 0, 1, 0, 0, 0, 0), (.iload_n 3, 1, 0, 0, 0, 0), (.iconst 1, 1, 0, 0, 0, 1), (.iadd, 1, 0, 0, 0, 0)]
theorem sk_127_584 : segB 12 false code 584 sg_127_584 = true := by decide +kernel
def sg_127_590 : List RI := [(.aload_n 0, 1, 0, 0, 0, 0), (.iload_n 3, 1, 0, 0, 0, 0), (.iconst 2, 1, 0, 0, 0, 2), (.iadd, 1, 0, 0, 0, 0)]
theorem sk_127_590 : segB 12 false code 590 sg_127_590 = true := by decide +kernel
def sg_127_595 : List RI := [(.aload_n 0, 1, 0, 0, 0, 0), (.iload_n 3, 1, 0, 0, 0, 0), (.iconst 3, 1, 0, 0, 0, 3), (.iadd, 1, 0, 0, 0, 0)]
theorem sk_127_595 : segB 12 false code 595 sg_127_595 = true := by decide +kernel
def sg_127_600 : List RI := [(.aload_n 0, 1, 0, 0, 0, 0), (.iload_n 3, 1, 0, 0, 0, 0), (.iconst 4, 1, 0, 0, 0, 4), (.iadd, 1, 0, 0, 0, 0)]
theorem sk_127_600 : segB 12 false code 600 sg_127_600 = true := by decide +kernel
def sg_127_605 : List RI := [(.aload_n 0, 1, 0, 0, 0, 0), (.iload_n 3, 1, 0, 0, 0, 0), (.iconst 5, 1, 0, 0, 0, 5), (.iadd, 1, 0, 0, 0, 0)]
theorem sk_127_605 : segB 12 false code 605 sg_127_605 = true := by decide +kernel
def sg_127_616 : List RI := [(.iconst 0, 1, 0, 0, 0, 0)]
theorem sk_127_616 : segB 12 false code 616 sg_127_616 = true := by decide +kernel
def sg_127_618 : List RI := [(.aload_n 1, 1, 0, 0, 0, 0), (.aload_n 0, 1, 0, 0, 0, 0), (.iload_n 3, 1, 0, 0, 0, 0), (.iconst 1, 1, 0, 0, 0, 1), (.iadd, 1, 0, 0, 0, 0)]
theorem sk_127_618 : segB 12 false code 618 sg_127_618 = true := by decide +kernel
def sg_127_624 : List RI := [(.aload_n 0, 1, 0, 0, 0, 0), (.iload_n 3, 1, 0, 0, 0, 0), (.iconst 2, 1, 0, 0, 0, 2), (.iadd, 1, 0, 0, 0, 0)]
theorem sk_127_624 : segB 12 false code 624 sg_127_624 = true := by decide +kernel
def sg_127_629 : List RI := [(.aload_n 0, 1, 0, 0, 0, 0), (.iload_n 3, 1, 0, 0, 0, 0), (.iconst 3, 1, 0, 0, 0, 3), (.iadd, 1, 0, 0, 0, 0)]
theorem sk_127_629 : segB 12 false code 629 sg_127_629 = true := by decide +kernel
def sg_127_634 : List RI := [(.aload_n 0, 1, 0, 0, 0, 0), (.iload_n 3, 1, 0, 0, 0, 0), (.iconst 4, 1, 0, 0, 0, 4), (.iadd, 1, 0, 0, 0, 0)]
theorem sk_127_634 : segB 12 false code 634 sg_127_634 = true := by decide +kernel
def sg_127_642 : List RI := [(.aload_n 2, 1, 0, 0, 0, 0), (.aload_n 0, 1, 0, 0, 0, 0), (.iload_n 3, 1, 0, 0, 0, 0), (.iconst 1, 1, 0, 0, 0, 1), (.iadd, 1, 0, 0, 0, 0)]
theorem sk_127_642 : segB 12 false code 642 sg_127_642 = true := by decide +kernel
def sg_127_648 : List RI := [(.aload_n 0, 1, 0, 0, 0, 0), (.iload_n 3, 1, 0, 0, 0, 0), (.iconst 2, 1, 0, 0, 0, 2), (.iadd, 1, 0, 0, 0, 0)]
theorem sk_127_648 : segB 12 false code 648 sg_127_648 = true := by decide +kernel
def sg_127_653 : List RI := [(.aload_n 0, 1, 0, 0, 0, 0), (.iload_n 3, 1, 0, 0, 0, 0), (.iconst 3, 1, 0, 0, 0, 3), (.iadd, 1, 0, 0, 0, 0)]
theorem sk_127_653 : segB 12 false code 653 sg_127_653 = true := by decide +kernel
def sg_127_658 : List RI := [(.aload_n 0, 1, 0, 0, 0, 0), (.iload_n 3, 1, 0, 0, 0, 0), (.iconst 4, 1, 0, 0, 0, 4), (.iadd, 1, 0, 0, 0, 0)]
theorem sk_127_658 : segB 12 false code 658 sg_127_658 = true := by decide +kernel
def sg_127_669 : List RI := [(.iconst 0, 1, 0, 0, 0, 0)]
theorem sk_127_669 : segB 12 false code 669 sg_127_669 = true := by decide +kernel
def sg_127_671 : List RI := [(.aload_n 1, 1, 0, 0, 0, 0), (.aload_n 0, 1, 0, 0, 0, 0), (.iload_n 3, 1, 0, 0, 0, 0), (.iconst 1, 1, 0, 0, 0, 1), (.iadd, 1, 0, 0, 0, 0)]
theorem sk_127_671 : segB 12 false code 671 sg_127_671 = true := by decide +kernel
def sg_127_680 : List RI := [(.aload_n 2, 1, 0, 0, 0, 0), (.aload_n 0, 1, 0, 0, 0, 0), (.iload_n 3, 1, 0, 0, 0, 0), (.iconst 1, 1, 0, 0, 0, 1), (.iadd, 1, 0, 0, 0, 0)]
theorem sk_127_680 : segB 12 false code 680 sg_127_680 = true := by decide +kernel
def sg_127_692 : List RI := [(.iconst 0, 1, 0, 0, 0, 0)]
theorem sk_127_692 : segB 12 false code 692 sg_127_692 = true := by decide +kernel
def sg_127_694 : List RI := [(.aload_n 1, 1, 0, 0, 0, 0), (.aload_n 0, 1, 0, 0, 0, 0), (.iload_n 3, 1, 0, 0, 0, 0), (.iconst 1, 1, 0, 0, 0, 1), (.iadd, 1, 0, 0, 0, 0)]
theorem sk_127_694 : segB 12 false code 694 sg_127_694 = true := by decide +kernel
def sg_127_700 : List RI := [(.aload_n 0, 1, 0, 0, 0, 0), (.iload_n 3, 1, 0, 0, 0, 0), (.iconst 2, 1, 0, 0, 0, 2), (.iadd, 1, 0, 0, 0, 0)]
theorem sk_127_700 : segB 12 false code 700 sg_127_700 = true := by decide +kernel
def sg_127_705 : List RI := [(.aload_n 0, 1, 0, 0, 0, 0), (.iload_n 3, 1, 0, 0, 0, 0), (.iconst 3, 1, 0, 0, 0, 3), (.iadd, 1, 0, 0, 0, 0)]
theorem sk_127_705 : segB 12 false code 705 sg_127_705 = true := by decide +kernel
def sg_127_710 : List RI := [(.aload_n 0, 1, 0, 0, 0, 0), (.iload_n 3, 1, 0, 0, 0, 0), (.iconst 4, 1, 0, 0, 0, 4), (.iadd, 1, 0, 0, 0, 0)]
theorem sk_127_710 : segB 12 false code 710 sg_127_710 = true := by decide +kernel
def sg_127_715 : List RI := [(.aload_n 0, 1, 0, 0, 0, 0), (.iload_n 3, 1, 0, 0, 0, 0), (.iconst 5, 1, 0, 0, 0, 5), (.iadd, 1, 0, 0, 0, 0)]
theorem sk_127_715 : segB 12 false code 715 sg_127_715 = true := by decide +kernel
def sg_127_723 : List RI := [(.aload_n 2, 1, 0, 0, 0, 0), (.aload_n 0, 1, 0, 0, 0, 0), (.iload_n 3, 1, 0, 0, 0, 0), (.iconst 1, 1, 0, 0, 0, 1), (.iadd, 1, 0, 0, 0, 0)]
theorem sk_127_723 : segB 12 false code 723 sg_127_723 = true := by decide +kernel
def sg_127_729 : List RI := [(.aload_n 0, 1, 0, 0, 0, 0), (.iload_n 3, 1, 0, 0, 0, 0), (.iconst 2, 1, 0, 0, 0, 2), (.iadd, 1, 0, 0, 0, 0)]
theorem sk_127_729 : segB 12 false code 729 sg_127_729 = true := by decide +kernel
def sg_127_734 : List RI := [(.aload_n 0, 1, 0, 0, 0, 0), (.iload_n 3, 1, 0, 0, 0, 0), (.iconst 3, 1, 0, 0, 0, 3), (.iadd, 1, 0, 0, 0, 0)]
theorem sk_127_734 : segB 12 false code 734 sg_127_734 = true := by decide +kernel
def sg_127_739 : List RI := [(.aload_n 0, 1, 0, 0, 0, 0), (.iload_n 3, 1, 0, 0, 0, 0), (.iconst 4, 1, 0, 0, 0, 4), (.iadd, 1, 0, 0, 0, 0)]
theorem sk_127_739 : segB 12 false code 739 sg_127_739 = true := by decide +kernel
def sg_127_744 : List RI := [(.aload_n 0, 1, 0, 0, 0, 0), (.iload_n 3, 1, 0, 0, 0, 0), (.iconst 5, 1, 0, 0, 0, 5), (.iadd, 1, 0, 0, 0, 0)]
theorem sk_127_744 : segB 12 false code 744 sg_127_744 = true := by decide +kernel
def sg_127_755 : List RI := [(.iconst 0, 1, 0, 0, 0, 0)]
theorem sk_127_755 : segB 12 false code 755 sg_127_755 = true := by decide +kernel
def sg_127_757 : List RI := [(.aload_n 1, 1, 0, 0, 0, 0), (.aload_n 0, 1, 0, 0, 0, 0), (.iload_n 3, 1, 0, 0, 0, 0), (.iconst 1, 1, 0, 0, 0, 1), (.iadd, 1, 0, 0, 0, 0)]
theorem sk_127_757 : segB 12 false code 757 sg_127_757 = true := by decide +kernel
def sg_127_766 : List RI := [(.aload_n 2, 1, 0, 0, 0, 0), (.aload_n 0, 1, 0, 0, 0, 0), (.iload_n 3, 1, 0, 0, 0, 0), (.iconst 1, 1, 0, 0, 0, 1), (.iadd, 1, 0, 0, 0, 0)]
theorem sk_127_766 : segB 12 false code 766 sg_127_766 = true := by decide +kernel
def sg_127_778 : List RI := [(.iconst 0, 1, 0, 0, 0, 0)]
theorem sk_127_778 : segB 12 false code 778 sg_127_778 = true := by decide +kernel
def sg_127_780 : List RI := [(.aload_n 1, 1, 0, 0, 0, 0), (.aload_n 0, 1, 0, 0, 0, 0), (.iload_n 3, 1, 0, 0, 0, 0), (.iconst 1, 1, 0, 0, 0, 1), (.iadd, 1, 0, 0, 0, 0)]
theorem sk_127_780 : segB 12 false code 780 sg_127_780 = true := by decide +kernel
def sg_127_786 : List RI := [(.aload_n 0, 1, 0, 0, 0, 0), (.iload_n 3, 1, 0, 0, 0, 0), (.iconst 2, 1, 0, 0, 0, 2), (.iadd, 1, 0, 0, 0, 0)]
theorem sk_127_786 : segB 12 false code 786 sg_127_786 = true := by decide +kernel
def sg_127_791 : List RI := [(.aload_n 0, 1, 0, 0, 0, 0), (.iload_n 3, 1, 0, 0, 0, 0), (.iconst 3, 1, 0, 0, 0, 3), (.iadd, 1, 0, 0, 0, 0)]
theorem sk_127_791 : segB 12 false code 791 sg_127_791 = true := by decide +kernel
def sg_127_796 : List RI := [(.aload_n 0, 1, 0, 0, 0, 0), (.iload_n 3, 1, 0, 0, 0, 0), (.iconst 4, 1, 0, 0, 0, 4), (.iadd, 1, 0, 0, 0, 0)]
theorem sk_127_796 : segB 12 false code 796 sg_127_796 = true := by decide +kernel
def sg_127_804 : List RI := [(.aload_n 2, 1, 0, 0, 0, 0), (.aload_n 0, 1, 0, 0, 0, 0), (.iload_n 3, 1, 0, 0, 0, 0), (.iconst 1, 1, 0, 0, 0, 1), (.iadd, 1, 0, 0, 0, 0)]
theorem sk_127_804 : segB 12 false code 804 sg_127_804 = true := by decide +kernel
def sg_127_810 : List RI := [(.aload_n 0, 1, 0, 0, 0, 0), (.iload_n 3, 1, 0, 0, 0, 0), (.iconst 2, 1, 0, 0, 0, 2), (.iadd, 1, 0, 0, 0, 0)]
theorem sk_127_810 : segB 12 false code 810 sg_127_810 = true := by decide +kernel
def sg_127_815 : List RI := [(.aload_n 0, 1, 0, 0, 0, 0), (.iload_n 3, 1, 0, 0, 0, 0), (.iconst 3, 1, 0, 0, 0, 3), (.iadd, 1, 0, 0, 0, 0)]
theorem sk_127_815 : segB 12 false code 815 sg_127_815 = true := by decide +kernel
def sg_127_820 : List RI := [(.aload_n 0, 1, 0, 0, 0, 0), (.iload_n 3, 1, 0, 0, 0, 0), (.iconst 4, 1, 0, 0, 0, 4), (.iadd, 1, 0, 0, 0, 0)]
theorem sk_127_820 : segB 12 false code 820 sg_127_820 = true := by decide +kernel
def sg_127_831 : List RI := [(.iconst 0, 1, 0, 0, 0, 0)]
theorem sk_127_831 : segB 12 false code 831 sg_127_831 = true := by decide +kernel
def sg_127_833 : List RI := [(.aload_n 1, 1, 0, 0, 0, 0), (.aload_n 0, 1, 0, 0, 0, 0), (.iload_n 3, 1, 0, 0, 0, 0), (.iconst 1, 1, 0, 0, 0, 1), (.iadd, 1, 0, 0, 0, 0)]
theorem sk_127_833 : segB 12 false code 833 sg_127_833 = true := by decide +kernel
def sg_127_842 : List RI := [(.aload_n 2, 1, 0, 0, 0, 0), (.aload_n 0, 1, 0, 0, 0, 0), (.iload_n 3, 1, 0, 0, 0, 0), (.iconst 1, 1, 0, 0, 0, 1), (.iadd, 1, 0, 0, 0, 0)]
theorem sk_127_842 : segB 12 false code 842 sg_127_842 = true := by decide +kernel
def sg_127_854 : List RI := [(.iconst 0, 1, 0, 0, 0, 0)]
theorem sk_127_854 : segB 12 false code 854 sg_127_854 = true := by decide +kernel
def sg_127_856 : List RI := [(.aload_n 1, 1, 0, 0, 0, 0)]
theorem sk_127_856 : segB 12 false code 856 sg_127_856 = true := by decide +kernel
def sg_127_860 : List RI := [(.aload_n 2, 1, 0, 0, 0, 0)]
theorem sk_127_860 : segB 12 false code 860 sg_127_860 = true := by decide +kernel
def sg_127_867 : List RI := [(.iconst 0, 1, 0, 0, 0, 0)]
theorem sk_127_867 : segB 12 false code 867 sg_127_867 = true := by decide +kernel
def sg_127_869 : List RI := [(.aload_n 1, 1, 0, 0, 0, 0), (.aload_n 0, 1, 0, 0, 0, 0), (.iload_n 3, 1, 0, 0, 0, 0), (.iconst 1, 1, 0, 0, 0, 1), (.iadd, 1, 0, 0, 0, 0)]
theorem sk_127_869 : segB 12 false code 869 sg_127_869 = true := by decide +kernel
def sg_127_878 : List RI := [(.aload_n 2, 1, 0, 0, 0, 0), (.aload_n 0, 1, 0, 0, 0, 0), (.iload_n 3, 1, 0, 0, 0, 0), (.iconst 1, 1, 0, 0, 0, 1), (.iadd, 1, 0, 0, 0, 0)]
theorem sk_127_878 : segB 12 false code 878 sg_127_878 = true := by decide +kernel
def sg_127_890 : List RI := [(.iconst 0, 1, 0, 0, 0, 0)]
theorem sk_127_890 : segB 12 false code 890 sg_127_890 = true := by decide +kernel
def sg_127_892 : List RI := [(.aload_n 1, 1, 0, 0, 0, 0), (.aload_n 0, 1, 0, 0, 0, 0), (.iload_n 3, 1, 0, 0, 0, 0), (.iconst 1, 1, 0, 0, 0, 1), (.iadd, 1, 0, 0, 0, 0)]
theorem sk_127_892 : segB 12 false code 892 sg_127_892 = true := by decide +kernel
def sg_127_898 : List RI := [(.aload_n 0, 1, 0, 0, 0, 0), (.iload_n 3, 1, 0, 0, 0, 0), (.iconst 2, 1, 0, 0, 0, 2), (.iadd, 1, 0, 0, 0, 0)]
theorem sk_127_898 : segB 12 false code 898 sg_127_898 = true := by decide +kernel
def sg_127_906 : List RI := [(.aload_n 2, 1, 0, 0, 0, 0), (.aload_n 0, 1, 0, 0, 0, 0), (.iload_n 3, 1, 0, 0, 0, 0), (.iconst 1, 1, 0, 0, 0, 1), (.iadd, 1, 0, 0, 0, 0)]
theorem sk_127_906 : segB 12 false code 906 sg_127_906 = true := by decide +kernel
def sg_127_912 : List RI := [(.aload_n 0, 1, 0, 0, 0, 0), (.iload_n 3, 1, 0, 0, 0, 0), (.iconst 2, 1, 0, 0, 0, 2), (.iadd, 1, 0, 0, 0, 0)]
theorem sk_127_912 : segB 12 false code 912 sg_127_912 = true := by decide +kernel
def sg_127_923 : List RI := [(.iconst 0, 1, 0, 0, 0, 0)]
theorem sk_127_923 : segB 12 false code 923 sg_127_923 = true := by decide +kernel
def sg_127_925 : List RI := [(.aload_n 1, 1, 0, 0, 0, 0), (.aload_n 0, 1, 0, 0, 0, 0), (.iload_n 3, 1, 0, 0, 0, 0), (.iconst 1, 1, 0, 0, 0, 1), (.iadd, 1, 0, 0, 0, 0)]
theorem sk_127_925 : segB 12 false code 925 sg_127_925 = true := by decide +kernel
def sg_127_931 : List RI := [(.aload_n 0, 1, 0, 0, 0, 0), (.iload_n 3, 1, 0, 0, 0, 0), (.iconst 2, 1, 0, 0, 0, 2), (.iadd, 1, 0, 0, 0, 0)]
theorem sk_127_931 : segB 12 false code 931 sg_127_931 = true := by decide +kernel
def sg_127_939 : List RI := [(.aload_n 2, 1, 0, 0, 0, 0), (.aload_n 0, 1, 0, 0, 0, 0), (.iload_n 3, 1, 0, 0, 0, 0), (.iconst 1, 1, 0, 0, 0, 1), (.iadd, 1, 0, 0, 0, 0)]
theorem sk_127_939 : segB 12 false code 939 sg_127_939 = true := by decide +kernel
def sg_127_945 : List RI := [(.aload_n 0, 1, 0, 0, 0, 0), (.iload_n 3, 1, 0, 0, 0, 0), (.iconst 2, 1, 0, 0, 0, 2), (.iadd, 1, 0, 0, 0, 0)]
theorem sk_127_945 : segB 12 false code 945 sg_127_945 = true := by decide +kernel
def sg_127_956 : List RI := [(.iconst 0, 1, 0, 0, 0, 0)]
theorem sk_127_956 : segB 12 false code 956 sg_127_956 = true := by decide +kernel
def sg_127_958 : List RI := [(.aload_n 1, 1, 0, 0, 0, 0), (.aload_n 0, 1, 0, 0, 0, 0), (.iload_n 3, 1, 0, 0, 0, 0), (.iconst 1, 1, 0, 0, 0, 1), (.iadd, 1, 0, 0, 0, 0)]
theorem sk_127_958 : segB 12 false code 958 sg_127_958 = true := by decide +kernel
def sg_127_964 : List RI := [(.aload_n 0, 1, 0, 0, 0, 0), (.iload_n 3, 1, 0, 0, 0, 0), (.iconst 2, 1, 0, 0, 0, 2), (.iadd, 1, 0, 0, 0, 0)]
theorem sk_127_964 : segB 12 false code 964 sg_127_964 = true := by decide +kernel
def sg_127_972 : List RI := [(.aload_n 2, 1, 0, 0, 0, 0), (.aload_n 0, 1, 0, 0, 0, 0), (.iload_n 3, 1, 0, 0, 0, 0), (.iconst 1, 1, 0, 0, 0, 1), (.iadd, 1, 0, 0, 0, 0)]
theorem sk_127_972 : segB 12 false code 972 sg_127_972 = true := by decide +kernel
def sg_127_978 : List RI := [(.aload_n 0, 1, 0, 0, 0, 0), (.iload_n 3, 1, 0, 0, 0, 0), (.iconst 2, 1, 0, 0, 0, 2), (.iadd, 1, 0, 0, 0, 0)]
theorem sk_127_978 : segB 12 false code 978 sg_127_978 = true := by decide +kernel
def sg_127_989 : List RI := [(.iconst 0, 1, 0, 0, 0, 0)]
theorem sk_127_989 : segB 12 false code 989 sg_127_989 = true := by decide +kernel
def sg_127_991 : List RI := [(.aload_n 1, 1, 0, 0, 0, 0), (.aload_n 0, 1, 0, 0, 0, 0), (.iload_n 3, 1, 0, 0, 0, 0), (.iconst 1, 1, 0, 0, 0, 1), (.iadd, 1, 0, 0, 0, 0)]
theorem sk_127_991 : segB 12 false code 991 sg_127_991 = true := by decide +kernel
def sg_127_1000 : List RI := [(.aload_n 2, 1, 0, 0, 0, 0), (.aload_n 0, 1, 0, 0, 0, 0), (.iload_n 3, 1, 0, 0, 0, 0), (.iconst 1, 1, 0, 0, 0, 1), (.iadd, 1, 0, 0, 0, 0)]
theorem sk_127_1000 : segB 12 false code 1000 sg_127_1000 = true := by decide +kernel
def sg_127_1012 : List RI := [(.iconst 0, 1, 0, 0, 0, 0)]
theorem sk_127_1012 : segB 12 false code 1012 sg_127_1012 = true := by decide +kernel
def sg_127_1014 : List RI := [(.iinc 3 7, 3, 0, 0, 0, 7)]
theorem sk_127_1014 : segB 12 false code 1014 sg_127_1014 = true := by decide +kernel
def sg_127_1020 : List RI := [(.iconst 1, 1, 0, 0, 0, 1)]
theorem sk_127_1020 : segB 12 false code 1020 sg_127_1020 = true := by decide +kernel
theorem ck_127_4 : decode code 4 = .ok (.invokespecial 9, 3) ∧ lnkB 12 false 4 (.invokespecial 9, 3, 55, 0, 0, 0) = true := by decide +kernel
theorem ck_127_12 : decode code 12 = .ok (.invokespecial 12, 3) ∧ lnkB 12 false 12 (.invokespecial 12, 3, 79, 0, 0, 0) = true := by decide +kernel
theorem ck_127_24 : decode code 24 = .ok (.if_icmp .gt 996, 3) ∧ lnkB 12 false 24 (.if_icmp .gt 996, 3, 1020, 0, 0, 0) = true := by decide +kernel
theorem ca_127_29 : decode code 29 = .ok (.iaload, 1) ∧ lnkB 12 false 29 (.iaload, 1, 1, 0, 0, 0) = true := by decide +kernel
theorem ck_127_33 : decode code 33 = .ok (.tableswitch 981 0 19 #[95, 170, 213, 266, 357, 416, 469, 522, 585, 638, 661, 724, 747, 800, 823, 836, 859, 892, 925, 958], 95) ∧ lnkB 12 false 33 (.tableswitch 981 0 19 #[95, 170, 213, 266, 357, 416, 469, 522, 585, 638, 661, 724, 747, 800, 823, 836, 859, 892, 925, 958], 95, 0, 0, 0, 0) = true := by decide +kernel
theorem ca_127_133 : decode code 133 = .ok (.iaload, 1) ∧ lnkB 12 false 133 (.iaload, 1, 1, 0, 0, 0) = true := by decide +kernel
theorem ca_127_138 : decode code 138 = .ok (.iaload, 1) ∧ lnkB 12 false 138 (.iaload, 1, 1, 0, 0, 0) = true := by decide +kernel
theorem ca_127_143 : decode code 143 = .ok (.iaload, 1) ∧ lnkB 12 false 143 (.iaload, 1, 1, 0, 0, 0) = true := by decide +kernel
theorem ca_127_148 : decode code 148 = .ok (.iaload, 1) ∧ lnkB 12 false 148 (.iaload, 1, 1, 0, 0, 0) = true := by decide +kernel
theorem ca_127_153 : decode code 153 = .ok (.iaload, 1) ∧ lnkB 12 false 153 (.iaload, 1, 1, 0, 0, 0) = true := by decide +kernel
theorem ca_127_159 : decode code 159 = .ok (.iaload, 1) ∧ lnkB 12 false 159 (.iaload, 1, 1, 0, 0, 0) = true := by decide +kernel
theorem ck_127_160 : decode code 160 = .ok (.invokevirtual 13, 3) ∧ lnkB 12 false 160 (.invokevirtual 13, 3, 56, 0, 0, 0) = true := by decide +kernel
theorem ca_127_168 : decode code 168 = .ok (.iaload, 1) ∧ lnkB 12 false 168 (.iaload, 1, 1, 0, 0, 0) = true := by decide +kernel
theorem ca_127_173 : decode code 173 = .ok (.iaload, 1) ∧ lnkB 12 false 173 (.iaload, 1, 1, 0, 0, 0) = true := by decide +kernel
theorem ca_127_178 : decode code 178 = .ok (.iaload, 1) ∧ lnkB 12 false 178 (.iaload, 1, 1, 0, 0, 0) = true := by decide +kernel
theorem ca_127_183 : decode code 183 = .ok (.iaload, 1) ∧ lnkB 12 false 183 (.iaload, 1, 1, 0, 0, 0) = true := by decide +kernel
theorem ca_127_188 : decode code 188 = .ok (.iaload, 1) ∧ lnkB 12 false 188 (.iaload, 1, 1, 0, 0, 0) = true := by decide +kernel
theorem ca_127_194 : decode code 194 = .ok (.iaload, 1) ∧ lnkB 12 false 194 (.iaload, 1, 1, 0, 0, 0) = true := by decide +kernel
theorem ck_127_195 : decode code 195 = .ok (.invokevirtual 17, 3) ∧ lnkB 12 false 195 (.invokevirtual 17, 3, 80, 0, 0, 0) = true := by decide +kernel
theorem ck_127_198 : decode code 198 = .ok (.if_icmp .eq 816, 3) ∧ lnkB 12 false 198 (.if_icmp .eq 816, 3, 1014, 0, 0, 0) = true := by decide +kernel
theorem ck_127_202 : decode code 202 = .ok (.ireturn, 1) ∧ lnkB 12 false 202 (.ireturn, 1, 0, 0, 0, 0) = true := by decide +kernel
theorem ca_127_208 : decode code 208 = .ok (.iaload, 1) ∧ lnkB 12 false 208 (.iaload, 1, 1, 0, 0, 0) = true := by decide +kernel
theorem ca_127_213 : decode code 213 = .ok (.iaload, 1) ∧ lnkB 12 false 213 (.iaload, 1, 1, 0, 0, 0) = true := by decide +kernel
theorem ca_127_218 : decode code 218 = .ok (.iaload, 1) ∧ lnkB 12 false 218 (.iaload, 1, 1, 0, 0, 0) = true := by decide +kernel
theorem ck_127_219 : decode code 219 = .ok (.invokevirtual 18, 3) ∧ lnkB 12 false 219 (.invokevirtual 18, 3, 58, 0, 0, 0) = true := by decide +kernel
theorem ca_127_227 : decode code 227 = .ok (.iaload, 1) ∧ lnkB 12 false 227 (.iaload, 1, 1, 0, 0, 0) = true := by decide +kernel
theorem ca_127_232 : decode code 232 = .ok (.iaload, 1) ∧ lnkB 12 false 232 (.iaload, 1, 1, 0, 0, 0) = true := by decide +kernel
theorem ca_127_237 : decode code 237 = .ok (.iaload, 1) ∧ lnkB 12 false 237 (.iaload, 1, 1, 0, 0, 0) = true := by decide +kernel
theorem ck_127_238 : decode code 238 = .ok (.invokevirtual 22, 3) ∧ lnkB 12 false 238 (.invokevirtual 22, 3, 82, 0, 0, 0) = true := by decide +kernel
theorem ck_127_241 : decode code 241 = .ok (.if_icmp .eq 773, 3) ∧ lnkB 12 false 241 (.if_icmp .eq 773, 3, 1014, 0, 0, 0) = true := by decide +kernel
theorem ck_127_245 : decode code 245 = .ok (.ireturn, 1) ∧ lnkB 12 false 245 (.ireturn, 1, 0, 0, 0, 0) = true := by decide +kernel
theorem ca_127_251 : decode code 251 = .ok (.iaload, 1) ∧ lnkB 12 false 251 (.iaload, 1, 1, 0, 0, 0) = true := by decide +kernel
theorem ca_127_256 : decode code 256 = .ok (.iaload, 1) ∧ lnkB 12 false 256 (.iaload, 1, 1, 0, 0, 0) = true := by decide +kernel
theorem ca_127_261 : decode code 261 = .ok (.iaload, 1) ∧ lnkB 12 false 261 (.iaload, 1, 1, 0, 0, 0) = true := by decide +kernel
theorem ca_127_266 : decode code 266 = .ok (.iaload, 1) ∧ lnkB 12 false 266 (.iaload, 1, 1, 0, 0, 0) = true := by decide +kernel
theorem ck_127_267 : decode code 267 = .ok (.invokevirtual 23, 3) ∧ lnkB 12 false 267 (.invokevirtual 23, 3, 59, 0, 0, 0) = true := by decide +kernel
theorem ca_127_275 : decode code 275 = .ok (.iaload, 1) ∧ lnkB 12 false 275 (.iaload, 1, 1, 0, 0, 0) = true := by decide +kernel
theorem ca_127_280 : decode code 280 = .ok (.iaload, 1) ∧ lnkB 12 false 280 (.iaload, 1, 1, 0, 0, 0) = true := by decide +kernel
theorem ca_127_285 : decode code 285 = .ok (.iaload, 1) ∧ lnkB 12 false 285 (.iaload, 1, 1, 0, 0, 0) = true := by decide +kernel
theorem ca_127_290 : decode code 290 = .ok (.iaload, 1) ∧ lnkB 12 false 290 (.iaload, 1, 1, 0, 0, 0) = true := by decide +kernel
theorem ck_127_291 : decode code 291 = .ok (.invokevirtual 27, 3) ∧ lnkB 12 false 291 (.invokevirtual 27, 3, 83, 0, 0, 0) = true := by decide +kernel
theorem ck_127_294 : decode code 294 = .ok (.if_icmp .eq 720, 3) ∧ lnkB 12 false 294 (.if_icmp .eq 720, 3, 1014, 0, 0, 0) = true := by decide +kernel
theorem ck_127_298 : decode code 298 = .ok (.ireturn, 1) ∧ lnkB 12 false 298 (.ireturn, 1, 0, 0, 0, 0) = true := by decide +kernel
theorem ca_127_304 : decode code 304 = .ok (.iaload, 1) ∧ lnkB 12 false 304 (.iaload, 1, 1, 0, 0, 0) = true := by decide +kernel
theorem ca_127_309 : decode code 309 = .ok (.iaload, 1) ∧ lnkB 12 false 309 (.iaload, 1, 1, 0, 0, 0) = true := by decide +kernel
theorem ca_127_314 : decode code 314 = .ok (.iaload, 1) ∧ lnkB 12 false 314 (.iaload, 1, 1, 0, 0, 0) = true := by decide +kernel
theorem ca_127_319 : decode code 319 = .ok (.iaload, 1) ∧ lnkB 12 false 319 (.iaload, 1, 1, 0, 0, 0) = true := by decide +kernel
theorem ca_127_324 : decode code 324 = .ok (.iaload, 1) ∧ lnkB 12 false 324 (.iaload, 1, 1, 0, 0, 0) = true := by decide +kernel
theorem ca_127_330 : decode code 330 = .ok (.iaload, 1) ∧ lnkB 12 false 330 (.iaload, 1, 1, 0, 0, 0) = true := by decide +kernel
theorem ck_127_331 : decode code 331 = .ok (.ifCond .eq 7, 3) ∧ lnkB 12 false 331 (.ifCond .eq 7, 3, 338, 0, 0, 0) = true := by decide +kernel
theorem ck_127_335 : decode code 335 = .ok (.goto 4, 3) ∧ lnkB 12 false 335 (.goto 4, 3, 339, 0, 0, 0) = true := by decide +kernel
theorem ck_127_339 : decode code 339 = .ok (.invokevirtual 28, 3) ∧ lnkB 12 false 339 (.invokevirtual 28, 3, 60, 0, 0, 0) = true := by decide +kernel
theorem ca_127_347 : decode code 347 = .ok (.iaload, 1) ∧ lnkB 12 false 347 (.iaload, 1, 1, 0, 0, 0) = true := by decide +kernel
theorem ca_127_352 : decode code 352 = .ok (.iaload, 1) ∧ lnkB 12 false 352 (.iaload, 1, 1, 0, 0, 0) = true := by decide +kernel
theorem ca_127_357 : decode code 357 = .ok (.iaload, 1) ∧ lnkB 12 false 357 (.iaload, 1, 1, 0, 0, 0) = true := by decide +kernel
theorem ca_127_362 : decode code 362 = .ok (.iaload, 1) ∧ lnkB 12 false 362 (.iaload, 1, 1, 0, 0, 0) = true := by decide +kernel
theorem ca_127_367 : decode code 367 = .ok (.iaload, 1) ∧ lnkB 12 false 367 (.iaload, 1, 1, 0, 0, 0) = true := by decide +kernel
theorem ca_127_373 : decode code 373 = .ok (.iaload, 1) ∧ lnkB 12 false 373 (.iaload, 1, 1, 0, 0, 0) = true := by decide +kernel
theorem ck_127_374 : decode code 374 = .ok (.ifCond .eq 7, 3) ∧ lnkB 12 false 374 (.ifCond .eq 7, 3, 381, 0, 0, 0) = true := by decide +kernel
theorem ck_127_378 : decode code 378 = .ok (.goto 4, 3) ∧ lnkB 12 false 378 (.goto 4, 3, 382, 0, 0, 0) = true := by decide +kernel
theorem ck_127_382 : decode code 382 = .ok (.invokevirtual 32, 3) ∧ lnkB 12 false 382 (.invokevirtual 32, 3, 84, 0, 0, 0) = true := by decide +kernel
theorem ck_127_385 : decode code 385 = .ok (.if_icmp .eq 629, 3) ∧ lnkB 12 false 385 (.if_icmp .eq 629, 3, 1014, 0, 0, 0) = true := by decide +kernel
theorem ck_127_389 : decode code 389 = .ok (.ireturn, 1) ∧ lnkB 12 false 389 (.ireturn, 1, 0, 0, 0, 0) = true := by decide +kernel
theorem ca_127_395 : decode code 395 = .ok (.iaload, 1) ∧ lnkB 12 false 395 (.iaload, 1, 1, 0, 0, 0) = true := by decide +kernel
theorem ca_127_400 : decode code 400 = .ok (.iaload, 1) ∧ lnkB 12 false 400 (.iaload, 1, 1, 0, 0, 0) = true := by decide +kernel
theorem ca_127_405 : decode code 405 = .ok (.iaload, 1) ∧ lnkB 12 false 405 (.iaload, 1, 1, 0, 0, 0) = true := by decide +kernel
theorem ck_127_406 : decode code 406 = .ok (.ifCond .eq 7, 3) ∧ lnkB 12 false 406 (.ifCond .eq 7, 3, 413, 0, 0, 0) = true := by decide +kernel
theorem ck_127_410 : decode code 410 = .ok (.goto 4, 3) ∧ lnkB 12 false 410 (.goto 4, 3, 414, 0, 0, 0) = true := by decide +kernel
theorem ck_127_414 : decode code 414 = .ok (.invokevirtual 33, 3) ∧ lnkB 12 false 414 (.invokevirtual 33, 3, 61, 0, 0, 0) = true := by decide +kernel
theorem ca_127_422 : decode code 422 = .ok (.iaload, 1) ∧ lnkB 12 false 422 (.iaload, 1, 1, 0, 0, 0) = true := by decide +kernel
theorem ca_127_427 : decode code 427 = .ok (.iaload, 1) ∧ lnkB 12 false 427 (.iaload, 1, 1, 0, 0, 0) = true := by decide +kernel
theorem ca_127_432 : decode code 432 = .ok (.iaload, 1) ∧ lnkB 12 false 432 (.iaload, 1, 1, 0, 0, 0) = true := by decide +kernel
theorem ck_127_433 : decode code 433 = .ok (.ifCond .eq 7, 3) ∧ lnkB 12 false 433 (.ifCond .eq 7, 3, 440, 0, 0, 0) = true := by decide +kernel
theorem ck_127_437 : decode code 437 = .ok (.goto 4, 3) ∧ lnkB 12 false 437 (.goto 4, 3, 441, 0, 0, 0) = true := by decide +kernel
theorem ck_127_441 : decode code 441 = .ok (.invokevirtual 37, 3) ∧ lnkB 12 false 441 (.invokevirtual 37, 3, 85, 0, 0, 0) = true := by decide +kernel
theorem ck_127_444 : decode code 444 = .ok (.if_icmp .eq 570, 3) ∧ lnkB 12 false 444 (.if_icmp .eq 570, 3, 1014, 0, 0, 0) = true := by decide +kernel
theorem ck_127_448 : decode code 448 = .ok (.ireturn, 1) ∧ lnkB 12 false 448 (.ireturn, 1, 0, 0, 0, 0) = true := by decide +kernel
theorem ca_127_454 : decode code 454 = .ok (.iaload, 1) ∧ lnkB 12 false 454 (.iaload, 1, 1, 0, 0, 0) = true := by decide +kernel
theorem ca_127_459 : decode code 459 = .ok (.iaload, 1) ∧ lnkB 12 false 459 (.iaload, 1, 1, 0, 0, 0) = true := by decide +kernel
theorem ca_127_464 : decode code 464 = .ok (.iaload, 1) ∧ lnkB 12 false 464 (.iaload, 1, 1, 0, 0, 0) = true := by decide +kernel
theorem ca_127_469 : decode code 469 = .ok (.iaload, 1) ∧ lnkB 12 false 469 (.iaload, 1, 1, 0, 0, 0) = true := by decide +kernel
theorem ck_127_470 : decode code 470 = .ok (.invokevirtual 38, 3) ∧ lnkB 12 false 470 (.invokevirtual 38, 3, 63, 0, 0, 0) = true := by decide +kernel
theorem ca_127_478 : decode code 478 = .ok (.iaload, 1) ∧ lnkB 12 false 478 (.iaload, 1, 1, 0, 0, 0) = true := by decide +kernel
theorem ca_127_483 : decode code 483 = .ok (.iaload, 1) ∧ lnkB 12 false 483 (.iaload, 1, 1, 0, 0, 0) = true := by decide +kernel
theorem ca_127_488 : decode code 488 = .ok (.iaload, 1) ∧ lnkB 12 false 488 (.iaload, 1, 1, 0, 0, 0) = true := by decide +kernel
theorem ca_127_493 : decode code 493 = .ok (.iaload, 1) ∧ lnkB 12 false 493 (.iaload, 1, 1, 0, 0, 0) = true := by decide +kernel
theorem ck_127_494 : decode code 494 = .ok (.invokevirtual 41, 3) ∧ lnkB 12 false 494 (.invokevirtual 41, 3, 87, 0, 0, 0) = true := by decide +kernel
theorem ck_127_497 : decode code 497 = .ok (.if_icmp .eq 517, 3) ∧ lnkB 12 false 497 (.if_icmp .eq 517, 3, 1014, 0, 0, 0) = true := by decide +kernel
theorem ck_127_501 : decode code 501 = .ok (.ireturn, 1) ∧ lnkB 12 false 501 (.ireturn, 1, 0, 0, 0, 0) = true := by decide +kernel
theorem ca_127_507 : decode code 507 = .ok (.iaload, 1) ∧ lnkB 12 false 507 (.iaload, 1, 1, 0, 0, 0) = true := by decide +kernel
theorem ca_127_512 : decode code 512 = .ok (.iaload, 1) ∧ lnkB 12 false 512 (.iaload, 1, 1, 0, 0, 0) = true := by decide +kernel
theorem ca_127_517 : decode code 517 = .ok (.iaload, 1) ∧ lnkB 12 false 517 (.iaload, 1, 1, 0, 0, 0) = true := by decide +kernel
theorem ca_127_522 : decode code 522 = .ok (.iaload, 1) ∧ lnkB 12 false 522 (.iaload, 1, 1, 0, 0, 0) = true := by decide +kernel
theorem ck_127_523 : decode code 523 = .ok (.invokevirtual 42, 3) ∧ lnkB 12 false 523 (.invokevirtual 42, 3, 65, 0, 0, 0) = true := by decide +kernel
theorem ca_127_531 : decode code 531 = .ok (.iaload, 1) ∧ lnkB 12 false 531 (.iaload, 1, 1, 0, 0, 0) = true := by decide +kernel
theorem ca_127_536 : decode code 536 = .ok (.iaload, 1) ∧ lnkB 12 false 536 (.iaload, 1, 1, 0, 0, 0) = true := by decide +kernel
theorem ca_127_541 : decode code 541 = .ok (.iaload, 1) ∧ lnkB 12 false 541 (.iaload, 1, 1, 0, 0, 0) = true := by decide +kernel
theorem ca_127_546 : decode code 546 = .ok (.iaload, 1) ∧ lnkB 12 false 546 (.iaload, 1, 1, 0, 0, 0) = true := by decide +kernel
theorem ck_127_547 : decode code 547 = .ok (.invokevirtual 45, 3) ∧ lnkB 12 false 547 (.invokevirtual 45, 3, 88, 0, 0, 0) = true := by decide +kernel
theorem ck_127_550 : decode code 550 = .ok (.if_icmp .eq 464, 3) ∧ lnkB 12 false 550 (.if_icmp .eq 464, 3, 1014, 0, 0, 0) = true := by decide +kernel
theorem ck_127_554 : decode code 554 = .ok (.ireturn, 1) ∧ lnkB 12 false 554 (.ireturn, 1, 0, 0, 0, 0) = true := by decide +kernel
theorem ca_127_560 : decode code 560 = .ok (.iaload, 1) ∧ lnkB 12 false 560 (.iaload, 1, 1, 0, 0, 0) = true := by decide +kernel
theorem ca_127_565 : decode code 565 = .ok (.iaload, 1) ∧ lnkB 12 false 565 (.iaload, 1, 1, 0, 0, 0) = true := by decide +kernel
theorem ca_127_570 : decode code 570 = .ok (.iaload, 1) ∧ lnkB 12 false 570 (.iaload, 1, 1, 0, 0, 0) = true := by decide +kernel
theorem ca_127_575 : decode code 575 = .ok (.iaload, 1) ∧ lnkB 12 false 575 (.iaload, 1, 1, 0, 0, 0) = true := by decide +kernel
theorem ca_127_580 : decode code 580 = .ok (.iaload, 1) ∧ lnkB 12 false 580 (.iaload, 1, 1, 0, 0, 0) = true := by decide +kernel
theorem ck_127_581 : decode code 581 = .ok (.invokevirtual 46, 3) ∧ lnkB 12 false 581 (.invokevirtual 46, 3, 66, 0, 0, 0) = true := by decide +kernel
theorem ca_127_589 : decode code 589 = .ok (.iaload, 1) ∧ lnkB 12 false 589 (.iaload, 1, 1, 0, 0, 0) = true := by decide +kernel
theorem ca_127_594 : decode code 594 = .ok (.iaload, 1) ∧ lnkB 12 false 594 (.iaload, 1, 1, 0, 0, 0) = true := by decide +kernel
theorem ca_127_599 : decode code 599 = .ok (.iaload, 1) ∧ lnkB 12 false 599 (.iaload, 1, 1, 0, 0, 0) = true := by decide +kernel
theorem ca_127_604 : decode code 604 = .ok (.iaload, 1) ∧ lnkB 12 false 604 (.iaload, 1, 1, 0, 0, 0) = true := by decide +kernel
theorem ca_127_609 : decode code 609 = .ok (.iaload, 1) ∧ lnkB 12 false 609 (.iaload, 1, 1, 0, 0, 0) = true := by decide +kernel
theorem ck_127_610 : decode code 610 = .ok (.invokevirtual 50, 3) ∧ lnkB 12 false 610 (.invokevirtual 50, 3, 89, 0, 0, 0) = true := by decide +kernel
theorem ck_127_613 : decode code 613 = .ok (.if_icmp .eq 401, 3) ∧ lnkB 12 false 613 (.if_icmp .eq 401, 3, 1014, 0, 0, 0) = true := by decide +kernel
theorem ck_127_617 : decode code 617 = .ok (.ireturn, 1) ∧ lnkB 12 false 617 (.ireturn, 1, 0, 0, 0, 0) = true := by decide +kernel
theorem ca_127_623 : decode code 623 = .ok (.iaload, 1) ∧ lnkB 12 false 623 (.iaload, 1, 1, 0, 0, 0) = true := by decide +kernel
theorem ca_127_628 : decode code 628 = .ok (.iaload, 1) ∧ lnkB 12 false 628 (.iaload, 1, 1, 0, 0, 0) = true := by decide +kernel
theorem ca_127_633 : decode code 633 = .ok (.iaload, 1) ∧ lnkB 12 false 633 (.iaload, 1, 1, 0, 0, 0) = true := by decide +kernel
theorem ca_127_638 : decode code 638 = .ok (.iaload, 1) ∧ lnkB 12 false 638 (.iaload, 1, 1, 0, 0, 0) = true := by decide +kernel
theorem ck_127_639 : decode code 639 = .ok (.invokevirtual 51, 3) ∧ lnkB 12 false 639 (.invokevirtual 51, 3, 67, 0, 0, 0) = true := by decide +kernel
theorem ca_127_647 : decode code 647 = .ok (.iaload, 1) ∧ lnkB 12 false 647 (.iaload, 1, 1, 0, 0, 0) = true := by decide +kernel
theorem ca_127_652 : decode code 652 = .ok (.iaload, 1) ∧ lnkB 12 false 652 (.iaload, 1, 1, 0, 0, 0) = true := by decide +kernel
theorem ca_127_657 : decode code 657 = .ok (.iaload, 1) ∧ lnkB 12 false 657 (.iaload, 1, 1, 0, 0, 0) = true := by decide +kernel
theorem ca_127_662 : decode code 662 = .ok (.iaload, 1) ∧ lnkB 12 false 662 (.iaload, 1, 1, 0, 0, 0) = true := by decide +kernel
theorem ck_127_663 : decode code 663 = .ok (.invokevirtual 54, 3) ∧ lnkB 12 false 663 (.invokevirtual 54, 3, 90, 0, 0, 0) = true := by decide +kernel
theorem ck_127_666 : decode code 666 = .ok (.if_icmp .eq 348, 3) ∧ lnkB 12 false 666 (.if_icmp .eq 348, 3, 1014, 0, 0, 0) = true := by decide +kernel
theorem ck_127_670 : decode code 670 = .ok (.ireturn, 1) ∧ lnkB 12 false 670 (.ireturn, 1, 0, 0, 0, 0) = true := by decide +kernel
theorem ca_127_676 : decode code 676 = .ok (.iaload, 1) ∧ lnkB 12 false 676 (.iaload, 1, 1, 0, 0, 0) = true := by decide +kernel
theorem ck_127_677 : decode code 677 = .ok (.invokevirtual 55, 3) ∧ lnkB 12 false 677 (.invokevirtual 55, 3, 68, 0, 0, 0) = true := by decide +kernel
theorem ca_127_685 : decode code 685 = .ok (.iaload, 1) ∧ lnkB 12 false 685 (.iaload, 1, 1, 0, 0, 0) = true := by decide +kernel
theorem ck_127_686 : decode code 686 = .ok (.invokevirtual 59, 3) ∧ lnkB 12 false 686 (.invokevirtual 59, 3, 91, 0, 0, 0) = true := by decide +kernel
theorem ck_127_689 : decode code 689 = .ok (.if_icmp .eq 325, 3) ∧ lnkB 12 false 689 (.if_icmp .eq 325, 3, 1014, 0, 0, 0) = true := by decide +kernel
theorem ck_127_693 : decode code 693 = .ok (.ireturn, 1) ∧ lnkB 12 false 693 (.ireturn, 1, 0, 0, 0, 0) = true := by decide +kernel
theorem ca_127_699 : decode code 699 = .ok (.iaload, 1) ∧ lnkB 12 false 699 (.iaload, 1, 1, 0, 0, 0) = true := by decide +kernel
theorem ca_127_704 : decode code 704 = .ok (.iaload, 1) ∧ lnkB 12 false 704 (.iaload, 1, 1, 0, 0, 0) = true := by decide +kernel
theorem ca_127_709 : decode code 709 = .ok (.iaload, 1) ∧ lnkB 12 false 709 (.iaload, 1, 1, 0, 0, 0) = true := by decide +kernel
theorem ca_127_714 : decode code 714 = .ok (.iaload, 1) ∧ lnkB 12 false 714 (.iaload, 1, 1, 0, 0, 0) = true := by decide +kernel
theorem ca_127_719 : decode code 719 = .ok (.iaload, 1) ∧ lnkB 12 false 719 (.iaload, 1, 1, 0, 0, 0) = true := by decide +kernel
theorem ck_127_720 : decode code 720 = .ok (.invokevirtual 60, 3) ∧ lnkB 12 false 720 (.invokevirtual 60, 3, 69, 0, 0, 0) = true := by decide +kernel
theorem ca_127_728 : decode code 728 = .ok (.iaload, 1) ∧ lnkB 12 false 728 (.iaload, 1, 1, 0, 0, 0) = true := by decide +kernel
theorem ca_127_733 : decode code 733 = .ok (.iaload, 1) ∧ lnkB 12 false 733 (.iaload, 1, 1, 0, 0, 0) = true := by decide +kernel
theorem ca_127_738 : decode code 738 = .ok (.iaload, 1) ∧ lnkB 12 false 738 (.iaload, 1, 1, 0, 0, 0) = true := by decide +kernel
theorem ca_127_743 : decode code 743 = .ok (.iaload, 1) ∧ lnkB 12 false 743 (.iaload, 1, 1, 0, 0, 0) = true := by decide +kernel
theorem ca_127_748 : decode code 748 = .ok (.iaload, 1) ∧ lnkB 12 false 748 (.iaload, 1, 1, 0, 0, 0) = true := by decide +kernel
theorem ck_127_749 : decode code 749 = .ok (.invokevirtual 64, 3) ∧ lnkB 12 false 749 (.invokevirtual 64, 3, 93, 0, 0, 0) = true := by decide +kernel
theorem ck_127_752 : decode code 752 = .ok (.if_icmp .eq 262, 3) ∧ lnkB 12 false 752 (.if_icmp .eq 262, 3, 1014, 0, 0, 0) = true := by decide +kernel
theorem ck_127_756 : decode code 756 = .ok (.ireturn, 1) ∧ lnkB 12 false 756 (.ireturn, 1, 0, 0, 0, 0) = true := by decide +kernel
theorem ca_127_762 : decode code 762 = .ok (.iaload, 1) ∧ lnkB 12 false 762 (.iaload, 1, 1, 0, 0, 0) = true := by decide +kernel
theorem ck_127_763 : decode code 763 = .ok (.invokevirtual 65, 3) ∧ lnkB 12 false 763 (.invokevirtual 65, 3, 70, 0, 0, 0) = true := by decide +kernel
theorem ca_127_771 : decode code 771 = .ok (.iaload, 1) ∧ lnkB 12 false 771 (.iaload, 1, 1, 0, 0, 0) = true := by decide +kernel
theorem ck_127_772 : decode code 772 = .ok (.invokevirtual 68, 3) ∧ lnkB 12 false 772 (.invokevirtual 68, 3, 95, 0, 0, 0) = true := by decide +kernel
theorem ck_127_775 : decode code 775 = .ok (.if_icmp .eq 239, 3) ∧ lnkB 12 false 775 (.if_icmp .eq 239, 3, 1014, 0, 0, 0) = true := by decide +kernel
theorem ck_127_779 : decode code 779 = .ok (.ireturn, 1) ∧ lnkB 12 false 779 (.ireturn, 1, 0, 0, 0, 0) = true := by decide +kernel
theorem ca_127_785 : decode code 785 = .ok (.iaload, 1) ∧ lnkB 12 false 785 (.iaload, 1, 1, 0, 0, 0) = true := by decide +kernel
theorem ca_127_790 : decode code 790 = .ok (.iaload, 1) ∧ lnkB 12 false 790 (.iaload, 1, 1, 0, 0, 0) = true := by decide +kernel
theorem ca_127_795 : decode code 795 = .ok (.iaload, 1) ∧ lnkB 12 false 795 (.iaload, 1, 1, 0, 0, 0) = true := by decide +kernel
theorem ca_127_800 : decode code 800 = .ok (.iaload, 1) ∧ lnkB 12 false 800 (.iaload, 1, 1, 0, 0, 0) = true := by decide +kernel
theorem ck_127_801 : decode code 801 = .ok (.invokevirtual 69, 3) ∧ lnkB 12 false 801 (.invokevirtual 69, 3, 71, 0, 0, 0) = true := by decide +kernel
theorem ca_127_809 : decode code 809 = .ok (.iaload, 1) ∧ lnkB 12 false 809 (.iaload, 1, 1, 0, 0, 0) = true := by decide +kernel
theorem ca_127_814 : decode code 814 = .ok (.iaload, 1) ∧ lnkB 12 false 814 (.iaload, 1, 1, 0, 0, 0) = true := by decide +kernel
theorem ca_127_819 : decode code 819 = .ok (.iaload, 1) ∧ lnkB 12 false 819 (.iaload, 1, 1, 0, 0, 0) = true := by decide +kernel
theorem ca_127_824 : decode code 824 = .ok (.iaload, 1) ∧ lnkB 12 false 824 (.iaload, 1, 1, 0, 0, 0) = true := by decide +kernel
theorem ck_127_825 : decode code 825 = .ok (.invokevirtual 73, 3) ∧ lnkB 12 false 825 (.invokevirtual 73, 3, 102, 0, 0, 0) = true := by decide +kernel
theorem ck_127_828 : decode code 828 = .ok (.if_icmp .eq 186, 3) ∧ lnkB 12 false 828 (.if_icmp .eq 186, 3, 1014, 0, 0, 0) = true := by decide +kernel
theorem ck_127_832 : decode code 832 = .ok (.ireturn, 1) ∧ lnkB 12 false 832 (.ireturn, 1, 0, 0, 0, 0) = true := by decide +kernel
theorem ca_127_838 : decode code 838 = .ok (.iaload, 1) ∧ lnkB 12 false 838 (.iaload, 1, 1, 0, 0, 0) = true := by decide +kernel
theorem ck_127_839 : decode code 839 = .ok (.invokevirtual 74, 3) ∧ lnkB 12 false 839 (.invokevirtual 74, 3, 72, 0, 0, 0) = true := by decide +kernel
theorem ca_127_847 : decode code 847 = .ok (.iaload, 1) ∧ lnkB 12 false 847 (.iaload, 1, 1, 0, 0, 0) = true := by decide +kernel
theorem ck_127_848 : decode code 848 = .ok (.invokevirtual 77, 3) ∧ lnkB 12 false 848 (.invokevirtual 77, 3, 96, 0, 0, 0) = true := by decide +kernel
theorem ck_127_851 : decode code 851 = .ok (.if_icmp .eq 163, 3) ∧ lnkB 12 false 851 (.if_icmp .eq 163, 3, 1014, 0, 0, 0) = true := by decide +kernel
theorem ck_127_855 : decode code 855 = .ok (.ireturn, 1) ∧ lnkB 12 false 855 (.ireturn, 1, 0, 0, 0, 0) = true := by decide +kernel
theorem ck_127_857 : decode code 857 = .ok (.invokevirtual 78, 3) ∧ lnkB 12 false 857 (.invokevirtual 78, 3, 73, 0, 0, 0) = true := by decide +kernel
theorem ck_127_861 : decode code 861 = .ok (.invokevirtual 82, 3) ∧ lnkB 12 false 861 (.invokevirtual 82, 3, 121, 0, 0, 0) = true := by decide +kernel
theorem ck_127_864 : decode code 864 = .ok (.if_icmp .eq 150, 3) ∧ lnkB 12 false 864 (.if_icmp .eq 150, 3, 1014, 0, 0, 0) = true := by decide +kernel
theorem ck_127_868 : decode code 868 = .ok (.ireturn, 1) ∧ lnkB 12 false 868 (.ireturn, 1, 0, 0, 0, 0) = true := by decide +kernel
theorem ca_127_874 : decode code 874 = .ok (.iaload, 1) ∧ lnkB 12 false 874 (.iaload, 1, 1, 0, 0, 0) = true := by decide +kernel
theorem ck_127_875 : decode code 875 = .ok (.invokevirtual 83, 3) ∧ lnkB 12 false 875 (.invokevirtual 83, 3, 74, 0, 0, 0) = true := by decide +kernel
theorem ca_127_883 : decode code 883 = .ok (.iaload, 1) ∧ lnkB 12 false 883 (.iaload, 1, 1, 0, 0, 0) = true := by decide +kernel
theorem ck_127_884 : decode code 884 = .ok (.invokevirtual 86, 3) ∧ lnkB 12 false 884 (.invokevirtual 86, 3, 122, 0, 0, 0) = true := by decide +kernel
theorem ck_127_887 : decode code 887 = .ok (.if_icmp .eq 127, 3) ∧ lnkB 12 false 887 (.if_icmp .eq 127, 3, 1014, 0, 0, 0) = true := by decide +kernel
theorem ck_127_891 : decode code 891 = .ok (.ireturn, 1) ∧ lnkB 12 false 891 (.ireturn, 1, 0, 0, 0, 0) = true := by decide +kernel
theorem ca_127_897 : decode code 897 = .ok (.iaload, 1) ∧ lnkB 12 false 897 (.iaload, 1, 1, 0, 0, 0) = true := by decide +kernel
theorem ca_127_902 : decode code 902 = .ok (.iaload, 1) ∧ lnkB 12 false 902 (.iaload, 1, 1, 0, 0, 0) = true := by decide +kernel
theorem ck_127_903 : decode code 903 = .ok (.invokevirtual 87, 3) ∧ lnkB 12 false 903 (.invokevirtual 87, 3, 75, 0, 0, 0) = true := by decide +kernel
theorem ca_127_911 : decode code 911 = .ok (.iaload, 1) ∧ lnkB 12 false 911 (.iaload, 1, 1, 0, 0, 0) = true := by decide +kernel
theorem ca_127_916 : decode code 916 = .ok (.iaload, 1) ∧ lnkB 12 false 916 (.iaload, 1, 1, 0, 0, 0) = true := by decide +kernel
theorem ck_127_917 : decode code 917 = .ok (.invokevirtual 91, 3) ∧ lnkB 12 false 917 (.invokevirtual 91, 3, 123, 0, 0, 0) = true := by decide +kernel
theorem ck_127_920 : decode code 920 = .ok (.if_icmp .eq 94, 3) ∧ lnkB 12 false 920 (.if_icmp .eq 94, 3, 1014, 0, 0, 0) = true := by decide +kernel
theorem ck_127_924 : decode code 924 = .ok (.ireturn, 1) ∧ lnkB 12 false 924 (.ireturn, 1, 0, 0, 0, 0) = true := by decide +kernel
theorem ca_127_930 : decode code 930 = .ok (.iaload, 1) ∧ lnkB 12 false 930 (.iaload, 1, 1, 0, 0, 0) = true := by decide +kernel
theorem ca_127_935 : decode code 935 = .ok (.iaload, 1) ∧ lnkB 12 false 935 (.iaload, 1, 1, 0, 0, 0) = true := by decide +kernel
theorem ck_127_936 : decode code 936 = .ok (.invokevirtual 92, 3) ∧ lnkB 12 false 936 (.invokevirtual 92, 3, 76, 0, 0, 0) = true := by decide +kernel
theorem ca_127_944 : decode code 944 = .ok (.iaload, 1) ∧ lnkB 12 false 944 (.iaload, 1, 1, 0, 0, 0) = true := by decide +kernel
theorem ca_127_949 : decode code 949 = .ok (.iaload, 1) ∧ lnkB 12 false 949 (.iaload, 1, 1, 0, 0, 0) = true := by decide +kernel
theorem ck_127_950 : decode code 950 = .ok (.invokevirtual 95, 3) ∧ lnkB 12 false 950 (.invokevirtual 95, 3, 124, 0, 0, 0) = true := by decide +kernel
theorem ck_127_953 : decode code 953 = .ok (.if_icmp .eq 61, 3) ∧ lnkB 12 false 953 (.if_icmp .eq 61, 3, 1014, 0, 0, 0) = true := by decide +kernel
theorem ck_127_957 : decode code 957 = .ok (.ireturn, 1) ∧ lnkB 12 false 957 (.ireturn, 1, 0, 0, 0, 0) = true := by decide +kernel
theorem ca_127_963 : decode code 963 = .ok (.iaload, 1) ∧ lnkB 12 false 963 (.iaload, 1, 1, 0, 0, 0) = true := by decide +kernel
theorem ca_127_968 : decode code 968 = .ok (.iaload, 1) ∧ lnkB 12 false 968 (.iaload, 1, 1, 0, 0, 0) = true := by decide +kernel
theorem ck_127_969 : decode code 969 = .ok (.invokevirtual 96, 3) ∧ lnkB 12 false 969 (.invokevirtual 96, 3, 77, 0, 0, 0) = true := by decide +kernel
theorem ca_127_977 : decode code 977 = .ok (.iaload, 1) ∧ lnkB 12 false 977 (.iaload, 1, 1, 0, 0, 0) = true := by decide +kernel
theorem ca_127_982 : decode code 982 = .ok (.iaload, 1) ∧ lnkB 12 false 982 (.iaload, 1, 1, 0, 0, 0) = true := by decide +kernel
theorem ck_127_983 : decode code 983 = .ok (.invokevirtual 99, 3) ∧ lnkB 12 false 983 (.invokevirtual 99, 3, 125, 0, 0, 0) = true := by decide +kernel
theorem ck_127_986 : decode code 986 = .ok (.if_icmp .eq 28, 3) ∧ lnkB 12 false 986 (.if_icmp .eq 28, 3, 1014, 0, 0, 0) = true := by decide +kernel
theorem ck_127_990 : decode code 990 = .ok (.ireturn, 1) ∧ lnkB 12 false 990 (.ireturn, 1, 0, 0, 0, 0) = true := by decide +kernel
theorem ca_127_996 : decode code 996 = .ok (.iaload, 1) ∧ lnkB 12 false 996 (.iaload, 1, 1, 0, 0, 0) = true := by decide +kernel
theorem ck_127_997 : decode code 997 = .ok (.invokevirtual 100, 3) ∧ lnkB 12 false 997 (.invokevirtual 100, 3, 78, 0, 0, 0) = true := by decide +kernel
theorem ca_127_1005 : decode code 1005 = .ok (.iaload, 1) ∧ lnkB 12 false 1005 (.iaload, 1, 1, 0, 0, 0) = true := by decide +kernel
theorem ck_127_1006 : decode code 1006 = .ok (.invokevirtual 103, 3) ∧ lnkB 12 false 1006 (.invokevirtual 103, 3, 126, 0, 0, 0) = true := by decide +kernel
theorem ck_127_1009 : decode code 1009 = .ok (.if_icmp .eq 5, 3) ∧ lnkB 12 false 1009 (.if_icmp .eq 5, 3, 1014, 0, 0, 0) = true := by decide +kernel
theorem ck_127_1013 : decode code 1013 = .ok (.ireturn, 1) ∧ lnkB 12 false 1013 (.ireturn, 1, 0, 0, 0, 0) = true := by decide +kernel
theorem ck_127_1017 : decode code 1017 = .ok (.goto (-999), 3) ∧ lnkB 12 false 1017 (.goto (-999), 3, 18, 0, 0, 0) = true := by decide +kernel
theorem ck_127_1021 : decode code 1021 = .ok (.ireturn, 1) ∧ lnkB 12 false 1021 (.ireturn, 1, 0, 0, 0, 0) = true := by decide +kernel
def sg_130_0 : List RI := [(.iconst 0, 1, 0, 0, 0, 0), (.istore_n 2, 1, 0, 0, 0, 0), (.aload_n 0, 1, 0, 0, 0, 0), (.arraylength, 1, 0, 0, 0, 0), (.istore_n 3, 1, 0, 0, 0, 0)]
theorem sk_130_0 : segB 14 false prog_15_method_103_code 0 sg_130_0 = true := by decide +kernel
def sg_130_5 : List RI := [(.iload_n 2, 1, 0, 0, 0, 0), (.iload_n 3, 1, 0, 0, 0, 0)]
theorem sk_130_5 : segB 14 false prog_15_method_103_code 5 sg_130_5 = true := by decide +kernel
def sg_130_10 : List RI := [(.aload_n 0, 1, 0, 0, 0, 0), (.iload_n 2, 1, 0, 0, 0, 0), (.iload_n 1, 1, 0, 0, 0, 0)]
theorem sk_130_10 : segB 14 false prog_15_method_103_code 10 sg_130_10 = true := by decide +kernel
def sg_130_14 : List RI := [(.iinc 2 1, 3, 0, 0, 0, 1)]
theorem sk_130_14 : segB 14 false prog_15_method_103_code 14 sg_130_14 = true := by decide +kernel
theorem ck_130_7 : decode prog_15_method_103_code 7 = .ok (.if_icmp .ge 13, 3) ∧ lnkB 14 false 7 (.if_icmp .ge 13, 3, 20, 0, 0, 0) = true := by decide +kernel
theorem ca_130_13 : decode prog_15_method_103_code 13 = .ok (.iastore, 1) ∧ lnkB 14 false 13 (.iastore, 1, 0, 0, 0, 0) = true := by decide +kernel
theorem ck_130_17 : decode prog_15_method_103_code 17 = .ok (.goto (-12), 3) ∧ lnkB 14 false 17 (.goto (-12), 3, 5, 0, 0, 0) = true := by decide +kernel
theorem ck_130_20 : decode prog_15_method_103_code 20 = .ok (.return_, 1) ∧ lnkB 14 false 20 (.return_, 1, 0, 0, 0, 0) = true := by decide +kernel
abbrev RU_130 (d : Nat) (cp : Nat × Nat) (Post : Option Value → Sto → Prop) : PP := Runs (Ex d) prog_15_method_103_code 14 false 4 none none cp Post
theorem en_130 {d : Nat} {As : List Value} {S : Sto} {mc ms : Nat} {Post : Option Value → Sto → Prop} (hc : cats As ≤ 4) (h : RU_130 d (mc, ms) Post 0 (lv_args 0 As) [] S 0 0) : Ex (d + 1) 130 As S mc ms Post := ⟨by decide, hc, h⟩
