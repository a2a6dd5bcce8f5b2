theorem w_127 : (Cond.methodLink "LinesPromised$Land" 3 ⟨"java/lang/Object", "<init>", "()V"⟩) ∈ wG := wG_in 127 (by decide +kernel) (by decide +kernel)
theorem w_156 : (Cond.arrayClass .int) ∈ wG := wG_in 156 (by decide +kernel) (by decide +kernel)
theorem w_128 : (Cond.fieldLink "LinesPromised$Land" 9 "LinesPromised$Land" "height" "[I") ∈ wG := wG_in 128 (by decide +kernel) (by decide +kernel)
theorem w_131 : (Cond.fieldLink "LinesPromised$Land" 15 "LinesPromised$Land" "ground" "[I") ∈ wG := wG_in 131 (by decide +kernel) (by decide +kernel)
theorem w_134 : (Cond.fieldLink "LinesPromised$Land" 18 "LinesPromised$Land" "claimed" "[I") ∈ wG := wG_in 134 (by decide +kernel) (by decide +kernel)
theorem w_136 : (Cond.fieldLink "LinesPromised$Land" 21 "LinesPromised$Land" "townCell" "[I") ∈ wG := wG_in 136 (by decide +kernel) (by decide +kernel)
theorem w_139 : (Cond.fieldLink "LinesPromised$Land" 24 "LinesPromised$Land" "trade" "[I") ∈ wG := wG_in 139 (by decide +kernel) (by decide +kernel)
theorem w_126 : (Cond.code ⟨"LinesPromised$Land", "<init>", "()V"⟩ prog_3_method_1_code 1 none) ∈ wG := wG_in 126 (by decide +kernel) (by decide +kernel)
theorem w_89 : (Cond.initialized "LinesPromised$Land") ∈ wG := wG_in 89 (by decide +kernel) (by decide +kernel)
theorem w_125 : (Cond.instanceMethod ⟨"LinesPromised$Land", "<init>", "()V"⟩) ∈ wG := wG_in 125 (by decide +kernel) (by decide +kernel)
theorem w_162 : (Cond.methodLink "LinesPromised$Papers" 3 ⟨"java/lang/Object", "<init>", "()V"⟩) ∈ wG := wG_in 162 (by decide +kernel) (by decide +kernel)
theorem w_163 : (Cond.classLink "LinesPromised$Papers" 9 "LinesPromised$Paper") ∈ wG := wG_in 163 (by decide +kernel) (by decide +kernel)
theorem w_165 : (Cond.fieldLink "LinesPromised$Papers" 11 "LinesPromised$Papers" "filed" "[LLinesPromised$Paper;") ∈ wG := wG_in 165 (by decide +kernel) (by decide +kernel)
theorem w_207 : (Cond.arrayClass .long) ∈ wG := wG_in 207 (by decide +kernel) (by decide +kernel)
theorem w_166 : (Cond.fieldLink "LinesPromised$Papers" 17 "LinesPromised$Papers" "bars" "[J") ∈ wG := wG_in 166 (by decide +kernel) (by decide +kernel)
theorem w_168 : (Cond.fieldLink "LinesPromised$Papers" 21 "LinesPromised$Papers" "left" "[I") ∈ wG := wG_in 168 (by decide +kernel) (by decide +kernel)
theorem w_171 : (Cond.fieldLink "LinesPromised$Papers" 25 "LinesPromised$Papers" "done" "[I") ∈ wG := wG_in 171 (by decide +kernel) (by decide +kernel)
theorem w_174 : (Cond.fieldLink "LinesPromised$Papers" 28 "LinesPromised$Papers" "votesFor" "[I") ∈ wG := wG_in 174 (by decide +kernel) (by decide +kernel)
theorem w_175 : (Cond.fieldLink "LinesPromised$Papers" 31 "LinesPromised$Papers" "votesAgainst" "[I") ∈ wG := wG_in 175 (by decide +kernel) (by decide +kernel)
theorem w_161 : (Cond.code ⟨"LinesPromised$Papers", "<init>", "()V"⟩ prog_7_method_1_code 1 none) ∈ wG := wG_in 161 (by decide +kernel) (by decide +kernel)
theorem w_90 : (Cond.initialized "LinesPromised$Papers") ∈ wG := wG_in 90 (by decide +kernel) (by decide +kernel)
theorem w_160 : (Cond.instanceMethod ⟨"LinesPromised$Papers", "<init>", "()V"⟩) ∈ wG := wG_in 160 (by decide +kernel) (by decide +kernel)
theorem w_213 : (Cond.methodLink "LinesPromised$Scrip" 3 ⟨"java/lang/Object", "<init>", "()V"⟩) ∈ wG := wG_in 213 (by decide +kernel) (by decide +kernel)
theorem w_214 : (Cond.fieldLink "LinesPromised$Scrip" 9 "LinesPromised$Scrip" "coins" "[I") ∈ wG := wG_in 214 (by decide +kernel) (by decide +kernel)
theorem w_218 : (Cond.fieldLink "LinesPromised$Scrip" 15 "LinesPromised$Scrip" "shares" "[I") ∈ wG := wG_in 218 (by decide +kernel) (by decide +kernel)
theorem w_219 : (Cond.fieldLink "LinesPromised$Scrip" 18 "LinesPromised$Scrip" "latest" "[I") ∈ wG := wG_in 219 (by decide +kernel) (by decide +kernel)
theorem w_221 : (Cond.fieldLink "LinesPromised$Scrip" 21 "LinesPromised$Scrip" "slots" "[I") ∈ wG := wG_in 221 (by decide +kernel) (by decide +kernel)
theorem w_222 : (Cond.fieldLink "LinesPromised$Scrip" 24 "LinesPromised$Scrip" "holders" "[I") ∈ wG := wG_in 222 (by decide +kernel) (by decide +kernel)
theorem w_223 : (Cond.fieldLink "LinesPromised$Scrip" 27 "LinesPromised$Scrip" "left" "[I") ∈ wG := wG_in 223 (by decide +kernel) (by decide +kernel)
theorem w_224 : (Cond.fieldLink "LinesPromised$Scrip" 30 "LinesPromised$Scrip" "prices" "[I") ∈ wG := wG_in 224 (by decide +kernel) (by decide +kernel)
theorem w_225 : (Cond.fieldLink "LinesPromised$Scrip" 33 "LinesPromised$Scrip" "asked" "[I") ∈ wG := wG_in 225 (by decide +kernel) (by decide +kernel)
theorem w_212 : (Cond.code ⟨"LinesPromised$Scrip", "<init>", "()V"⟩ prog_10_method_1_code 1 none) ∈ wG := wG_in 212 (by decide +kernel) (by decide +kernel)
theorem w_91 : (Cond.initialized "LinesPromised$Scrip") ∈ wG := wG_in 91 (by decide +kernel) (by decide +kernel)
theorem w_211 : (Cond.instanceMethod ⟨"LinesPromised$Scrip", "<init>", "()V"⟩) ∈ wG := wG_in 211 (by decide +kernel) (by decide +kernel)
theorem w_252 : (Cond.methodLink "LinesPromised$Press" 3 ⟨"java/lang/Object", "<init>", "()V"⟩) ∈ wG := wG_in 252 (by decide +kernel) (by decide +kernel)
theorem w_253 : (Cond.fieldLink "LinesPromised$Press" 9 "LinesPromised$Press" "survey" "[I") ∈ wG := wG_in 253 (by decide +kernel) (by decide +kernel)
theorem w_254 : (Cond.fieldLink "LinesPromised$Press" 15 "LinesPromised$Press" "print" "[I") ∈ wG := wG_in 254 (by decide +kernel) (by decide +kernel)
theorem w_257 : (Cond.fieldLink "LinesPromised$Press" 18 "LinesPromised$Press" "row" "[I") ∈ wG := wG_in 257 (by decide +kernel) (by decide +kernel)
theorem w_259 : (Cond.fieldLink "LinesPromised$Press" 21 "LinesPromised$Press" "ready" "[I") ∈ wG := wG_in 259 (by decide +kernel) (by decide +kernel)
theorem w_251 : (Cond.code ⟨"LinesPromised$Press", "<init>", "()V"⟩ prog_8_method_1_code 1 none) ∈ wG := wG_in 251 (by decide +kernel) (by decide +kernel)
theorem w_92 : (Cond.initialized "LinesPromised$Press") ∈ wG := wG_in 92 (by decide +kernel) (by decide +kernel)
theorem w_250 : (Cond.instanceMethod ⟨"LinesPromised$Press", "<init>", "()V"⟩) ∈ wG := wG_in 250 (by decide +kernel) (by decide +kernel)
theorem w_279 : (Cond.methodLink "LinesPromised$Sheet" 3 ⟨"java/lang/Object", "<init>", "()V"⟩) ∈ wG := wG_in 279 (by decide +kernel) (by decide +kernel)
theorem w_280 : (Cond.fieldLink "LinesPromised$Sheet" 9 "LinesPromised$Sheet" "row" "[I") ∈ wG := wG_in 280 (by decide +kernel) (by decide +kernel)
theorem w_284 : (Cond.fieldLink "LinesPromised$Sheet" 15 "LinesPromised$Sheet" "sort" "I") ∈ wG := wG_in 284 (by decide +kernel) (by decide +kernel)
theorem w_278 : (Cond.code ⟨"LinesPromised$Sheet", "<init>", "()V"⟩ prog_11_method_1_code 1 none) ∈ wG := wG_in 278 (by decide +kernel) (by decide +kernel)
theorem w_93 : (Cond.initialized "LinesPromised$Sheet") ∈ wG := wG_in 93 (by decide +kernel) (by decide +kernel)
theorem w_277 : (Cond.instanceMethod ⟨"LinesPromised$Sheet", "<init>", "()V"⟩) ∈ wG := wG_in 277 (by decide +kernel) (by decide +kernel)
theorem w_307 : (Cond.fieldLink "LinesPromised$World" 41 "LinesPromised$World" "sheets" "[LLinesPromised$Sheet;") ∈ wG := wG_in 307 (by decide +kernel) (by decide +kernel)
theorem w_271 : (Cond.classLink "LinesPromised$World" 39 "LinesPromised$Sheet") ∈ wG := wG_in 271 (by decide +kernel) (by decide +kernel)
theorem w_275 : (Cond.instantiable "LinesPromised$Sheet" 3) ∈ wG := wG_in 275 (by decide +kernel) (by decide +kernel)
theorem w_276 : (Cond.methodLink "LinesPromised$World" 55 ⟨"LinesPromised$Sheet", "<init>", "()V"⟩) ∈ wG := wG_in 276 (by decide +kernel) (by decide +kernel)
theorem w_121 : (Cond.methodLink "LinesPromised$World" 3 ⟨"java/lang/Object", "<init>", "()V"⟩) ∈ wG := wG_in 121 (by decide +kernel) (by decide +kernel)
theorem w_122 : (Cond.classLink "LinesPromised$World" 9 "LinesPromised$Land") ∈ wG := wG_in 122 (by decide +kernel) (by decide +kernel)
theorem w_123 : (Cond.instantiable "LinesPromised$Land" 6) ∈ wG := wG_in 123 (by decide +kernel) (by decide +kernel)
theorem w_124 : (Cond.methodLink "LinesPromised$World" 11 ⟨"LinesPromised$Land", "<init>", "()V"⟩) ∈ wG := wG_in 124 (by decide +kernel) (by decide +kernel)
theorem w_298 : (Cond.fieldLink "LinesPromised$World" 12 "LinesPromised$World" "land" "LLinesPromised$Land;") ∈ wG := wG_in 298 (by decide +kernel) (by decide +kernel)
theorem w_157 : (Cond.classLink "LinesPromised$World" 18 "LinesPromised$Papers") ∈ wG := wG_in 157 (by decide +kernel) (by decide +kernel)
theorem w_158 : (Cond.instantiable "LinesPromised$Papers" 10) ∈ wG := wG_in 158 (by decide +kernel) (by decide +kernel)
theorem w_159 : (Cond.methodLink "LinesPromised$World" 20 ⟨"LinesPromised$Papers", "<init>", "()V"⟩) ∈ wG := wG_in 159 (by decide +kernel) (by decide +kernel)
theorem w_301 : (Cond.fieldLink "LinesPromised$World" 21 "LinesPromised$World" "papers" "LLinesPromised$Papers;") ∈ wG := wG_in 301 (by decide +kernel) (by decide +kernel)
theorem w_208 : (Cond.classLink "LinesPromised$World" 25 "LinesPromised$Scrip") ∈ wG := wG_in 208 (by decide +kernel) (by decide +kernel)
theorem w_209 : (Cond.instantiable "LinesPromised$Scrip" 9) ∈ wG := wG_in 209 (by decide +kernel) (by decide +kernel)
theorem w_210 : (Cond.methodLink "LinesPromised$World" 27 ⟨"LinesPromised$Scrip", "<init>", "()V"⟩) ∈ wG := wG_in 210 (by decide +kernel) (by decide +kernel)
theorem w_303 : (Cond.fieldLink "LinesPromised$World" 28 "LinesPromised$World" "scrip" "LLinesPromised$Scrip;") ∈ wG := wG_in 303 (by decide +kernel) (by decide +kernel)
theorem w_247 : (Cond.classLink "LinesPromised$World" 32 "LinesPromised$Press") ∈ wG := wG_in 247 (by decide +kernel) (by decide +kernel)
theorem w_248 : (Cond.instantiable "LinesPromised$Press" 5) ∈ wG := wG_in 248 (by decide +kernel) (by decide +kernel)
theorem w_249 : (Cond.methodLink "LinesPromised$World" 34 ⟨"LinesPromised$Press", "<init>", "()V"⟩) ∈ wG := wG_in 249 (by decide +kernel) (by decide +kernel)
theorem w_305 : (Cond.fieldLink "LinesPromised$World" 35 "LinesPromised$World" "press" "LLinesPromised$Press;") ∈ wG := wG_in 305 (by decide +kernel) (by decide +kernel)
theorem w_297 : (Cond.arrayClass .byte) ∈ wG := wG_in 297 (by decide +kernel) (by decide +kernel)
theorem w_309 : (Cond.fieldLink "LinesPromised$World" 45 "LinesPromised$World" "tape" "[B") ∈ wG := wG_in 309 (by decide +kernel) (by decide +kernel)
theorem w_273 : (Cond.classLink "LinesPromised$World" 49 "LinesPromised$Order") ∈ wG := wG_in 273 (by decide +kernel) (by decide +kernel)
theorem w_311 : (Cond.fieldLink "LinesPromised$World" 51 "LinesPromised$World" "orders" "[LLinesPromised$Order;") ∈ wG := wG_in 311 (by decide +kernel) (by decide +kernel)
theorem w_120 : (Cond.code ⟨"LinesPromised$World", "<init>", "()V"⟩ prog_12_method_1_code 2 none) ∈ wG := wG_in 120 (by decide +kernel) (by decide +kernel)
theorem w_88 : (Cond.initialized "LinesPromised$World") ∈ wG := wG_in 88 (by decide +kernel) (by decide +kernel)
theorem w_119 : (Cond.instanceMethod ⟨"LinesPromised$World", "<init>", "()V"⟩) ∈ wG := wG_in 119 (by decide +kernel) (by decide +kernel)
theorem w_350 : (Cond.methodLink "LinesPromised$Roads" 3 ⟨"java/lang/Object", "<init>", "()V"⟩) ∈ wG := wG_in 350 (by decide +kernel) (by decide +kernel)
theorem w_351 : (Cond.fieldLink "LinesPromised$Roads" 9 "LinesPromised$Roads" "cells" "[I") ∈ wG := wG_in 351 (by decide +kernel) (by decide +kernel)
theorem w_357 : (Cond.fieldLink "LinesPromised$Roads" 15 "LinesPromised$Roads" "rest" "[I") ∈ wG := wG_in 357 (by decide +kernel) (by decide +kernel)
theorem w_382 : (Cond.arrayClass .boolean) ∈ wG := wG_in 382 (by decide +kernel) (by decide +kernel)
theorem w_358 : (Cond.fieldLink "LinesPromised$Roads" 18 "LinesPromised$Roads" "sure" "[Z") ∈ wG := wG_in 358 (by decide +kernel) (by decide +kernel)
theorem w_349 : (Cond.code ⟨"LinesPromised$Roads", "<init>", "()V"⟩ prog_9_method_1_code 1 none) ∈ wG := wG_in 349 (by decide +kernel) (by decide +kernel)
theorem w_94 : (Cond.initialized "LinesPromised$Roads") ∈ wG := wG_in 94 (by decide +kernel) (by decide +kernel)
theorem w_348 : (Cond.instanceMethod ⟨"LinesPromised$Roads", "<init>", "()V"⟩) ∈ wG := wG_in 348 (by decide +kernel) (by decide +kernel)
theorem w_388 : (Cond.methodLink "LinesPromised$Debts" 3 ⟨"java/lang/Object", "<init>", "()V"⟩) ∈ wG := wG_in 388 (by decide +kernel) (by decide +kernel)
theorem w_389 : (Cond.fieldLink "LinesPromised$Debts" 9 "LinesPromised$Debts" "calls" "[I") ∈ wG := wG_in 389 (by decide +kernel) (by decide +kernel)
theorem w_390 : (Cond.fieldLink "LinesPromised$Debts" 15 "LinesPromised$Debts" "loans" "[I") ∈ wG := wG_in 390 (by decide +kernel) (by decide +kernel)
theorem w_391 : (Cond.fieldLink "LinesPromised$Debts" 18 "LinesPromised$Debts" "callsPaid" "[I") ∈ wG := wG_in 391 (by decide +kernel) (by decide +kernel)
theorem w_392 : (Cond.fieldLink "LinesPromised$Debts" 21 "LinesPromised$Debts" "loansPaid" "[I") ∈ wG := wG_in 392 (by decide +kernel) (by decide +kernel)
theorem w_393 : (Cond.fieldLink "LinesPromised$Debts" 24 "LinesPromised$Debts" "due" "[I") ∈ wG := wG_in 393 (by decide +kernel) (by decide +kernel)
theorem w_394 : (Cond.fieldLink "LinesPromised$Debts" 27 "LinesPromised$Debts" "income" "[I") ∈ wG := wG_in 394 (by decide +kernel) (by decide +kernel)
theorem w_387 : (Cond.code ⟨"LinesPromised$Debts", "<init>", "()V"⟩ prog_2_method_1_code 1 none) ∈ wG := wG_in 387 (by decide +kernel) (by decide +kernel)
theorem w_95 : (Cond.initialized "LinesPromised$Debts") ∈ wG := wG_in 95 (by decide +kernel) (by decide +kernel)
theorem w_386 : (Cond.instanceMethod ⟨"LinesPromised$Debts", "<init>", "()V"⟩) ∈ wG := wG_in 386 (by decide +kernel) (by decide +kernel)
theorem w_416 : (Cond.methodLink "LinesPromised$Lines" 3 ⟨"java/lang/Object", "<init>", "()V"⟩) ∈ wG := wG_in 416 (by decide +kernel) (by decide +kernel)
theorem w_417 : (Cond.fieldLink "LinesPromised$Lines" 9 "LinesPromised$Lines" "numbers" "[I") ∈ wG := wG_in 417 (by decide +kernel) (by decide +kernel)
theorem w_418 : (Cond.fieldLink "LinesPromised$Lines" 15 "LinesPromised$Lines" "ends" "[I") ∈ wG := wG_in 418 (by decide +kernel) (by decide +kernel)
theorem w_419 : (Cond.fieldLink "LinesPromised$Lines" 18 "LinesPromised$Lines" "rivals" "[I") ∈ wG := wG_in 419 (by decide +kernel) (by decide +kernel)
theorem w_420 : (Cond.fieldLink "LinesPromised$Lines" 21 "LinesPromised$Lines" "yards" "[I") ∈ wG := wG_in 420 (by decide +kernel) (by decide +kernel)
theorem w_421 : (Cond.fieldLink "LinesPromised$Lines" 24 "LinesPromised$Lines" "coins" "[I") ∈ wG := wG_in 421 (by decide +kernel) (by decide +kernel)
theorem w_415 : (Cond.code ⟨"LinesPromised$Lines", "<init>", "()V"⟩ prog_4_method_1_code 1 none) ∈ wG := wG_in 415 (by decide +kernel) (by decide +kernel)
theorem w_96 : (Cond.initialized "LinesPromised$Lines") ∈ wG := wG_in 96 (by decide +kernel) (by decide +kernel)
theorem w_414 : (Cond.instanceMethod ⟨"LinesPromised$Lines", "<init>", "()V"⟩) ∈ wG := wG_in 414 (by decide +kernel) (by decide +kernel)
theorem w_113 : (Cond.methodLink "LinesPromised" 1 ⟨"java/lang/Object", "<init>", "()V"⟩) ∈ wG := wG_in 113 (by decide +kernel) (by decide +kernel)
theorem w_116 : (Cond.classLink "LinesPromised" 7 "LinesPromised$World") ∈ wG := wG_in 116 (by decide +kernel) (by decide +kernel)
theorem w_117 : (Cond.instantiable "LinesPromised$World" 11) ∈ wG := wG_in 117 (by decide +kernel) (by decide +kernel)
theorem w_118 : (Cond.methodLink "LinesPromised" 9 ⟨"LinesPromised$World", "<init>", "()V"⟩) ∈ wG := wG_in 118 (by decide +kernel) (by decide +kernel)
theorem w_440 : (Cond.fieldLink "LinesPromised" 10 "LinesPromised" "now" "LLinesPromised$World;") ∈ wG := wG_in 440 (by decide +kernel) (by decide +kernel)
theorem w_441 : (Cond.fieldLink "LinesPromised" 16 "LinesPromised" "kept" "LLinesPromised$World;") ∈ wG := wG_in 441 (by decide +kernel) (by decide +kernel)
theorem w_343 : (Cond.classLink "LinesPromised" 19 "[I") ∈ wG := wG_in 343 (by decide +kernel) (by decide +kernel)
theorem w_443 : (Cond.fieldLink "LinesPromised" 21 "LinesPromised" "past" "[[I") ∈ wG := wG_in 443 (by decide +kernel) (by decide +kernel)
theorem w_345 : (Cond.classLink "LinesPromised" 25 "LinesPromised$Roads") ∈ wG := wG_in 345 (by decide +kernel) (by decide +kernel)
theorem w_346 : (Cond.instantiable "LinesPromised$Roads" 9) ∈ wG := wG_in 346 (by decide +kernel) (by decide +kernel)
theorem w_347 : (Cond.methodLink "LinesPromised" 27 ⟨"LinesPromised$Roads", "<init>", "()V"⟩) ∈ wG := wG_in 347 (by decide +kernel) (by decide +kernel)
theorem w_444 : (Cond.fieldLink "LinesPromised" 28 "LinesPromised" "roads" "LLinesPromised$Roads;") ∈ wG := wG_in 444 (by decide +kernel) (by decide +kernel)
theorem w_383 : (Cond.classLink "LinesPromised" 32 "LinesPromised$Debts") ∈ wG := wG_in 383 (by decide +kernel) (by decide +kernel)
theorem w_384 : (Cond.instantiable "LinesPromised$Debts" 7) ∈ wG := wG_in 384 (by decide +kernel) (by decide +kernel)
theorem w_385 : (Cond.methodLink "LinesPromised" 34 ⟨"LinesPromised$Debts", "<init>", "()V"⟩) ∈ wG := wG_in 385 (by decide +kernel) (by decide +kernel)
theorem w_445 : (Cond.fieldLink "LinesPromised" 35 "LinesPromised" "debts" "LLinesPromised$Debts;") ∈ wG := wG_in 445 (by decide +kernel) (by decide +kernel)
theorem w_411 : (Cond.classLink "LinesPromised" 39 "LinesPromised$Lines") ∈ wG := wG_in 411 (by decide +kernel) (by decide +kernel)
theorem w_412 : (Cond.instantiable "LinesPromised$Lines" 7) ∈ wG := wG_in 412 (by decide +kernel) (by decide +kernel)
theorem w_413 : (Cond.methodLink "LinesPromised" 41 ⟨"LinesPromised$Lines", "<init>", "()V"⟩) ∈ wG := wG_in 413 (by decide +kernel) (by decide +kernel)
theorem w_446 : (Cond.fieldLink "LinesPromised" 42 "LinesPromised" "lines" "LLinesPromised$Lines;") ∈ wG := wG_in 446 (by decide +kernel) (by decide +kernel)
theorem w_112 : (Cond.code ⟨"LinesPromised", "<init>", "()V"⟩ prog_1_method_1_code 1 none) ∈ wG := wG_in 112 (by decide +kernel) (by decide +kernel)
theorem w_87 : (Cond.initialized "LinesPromised") ∈ wG := wG_in 87 (by decide +kernel) (by decide +kernel)
theorem w_111 : (Cond.instanceMethod ⟨"LinesPromised", "<init>", "()V"⟩) ∈ wG := wG_in 111 (by decide +kernel) (by decide +kernel)
theorem w_1426 : (Cond.fieldLink "LinesPromisedModel" 8 "LinesPromisedModel" "s" "[I") ∈ wG := wG_in 1426 (by decide +kernel) (by decide +kernel)
theorem w_1424 : (Cond.methodLink "LinesPromisedModel" 1 ⟨"java/lang/Object", "<init>", "()V"⟩) ∈ wG := wG_in 1424 (by decide +kernel) (by decide +kernel)
theorem w_1425 : (Cond.constant "LinesPromisedModel" 7 (i32 83840)) ∈ wG := wG_in 1425 (by decide +kernel) (by decide +kernel)
theorem w_1427 : (Cond.fieldLink "LinesPromisedModel" 14 "LinesPromisedModel" "image" "[I") ∈ wG := wG_in 1427 (by decide +kernel) (by decide +kernel)
theorem w_1433 : (Cond.fieldLink "LinesPromisedModel" 17 "LinesPromisedModel" "told6" "[I") ∈ wG := wG_in 1433 (by decide +kernel) (by decide +kernel)
theorem w_1434 : (Cond.fieldLink "LinesPromisedModel" 20 "LinesPromisedModel" "left" "[I") ∈ wG := wG_in 1434 (by decide +kernel) (by decide +kernel)
theorem w_1435 : (Cond.fieldLink "LinesPromisedModel" 23 "LinesPromisedModel" "ways" "[I") ∈ wG := wG_in 1435 (by decide +kernel) (by decide +kernel)
theorem w_1436 : (Cond.fieldLink "LinesPromisedModel" 26 "LinesPromisedModel" "row" "[I") ∈ wG := wG_in 1436 (by decide +kernel) (by decide +kernel)
theorem w_1437 : (Cond.fieldLink "LinesPromisedModel" 29 "LinesPromisedModel" "bestRow" "[I") ∈ wG := wG_in 1437 (by decide +kernel) (by decide +kernel)
theorem w_1439 : (Cond.fieldLink "LinesPromisedModel" 32 "LinesPromisedModel" "owes" "[J") ∈ wG := wG_in 1439 (by decide +kernel) (by decide +kernel)
theorem w_1440 : (Cond.fieldLink "LinesPromisedModel" 36 "LinesPromisedModel" "paid" "[J") ∈ wG := wG_in 1440 (by decide +kernel) (by decide +kernel)
theorem w_1441 : (Cond.fieldLink "LinesPromisedModel" 39 "LinesPromisedModel" "fresh" "[J") ∈ wG := wG_in 1441 (by decide +kernel) (by decide +kernel)
theorem w_1442 : (Cond.fieldLink "LinesPromisedModel" 42 "LinesPromisedModel" "has" "[J") ∈ wG := wG_in 1442 (by decide +kernel) (by decide +kernel)
theorem w_1443 : (Cond.fieldLink "LinesPromisedModel" 45 "LinesPromisedModel" "owesAll" "[J") ∈ wG := wG_in 1443 (by decide +kernel) (by decide +kernel)
theorem w_1444 : (Cond.fieldLink "LinesPromisedModel" 48 "LinesPromisedModel" "some" "[I") ∈ wG := wG_in 1444 (by decide +kernel) (by decide +kernel)
theorem w_1445 : (Cond.fieldLink "LinesPromisedModel" 51 "LinesPromisedModel" "moving" "[I") ∈ wG := wG_in 1445 (by decide +kernel) (by decide +kernel)
theorem w_1423 : (Cond.code ⟨"LinesPromisedModel", "<init>", "()V"⟩ prog_14_method_1_code 2 none) ∈ wG := wG_in 1423 (by decide +kernel) (by decide +kernel)
theorem w_97 : (Cond.initialized "LinesPromisedModel") ∈ wG := wG_in 97 (by decide +kernel) (by decide +kernel)
theorem w_1422 : (Cond.instanceMethod ⟨"LinesPromisedModel", "<init>", "()V"⟩) ∈ wG := wG_in 1422 (by decide +kernel) (by decide +kernel)
theorem w_468 : (Cond.code ⟨"LinesPromised", "within", "(JII)Z"⟩ prog_1_method_51_code 4 (some .boolean)) ∈ wG := wG_in 468 (by decide +kernel) (by decide +kernel)
theorem w_467 : (Cond.static ⟨"LinesPromised", "within", "(JII)Z"⟩) ∈ wG := wG_in 467 (by decide +kernel) (by decide +kernel)
theorem w_466 : (Cond.methodLink "LinesPromised" 46 ⟨"LinesPromised", "within", "(JII)Z"⟩) ∈ wG := wG_in 466 (by decide +kernel) (by decide +kernel)
theorem w_300 : (Cond.fieldLink "LinesPromised" 50 "LinesPromised$World" "land" "LLinesPromised$Land;") ∈ wG := wG_in 300 (by decide +kernel) (by decide +kernel)
theorem w_132 : (Cond.fieldLink "LinesPromised" 59 "LinesPromised$Land" "ground" "[I") ∈ wG := wG_in 132 (by decide +kernel) (by decide +kernel)
theorem w_129 : (Cond.fieldLink "LinesPromised" 54 "LinesPromised$Land" "height" "[I") ∈ wG := wG_in 129 (by decide +kernel) (by decide +kernel)
theorem w_465 : (Cond.code ⟨"LinesPromised", "land", "(III)I"⟩ prog_1_method_2_code 6 (some .int)) ∈ wG := wG_in 465 (by decide +kernel) (by decide +kernel)
theorem w_463 : (Cond.instanceMethod ⟨"LinesPromised", "land", "(III)I"⟩) ∈ wG := wG_in 463 (by decide +kernel) (by decide +kernel)
theorem w_464 : (Cond.selects "LinesPromised" ⟨"LinesPromised", "land", "(III)I"⟩ ⟨"LinesPromised", "land", "(III)I"⟩) ∈ wG := wG_in 464 (by decide +kernel) (by decide +kernel)
theorem w_141 : (Cond.fieldLink "LinesPromised$Land" 33 "LinesPromised$Land" "towns" "I") ∈ wG := wG_in 141 (by decide +kernel) (by decide +kernel)
theorem w_476 : (Cond.code ⟨"LinesPromised$Land", "isTaken", "(I)Z"⟩ prog_3_method_3_code 3 (some .boolean)) ∈ wG := wG_in 476 (by decide +kernel) (by decide +kernel)
theorem w_474 : (Cond.instanceMethod ⟨"LinesPromised$Land", "isTaken", "(I)Z"⟩) ∈ wG := wG_in 474 (by decide +kernel) (by decide +kernel)
theorem w_475 : (Cond.selects "LinesPromised$Land" ⟨"LinesPromised$Land", "isTaken", "(I)Z"⟩ ⟨"LinesPromised$Land", "isTaken", "(I)Z"⟩) ∈ wG := wG_in 475 (by decide +kernel) (by decide +kernel)
theorem w_480 : (Cond.code ⟨"LinesPromised$Land", "found", "(II)I"⟩ prog_3_method_4_code 3 (some .int)) ∈ wG := wG_in 480 (by decide +kernel) (by decide +kernel)
theorem w_478 : (Cond.instanceMethod ⟨"LinesPromised$Land", "found", "(II)I"⟩) ∈ wG := wG_in 478 (by decide +kernel) (by decide +kernel)
theorem w_479 : (Cond.selects "LinesPromised$Land" ⟨"LinesPromised$Land", "found", "(II)I"⟩ ⟨"LinesPromised$Land", "found", "(II)I"⟩) ∈ wG := wG_in 479 (by decide +kernel) (by decide +kernel)
theorem w_473 : (Cond.methodLink "LinesPromised" 62 ⟨"LinesPromised$Land", "isTaken", "(I)Z"⟩) ∈ wG := wG_in 473 (by decide +kernel) (by decide +kernel)
theorem w_142 : (Cond.fieldLink "LinesPromised" 66 "LinesPromised$Land" "towns" "I") ∈ wG := wG_in 142 (by decide +kernel) (by decide +kernel)
theorem w_477 : (Cond.methodLink "LinesPromised" 70 ⟨"LinesPromised$Land", "found", "(II)I"⟩) ∈ wG := wG_in 477 (by decide +kernel) (by decide +kernel)
theorem w_472 : (Cond.code ⟨"LinesPromised", "town", "(II)I"⟩ prog_1_method_3_code 3 (some .int)) ∈ wG := wG_in 472 (by decide +kernel) (by decide +kernel)
theorem w_470 : (Cond.instanceMethod ⟨"LinesPromised", "town", "(II)I"⟩) ∈ wG := wG_in 470 (by decide +kernel) (by decide +kernel)
theorem w_471 : (Cond.selects "LinesPromised" ⟨"LinesPromised", "town", "(II)I"⟩ ⟨"LinesPromised", "town", "(II)I"⟩) ∈ wG := wG_in 471 (by decide +kernel) (by decide +kernel)
theorem w_487 : (Cond.code ⟨"LinesPromised", "isHolder", "(I)Z"⟩ prog_1_method_53_code 1 (some .boolean)) ∈ wG := wG_in 487 (by decide +kernel) (by decide +kernel)
theorem w_486 : (Cond.static ⟨"LinesPromised", "isHolder", "(I)Z"⟩) ∈ wG := wG_in 486 (by decide +kernel) (by decide +kernel)
theorem w_485 : (Cond.methodLink "LinesPromised" 74 ⟨"LinesPromised", "isHolder", "(I)Z"⟩) ∈ wG := wG_in 485 (by decide +kernel) (by decide +kernel)
theorem w_488 : (Cond.constant "LinesPromised" 77 (i32 99999)) ∈ wG := wG_in 488 (by decide +kernel) (by decide +kernel)
theorem w_304 : (Cond.fieldLink "LinesPromised" 78 "LinesPromised$World" "scrip" "LLinesPromised$Scrip;") ∈ wG := wG_in 304 (by decide +kernel) (by decide +kernel)
theorem w_215 : (Cond.fieldLink "LinesPromised" 82 "LinesPromised$Scrip" "coins" "[I") ∈ wG := wG_in 215 (by decide +kernel) (by decide +kernel)
theorem w_484 : (Cond.code ⟨"LinesPromised", "coin", "(II)I"⟩ prog_1_method_4_code 4 (some .int)) ∈ wG := wG_in 484 (by decide +kernel) (by decide +kernel)
theorem w_482 : (Cond.instanceMethod ⟨"LinesPromised", "coin", "(II)I"⟩) ∈ wG := wG_in 482 (by decide +kernel) (by decide +kernel)
theorem w_483 : (Cond.selects "LinesPromised" ⟨"LinesPromised", "coin", "(II)I"⟩ ⟨"LinesPromised", "coin", "(II)I"⟩) ∈ wG := wG_in 483 (by decide +kernel) (by decide +kernel)
theorem w_319 : (Cond.fieldLink "LinesPromised" 87 "LinesPromised$World" "men" "I") ∈ wG := wG_in 319 (by decide +kernel) (by decide +kernel)
theorem w_492 : (Cond.code ⟨"LinesPromised", "man", "(I)I"⟩ prog_1_method_5_code 3 (some .int)) ∈ wG := wG_in 492 (by decide +kernel) (by decide +kernel)
theorem w_490 : (Cond.instanceMethod ⟨"LinesPromised", "man", "(I)I"⟩) ∈ wG := wG_in 490 (by decide +kernel) (by decide +kernel)
theorem w_491 : (Cond.selects "LinesPromised" ⟨"LinesPromised", "man", "(I)I"⟩ ⟨"LinesPromised", "man", "(I)I"⟩) ∈ wG := wG_in 491 (by decide +kernel) (by decide +kernel)
theorem w_313 : (Cond.fieldLink "LinesPromised" 90 "LinesPromised$World" "taped" "I") ∈ wG := wG_in 313 (by decide +kernel) (by decide +kernel)
theorem w_310 : (Cond.fieldLink "LinesPromised" 93 "LinesPromised$World" "tape" "[B") ∈ wG := wG_in 310 (by decide +kernel) (by decide +kernel)
theorem w_496 : (Cond.code ⟨"LinesPromised", "feed", "(JI)I"⟩ prog_1_method_6_code 5 (some .int)) ∈ wG := wG_in 496 (by decide +kernel) (by decide +kernel)
theorem w_494 : (Cond.instanceMethod ⟨"LinesPromised", "feed", "(JI)I"⟩) ∈ wG := wG_in 494 (by decide +kernel) (by decide +kernel)
theorem w_495 : (Cond.selects "LinesPromised" ⟨"LinesPromised", "feed", "(JI)I"⟩ ⟨"LinesPromised", "feed", "(JI)I"⟩) ∈ wG := wG_in 495 (by decide +kernel) (by decide +kernel)
theorem w_503 : (Cond.code ⟨"LinesPromised", "isDay", "(I)Z"⟩ prog_1_method_52_code 1 (some .boolean)) ∈ wG := wG_in 503 (by decide +kernel) (by decide +kernel)
theorem w_502 : (Cond.static ⟨"LinesPromised", "isDay", "(I)Z"⟩) ∈ wG := wG_in 502 (by decide +kernel) (by decide +kernel)
theorem w_523 : (Cond.methodLink "java/util/Arrays" 304 ⟨"java/lang/Math", "min", "(II)I"⟩) ∈ wG := wG_in 523 (by decide +kernel) (by decide +kernel)
theorem w_526 : (Cond.methodLink "java/util/Arrays" 150 arraycopyName) ∈ wG := wG_in 526 (by decide +kernel) (by decide +kernel)
theorem w_516 : (Cond.methodLink "java/util/Arrays" 310 ⟨"[B", "clone", "()Ljava/lang/Object;"⟩) ∈ wG := wG_in 516 (by decide +kernel) (by decide +kernel)
theorem w_522 : (Cond.classLink "java/util/Arrays" 311 "[B") ∈ wG := wG_in 522 (by decide +kernel) (by decide +kernel)
theorem w_515 : (Cond.code ⟨"java/util/Arrays", "copyOf", "([BI)[B"⟩ prog_22_method_121_code 3 (some (.array .byte))) ∈ wG := wG_in 515 (by decide +kernel) (by decide +kernel)
theorem w_99 : (Cond.initialized "java/util/Arrays") ∈ wG := wG_in 99 (by decide +kernel) (by decide +kernel)
theorem w_514 : (Cond.static ⟨"java/util/Arrays", "copyOf", "([BI)[B"⟩) ∈ wG := wG_in 514 (by decide +kernel) (by decide +kernel)
theorem w_531 : (Cond.code ⟨"java/util/Arrays", "fill", "([II)V"⟩ prog_22_method_103_code 4 none) ∈ wG := wG_in 531 (by decide +kernel) (by decide +kernel)
theorem w_530 : (Cond.static ⟨"java/util/Arrays", "fill", "([II)V"⟩) ∈ wG := wG_in 530 (by decide +kernel) (by decide +kernel)
theorem w_512 : (Cond.methodLink "LinesPromised$Order" 3 ⟨"java/lang/Object", "<init>", "()V"⟩) ∈ wG := wG_in 512 (by decide +kernel) (by decide +kernel)
theorem w_535 : (Cond.fieldLink "LinesPromised$Order" 9 "LinesPromised$Order" "number" "[I") ∈ wG := wG_in 535 (by decide +kernel) (by decide +kernel)
theorem w_537 : (Cond.fieldLink "LinesPromised$Order" 15 "LinesPromised$Order" "place" "[I") ∈ wG := wG_in 537 (by decide +kernel) (by decide +kernel)
theorem w_540 : (Cond.fieldLink "LinesPromised$Order" 18 "LinesPromised$Order" "facts" "[I") ∈ wG := wG_in 540 (by decide +kernel) (by decide +kernel)
theorem w_532 : (Cond.fieldLink "LinesPromised$Order" 21 "LinesPromised$Order" "day" "I") ∈ wG := wG_in 532 (by decide +kernel) (by decide +kernel)
theorem w_513 : (Cond.methodLink "LinesPromised$Order" 25 ⟨"java/util/Arrays", "copyOf", "([BI)[B"⟩) ∈ wG := wG_in 513 (by decide +kernel) (by decide +kernel)
theorem w_534 : (Cond.fieldLink "LinesPromised$Order" 31 "LinesPromised$Order" "text" "[B") ∈ wG := wG_in 534 (by decide +kernel) (by decide +kernel)
theorem w_529 : (Cond.methodLink "LinesPromised$Order" 35 ⟨"java/util/Arrays", "fill", "([II)V"⟩) ∈ wG := wG_in 529 (by decide +kernel) (by decide +kernel)
theorem w_511 : (Cond.code ⟨"LinesPromised$Order", "<init>", "(I[BI)V"⟩ prog_5_method_1_code 4 none) ∈ wG := wG_in 511 (by decide +kernel) (by decide +kernel)
theorem w_98 : (Cond.initialized "LinesPromised$Order") ∈ wG := wG_in 98 (by decide +kernel) (by decide +kernel)
theorem w_510 : (Cond.instanceMethod ⟨"LinesPromised$Order", "<init>", "(I[BI)V"⟩) ∈ wG := wG_in 510 (by decide +kernel) (by decide +kernel)
theorem w_508 : (Cond.instantiable "LinesPromised$Order" 6) ∈ wG := wG_in 508 (by decide +kernel) (by decide +kernel)
theorem w_312 : (Cond.fieldLink "LinesPromised$World" 78 "LinesPromised$World" "taped" "I") ∈ wG := wG_in 312 (by decide +kernel) (by decide +kernel)
theorem w_509 : (Cond.methodLink "LinesPromised$World" 91 ⟨"LinesPromised$Order", "<init>", "(I[BI)V"⟩) ∈ wG := wG_in 509 (by decide +kernel) (by decide +kernel)
theorem w_507 : (Cond.code ⟨"LinesPromised$World", "takeTape", "(I)LLinesPromised$Order;"⟩ prog_12_method_3_code 3 (some (.object "LinesPromised$Order"))) ∈ wG := wG_in 507 (by decide +kernel) (by decide +kernel)
theorem w_505 : (Cond.instanceMethod ⟨"LinesPromised$World", "takeTape", "(I)LLinesPromised$Order;"⟩) ∈ wG := wG_in 505 (by decide +kernel) (by decide +kernel)
theorem w_506 : (Cond.selects "LinesPromised$World" ⟨"LinesPromised$World", "takeTape", "(I)LLinesPromised$Order;"⟩ ⟨"LinesPromised$World", "takeTape", "(I)LLinesPromised$Order;"⟩) ∈ wG := wG_in 506 (by decide +kernel) (by decide +kernel)
theorem w_570 : (Cond.code ⟨"LinesPromised$Order", "nameOf", "(I)Ljava/lang/String;"⟩ prog_5_method_4_code 1 (some (.object "java/lang/String"))) ∈ wG := wG_in 570 (by decide +kernel) (by decide +kernel)
theorem w_569 : (Cond.static ⟨"LinesPromised$Order", "nameOf", "(I)Ljava/lang/String;"⟩) ∈ wG := wG_in 569 (by decide +kernel) (by decide +kernel)
theorem w_590 : (Cond.fieldLink "java/lang/String" 38 "java/lang/String" "COMPACT_STRINGS" "Z") ∈ wG := wG_in 590 (by decide +kernel) (by decide +kernel)
theorem w_1904 : (Cond.fieldLink "java/lang/String" 15 "java/lang/String" "coder" "B") ∈ wG := wG_in 1904 (by decide +kernel) (by decide +kernel)
theorem w_589 : (Cond.code ⟨"java/lang/String", "coder", "()B"⟩ prog_18_method_152_code 1 (some .byte)) ∈ wG := wG_in 589 (by decide +kernel) (by decide +kernel)
theorem w_102 : (Cond.initialized "java/lang/String") ∈ wG := wG_in 102 (by decide +kernel) (by decide +kernel)
theorem w_587 : (Cond.instanceMethod ⟨"java/lang/String", "coder", "()B"⟩) ∈ wG := wG_in 587 (by decide +kernel) (by decide +kernel)
theorem w_588 : (Cond.selects "java/lang/String" ⟨"java/lang/String", "coder", "()B"⟩ ⟨"java/lang/String", "coder", "()B"⟩) ∈ wG := wG_in 588 (by decide +kernel) (by decide +kernel)
theorem w_1903 : (Cond.fieldLink "java/lang/String" 9 "java/lang/String" "value" "[B") ∈ wG := wG_in 1903 (by decide +kernel) (by decide +kernel)
theorem w_586 : (Cond.methodLink "java/lang/String" 335 ⟨"java/lang/String", "coder", "()B"⟩) ∈ wG := wG_in 586 (by decide +kernel) (by decide +kernel)
theorem w_585 : (Cond.code ⟨"java/lang/String", "length", "()I"⟩ prog_18_method_54_code 1 (some .int)) ∈ wG := wG_in 585 (by decide +kernel) (by decide +kernel)
theorem w_583 : (Cond.instanceMethod ⟨"java/lang/String", "length", "()I"⟩) ∈ wG := wG_in 583 (by decide +kernel) (by decide +kernel)
theorem w_584 : (Cond.selects "java/lang/String" ⟨"java/lang/String", "length", "()I"⟩ ⟨"java/lang/String", "length", "()I"⟩) ∈ wG := wG_in 584 (by decide +kernel) (by decide +kernel)
theorem w_599 : (Cond.code ⟨"java/lang/String", "isLatin1", "()Z"⟩ prog_18_method_154_code 1 (some .boolean)) ∈ wG := wG_in 599 (by decide +kernel) (by decide +kernel)
theorem w_597 : (Cond.instanceMethod ⟨"java/lang/String", "isLatin1", "()Z"⟩) ∈ wG := wG_in 597 (by decide +kernel) (by decide +kernel)
theorem w_598 : (Cond.selects "java/lang/String" ⟨"java/lang/String", "isLatin1", "()Z"⟩ ⟨"java/lang/String", "isLatin1", "()Z"⟩) ∈ wG := wG_in 598 (by decide +kernel) (by decide +kernel)
theorem w_610 : (Cond.code ⟨"jdk/internal/util/Preconditions", "checkIndex", "(IILjava/util/function/BiFunction;)I"⟩ prog_23_method_11_code 3 (some .int)) ∈ wG := wG_in 610 (by decide +kernel) (by decide +kernel)
theorem w_104 : (Cond.initialized "jdk/internal/util/Preconditions") ∈ wG := wG_in 104 (by decide +kernel) (by decide +kernel)
theorem w_609 : (Cond.static ⟨"jdk/internal/util/Preconditions", "checkIndex", "(IILjava/util/function/BiFunction;)I"⟩) ∈ wG := wG_in 609 (by decide +kernel) (by decide +kernel)
theorem w_606 : (Cond.fieldLink "java/lang/String" 1053 "jdk/internal/util/Preconditions" "SIOOBE_FORMATTER" "Ljava/util/function/BiFunction;") ∈ wG := wG_in 606 (by decide +kernel) (by decide +kernel)
theorem w_608 : (Cond.methodLink "java/lang/String" 1059 ⟨"jdk/internal/util/Preconditions", "checkIndex", "(IILjava/util/function/BiFunction;)I"⟩) ∈ wG := wG_in 608 (by decide +kernel) (by decide +kernel)
theorem w_605 : (Cond.code ⟨"java/lang/String", "checkIndex", "(II)V"⟩ prog_18_method_155_code 2 none) ∈ wG := wG_in 605 (by decide +kernel) (by decide +kernel)
theorem w_604 : (Cond.static ⟨"java/lang/String", "checkIndex", "(II)V"⟩) ∈ wG := wG_in 604 (by decide +kernel) (by decide +kernel)
theorem w_603 : (Cond.methodLink "java/lang/StringLatin1" 9 ⟨"java/lang/String", "checkIndex", "(II)V"⟩) ∈ wG := wG_in 603 (by decide +kernel) (by decide +kernel)
theorem w_602 : (Cond.code ⟨"java/lang/StringLatin1", "charAt", "([BI)C"⟩ prog_19_method_2_code 2 (some .char)) ∈ wG := wG_in 602 (by decide +kernel) (by decide +kernel)
theorem w_103 : (Cond.initialized "java/lang/StringLatin1") ∈ wG := wG_in 103 (by decide +kernel) (by decide +kernel)
theorem w_601 : (Cond.static ⟨"java/lang/StringLatin1", "charAt", "([BI)C"⟩) ∈ wG := wG_in 601 (by decide +kernel) (by decide +kernel)
theorem w_596 : (Cond.methodLink "java/lang/String" 492 ⟨"java/lang/String", "isLatin1", "()Z"⟩) ∈ wG := wG_in 596 (by decide +kernel) (by decide +kernel)
theorem w_600 : (Cond.methodLink "java/lang/String" 495 ⟨"java/lang/StringLatin1", "charAt", "([BI)C"⟩) ∈ wG := wG_in 600 (by decide +kernel) (by decide +kernel)
theorem w_595 : (Cond.code ⟨"java/lang/String", "charAt", "(I)C"⟩ prog_18_method_56_code 2 (some .char)) ∈ wG := wG_in 595 (by decide +kernel) (by decide +kernel)
theorem w_593 : (Cond.instanceMethod ⟨"java/lang/String", "charAt", "(I)C"⟩) ∈ wG := wG_in 593 (by decide +kernel) (by decide +kernel)
theorem w_594 : (Cond.selects "java/lang/String" ⟨"java/lang/String", "charAt", "(I)C"⟩ ⟨"java/lang/String", "charAt", "(I)C"⟩) ∈ wG := wG_in 594 (by decide +kernel) (by decide +kernel)
theorem w_582 : (Cond.methodLink "LinesPromised$Order" 82 ⟨"java/lang/String", "length", "()I"⟩) ∈ wG := wG_in 582 (by decide +kernel) (by decide +kernel)
theorem w_542 : (Cond.fieldLink "LinesPromised$Order" 39 "LinesPromised$Order" "at" "I") ∈ wG := wG_in 542 (by decide +kernel) (by decide +kernel)
theorem w_592 : (Cond.methodLink "LinesPromised$Order" 93 ⟨"java/lang/String", "charAt", "(I)C"⟩) ∈ wG := wG_in 592 (by decide +kernel) (by decide +kernel)
theorem w_581 : (Cond.code ⟨"LinesPromised$Order", "fitting", "(Ljava/lang/String;)I"⟩ prog_5_method_8_code 3 (some .int)) ∈ wG := wG_in 581 (by decide +kernel) (by decide +kernel)
theorem w_580 : (Cond.instanceMethod ⟨"LinesPromised$Order", "fitting", "(Ljava/lang/String;)I"⟩) ∈ wG := wG_in 580 (by decide +kernel) (by decide +kernel)
theorem w_2 : (Cond.selects "LinesPromised$Order" ⟨"LinesPromised$Order", "fitting", "(Ljava/lang/String;)I"⟩ ⟨"LinesPromised$Order", "fitting", "(Ljava/lang/String;)I"⟩) ∈ wG := wG_in 2 (by decide +kernel) (by decide +kernel)
theorem w_568 : (Cond.methodLink "LinesPromised$Order" 74 ⟨"LinesPromised$Order", "nameOf", "(I)Ljava/lang/String;"⟩) ∈ wG := wG_in 568 (by decide +kernel) (by decide +kernel)
theorem w_578 : (Cond.methodLink "LinesPromised$Order" 78 ⟨"LinesPromised$Order", "fitting", "(Ljava/lang/String;)I"⟩) ∈ wG := wG_in 578 (by decide +kernel) (by decide +kernel)
theorem w_630 : (Cond.methodLink "LinesPromised$Order" 87 ⟨"java/lang/Math", "max", "(II)I"⟩) ∈ wG := wG_in 630 (by decide +kernel) (by decide +kernel)
theorem w_567 : (Cond.code ⟨"LinesPromised$Order", "readWord", "()I"⟩ prog_5_method_7_code 5 (some .int)) ∈ wG := wG_in 567 (by decide +kernel) (by decide +kernel)
theorem w_566 : (Cond.instanceMethod ⟨"LinesPromised$Order", "readWord", "()I"⟩) ∈ wG := wG_in 566 (by decide +kernel) (by decide +kernel)
theorem w_1 : (Cond.selects "LinesPromised$Order" ⟨"LinesPromised$Order", "readWord", "()I"⟩ ⟨"LinesPromised$Order", "readWord", "()I"⟩) ∈ wG := wG_in 1 (by decide +kernel) (by decide +kernel)
theorem w_644 : (Cond.code ⟨"LinesPromised$Order", "peek", "()I"⟩ prog_5_method_5_code 1 (some .int)) ∈ wG := wG_in 644 (by decide +kernel) (by decide +kernel)
theorem w_643 : (Cond.instanceMethod ⟨"LinesPromised$Order", "peek", "()I"⟩) ∈ wG := wG_in 643 (by decide +kernel) (by decide +kernel)
theorem w_5 : (Cond.selects "LinesPromised$Order" ⟨"LinesPromised$Order", "peek", "()I"⟩ ⟨"LinesPromised$Order", "peek", "()I"⟩) ∈ wG := wG_in 5 (by decide +kernel) (by decide +kernel)
theorem w_651 : (Cond.code ⟨"LinesPromised$Order", "factOf", "(I)I"⟩ prog_5_method_13_code 1 (some .int)) ∈ wG := wG_in 651 (by decide +kernel) (by decide +kernel)
theorem w_650 : (Cond.static ⟨"LinesPromised$Order", "factOf", "(I)I"⟩) ∈ wG := wG_in 650 (by decide +kernel) (by decide +kernel)
theorem w_655 : (Cond.code ⟨"LinesPromised$Order", "comparedGauge", "(I)I"⟩ prog_5_method_15_code 2 (some .int)) ∈ wG := wG_in 655 (by decide +kernel) (by decide +kernel)
theorem w_654 : (Cond.instanceMethod ⟨"LinesPromised$Order", "comparedGauge", "(I)I"⟩) ∈ wG := wG_in 654 (by decide +kernel) (by decide +kernel)
theorem w_7 : (Cond.selects "LinesPromised$Order" ⟨"LinesPromised$Order", "comparedGauge", "(I)I"⟩ ⟨"LinesPromised$Order", "comparedGauge", "(I)I"⟩) ∈ wG := wG_in 7 (by decide +kernel) (by decide +kernel)
/-! LinesPromised$Land.<init>()V -/
theorem dX1_init_0 : decode cX1_init 0 = .ok (.aload_n 0, 1) := by decide +kernel
theorem dX1_init_1 : decode cX1_init 1 = .ok (.invokespecial 3, 3) := by decide +kernel
theorem dX1_init_4 : decode cX1_init 4 = .ok (.aload_n 0, 1) := by decide +kernel
theorem dX1_init_5 : decode cX1_init 5 = .ok (.bipush 80, 2) := by decide +kernel
theorem dX1_init_7 : decode cX1_init 7 = .ok (.newarray .int, 2) := by decide +kernel
theorem dX1_init_9 : decode cX1_init 9 = .ok (.putfield 9, 3) := by decide +kernel
theorem dX1_init_12 : decode cX1_init 12 = .ok (.aload_n 0, 1) := by decide +kernel
theorem dX1_init_13 : decode cX1_init 13 = .ok (.bipush 80, 2) := by decide +kernel
theorem dX1_init_15 : decode cX1_init 15 = .ok (.newarray .int, 2) := by decide +kernel
theorem dX1_init_17 : decode cX1_init 17 = .ok (.putfield 15, 3) := by decide +kernel
theorem dX1_init_20 : decode cX1_init 20 = .ok (.aload_n 0, 1) := by decide +kernel
theorem dX1_init_21 : decode cX1_init 21 = .ok (.bipush 80, 2) := by decide +kernel
theorem dX1_init_23 : decode cX1_init 23 = .ok (.newarray .int, 2) := by decide +kernel
theorem dX1_init_25 : decode cX1_init 25 = .ok (.putfield 18, 3) := by decide +kernel
theorem dX1_init_28 : decode cX1_init 28 = .ok (.aload_n 0, 1) := by decide +kernel
theorem dX1_init_29 : decode cX1_init 29 = .ok (.bipush 6, 2) := by decide +kernel
theorem dX1_init_31 : decode cX1_init 31 = .ok (.newarray .int, 2) := by decide +kernel
theorem dX1_init_33 : decode cX1_init 33 = .ok (.putfield 21, 3) := by decide +kernel
theorem dX1_init_36 : decode cX1_init 36 = .ok (.aload_n 0, 1) := by decide +kernel
theorem dX1_init_37 : decode cX1_init 37 = .ok (.bipush 6, 2) := by decide +kernel
theorem dX1_init_39 : decode cX1_init 39 = .ok (.newarray .int, 2) := by decide +kernel
theorem dX1_init_41 : decode cX1_init 41 = .ok (.putfield 24, 3) := by decide +kernel
theorem dX1_init_44 : decode cX1_init 44 = .ok (.return_, 1) := by decide +kernel
theorem cm_X1_init : CMi yX1_init cX1_init 1 0 := ⟨w_125, w_126, w_89, rfl, ⟨by decide +kernel, by decide +kernel, by decide +kernel⟩⟩
noncomputable def f_X1_init (n : Nat) (v0 : Int) (h : MM) : RR :=
  nz v0 <|
  na h 100 80 fun r2 h2 =>
  pf h2 v0 1 0 r2 fun h3 =>
  na h3 100 80 fun r4 h4 =>
  pf h4 v0 1 1 r4 fun h5 =>
  na h5 100 80 fun r6 h6 =>
  pf h6 v0 1 2 r6 fun h7 =>
  na h7 100 6 fun r8 h8 =>
  pf h8 v0 1 3 r8 fun h9 =>
  na h9 100 6 fun r10 h10 =>
  pf h10 v0 1 4 r10 fun h11 =>
  some (0, h11)
set_option maxRecDepth 20000 in
theorem e_X1_init {g : GT} {Z : Int × MM} {n : Nat} (C : Cx g cX1_init 1 yX1_init 1 21) (hr : Rt g none 3 Z) {v0 : Int} (cv0 : cK 2 v0) {h : MM} (hf : f_X1_init n v0 h = some Z) : G g 0 [(2, v0)] [] h := by
  unfold f_X1_init at hf
  refine r_aload_n C dX1_init_0 rfl ?_
  obtain ⟨q1, hf⟩ := nz_s hf
  refine r_obj C dX1_init_1 w_127 wo1 wo2 ⟨Nat.le_of_ble_eq_true rfl, Nat.le_of_ble_eq_true rfl⟩ q1 rfl ?_
  refine r_aload_n C dX1_init_4 rfl ?_
  refine r_bipush C dX1_init_5 rfl ?_
  obtain ⟨q2, hf⟩ := na_s hf
  refine r_na C (tn := 100) (t := 100) dX1_init_7 q2 rfl (by decide) (by decide) w_156 ?_
  obtain ⟨q3, hf⟩ := pf_s hf
  refine r_pf C ct1 (j := 0) (ji := 0) dX1_init_9 q3 rfl rfl (by decide) w_128 rfl (Or.inr ⟨rfl, rfl, rfl⟩) nar_arr trivial ?_
  refine r_aload_n C dX1_init_12 rfl ?_
  refine r_bipush C dX1_init_13 rfl ?_
  obtain ⟨q4, hf⟩ := na_s hf
  refine r_na C (tn := 100) (t := 100) dX1_init_15 q4 rfl (by decide) (by decide) w_156 ?_
  obtain ⟨q5, hf⟩ := pf_s hf
  refine r_pf C ct1 (j := 1) (ji := 1) dX1_init_17 q5 rfl rfl (by decide) w_131 rfl (Or.inr ⟨rfl, rfl, rfl⟩) nar_arr trivial ?_
  refine r_aload_n C dX1_init_20 rfl ?_
  refine r_bipush C dX1_init_21 rfl ?_
  obtain ⟨q6, hf⟩ := na_s hf
  refine r_na C (tn := 100) (t := 100) dX1_init_23 q6 rfl (by decide) (by decide) w_156 ?_
  obtain ⟨q7, hf⟩ := pf_s hf
  refine r_pf C ct1 (j := 2) (ji := 2) dX1_init_25 q7 rfl rfl (by decide) w_134 rfl (Or.inr ⟨rfl, rfl, rfl⟩) nar_arr trivial ?_
  refine r_aload_n C dX1_init_28 rfl ?_
  refine r_bipush C dX1_init_29 rfl ?_
  obtain ⟨q8, hf⟩ := na_s hf
  refine r_na C (tn := 100) (t := 100) dX1_init_31 q8 rfl (by decide) (by decide) w_156 ?_
  obtain ⟨q9, hf⟩ := pf_s hf
  refine r_pf C ct1 (j := 3) (ji := 3) dX1_init_33 q9 rfl rfl (by decide) w_136 rfl (Or.inr ⟨rfl, rfl, rfl⟩) nar_arr trivial ?_
  refine r_aload_n C dX1_init_36 rfl ?_
  refine r_bipush C dX1_init_37 rfl ?_
  obtain ⟨q10, hf⟩ := na_s hf
  refine r_na C (tn := 100) (t := 100) dX1_init_39 q10 rfl (by decide) (by decide) w_156 ?_
  obtain ⟨q11, hf⟩ := pf_s hf
  refine r_pf C ct1 (j := 4) (ji := 4) dX1_init_41 q11 rfl rfl (by decide) w_139 rfl (Or.inr ⟨rfl, rfl, rfl⟩) nar_arr trivial ?_
  cases hf
  exact r_vret C hr dX1_init_44
set_option maxRecDepth 20000 in
theorem am_X1_init (l : Launch) (n : Nat) : AM l yX1_init cX1_init 1 none 1 21 [2] 3 (un1 (f_X1_init n)) := by
  refine AM.intro (by decide) (fun xs hx => ?_) (fun g xs h Z hl C hr hx hf => ?_)
  · obtain ⟨a0, rfl, c0⟩ := canL_1 hx
    exact Nat.le_of_ble_eq_true rfl
  · obtain ⟨a0, rfl, c0⟩ := canL_1 hx
    have hf := (un1_e _ a0 _).symm.trans hf
    exact e_X1_init (n := n) C hr c0 hf
/-! LinesPromised$Papers.<init>()V -/
theorem dX5_init_0 : decode cX5_init 0 = .ok (.aload_n 0, 1) := by decide +kernel
theorem dX5_init_1 : decode cX5_init 1 = .ok (.invokespecial 3, 3) := by decide +kernel
theorem dX5_init_4 : decode cX5_init 4 = .ok (.aload_n 0, 1) := by decide +kernel
theorem dX5_init_5 : decode cX5_init 5 = .ok (.bipush 60, 2) := by decide +kernel
theorem dX5_init_7 : decode cX5_init 7 = .ok (.anewarray 9, 3) := by decide +kernel
theorem dX5_init_10 : decode cX5_init 10 = .ok (.putfield 11, 3) := by decide +kernel
theorem dX5_init_13 : decode cX5_init 13 = .ok (.aload_n 0, 1) := by decide +kernel
theorem dX5_init_14 : decode cX5_init 14 = .ok (.bipush 60, 2) := by decide +kernel
theorem dX5_init_16 : decode cX5_init 16 = .ok (.newarray .long, 2) := by decide +kernel
theorem dX5_init_18 : decode cX5_init 18 = .ok (.putfield 17, 3) := by decide +kernel
theorem dX5_init_21 : decode cX5_init 21 = .ok (.aload_n 0, 1) := by decide +kernel
theorem dX5_init_22 : decode cX5_init 22 = .ok (.bipush 60, 2) := by decide +kernel
theorem dX5_init_24 : decode cX5_init 24 = .ok (.newarray .int, 2) := by decide +kernel
theorem dX5_init_26 : decode cX5_init 26 = .ok (.putfield 21, 3) := by decide +kernel
theorem dX5_init_29 : decode cX5_init 29 = .ok (.aload_n 0, 1) := by decide +kernel
theorem dX5_init_30 : decode cX5_init 30 = .ok (.bipush 60, 2) := by decide +kernel
theorem dX5_init_32 : decode cX5_init 32 = .ok (.newarray .int, 2) := by decide +kernel
theorem dX5_init_34 : decode cX5_init 34 = .ok (.putfield 25, 3) := by decide +kernel
theorem dX5_init_37 : decode cX5_init 37 = .ok (.aload_n 0, 1) := by decide +kernel
theorem dX5_init_38 : decode cX5_init 38 = .ok (.bipush 60, 2) := by decide +kernel
theorem dX5_init_40 : decode cX5_init 40 = .ok (.newarray .int, 2) := by decide +kernel
theorem dX5_init_42 : decode cX5_init 42 = .ok (.putfield 28, 3) := by decide +kernel
theorem dX5_init_45 : decode cX5_init 45 = .ok (.aload_n 0, 1) := by decide +kernel
theorem dX5_init_46 : decode cX5_init 46 = .ok (.bipush 60, 2) := by decide +kernel
theorem dX5_init_48 : decode cX5_init 48 = .ok (.newarray .int, 2) := by decide +kernel
theorem dX5_init_50 : decode cX5_init 50 = .ok (.putfield 31, 3) := by decide +kernel
theorem dX5_init_53 : decode cX5_init 53 = .ok (.return_, 1) := by decide +kernel
theorem cm_X5_init : CMi yX5_init cX5_init 1 0 := ⟨w_160, w_161, w_90, rfl, ⟨by decide +kernel, by decide +kernel, by decide +kernel⟩⟩
noncomputable def f_X5_init (n : Nat) (v0 : Int) (h : MM) : RR :=
  nz v0 <|
  na h 105 60 fun r2 h2 =>
  pf h2 v0 5 0 r2 fun h3 =>
  na h3 101 60 fun r4 h4 =>
  pf h4 v0 5 1 r4 fun h5 =>
  na h5 100 60 fun r6 h6 =>
  pf h6 v0 5 2 r6 fun h7 =>
  na h7 100 60 fun r8 h8 =>
  pf h8 v0 5 3 r8 fun h9 =>
  na h9 100 60 fun r10 h10 =>
  pf h10 v0 5 4 r10 fun h11 =>
  na h11 100 60 fun r12 h12 =>
  pf h12 v0 5 5 r12 fun h13 =>
  some (0, h13)
set_option maxRecDepth 20000 in
theorem e_X5_init {g : GT} {Z : Int × MM} {n : Nat} (C : Cx g cX5_init 1 yX5_init 1 21) (hr : Rt g none 3 Z) {v0 : Int} (cv0 : cK 2 v0) {h : MM} (hf : f_X5_init n v0 h = some Z) : G g 0 [(2, v0)] [] h := by
  unfold f_X5_init at hf
  refine r_aload_n C dX5_init_0 rfl ?_
  obtain ⟨q1, hf⟩ := nz_s hf
  refine r_obj C dX5_init_1 w_162 wo1 wo2 ⟨Nat.le_of_ble_eq_true rfl, Nat.le_of_ble_eq_true rfl⟩ q1 rfl ?_
  refine r_aload_n C dX5_init_4 rfl ?_
  refine r_bipush C dX5_init_5 rfl ?_
  obtain ⟨q2, hf⟩ := na_s hf
  refine r_ana C (tn := 105) (t := 105) dX5_init_7 q2 rfl (by decide) (by decide) rfl w_163 ?_
  obtain ⟨q3, hf⟩ := pf_s hf
  refine r_pf C ct5 (j := 0) (ji := 0) dX5_init_10 q3 rfl rfl (by decide) w_165 rfl (Or.inr ⟨rfl, rfl, rfl⟩) nar_arr trivial ?_
  refine r_aload_n C dX5_init_13 rfl ?_
  refine r_bipush C dX5_init_14 rfl ?_
  obtain ⟨q4, hf⟩ := na_s hf
  refine r_na C (tn := 101) (t := 101) dX5_init_16 q4 rfl (by decide) (by decide) w_207 ?_
  obtain ⟨q5, hf⟩ := pf_s hf
  refine r_pf C ct5 (j := 1) (ji := 1) dX5_init_18 q5 rfl rfl (by decide) w_166 rfl (Or.inr ⟨rfl, rfl, rfl⟩) nar_arr trivial ?_
  refine r_aload_n C dX5_init_21 rfl ?_
  refine r_bipush C dX5_init_22 rfl ?_
  obtain ⟨q6, hf⟩ := na_s hf
  refine r_na C (tn := 100) (t := 100) dX5_init_24 q6 rfl (by decide) (by decide) w_156 ?_
  obtain ⟨q7, hf⟩ := pf_s hf
  refine r_pf C ct5 (j := 2) (ji := 2) dX5_init_26 q7 rfl rfl (by decide) w_168 rfl (Or.inr ⟨rfl, rfl, rfl⟩) nar_arr trivial ?_
  refine r_aload_n C dX5_init_29 rfl ?_
  refine r_bipush C dX5_init_30 rfl ?_
  obtain ⟨q8, hf⟩ := na_s hf
  refine r_na C (tn := 100) (t := 100) dX5_init_32 q8 rfl (by decide) (by decide) w_156 ?_
  obtain ⟨q9, hf⟩ := pf_s hf
  refine r_pf C ct5 (j := 3) (ji := 3) dX5_init_34 q9 rfl rfl (by decide) w_171 rfl (Or.inr ⟨rfl, rfl, rfl⟩) nar_arr trivial ?_
  refine r_aload_n C dX5_init_37 rfl ?_
  refine r_bipush C dX5_init_38 rfl ?_
  obtain ⟨q10, hf⟩ := na_s hf
  refine r_na C (tn := 100) (t := 100) dX5_init_40 q10 rfl (by decide) (by decide) w_156 ?_
  obtain ⟨q11, hf⟩ := pf_s hf
  refine r_pf C ct5 (j := 4) (ji := 4) dX5_init_42 q11 rfl rfl (by decide) w_174 rfl (Or.inr ⟨rfl, rfl, rfl⟩) nar_arr trivial ?_
  refine r_aload_n C dX5_init_45 rfl ?_
  refine r_bipush C dX5_init_46 rfl ?_
  obtain ⟨q12, hf⟩ := na_s hf
  refine r_na C (tn := 100) (t := 100) dX5_init_48 q12 rfl (by decide) (by decide) w_156 ?_
  obtain ⟨q13, hf⟩ := pf_s hf
  refine r_pf C ct5 (j := 5) (ji := 5) dX5_init_50 q13 rfl rfl (by decide) w_175 rfl (Or.inr ⟨rfl, rfl, rfl⟩) nar_arr trivial ?_
  cases hf
  exact r_vret C hr dX5_init_53
set_option maxRecDepth 20000 in
theorem am_X5_init (l : Launch) (n : Nat) : AM l yX5_init cX5_init 1 none 1 21 [2] 3 (un1 (f_X5_init n)) := by
  refine AM.intro (by decide) (fun xs hx => ?_) (fun g xs h Z hl C hr hx hf => ?_)
  · obtain ⟨a0, rfl, c0⟩ := canL_1 hx
    exact Nat.le_of_ble_eq_true rfl
  · obtain ⟨a0, rfl, c0⟩ := canL_1 hx
    have hf := (un1_e _ a0 _).symm.trans hf
    exact e_X5_init (n := n) C hr c0 hf
/-! LinesPromised$Scrip.<init>()V -/
theorem dX8_init_0 : decode cX8_init 0 = .ok (.aload_n 0, 1) := by decide +kernel
theorem dX8_init_1 : decode cX8_init 1 = .ok (.invokespecial 3, 3) := by decide +kernel
theorem dX8_init_4 : decode cX8_init 4 = .ok (.aload_n 0, 1) := by decide +kernel
theorem dX8_init_5 : decode cX8_init 5 = .ok (.bipush 20, 2) := by decide +kernel
theorem dX8_init_7 : decode cX8_init 7 = .ok (.newarray .int, 2) := by decide +kernel
theorem dX8_init_9 : decode cX8_init 9 = .ok (.putfield 9, 3) := by decide +kernel
theorem dX8_init_12 : decode cX8_init 12 = .ok (.aload_n 0, 1) := by decide +kernel
theorem dX8_init_13 : decode cX8_init 13 = .ok (.bipush 108, 2) := by decide +kernel
theorem dX8_init_15 : decode cX8_init 15 = .ok (.newarray .int, 2) := by decide +kernel
theorem dX8_init_17 : decode cX8_init 17 = .ok (.putfield 15, 3) := by decide +kernel
theorem dX8_init_20 : decode cX8_init 20 = .ok (.aload_n 0, 1) := by decide +kernel
theorem dX8_init_21 : decode cX8_init 21 = .ok (.bipush 12, 2) := by decide +kernel
theorem dX8_init_23 : decode cX8_init 23 = .ok (.newarray .int, 2) := by decide +kernel
theorem dX8_init_25 : decode cX8_init 25 = .ok (.putfield 18, 3) := by decide +kernel
theorem dX8_init_28 : decode cX8_init 28 = .ok (.aload_n 0, 1) := by decide +kernel
theorem dX8_init_29 : decode cX8_init 29 = .ok (.bipush 40, 2) := by decide +kernel
theorem dX8_init_31 : decode cX8_init 31 = .ok (.newarray .int, 2) := by decide +kernel
theorem dX8_init_33 : decode cX8_init 33 = .ok (.putfield 21, 3) := by decide +kernel
theorem dX8_init_36 : decode cX8_init 36 = .ok (.aload_n 0, 1) := by decide +kernel
theorem dX8_init_37 : decode cX8_init 37 = .ok (.bipush 40, 2) := by decide +kernel
theorem dX8_init_39 : decode cX8_init 39 = .ok (.newarray .int, 2) := by decide +kernel
theorem dX8_init_41 : decode cX8_init 41 = .ok (.putfield 24, 3) := by decide +kernel
theorem dX8_init_44 : decode cX8_init 44 = .ok (.aload_n 0, 1) := by decide +kernel
theorem dX8_init_45 : decode cX8_init 45 = .ok (.bipush 40, 2) := by decide +kernel
theorem dX8_init_47 : decode cX8_init 47 = .ok (.newarray .int, 2) := by decide +kernel
theorem dX8_init_49 : decode cX8_init 49 = .ok (.putfield 27, 3) := by decide +kernel
theorem dX8_init_52 : decode cX8_init 52 = .ok (.aload_n 0, 1) := by decide +kernel
theorem dX8_init_53 : decode cX8_init 53 = .ok (.bipush 40, 2) := by decide +kernel
theorem dX8_init_55 : decode cX8_init 55 = .ok (.newarray .int, 2) := by decide +kernel
theorem dX8_init_57 : decode cX8_init 57 = .ok (.putfield 30, 3) := by decide +kernel
theorem dX8_init_60 : decode cX8_init 60 = .ok (.aload_n 0, 1) := by decide +kernel
theorem dX8_init_61 : decode cX8_init 61 = .ok (.bipush 40, 2) := by decide +kernel
theorem dX8_init_63 : decode cX8_init 63 = .ok (.newarray .int, 2) := by decide +kernel
theorem dX8_init_65 : decode cX8_init 65 = .ok (.putfield 33, 3) := by decide +kernel
theorem dX8_init_68 : decode cX8_init 68 = .ok (.return_, 1) := by decide +kernel
theorem cm_X8_init : CMi yX8_init cX8_init 1 0 := ⟨w_211, w_212, w_91, rfl, ⟨by decide +kernel, by decide +kernel, by decide +kernel⟩⟩
noncomputable def f_X8_init (n : Nat) (v0 : Int) (h : MM) : RR :=
  nz v0 <|
  na h 100 20 fun r2 h2 =>
  pf h2 v0 8 0 r2 fun h3 =>
  na h3 100 108 fun r4 h4 =>
  pf h4 v0 8 1 r4 fun h5 =>
  na h5 100 12 fun r6 h6 =>
  pf h6 v0 8 2 r6 fun h7 =>
  na h7 100 40 fun r8 h8 =>
  pf h8 v0 8 3 r8 fun h9 =>
  na h9 100 40 fun r10 h10 =>
  pf h10 v0 8 4 r10 fun h11 =>
  na h11 100 40 fun r12 h12 =>
  pf h12 v0 8 5 r12 fun h13 =>
  na h13 100 40 fun r14 h14 =>
  pf h14 v0 8 6 r14 fun h15 =>
  na h15 100 40 fun r16 h16 =>
  pf h16 v0 8 7 r16 fun h17 =>
  some (0, h17)
set_option maxRecDepth 20000 in
theorem e_X8_init {g : GT} {Z : Int × MM} {n : Nat} (C : Cx g cX8_init 1 yX8_init 1 21) (hr : Rt g none 3 Z) {v0 : Int} (cv0 : cK 2 v0) {h : MM} (hf : f_X8_init n v0 h = some Z) : G g 0 [(2, v0)] [] h := by
  unfold f_X8_init at hf
  refine r_aload_n C dX8_init_0 rfl ?_
  obtain ⟨q1, hf⟩ := nz_s hf
  refine r_obj C dX8_init_1 w_213 wo1 wo2 ⟨Nat.le_of_ble_eq_true rfl, Nat.le_of_ble_eq_true rfl⟩ q1 rfl ?_
  refine r_aload_n C dX8_init_4 rfl ?_
  refine r_bipush C dX8_init_5 rfl ?_
  obtain ⟨q2, hf⟩ := na_s hf
  refine r_na C (tn := 100) (t := 100) dX8_init_7 q2 rfl (by decide) (by decide) w_156 ?_
  obtain ⟨q3, hf⟩ := pf_s hf
  refine r_pf C ct8 (j := 0) (ji := 0) dX8_init_9 q3 rfl rfl (by decide) w_214 rfl (Or.inr ⟨rfl, rfl, rfl⟩) nar_arr trivial ?_
  refine r_aload_n C dX8_init_12 rfl ?_
  refine r_bipush C dX8_init_13 rfl ?_
  obtain ⟨q4, hf⟩ := na_s hf
  refine r_na C (tn := 100) (t := 100) dX8_init_15 q4 rfl (by decide) (by decide) w_156 ?_
  obtain ⟨q5, hf⟩ := pf_s hf
  refine r_pf C ct8 (j := 1) (ji := 1) dX8_init_17 q5 rfl rfl (by decide) w_218 rfl (Or.inr ⟨rfl, rfl, rfl⟩) nar_arr trivial ?_
  refine r_aload_n C dX8_init_20 rfl ?_
  refine r_bipush C dX8_init_21 rfl ?_
  obtain ⟨q6, hf⟩ := na_s hf
  refine r_na C (tn := 100) (t := 100) dX8_init_23 q6 rfl (by decide) (by decide) w_156 ?_
  obtain ⟨q7, hf⟩ := pf_s hf
  refine r_pf C ct8 (j := 2) (ji := 2) dX8_init_25 q7 rfl rfl (by decide) w_219 rfl (Or.inr ⟨rfl, rfl, rfl⟩) nar_arr trivial ?_
  refine r_aload_n C dX8_init_28 rfl ?_
  refine r_bipush C dX8_init_29 rfl ?_
  obtain ⟨q8, hf⟩ := na_s hf
  refine r_na C (tn := 100) (t := 100) dX8_init_31 q8 rfl (by decide) (by decide) w_156 ?_
  obtain ⟨q9, hf⟩ := pf_s hf
  refine r_pf C ct8 (j := 3) (ji := 3) dX8_init_33 q9 rfl rfl (by decide) w_221 rfl (Or.inr ⟨rfl, rfl, rfl⟩) nar_arr trivial ?_
  refine r_aload_n C dX8_init_36 rfl ?_
  refine r_bipush C dX8_init_37 rfl ?_
  obtain ⟨q10, hf⟩ := na_s hf
  refine r_na C (tn := 100) (t := 100) dX8_init_39 q10 rfl (by decide) (by decide) w_156 ?_
  obtain ⟨q11, hf⟩ := pf_s hf
  refine r_pf C ct8 (j := 4) (ji := 4) dX8_init_41 q11 rfl rfl (by decide) w_222 rfl (Or.inr ⟨rfl, rfl, rfl⟩) nar_arr trivial ?_
  refine r_aload_n C dX8_init_44 rfl ?_
  refine r_bipush C dX8_init_45 rfl ?_
  obtain ⟨q12, hf⟩ := na_s hf
  refine r_na C (tn := 100) (t := 100) dX8_init_47 q12 rfl (by decide) (by decide) w_156 ?_
  obtain ⟨q13, hf⟩ := pf_s hf
  refine r_pf C ct8 (j := 5) (ji := 5) dX8_init_49 q13 rfl rfl (by decide) w_223 rfl (Or.inr ⟨rfl, rfl, rfl⟩) nar_arr trivial ?_
  refine r_aload_n C dX8_init_52 rfl ?_
  refine r_bipush C dX8_init_53 rfl ?_
  obtain ⟨q14, hf⟩ := na_s hf
  refine r_na C (tn := 100) (t := 100) dX8_init_55 q14 rfl (by decide) (by decide) w_156 ?_
  obtain ⟨q15, hf⟩ := pf_s hf
  refine r_pf C ct8 (j := 6) (ji := 6) dX8_init_57 q15 rfl rfl (by decide) w_224 rfl (Or.inr ⟨rfl, rfl, rfl⟩) nar_arr trivial ?_
  refine r_aload_n C dX8_init_60 rfl ?_
  refine r_bipush C dX8_init_61 rfl ?_
  obtain ⟨q16, hf⟩ := na_s hf
  refine r_na C (tn := 100) (t := 100) dX8_init_63 q16 rfl (by decide) (by decide) w_156 ?_
  obtain ⟨q17, hf⟩ := pf_s hf
  refine r_pf C ct8 (j := 7) (ji := 7) dX8_init_65 q17 rfl rfl (by decide) w_225 rfl (Or.inr ⟨rfl, rfl, rfl⟩) nar_arr trivial ?_
  cases hf
  exact r_vret C hr dX8_init_68
set_option maxRecDepth 20000 in
theorem am_X8_init (l : Launch) (n : Nat) : AM l yX8_init cX8_init 1 none 1 21 [2] 3 (un1 (f_X8_init n)) := by
  refine AM.intro (by decide) (fun xs hx => ?_) (fun g xs h Z hl C hr hx hf => ?_)
  · obtain ⟨a0, rfl, c0⟩ := canL_1 hx
    exact Nat.le_of_ble_eq_true rfl
  · obtain ⟨a0, rfl, c0⟩ := canL_1 hx
    have hf := (un1_e _ a0 _).symm.trans hf
    exact e_X8_init (n := n) C hr c0 hf
/-! LinesPromised$Press.<init>()V -/
theorem dX6_init_0 : decode cX6_init 0 = .ok (.aload_n 0, 1) := by decide +kernel
theorem dX6_init_1 : decode cX6_init 1 = .ok (.invokespecial 3, 3) := by decide +kernel
theorem dX6_init_4 : decode cX6_init 4 = .ok (.aload_n 0, 1) := by decide +kernel
theorem dX6_init_5 : decode cX6_init 5 = .ok (.bipush 7, 2) := by decide +kernel
theorem dX6_init_7 : decode cX6_init 7 = .ok (.newarray .int, 2) := by decide +kernel
theorem dX6_init_9 : decode cX6_init 9 = .ok (.putfield 9, 3) := by decide +kernel
theorem dX6_init_12 : decode cX6_init 12 = .ok (.aload_n 0, 1) := by decide +kernel
theorem dX6_init_13 : decode cX6_init 13 = .ok (.bipush 7, 2) := by decide +kernel
theorem dX6_init_15 : decode cX6_init 15 = .ok (.newarray .int, 2) := by decide +kernel
theorem dX6_init_17 : decode cX6_init 17 = .ok (.putfield 15, 3) := by decide +kernel
theorem dX6_init_20 : decode cX6_init 20 = .ok (.aload_n 0, 1) := by decide +kernel
theorem dX6_init_21 : decode cX6_init 21 = .ok (.bipush 7, 2) := by decide +kernel
theorem dX6_init_23 : decode cX6_init 23 = .ok (.newarray .int, 2) := by decide +kernel
theorem dX6_init_25 : decode cX6_init 25 = .ok (.putfield 18, 3) := by decide +kernel
theorem dX6_init_28 : decode cX6_init 28 = .ok (.aload_n 0, 1) := by decide +kernel
theorem dX6_init_29 : decode cX6_init 29 = .ok (.sipush 128, 3) := by decide +kernel
theorem dX6_init_32 : decode cX6_init 32 = .ok (.newarray .int, 2) := by decide +kernel
theorem dX6_init_34 : decode cX6_init 34 = .ok (.putfield 21, 3) := by decide +kernel
theorem dX6_init_37 : decode cX6_init 37 = .ok (.return_, 1) := by decide +kernel
theorem cm_X6_init : CMi yX6_init cX6_init 1 0 := ⟨w_250, w_251, w_92, rfl, ⟨by decide +kernel, by decide +kernel, by decide +kernel⟩⟩
noncomputable def f_X6_init (n : Nat) (v0 : Int) (h : MM) : RR :=
  nz v0 <|
  na h 100 7 fun r2 h2 =>
  pf h2 v0 6 0 r2 fun h3 =>
  na h3 100 7 fun r4 h4 =>
  pf h4 v0 6 1 r4 fun h5 =>
  na h5 100 7 fun r6 h6 =>
  pf h6 v0 6 3 r6 fun h7 =>
  na h7 100 128 fun r8 h8 =>
  pf h8 v0 6 4 r8 fun h9 =>
  some (0, h9)
set_option maxRecDepth 20000 in
theorem e_X6_init {g : GT} {Z : Int × MM} {n : Nat} (C : Cx g cX6_init 1 yX6_init 1 21) (hr : Rt g none 3 Z) {v0 : Int} (cv0 : cK 2 v0) {h : MM} (hf : f_X6_init n v0 h = some Z) : G g 0 [(2, v0)] [] h := by
  unfold f_X6_init at hf
  refine r_aload_n C dX6_init_0 rfl ?_
  obtain ⟨q1, hf⟩ := nz_s hf
  refine r_obj C dX6_init_1 w_252 wo1 wo2 ⟨Nat.le_of_ble_eq_true rfl, Nat.le_of_ble_eq_true rfl⟩ q1 rfl ?_
  refine r_aload_n C dX6_init_4 rfl ?_
  refine r_bipush C dX6_init_5 rfl ?_
  obtain ⟨q2, hf⟩ := na_s hf
  refine r_na C (tn := 100) (t := 100) dX6_init_7 q2 rfl (by decide) (by decide) w_156 ?_
  obtain ⟨q3, hf⟩ := pf_s hf
  refine r_pf C ct6 (j := 0) (ji := 0) dX6_init_9 q3 rfl rfl (by decide) w_253 rfl (Or.inr ⟨rfl, rfl, rfl⟩) nar_arr trivial ?_
  refine r_aload_n C dX6_init_12 rfl ?_
  refine r_bipush C dX6_init_13 rfl ?_
  obtain ⟨q4, hf⟩ := na_s hf
  refine r_na C (tn := 100) (t := 100) dX6_init_15 q4 rfl (by decide) (by decide) w_156 ?_
  obtain ⟨q5, hf⟩ := pf_s hf
  refine r_pf C ct6 (j := 1) (ji := 1) dX6_init_17 q5 rfl rfl (by decide) w_254 rfl (Or.inr ⟨rfl, rfl, rfl⟩) nar_arr trivial ?_
  refine r_aload_n C dX6_init_20 rfl ?_
  refine r_bipush C dX6_init_21 rfl ?_
  obtain ⟨q6, hf⟩ := na_s hf
  refine r_na C (tn := 100) (t := 100) dX6_init_23 q6 rfl (by decide) (by decide) w_156 ?_
  obtain ⟨q7, hf⟩ := pf_s hf
  refine r_pf C ct6 (j := 3) (ji := 3) dX6_init_25 q7 rfl rfl (by decide) w_257 rfl (Or.inr ⟨rfl, rfl, rfl⟩) nar_arr trivial ?_
  refine r_aload_n C dX6_init_28 rfl ?_
  refine r_sipush C dX6_init_29 rfl ?_
  obtain ⟨q8, hf⟩ := na_s hf
  refine r_na C (tn := 100) (t := 100) dX6_init_32 q8 rfl (by decide) (by decide) w_156 ?_
  obtain ⟨q9, hf⟩ := pf_s hf
  refine r_pf C ct6 (j := 4) (ji := 4) dX6_init_34 q9 rfl rfl (by decide) w_259 rfl (Or.inr ⟨rfl, rfl, rfl⟩) nar_arr trivial ?_
  cases hf
  exact r_vret C hr dX6_init_37
set_option maxRecDepth 20000 in
theorem am_X6_init (l : Launch) (n : Nat) : AM l yX6_init cX6_init 1 none 1 21 [2] 3 (un1 (f_X6_init n)) := by
  refine AM.intro (by decide) (fun xs hx => ?_) (fun g xs h Z hl C hr hx hf => ?_)
  · obtain ⟨a0, rfl, c0⟩ := canL_1 hx
    exact Nat.le_of_ble_eq_true rfl
  · obtain ⟨a0, rfl, c0⟩ := canL_1 hx
    have hf := (un1_e _ a0 _).symm.trans hf
    exact e_X6_init (n := n) C hr c0 hf
/-! LinesPromised$Sheet.<init>()V -/
theorem dX9_init_0 : decode cX9_init 0 = .ok (.aload_n 0, 1) := by decide +kernel
theorem dX9_init_1 : decode cX9_init 1 = .ok (.invokespecial 3, 3) := by decide +kernel
theorem dX9_init_4 : decode cX9_init 4 = .ok (.aload_n 0, 1) := by decide +kernel
theorem dX9_init_5 : decode cX9_init 5 = .ok (.bipush 40, 2) := by decide +kernel
theorem dX9_init_7 : decode cX9_init 7 = .ok (.newarray .int, 2) := by decide +kernel
theorem dX9_init_9 : decode cX9_init 9 = .ok (.putfield 9, 3) := by decide +kernel
theorem dX9_init_12 : decode cX9_init 12 = .ok (.aload_n 0, 1) := by decide +kernel
theorem dX9_init_13 : decode cX9_init 13 = .ok (.iconst (-1), 1) := by decide +kernel
theorem dX9_init_14 : decode cX9_init 14 = .ok (.putfield 15, 3) := by decide +kernel
theorem dX9_init_17 : decode cX9_init 17 = .ok (.return_, 1) := by decide +kernel
theorem cm_X9_init : CMi yX9_init cX9_init 1 0 := ⟨w_277, w_278, w_93, rfl, ⟨by decide +kernel, by decide +kernel, by decide +kernel⟩⟩
noncomputable def f_X9_init (n : Nat) (v0 : Int) (h : MM) : RR :=
  nz v0 <|
  na h 100 40 fun r2 h2 =>
  pf h2 v0 9 0 r2 fun h3 =>
  pf h3 v0 9 1 ((-1)) fun h4 =>
  some (0, h4)
set_option maxRecDepth 20000 in
theorem e_X9_init {g : GT} {Z : Int × MM} {n : Nat} (C : Cx g cX9_init 1 yX9_init 1 21) (hr : Rt g none 3 Z) {v0 : Int} (cv0 : cK 2 v0) {h : MM} (hf : f_X9_init n v0 h = some Z) : G g 0 [(2, v0)] [] h := by
  unfold f_X9_init at hf
  refine r_aload_n C dX9_init_0 rfl ?_
  obtain ⟨q1, hf⟩ := nz_s hf
  refine r_obj C dX9_init_1 w_279 wo1 wo2 ⟨Nat.le_of_ble_eq_true rfl, Nat.le_of_ble_eq_true rfl⟩ q1 rfl ?_
  refine r_aload_n C dX9_init_4 rfl ?_
  refine r_bipush C dX9_init_5 rfl ?_
  obtain ⟨q2, hf⟩ := na_s hf
  refine r_na C (tn := 100) (t := 100) dX9_init_7 q2 rfl (by decide) (by decide) w_156 ?_
  obtain ⟨q3, hf⟩ := pf_s hf
  refine r_pf C ct9 (j := 0) (ji := 0) dX9_init_9 q3 rfl rfl (by decide) w_280 rfl (Or.inr ⟨rfl, rfl, rfl⟩) nar_arr trivial ?_
  refine r_aload_n C dX9_init_12 rfl ?_
  refine r_iconst C dX9_init_13 ?_
  obtain ⟨q4, hf⟩ := pf_s hf
  refine r_pf C ct9 (j := 1) (ji := 1) dX9_init_14 q4 rfl rfl (by decide) w_284 rfl (Or.inl rfl) nar_int (in32_of rfl) ?_
  cases hf
  exact r_vret C hr dX9_init_17
set_option maxRecDepth 20000 in
theorem am_X9_init (l : Launch) (n : Nat) : AM l yX9_init cX9_init 1 none 1 21 [2] 3 (un1 (f_X9_init n)) := by
  refine AM.intro (by decide) (fun xs hx => ?_) (fun g xs h Z hl C hr hx hf => ?_)
  · obtain ⟨a0, rfl, c0⟩ := canL_1 hx
    exact Nat.le_of_ble_eq_true rfl
  · obtain ⟨a0, rfl, c0⟩ := canL_1 hx
    have hf := (un1_e _ a0 _).symm.trans hf
    exact e_X9_init (n := n) C hr c0 hf
/-! LinesPromised$World.<init>()V -/
theorem dX10_init_0 : decode cX10_init 0 = .ok (.aload_n 0, 1) := by decide +kernel
theorem dX10_init_1 : decode cX10_init 1 = .ok (.invokespecial 3, 3) := by decide +kernel
theorem dX10_init_4 : decode cX10_init 4 = .ok (.aload_n 0, 1) := by decide +kernel
theorem dX10_init_5 : decode cX10_init 5 = .ok (.new 9, 3) := by decide +kernel
theorem dX10_init_8 : decode cX10_init 8 = .ok (.dup, 1) := by decide +kernel
theorem dX10_init_9 : decode cX10_init 9 = .ok (.invokespecial 11, 3) := by decide +kernel
theorem dX10_init_12 : decode cX10_init 12 = .ok (.putfield 12, 3) := by decide +kernel
theorem dX10_init_15 : decode cX10_init 15 = .ok (.aload_n 0, 1) := by decide +kernel
theorem dX10_init_16 : decode cX10_init 16 = .ok (.new 18, 3) := by decide +kernel
theorem dX10_init_19 : decode cX10_init 19 = .ok (.dup, 1) := by decide +kernel
theorem dX10_init_20 : decode cX10_init 20 = .ok (.invokespecial 20, 3) := by decide +kernel
theorem dX10_init_23 : decode cX10_init 23 = .ok (.putfield 21, 3) := by decide +kernel
theorem dX10_init_26 : decode cX10_init 26 = .ok (.aload_n 0, 1) := by decide +kernel
theorem dX10_init_27 : decode cX10_init 27 = .ok (.new 25, 3) := by decide +kernel
theorem dX10_init_30 : decode cX10_init 30 = .ok (.dup, 1) := by decide +kernel
theorem dX10_init_31 : decode cX10_init 31 = .ok (.invokespecial 27, 3) := by decide +kernel
theorem dX10_init_34 : decode cX10_init 34 = .ok (.putfield 28, 3) := by decide +kernel
theorem dX10_init_37 : decode cX10_init 37 = .ok (.aload_n 0, 1) := by decide +kernel
theorem dX10_init_38 : decode cX10_init 38 = .ok (.new 32, 3) := by decide +kernel
theorem dX10_init_41 : decode cX10_init 41 = .ok (.dup, 1) := by decide +kernel
theorem dX10_init_42 : decode cX10_init 42 = .ok (.invokespecial 34, 3) := by decide +kernel
theorem dX10_init_45 : decode cX10_init 45 = .ok (.putfield 35, 3) := by decide +kernel
theorem dX10_init_48 : decode cX10_init 48 = .ok (.aload_n 0, 1) := by decide +kernel
theorem dX10_init_49 : decode cX10_init 49 = .ok (.iconst 4, 1) := by decide +kernel
theorem dX10_init_50 : decode cX10_init 50 = .ok (.anewarray 39, 3) := by decide +kernel
theorem dX10_init_53 : decode cX10_init 53 = .ok (.putfield 41, 3) := by decide +kernel
theorem dX10_init_56 : decode cX10_init 56 = .ok (.aload_n 0, 1) := by decide +kernel
theorem dX10_init_57 : decode cX10_init 57 = .ok (.sipush 140, 3) := by decide +kernel
theorem dX10_init_60 : decode cX10_init 60 = .ok (.newarray .byte, 2) := by decide +kernel
theorem dX10_init_62 : decode cX10_init 62 = .ok (.putfield 45, 3) := by decide +kernel
theorem dX10_init_65 : decode cX10_init 65 = .ok (.aload_n 0, 1) := by decide +kernel
theorem dX10_init_66 : decode cX10_init 66 = .ok (.bipush 9, 2) := by decide +kernel
theorem dX10_init_68 : decode cX10_init 68 = .ok (.anewarray 49, 3) := by decide +kernel
theorem dX10_init_71 : decode cX10_init 71 = .ok (.putfield 51, 3) := by decide +kernel
theorem dX10_init_74 : decode cX10_init 74 = .ok (.iconst 0, 1) := by decide +kernel
theorem dX10_init_75 : decode cX10_init 75 = .ok (.istore_n 1, 1) := by decide +kernel
theorem dX10_init_76 : decode cX10_init 76 = .ok (.iload_n 1, 1) := by decide +kernel
theorem dX10_init_77 : decode cX10_init 77 = .ok (.iconst 4, 1) := by decide +kernel
theorem dX10_init_78 : decode cX10_init 78 = .ok (.if_icmp .ge 22, 3) := by decide +kernel
theorem dX10_init_81 : decode cX10_init 81 = .ok (.aload_n 0, 1) := by decide +kernel
theorem dX10_init_82 : decode cX10_init 82 = .ok (.getfield 41, 3) := by decide +kernel
theorem dX10_init_85 : decode cX10_init 85 = .ok (.iload_n 1, 1) := by decide +kernel
theorem dX10_init_86 : decode cX10_init 86 = .ok (.new 39, 3) := by decide +kernel
theorem dX10_init_89 : decode cX10_init 89 = .ok (.dup, 1) := by decide +kernel
theorem dX10_init_90 : decode cX10_init 90 = .ok (.invokespecial 55, 3) := by decide +kernel
theorem dX10_init_93 : decode cX10_init 93 = .ok (.aastore, 1) := by decide +kernel
theorem dX10_init_94 : decode cX10_init 94 = .ok (.iinc 1 1, 3) := by decide +kernel
theorem dX10_init_97 : decode cX10_init 97 = .ok (.goto (-21), 3) := by decide +kernel
theorem dX10_init_100 : decode cX10_init 100 = .ok (.return_, 1) := by decide +kernel
theorem cm_X10_init : CMi yX10_init cX10_init 2 0 := ⟨w_119, w_120, w_88, rfl, ⟨by decide +kernel, by decide +kernel, by decide +kernel⟩⟩
noncomputable def f_X10_init_76b (n : Nat) (rec76 : Int → MM → RR) (v0 v1 : Int) (h : MM) : RR :=
  if 4 ≤ v1 then
    some (0, h)
  else
  gf h v0 10 4 fun r2 =>
  nw h 9 3 fun r3 h3 =>
  nz r3 <|
  bd (f_X9_init n r3 h3) fun r4 h4 =>
  gk h4 r3 9 <|
  wt h4 r2 106 v1 r3 fun h5 =>
  lb (wr (v1 + 1)) fun x6 =>
  rec76 x6 h5
noncomputable def f_X10_init_76 (n : Nat)  (v0 : Int) : Nat → Int → MM → RR
  | 0, _, _ => none
  | k + 1, v1, h => f_X10_init_76b n  (f_X10_init_76 n  v0 k) v0 v1 h
noncomputable def f_X10_init (n : Nat) (v0 : Int) (h : MM) : RR :=
  nz v0 <|
  nw h 1 6 fun r2 h2 =>
  nz r2 <|
  bd (f_X1_init n r2 h2) fun r3 h3 =>
  pf h3 v0 10 0 r2 fun h4 =>
  nw h4 5 10 fun r5 h5 =>
  nz r5 <|
  bd (f_X5_init n r5 h5) fun r6 h6 =>
  pf h6 v0 10 1 r5 fun h7 =>
  nw h7 8 9 fun r8 h8 =>
  nz r8 <|
  bd (f_X8_init n r8 h8) fun r9 h9 =>
  pf h9 v0 10 2 r8 fun h10 =>
  nw h10 6 5 fun r11 h11 =>
  nz r11 <|
  bd (f_X6_init n r11 h11) fun r12 h12 =>
  pf h12 v0 10 3 r11 fun h13 =>
  na h13 106 4 fun r14 h14 =>
  pf h14 v0 10 4 r14 fun h15 =>
  na h15 102 140 fun r16 h16 =>
  pf h16 v0 10 5 r16 fun h17 =>
  na h17 104 9 fun r18 h18 =>
  pf h18 v0 10 6 r18 fun h19 =>
  f_X10_init_76 n v0 n 0 h19
set_option maxRecDepth 20000 in
theorem b_X10_init_76b {g : GT} {Z : Int × MM} {n : Nat} (C : Cx g cX10_init 2 yX10_init 2 41) (hr : Rt g none 3 Z) {v0 v1 : Int}  {rec76 : Int → MM → RR} (L76 : ∀ (u1 : Int) (h : MM), in32 u1 → rec76 u1 h = some Z → G g 76 [(2, v0), (0, u1)] [] h) (cv1 : in32 v1) {h : MM} (hf : f_X10_init_76b n rec76 v0 v1 h = some Z) : G g 76 [(2, v0), (0, v1)] [] h := by
  unfold f_X10_init_76b at hf
  refine r_iload_n C dX10_init_76 rfl ?_
  refine r_iconst C dX10_init_77 ?_
  refine r_icmp_ge C dX10_init_78 (tgt := 100) (by decide) cv1 (in32_of rfl) (fun n1 => ?_) (fun n1 => ?_)
  · have hf := ite_p n1 hf
    cases hf
    exact r_vret C hr dX10_init_100
  · have hf := ite_n n1 hf
    refine r_aload_n C dX10_init_81 rfl ?_
    obtain ⟨q2, hf⟩ := gf_s hf
    refine r_gf C ct10 (j := 4) (ji := 4) dX10_init_82 q2 rfl rfl (by decide) w_307 rfl (fun c2 => ?_)
    refine r_iload_n C dX10_init_85 rfl ?_
    obtain ⟨q3, hf⟩ := nw_s hf
    refine r_new C ct9 cf9 (ti := 9) (ni := 3) dX10_init_86 q3 rfl rfl w_271 w_275 w_93 ?_
    refine r_dup C dX10_init_89 (by decide) ?_
    obtain ⟨p4, hf⟩ := nz_s hf
    obtain ⟨r4, h4, hq4, hf⟩ := bd_s hf
    refine r_cI0 C (am_X9_init (gl g) n) cm_X9_init w_276 dX10_init_90 ⟨Nat.le_of_ble_eq_true rfl, Nat.le_of_ble_eq_true rfl⟩ p4  rfl (Nat.le_of_ble_eq_true rfl) hq4 ?_
    obtain ⟨p5, hf⟩ := gk_s hf
    obtain ⟨q5, hf⟩ := wt_s hf
    refine r_aast C (tn := 106) (tc := 9) dX10_init_93 q5 rfl (by decide) (by decide) p5 rfl ⟨_, _, rfl⟩ (by decide) ?_
    obtain ⟨x6, e6, hf⟩ := lb_s hf
    have c6 : in32 x6 := by rw [e6]; exact (in32_t _)
    refine r_iincL C dX10_init_94 rfl e6 (Nat.le_of_ble_eq_true rfl) rfl ?_
    refine r_goto C dX10_init_97 (tgt := 76) (by decide) ?_
    exact G.mask [true, true] rfl rfl (L76 _ _ c6 hf)
set_option maxRecDepth 20000 in
theorem l_X10_init_76 {g : GT} {Z : Int × MM} {n : Nat} (C : Cx g cX10_init 2 yX10_init 2 41) (hr : Rt g none 3 Z) {v0 : Int}    : ∀ (k : Nat) (v1 : Int) (h : MM), in32 v1 → f_X10_init_76 n  v0 k v1 h = some Z → G g 76 [(2, v0), (0, v1)] [] h := by
  intro k
  induction k with
  | zero => intro v1 h cv1 hf; exact absurd hf (by intro z; cases z)
  | succ k ih => intro v1 h cv1 hf; exact b_X10_init_76b C hr (rec76 := f_X10_init_76 n  v0 k)  ih cv1 (show f_X10_init_76b n  (f_X10_init_76 n  v0 k) v0 v1 h = some Z from hf)
set_option maxRecDepth 20000 in
theorem e_X10_init {g : GT} {Z : Int × MM} {n : Nat} (C : Cx g cX10_init 2 yX10_init 2 41) (hr : Rt g none 3 Z) {v0 : Int} (cv0 : cK 2 v0) {h : MM} (hf : f_X10_init n v0 h = some Z) : G g 0 [(2, v0), (3, 0)] [] h := by
  unfold f_X10_init at hf
  refine r_aload_n C dX10_init_0 rfl ?_
  obtain ⟨q1, hf⟩ := nz_s hf
  refine r_obj C dX10_init_1 w_121 wo1 wo2 ⟨Nat.le_of_ble_eq_true rfl, Nat.le_of_ble_eq_true rfl⟩ q1 rfl ?_
  refine r_aload_n C dX10_init_4 rfl ?_
  obtain ⟨q2, hf⟩ := nw_s hf
  refine r_new C ct1 cf1 (ti := 1) (ni := 6) dX10_init_5 q2 rfl rfl w_122 w_123 w_89 ?_
  refine r_dup C dX10_init_8 (by decide) ?_
  obtain ⟨p3, hf⟩ := nz_s hf
  obtain ⟨r3, h3, hq3, hf⟩ := bd_s hf
  refine r_cI0 C (am_X1_init (gl g) n) cm_X1_init w_124 dX10_init_9 ⟨Nat.le_of_ble_eq_true rfl, Nat.le_of_ble_eq_true rfl⟩ p3  rfl (Nat.le_of_ble_eq_true rfl) hq3 ?_
  obtain ⟨q4, hf⟩ := pf_s hf
  refine r_pf C ct10 (j := 0) (ji := 0) dX10_init_12 q4 rfl rfl (by decide) w_298 rfl (Or.inr ⟨rfl, rfl, rfl⟩) nar_obj trivial ?_
  refine r_aload_n C dX10_init_15 rfl ?_
  obtain ⟨q5, hf⟩ := nw_s hf
  refine r_new C ct5 cf5 (ti := 5) (ni := 10) dX10_init_16 q5 rfl rfl w_157 w_158 w_90 ?_
  refine r_dup C dX10_init_19 (by decide) ?_
  obtain ⟨p6, hf⟩ := nz_s hf
  obtain ⟨r6, h6, hq6, hf⟩ := bd_s hf
  refine r_cI0 C (am_X5_init (gl g) n) cm_X5_init w_159 dX10_init_20 ⟨Nat.le_of_ble_eq_true rfl, Nat.le_of_ble_eq_true rfl⟩ p6  rfl (Nat.le_of_ble_eq_true rfl) hq6 ?_
  obtain ⟨q7, hf⟩ := pf_s hf
  refine r_pf C ct10 (j := 1) (ji := 1) dX10_init_23 q7 rfl rfl (by decide) w_301 rfl (Or.inr ⟨rfl, rfl, rfl⟩) nar_obj trivial ?_
  refine r_aload_n C dX10_init_26 rfl ?_
  obtain ⟨q8, hf⟩ := nw_s hf
  refine r_new C ct8 cf8 (ti := 8) (ni := 9) dX10_init_27 q8 rfl rfl w_208 w_209 w_91 ?_
  refine r_dup C dX10_init_30 (by decide) ?_
  obtain ⟨p9, hf⟩ := nz_s hf
  obtain ⟨r9, h9, hq9, hf⟩ := bd_s hf
  refine r_cI0 C (am_X8_init (gl g) n) cm_X8_init w_210 dX10_init_31 ⟨Nat.le_of_ble_eq_true rfl, Nat.le_of_ble_eq_true rfl⟩ p9  rfl (Nat.le_of_ble_eq_true rfl) hq9 ?_
  obtain ⟨q10, hf⟩ := pf_s hf
  refine r_pf C ct10 (j := 2) (ji := 2) dX10_init_34 q10 rfl rfl (by decide) w_303 rfl (Or.inr ⟨rfl, rfl, rfl⟩) nar_obj trivial ?_
  refine r_aload_n C dX10_init_37 rfl ?_
  obtain ⟨q11, hf⟩ := nw_s hf
  refine r_new C ct6 cf6 (ti := 6) (ni := 5) dX10_init_38 q11 rfl rfl w_247 w_248 w_92 ?_
  refine r_dup C dX10_init_41 (by decide) ?_
  obtain ⟨p12, hf⟩ := nz_s hf
  obtain ⟨r12, h12, hq12, hf⟩ := bd_s hf
  refine r_cI0 C (am_X6_init (gl g) n) cm_X6_init w_249 dX10_init_42 ⟨Nat.le_of_ble_eq_true rfl, Nat.le_of_ble_eq_true rfl⟩ p12  rfl (Nat.le_of_ble_eq_true rfl) hq12 ?_
  obtain ⟨q13, hf⟩ := pf_s hf
  refine r_pf C ct10 (j := 3) (ji := 3) dX10_init_45 q13 rfl rfl (by decide) w_305 rfl (Or.inr ⟨rfl, rfl, rfl⟩) nar_obj trivial ?_
  refine r_aload_n C dX10_init_48 rfl ?_
  refine r_iconst C dX10_init_49 ?_
  obtain ⟨q14, hf⟩ := na_s hf
  refine r_ana C (tn := 106) (t := 106) dX10_init_50 q14 rfl (by decide) (by decide) rfl w_271 ?_
  obtain ⟨q15, hf⟩ := pf_s hf
  refine r_pf C ct10 (j := 4) (ji := 4) dX10_init_53 q15 rfl rfl (by decide) w_307 rfl (Or.inr ⟨rfl, rfl, rfl⟩) nar_arr trivial ?_
  refine r_aload_n C dX10_init_56 rfl ?_
  refine r_sipush C dX10_init_57 rfl ?_
  obtain ⟨q16, hf⟩ := na_s hf
  refine r_na C (tn := 102) (t := 102) dX10_init_60 q16 rfl (by decide) (by decide) w_297 ?_
  obtain ⟨q17, hf⟩ := pf_s hf
  refine r_pf C ct10 (j := 5) (ji := 5) dX10_init_62 q17 rfl rfl (by decide) w_309 rfl (Or.inr ⟨rfl, rfl, rfl⟩) nar_arr trivial ?_
  refine r_aload_n C dX10_init_65 rfl ?_
  refine r_bipush C dX10_init_66 rfl ?_
  obtain ⟨q18, hf⟩ := na_s hf
  refine r_ana C (tn := 104) (t := 104) dX10_init_68 q18 rfl (by decide) (by decide) rfl w_273 ?_
  obtain ⟨q19, hf⟩ := pf_s hf
  refine r_pf C ct10 (j := 6) (ji := 6) dX10_init_71 q19 rfl rfl (by decide) w_311 rfl (Or.inr ⟨rfl, rfl, rfl⟩) nar_arr trivial ?_
  refine r_iconst C dX10_init_74 ?_
  refine r_istore_n C dX10_init_75 (Nat.le_of_ble_eq_true rfl) rfl ?_
  exact G.mask [true, true] rfl rfl (l_X10_init_76 C hr   _ _ _ (in32_of rfl) hf)
set_option maxRecDepth 20000 in
theorem am_X10_init (l : Launch) (n : Nat) : AM l yX10_init cX10_init 2 none 2 41 [2] 3 (un1 (f_X10_init n)) := by
  refine AM.intro (by decide) (fun xs hx => ?_) (fun g xs h Z hl C hr hx hf => ?_)
  · obtain ⟨a0, rfl, c0⟩ := canL_1 hx
    exact Nat.le_of_ble_eq_true rfl
  · obtain ⟨a0, rfl, c0⟩ := canL_1 hx
    have hf := (un1_e _ a0 _).symm.trans hf
    exact e_X10_init (n := n) C hr c0 hf
/-! LinesPromised$Roads.<init>()V -/
theorem dX7_init_0 : decode cX7_init 0 = .ok (.aload_n 0, 1) := by decide +kernel
theorem dX7_init_1 : decode cX7_init 1 = .ok (.invokespecial 3, 3) := by decide +kernel
theorem dX7_init_4 : decode cX7_init 4 = .ok (.aload_n 0, 1) := by decide +kernel
theorem dX7_init_5 : decode cX7_init 5 = .ok (.bipush 80, 2) := by decide +kernel
theorem dX7_init_7 : decode cX7_init 7 = .ok (.newarray .int, 2) := by decide +kernel
theorem dX7_init_9 : decode cX7_init 9 = .ok (.putfield 9, 3) := by decide +kernel
theorem dX7_init_12 : decode cX7_init 12 = .ok (.aload_n 0, 1) := by decide +kernel
theorem dX7_init_13 : decode cX7_init 13 = .ok (.bipush 80, 2) := by decide +kernel
theorem dX7_init_15 : decode cX7_init 15 = .ok (.newarray .int, 2) := by decide +kernel
theorem dX7_init_17 : decode cX7_init 17 = .ok (.putfield 15, 3) := by decide +kernel
theorem dX7_init_20 : decode cX7_init 20 = .ok (.aload_n 0, 1) := by decide +kernel
theorem dX7_init_21 : decode cX7_init 21 = .ok (.bipush 80, 2) := by decide +kernel
theorem dX7_init_23 : decode cX7_init 23 = .ok (.newarray .boolean, 2) := by decide +kernel
theorem dX7_init_25 : decode cX7_init 25 = .ok (.putfield 18, 3) := by decide +kernel
theorem dX7_init_28 : decode cX7_init 28 = .ok (.return_, 1) := by decide +kernel
theorem cm_X7_init : CMi yX7_init cX7_init 1 0 := ⟨w_348, w_349, w_94, rfl, ⟨by decide +kernel, by decide +kernel, by decide +kernel⟩⟩
noncomputable def f_X7_init (n : Nat) (v0 : Int) (h : MM) : RR :=
  nz v0 <|
  na h 100 80 fun r2 h2 =>
  pf h2 v0 7 0 r2 fun h3 =>
  na h3 100 80 fun r4 h4 =>
  pf h4 v0 7 3 r4 fun h5 =>
  na h5 103 80 fun r6 h6 =>
  pf h6 v0 7 4 r6 fun h7 =>
  some (0, h7)
set_option maxRecDepth 20000 in
theorem e_X7_init {g : GT} {Z : Int × MM} {n : Nat} (C : Cx g cX7_init 1 yX7_init 1 21) (hr : Rt g none 3 Z) {v0 : Int} (cv0 : cK 2 v0) {h : MM} (hf : f_X7_init n v0 h = some Z) : G g 0 [(2, v0)] [] h := by
  unfold f_X7_init at hf
  refine r_aload_n C dX7_init_0 rfl ?_
  obtain ⟨q1, hf⟩ := nz_s hf
  refine r_obj C dX7_init_1 w_350 wo1 wo2 ⟨Nat.le_of_ble_eq_true rfl, Nat.le_of_ble_eq_true rfl⟩ q1 rfl ?_
  refine r_aload_n C dX7_init_4 rfl ?_
  refine r_bipush C dX7_init_5 rfl ?_
  obtain ⟨q2, hf⟩ := na_s hf
  refine r_na C (tn := 100) (t := 100) dX7_init_7 q2 rfl (by decide) (by decide) w_156 ?_
  obtain ⟨q3, hf⟩ := pf_s hf
  refine r_pf C ct7 (j := 0) (ji := 0) dX7_init_9 q3 rfl rfl (by decide) w_351 rfl (Or.inr ⟨rfl, rfl, rfl⟩) nar_arr trivial ?_
  refine r_aload_n C dX7_init_12 rfl ?_
  refine r_bipush C dX7_init_13 rfl ?_
  obtain ⟨q4, hf⟩ := na_s hf
  refine r_na C (tn := 100) (t := 100) dX7_init_15 q4 rfl (by decide) (by decide) w_156 ?_
  obtain ⟨q5, hf⟩ := pf_s hf
  refine r_pf C ct7 (j := 3) (ji := 3) dX7_init_17 q5 rfl rfl (by decide) w_357 rfl (Or.inr ⟨rfl, rfl, rfl⟩) nar_arr trivial ?_
  refine r_aload_n C dX7_init_20 rfl ?_
  refine r_bipush C dX7_init_21 rfl ?_
  obtain ⟨q6, hf⟩ := na_s hf
  refine r_na C (tn := 103) (t := 103) dX7_init_23 q6 rfl (by decide) (by decide) w_382 ?_
  obtain ⟨q7, hf⟩ := pf_s hf
  refine r_pf C ct7 (j := 4) (ji := 4) dX7_init_25 q7 rfl rfl (by decide) w_358 rfl (Or.inr ⟨rfl, rfl, rfl⟩) nar_arr trivial ?_
  cases hf
  exact r_vret C hr dX7_init_28
set_option maxRecDepth 20000 in
theorem am_X7_init (l : Launch) (n : Nat) : AM l yX7_init cX7_init 1 none 1 21 [2] 3 (un1 (f_X7_init n)) := by
  refine AM.intro (by decide) (fun xs hx => ?_) (fun g xs h Z hl C hr hx hf => ?_)
  · obtain ⟨a0, rfl, c0⟩ := canL_1 hx
    exact Nat.le_of_ble_eq_true rfl
  · obtain ⟨a0, rfl, c0⟩ := canL_1 hx
    have hf := (un1_e _ a0 _).symm.trans hf
    exact e_X7_init (n := n) C hr c0 hf
/-! LinesPromised$Debts.<init>()V -/
theorem dX0_init_0 : decode cX0_init 0 = .ok (.aload_n 0, 1) := by decide +kernel
theorem dX0_init_1 : decode cX0_init 1 = .ok (.invokespecial 3, 3) := by decide +kernel
theorem dX0_init_4 : decode cX0_init 4 = .ok (.aload_n 0, 1) := by decide +kernel
theorem dX0_init_5 : decode cX0_init 5 = .ok (.bipush 96, 2) := by decide +kernel
theorem dX0_init_7 : decode cX0_init 7 = .ok (.newarray .int, 2) := by decide +kernel
theorem dX0_init_9 : decode cX0_init 9 = .ok (.putfield 9, 3) := by decide +kernel
theorem dX0_init_12 : decode cX0_init 12 = .ok (.aload_n 0, 1) := by decide +kernel
theorem dX0_init_13 : decode cX0_init 13 = .ok (.bipush 96, 2) := by decide +kernel
theorem dX0_init_15 : decode cX0_init 15 = .ok (.newarray .int, 2) := by decide +kernel
theorem dX0_init_17 : decode cX0_init 17 = .ok (.putfield 15, 3) := by decide +kernel
theorem dX0_init_20 : decode cX0_init 20 = .ok (.aload_n 0, 1) := by decide +kernel
theorem dX0_init_21 : decode cX0_init 21 = .ok (.bipush 96, 2) := by decide +kernel
theorem dX0_init_23 : decode cX0_init 23 = .ok (.newarray .int, 2) := by decide +kernel
theorem dX0_init_25 : decode cX0_init 25 = .ok (.putfield 18, 3) := by decide +kernel
theorem dX0_init_28 : decode cX0_init 28 = .ok (.aload_n 0, 1) := by decide +kernel
theorem dX0_init_29 : decode cX0_init 29 = .ok (.bipush 96, 2) := by decide +kernel
theorem dX0_init_31 : decode cX0_init 31 = .ok (.newarray .int, 2) := by decide +kernel
theorem dX0_init_33 : decode cX0_init 33 = .ok (.putfield 21, 3) := by decide +kernel
theorem dX0_init_36 : decode cX0_init 36 = .ok (.aload_n 0, 1) := by decide +kernel
theorem dX0_init_37 : decode cX0_init 37 = .ok (.bipush 20, 2) := by decide +kernel
theorem dX0_init_39 : decode cX0_init 39 = .ok (.newarray .int, 2) := by decide +kernel
theorem dX0_init_41 : decode cX0_init 41 = .ok (.putfield 24, 3) := by decide +kernel
theorem dX0_init_44 : decode cX0_init 44 = .ok (.aload_n 0, 1) := by decide +kernel
theorem dX0_init_45 : decode cX0_init 45 = .ok (.bipush 20, 2) := by decide +kernel
theorem dX0_init_47 : decode cX0_init 47 = .ok (.newarray .int, 2) := by decide +kernel
theorem dX0_init_49 : decode cX0_init 49 = .ok (.putfield 27, 3) := by decide +kernel
theorem dX0_init_52 : decode cX0_init 52 = .ok (.return_, 1) := by decide +kernel
theorem cm_X0_init : CMi yX0_init cX0_init 1 0 := ⟨w_386, w_387, w_95, rfl, ⟨by decide +kernel, by decide +kernel, by decide +kernel⟩⟩
noncomputable def f_X0_init (n : Nat) (v0 : Int) (h : MM) : RR :=
  nz v0 <|
  na h 100 96 fun r2 h2 =>
  pf h2 v0 0 0 r2 fun h3 =>
  na h3 100 96 fun r4 h4 =>
  pf h4 v0 0 1 r4 fun h5 =>
  na h5 100 96 fun r6 h6 =>
  pf h6 v0 0 2 r6 fun h7 =>
  na h7 100 96 fun r8 h8 =>
  pf h8 v0 0 3 r8 fun h9 =>
  na h9 100 20 fun r10 h10 =>
  pf h10 v0 0 4 r10 fun h11 =>
  na h11 100 20 fun r12 h12 =>
  pf h12 v0 0 5 r12 fun h13 =>
  some (0, h13)
set_option maxRecDepth 20000 in
theorem e_X0_init {g : GT} {Z : Int × MM} {n : Nat} (C : Cx g cX0_init 1 yX0_init 1 21) (hr : Rt g none 3 Z) {v0 : Int} (cv0 : cK 2 v0) {h : MM} (hf : f_X0_init n v0 h = some Z) : G g 0 [(2, v0)] [] h := by
  unfold f_X0_init at hf
  refine r_aload_n C dX0_init_0 rfl ?_
  obtain ⟨q1, hf⟩ := nz_s hf
  refine r_obj C dX0_init_1 w_388 wo1 wo2 ⟨Nat.le_of_ble_eq_true rfl, Nat.le_of_ble_eq_true rfl⟩ q1 rfl ?_
  refine r_aload_n C dX0_init_4 rfl ?_
  refine r_bipush C dX0_init_5 rfl ?_
  obtain ⟨q2, hf⟩ := na_s hf
  refine r_na C (tn := 100) (t := 100) dX0_init_7 q2 rfl (by decide) (by decide) w_156 ?_
  obtain ⟨q3, hf⟩ := pf_s hf
  refine r_pf C ct0 (j := 0) (ji := 0) dX0_init_9 q3 rfl rfl (by decide) w_389 rfl (Or.inr ⟨rfl, rfl, rfl⟩) nar_arr trivial ?_
  refine r_aload_n C dX0_init_12 rfl ?_
  refine r_bipush C dX0_init_13 rfl ?_
  obtain ⟨q4, hf⟩ := na_s hf
  refine r_na C (tn := 100) (t := 100) dX0_init_15 q4 rfl (by decide) (by decide) w_156 ?_
  obtain ⟨q5, hf⟩ := pf_s hf
  refine r_pf C ct0 (j := 1) (ji := 1) dX0_init_17 q5 rfl rfl (by decide) w_390 rfl (Or.inr ⟨rfl, rfl, rfl⟩) nar_arr trivial ?_
  refine r_aload_n C dX0_init_20 rfl ?_
  refine r_bipush C dX0_init_21 rfl ?_
  obtain ⟨q6, hf⟩ := na_s hf
  refine r_na C (tn := 100) (t := 100) dX0_init_23 q6 rfl (by decide) (by decide) w_156 ?_
  obtain ⟨q7, hf⟩ := pf_s hf
  refine r_pf C ct0 (j := 2) (ji := 2) dX0_init_25 q7 rfl rfl (by decide) w_391 rfl (Or.inr ⟨rfl, rfl, rfl⟩) nar_arr trivial ?_
  refine r_aload_n C dX0_init_28 rfl ?_
  refine r_bipush C dX0_init_29 rfl ?_
  obtain ⟨q8, hf⟩ := na_s hf
  refine r_na C (tn := 100) (t := 100) dX0_init_31 q8 rfl (by decide) (by decide) w_156 ?_
  obtain ⟨q9, hf⟩ := pf_s hf
  refine r_pf C ct0 (j := 3) (ji := 3) dX0_init_33 q9 rfl rfl (by decide) w_392 rfl (Or.inr ⟨rfl, rfl, rfl⟩) nar_arr trivial ?_
  refine r_aload_n C dX0_init_36 rfl ?_
  refine r_bipush C dX0_init_37 rfl ?_
  obtain ⟨q10, hf⟩ := na_s hf
  refine r_na C (tn := 100) (t := 100) dX0_init_39 q10 rfl (by decide) (by decide) w_156 ?_
  obtain ⟨q11, hf⟩ := pf_s hf
  refine r_pf C ct0 (j := 4) (ji := 4) dX0_init_41 q11 rfl rfl (by decide) w_393 rfl (Or.inr ⟨rfl, rfl, rfl⟩) nar_arr trivial ?_
  refine r_aload_n C dX0_init_44 rfl ?_
  refine r_bipush C dX0_init_45 rfl ?_
  obtain ⟨q12, hf⟩ := na_s hf
  refine r_na C (tn := 100) (t := 100) dX0_init_47 q12 rfl (by decide) (by decide) w_156 ?_
  obtain ⟨q13, hf⟩ := pf_s hf
  refine r_pf C ct0 (j := 5) (ji := 5) dX0_init_49 q13 rfl rfl (by decide) w_394 rfl (Or.inr ⟨rfl, rfl, rfl⟩) nar_arr trivial ?_
  cases hf
  exact r_vret C hr dX0_init_52
set_option maxRecDepth 20000 in
theorem am_X0_init (l : Launch) (n : Nat) : AM l yX0_init cX0_init 1 none 1 21 [2] 3 (un1 (f_X0_init n)) := by
  refine AM.intro (by decide) (fun xs hx => ?_) (fun g xs h Z hl C hr hx hf => ?_)
  · obtain ⟨a0, rfl, c0⟩ := canL_1 hx
    exact Nat.le_of_ble_eq_true rfl
  · obtain ⟨a0, rfl, c0⟩ := canL_1 hx
    have hf := (un1_e _ a0 _).symm.trans hf
    exact e_X0_init (n := n) C hr c0 hf
/-! LinesPromised$Lines.<init>()V -/
theorem dX2_init_0 : decode cX2_init 0 = .ok (.aload_n 0, 1) := by decide +kernel
theorem dX2_init_1 : decode cX2_init 1 = .ok (.invokespecial 3, 3) := by decide +kernel
theorem dX2_init_4 : decode cX2_init 4 = .ok (.aload_n 0, 1) := by decide +kernel
theorem dX2_init_5 : decode cX2_init 5 = .ok (.bipush 10, 2) := by decide +kernel
theorem dX2_init_7 : decode cX2_init 7 = .ok (.newarray .int, 2) := by decide +kernel
theorem dX2_init_9 : decode cX2_init 9 = .ok (.putfield 9, 3) := by decide +kernel
theorem dX2_init_12 : decode cX2_init 12 = .ok (.aload_n 0, 1) := by decide +kernel
theorem dX2_init_13 : decode cX2_init 13 = .ok (.bipush 10, 2) := by decide +kernel
theorem dX2_init_15 : decode cX2_init 15 = .ok (.newarray .int, 2) := by decide +kernel
theorem dX2_init_17 : decode cX2_init 17 = .ok (.putfield 15, 3) := by decide +kernel
theorem dX2_init_20 : decode cX2_init 20 = .ok (.aload_n 0, 1) := by decide +kernel
theorem dX2_init_21 : decode cX2_init 21 = .ok (.bipush 10, 2) := by decide +kernel
theorem dX2_init_23 : decode cX2_init 23 = .ok (.newarray .int, 2) := by decide +kernel
theorem dX2_init_25 : decode cX2_init 25 = .ok (.putfield 18, 3) := by decide +kernel
theorem dX2_init_28 : decode cX2_init 28 = .ok (.aload_n 0, 1) := by decide +kernel
theorem dX2_init_29 : decode cX2_init 29 = .ok (.bipush 10, 2) := by decide +kernel
theorem dX2_init_31 : decode cX2_init 31 = .ok (.newarray .int, 2) := by decide +kernel
theorem dX2_init_33 : decode cX2_init 33 = .ok (.putfield 21, 3) := by decide +kernel
theorem dX2_init_36 : decode cX2_init 36 = .ok (.aload_n 0, 1) := by decide +kernel
theorem dX2_init_37 : decode cX2_init 37 = .ok (.bipush 10, 2) := by decide +kernel
theorem dX2_init_39 : decode cX2_init 39 = .ok (.newarray .int, 2) := by decide +kernel
theorem dX2_init_41 : decode cX2_init 41 = .ok (.putfield 24, 3) := by decide +kernel
theorem dX2_init_44 : decode cX2_init 44 = .ok (.return_, 1) := by decide +kernel
theorem cm_X2_init : CMi yX2_init cX2_init 1 0 := ⟨w_414, w_415, w_96, rfl, ⟨by decide +kernel, by decide +kernel, by decide +kernel⟩⟩
noncomputable def f_X2_init (n : Nat) (v0 : Int) (h : MM) : RR :=
  nz v0 <|
  na h 100 10 fun r2 h2 =>
  pf h2 v0 2 0 r2 fun h3 =>
  na h3 100 10 fun r4 h4 =>
  pf h4 v0 2 1 r4 fun h5 =>
  na h5 100 10 fun r6 h6 =>
  pf h6 v0 2 2 r6 fun h7 =>
  na h7 100 10 fun r8 h8 =>
  pf h8 v0 2 3 r8 fun h9 =>
  na h9 100 10 fun r10 h10 =>
  pf h10 v0 2 4 r10 fun h11 =>
  some (0, h11)
set_option maxRecDepth 20000 in
theorem e_X2_init {g : GT} {Z : Int × MM} {n : Nat} (C : Cx g cX2_init 1 yX2_init 1 21) (hr : Rt g none 3 Z) {v0 : Int} (cv0 : cK 2 v0) {h : MM} (hf : f_X2_init n v0 h = some Z) : G g 0 [(2, v0)] [] h := by
  unfold f_X2_init at hf
  refine r_aload_n C dX2_init_0 rfl ?_
  obtain ⟨q1, hf⟩ := nz_s hf
  refine r_obj C dX2_init_1 w_416 wo1 wo2 ⟨Nat.le_of_ble_eq_true rfl, Nat.le_of_ble_eq_true rfl⟩ q1 rfl ?_
  refine r_aload_n C dX2_init_4 rfl ?_
  refine r_bipush C dX2_init_5 rfl ?_
  obtain ⟨q2, hf⟩ := na_s hf
  refine r_na C (tn := 100) (t := 100) dX2_init_7 q2 rfl (by decide) (by decide) w_156 ?_
  obtain ⟨q3, hf⟩ := pf_s hf
  refine r_pf C ct2 (j := 0) (ji := 0) dX2_init_9 q3 rfl rfl (by decide) w_417 rfl (Or.inr ⟨rfl, rfl, rfl⟩) nar_arr trivial ?_
  refine r_aload_n C dX2_init_12 rfl ?_
  refine r_bipush C dX2_init_13 rfl ?_
  obtain ⟨q4, hf⟩ := na_s hf
  refine r_na C (tn := 100) (t := 100) dX2_init_15 q4 rfl (by decide) (by decide) w_156 ?_
  obtain ⟨q5, hf⟩ := pf_s hf
  refine r_pf C ct2 (j := 1) (ji := 1) dX2_init_17 q5 rfl rfl (by decide) w_418 rfl (Or.inr ⟨rfl, rfl, rfl⟩) nar_arr trivial ?_
  refine r_aload_n C dX2_init_20 rfl ?_
  refine r_bipush C dX2_init_21 rfl ?_
  obtain ⟨q6, hf⟩ := na_s hf
  refine r_na C (tn := 100) (t := 100) dX2_init_23 q6 rfl (by decide) (by decide) w_156 ?_
  obtain ⟨q7, hf⟩ := pf_s hf
  refine r_pf C ct2 (j := 2) (ji := 2) dX2_init_25 q7 rfl rfl (by decide) w_419 rfl (Or.inr ⟨rfl, rfl, rfl⟩) nar_arr trivial ?_
  refine r_aload_n C dX2_init_28 rfl ?_
  refine r_bipush C dX2_init_29 rfl ?_
  obtain ⟨q8, hf⟩ := na_s hf
  refine r_na C (tn := 100) (t := 100) dX2_init_31 q8 rfl (by decide) (by decide) w_156 ?_
  obtain ⟨q9, hf⟩ := pf_s hf
  refine r_pf C ct2 (j := 3) (ji := 3) dX2_init_33 q9 rfl rfl (by decide) w_420 rfl (Or.inr ⟨rfl, rfl, rfl⟩) nar_arr trivial ?_
  refine r_aload_n C dX2_init_36 rfl ?_
  refine r_bipush C dX2_init_37 rfl ?_
  obtain ⟨q10, hf⟩ := na_s hf
  refine r_na C (tn := 100) (t := 100) dX2_init_39 q10 rfl (by decide) (by decide) w_156 ?_
  obtain ⟨q11, hf⟩ := pf_s hf
  refine r_pf C ct2 (j := 4) (ji := 4) dX2_init_41 q11 rfl rfl (by decide) w_421 rfl (Or.inr ⟨rfl, rfl, rfl⟩) nar_arr trivial ?_
  cases hf
  exact r_vret C hr dX2_init_44
set_option maxRecDepth 20000 in
theorem am_X2_init (l : Launch) (n : Nat) : AM l yX2_init cX2_init 1 none 1 21 [2] 3 (un1 (f_X2_init n)) := by
  refine AM.intro (by decide) (fun xs hx => ?_) (fun g xs h Z hl C hr hx hf => ?_)
  · obtain ⟨a0, rfl, c0⟩ := canL_1 hx
    exact Nat.le_of_ble_eq_true rfl
  · obtain ⟨a0, rfl, c0⟩ := canL_1 hx
    have hf := (un1_e _ a0 _).symm.trans hf
    exact e_X2_init (n := n) C hr c0 hf
/-! LinesPromised.<init>()V -/
theorem dX11_init_0 : decode cX11_init 0 = .ok (.aload_n 0, 1) := by decide +kernel
theorem dX11_init_1 : decode cX11_init 1 = .ok (.invokespecial 1, 3) := by decide +kernel
theorem dX11_init_4 : decode cX11_init 4 = .ok (.aload_n 0, 1) := by decide +kernel
theorem dX11_init_5 : decode cX11_init 5 = .ok (.new 7, 3) := by decide +kernel
theorem dX11_init_8 : decode cX11_init 8 = .ok (.dup, 1) := by decide +kernel
theorem dX11_init_9 : decode cX11_init 9 = .ok (.invokespecial 9, 3) := by decide +kernel
theorem dX11_init_12 : decode cX11_init 12 = .ok (.putfield 10, 3) := by decide +kernel
theorem dX11_init_15 : decode cX11_init 15 = .ok (.aload_n 0, 1) := by decide +kernel
theorem dX11_init_16 : decode cX11_init 16 = .ok (.new 7, 3) := by decide +kernel
theorem dX11_init_19 : decode cX11_init 19 = .ok (.dup, 1) := by decide +kernel
theorem dX11_init_20 : decode cX11_init 20 = .ok (.invokespecial 9, 3) := by decide +kernel
theorem dX11_init_23 : decode cX11_init 23 = .ok (.putfield 16, 3) := by decide +kernel
theorem dX11_init_26 : decode cX11_init 26 = .ok (.aload_n 0, 1) := by decide +kernel
theorem dX11_init_27 : decode cX11_init 27 = .ok (.sipush 1000, 3) := by decide +kernel
theorem dX11_init_30 : decode cX11_init 30 = .ok (.anewarray 19, 3) := by decide +kernel
theorem dX11_init_33 : decode cX11_init 33 = .ok (.putfield 21, 3) := by decide +kernel
theorem dX11_init_36 : decode cX11_init 36 = .ok (.aload_n 0, 1) := by decide +kernel
theorem dX11_init_37 : decode cX11_init 37 = .ok (.new 25, 3) := by decide +kernel
theorem dX11_init_40 : decode cX11_init 40 = .ok (.dup, 1) := by decide +kernel
theorem dX11_init_41 : decode cX11_init 41 = .ok (.invokespecial 27, 3) := by decide +kernel
theorem dX11_init_44 : decode cX11_init 44 = .ok (.putfield 28, 3) := by decide +kernel
theorem dX11_init_47 : decode cX11_init 47 = .ok (.aload_n 0, 1) := by decide +kernel
theorem dX11_init_48 : decode cX11_init 48 = .ok (.new 32, 3) := by decide +kernel
theorem dX11_init_51 : decode cX11_init 51 = .ok (.dup, 1) := by decide +kernel
theorem dX11_init_52 : decode cX11_init 52 = .ok (.invokespecial 34, 3) := by decide +kernel
theorem dX11_init_55 : decode cX11_init 55 = .ok (.putfield 35, 3) := by decide +kernel
theorem dX11_init_58 : decode cX11_init 58 = .ok (.aload_n 0, 1) := by decide +kernel
theorem dX11_init_59 : decode cX11_init 59 = .ok (.new 39, 3) := by decide +kernel
theorem dX11_init_62 : decode cX11_init 62 = .ok (.dup, 1) := by decide +kernel
theorem dX11_init_63 : decode cX11_init 63 = .ok (.invokespecial 41, 3) := by decide +kernel
theorem dX11_init_66 : decode cX11_init 66 = .ok (.putfield 42, 3) := by decide +kernel
theorem dX11_init_69 : decode cX11_init 69 = .ok (.return_, 1) := by decide +kernel
theorem cm_X11_init : CMi yX11_init cX11_init 1 0 := ⟨w_111, w_112, w_87, rfl, ⟨by decide +kernel, by decide +kernel, by decide +kernel⟩⟩
noncomputable def f_X11_init (n : Nat) (v0 : Int) (h : MM) : RR :=
  nz v0 <|
  nw h 10 11 fun r2 h2 =>
  nz r2 <|
  bd (f_X10_init n r2 h2) fun r3 h3 =>
  pf h3 v0 11 0 r2 fun h4 =>
  nw h4 10 11 fun r5 h5 =>
  nz r5 <|
  bd (f_X10_init n r5 h5) fun r6 h6 =>
  pf h6 v0 11 1 r5 fun h7 =>
  na h7 107 1000 fun r8 h8 =>
  pf h8 v0 11 3 r8 fun h9 =>
  nw h9 7 9 fun r10 h10 =>
  nz r10 <|
  bd (f_X7_init n r10 h10) fun r11 h11 =>
  pf h11 v0 11 4 r10 fun h12 =>
  nw h12 0 7 fun r13 h13 =>
  nz r13 <|
  bd (f_X0_init n r13 h13) fun r14 h14 =>
  pf h14 v0 11 5 r13 fun h15 =>
  nw h15 2 7 fun r16 h16 =>
  nz r16 <|
  bd (f_X2_init n r16 h16) fun r17 h17 =>
  pf h17 v0 11 6 r16 fun h18 =>
  some (0, h18)
set_option maxRecDepth 20000 in
theorem e_X11_init {g : GT} {Z : Int × MM} {n : Nat} (C : Cx g cX11_init 1 yX11_init 3 62) (hr : Rt g none 3 Z) {v0 : Int} (cv0 : cK 2 v0) {h : MM} (hf : f_X11_init n v0 h = some Z) : G g 0 [(2, v0)] [] h := by
  unfold f_X11_init at hf
  refine r_aload_n C dX11_init_0 rfl ?_
  obtain ⟨q1, hf⟩ := nz_s hf
  refine r_obj C dX11_init_1 w_113 wo1 wo2 ⟨Nat.le_of_ble_eq_true rfl, Nat.le_of_ble_eq_true rfl⟩ q1 rfl ?_
  refine r_aload_n C dX11_init_4 rfl ?_
  obtain ⟨q2, hf⟩ := nw_s hf
  refine r_new C ct10 cf10 (ti := 10) (ni := 11) dX11_init_5 q2 rfl rfl w_116 w_117 w_88 ?_
  refine r_dup C dX11_init_8 (by decide) ?_
  obtain ⟨p3, hf⟩ := nz_s hf
  obtain ⟨r3, h3, hq3, hf⟩ := bd_s hf
  refine r_cI0 C (am_X10_init (gl g) n) cm_X10_init w_118 dX11_init_9 ⟨Nat.le_of_ble_eq_true rfl, Nat.le_of_ble_eq_true rfl⟩ p3  rfl (Nat.le_of_ble_eq_true rfl) hq3 ?_
  obtain ⟨q4, hf⟩ := pf_s hf
  refine r_pf C ct11 (j := 0) (ji := 0) dX11_init_12 q4 rfl rfl (by decide) w_440 rfl (Or.inr ⟨rfl, rfl, rfl⟩) nar_obj trivial ?_
  refine r_aload_n C dX11_init_15 rfl ?_
  obtain ⟨q5, hf⟩ := nw_s hf
  refine r_new C ct10 cf10 (ti := 10) (ni := 11) dX11_init_16 q5 rfl rfl w_116 w_117 w_88 ?_
  refine r_dup C dX11_init_19 (by decide) ?_
  obtain ⟨p6, hf⟩ := nz_s hf
  obtain ⟨r6, h6, hq6, hf⟩ := bd_s hf
  refine r_cI0 C (am_X10_init (gl g) n) cm_X10_init w_118 dX11_init_20 ⟨Nat.le_of_ble_eq_true rfl, Nat.le_of_ble_eq_true rfl⟩ p6  rfl (Nat.le_of_ble_eq_true rfl) hq6 ?_
  obtain ⟨q7, hf⟩ := pf_s hf
  refine r_pf C ct11 (j := 1) (ji := 1) dX11_init_23 q7 rfl rfl (by decide) w_441 rfl (Or.inr ⟨rfl, rfl, rfl⟩) nar_obj trivial ?_
  refine r_aload_n C dX11_init_26 rfl ?_
  refine r_sipush C dX11_init_27 rfl ?_
  obtain ⟨q8, hf⟩ := na_s hf
  refine r_anaI C (t := 107) dX11_init_30 q8 rfl w_343 ?_
  obtain ⟨q9, hf⟩ := pf_s hf
  refine r_pf C ct11 (j := 3) (ji := 3) dX11_init_33 q9 rfl rfl (by decide) w_443 rfl (Or.inr ⟨rfl, rfl, rfl⟩) nar_arr trivial ?_
  refine r_aload_n C dX11_init_36 rfl ?_
  obtain ⟨q10, hf⟩ := nw_s hf
  refine r_new C ct7 cf7 (ti := 7) (ni := 9) dX11_init_37 q10 rfl rfl w_345 w_346 w_94 ?_
  refine r_dup C dX11_init_40 (by decide) ?_
  obtain ⟨p11, hf⟩ := nz_s hf
  obtain ⟨r11, h11, hq11, hf⟩ := bd_s hf
  refine r_cI0 C (am_X7_init (gl g) n) cm_X7_init w_347 dX11_init_41 ⟨Nat.le_of_ble_eq_true rfl, Nat.le_of_ble_eq_true rfl⟩ p11  rfl (Nat.le_of_ble_eq_true rfl) hq11 ?_
  obtain ⟨q12, hf⟩ := pf_s hf
  refine r_pf C ct11 (j := 4) (ji := 4) dX11_init_44 q12 rfl rfl (by decide) w_444 rfl (Or.inr ⟨rfl, rfl, rfl⟩) nar_obj trivial ?_
  refine r_aload_n C dX11_init_47 rfl ?_
  obtain ⟨q13, hf⟩ := nw_s hf
  refine r_new C ct0 cf0 (ti := 0) (ni := 7) dX11_init_48 q13 rfl rfl w_383 w_384 w_95 ?_
  refine r_dup C dX11_init_51 (by decide) ?_
  obtain ⟨p14, hf⟩ := nz_s hf
  obtain ⟨r14, h14, hq14, hf⟩ := bd_s hf
  refine r_cI0 C (am_X0_init (gl g) n) cm_X0_init w_385 dX11_init_52 ⟨Nat.le_of_ble_eq_true rfl, Nat.le_of_ble_eq_true rfl⟩ p14  rfl (Nat.le_of_ble_eq_true rfl) hq14 ?_
  obtain ⟨q15, hf⟩ := pf_s hf
  refine r_pf C ct11 (j := 5) (ji := 5) dX11_init_55 q15 rfl rfl (by decide) w_445 rfl (Or.inr ⟨rfl, rfl, rfl⟩) nar_obj trivial ?_
  refine r_aload_n C dX11_init_58 rfl ?_
  obtain ⟨q16, hf⟩ := nw_s hf
  refine r_new C ct2 cf2 (ti := 2) (ni := 7) dX11_init_59 q16 rfl rfl w_411 w_412 w_96 ?_
  refine r_dup C dX11_init_62 (by decide) ?_
  obtain ⟨p17, hf⟩ := nz_s hf
  obtain ⟨r17, h17, hq17, hf⟩ := bd_s hf
  refine r_cI0 C (am_X2_init (gl g) n) cm_X2_init w_413 dX11_init_63 ⟨Nat.le_of_ble_eq_true rfl, Nat.le_of_ble_eq_true rfl⟩ p17  rfl (Nat.le_of_ble_eq_true rfl) hq17 ?_
  obtain ⟨q18, hf⟩ := pf_s hf
  refine r_pf C ct11 (j := 6) (ji := 6) dX11_init_66 q18 rfl rfl (by decide) w_446 rfl (Or.inr ⟨rfl, rfl, rfl⟩) nar_obj trivial ?_
  cases hf
  exact r_vret C hr dX11_init_69
set_option maxRecDepth 20000 in
theorem am_X11_init (l : Launch) (n : Nat) : AM l yX11_init cX11_init 1 none 3 62 [2] 3 (un1 (f_X11_init n)) := by
  refine AM.intro (by decide) (fun xs hx => ?_) (fun g xs h Z hl C hr hx hf => ?_)
  · obtain ⟨a0, rfl, c0⟩ := canL_1 hx
    exact Nat.le_of_ble_eq_true rfl
  · obtain ⟨a0, rfl, c0⟩ := canL_1 hx
    have hf := (un1_e _ a0 _).symm.trans hf
    exact e_X11_init (n := n) C hr c0 hf
/-! LinesPromisedModel.<init>()V -/
theorem dX12_init_0 : decode cX12_init 0 = .ok (.aload_n 0, 1) := by decide +kernel
theorem dX12_init_1 : decode cX12_init 1 = .ok (.invokespecial 1, 3) := by decide +kernel
theorem dX12_init_4 : decode cX12_init 4 = .ok (.aload_n 0, 1) := by decide +kernel
theorem dX12_init_5 : decode cX12_init 5 = .ok (.ldc 7, 2) := by decide +kernel
theorem dX12_init_7 : decode cX12_init 7 = .ok (.newarray .int, 2) := by decide +kernel
theorem dX12_init_9 : decode cX12_init 9 = .ok (.putfield 8, 3) := by decide +kernel
theorem dX12_init_12 : decode cX12_init 12 = .ok (.aload_n 0, 1) := by decide +kernel
theorem dX12_init_13 : decode cX12_init 13 = .ok (.ldc 7, 2) := by decide +kernel
theorem dX12_init_15 : decode cX12_init 15 = .ok (.newarray .int, 2) := by decide +kernel
theorem dX12_init_17 : decode cX12_init 17 = .ok (.putfield 14, 3) := by decide +kernel
theorem dX12_init_20 : decode cX12_init 20 = .ok (.aload_n 0, 1) := by decide +kernel
theorem dX12_init_21 : decode cX12_init 21 = .ok (.bipush 6, 2) := by decide +kernel
theorem dX12_init_23 : decode cX12_init 23 = .ok (.newarray .int, 2) := by decide +kernel
theorem dX12_init_25 : decode cX12_init 25 = .ok (.putfield 17, 3) := by decide +kernel
theorem dX12_init_28 : decode cX12_init 28 = .ok (.aload_n 0, 1) := by decide +kernel
theorem dX12_init_29 : decode cX12_init 29 = .ok (.bipush 80, 2) := by decide +kernel
theorem dX12_init_31 : decode cX12_init 31 = .ok (.newarray .int, 2) := by decide +kernel
theorem dX12_init_33 : decode cX12_init 33 = .ok (.putfield 20, 3) := by decide +kernel
theorem dX12_init_36 : decode cX12_init 36 = .ok (.aload_n 0, 1) := by decide +kernel
theorem dX12_init_37 : decode cX12_init 37 = .ok (.bipush 80, 2) := by decide +kernel
theorem dX12_init_39 : decode cX12_init 39 = .ok (.newarray .int, 2) := by decide +kernel
theorem dX12_init_41 : decode cX12_init 41 = .ok (.putfield 23, 3) := by decide +kernel
theorem dX12_init_44 : decode cX12_init 44 = .ok (.aload_n 0, 1) := by decide +kernel
theorem dX12_init_45 : decode cX12_init 45 = .ok (.bipush 7, 2) := by decide +kernel
theorem dX12_init_47 : decode cX12_init 47 = .ok (.newarray .int, 2) := by decide +kernel
theorem dX12_init_49 : decode cX12_init 49 = .ok (.putfield 26, 3) := by decide +kernel
theorem dX12_init_52 : decode cX12_init 52 = .ok (.aload_n 0, 1) := by decide +kernel
theorem dX12_init_53 : decode cX12_init 53 = .ok (.bipush 7, 2) := by decide +kernel
theorem dX12_init_55 : decode cX12_init 55 = .ok (.newarray .int, 2) := by decide +kernel
theorem dX12_init_57 : decode cX12_init 57 = .ok (.putfield 29, 3) := by decide +kernel
theorem dX12_init_60 : decode cX12_init 60 = .ok (.aload_n 0, 1) := by decide +kernel
theorem dX12_init_61 : decode cX12_init 61 = .ok (.sipush 400, 3) := by decide +kernel
theorem dX12_init_64 : decode cX12_init 64 = .ok (.newarray .long, 2) := by decide +kernel
theorem dX12_init_66 : decode cX12_init 66 = .ok (.putfield 32, 3) := by decide +kernel
theorem dX12_init_69 : decode cX12_init 69 = .ok (.aload_n 0, 1) := by decide +kernel
theorem dX12_init_70 : decode cX12_init 70 = .ok (.sipush 400, 3) := by decide +kernel
theorem dX12_init_73 : decode cX12_init 73 = .ok (.newarray .long, 2) := by decide +kernel
theorem dX12_init_75 : decode cX12_init 75 = .ok (.putfield 36, 3) := by decide +kernel
theorem dX12_init_78 : decode cX12_init 78 = .ok (.aload_n 0, 1) := by decide +kernel
theorem dX12_init_79 : decode cX12_init 79 = .ok (.sipush 400, 3) := by decide +kernel
theorem dX12_init_82 : decode cX12_init 82 = .ok (.newarray .long, 2) := by decide +kernel
theorem dX12_init_84 : decode cX12_init 84 = .ok (.putfield 39, 3) := by decide +kernel
theorem dX12_init_87 : decode cX12_init 87 = .ok (.aload_n 0, 1) := by decide +kernel
theorem dX12_init_88 : decode cX12_init 88 = .ok (.bipush 20, 2) := by decide +kernel
theorem dX12_init_90 : decode cX12_init 90 = .ok (.newarray .long, 2) := by decide +kernel
theorem dX12_init_92 : decode cX12_init 92 = .ok (.putfield 42, 3) := by decide +kernel
theorem dX12_init_95 : decode cX12_init 95 = .ok (.aload_n 0, 1) := by decide +kernel
theorem dX12_init_96 : decode cX12_init 96 = .ok (.bipush 20, 2) := by decide +kernel
theorem dX12_init_98 : decode cX12_init 98 = .ok (.newarray .long, 2) := by decide +kernel
theorem dX12_init_100 : decode cX12_init 100 = .ok (.putfield 45, 3) := by decide +kernel
theorem dX12_init_103 : decode cX12_init 103 = .ok (.aload_n 0, 1) := by decide +kernel
theorem dX12_init_104 : decode cX12_init 104 = .ok (.bipush 60, 2) := by decide +kernel
theorem dX12_init_106 : decode cX12_init 106 = .ok (.newarray .int, 2) := by decide +kernel
theorem dX12_init_108 : decode cX12_init 108 = .ok (.putfield 48, 3) := by decide +kernel
theorem dX12_init_111 : decode cX12_init 111 = .ok (.aload_n 0, 1) := by decide +kernel
theorem dX12_init_112 : decode cX12_init 112 = .ok (.bipush 40, 2) := by decide +kernel
theorem dX12_init_114 : decode cX12_init 114 = .ok (.newarray .int, 2) := by decide +kernel
theorem dX12_init_116 : decode cX12_init 116 = .ok (.putfield 51, 3) := by decide +kernel
theorem dX12_init_119 : decode cX12_init 119 = .ok (.iconst 0, 1) := by decide +kernel
theorem dX12_init_120 : decode cX12_init 120 = .ok (.istore_n 1, 1) := by decide +kernel
theorem dX12_init_121 : decode cX12_init 121 = .ok (.iload_n 1, 1) := by decide +kernel
theorem dX12_init_122 : decode cX12_init 122 = .ok (.iconst 4, 1) := by decide +kernel
theorem dX12_init_123 : decode cX12_init 123 = .ok (.if_icmp .ge 20, 3) := by decide +kernel
theorem dX12_init_126 : decode cX12_init 126 = .ok (.aload_n 0, 1) := by decide +kernel
theorem dX12_init_127 : decode cX12_init 127 = .ok (.getfield 8, 3) := by decide +kernel
theorem dX12_init_130 : decode cX12_init 130 = .ok (.sipush 200, 3) := by decide +kernel
theorem dX12_init_133 : decode cX12_init 133 = .ok (.iload_n 1, 1) := by decide +kernel
theorem dX12_init_134 : decode cX12_init 134 = .ok (.iadd, 1) := by decide +kernel
theorem dX12_init_135 : decode cX12_init 135 = .ok (.iconst (-1), 1) := by decide +kernel
theorem dX12_init_136 : decode cX12_init 136 = .ok (.iastore, 1) := by decide +kernel
theorem dX12_init_137 : decode cX12_init 137 = .ok (.iinc 1 1, 3) := by decide +kernel
theorem dX12_init_140 : decode cX12_init 140 = .ok (.goto (-19), 3) := by decide +kernel
theorem dX12_init_143 : decode cX12_init 143 = .ok (.return_, 1) := by decide +kernel
theorem cm_X12_init : CMi yX12_init cX12_init 2 0 := ⟨w_1422, w_1423, w_97, rfl, ⟨by decide +kernel, by decide +kernel, by decide +kernel⟩⟩
noncomputable def f_X12_init_121b (n : Nat) (rec121 : Int → MM → RR) (v0 v1 : Int) (h : MM) : RR :=
  if 4 ≤ v1 then
    some (0, h)
  else
  gf h v0 12 1 fun r2 =>
  wt h r2 100 (wr (200 + v1)) ((-1)) fun h3 =>
  lb (wr (v1 + 1)) fun x4 =>
  rec121 x4 h3
noncomputable def f_X12_init_121 (n : Nat)  (v0 : Int) : Nat → Int → MM → RR
  | 0, _, _ => none
  | k + 1, v1, h => f_X12_init_121b n  (f_X12_init_121 n  v0 k) v0 v1 h
noncomputable def f_X12_init (n : Nat) (v0 : Int) (h : MM) : RR :=
  nz v0 <|
  na h 100 83840 fun r2 h2 =>
  pf h2 v0 12 1 r2 fun h3 =>
  na h3 100 83840 fun r4 h4 =>
  pf h4 v0 12 2 r4 fun h5 =>
  na h5 100 6 fun r6 h6 =>
  pf h6 v0 12 8 r6 fun h7 =>
  na h7 100 80 fun r8 h8 =>
  pf h8 v0 12 9 r8 fun h9 =>
  na h9 100 80 fun r10 h10 =>
  pf h10 v0 12 10 r10 fun h11 =>
  na h11 100 7 fun r12 h12 =>
  pf h12 v0 12 11 r12 fun h13 =>
  na h13 100 7 fun r14 h14 =>
  pf h14 v0 12 12 r14 fun h15 =>
  na h15 101 400 fun r16 h16 =>
  pf h16 v0 12 14 r16 fun h17 =>
  na h17 101 400 fun r18 h18 =>
  pf h18 v0 12 15 r18 fun h19 =>
  na h19 101 400 fun r20 h20 =>
  pf h20 v0 12 16 r20 fun h21 =>
  na h21 101 20 fun r22 h22 =>
  pf h22 v0 12 17 r22 fun h23 =>
  na h23 101 20 fun r24 h24 =>
  pf h24 v0 12 18 r24 fun h25 =>
  na h25 100 60 fun r26 h26 =>
  pf h26 v0 12 19 r26 fun h27 =>
  na h27 100 40 fun r28 h28 =>
  pf h28 v0 12 20 r28 fun h29 =>
  f_X12_init_121 n v0 n 0 h29
set_option maxRecDepth 20000 in
theorem b_X12_init_121b {g : GT} {Z : Int × MM} {n : Nat} (C : Cx g cX12_init 2 yX12_init 1 21) (hr : Rt g none 3 Z) {v0 v1 : Int}  {rec121 : Int → MM → RR} (L121 : ∀ (u1 : Int) (h : MM), in32 u1 → rec121 u1 h = some Z → G g 121 [(2, v0), (0, u1)] [] h) (cv1 : in32 v1) {h : MM} (hf : f_X12_init_121b n rec121 v0 v1 h = some Z) : G g 121 [(2, v0), (0, v1)] [] h := by
  unfold f_X12_init_121b at hf
  refine r_iload_n C dX12_init_121 rfl ?_
  refine r_iconst C dX12_init_122 ?_
  refine r_icmp_ge C dX12_init_123 (tgt := 143) (by decide) cv1 (in32_of rfl) (fun n1 => ?_) (fun n1 => ?_)
  · have hf := ite_p n1 hf
    cases hf
    exact r_vret C hr dX12_init_143
  · have hf := ite_n n1 hf
    refine r_aload_n C dX12_init_126 rfl ?_
    obtain ⟨q2, hf⟩ := gf_s hf
    refine r_gf C ct12 (j := 1) (ji := 1) dX12_init_127 q2 rfl rfl (by decide) w_1426 rfl (fun c2 => ?_)
    refine r_sipush C dX12_init_130 rfl ?_
    refine r_iload_n C dX12_init_133 rfl ?_
    refine r_iadd C dX12_init_134 ?_
    refine r_iconst C dX12_init_135 ?_
    obtain ⟨q3, hf⟩ := wt_s hf
    refine r_iast C dX12_init_136 q3 rfl (in32_of rfl) ?_
    obtain ⟨x4, e4, hf⟩ := lb_s hf
    have c4 : in32 x4 := by rw [e4]; exact (in32_t _)
    refine r_iincL C dX12_init_137 rfl e4 (Nat.le_of_ble_eq_true rfl) rfl ?_
    refine r_goto C dX12_init_140 (tgt := 121) (by decide) ?_
    exact G.mask [true, true] rfl rfl (L121 _ _ c4 hf)
set_option maxRecDepth 20000 in
theorem l_X12_init_121 {g : GT} {Z : Int × MM} {n : Nat} (C : Cx g cX12_init 2 yX12_init 1 21) (hr : Rt g none 3 Z) {v0 : Int}    : ∀ (k : Nat) (v1 : Int) (h : MM), in32 v1 → f_X12_init_121 n  v0 k v1 h = some Z → G g 121 [(2, v0), (0, v1)] [] h := by
  intro k
  induction k with
  | zero => intro v1 h cv1 hf; exact absurd hf (by intro z; cases z)
  | succ k ih => intro v1 h cv1 hf; exact b_X12_init_121b C hr (rec121 := f_X12_init_121 n  v0 k)  ih cv1 (show f_X12_init_121b n  (f_X12_init_121 n  v0 k) v0 v1 h = some Z from hf)
set_option maxRecDepth 20000 in
theorem e_X12_init {g : GT} {Z : Int × MM} {n : Nat} (C : Cx g cX12_init 2 yX12_init 1 21) (hr : Rt g none 3 Z) {v0 : Int} (cv0 : cK 2 v0) {h : MM} (hf : f_X12_init n v0 h = some Z) : G g 0 [(2, v0), (3, 0)] [] h := by
  unfold f_X12_init at hf
  refine r_aload_n C dX12_init_0 rfl ?_
  obtain ⟨q1, hf⟩ := nz_s hf
  refine r_obj C dX12_init_1 w_1424 wo1 wo2 ⟨Nat.le_of_ble_eq_true rfl, Nat.le_of_ble_eq_true rfl⟩ q1 rfl ?_
  refine r_aload_n C dX12_init_4 rfl ?_
  refine r_ldc C (v := 83840) dX12_init_5 w_1425 ?_
  obtain ⟨q2, hf⟩ := na_s hf
  refine r_na C (tn := 100) (t := 100) dX12_init_7 q2 rfl (by decide) (by decide) w_156 ?_
  obtain ⟨q3, hf⟩ := pf_s hf
  refine r_pf C ct12 (j := 1) (ji := 1) dX12_init_9 q3 rfl rfl (by decide) w_1426 rfl (Or.inr ⟨rfl, rfl, rfl⟩) nar_arr trivial ?_
  refine r_aload_n C dX12_init_12 rfl ?_
  refine r_ldc C (v := 83840) dX12_init_13 w_1425 ?_
  obtain ⟨q4, hf⟩ := na_s hf
  refine r_na C (tn := 100) (t := 100) dX12_init_15 q4 rfl (by decide) (by decide) w_156 ?_
  obtain ⟨q5, hf⟩ := pf_s hf
  refine r_pf C ct12 (j := 2) (ji := 2) dX12_init_17 q5 rfl rfl (by decide) w_1427 rfl (Or.inr ⟨rfl, rfl, rfl⟩) nar_arr trivial ?_
  refine r_aload_n C dX12_init_20 rfl ?_
  refine r_bipush C dX12_init_21 rfl ?_
  obtain ⟨q6, hf⟩ := na_s hf
  refine r_na C (tn := 100) (t := 100) dX12_init_23 q6 rfl (by decide) (by decide) w_156 ?_
  obtain ⟨q7, hf⟩ := pf_s hf
  refine r_pf C ct12 (j := 8) (ji := 8) dX12_init_25 q7 rfl rfl (by decide) w_1433 rfl (Or.inr ⟨rfl, rfl, rfl⟩) nar_arr trivial ?_
  refine r_aload_n C dX12_init_28 rfl ?_
  refine r_bipush C dX12_init_29 rfl ?_
  obtain ⟨q8, hf⟩ := na_s hf
  refine r_na C (tn := 100) (t := 100) dX12_init_31 q8 rfl (by decide) (by decide) w_156 ?_
  obtain ⟨q9, hf⟩ := pf_s hf
  refine r_pf C ct12 (j := 9) (ji := 9) dX12_init_33 q9 rfl rfl (by decide) w_1434 rfl (Or.inr ⟨rfl, rfl, rfl⟩) nar_arr trivial ?_
  refine r_aload_n C dX12_init_36 rfl ?_
  refine r_bipush C dX12_init_37 rfl ?_
  obtain ⟨q10, hf⟩ := na_s hf
  refine r_na C (tn := 100) (t := 100) dX12_init_39 q10 rfl (by decide) (by decide) w_156 ?_
  obtain ⟨q11, hf⟩ := pf_s hf
  refine r_pf C ct12 (j := 10) (ji := 10) dX12_init_41 q11 rfl rfl (by decide) w_1435 rfl (Or.inr ⟨rfl, rfl, rfl⟩) nar_arr trivial ?_
  refine r_aload_n C dX12_init_44 rfl ?_
  refine r_bipush C dX12_init_45 rfl ?_
  obtain ⟨q12, hf⟩ := na_s hf
  refine r_na C (tn := 100) (t := 100) dX12_init_47 q12 rfl (by decide) (by decide) w_156 ?_
  obtain ⟨q13, hf⟩ := pf_s hf
  refine r_pf C ct12 (j := 11) (ji := 11) dX12_init_49 q13 rfl rfl (by decide) w_1436 rfl (Or.inr ⟨rfl, rfl, rfl⟩) nar_arr trivial ?_
  refine r_aload_n C dX12_init_52 rfl ?_
  refine r_bipush C dX12_init_53 rfl ?_
  obtain ⟨q14, hf⟩ := na_s hf
  refine r_na C (tn := 100) (t := 100) dX12_init_55 q14 rfl (by decide) (by decide) w_156 ?_
  obtain ⟨q15, hf⟩ := pf_s hf
  refine r_pf C ct12 (j := 12) (ji := 12) dX12_init_57 q15 rfl rfl (by decide) w_1437 rfl (Or.inr ⟨rfl, rfl, rfl⟩) nar_arr trivial ?_
  refine r_aload_n C dX12_init_60 rfl ?_
  refine r_sipush C dX12_init_61 rfl ?_
  obtain ⟨q16, hf⟩ := na_s hf
  refine r_na C (tn := 101) (t := 101) dX12_init_64 q16 rfl (by decide) (by decide) w_207 ?_
  obtain ⟨q17, hf⟩ := pf_s hf
  refine r_pf C ct12 (j := 14) (ji := 14) dX12_init_66 q17 rfl rfl (by decide) w_1439 rfl (Or.inr ⟨rfl, rfl, rfl⟩) nar_arr trivial ?_
  refine r_aload_n C dX12_init_69 rfl ?_
  refine r_sipush C dX12_init_70 rfl ?_
  obtain ⟨q18, hf⟩ := na_s hf
  refine r_na C (tn := 101) (t := 101) dX12_init_73 q18 rfl (by decide) (by decide) w_207 ?_
  obtain ⟨q19, hf⟩ := pf_s hf
  refine r_pf C ct12 (j := 15) (ji := 15) dX12_init_75 q19 rfl rfl (by decide) w_1440 rfl (Or.inr ⟨rfl, rfl, rfl⟩) nar_arr trivial ?_
  refine r_aload_n C dX12_init_78 rfl ?_
  refine r_sipush C dX12_init_79 rfl ?_
  obtain ⟨q20, hf⟩ := na_s hf
  refine r_na C (tn := 101) (t := 101) dX12_init_82 q20 rfl (by decide) (by decide) w_207 ?_
  obtain ⟨q21, hf⟩ := pf_s hf
  refine r_pf C ct12 (j := 16) (ji := 16) dX12_init_84 q21 rfl rfl (by decide) w_1441 rfl (Or.inr ⟨rfl, rfl, rfl⟩) nar_arr trivial ?_
  refine r_aload_n C dX12_init_87 rfl ?_
  refine r_bipush C dX12_init_88 rfl ?_
  obtain ⟨q22, hf⟩ := na_s hf
  refine r_na C (tn := 101) (t := 101) dX12_init_90 q22 rfl (by decide) (by decide) w_207 ?_
  obtain ⟨q23, hf⟩ := pf_s hf
  refine r_pf C ct12 (j := 17) (ji := 17) dX12_init_92 q23 rfl rfl (by decide) w_1442 rfl (Or.inr ⟨rfl, rfl, rfl⟩) nar_arr trivial ?_
  refine r_aload_n C dX12_init_95 rfl ?_
  refine r_bipush C dX12_init_96 rfl ?_
  obtain ⟨q24, hf⟩ := na_s hf
  refine r_na C (tn := 101) (t := 101) dX12_init_98 q24 rfl (by decide) (by decide) w_207 ?_
  obtain ⟨q25, hf⟩ := pf_s hf
  refine r_pf C ct12 (j := 18) (ji := 18) dX12_init_100 q25 rfl rfl (by decide) w_1443 rfl (Or.inr ⟨rfl, rfl, rfl⟩) nar_arr trivial ?_
  refine r_aload_n C dX12_init_103 rfl ?_
  refine r_bipush C dX12_init_104 rfl ?_
  obtain ⟨q26, hf⟩ := na_s hf
  refine r_na C (tn := 100) (t := 100) dX12_init_106 q26 rfl (by decide) (by decide) w_156 ?_
  obtain ⟨q27, hf⟩ := pf_s hf
  refine r_pf C ct12 (j := 19) (ji := 19) dX12_init_108 q27 rfl rfl (by decide) w_1444 rfl (Or.inr ⟨rfl, rfl, rfl⟩) nar_arr trivial ?_
  refine r_aload_n C dX12_init_111 rfl ?_
  refine r_bipush C dX12_init_112 rfl ?_
  obtain ⟨q28, hf⟩ := na_s hf
  refine r_na C (tn := 100) (t := 100) dX12_init_114 q28 rfl (by decide) (by decide) w_156 ?_
  obtain ⟨q29, hf⟩ := pf_s hf
  refine r_pf C ct12 (j := 20) (ji := 20) dX12_init_116 q29 rfl rfl (by decide) w_1445 rfl (Or.inr ⟨rfl, rfl, rfl⟩) nar_arr trivial ?_
  refine r_iconst C dX12_init_119 ?_
  refine r_istore_n C dX12_init_120 (Nat.le_of_ble_eq_true rfl) rfl ?_
  exact G.mask [true, true] rfl rfl (l_X12_init_121 C hr   _ _ _ (in32_of rfl) hf)
set_option maxRecDepth 20000 in
theorem am_X12_init (l : Launch) (n : Nat) : AM l yX12_init cX12_init 2 none 1 21 [2] 3 (un1 (f_X12_init n)) := by
  refine AM.intro (by decide) (fun xs hx => ?_) (fun g xs h Z hl C hr hx hf => ?_)
  · obtain ⟨a0, rfl, c0⟩ := canL_1 hx
    exact Nat.le_of_ble_eq_true rfl
  · obtain ⟨a0, rfl, c0⟩ := canL_1 hx
    have hf := (un1_e _ a0 _).symm.trans hf
    exact e_X12_init (n := n) C hr c0 hf
/-! LinesPromised.within(JII)Z -/
theorem dX11_within_0 : decode cX11_within 0 = .ok (.lload_n 0, 1) := by decide +kernel
theorem dX11_within_1 : decode cX11_within 1 = .ok (.iload_n 2, 1) := by decide +kernel
theorem dX11_within_2 : decode cX11_within 2 = .ok (.i2l, 1) := by decide +kernel
theorem dX11_within_3 : decode cX11_within 3 = .ok (.lcmp, 1) := by decide +kernel
theorem dX11_within_4 : decode cX11_within 4 = .ok (.ifCond .lt 14, 3) := by decide +kernel
theorem dX11_within_7 : decode cX11_within 7 = .ok (.lload_n 0, 1) := by decide +kernel
theorem dX11_within_8 : decode cX11_within 8 = .ok (.iload_n 3, 1) := by decide +kernel
theorem dX11_within_9 : decode cX11_within 9 = .ok (.i2l, 1) := by decide +kernel
theorem dX11_within_10 : decode cX11_within 10 = .ok (.lcmp, 1) := by decide +kernel
theorem dX11_within_11 : decode cX11_within 11 = .ok (.ifCond .gt 7, 3) := by decide +kernel
theorem dX11_within_14 : decode cX11_within 14 = .ok (.iconst 1, 1) := by decide +kernel
theorem dX11_within_15 : decode cX11_within 15 = .ok (.goto 4, 3) := by decide +kernel
theorem dX11_within_18 : decode cX11_within 18 = .ok (.iconst 0, 1) := by decide +kernel
theorem dX11_within_19 : decode cX11_within 19 = .ok (.ireturn, 1) := by decide +kernel
theorem cm_X11_within : CMs yX11_within cX11_within 4 (some .boolean) 3 := ⟨w_467, w_468, w_87, ⟨by decide +kernel, by decide +kernel, by decide +kernel⟩⟩
noncomputable def f_X11_within_19 (n : Nat)  (s0 : Int) (h : MM) : RR :=
  ck (isb s0) <|
  some (s0, h)
noncomputable def f_X11_within_18 (n : Nat)  (h : MM) : RR :=
  f_X11_within_19 n 0 h
noncomputable def f_X11_within (n : Nat) (v0 v2 v3 : Int) (h : MM) : RR :=
  if lcm v0 v2 < 0 then
    f_X11_within_18 n h
  else
  if 0 < lcm v0 v3 then
    f_X11_within_18 n h
  else
  f_X11_within_19 n 1 h
set_option maxRecDepth 20000 in
theorem b_X11_within_19 {g : GT} {Z : Int × MM} {n : Nat} (C : Cx g cX11_within 4 yX11_within 0 0) (hr : Rt g (some .boolean) 0 Z) {s0 : Int}    (cs0 : in32 s0) {h : MM} (hf : f_X11_within_19 n  s0 h = some Z) : G g 19 [(3, 0), (3, 0), (3, 0), (3, 0)] [(0, s0)] h := by
  unfold f_X11_within_19 at hf
  obtain ⟨b1, hf⟩ := ck_s hf
  cases hf
  exact r_zret C hr dX11_within_19 b1
set_option maxRecDepth 20000 in
theorem b_X11_within_18 {g : GT} {Z : Int × MM} {n : Nat} (C : Cx g cX11_within 4 yX11_within 0 0) (hr : Rt g (some .boolean) 0 Z)     {h : MM} (hf : f_X11_within_18 n   h = some Z) : G g 18 [(3, 0), (3, 0), (3, 0), (3, 0)] [] h := by
  unfold f_X11_within_18 at hf
  refine r_iconst C dX11_within_18 ?_
  exact G.mask [false, false, false, false] rfl rfl (b_X11_within_19 C hr  (in32_of rfl) hf)
set_option maxRecDepth 20000 in
theorem e_X11_within {g : GT} {Z : Int × MM} {n : Nat} (C : Cx g cX11_within 4 yX11_within 0 0) (hr : Rt g (some .boolean) 0 Z) {v0 v2 v3 : Int} (cv0 : cK 1 v0) (cv2 : cK 0 v2) (cv3 : cK 0 v3) {h : MM} (hf : f_X11_within n v0 v2 v3 h = some Z) : G g 0 [(1, v0), (4, 0), (0, v2), (0, v3)] [] h := by
  have cv0 : in64 v0 := cv0
  have cv2 : in32 v2 := cv2
  have cv3 : in32 v3 := cv3
  unfold f_X11_within at hf
  refine r_lload_n C dX11_within_0 rfl ?_
  refine r_iload_n C dX11_within_1 rfl ?_
  refine r_i2l C dX11_within_2 cv2 ?_
  refine r_lcmp C dX11_within_3 ?_
  refine r_if_lt C dX11_within_4 (tgt := 18) (by decide) (in32_t _) (fun n1 => ?_) (fun n1 => ?_)
  · have hf := ite_p n1 hf
    exact G.mask [false, false, false, false] rfl rfl (b_X11_within_18 C hr   hf)
  · have hf := ite_n n1 hf
    refine r_lload_n C dX11_within_7 rfl ?_
    refine r_iload_n C dX11_within_8 rfl ?_
    refine r_i2l C dX11_within_9 cv3 ?_
    refine r_lcmp C dX11_within_10 ?_
    refine r_if_gt C dX11_within_11 (tgt := 18) (by decide) (in32_t _) (fun n2 => ?_) (fun n2 => ?_)
    · have hf := ite_p n2 hf
      exact G.mask [false, false, false, false] rfl rfl (b_X11_within_18 C hr   hf)
    · have hf := ite_n n2 hf
      refine r_iconst C dX11_within_14 ?_
      refine r_goto C dX11_within_15 (tgt := 19) (by decide) ?_
      exact G.mask [false, false, false, false] rfl rfl (b_X11_within_19 C hr  (in32_of rfl) hf)
set_option maxRecDepth 20000 in
theorem am_X11_within (l : Launch) (n : Nat) : AM l yX11_within cX11_within 4 (some .boolean) 0 0 [1, 0, 0] 0 (un3 (f_X11_within n)) := by
  refine AM.intro (by decide) (fun xs hx => ?_) (fun g xs h Z hl C hr hx hf => ?_)
  · obtain ⟨a0, a1, a2, rfl, c0, c1, c2⟩ := canL_3 hx
    exact Nat.le_of_ble_eq_true rfl
  · obtain ⟨a0, a1, a2, rfl, c0, c1, c2⟩ := canL_3 hx
    have hf := (un3_e _ a0 a1 a2 _).symm.trans hf
    exact e_X11_within (n := n) C hr c0 c1 c2 hf
/-! LinesPromised.land(III)I -/
theorem dX11_land_0 : decode cX11_land 0 = .ok (.iload_n 1, 1) := by decide +kernel
theorem dX11_land_1 : decode cX11_land 1 = .ok (.i2l, 1) := by decide +kernel
theorem dX11_land_2 : decode cX11_land 2 = .ok (.iconst 0, 1) := by decide +kernel
theorem dX11_land_3 : decode cX11_land 3 = .ok (.bipush 79, 2) := by decide +kernel
theorem dX11_land_5 : decode cX11_land 5 = .ok (.invokestatic 46, 3) := by decide +kernel
theorem dX11_land_8 : decode cX11_land 8 = .ok (.ifCond .eq 13, 3) := by decide +kernel
theorem dX11_land_11 : decode cX11_land 11 = .ok (.iload_n 2, 1) := by decide +kernel
theorem dX11_land_12 : decode cX11_land 12 = .ok (.i2l, 1) := by decide +kernel
theorem dX11_land_13 : decode cX11_land 13 = .ok (.iconst 0, 1) := by decide +kernel
theorem dX11_land_14 : decode cX11_land 14 = .ok (.iconst 1, 1) := by decide +kernel
theorem dX11_land_15 : decode cX11_land 15 = .ok (.invokestatic 46, 3) := by decide +kernel
theorem dX11_land_18 : decode cX11_land 18 = .ok (.ifCond .ne 5, 3) := by decide +kernel
theorem dX11_land_21 : decode cX11_land 21 = .ok (.iconst (-1), 1) := by decide +kernel
theorem dX11_land_22 : decode cX11_land 22 = .ok (.ireturn, 1) := by decide +kernel
theorem dX11_land_23 : decode cX11_land 23 = .ok (.iload_n 3, 1) := by decide +kernel
theorem dX11_land_24 : decode cX11_land 24 = .ok (.i2l, 1) := by decide +kernel
theorem dX11_land_25 : decode cX11_land 25 = .ok (.iconst 0, 1) := by decide +kernel
theorem dX11_land_26 : decode cX11_land 26 = .ok (.iload_n 2, 1) := by decide +kernel
theorem dX11_land_27 : decode cX11_land 27 = .ok (.ifCond .ne 8, 3) := by decide +kernel
theorem dX11_land_30 : decode cX11_land 30 = .ok (.bipush 99, 2) := by decide +kernel
theorem dX11_land_32 : decode cX11_land 32 = .ok (.goto 4, 3) := by decide +kernel
theorem dX11_land_35 : decode cX11_land 35 = .ok (.iconst 2, 1) := by decide +kernel
theorem dX11_land_36 : decode cX11_land 36 = .ok (.invokestatic 46, 3) := by decide +kernel
theorem dX11_land_39 : decode cX11_land 39 = .ok (.ifCond .ne 6, 3) := by decide +kernel
theorem dX11_land_42 : decode cX11_land 42 = .ok (.bipush (-2), 2) := by decide +kernel
theorem dX11_land_44 : decode cX11_land 44 = .ok (.ireturn, 1) := by decide +kernel
theorem dX11_land_45 : decode cX11_land 45 = .ok (.iload_n 2, 1) := by decide +kernel
theorem dX11_land_46 : decode cX11_land 46 = .ok (.ifCond .ne 16, 3) := by decide +kernel
theorem dX11_land_49 : decode cX11_land 49 = .ok (.aload_n 0, 1) := by decide +kernel
theorem dX11_land_50 : decode cX11_land 50 = .ok (.getfield 10, 3) := by decide +kernel
theorem dX11_land_53 : decode cX11_land 53 = .ok (.getfield 50, 3) := by decide +kernel
theorem dX11_land_56 : decode cX11_land 56 = .ok (.getfield 54, 3) := by decide +kernel
theorem dX11_land_59 : decode cX11_land 59 = .ok (.goto 13, 3) := by decide +kernel
theorem dX11_land_62 : decode cX11_land 62 = .ok (.aload_n 0, 1) := by decide +kernel
theorem dX11_land_63 : decode cX11_land 63 = .ok (.getfield 10, 3) := by decide +kernel
theorem dX11_land_66 : decode cX11_land 66 = .ok (.getfield 50, 3) := by decide +kernel
theorem dX11_land_69 : decode cX11_land 69 = .ok (.getfield 59, 3) := by decide +kernel
theorem dX11_land_72 : decode cX11_land 72 = .ok (.astore 4, 2) := by decide +kernel
theorem dX11_land_74 : decode cX11_land 74 = .ok (.aload 4, 2) := by decide +kernel
theorem dX11_land_76 : decode cX11_land 76 = .ok (.iload_n 1, 1) := by decide +kernel
theorem dX11_land_77 : decode cX11_land 77 = .ok (.iaload, 1) := by decide +kernel
theorem dX11_land_78 : decode cX11_land 78 = .ok (.istore 5, 2) := by decide +kernel
theorem dX11_land_80 : decode cX11_land 80 = .ok (.aload 4, 2) := by decide +kernel
theorem dX11_land_82 : decode cX11_land 82 = .ok (.iload_n 1, 1) := by decide +kernel
theorem dX11_land_83 : decode cX11_land 83 = .ok (.iload_n 3, 1) := by decide +kernel
theorem dX11_land_84 : decode cX11_land 84 = .ok (.iastore, 1) := by decide +kernel
theorem dX11_land_85 : decode cX11_land 85 = .ok (.iload 5, 2) := by decide +kernel
theorem dX11_land_87 : decode cX11_land 87 = .ok (.ireturn, 1) := by decide +kernel
theorem cm_X11_land : CM yX11_land cX11_land 6 (some .int) 3 11 := ⟨w_463, w_464, w_465, w_87, ⟨by decide +kernel, by decide +kernel, by decide +kernel⟩, ⟨_, _, rfl⟩, by decide⟩
noncomputable def f_X11_land_21 (n : Nat)  (h : MM) : RR :=
  some ((-1), h)
noncomputable def f_X11_land_72 (n : Nat)  (v1 v3 s0 : Int) (h : MM) : RR :=
  rd h s0 100 v1 fun r1 =>
  wt h s0 100 v1 v3 fun h2 =>
  some (r1, h2)
noncomputable def f_X11_land_36 (n : Nat)  (v0 v1 v2 v3 s0 s1 s2 : Int) (h : MM) : RR :=
  bd (f_X11_within n s0 s1 s2 h) fun r1 h1 =>
  if r1 = 0 then
    some ((-2), h1)
  else
  if v2 = 0 then
    gf h1 v0 11 0 fun r7 =>
    gf h1 r7 10 0 fun r8 =>
    gf h1 r8 1 0 fun r9 =>
    f_X11_land_72 n v1 v3 r9 h1
  else
  gf h1 v0 11 0 fun r4 =>
  gf h1 r4 10 0 fun r5 =>
  gf h1 r5 1 1 fun r6 =>
  f_X11_land_72 n v1 v3 r6 h1
noncomputable def f_X11_land (n : Nat) (v0 v1 v2 v3 : Int) (h : MM) : RR :=
  bd (f_X11_within n v1 0 79 h) fun r1 h1 =>
  if r1 = 0 then
    f_X11_land_21 n h1
  else
  bd (f_X11_within n v2 0 1 h1) fun r3 h3 =>
  if r3 = 0 then
    f_X11_land_21 n h3
  else
  if v2 = 0 then
    f_X11_land_36 n v0 v1 v2 v3 v3 0 99 h3
  else
  f_X11_land_36 n v0 v1 v2 v3 v3 0 2 h3
set_option maxRecDepth 20000 in
theorem b_X11_land_21 {g : GT} {Z : Int × MM} {n : Nat} (C : Cx g cX11_land 6 yX11_land 1 23) (hr : Rt g (some .int) 0 Z)     {h : MM} (hf : f_X11_land_21 n   h = some Z) : G g 21 [(3, 0), (3, 0), (3, 0), (3, 0), (3, 0), (3, 0)] [] h := by
  unfold f_X11_land_21 at hf
  refine r_iconst C dX11_land_21 ?_
  cases hf
  exact r_jret C hr dX11_land_22 (in32_of rfl)
set_option maxRecDepth 20000 in
theorem b_X11_land_72 {g : GT} {Z : Int × MM} {n : Nat} (C : Cx g cX11_land 6 yX11_land 1 23) (hr : Rt g (some .int) 0 Z) {v1 v3 s0 : Int}    (cv1 : in32 v1) (cv3 : in32 v3) {h : MM} (hf : f_X11_land_72 n  v1 v3 s0 h = some Z) : G g 72 [(3, 0), (0, v1), (3, 0), (0, v3), (3, 0), (3, 0)] [(2, s0)] h := by
  unfold f_X11_land_72 at hf
  refine r_astore C dX11_land_72 (Nat.le_of_ble_eq_true rfl) rfl ?_
  refine r_aload C dX11_land_74 rfl ?_
  refine r_iload_n C dX11_land_76 rfl ?_
  obtain ⟨q1, hf⟩ := rd_s hf
  refine r_iald C dX11_land_77 q1 rfl (fun c1 => ?_)
  refine r_istore C dX11_land_78 (Nat.le_of_ble_eq_true rfl) rfl ?_
  refine r_aload C dX11_land_80 rfl ?_
  refine r_iload_n C dX11_land_82 rfl ?_
  refine r_iload_n C dX11_land_83 rfl ?_
  obtain ⟨q2, hf⟩ := wt_s hf
  refine r_iast C dX11_land_84 q2 rfl cv3 ?_
  refine r_iload C dX11_land_85 rfl ?_
  cases hf
  exact r_jret C hr dX11_land_87 c1
set_option maxRecDepth 20000 in
theorem b_X11_land_36 {g : GT} {Z : Int × MM} {n : Nat} (C : Cx g cX11_land 6 yX11_land 1 23) (hr : Rt g (some .int) 0 Z) {v0 v1 v2 v3 s0 s1 s2 : Int}    (cv1 : in32 v1) (cv2 : in32 v2) (cv3 : in32 v3) (cs0 : in64 s0) (cs1 : in32 s1) (cs2 : in32 s2) {h : MM} (hf : f_X11_land_36 n  v0 v1 v2 v3 s0 s1 s2 h = some Z) : G g 36 [(2, v0), (0, v1), (0, v2), (0, v3), (3, 0), (3, 0)] [(0, s2), (0, s1), (1, s0)] h := by
  unfold f_X11_land_36 at hf
  obtain ⟨r1, h1, hq1, hf⟩ := bd_s hf
  refine r_cS3 C (am_X11_within (gl g) n) cm_X11_within w_466 dX11_land_36 ⟨Nat.le_of_ble_eq_true rfl, Nat.le_of_ble_eq_true rfl⟩ cs0 cs1 cs2 rfl (Nat.le_of_ble_eq_true rfl) hq1 (by decide) (fun c1 => ?_)
  have c1 : in32 _ := c1
  refine r_if_ne C dX11_land_39 (tgt := 45) (by decide) c1 (fun n2 => ?_) (fun n2 => ?_)
  · have hf := ite_n n2 hf
    refine r_iload_n C dX11_land_45 rfl ?_
    refine r_if_ne C dX11_land_46 (tgt := 62) (by decide) cv2 (fun n3 => ?_) (fun n3 => ?_)
    · have hf := ite_n n3 hf
      refine r_aload_n C dX11_land_62 rfl ?_
      obtain ⟨q4, hf⟩ := gf_s hf
      refine r_gf C ct11 (j := 0) (ji := 0) dX11_land_63 q4 rfl rfl (by decide) w_440 rfl (fun c4 => ?_)
      obtain ⟨q5, hf⟩ := gf_s hf
      refine r_gf C ct10 (j := 0) (ji := 0) dX11_land_66 q5 rfl rfl (by decide) w_300 rfl (fun c5 => ?_)
      obtain ⟨q6, hf⟩ := gf_s hf
      refine r_gf C ct1 (j := 1) (ji := 1) dX11_land_69 q6 rfl rfl (by decide) w_132 rfl (fun c6 => ?_)
      exact G.mask [false, true, false, true, false, false] rfl rfl (b_X11_land_72 C hr  cv1 cv3 hf)
    · have hf := ite_p n3 hf
      refine r_aload_n C dX11_land_49 rfl ?_
      obtain ⟨q7, hf⟩ := gf_s hf
      refine r_gf C ct11 (j := 0) (ji := 0) dX11_land_50 q7 rfl rfl (by decide) w_440 rfl (fun c7 => ?_)
      obtain ⟨q8, hf⟩ := gf_s hf
      refine r_gf C ct10 (j := 0) (ji := 0) dX11_land_53 q8 rfl rfl (by decide) w_300 rfl (fun c8 => ?_)
      obtain ⟨q9, hf⟩ := gf_s hf
      refine r_gf C ct1 (j := 0) (ji := 0) dX11_land_56 q9 rfl rfl (by decide) w_129 rfl (fun c9 => ?_)
      refine r_goto C dX11_land_59 (tgt := 72) (by decide) ?_
      exact G.mask [false, true, false, true, false, false] rfl rfl (b_X11_land_72 C hr  cv1 cv3 hf)
  · have hf := ite_p n2 hf
    refine r_bipush C dX11_land_42 rfl ?_
    cases hf
    exact r_jret C hr dX11_land_44 (in32_of rfl)
set_option maxRecDepth 20000 in
theorem e_X11_land {g : GT} {Z : Int × MM} {n : Nat} (C : Cx g cX11_land 6 yX11_land 1 23) (hr : Rt g (some .int) 0 Z) {v0 v1 v2 v3 : Int} (cv0 : cK 2 v0) (cv1 : cK 0 v1) (cv2 : cK 0 v2) (cv3 : cK 0 v3) {h : MM} (hf : f_X11_land n v0 v1 v2 v3 h = some Z) : G g 0 [(2, v0), (0, v1), (0, v2), (0, v3), (3, 0), (3, 0)] [] h := by
  have cv1 : in32 v1 := cv1
  have cv2 : in32 v2 := cv2
  have cv3 : in32 v3 := cv3
  unfold f_X11_land at hf
  refine r_iload_n C dX11_land_0 rfl ?_
  refine r_i2l C dX11_land_1 cv1 ?_
  refine r_iconst C dX11_land_2 ?_
  refine r_bipush C dX11_land_3 rfl ?_
  obtain ⟨r1, h1, hq1, hf⟩ := bd_s hf
  refine r_cS3 C (am_X11_within (gl g) n) cm_X11_within w_466 dX11_land_5 ⟨Nat.le_of_ble_eq_true rfl, Nat.le_of_ble_eq_true rfl⟩ (in64_i cv1) (in32_of rfl) (in32_of rfl) rfl (Nat.le_of_ble_eq_true rfl) hq1 (by decide) (fun c1 => ?_)
  have c1 : in32 _ := c1
  refine r_if_eq C dX11_land_8 (tgt := 21) (by decide) c1 (fun n2 => ?_) (fun n2 => ?_)
  · have hf := ite_p n2 hf
    exact G.mask [false, false, false, false, false, false] rfl rfl (b_X11_land_21 C hr   hf)
  · have hf := ite_n n2 hf
    refine r_iload_n C dX11_land_11 rfl ?_
    refine r_i2l C dX11_land_12 cv2 ?_
    refine r_iconst C dX11_land_13 ?_
    refine r_iconst C dX11_land_14 ?_
    obtain ⟨r3, h3, hq3, hf⟩ := bd_s hf
    refine r_cS3 C (am_X11_within (gl g) n) cm_X11_within w_466 dX11_land_15 ⟨Nat.le_of_ble_eq_true rfl, Nat.le_of_ble_eq_true rfl⟩ (in64_i cv2) (in32_of rfl) (in32_of rfl) rfl (Nat.le_of_ble_eq_true rfl) hq3 (by decide) (fun c3 => ?_)
    have c3 : in32 _ := c3
    refine r_if_ne C dX11_land_18 (tgt := 23) (by decide) c3 (fun n4 => ?_) (fun n4 => ?_)
    · have hf := ite_n n4 hf
      refine r_iload_n C dX11_land_23 rfl ?_
      refine r_i2l C dX11_land_24 cv3 ?_
      refine r_iconst C dX11_land_25 ?_
      refine r_iload_n C dX11_land_26 rfl ?_
      refine r_if_ne C dX11_land_27 (tgt := 35) (by decide) cv2 (fun n5 => ?_) (fun n5 => ?_)
      · have hf := ite_n n5 hf
        refine r_iconst C dX11_land_35 ?_
        exact G.mask [true, true, true, true, false, false] rfl rfl (b_X11_land_36 C hr  cv1 cv2 cv3 (in64_i cv3) (in32_of rfl) (in32_of rfl) hf)
      · have hf := ite_p n5 hf
        refine r_bipush C dX11_land_30 rfl ?_
        refine r_goto C dX11_land_32 (tgt := 36) (by decide) ?_
        exact G.mask [true, true, true, true, false, false] rfl rfl (b_X11_land_36 C hr  cv1 cv2 cv3 (in64_i cv3) (in32_of rfl) (in32_of rfl) hf)
    · have hf := ite_p n4 hf
      exact G.mask [false, false, false, false, false, false] rfl rfl (b_X11_land_21 C hr   hf)
set_option maxRecDepth 20000 in
theorem am_X11_land (l : Launch) (n : Nat) : AM l yX11_land cX11_land 6 (some .int) 1 23 [2, 0, 0, 0] 0 (un4 (f_X11_land n)) := by
  refine AM.intro (by decide) (fun xs hx => ?_) (fun g xs h Z hl C hr hx hf => ?_)
  · obtain ⟨a0, a1, a2, a3, rfl, c0, c1, c2, c3⟩ := canL_4 hx
    exact Nat.le_of_ble_eq_true rfl
  · obtain ⟨a0, a1, a2, a3, rfl, c0, c1, c2, c3⟩ := canL_4 hx
    have hf := (un4_e _ a0 a1 a2 a3 _).symm.trans hf
    exact e_X11_land (n := n) C hr c0 c1 c2 c3 hf
/-! LinesPromised$Land.isTaken(I)Z -/
theorem dX1_isTaken_0 : decode cX1_isTaken 0 = .ok (.iconst 0, 1) := by decide +kernel
theorem dX1_isTaken_1 : decode cX1_isTaken 1 = .ok (.istore_n 2, 1) := by decide +kernel
theorem dX1_isTaken_2 : decode cX1_isTaken 2 = .ok (.iload_n 2, 1) := by decide +kernel
theorem dX1_isTaken_3 : decode cX1_isTaken 3 = .ok (.aload_n 0, 1) := by decide +kernel
theorem dX1_isTaken_4 : decode cX1_isTaken 4 = .ok (.getfield 33, 3) := by decide +kernel
theorem dX1_isTaken_7 : decode cX1_isTaken 7 = .ok (.if_icmp .ge 21, 3) := by decide +kernel
theorem dX1_isTaken_10 : decode cX1_isTaken 10 = .ok (.aload_n 0, 1) := by decide +kernel
theorem dX1_isTaken_11 : decode cX1_isTaken 11 = .ok (.getfield 21, 3) := by decide +kernel
theorem dX1_isTaken_14 : decode cX1_isTaken 14 = .ok (.iload_n 2, 1) := by decide +kernel
theorem dX1_isTaken_15 : decode cX1_isTaken 15 = .ok (.iaload, 1) := by decide +kernel
theorem dX1_isTaken_16 : decode cX1_isTaken 16 = .ok (.iload_n 1, 1) := by decide +kernel
theorem dX1_isTaken_17 : decode cX1_isTaken 17 = .ok (.if_icmp .ne 5, 3) := by decide +kernel
theorem dX1_isTaken_20 : decode cX1_isTaken 20 = .ok (.iconst 1, 1) := by decide +kernel
theorem dX1_isTaken_21 : decode cX1_isTaken 21 = .ok (.ireturn, 1) := by decide +kernel
theorem dX1_isTaken_22 : decode cX1_isTaken 22 = .ok (.iinc 2 1, 3) := by decide +kernel
theorem dX1_isTaken_25 : decode cX1_isTaken 25 = .ok (.goto (-23), 3) := by decide +kernel
theorem dX1_isTaken_28 : decode cX1_isTaken 28 = .ok (.iconst 0, 1) := by decide +kernel
theorem dX1_isTaken_29 : decode cX1_isTaken 29 = .ok (.ireturn, 1) := by decide +kernel
theorem cm_X1_isTaken : CM yX1_isTaken cX1_isTaken 3 (some .boolean) 1 1 := ⟨w_474, w_475, w_476, w_89, ⟨by decide +kernel, by decide +kernel, by decide +kernel⟩, ⟨_, _, rfl⟩, by decide⟩
noncomputable def f_X1_isTaken_2b (n : Nat) (rec2 : Int → MM → RR) (v0 v1 v2 : Int) (h : MM) : RR :=
  gf h v0 1 5 fun r1 =>
  if r1 ≤ v2 then
    ck (isb 0) <|
    some (0, h)
  else
  gf h v0 1 3 fun r4 =>
  rd h r4 100 v2 fun r5 =>
  if r5 = v1 then
    ck (isb 1) <|
    some (1, h)
  else
  lb (wr (v2 + 1)) fun x7 =>
  rec2 x7 h
noncomputable def f_X1_isTaken_2 (n : Nat)  (v0 v1 : Int) : Nat → Int → MM → RR
  | 0, _, _ => none
  | k + 1, v2, h => f_X1_isTaken_2b n  (f_X1_isTaken_2 n  v0 v1 k) v0 v1 v2 h
noncomputable def f_X1_isTaken (n : Nat) (v0 v1 : Int) (h : MM) : RR :=
  f_X1_isTaken_2 n v0 v1 n 0 h
set_option maxRecDepth 20000 in
theorem b_X1_isTaken_2b {g : GT} {Z : Int × MM} {n : Nat} (C : Cx g cX1_isTaken 3 yX1_isTaken 0 0) (hr : Rt g (some .boolean) 0 Z) {v0 v1 v2 : Int}  {rec2 : Int → MM → RR} (L2 : ∀ (u2 : Int) (h : MM), in32 u2 → rec2 u2 h = some Z → G g 2 [(2, v0), (0, v1), (0, u2)] [] h) (cv1 : in32 v1) (cv2 : in32 v2) {h : MM} (hf : f_X1_isTaken_2b n rec2 v0 v1 v2 h = some Z) : G g 2 [(2, v0), (0, v1), (0, v2)] [] h := by
  unfold f_X1_isTaken_2b at hf
  refine r_iload_n C dX1_isTaken_2 rfl ?_
  refine r_aload_n C dX1_isTaken_3 rfl ?_
  obtain ⟨q1, hf⟩ := gf_s hf
  refine r_gf C ct1 (j := 5) (ji := 5) dX1_isTaken_4 q1 rfl rfl (by decide) w_141 rfl (fun c1 => ?_)
  have c1 : in32 _ := c1
  refine r_icmp_ge C dX1_isTaken_7 (tgt := 28) (by decide) cv2 c1 (fun n2 => ?_) (fun n2 => ?_)
  · have hf := ite_p n2 hf
    refine r_iconst C dX1_isTaken_28 ?_
    obtain ⟨b3, hf⟩ := ck_s hf
    cases hf
    exact r_zret C hr dX1_isTaken_29 b3
  · have hf := ite_n n2 hf
    refine r_aload_n C dX1_isTaken_10 rfl ?_
    obtain ⟨q4, hf⟩ := gf_s hf
    refine r_gf C ct1 (j := 3) (ji := 3) dX1_isTaken_11 q4 rfl rfl (by decide) w_136 rfl (fun c4 => ?_)
    refine r_iload_n C dX1_isTaken_14 rfl ?_
    obtain ⟨q5, hf⟩ := rd_s hf
    refine r_iald C dX1_isTaken_15 q5 rfl (fun c5 => ?_)
    refine r_iload_n C dX1_isTaken_16 rfl ?_
    refine r_icmp_ne C dX1_isTaken_17 (tgt := 22) (by decide) c5 cv1 (fun n6 => ?_) (fun n6 => ?_)
    · have hf := ite_n n6 hf
      obtain ⟨x7, e7, hf⟩ := lb_s hf
      have c7 : in32 x7 := by rw [e7]; exact (in32_t _)
      refine r_iincL C dX1_isTaken_22 rfl e7 (Nat.le_of_ble_eq_true rfl) rfl ?_
      refine r_goto C dX1_isTaken_25 (tgt := 2) (by decide) ?_
      exact G.mask [true, true, true] rfl rfl (L2 _ _ c7 hf)
    · have hf := ite_p n6 hf
      refine r_iconst C dX1_isTaken_20 ?_
      obtain ⟨b8, hf⟩ := ck_s hf
      cases hf
      exact r_zret C hr dX1_isTaken_21 b8
set_option maxRecDepth 20000 in
theorem l_X1_isTaken_2 {g : GT} {Z : Int × MM} {n : Nat} (C : Cx g cX1_isTaken 3 yX1_isTaken 0 0) (hr : Rt g (some .boolean) 0 Z) {v0 v1 : Int}   (cv1 : in32 v1) : ∀ (k : Nat) (v2 : Int) (h : MM), in32 v2 → f_X1_isTaken_2 n  v0 v1 k v2 h = some Z → G g 2 [(2, v0), (0, v1), (0, v2)] [] h := by
  intro k
  induction k with
  | zero => intro v2 h cv2 hf; exact absurd hf (by intro z; cases z)
  | succ k ih => intro v2 h cv2 hf; exact b_X1_isTaken_2b C hr (rec2 := f_X1_isTaken_2 n  v0 v1 k)  ih cv1 cv2 (show f_X1_isTaken_2b n  (f_X1_isTaken_2 n  v0 v1 k) v0 v1 v2 h = some Z from hf)
set_option maxRecDepth 20000 in
theorem e_X1_isTaken {g : GT} {Z : Int × MM} {n : Nat} (C : Cx g cX1_isTaken 3 yX1_isTaken 0 0) (hr : Rt g (some .boolean) 0 Z) {v0 v1 : Int} (cv0 : cK 2 v0) (cv1 : cK 0 v1) {h : MM} (hf : f_X1_isTaken n v0 v1 h = some Z) : G g 0 [(2, v0), (0, v1), (3, 0)] [] h := by
  have cv1 : in32 v1 := cv1
  unfold f_X1_isTaken at hf
  refine r_iconst C dX1_isTaken_0 ?_
  refine r_istore_n C dX1_isTaken_1 (Nat.le_of_ble_eq_true rfl) rfl ?_
  exact G.mask [true, true, true] rfl rfl (l_X1_isTaken_2 C hr  cv1 _ _ _ (in32_of rfl) hf)
set_option maxRecDepth 20000 in
theorem am_X1_isTaken (l : Launch) (n : Nat) : AM l yX1_isTaken cX1_isTaken 3 (some .boolean) 0 0 [2, 0] 0 (un2 (f_X1_isTaken n)) := by
  refine AM.intro (by decide) (fun xs hx => ?_) (fun g xs h Z hl C hr hx hf => ?_)
  · obtain ⟨a0, a1, rfl, c0, c1⟩ := canL_2 hx
    exact Nat.le_of_ble_eq_true rfl
  · obtain ⟨a0, a1, rfl, c0, c1⟩ := canL_2 hx
    have hf := (un2_e _ a0 a1 _).symm.trans hf
    exact e_X1_isTaken (n := n) C hr c0 c1 hf
/-! LinesPromised$Land.found(II)I -/
theorem dX1_found_0 : decode cX1_found 0 = .ok (.aload_n 0, 1) := by decide +kernel
theorem dX1_found_1 : decode cX1_found 1 = .ok (.getfield 21, 3) := by decide +kernel
theorem dX1_found_4 : decode cX1_found 4 = .ok (.aload_n 0, 1) := by decide +kernel
theorem dX1_found_5 : decode cX1_found 5 = .ok (.getfield 33, 3) := by decide +kernel
theorem dX1_found_8 : decode cX1_found 8 = .ok (.iload_n 1, 1) := by decide +kernel
theorem dX1_found_9 : decode cX1_found 9 = .ok (.iastore, 1) := by decide +kernel
theorem dX1_found_10 : decode cX1_found 10 = .ok (.aload_n 0, 1) := by decide +kernel
theorem dX1_found_11 : decode cX1_found 11 = .ok (.getfield 24, 3) := by decide +kernel
theorem dX1_found_14 : decode cX1_found 14 = .ok (.aload_n 0, 1) := by decide +kernel
theorem dX1_found_15 : decode cX1_found 15 = .ok (.getfield 33, 3) := by decide +kernel
theorem dX1_found_18 : decode cX1_found 18 = .ok (.iload_n 2, 1) := by decide +kernel
theorem dX1_found_19 : decode cX1_found 19 = .ok (.iastore, 1) := by decide +kernel
theorem dX1_found_20 : decode cX1_found 20 = .ok (.aload_n 0, 1) := by decide +kernel
theorem dX1_found_21 : decode cX1_found 21 = .ok (.dup, 1) := by decide +kernel
theorem dX1_found_22 : decode cX1_found 22 = .ok (.getfield 33, 3) := by decide +kernel
theorem dX1_found_25 : decode cX1_found 25 = .ok (.iconst 1, 1) := by decide +kernel
theorem dX1_found_26 : decode cX1_found 26 = .ok (.iadd, 1) := by decide +kernel
theorem dX1_found_27 : decode cX1_found 27 = .ok (.putfield 33, 3) := by decide +kernel
theorem dX1_found_30 : decode cX1_found 30 = .ok (.aload_n 0, 1) := by decide +kernel
theorem dX1_found_31 : decode cX1_found 31 = .ok (.getfield 33, 3) := by decide +kernel
theorem dX1_found_34 : decode cX1_found 34 = .ok (.iconst 1, 1) := by decide +kernel
theorem dX1_found_35 : decode cX1_found 35 = .ok (.isub, 1) := by decide +kernel
theorem dX1_found_36 : decode cX1_found 36 = .ok (.ireturn, 1) := by decide +kernel
theorem cm_X1_found : CM yX1_found cX1_found 3 (some .int) 2 1 := ⟨w_478, w_479, w_480, w_89, ⟨by decide +kernel, by decide +kernel, by decide +kernel⟩, ⟨_, _, rfl⟩, by decide⟩
noncomputable def f_X1_found (n : Nat) (v0 v1 v2 : Int) (h : MM) : RR :=
  gf h v0 1 3 fun r1 =>
  gf h v0 1 5 fun r2 =>
  wt h r1 100 r2 v1 fun h3 =>
  gf h3 v0 1 4 fun r4 =>
  gf h3 v0 1 5 fun r5 =>
  wt h3 r4 100 r5 v2 fun h6 =>
  gf h6 v0 1 5 fun r7 =>
  pf h6 v0 1 5 (wr (r7 + 1)) fun h8 =>
  gf h8 v0 1 5 fun r9 =>
  some (wr (r9 - 1), h8)
set_option maxRecDepth 20000 in
theorem e_X1_found {g : GT} {Z : Int × MM} {n : Nat} (C : Cx g cX1_found 3 yX1_found 0 0) (hr : Rt g (some .int) 0 Z) {v0 v1 v2 : Int} (cv0 : cK 2 v0) (cv1 : cK 0 v1) (cv2 : cK 0 v2) {h : MM} (hf : f_X1_found n v0 v1 v2 h = some Z) : G g 0 [(2, v0), (0, v1), (0, v2)] [] h := by
  have cv1 : in32 v1 := cv1
  have cv2 : in32 v2 := cv2
  unfold f_X1_found at hf
  refine r_aload_n C dX1_found_0 rfl ?_
  obtain ⟨q1, hf⟩ := gf_s hf
  refine r_gf C ct1 (j := 3) (ji := 3) dX1_found_1 q1 rfl rfl (by decide) w_136 rfl (fun c1 => ?_)
  refine r_aload_n C dX1_found_4 rfl ?_
  obtain ⟨q2, hf⟩ := gf_s hf
  refine r_gf C ct1 (j := 5) (ji := 5) dX1_found_5 q2 rfl rfl (by decide) w_141 rfl (fun c2 => ?_)
  have c2 : in32 _ := c2
  refine r_iload_n C dX1_found_8 rfl ?_
  obtain ⟨q3, hf⟩ := wt_s hf
  refine r_iast C dX1_found_9 q3 rfl cv1 ?_
  refine r_aload_n C dX1_found_10 rfl ?_
  obtain ⟨q4, hf⟩ := gf_s hf
  refine r_gf C ct1 (j := 4) (ji := 4) dX1_found_11 q4 rfl rfl (by decide) w_139 rfl (fun c4 => ?_)
  refine r_aload_n C dX1_found_14 rfl ?_
  obtain ⟨q5, hf⟩ := gf_s hf
  refine r_gf C ct1 (j := 5) (ji := 5) dX1_found_15 q5 rfl rfl (by decide) w_141 rfl (fun c5 => ?_)
  have c5 : in32 _ := c5
  refine r_iload_n C dX1_found_18 rfl ?_
  obtain ⟨q6, hf⟩ := wt_s hf
  refine r_iast C dX1_found_19 q6 rfl cv2 ?_
  refine r_aload_n C dX1_found_20 rfl ?_
  refine r_dup C dX1_found_21 (by decide) ?_
  obtain ⟨q7, hf⟩ := gf_s hf
  refine r_gf C ct1 (j := 5) (ji := 5) dX1_found_22 q7 rfl rfl (by decide) w_141 rfl (fun c7 => ?_)
  have c7 : in32 _ := c7
  refine r_iconst C dX1_found_25 ?_
  refine r_iadd C dX1_found_26 ?_
  obtain ⟨q8, hf⟩ := pf_s hf
  refine r_pf C ct1 (j := 5) (ji := 5) dX1_found_27 q8 rfl rfl (by decide) w_141 rfl (Or.inl rfl) nar_int (in32_t _) ?_
  refine r_aload_n C dX1_found_30 rfl ?_
  obtain ⟨q9, hf⟩ := gf_s hf
  refine r_gf C ct1 (j := 5) (ji := 5) dX1_found_31 q9 rfl rfl (by decide) w_141 rfl (fun c9 => ?_)
  have c9 : in32 _ := c9
  refine r_iconst C dX1_found_34 ?_
  refine r_isub C dX1_found_35 ?_
  cases hf
  exact r_jret C hr dX1_found_36 (in32_t _)
set_option maxRecDepth 20000 in
theorem am_X1_found (l : Launch) (n : Nat) : AM l yX1_found cX1_found 3 (some .int) 0 0 [2, 0, 0] 0 (un3 (f_X1_found n)) := by
  refine AM.intro (by decide) (fun xs hx => ?_) (fun g xs h Z hl C hr hx hf => ?_)
  · obtain ⟨a0, a1, a2, rfl, c0, c1, c2⟩ := canL_3 hx
    exact Nat.le_of_ble_eq_true rfl
  · obtain ⟨a0, a1, a2, rfl, c0, c1, c2⟩ := canL_3 hx
    have hf := (un3_e _ a0 a1 a2 _).symm.trans hf
    exact e_X1_found (n := n) C hr c0 c1 c2 hf
/-! LinesPromised.town(II)I -/
theorem dX11_town_0 : decode cX11_town 0 = .ok (.iload_n 1, 1) := by decide +kernel
theorem dX11_town_1 : decode cX11_town 1 = .ok (.i2l, 1) := by decide +kernel
theorem dX11_town_2 : decode cX11_town 2 = .ok (.iconst 0, 1) := by decide +kernel
theorem dX11_town_3 : decode cX11_town 3 = .ok (.bipush 79, 2) := by decide +kernel
theorem dX11_town_5 : decode cX11_town 5 = .ok (.invokestatic 46, 3) := by decide +kernel
theorem dX11_town_8 : decode cX11_town 8 = .ok (.ifCond .ne 5, 3) := by decide +kernel
theorem dX11_town_11 : decode cX11_town 11 = .ok (.iconst (-1), 1) := by decide +kernel
theorem dX11_town_12 : decode cX11_town 12 = .ok (.ireturn, 1) := by decide +kernel
theorem dX11_town_13 : decode cX11_town 13 = .ok (.iload_n 2, 1) := by decide +kernel
theorem dX11_town_14 : decode cX11_town 14 = .ok (.i2l, 1) := by decide +kernel
theorem dX11_town_15 : decode cX11_town 15 = .ok (.iconst 0, 1) := by decide +kernel
theorem dX11_town_16 : decode cX11_town 16 = .ok (.bipush 99, 2) := by decide +kernel
theorem dX11_town_18 : decode cX11_town 18 = .ok (.invokestatic 46, 3) := by decide +kernel
theorem dX11_town_21 : decode cX11_town 21 = .ok (.ifCond .ne 6, 3) := by decide +kernel
theorem dX11_town_24 : decode cX11_town 24 = .ok (.bipush (-2), 2) := by decide +kernel
theorem dX11_town_26 : decode cX11_town 26 = .ok (.ireturn, 1) := by decide +kernel
theorem dX11_town_27 : decode cX11_town 27 = .ok (.aload_n 0, 1) := by decide +kernel
theorem dX11_town_28 : decode cX11_town 28 = .ok (.getfield 10, 3) := by decide +kernel
theorem dX11_town_31 : decode cX11_town 31 = .ok (.getfield 50, 3) := by decide +kernel
theorem dX11_town_34 : decode cX11_town 34 = .ok (.iload_n 1, 1) := by decide +kernel
theorem dX11_town_35 : decode cX11_town 35 = .ok (.invokevirtual 62, 3) := by decide +kernel
theorem dX11_town_38 : decode cX11_town 38 = .ok (.ifCond .eq 6, 3) := by decide +kernel
theorem dX11_town_41 : decode cX11_town 41 = .ok (.bipush (-3), 2) := by decide +kernel
theorem dX11_town_43 : decode cX11_town 43 = .ok (.ireturn, 1) := by decide +kernel
theorem dX11_town_44 : decode cX11_town 44 = .ok (.aload_n 0, 1) := by decide +kernel
theorem dX11_town_45 : decode cX11_town 45 = .ok (.getfield 10, 3) := by decide +kernel
theorem dX11_town_48 : decode cX11_town 48 = .ok (.getfield 50, 3) := by decide +kernel
theorem dX11_town_51 : decode cX11_town 51 = .ok (.getfield 66, 3) := by decide +kernel
theorem dX11_town_54 : decode cX11_town 54 = .ok (.bipush 6, 2) := by decide +kernel
theorem dX11_town_56 : decode cX11_town 56 = .ok (.if_icmp .lt 6, 3) := by decide +kernel
theorem dX11_town_59 : decode cX11_town 59 = .ok (.bipush (-4), 2) := by decide +kernel
theorem dX11_town_61 : decode cX11_town 61 = .ok (.ireturn, 1) := by decide +kernel
theorem dX11_town_62 : decode cX11_town 62 = .ok (.aload_n 0, 1) := by decide +kernel
theorem dX11_town_63 : decode cX11_town 63 = .ok (.getfield 10, 3) := by decide +kernel
theorem dX11_town_66 : decode cX11_town 66 = .ok (.getfield 50, 3) := by decide +kernel
theorem dX11_town_69 : decode cX11_town 69 = .ok (.iload_n 1, 1) := by decide +kernel
theorem dX11_town_70 : decode cX11_town 70 = .ok (.iload_n 2, 1) := by decide +kernel
theorem dX11_town_71 : decode cX11_town 71 = .ok (.invokevirtual 70, 3) := by decide +kernel
theorem dX11_town_74 : decode cX11_town 74 = .ok (.ireturn, 1) := by decide +kernel
theorem cm_X11_town : CM yX11_town cX11_town 3 (some .int) 2 11 := ⟨w_470, w_471, w_472, w_87, ⟨by decide +kernel, by decide +kernel, by decide +kernel⟩, ⟨_, _, rfl⟩, by decide⟩
noncomputable def f_X11_town (n : Nat) (v0 v1 v2 : Int) (h : MM) : RR :=
  bd (f_X11_within n v1 0 79 h) fun r1 h1 =>
  if r1 = 0 then
    some ((-1), h1)
  else
  bd (f_X11_within n v2 0 99 h1) fun r3 h3 =>
  if r3 = 0 then
    some ((-2), h3)
  else
  gf h3 v0 11 0 fun r5 =>
  gf h3 r5 10 0 fun r6 =>
  gk h3 r6 1 <|
  bd (f_X1_isTaken n r6 v1 h3) fun r7 h7 =>
  if r7 = 0 then
    gf h7 v0 11 0 fun r9 =>
    gf h7 r9 10 0 fun r10 =>
    gf h7 r10 1 5 fun r11 =>
    if r11 < 6 then
      gf h7 v0 11 0 fun r13 =>
      gf h7 r13 10 0 fun r14 =>
      gk h7 r14 1 <|
      bd (f_X1_found n r14 v1 v2 h7) fun r15 h15 =>
      some (r15, h15)
    else
    some ((-4), h7)
  else
  some ((-3), h7)
set_option maxRecDepth 20000 in
theorem e_X11_town {g : GT} {Z : Int × MM} {n : Nat} (C : Cx g cX11_town 3 yX11_town 1 23) (hr : Rt g (some .int) 0 Z) {v0 v1 v2 : Int} (cv0 : cK 2 v0) (cv1 : cK 0 v1) (cv2 : cK 0 v2) {h : MM} (hf : f_X11_town n v0 v1 v2 h = some Z) : G g 0 [(2, v0), (0, v1), (0, v2)] [] h := by
  have cv1 : in32 v1 := cv1
  have cv2 : in32 v2 := cv2
  unfold f_X11_town at hf
  refine r_iload_n C dX11_town_0 rfl ?_
  refine r_i2l C dX11_town_1 cv1 ?_
  refine r_iconst C dX11_town_2 ?_
  refine r_bipush C dX11_town_3 rfl ?_
  obtain ⟨r1, h1, hq1, hf⟩ := bd_s hf
  refine r_cS3 C (am_X11_within (gl g) n) cm_X11_within w_466 dX11_town_5 ⟨Nat.le_of_ble_eq_true rfl, Nat.le_of_ble_eq_true rfl⟩ (in64_i cv1) (in32_of rfl) (in32_of rfl) rfl (Nat.le_of_ble_eq_true rfl) hq1 (by decide) (fun c1 => ?_)
  have c1 : in32 _ := c1
  refine r_if_ne C dX11_town_8 (tgt := 13) (by decide) c1 (fun n2 => ?_) (fun n2 => ?_)
  · have hf := ite_n n2 hf
    refine r_iload_n C dX11_town_13 rfl ?_
    refine r_i2l C dX11_town_14 cv2 ?_
    refine r_iconst C dX11_town_15 ?_
    refine r_bipush C dX11_town_16 rfl ?_
    obtain ⟨r3, h3, hq3, hf⟩ := bd_s hf
    refine r_cS3 C (am_X11_within (gl g) n) cm_X11_within w_466 dX11_town_18 ⟨Nat.le_of_ble_eq_true rfl, Nat.le_of_ble_eq_true rfl⟩ (in64_i cv2) (in32_of rfl) (in32_of rfl) rfl (Nat.le_of_ble_eq_true rfl) hq3 (by decide) (fun c3 => ?_)
    have c3 : in32 _ := c3
    refine r_if_ne C dX11_town_21 (tgt := 27) (by decide) c3 (fun n4 => ?_) (fun n4 => ?_)
    · have hf := ite_n n4 hf
      refine r_aload_n C dX11_town_27 rfl ?_
      obtain ⟨q5, hf⟩ := gf_s hf
      refine r_gf C ct11 (j := 0) (ji := 0) dX11_town_28 q5 rfl rfl (by decide) w_440 rfl (fun c5 => ?_)
      obtain ⟨q6, hf⟩ := gf_s hf
      refine r_gf C ct10 (j := 0) (ji := 0) dX11_town_31 q6 rfl rfl (by decide) w_300 rfl (fun c6 => ?_)
      refine r_iload_n C dX11_town_34 rfl ?_
      obtain ⟨p7, hf⟩ := gk_s hf
      obtain ⟨r7, h7, hq7, hf⟩ := bd_s hf
      refine r_cV1 C (am_X1_isTaken (gl g) n) cm_X1_isTaken w_473 dX11_town_35 ⟨Nat.le_of_ble_eq_true rfl, Nat.le_of_ble_eq_true rfl⟩ p7 rfl cv1 rfl (Nat.le_of_ble_eq_true rfl) hq7 (by decide) (fun c7 => ?_)
      have c7 : in32 _ := c7
      refine r_if_eq C dX11_town_38 (tgt := 44) (by decide) c7 (fun n8 => ?_) (fun n8 => ?_)
      · have hf := ite_p n8 hf
        refine r_aload_n C dX11_town_44 rfl ?_
        obtain ⟨q9, hf⟩ := gf_s hf
        refine r_gf C ct11 (j := 0) (ji := 0) dX11_town_45 q9 rfl rfl (by decide) w_440 rfl (fun c9 => ?_)
        obtain ⟨q10, hf⟩ := gf_s hf
        refine r_gf C ct10 (j := 0) (ji := 0) dX11_town_48 q10 rfl rfl (by decide) w_300 rfl (fun c10 => ?_)
        obtain ⟨q11, hf⟩ := gf_s hf
        refine r_gf C ct1 (j := 5) (ji := 5) dX11_town_51 q11 rfl rfl (by decide) w_142 rfl (fun c11 => ?_)
        have c11 : in32 _ := c11
        refine r_bipush C dX11_town_54 rfl ?_
        refine r_icmp_lt C dX11_town_56 (tgt := 62) (by decide) c11 (in32_of rfl) (fun n12 => ?_) (fun n12 => ?_)
        · have hf := ite_p n12 hf
          refine r_aload_n C dX11_town_62 rfl ?_
          obtain ⟨q13, hf⟩ := gf_s hf
          refine r_gf C ct11 (j := 0) (ji := 0) dX11_town_63 q13 rfl rfl (by decide) w_440 rfl (fun c13 => ?_)
          obtain ⟨q14, hf⟩ := gf_s hf
          refine r_gf C ct10 (j := 0) (ji := 0) dX11_town_66 q14 rfl rfl (by decide) w_300 rfl (fun c14 => ?_)
          refine r_iload_n C dX11_town_69 rfl ?_
          refine r_iload_n C dX11_town_70 rfl ?_
          obtain ⟨p15, hf⟩ := gk_s hf
          obtain ⟨r15, h15, hq15, hf⟩ := bd_s hf
          refine r_cV2 C (am_X1_found (gl g) n) cm_X1_found w_477 dX11_town_71 ⟨Nat.le_of_ble_eq_true rfl, Nat.le_of_ble_eq_true rfl⟩ p15 rfl cv1 cv2 rfl (Nat.le_of_ble_eq_true rfl) hq15 (by decide) (fun c15 => ?_)
          have c15 : in32 _ := c15
          cases hf
          exact r_jret C hr dX11_town_74 c15
        · have hf := ite_n n12 hf
          refine r_bipush C dX11_town_59 rfl ?_
          cases hf
          exact r_jret C hr dX11_town_61 (in32_of rfl)
      · have hf := ite_n n8 hf
        refine r_bipush C dX11_town_41 rfl ?_
        cases hf
        exact r_jret C hr dX11_town_43 (in32_of rfl)
    · have hf := ite_p n4 hf
      refine r_bipush C dX11_town_24 rfl ?_
      cases hf
      exact r_jret C hr dX11_town_26 (in32_of rfl)
  · have hf := ite_p n2 hf
    refine r_iconst C dX11_town_11 ?_
    cases hf
    exact r_jret C hr dX11_town_12 (in32_of rfl)
set_option maxRecDepth 20000 in
theorem am_X11_town (l : Launch) (n : Nat) : AM l yX11_town cX11_town 3 (some .int) 1 23 [2, 0, 0] 0 (un3 (f_X11_town n)) := by
  refine AM.intro (by decide) (fun xs hx => ?_) (fun g xs h Z hl C hr hx hf => ?_)
  · obtain ⟨a0, a1, a2, rfl, c0, c1, c2⟩ := canL_3 hx
    exact Nat.le_of_ble_eq_true rfl
  · obtain ⟨a0, a1, a2, rfl, c0, c1, c2⟩ := canL_3 hx
    have hf := (un3_e _ a0 a1 a2 _).symm.trans hf
    exact e_X11_town (n := n) C hr c0 c1 c2 hf
/-! LinesPromised.isHolder(I)Z -/
theorem dX11_isHolder_0 : decode cX11_isHolder 0 = .ok (.iload_n 0, 1) := by decide +kernel
theorem dX11_isHolder_1 : decode cX11_isHolder 1 = .ok (.i2l, 1) := by decide +kernel
theorem dX11_isHolder_2 : decode cX11_isHolder 2 = .ok (.iconst 0, 1) := by decide +kernel
theorem dX11_isHolder_3 : decode cX11_isHolder 3 = .ok (.bipush 7, 2) := by decide +kernel
theorem dX11_isHolder_5 : decode cX11_isHolder 5 = .ok (.invokestatic 46, 3) := by decide +kernel
theorem dX11_isHolder_8 : decode cX11_isHolder 8 = .ok (.ireturn, 1) := by decide +kernel
theorem cm_X11_isHolder : CMs yX11_isHolder cX11_isHolder 1 (some .boolean) 1 := ⟨w_486, w_487, w_87, ⟨by decide +kernel, by decide +kernel, by decide +kernel⟩⟩
noncomputable def f_X11_isHolder (n : Nat) (v0 : Int) (h : MM) : RR :=
  bd (f_X11_within n v0 0 7 h) fun r1 h1 =>
  ck (isb r1) <|
  some (r1, h1)
set_option maxRecDepth 20000 in
theorem e_X11_isHolder {g : GT} {Z : Int × MM} {n : Nat} (C : Cx g cX11_isHolder 1 yX11_isHolder 1 23) (hr : Rt g (some .boolean) 0 Z) {v0 : Int} (cv0 : cK 0 v0) {h : MM} (hf : f_X11_isHolder n v0 h = some Z) : G g 0 [(0, v0)] [] h := by
  have cv0 : in32 v0 := cv0
  unfold f_X11_isHolder at hf
  refine r_iload_n C dX11_isHolder_0 rfl ?_
  refine r_i2l C dX11_isHolder_1 cv0 ?_
  refine r_iconst C dX11_isHolder_2 ?_
  refine r_bipush C dX11_isHolder_3 rfl ?_
  obtain ⟨r1, h1, hq1, hf⟩ := bd_s hf
  refine r_cS3 C (am_X11_within (gl g) n) cm_X11_within w_466 dX11_isHolder_5 ⟨Nat.le_of_ble_eq_true rfl, Nat.le_of_ble_eq_true rfl⟩ (in64_i cv0) (in32_of rfl) (in32_of rfl) rfl (Nat.le_of_ble_eq_true rfl) hq1 (by decide) (fun c1 => ?_)
  have c1 : in32 _ := c1
  obtain ⟨b2, hf⟩ := ck_s hf
  cases hf
  exact r_zret C hr dX11_isHolder_8 b2
set_option maxRecDepth 20000 in
theorem am_X11_isHolder (l : Launch) (n : Nat) : AM l yX11_isHolder cX11_isHolder 1 (some .boolean) 1 23 [0] 0 (un1 (f_X11_isHolder n)) := by
  refine AM.intro (by decide) (fun xs hx => ?_) (fun g xs h Z hl C hr hx hf => ?_)
  · obtain ⟨a0, rfl, c0⟩ := canL_1 hx
    exact Nat.le_of_ble_eq_true rfl
  · obtain ⟨a0, rfl, c0⟩ := canL_1 hx
    have hf := (un1_e _ a0 _).symm.trans hf
    exact e_X11_isHolder (n := n) C hr c0 hf
/-! LinesPromised.coin(II)I -/
theorem dX11_coin_0 : decode cX11_coin 0 = .ok (.iload_n 1, 1) := by decide +kernel
theorem dX11_coin_1 : decode cX11_coin 1 = .ok (.invokestatic 74, 3) := by decide +kernel
theorem dX11_coin_4 : decode cX11_coin 4 = .ok (.ifCond .ne 5, 3) := by decide +kernel
theorem dX11_coin_7 : decode cX11_coin 7 = .ok (.iconst (-1), 1) := by decide +kernel
theorem dX11_coin_8 : decode cX11_coin 8 = .ok (.ireturn, 1) := by decide +kernel
theorem dX11_coin_9 : decode cX11_coin 9 = .ok (.iload_n 2, 1) := by decide +kernel
theorem dX11_coin_10 : decode cX11_coin 10 = .ok (.i2l, 1) := by decide +kernel
theorem dX11_coin_11 : decode cX11_coin 11 = .ok (.iconst 0, 1) := by decide +kernel
theorem dX11_coin_12 : decode cX11_coin 12 = .ok (.ldc 77, 2) := by decide +kernel
theorem dX11_coin_14 : decode cX11_coin 14 = .ok (.invokestatic 46, 3) := by decide +kernel
theorem dX11_coin_17 : decode cX11_coin 17 = .ok (.ifCond .ne 6, 3) := by decide +kernel
theorem dX11_coin_20 : decode cX11_coin 20 = .ok (.bipush (-2), 2) := by decide +kernel
theorem dX11_coin_22 : decode cX11_coin 22 = .ok (.ireturn, 1) := by decide +kernel
theorem dX11_coin_23 : decode cX11_coin 23 = .ok (.aload_n 0, 1) := by decide +kernel
theorem dX11_coin_24 : decode cX11_coin 24 = .ok (.getfield 10, 3) := by decide +kernel
theorem dX11_coin_27 : decode cX11_coin 27 = .ok (.getfield 78, 3) := by decide +kernel
theorem dX11_coin_30 : decode cX11_coin 30 = .ok (.getfield 82, 3) := by decide +kernel
theorem dX11_coin_33 : decode cX11_coin 33 = .ok (.iload_n 1, 1) := by decide +kernel
theorem dX11_coin_34 : decode cX11_coin 34 = .ok (.iaload, 1) := by decide +kernel
theorem dX11_coin_35 : decode cX11_coin 35 = .ok (.istore_n 3, 1) := by decide +kernel
theorem dX11_coin_36 : decode cX11_coin 36 = .ok (.aload_n 0, 1) := by decide +kernel
theorem dX11_coin_37 : decode cX11_coin 37 = .ok (.getfield 10, 3) := by decide +kernel
theorem dX11_coin_40 : decode cX11_coin 40 = .ok (.getfield 78, 3) := by decide +kernel
theorem dX11_coin_43 : decode cX11_coin 43 = .ok (.getfield 82, 3) := by decide +kernel
theorem dX11_coin_46 : decode cX11_coin 46 = .ok (.iload_n 1, 1) := by decide +kernel
theorem dX11_coin_47 : decode cX11_coin 47 = .ok (.iload_n 2, 1) := by decide +kernel
theorem dX11_coin_48 : decode cX11_coin 48 = .ok (.iastore, 1) := by decide +kernel
theorem dX11_coin_49 : decode cX11_coin 49 = .ok (.iload_n 3, 1) := by decide +kernel
theorem dX11_coin_50 : decode cX11_coin 50 = .ok (.ireturn, 1) := by decide +kernel
theorem cm_X11_coin : CM yX11_coin cX11_coin 4 (some .int) 2 11 := ⟨w_482, w_483, w_484, w_87, ⟨by decide +kernel, by decide +kernel, by decide +kernel⟩, ⟨_, _, rfl⟩, by decide⟩
noncomputable def f_X11_coin (n : Nat) (v0 v1 v2 : Int) (h : MM) : RR :=
  bd (f_X11_isHolder n v1 h) fun r1 h1 =>
  if r1 = 0 then
    some ((-1), h1)
  else
  bd (f_X11_within n v2 0 99999 h1) fun r3 h3 =>
  if r3 = 0 then
    some ((-2), h3)
  else
  gf h3 v0 11 0 fun r5 =>
  gf h3 r5 10 2 fun r6 =>
  gf h3 r6 8 0 fun r7 =>
  rd h3 r7 100 v1 fun r8 =>
  gf h3 v0 11 0 fun r9 =>
  gf h3 r9 10 2 fun r10 =>
  gf h3 r10 8 0 fun r11 =>
  wt h3 r11 100 v1 v2 fun h12 =>
  some (r8, h12)
set_option maxRecDepth 20000 in
theorem e_X11_coin {g : GT} {Z : Int × MM} {n : Nat} (C : Cx g cX11_coin 4 yX11_coin 2 43) (hr : Rt g (some .int) 0 Z) {v0 v1 v2 : Int} (cv0 : cK 2 v0) (cv1 : cK 0 v1) (cv2 : cK 0 v2) {h : MM} (hf : f_X11_coin n v0 v1 v2 h = some Z) : G g 0 [(2, v0), (0, v1), (0, v2), (3, 0)] [] h := by
  have cv1 : in32 v1 := cv1
  have cv2 : in32 v2 := cv2
  unfold f_X11_coin at hf
  refine r_iload_n C dX11_coin_0 rfl ?_
  obtain ⟨r1, h1, hq1, hf⟩ := bd_s hf
  refine r_cS1 C (am_X11_isHolder (gl g) n) cm_X11_isHolder w_485 dX11_coin_1 ⟨Nat.le_of_ble_eq_true rfl, Nat.le_of_ble_eq_true rfl⟩ cv1 rfl (Nat.le_of_ble_eq_true rfl) hq1 (by decide) (fun c1 => ?_)
  have c1 : in32 _ := c1
  refine r_if_ne C dX11_coin_4 (tgt := 9) (by decide) c1 (fun n2 => ?_) (fun n2 => ?_)
  · have hf := ite_n n2 hf
    refine r_iload_n C dX11_coin_9 rfl ?_
    refine r_i2l C dX11_coin_10 cv2 ?_
    refine r_iconst C dX11_coin_11 ?_
    refine r_ldc C (v := 99999) dX11_coin_12 w_488 ?_
    obtain ⟨r3, h3, hq3, hf⟩ := bd_s hf
    refine r_cS3 C (am_X11_within (gl g) n) cm_X11_within w_466 dX11_coin_14 ⟨Nat.le_of_ble_eq_true rfl, Nat.le_of_ble_eq_true rfl⟩ (in64_i cv2) (in32_of rfl) (in32_of rfl) rfl (Nat.le_of_ble_eq_true rfl) hq3 (by decide) (fun c3 => ?_)
    have c3 : in32 _ := c3
    refine r_if_ne C dX11_coin_17 (tgt := 23) (by decide) c3 (fun n4 => ?_) (fun n4 => ?_)
    · have hf := ite_n n4 hf
      refine r_aload_n C dX11_coin_23 rfl ?_
      obtain ⟨q5, hf⟩ := gf_s hf
      refine r_gf C ct11 (j := 0) (ji := 0) dX11_coin_24 q5 rfl rfl (by decide) w_440 rfl (fun c5 => ?_)
      obtain ⟨q6, hf⟩ := gf_s hf
      refine r_gf C ct10 (j := 2) (ji := 2) dX11_coin_27 q6 rfl rfl (by decide) w_304 rfl (fun c6 => ?_)
      obtain ⟨q7, hf⟩ := gf_s hf
      refine r_gf C ct8 (j := 0) (ji := 0) dX11_coin_30 q7 rfl rfl (by decide) w_215 rfl (fun c7 => ?_)
      refine r_iload_n C dX11_coin_33 rfl ?_
      obtain ⟨q8, hf⟩ := rd_s hf
      refine r_iald C dX11_coin_34 q8 rfl (fun c8 => ?_)
      refine r_istore_n C dX11_coin_35 (Nat.le_of_ble_eq_true rfl) rfl ?_
      refine r_aload_n C dX11_coin_36 rfl ?_
      obtain ⟨q9, hf⟩ := gf_s hf
      refine r_gf C ct11 (j := 0) (ji := 0) dX11_coin_37 q9 rfl rfl (by decide) w_440 rfl (fun c9 => ?_)
      obtain ⟨q10, hf⟩ := gf_s hf
      refine r_gf C ct10 (j := 2) (ji := 2) dX11_coin_40 q10 rfl rfl (by decide) w_304 rfl (fun c10 => ?_)
      obtain ⟨q11, hf⟩ := gf_s hf
      refine r_gf C ct8 (j := 0) (ji := 0) dX11_coin_43 q11 rfl rfl (by decide) w_215 rfl (fun c11 => ?_)
      refine r_iload_n C dX11_coin_46 rfl ?_
      refine r_iload_n C dX11_coin_47 rfl ?_
      obtain ⟨q12, hf⟩ := wt_s hf
      refine r_iast C dX11_coin_48 q12 rfl cv2 ?_
      refine r_iload_n C dX11_coin_49 rfl ?_
      cases hf
      exact r_jret C hr dX11_coin_50 c8
    · have hf := ite_p n4 hf
      refine r_bipush C dX11_coin_20 rfl ?_
      cases hf
      exact r_jret C hr dX11_coin_22 (in32_of rfl)
  · have hf := ite_p n2 hf
    refine r_iconst C dX11_coin_7 ?_
    cases hf
    exact r_jret C hr dX11_coin_8 (in32_of rfl)
set_option maxRecDepth 20000 in
theorem am_X11_coin (l : Launch) (n : Nat) : AM l yX11_coin cX11_coin 4 (some .int) 2 43 [2, 0, 0] 0 (un3 (f_X11_coin n)) := by
  refine AM.intro (by decide) (fun xs hx => ?_) (fun g xs h Z hl C hr hx hf => ?_)
  · obtain ⟨a0, a1, a2, rfl, c0, c1, c2⟩ := canL_3 hx
    exact Nat.le_of_ble_eq_true rfl
  · obtain ⟨a0, a1, a2, rfl, c0, c1, c2⟩ := canL_3 hx
    have hf := (un3_e _ a0 a1 a2 _).symm.trans hf
    exact e_X11_coin (n := n) C hr c0 c1 c2 hf
/-! LinesPromised.man(I)I -/
theorem dX11_man_0 : decode cX11_man 0 = .ok (.iload_n 1, 1) := by decide +kernel
theorem dX11_man_1 : decode cX11_man 1 = .ok (.i2l, 1) := by decide +kernel
theorem dX11_man_2 : decode cX11_man 2 = .ok (.iconst 0, 1) := by decide +kernel
theorem dX11_man_3 : decode cX11_man 3 = .ok (.bipush 99, 2) := by decide +kernel
theorem dX11_man_5 : decode cX11_man 5 = .ok (.invokestatic 46, 3) := by decide +kernel
theorem dX11_man_8 : decode cX11_man 8 = .ok (.ifCond .ne 6, 3) := by decide +kernel
theorem dX11_man_11 : decode cX11_man 11 = .ok (.bipush (-2), 2) := by decide +kernel
theorem dX11_man_13 : decode cX11_man 13 = .ok (.ireturn, 1) := by decide +kernel
theorem dX11_man_14 : decode cX11_man 14 = .ok (.aload_n 0, 1) := by decide +kernel
theorem dX11_man_15 : decode cX11_man 15 = .ok (.getfield 10, 3) := by decide +kernel
theorem dX11_man_18 : decode cX11_man 18 = .ok (.getfield 87, 3) := by decide +kernel
theorem dX11_man_21 : decode cX11_man 21 = .ok (.istore_n 2, 1) := by decide +kernel
theorem dX11_man_22 : decode cX11_man 22 = .ok (.aload_n 0, 1) := by decide +kernel
theorem dX11_man_23 : decode cX11_man 23 = .ok (.getfield 10, 3) := by decide +kernel
theorem dX11_man_26 : decode cX11_man 26 = .ok (.iload_n 1, 1) := by decide +kernel
theorem dX11_man_27 : decode cX11_man 27 = .ok (.putfield 87, 3) := by decide +kernel
theorem dX11_man_30 : decode cX11_man 30 = .ok (.iload_n 2, 1) := by decide +kernel
theorem dX11_man_31 : decode cX11_man 31 = .ok (.ireturn, 1) := by decide +kernel
theorem cm_X11_man : CM yX11_man cX11_man 3 (some .int) 1 11 := ⟨w_490, w_491, w_492, w_87, ⟨by decide +kernel, by decide +kernel, by decide +kernel⟩, ⟨_, _, rfl⟩, by decide⟩
noncomputable def f_X11_man (n : Nat) (v0 v1 : Int) (h : MM) : RR :=
  bd (f_X11_within n v1 0 99 h) fun r1 h1 =>
  if r1 = 0 then
    some ((-2), h1)
  else
  gf h1 v0 11 0 fun r3 =>
  gf h1 r3 10 10 fun r4 =>
  gf h1 v0 11 0 fun r5 =>
  pf h1 r5 10 10 v1 fun h6 =>
  some (r4, h6)
set_option maxRecDepth 20000 in
theorem e_X11_man {g : GT} {Z : Int × MM} {n : Nat} (C : Cx g cX11_man 3 yX11_man 1 23) (hr : Rt g (some .int) 0 Z) {v0 v1 : Int} (cv0 : cK 2 v0) (cv1 : cK 0 v1) {h : MM} (hf : f_X11_man n v0 v1 h = some Z) : G g 0 [(2, v0), (0, v1), (3, 0)] [] h := by
  have cv1 : in32 v1 := cv1
  unfold f_X11_man at hf
  refine r_iload_n C dX11_man_0 rfl ?_
  refine r_i2l C dX11_man_1 cv1 ?_
  refine r_iconst C dX11_man_2 ?_
  refine r_bipush C dX11_man_3 rfl ?_
  obtain ⟨r1, h1, hq1, hf⟩ := bd_s hf
  refine r_cS3 C (am_X11_within (gl g) n) cm_X11_within w_466 dX11_man_5 ⟨Nat.le_of_ble_eq_true rfl, Nat.le_of_ble_eq_true rfl⟩ (in64_i cv1) (in32_of rfl) (in32_of rfl) rfl (Nat.le_of_ble_eq_true rfl) hq1 (by decide) (fun c1 => ?_)
  have c1 : in32 _ := c1
  refine r_if_ne C dX11_man_8 (tgt := 14) (by decide) c1 (fun n2 => ?_) (fun n2 => ?_)
  · have hf := ite_n n2 hf
    refine r_aload_n C dX11_man_14 rfl ?_
    obtain ⟨q3, hf⟩ := gf_s hf
    refine r_gf C ct11 (j := 0) (ji := 0) dX11_man_15 q3 rfl rfl (by decide) w_440 rfl (fun c3 => ?_)
    obtain ⟨q4, hf⟩ := gf_s hf
    refine r_gf C ct10 (j := 10) (ji := 10) dX11_man_18 q4 rfl rfl (by decide) w_319 rfl (fun c4 => ?_)
    have c4 : in32 _ := c4
    refine r_istore_n C dX11_man_21 (Nat.le_of_ble_eq_true rfl) rfl ?_
    refine r_aload_n C dX11_man_22 rfl ?_
    obtain ⟨q5, hf⟩ := gf_s hf
    refine r_gf C ct11 (j := 0) (ji := 0) dX11_man_23 q5 rfl rfl (by decide) w_440 rfl (fun c5 => ?_)
    refine r_iload_n C dX11_man_26 rfl ?_
    obtain ⟨q6, hf⟩ := pf_s hf
    refine r_pf C ct10 (j := 10) (ji := 10) dX11_man_27 q6 rfl rfl (by decide) w_319 rfl (Or.inl rfl) nar_int cv1 ?_
    refine r_iload_n C dX11_man_30 rfl ?_
    cases hf
    exact r_jret C hr dX11_man_31 c4
  · have hf := ite_p n2 hf
    refine r_bipush C dX11_man_11 rfl ?_
    cases hf
    exact r_jret C hr dX11_man_13 (in32_of rfl)
set_option maxRecDepth 20000 in
theorem am_X11_man (l : Launch) (n : Nat) : AM l yX11_man cX11_man 3 (some .int) 1 23 [2, 0] 0 (un2 (f_X11_man n)) := by
  refine AM.intro (by decide) (fun xs hx => ?_) (fun g xs h Z hl C hr hx hf => ?_)
  · obtain ⟨a0, a1, rfl, c0, c1⟩ := canL_2 hx
    exact Nat.le_of_ble_eq_true rfl
  · obtain ⟨a0, a1, rfl, c0, c1⟩ := canL_2 hx
    have hf := (un2_e _ a0 a1 _).symm.trans hf
    exact e_X11_man (n := n) C hr c0 c1 hf
/-! LinesPromised.feed(JI)I -/
theorem dX11_feed_0 : decode cX11_feed 0 = .ok (.iload_n 3, 1) := by decide +kernel
theorem dX11_feed_1 : decode cX11_feed 1 = .ok (.i2l, 1) := by decide +kernel
theorem dX11_feed_2 : decode cX11_feed 2 = .ok (.iconst 1, 1) := by decide +kernel
theorem dX11_feed_3 : decode cX11_feed 3 = .ok (.bipush 8, 2) := by decide +kernel
theorem dX11_feed_5 : decode cX11_feed 5 = .ok (.invokestatic 46, 3) := by decide +kernel
theorem dX11_feed_8 : decode cX11_feed 8 = .ok (.ifCond .ne 6, 3) := by decide +kernel
theorem dX11_feed_11 : decode cX11_feed 11 = .ok (.bipush (-2), 2) := by decide +kernel
theorem dX11_feed_13 : decode cX11_feed 13 = .ok (.ireturn, 1) := by decide +kernel
theorem dX11_feed_14 : decode cX11_feed 14 = .ok (.aload_n 0, 1) := by decide +kernel
theorem dX11_feed_15 : decode cX11_feed 15 = .ok (.getfield 10, 3) := by decide +kernel
theorem dX11_feed_18 : decode cX11_feed 18 = .ok (.getfield 90, 3) := by decide +kernel
theorem dX11_feed_21 : decode cX11_feed 21 = .ok (.iload_n 3, 1) := by decide +kernel
theorem dX11_feed_22 : decode cX11_feed 22 = .ok (.iadd, 1) := by decide +kernel
theorem dX11_feed_23 : decode cX11_feed 23 = .ok (.sipush 140, 3) := by decide +kernel
theorem dX11_feed_26 : decode cX11_feed 26 = .ok (.if_icmp .le 6, 3) := by decide +kernel
theorem dX11_feed_29 : decode cX11_feed 29 = .ok (.bipush (-4), 2) := by decide +kernel
theorem dX11_feed_31 : decode cX11_feed 31 = .ok (.ireturn, 1) := by decide +kernel
theorem dX11_feed_32 : decode cX11_feed 32 = .ok (.iload_n 3, 1) := by decide +kernel
theorem dX11_feed_33 : decode cX11_feed 33 = .ok (.iconst 1, 1) := by decide +kernel
theorem dX11_feed_34 : decode cX11_feed 34 = .ok (.isub, 1) := by decide +kernel
theorem dX11_feed_35 : decode cX11_feed 35 = .ok (.istore 4, 2) := by decide +kernel
theorem dX11_feed_37 : decode cX11_feed 37 = .ok (.iload 4, 2) := by decide +kernel
theorem dX11_feed_39 : decode cX11_feed 39 = .ok (.ifCond .lt 46, 3) := by decide +kernel
theorem dX11_feed_42 : decode cX11_feed 42 = .ok (.aload_n 0, 1) := by decide +kernel
theorem dX11_feed_43 : decode cX11_feed 43 = .ok (.getfield 10, 3) := by decide +kernel
theorem dX11_feed_46 : decode cX11_feed 46 = .ok (.getfield 93, 3) := by decide +kernel
theorem dX11_feed_49 : decode cX11_feed 49 = .ok (.aload_n 0, 1) := by decide +kernel
theorem dX11_feed_50 : decode cX11_feed 50 = .ok (.getfield 10, 3) := by decide +kernel
theorem dX11_feed_53 : decode cX11_feed 53 = .ok (.getfield 90, 3) := by decide +kernel
theorem dX11_feed_56 : decode cX11_feed 56 = .ok (.lload_n 1, 1) := by decide +kernel
theorem dX11_feed_57 : decode cX11_feed 57 = .ok (.bipush 8, 2) := by decide +kernel
theorem dX11_feed_59 : decode cX11_feed 59 = .ok (.iload 4, 2) := by decide +kernel
theorem dX11_feed_61 : decode cX11_feed 61 = .ok (.imul, 1) := by decide +kernel
theorem dX11_feed_62 : decode cX11_feed 62 = .ok (.lshr, 1) := by decide +kernel
theorem dX11_feed_63 : decode cX11_feed 63 = .ok (.l2i, 1) := by decide +kernel
theorem dX11_feed_64 : decode cX11_feed 64 = .ok (.i2b, 1) := by decide +kernel
theorem dX11_feed_65 : decode cX11_feed 65 = .ok (.bastore, 1) := by decide +kernel
theorem dX11_feed_66 : decode cX11_feed 66 = .ok (.aload_n 0, 1) := by decide +kernel
theorem dX11_feed_67 : decode cX11_feed 67 = .ok (.getfield 10, 3) := by decide +kernel
theorem dX11_feed_70 : decode cX11_feed 70 = .ok (.dup, 1) := by decide +kernel
theorem dX11_feed_71 : decode cX11_feed 71 = .ok (.getfield 90, 3) := by decide +kernel
theorem dX11_feed_74 : decode cX11_feed 74 = .ok (.iconst 1, 1) := by decide +kernel
theorem dX11_feed_75 : decode cX11_feed 75 = .ok (.iadd, 1) := by decide +kernel
theorem dX11_feed_76 : decode cX11_feed 76 = .ok (.putfield 90, 3) := by decide +kernel
theorem dX11_feed_79 : decode cX11_feed 79 = .ok (.iinc 4 (-1), 3) := by decide +kernel
theorem dX11_feed_82 : decode cX11_feed 82 = .ok (.goto (-45), 3) := by decide +kernel
theorem dX11_feed_85 : decode cX11_feed 85 = .ok (.aload_n 0, 1) := by decide +kernel
theorem dX11_feed_86 : decode cX11_feed 86 = .ok (.getfield 10, 3) := by decide +kernel
theorem dX11_feed_89 : decode cX11_feed 89 = .ok (.getfield 90, 3) := by decide +kernel
theorem dX11_feed_92 : decode cX11_feed 92 = .ok (.ireturn, 1) := by decide +kernel
theorem cm_X11_feed : CM yX11_feed cX11_feed 5 (some .int) 2 11 := ⟨w_494, w_495, w_496, w_87, ⟨by decide +kernel, by decide +kernel, by decide +kernel⟩, ⟨_, _, rfl⟩, by decide⟩
noncomputable def f_X11_feed_37b (n : Nat) (rec37 : Int → MM → RR) (v0 v1 v4 : Int) (h : MM) : RR :=
  if v4 < 0 then
    gf h v0 11 0 fun r2 =>
    gf h r2 10 7 fun r3 =>
    some (r3, h)
  else
  gf h v0 11 0 fun r4 =>
  gf h r4 10 5 fun r5 =>
  gf h v0 11 0 fun r6 =>
  gf h r6 10 7 fun r7 =>
  wt h r5 102 r7 (b8 (b8 (wr (lsr v1 (wr (8 * v4)))))) fun h8 =>
  gf h8 v0 11 0 fun r9 =>
  gf h8 r9 10 7 fun r10 =>
  pf h8 r9 10 7 (wr (r10 + 1)) fun h11 =>
  lb (wr (v4 + (-1))) fun x12 =>
  rec37 x12 h11
noncomputable def f_X11_feed_37 (n : Nat)  (v0 v1 : Int) : Nat → Int → MM → RR
  | 0, _, _ => none
  | k + 1, v4, h => f_X11_feed_37b n  (f_X11_feed_37 n  v0 v1 k) v0 v1 v4 h
noncomputable def f_X11_feed (n : Nat) (v0 v1 v3 : Int) (h : MM) : RR :=
  bd (f_X11_within n v3 1 8 h) fun r1 h1 =>
  if r1 = 0 then
    some ((-2), h1)
  else
  gf h1 v0 11 0 fun r3 =>
  gf h1 r3 10 7 fun r4 =>
  if wr (r4 + v3) ≤ 140 then
    lb (wr (v3 - 1)) fun x6 =>
    f_X11_feed_37 n v0 v1 n x6 h1
  else
  some ((-4), h1)
set_option maxRecDepth 20000 in
theorem b_X11_feed_37b {g : GT} {Z : Int × MM} {n : Nat} (C : Cx g cX11_feed 5 yX11_feed 1 23) (hr : Rt g (some .int) 0 Z) {v0 v1 v4 : Int}  {rec37 : Int → MM → RR} (L37 : ∀ (u4 : Int) (h : MM), in32 u4 → rec37 u4 h = some Z → G g 37 [(2, v0), (1, v1), (4, 0), (3, 0), (0, u4)] [] h) (cv1 : in64 v1) (cv4 : in32 v4) {h : MM} (hf : f_X11_feed_37b n rec37 v0 v1 v4 h = some Z) : G g 37 [(2, v0), (1, v1), (4, 0), (3, 0), (0, v4)] [] h := by
  unfold f_X11_feed_37b at hf
  refine r_iload C dX11_feed_37 rfl ?_
  refine r_if_lt C dX11_feed_39 (tgt := 85) (by decide) cv4 (fun n1 => ?_) (fun n1 => ?_)
  · have hf := ite_p n1 hf
    refine r_aload_n C dX11_feed_85 rfl ?_
    obtain ⟨q2, hf⟩ := gf_s hf
    refine r_gf C ct11 (j := 0) (ji := 0) dX11_feed_86 q2 rfl rfl (by decide) w_440 rfl (fun c2 => ?_)
    obtain ⟨q3, hf⟩ := gf_s hf
    refine r_gf C ct10 (j := 7) (ji := 7) dX11_feed_89 q3 rfl rfl (by decide) w_313 rfl (fun c3 => ?_)
    have c3 : in32 _ := c3
    cases hf
    exact r_jret C hr dX11_feed_92 c3
  · have hf := ite_n n1 hf
    refine r_aload_n C dX11_feed_42 rfl ?_
    obtain ⟨q4, hf⟩ := gf_s hf
    refine r_gf C ct11 (j := 0) (ji := 0) dX11_feed_43 q4 rfl rfl (by decide) w_440 rfl (fun c4 => ?_)
    obtain ⟨q5, hf⟩ := gf_s hf
    refine r_gf C ct10 (j := 5) (ji := 5) dX11_feed_46 q5 rfl rfl (by decide) w_310 rfl (fun c5 => ?_)
    refine r_aload_n C dX11_feed_49 rfl ?_
    obtain ⟨q6, hf⟩ := gf_s hf
    refine r_gf C ct11 (j := 0) (ji := 0) dX11_feed_50 q6 rfl rfl (by decide) w_440 rfl (fun c6 => ?_)
    obtain ⟨q7, hf⟩ := gf_s hf
    refine r_gf C ct10 (j := 7) (ji := 7) dX11_feed_53 q7 rfl rfl (by decide) w_313 rfl (fun c7 => ?_)
    have c7 : in32 _ := c7
    refine r_lload_n C dX11_feed_56 rfl ?_
    refine r_bipush C dX11_feed_57 rfl ?_
    refine r_iload C dX11_feed_59 rfl ?_
    refine r_imul C dX11_feed_61 ?_
    refine r_lshr C dX11_feed_62 ?_
    refine r_l2i C dX11_feed_63 ?_
    refine r_i2b C dX11_feed_64 ?_
    obtain ⟨q8, hf⟩ := wt_s hf
    refine r_bast C dX11_feed_65 q8 rfl ?_
    refine r_aload_n C dX11_feed_66 rfl ?_
    obtain ⟨q9, hf⟩ := gf_s hf
    refine r_gf C ct11 (j := 0) (ji := 0) dX11_feed_67 q9 rfl rfl (by decide) w_440 rfl (fun c9 => ?_)
    refine r_dup C dX11_feed_70 (by decide) ?_
    obtain ⟨q10, hf⟩ := gf_s hf
    refine r_gf C ct10 (j := 7) (ji := 7) dX11_feed_71 q10 rfl rfl (by decide) w_313 rfl (fun c10 => ?_)
    have c10 : in32 _ := c10
    refine r_iconst C dX11_feed_74 ?_
    refine r_iadd C dX11_feed_75 ?_
    obtain ⟨q11, hf⟩ := pf_s hf
    refine r_pf C ct10 (j := 7) (ji := 7) dX11_feed_76 q11 rfl rfl (by decide) w_313 rfl (Or.inl rfl) nar_int (in32_t _) ?_
    obtain ⟨x12, e12, hf⟩ := lb_s hf
    have c12 : in32 x12 := by rw [e12]; exact (in32_t _)
    refine r_iincL C dX11_feed_79 rfl e12 (Nat.le_of_ble_eq_true rfl) rfl ?_
    refine r_goto C dX11_feed_82 (tgt := 37) (by decide) ?_
    exact G.mask [true, true, true, false, true] rfl rfl (L37 _ _ c12 hf)
set_option maxRecDepth 20000 in
theorem l_X11_feed_37 {g : GT} {Z : Int × MM} {n : Nat} (C : Cx g cX11_feed 5 yX11_feed 1 23) (hr : Rt g (some .int) 0 Z) {v0 v1 : Int}   (cv1 : in64 v1) : ∀ (k : Nat) (v4 : Int) (h : MM), in32 v4 → f_X11_feed_37 n  v0 v1 k v4 h = some Z → G g 37 [(2, v0), (1, v1), (4, 0), (3, 0), (0, v4)] [] h := by
  intro k
  induction k with
  | zero => intro v4 h cv4 hf; exact absurd hf (by intro z; cases z)
  | succ k ih => intro v4 h cv4 hf; exact b_X11_feed_37b C hr (rec37 := f_X11_feed_37 n  v0 v1 k)  ih cv1 cv4 (show f_X11_feed_37b n  (f_X11_feed_37 n  v0 v1 k) v0 v1 v4 h = some Z from hf)
set_option maxRecDepth 20000 in
theorem e_X11_feed {g : GT} {Z : Int × MM} {n : Nat} (C : Cx g cX11_feed 5 yX11_feed 1 23) (hr : Rt g (some .int) 0 Z) {v0 v1 v3 : Int} (cv0 : cK 2 v0) (cv1 : cK 1 v1) (cv3 : cK 0 v3) {h : MM} (hf : f_X11_feed n v0 v1 v3 h = some Z) : G g 0 [(2, v0), (1, v1), (4, 0), (0, v3), (3, 0)] [] h := by
  have cv1 : in64 v1 := cv1
  have cv3 : in32 v3 := cv3
  unfold f_X11_feed at hf
  refine r_iload_n C dX11_feed_0 rfl ?_
  refine r_i2l C dX11_feed_1 cv3 ?_
  refine r_iconst C dX11_feed_2 ?_
  refine r_bipush C dX11_feed_3 rfl ?_
  obtain ⟨r1, h1, hq1, hf⟩ := bd_s hf
  refine r_cS3 C (am_X11_within (gl g) n) cm_X11_within w_466 dX11_feed_5 ⟨Nat.le_of_ble_eq_true rfl, Nat.le_of_ble_eq_true rfl⟩ (in64_i cv3) (in32_of rfl) (in32_of rfl) rfl (Nat.le_of_ble_eq_true rfl) hq1 (by decide) (fun c1 => ?_)
  have c1 : in32 _ := c1
  refine r_if_ne C dX11_feed_8 (tgt := 14) (by decide) c1 (fun n2 => ?_) (fun n2 => ?_)
  · have hf := ite_n n2 hf
    refine r_aload_n C dX11_feed_14 rfl ?_
    obtain ⟨q3, hf⟩ := gf_s hf
    refine r_gf C ct11 (j := 0) (ji := 0) dX11_feed_15 q3 rfl rfl (by decide) w_440 rfl (fun c3 => ?_)
    obtain ⟨q4, hf⟩ := gf_s hf
    refine r_gf C ct10 (j := 7) (ji := 7) dX11_feed_18 q4 rfl rfl (by decide) w_313 rfl (fun c4 => ?_)
    have c4 : in32 _ := c4
    refine r_iload_n C dX11_feed_21 rfl ?_
    refine r_iadd C dX11_feed_22 ?_
    refine r_sipush C dX11_feed_23 rfl ?_
    refine r_icmp_le C dX11_feed_26 (tgt := 32) (by decide) (in32_t _) (in32_of rfl) (fun n5 => ?_) (fun n5 => ?_)
    · have hf := ite_p n5 hf
      refine r_iload_n C dX11_feed_32 rfl ?_
      refine r_iconst C dX11_feed_33 ?_
      refine r_isub C dX11_feed_34 ?_
      obtain ⟨x6, e6, hf⟩ := lb_s hf
      have c6 : in32 x6 := by rw [e6]; exact (in32_t _)
      refine r_istoreL C dX11_feed_35 e6 (Nat.le_of_ble_eq_true rfl) rfl ?_
      exact G.mask [true, true, true, false, true] rfl rfl (l_X11_feed_37 C hr  cv1 _ _ _ c6 hf)
    · have hf := ite_n n5 hf
      refine r_bipush C dX11_feed_29 rfl ?_
      cases hf
      exact r_jret C hr dX11_feed_31 (in32_of rfl)
  · have hf := ite_p n2 hf
    refine r_bipush C dX11_feed_11 rfl ?_
    cases hf
    exact r_jret C hr dX11_feed_13 (in32_of rfl)
set_option maxRecDepth 20000 in
theorem am_X11_feed (l : Launch) (n : Nat) : AM l yX11_feed cX11_feed 5 (some .int) 1 23 [2, 1, 0] 0 (un3 (f_X11_feed n)) := by
  refine AM.intro (by decide) (fun xs hx => ?_) (fun g xs h Z hl C hr hx hf => ?_)
  · obtain ⟨a0, a1, a2, rfl, c0, c1, c2⟩ := canL_3 hx
    exact Nat.le_of_ble_eq_true rfl
  · obtain ⟨a0, a1, a2, rfl, c0, c1, c2⟩ := canL_3 hx
    have hf := (un3_e _ a0 a1 a2 _).symm.trans hf
    exact e_X11_feed (n := n) C hr c0 c1 c2 hf
/-! LinesPromised.isDay(I)Z -/
theorem dX11_isDay_0 : decode cX11_isDay 0 = .ok (.iload_n 0, 1) := by decide +kernel
theorem dX11_isDay_1 : decode cX11_isDay 1 = .ok (.i2l, 1) := by decide +kernel
theorem dX11_isDay_2 : decode cX11_isDay 2 = .ok (.iconst 0, 1) := by decide +kernel
theorem dX11_isDay_3 : decode cX11_isDay 3 = .ok (.sipush 999, 3) := by decide +kernel
theorem dX11_isDay_6 : decode cX11_isDay 6 = .ok (.invokestatic 46, 3) := by decide +kernel
theorem dX11_isDay_9 : decode cX11_isDay 9 = .ok (.ireturn, 1) := by decide +kernel
theorem cm_X11_isDay : CMs yX11_isDay cX11_isDay 1 (some .boolean) 1 := ⟨w_502, w_503, w_87, ⟨by decide +kernel, by decide +kernel, by decide +kernel⟩⟩
noncomputable def f_X11_isDay (n : Nat) (v0 : Int) (h : MM) : RR :=
  bd (f_X11_within n v0 0 999 h) fun r1 h1 =>
  ck (isb r1) <|
  some (r1, h1)
set_option maxRecDepth 20000 in
theorem e_X11_isDay {g : GT} {Z : Int × MM} {n : Nat} (C : Cx g cX11_isDay 1 yX11_isDay 1 23) (hr : Rt g (some .boolean) 0 Z) {v0 : Int} (cv0 : cK 0 v0) {h : MM} (hf : f_X11_isDay n v0 h = some Z) : G g 0 [(0, v0)] [] h := by
  have cv0 : in32 v0 := cv0
  unfold f_X11_isDay at hf
  refine r_iload_n C dX11_isDay_0 rfl ?_
  refine r_i2l C dX11_isDay_1 cv0 ?_
  refine r_iconst C dX11_isDay_2 ?_
  refine r_sipush C dX11_isDay_3 rfl ?_
  obtain ⟨r1, h1, hq1, hf⟩ := bd_s hf
  refine r_cS3 C (am_X11_within (gl g) n) cm_X11_within w_466 dX11_isDay_6 ⟨Nat.le_of_ble_eq_true rfl, Nat.le_of_ble_eq_true rfl⟩ (in64_i cv0) (in32_of rfl) (in32_of rfl) rfl (Nat.le_of_ble_eq_true rfl) hq1 (by decide) (fun c1 => ?_)
  have c1 : in32 _ := c1
  obtain ⟨b2, hf⟩ := ck_s hf
  cases hf
  exact r_zret C hr dX11_isDay_9 b2
set_option maxRecDepth 20000 in
theorem am_X11_isDay (l : Launch) (n : Nat) : AM l yX11_isDay cX11_isDay 1 (some .boolean) 1 23 [0] 0 (un1 (f_X11_isDay n)) := by
  refine AM.intro (by decide) (fun xs hx => ?_) (fun g xs h Z hl C hr hx hf => ?_)
  · obtain ⟨a0, rfl, c0⟩ := canL_1 hx
    exact Nat.le_of_ble_eq_true rfl
  · obtain ⟨a0, rfl, c0⟩ := canL_1 hx
    have hf := (un1_e _ a0 _).symm.trans hf
    exact e_X11_isDay (n := n) C hr c0 hf
/-! java/util/Arrays.copyOf([BI)[B -/
theorem dJ7_copyOf_9075b_0 : decode cJ7_copyOf_9075b 0 = .ok (.iload_n 1, 1) := by decide +kernel
theorem dJ7_copyOf_9075b_1 : decode cJ7_copyOf_9075b 1 = .ok (.aload_n 0, 1) := by decide +kernel
theorem dJ7_copyOf_9075b_2 : decode cJ7_copyOf_9075b 2 = .ok (.arraylength, 1) := by decide +kernel
theorem dJ7_copyOf_9075b_3 : decode cJ7_copyOf_9075b 3 = .ok (.if_icmp .ne 11, 3) := by decide +kernel
theorem dJ7_copyOf_9075b_6 : decode cJ7_copyOf_9075b 6 = .ok (.aload_n 0, 1) := by decide +kernel
theorem dJ7_copyOf_9075b_7 : decode cJ7_copyOf_9075b 7 = .ok (.invokevirtual 310, 3) := by decide +kernel
theorem dJ7_copyOf_9075b_10 : decode cJ7_copyOf_9075b 10 = .ok (.checkcast 311, 3) := by decide +kernel
theorem dJ7_copyOf_9075b_13 : decode cJ7_copyOf_9075b 13 = .ok (.areturn, 1) := by decide +kernel
theorem dJ7_copyOf_9075b_14 : decode cJ7_copyOf_9075b 14 = .ok (.iload_n 1, 1) := by decide +kernel
theorem dJ7_copyOf_9075b_15 : decode cJ7_copyOf_9075b 15 = .ok (.newarray .byte, 2) := by decide +kernel
theorem dJ7_copyOf_9075b_17 : decode cJ7_copyOf_9075b 17 = .ok (.astore_n 2, 1) := by decide +kernel
theorem dJ7_copyOf_9075b_18 : decode cJ7_copyOf_9075b 18 = .ok (.aload_n 0, 1) := by decide +kernel
theorem dJ7_copyOf_9075b_19 : decode cJ7_copyOf_9075b 19 = .ok (.iconst 0, 1) := by decide +kernel
theorem dJ7_copyOf_9075b_20 : decode cJ7_copyOf_9075b 20 = .ok (.aload_n 2, 1) := by decide +kernel
theorem dJ7_copyOf_9075b_21 : decode cJ7_copyOf_9075b 21 = .ok (.iconst 0, 1) := by decide +kernel
theorem dJ7_copyOf_9075b_22 : decode cJ7_copyOf_9075b 22 = .ok (.aload_n 0, 1) := by decide +kernel
theorem dJ7_copyOf_9075b_23 : decode cJ7_copyOf_9075b 23 = .ok (.arraylength, 1) := by decide +kernel
theorem dJ7_copyOf_9075b_24 : decode cJ7_copyOf_9075b 24 = .ok (.iload_n 1, 1) := by decide +kernel
theorem dJ7_copyOf_9075b_25 : decode cJ7_copyOf_9075b 25 = .ok (.invokestatic 304, 3) := by decide +kernel
theorem dJ7_copyOf_9075b_28 : decode cJ7_copyOf_9075b 28 = .ok (.invokestatic 150, 3) := by decide +kernel
theorem dJ7_copyOf_9075b_31 : decode cJ7_copyOf_9075b 31 = .ok (.aload_n 2, 1) := by decide +kernel
theorem dJ7_copyOf_9075b_32 : decode cJ7_copyOf_9075b 32 = .ok (.areturn, 1) := by decide +kernel
theorem cm_J7_copyOf_9075b : CMs yJ7_copyOf_9075b cJ7_copyOf_9075b 3 (some (.array .byte)) 2 := ⟨w_514, w_515, w_99, ⟨by decide +kernel, by decide +kernel, by decide +kernel⟩⟩
noncomputable def f_J7_copyOf_9075b (n : Nat) (v0 v1 : Int) (h : MM) : RR :=
  al h v0 102 fun r1 =>
  if v1 = r1 then
    cln h 102 v0 fun r6 h6 =>
    gk2 h6 r6 102 <|
    some (r6, h6)
  else
  na h 102 v1 fun r3 h3 =>
  al h3 v0 102 fun r4 =>
  ac h3 102 v0 0 r3 0 (jmin r4 v1) fun h5 =>
  some (r3, h5)
set_option maxRecDepth 20000 in
theorem e_J7_copyOf_9075b {g : GT} {Z : Int × MM} {n : Nat} (C : Cx g cJ7_copyOf_9075b 3 yJ7_copyOf_9075b 1 60) (hr : Rt g (some (.array .byte)) 2 Z) {v0 v1 : Int} (cv0 : cK 2 v0) (cv1 : cK 0 v1) {h : MM} (hf : f_J7_copyOf_9075b n v0 v1 h = some Z) : G g 0 [(2, v0), (0, v1), (3, 0)] [] h := by
  have cv1 : in32 v1 := cv1
  unfold f_J7_copyOf_9075b at hf
  refine r_iload_n C dJ7_copyOf_9075b_0 rfl ?_
  refine r_aload_n C dJ7_copyOf_9075b_1 rfl ?_
  obtain ⟨q1, hf⟩ := al_s hf
  refine r_alen C (tn := 102) dJ7_copyOf_9075b_2 q1 rfl (by decide) (fun c1 _ => ?_)
  refine r_icmp_ne C dJ7_copyOf_9075b_3 (tgt := 14) (by decide) cv1 c1 (fun n2 => ?_) (fun n2 => ?_)
  · have hf := ite_n n2 hf
    refine r_iload_n C dJ7_copyOf_9075b_14 rfl ?_
    obtain ⟨q3, hf⟩ := na_s hf
    refine r_na C (tn := 102) (t := 102) dJ7_copyOf_9075b_15 q3 rfl (by decide) (by decide) w_297 ?_
    refine r_astore_n C dJ7_copyOf_9075b_17 (Nat.le_of_ble_eq_true rfl) rfl ?_
    refine r_aload_n C dJ7_copyOf_9075b_18 rfl ?_
    refine r_iconst C dJ7_copyOf_9075b_19 ?_
    refine r_aload_n C dJ7_copyOf_9075b_20 rfl ?_
    refine r_iconst C dJ7_copyOf_9075b_21 ?_
    refine r_aload_n C dJ7_copyOf_9075b_22 rfl ?_
    obtain ⟨q4, hf⟩ := al_s hf
    refine r_alen C (tn := 102) dJ7_copyOf_9075b_23 q4 rfl (by decide) (fun c4 _ => ?_)
    refine r_iload_n C dJ7_copyOf_9075b_24 rfl ?_
    refine r_mmin C dJ7_copyOf_9075b_25 w_523 ⟨Nat.le_of_ble_eq_true rfl, Nat.le_of_ble_eq_true rfl⟩ rfl c4 cv1 ?_
    obtain ⟨q5, hf⟩ := ac_s hf
    refine r_acopy C (t := 102) dJ7_copyOf_9075b_28 q5 rfl (by decide) (by decide) w_526 wa1 wa2 wa3 ⟨Nat.le_of_ble_eq_true rfl, by decide⟩ rfl ?_
    refine r_aload_n C dJ7_copyOf_9075b_31 rfl ?_
    cases hf
    exact r_aret C hr dJ7_copyOf_9075b_32 (Or.inr ⟨_, rfl⟩)
  · have hf := ite_p n2 hf
    refine r_aload_n C dJ7_copyOf_9075b_6 rfl ?_
    obtain ⟨q6, hf⟩ := cln_s hf
    refine r_aclone C (t := 102) dJ7_copyOf_9075b_7 q6 rfl (by decide) (by decide) rfl w_516 wc102a wc1 wc2 wc102b C.hK.2.2.2.2.2.2.2.2.1 ⟨Nat.le_of_ble_eq_true rfl, Nat.le_of_ble_eq_true rfl⟩ rfl ?_
    obtain ⟨p7, hf⟩ := gk2_s hf
    refine r_ccast C (t := 102) dJ7_copyOf_9075b_10 w_522 p7 rfl (by decide) (by decide) rfl ?_
    cases hf
    exact r_aret C hr dJ7_copyOf_9075b_13 (Or.inr ⟨_, rfl⟩)
set_option maxRecDepth 20000 in
theorem am_J7_copyOf_9075b (l : Launch) (n : Nat) : AM l yJ7_copyOf_9075b cJ7_copyOf_9075b 3 (some (.array .byte)) 1 60 [2, 0] 2 (un2 (f_J7_copyOf_9075b n)) := by
  refine AM.intro (by decide) (fun xs hx => ?_) (fun g xs h Z hl C hr hx hf => ?_)
  · obtain ⟨a0, a1, rfl, c0, c1⟩ := canL_2 hx
    exact Nat.le_of_ble_eq_true rfl
  · obtain ⟨a0, a1, rfl, c0, c1⟩ := canL_2 hx
    have hf := (un2_e _ a0 a1 _).symm.trans hf
    exact e_J7_copyOf_9075b (n := n) C hr c0 c1 hf
/-! java/util/Arrays.fill([II)V -/
theorem dJ7_fill_53178_0 : decode cJ7_fill_53178 0 = .ok (.iconst 0, 1) := by decide +kernel
theorem dJ7_fill_53178_1 : decode cJ7_fill_53178 1 = .ok (.istore_n 2, 1) := by decide +kernel
theorem dJ7_fill_53178_2 : decode cJ7_fill_53178 2 = .ok (.aload_n 0, 1) := by decide +kernel
theorem dJ7_fill_53178_3 : decode cJ7_fill_53178 3 = .ok (.arraylength, 1) := by decide +kernel
theorem dJ7_fill_53178_4 : decode cJ7_fill_53178 4 = .ok (.istore_n 3, 1) := by decide +kernel
theorem dJ7_fill_53178_5 : decode cJ7_fill_53178 5 = .ok (.iload_n 2, 1) := by decide +kernel
theorem dJ7_fill_53178_6 : decode cJ7_fill_53178 6 = .ok (.iload_n 3, 1) := by decide +kernel
theorem dJ7_fill_53178_7 : decode cJ7_fill_53178 7 = .ok (.if_icmp .ge 13, 3) := by decide +kernel
theorem dJ7_fill_53178_10 : decode cJ7_fill_53178 10 = .ok (.aload_n 0, 1) := by decide +kernel
theorem dJ7_fill_53178_11 : decode cJ7_fill_53178 11 = .ok (.iload_n 2, 1) := by decide +kernel
theorem dJ7_fill_53178_12 : decode cJ7_fill_53178 12 = .ok (.iload_n 1, 1) := by decide +kernel
theorem dJ7_fill_53178_13 : decode cJ7_fill_53178 13 = .ok (.iastore, 1) := by decide +kernel
theorem dJ7_fill_53178_14 : decode cJ7_fill_53178 14 = .ok (.iinc 2 1, 3) := by decide +kernel
theorem dJ7_fill_53178_17 : decode cJ7_fill_53178 17 = .ok (.goto (-12), 3) := by decide +kernel
theorem dJ7_fill_53178_20 : decode cJ7_fill_53178 20 = .ok (.return_, 1) := by decide +kernel
theorem cm_J7_fill_53178 : CMs yJ7_fill_53178 cJ7_fill_53178 4 none 2 := ⟨w_530, w_531, w_99, ⟨by decide +kernel, by decide +kernel, by decide +kernel⟩⟩
noncomputable def f_J7_fill_53178_5b (n : Nat) (rec5 : Int → MM → RR) (v0 v1 v2 v3 : Int) (h : MM) : RR :=
  if v3 ≤ v2 then
    some (0, h)
  else
  wt h v0 100 v2 v1 fun h2 =>
  lb (wr (v2 + 1)) fun x3 =>
  rec5 x3 h2
noncomputable def f_J7_fill_53178_5 (n : Nat)  (v0 v1 v3 : Int) : Nat → Int → MM → RR
  | 0, _, _ => none
  | k + 1, v2, h => f_J7_fill_53178_5b n  (f_J7_fill_53178_5 n  v0 v1 v3 k) v0 v1 v2 v3 h
noncomputable def f_J7_fill_53178 (n : Nat) (v0 v1 : Int) (h : MM) : RR :=
  al h v0 100 fun r1 =>
  f_J7_fill_53178_5 n v0 v1 r1 n 0 h
set_option maxRecDepth 20000 in
theorem b_J7_fill_53178_5b {g : GT} {Z : Int × MM} {n : Nat} (C : Cx g cJ7_fill_53178 4 yJ7_fill_53178 0 0) (hr : Rt g none 3 Z) {v0 v1 v2 v3 : Int}  {rec5 : Int → MM → RR} (L5 : ∀ (u2 : Int) (h : MM), in32 u2 → rec5 u2 h = some Z → G g 5 [(2, v0), (0, v1), (0, u2), (0, v3)] [] h) (cv1 : in32 v1) (cv2 : in32 v2) (cv3 : in32 v3) {h : MM} (hf : f_J7_fill_53178_5b n rec5 v0 v1 v2 v3 h = some Z) : G g 5 [(2, v0), (0, v1), (0, v2), (0, v3)] [] h := by
  unfold f_J7_fill_53178_5b at hf
  refine r_iload_n C dJ7_fill_53178_5 rfl ?_
  refine r_iload_n C dJ7_fill_53178_6 rfl ?_
  refine r_icmp_ge C dJ7_fill_53178_7 (tgt := 20) (by decide) cv2 cv3 (fun n1 => ?_) (fun n1 => ?_)
  · have hf := ite_p n1 hf
    cases hf
    exact r_vret C hr dJ7_fill_53178_20
  · have hf := ite_n n1 hf
    refine r_aload_n C dJ7_fill_53178_10 rfl ?_
    refine r_iload_n C dJ7_fill_53178_11 rfl ?_
    refine r_iload_n C dJ7_fill_53178_12 rfl ?_
    obtain ⟨q2, hf⟩ := wt_s hf
    refine r_iast C dJ7_fill_53178_13 q2 rfl cv1 ?_
    obtain ⟨x3, e3, hf⟩ := lb_s hf
    have c3 : in32 x3 := by rw [e3]; exact (in32_t _)
    refine r_iincL C dJ7_fill_53178_14 rfl e3 (Nat.le_of_ble_eq_true rfl) rfl ?_
    refine r_goto C dJ7_fill_53178_17 (tgt := 5) (by decide) ?_
    exact G.mask [true, true, true, true] rfl rfl (L5 _ _ c3 hf)
set_option maxRecDepth 20000 in
theorem l_J7_fill_53178_5 {g : GT} {Z : Int × MM} {n : Nat} (C : Cx g cJ7_fill_53178 4 yJ7_fill_53178 0 0) (hr : Rt g none 3 Z) {v0 v1 v3 : Int}   (cv1 : in32 v1) (cv3 : in32 v3) : ∀ (k : Nat) (v2 : Int) (h : MM), in32 v2 → f_J7_fill_53178_5 n  v0 v1 v3 k v2 h = some Z → G g 5 [(2, v0), (0, v1), (0, v2), (0, v3)] [] h := by
  intro k
  induction k with
  | zero => intro v2 h cv2 hf; exact absurd hf (by intro z; cases z)
  | succ k ih => intro v2 h cv2 hf; exact b_J7_fill_53178_5b C hr (rec5 := f_J7_fill_53178_5 n  v0 v1 v3 k)  ih cv1 cv2 cv3 (show f_J7_fill_53178_5b n  (f_J7_fill_53178_5 n  v0 v1 v3 k) v0 v1 v2 v3 h = some Z from hf)
set_option maxRecDepth 20000 in
theorem e_J7_fill_53178 {g : GT} {Z : Int × MM} {n : Nat} (C : Cx g cJ7_fill_53178 4 yJ7_fill_53178 0 0) (hr : Rt g none 3 Z) {v0 v1 : Int} (cv0 : cK 2 v0) (cv1 : cK 0 v1) {h : MM} (hf : f_J7_fill_53178 n v0 v1 h = some Z) : G g 0 [(2, v0), (0, v1), (3, 0), (3, 0)] [] h := by
  have cv1 : in32 v1 := cv1
  unfold f_J7_fill_53178 at hf
  refine r_iconst C dJ7_fill_53178_0 ?_
  refine r_istore_n C dJ7_fill_53178_1 (Nat.le_of_ble_eq_true rfl) rfl ?_
  refine r_aload_n C dJ7_fill_53178_2 rfl ?_
  obtain ⟨q1, hf⟩ := al_s hf
  refine r_alen C (tn := 100) dJ7_fill_53178_3 q1 rfl (by decide) (fun c1 _ => ?_)
  refine r_istore_n C dJ7_fill_53178_4 (Nat.le_of_ble_eq_true rfl) rfl ?_
  exact G.mask [true, true, true, true] rfl rfl (l_J7_fill_53178_5 C hr  cv1 c1 _ _ _ (in32_of rfl) hf)
set_option maxRecDepth 20000 in
theorem am_J7_fill_53178 (l : Launch) (n : Nat) : AM l yJ7_fill_53178 cJ7_fill_53178 4 none 0 0 [2, 0] 3 (un2 (f_J7_fill_53178 n)) := by
  refine AM.intro (by decide) (fun xs hx => ?_) (fun g xs h Z hl C hr hx hf => ?_)
  · obtain ⟨a0, a1, rfl, c0, c1⟩ := canL_2 hx
    exact Nat.le_of_ble_eq_true rfl
  · obtain ⟨a0, a1, rfl, c0, c1⟩ := canL_2 hx
    have hf := (un2_e _ a0 a1 _).symm.trans hf
    exact e_J7_fill_53178 (n := n) C hr c0 c1 hf
/-! LinesPromised$Order.<init>(I[BI)V -/
theorem dX3_init_0 : decode cX3_init 0 = .ok (.aload_n 0, 1) := by decide +kernel
theorem dX3_init_1 : decode cX3_init 1 = .ok (.invokespecial 3, 3) := by decide +kernel
theorem dX3_init_4 : decode cX3_init 4 = .ok (.aload_n 0, 1) := by decide +kernel
theorem dX3_init_5 : decode cX3_init 5 = .ok (.bipush 7, 2) := by decide +kernel
theorem dX3_init_7 : decode cX3_init 7 = .ok (.newarray .int, 2) := by decide +kernel
theorem dX3_init_9 : decode cX3_init 9 = .ok (.putfield 9, 3) := by decide +kernel
theorem dX3_init_12 : decode cX3_init 12 = .ok (.aload_n 0, 1) := by decide +kernel
theorem dX3_init_13 : decode cX3_init 13 = .ok (.bipush 7, 2) := by decide +kernel
theorem dX3_init_15 : decode cX3_init 15 = .ok (.newarray .int, 2) := by decide +kernel
theorem dX3_init_17 : decode cX3_init 17 = .ok (.putfield 15, 3) := by decide +kernel
theorem dX3_init_20 : decode cX3_init 20 = .ok (.aload_n 0, 1) := by decide +kernel
theorem dX3_init_21 : decode cX3_init 21 = .ok (.bipush 6, 2) := by decide +kernel
theorem dX3_init_23 : decode cX3_init 23 = .ok (.newarray .int, 2) := by decide +kernel
theorem dX3_init_25 : decode cX3_init 25 = .ok (.putfield 18, 3) := by decide +kernel
theorem dX3_init_28 : decode cX3_init 28 = .ok (.aload_n 0, 1) := by decide +kernel
theorem dX3_init_29 : decode cX3_init 29 = .ok (.iload_n 1, 1) := by decide +kernel
theorem dX3_init_30 : decode cX3_init 30 = .ok (.putfield 21, 3) := by decide +kernel
theorem dX3_init_33 : decode cX3_init 33 = .ok (.aload_n 0, 1) := by decide +kernel
theorem dX3_init_34 : decode cX3_init 34 = .ok (.aload_n 2, 1) := by decide +kernel
theorem dX3_init_35 : decode cX3_init 35 = .ok (.iload_n 3, 1) := by decide +kernel
theorem dX3_init_36 : decode cX3_init 36 = .ok (.invokestatic 25, 3) := by decide +kernel
theorem dX3_init_39 : decode cX3_init 39 = .ok (.putfield 31, 3) := by decide +kernel
theorem dX3_init_42 : decode cX3_init 42 = .ok (.aload_n 0, 1) := by decide +kernel
theorem dX3_init_43 : decode cX3_init 43 = .ok (.getfield 15, 3) := by decide +kernel
theorem dX3_init_46 : decode cX3_init 46 = .ok (.iconst (-1), 1) := by decide +kernel
theorem dX3_init_47 : decode cX3_init 47 = .ok (.invokestatic 35, 3) := by decide +kernel
theorem dX3_init_50 : decode cX3_init 50 = .ok (.return_, 1) := by decide +kernel
theorem cm_X3_init : CMi yX3_init cX3_init 4 3 := ⟨w_510, w_511, w_98, rfl, ⟨by decide +kernel, by decide +kernel, by decide +kernel⟩⟩
noncomputable def f_X3_init (n : Nat) (v0 v1 v2 v3 : Int) (h : MM) : RR :=
  nz v0 <|
  na h 100 7 fun r2 h2 =>
  pf h2 v0 3 2 r2 fun h3 =>
  na h3 100 7 fun r4 h4 =>
  pf h4 v0 3 3 r4 fun h5 =>
  na h5 100 6 fun r6 h6 =>
  pf h6 v0 3 4 r6 fun h7 =>
  pf h7 v0 3 0 v1 fun h8 =>
  bd (f_J7_copyOf_9075b n v2 v3 h8) fun r9 h9 =>
  pf h9 v0 3 1 r9 fun h10 =>
  gf h10 v0 3 3 fun r11 =>
  bd (f_J7_fill_53178 n r11 ((-1)) h10) fun r12 h12 =>
  some (0, h12)
set_option maxRecDepth 20000 in
theorem e_X3_init {g : GT} {Z : Int × MM} {n : Nat} (C : Cx g cX3_init 4 yX3_init 2 82) (hr : Rt g none 3 Z) {v0 v1 v2 v3 : Int} (cv0 : cK 2 v0) (cv1 : cK 0 v1) (cv2 : cK 2 v2) (cv3 : cK 0 v3) {h : MM} (hf : f_X3_init n v0 v1 v2 v3 h = some Z) : G g 0 [(2, v0), (0, v1), (2, v2), (0, v3)] [] h := by
  have cv1 : in32 v1 := cv1
  have cv3 : in32 v3 := cv3
  unfold f_X3_init at hf
  refine r_aload_n C dX3_init_0 rfl ?_
  obtain ⟨q1, hf⟩ := nz_s hf
  refine r_obj C dX3_init_1 w_512 wo1 wo2 ⟨Nat.le_of_ble_eq_true rfl, Nat.le_of_ble_eq_true rfl⟩ q1 rfl ?_
  refine r_aload_n C dX3_init_4 rfl ?_
  refine r_bipush C dX3_init_5 rfl ?_
  obtain ⟨q2, hf⟩ := na_s hf
  refine r_na C (tn := 100) (t := 100) dX3_init_7 q2 rfl (by decide) (by decide) w_156 ?_
  obtain ⟨q3, hf⟩ := pf_s hf
  refine r_pf C ct3 (j := 2) (ji := 2) dX3_init_9 q3 rfl rfl (by decide) w_535 rfl (Or.inr ⟨rfl, rfl, rfl⟩) nar_arr trivial ?_
  refine r_aload_n C dX3_init_12 rfl ?_
  refine r_bipush C dX3_init_13 rfl ?_
  obtain ⟨q4, hf⟩ := na_s hf
  refine r_na C (tn := 100) (t := 100) dX3_init_15 q4 rfl (by decide) (by decide) w_156 ?_
  obtain ⟨q5, hf⟩ := pf_s hf
  refine r_pf C ct3 (j := 3) (ji := 3) dX3_init_17 q5 rfl rfl (by decide) w_537 rfl (Or.inr ⟨rfl, rfl, rfl⟩) nar_arr trivial ?_
  refine r_aload_n C dX3_init_20 rfl ?_
  refine r_bipush C dX3_init_21 rfl ?_
  obtain ⟨q6, hf⟩ := na_s hf
  refine r_na C (tn := 100) (t := 100) dX3_init_23 q6 rfl (by decide) (by decide) w_156 ?_
  obtain ⟨q7, hf⟩ := pf_s hf
  refine r_pf C ct3 (j := 4) (ji := 4) dX3_init_25 q7 rfl rfl (by decide) w_540 rfl (Or.inr ⟨rfl, rfl, rfl⟩) nar_arr trivial ?_
  refine r_aload_n C dX3_init_28 rfl ?_
  refine r_iload_n C dX3_init_29 rfl ?_
  obtain ⟨q8, hf⟩ := pf_s hf
  refine r_pf C ct3 (j := 0) (ji := 0) dX3_init_30 q8 rfl rfl (by decide) w_532 rfl (Or.inr ⟨rfl, rfl, rfl⟩) nar_int cv1 ?_
  refine r_aload_n C dX3_init_33 rfl ?_
  refine r_aload_n C dX3_init_34 rfl ?_
  refine r_iload_n C dX3_init_35 rfl ?_
  obtain ⟨r9, h9, hq9, hf⟩ := bd_s hf
  refine r_cS2 C (am_J7_copyOf_9075b (gl g) n) cm_J7_copyOf_9075b w_513 dX3_init_36 ⟨Nat.le_of_ble_eq_true rfl, Nat.le_of_ble_eq_true rfl⟩ trivial cv3 rfl (Nat.le_of_ble_eq_true rfl) hq9 (by decide) (fun c9 => ?_)
  obtain ⟨q10, hf⟩ := pf_s hf
  refine r_pf C ct3 (j := 1) (ji := 1) dX3_init_39 q10 rfl rfl (by decide) w_534 rfl (Or.inr ⟨rfl, rfl, rfl⟩) nar_arr trivial ?_
  refine r_aload_n C dX3_init_42 rfl ?_
  obtain ⟨q11, hf⟩ := gf_s hf
  refine r_gf C ct3 (j := 3) (ji := 3) dX3_init_43 q11 rfl rfl (by decide) w_537 rfl (fun c11 => ?_)
  refine r_iconst C dX3_init_46 ?_
  obtain ⟨r12, h12, hq12, hf⟩ := bd_s hf
  refine r_cS2v C (am_J7_fill_53178 (gl g) n) cm_J7_fill_53178 w_529 dX3_init_47 ⟨Nat.le_of_ble_eq_true rfl, Nat.le_of_ble_eq_true rfl⟩ trivial (in32_of rfl) rfl (Nat.le_of_ble_eq_true rfl) hq12 ?_
  cases hf
  exact r_vret C hr dX3_init_50
set_option maxRecDepth 20000 in
theorem am_X3_init (l : Launch) (n : Nat) : AM l yX3_init cX3_init 4 none 2 82 [2, 0, 2, 0] 3 (un4 (f_X3_init n)) := by
  refine AM.intro (by decide) (fun xs hx => ?_) (fun g xs h Z hl C hr hx hf => ?_)
  · obtain ⟨a0, a1, a2, a3, rfl, c0, c1, c2, c3⟩ := canL_4 hx
    exact Nat.le_of_ble_eq_true rfl
  · obtain ⟨a0, a1, a2, a3, rfl, c0, c1, c2, c3⟩ := canL_4 hx
    have hf := (un4_e _ a0 a1 a2 a3 _).symm.trans hf
    exact e_X3_init (n := n) C hr c0 c1 c2 c3 hf
/-! LinesPromised$World.takeTape(I)LLinesPromised$Order; -/
theorem dX10_takeTape_0 : decode cX10_takeTape 0 = .ok (.new 49, 3) := by decide +kernel
theorem dX10_takeTape_3 : decode cX10_takeTape 3 = .ok (.dup, 1) := by decide +kernel
theorem dX10_takeTape_4 : decode cX10_takeTape 4 = .ok (.iload_n 1, 1) := by decide +kernel
theorem dX10_takeTape_5 : decode cX10_takeTape 5 = .ok (.aload_n 0, 1) := by decide +kernel
theorem dX10_takeTape_6 : decode cX10_takeTape 6 = .ok (.getfield 45, 3) := by decide +kernel
theorem dX10_takeTape_9 : decode cX10_takeTape 9 = .ok (.aload_n 0, 1) := by decide +kernel
theorem dX10_takeTape_10 : decode cX10_takeTape 10 = .ok (.getfield 78, 3) := by decide +kernel
theorem dX10_takeTape_13 : decode cX10_takeTape 13 = .ok (.invokespecial 91, 3) := by decide +kernel
theorem dX10_takeTape_16 : decode cX10_takeTape 16 = .ok (.astore_n 2, 1) := by decide +kernel
theorem dX10_takeTape_17 : decode cX10_takeTape 17 = .ok (.aload_n 0, 1) := by decide +kernel
theorem dX10_takeTape_18 : decode cX10_takeTape 18 = .ok (.iconst 0, 1) := by decide +kernel
theorem dX10_takeTape_19 : decode cX10_takeTape 19 = .ok (.putfield 78, 3) := by decide +kernel
theorem dX10_takeTape_22 : decode cX10_takeTape 22 = .ok (.aload_n 2, 1) := by decide +kernel
theorem dX10_takeTape_23 : decode cX10_takeTape 23 = .ok (.areturn, 1) := by decide +kernel
theorem cm_X10_takeTape : CM yX10_takeTape cX10_takeTape 3 (some (.object "LinesPromised$Order")) 1 10 := ⟨w_505, w_506, w_507, w_88, ⟨by decide +kernel, by decide +kernel, by decide +kernel⟩, ⟨_, _, rfl⟩, by decide⟩
noncomputable def f_X10_takeTape (n : Nat) (v0 v1 : Int) (h : MM) : RR :=
  nw h 3 6 fun r1 h1 =>
  gf h1 v0 10 5 fun r2 =>
  gf h1 v0 10 7 fun r3 =>
  nz r1 <|
  bd (f_X3_init n r1 v1 r2 r3 h1) fun r4 h4 =>
  pf h4 v0 10 7 0 fun h5 =>
  some (r1, h5)
set_option maxRecDepth 20000 in
theorem e_X10_takeTape {g : GT} {Z : Int × MM} {n : Nat} (C : Cx g cX10_takeTape 3 yX10_takeTape 3 105) (hr : Rt g (some (.object "LinesPromised$Order")) 2 Z) {v0 v1 : Int} (cv0 : cK 2 v0) (cv1 : cK 0 v1) {h : MM} (hf : f_X10_takeTape n v0 v1 h = some Z) : G g 0 [(2, v0), (0, v1), (3, 0)] [] h := by
  have cv1 : in32 v1 := cv1
  unfold f_X10_takeTape at hf
  obtain ⟨q1, hf⟩ := nw_s hf
  refine r_new C ct3 cf3 (ti := 3) (ni := 6) dX10_takeTape_0 q1 rfl rfl w_273 w_508 w_98 ?_
  refine r_dup C dX10_takeTape_3 (by decide) ?_
  refine r_iload_n C dX10_takeTape_4 rfl ?_
  refine r_aload_n C dX10_takeTape_5 rfl ?_
  obtain ⟨q2, hf⟩ := gf_s hf
  refine r_gf C ct10 (j := 5) (ji := 5) dX10_takeTape_6 q2 rfl rfl (by decide) w_309 rfl (fun c2 => ?_)
  refine r_aload_n C dX10_takeTape_9 rfl ?_
  obtain ⟨q3, hf⟩ := gf_s hf
  refine r_gf C ct10 (j := 7) (ji := 7) dX10_takeTape_10 q3 rfl rfl (by decide) w_312 rfl (fun c3 => ?_)
  have c3 : in32 _ := c3
  obtain ⟨p4, hf⟩ := nz_s hf
  obtain ⟨r4, h4, hq4, hf⟩ := bd_s hf
  refine r_cI3 C (am_X3_init (gl g) n) cm_X3_init w_509 dX10_takeTape_13 ⟨Nat.le_of_ble_eq_true rfl, Nat.le_of_ble_eq_true rfl⟩ p4 cv1 trivial c3 rfl (Nat.le_of_ble_eq_true rfl) hq4 ?_
  refine r_astore_n C dX10_takeTape_16 (Nat.le_of_ble_eq_true rfl) rfl ?_
  refine r_aload_n C dX10_takeTape_17 rfl ?_
  refine r_iconst C dX10_takeTape_18 ?_
  obtain ⟨q5, hf⟩ := pf_s hf
  refine r_pf C ct10 (j := 7) (ji := 7) dX10_takeTape_19 q5 rfl rfl (by decide) w_312 rfl (Or.inl rfl) nar_int (in32_of rfl) ?_
  refine r_aload_n C dX10_takeTape_22 rfl ?_
  cases hf
  exact r_aret C hr dX10_takeTape_23 (Or.inl ⟨_, rfl⟩)
set_option maxRecDepth 20000 in
theorem am_X10_takeTape (l : Launch) (n : Nat) : AM l yX10_takeTape cX10_takeTape 3 (some (.object "LinesPromised$Order")) 3 105 [2, 0] 2 (un2 (f_X10_takeTape n)) := by
  refine AM.intro (by decide) (fun xs hx => ?_) (fun g xs h Z hl C hr hx hf => ?_)
  · obtain ⟨a0, a1, rfl, c0, c1⟩ := canL_2 hx
    exact Nat.le_of_ble_eq_true rfl
  · obtain ⟨a0, a1, rfl, c0, c1⟩ := canL_2 hx
    have hf := (un2_e _ a0 a1 _).symm.trans hf
    exact e_X10_takeTape (n := n) C hr c0 c1 hf
/-! LinesPromised$Order.nameOf(I)Ljava/lang/String; -/
theorem dX3_nameOf_0 : decode cX3_nameOf 0 = .ok (.iload_n 0, 1) := by decide +kernel
theorem dX3_nameOf_1 : decode cX3_nameOf 1 = .ok (.tableswitch 57 0 5 #[39, 42, 45, 48, 51, 54], 39) := by decide +kernel
theorem dX3_nameOf_40 : decode cX3_nameOf 40 = .ok (.ldc 50, 2) := by decide +kernel
theorem dX3_nameOf_42 : decode cX3_nameOf 42 = .ok (.areturn, 1) := by decide +kernel
theorem dX3_nameOf_43 : decode cX3_nameOf 43 = .ok (.ldc 52, 2) := by decide +kernel
theorem dX3_nameOf_45 : decode cX3_nameOf 45 = .ok (.areturn, 1) := by decide +kernel
theorem dX3_nameOf_46 : decode cX3_nameOf 46 = .ok (.ldc 54, 2) := by decide +kernel
theorem dX3_nameOf_48 : decode cX3_nameOf 48 = .ok (.areturn, 1) := by decide +kernel
theorem dX3_nameOf_49 : decode cX3_nameOf 49 = .ok (.ldc 56, 2) := by decide +kernel
theorem dX3_nameOf_51 : decode cX3_nameOf 51 = .ok (.areturn, 1) := by decide +kernel
theorem dX3_nameOf_52 : decode cX3_nameOf 52 = .ok (.ldc 58, 2) := by decide +kernel
theorem dX3_nameOf_54 : decode cX3_nameOf 54 = .ok (.areturn, 1) := by decide +kernel
theorem dX3_nameOf_55 : decode cX3_nameOf 55 = .ok (.ldc 60, 2) := by decide +kernel
theorem dX3_nameOf_57 : decode cX3_nameOf 57 = .ok (.areturn, 1) := by decide +kernel
theorem dX3_nameOf_58 : decode cX3_nameOf 58 = .ok (.ldc 62, 2) := by decide +kernel
theorem dX3_nameOf_60 : decode cX3_nameOf 60 = .ok (.areturn, 1) := by decide +kernel
theorem cm_X3_nameOf : CMs yX3_nameOf cX3_nameOf 1 (some (.object "java/lang/String")) 1 := ⟨w_569, w_570, w_98, ⟨by decide +kernel, by decide +kernel, by decide +kernel⟩⟩
noncomputable def f_X3_nameOf (n : Nat) (v0 : Int) (h : MM) : RR :=
  if v0 = 0 then
    some (10, h)
  else
  if v0 = 1 then
    some (11, h)
  else
  if v0 = 2 then
    some (12, h)
  else
  if v0 = 3 then
    some (13, h)
  else
  if v0 = 4 then
    some (14, h)
  else
  if v0 = 5 then
    some (15, h)
  else
  some (16, h)
set_option maxRecDepth 20000 in
theorem e_X3_nameOf {g : GT} {Z : Int × MM} {n : Nat} (C : Cx g cX3_nameOf 1 yX3_nameOf 0 0) (hr : Rt g (some (.object "java/lang/String")) 2 Z) {v0 : Int} (cv0 : cK 0 v0) {h : MM} (hf : f_X3_nameOf n v0 h = some Z) : G g 0 [(0, v0)] [] h := by
  have cv0 : in32 v0 := cv0
  unfold f_X3_nameOf at hf
  refine r_iload_n C dX3_nameOf_0 rfl ?_
  rcases ite_s hf with ⟨n1, hf⟩ | ⟨n1, hf⟩
  · refine r_tsw C dX3_nameOf_1 (tgt := 40) cv0 n1 rfl rfl (by decide) ?_
    refine r_ldcO C (i := 0) (v := 10) dX3_nameOf_40 rfl (by decide) rfl rfl ?_
    cases hf
    exact r_aret C hr dX3_nameOf_42 (Or.inl ⟨_, rfl⟩)
  rcases ite_s hf with ⟨n2, hf⟩ | ⟨n2, hf⟩
  · refine r_tsw C dX3_nameOf_1 (tgt := 43) cv0 n2 rfl rfl (by decide) ?_
    refine r_ldcO C (i := 1) (v := 11) dX3_nameOf_43 rfl (by decide) rfl rfl ?_
    cases hf
    exact r_aret C hr dX3_nameOf_45 (Or.inl ⟨_, rfl⟩)
  rcases ite_s hf with ⟨n3, hf⟩ | ⟨n3, hf⟩
  · refine r_tsw C dX3_nameOf_1 (tgt := 46) cv0 n3 rfl rfl (by decide) ?_
    refine r_ldcO C (i := 2) (v := 12) dX3_nameOf_46 rfl (by decide) rfl rfl ?_
    cases hf
    exact r_aret C hr dX3_nameOf_48 (Or.inl ⟨_, rfl⟩)
  rcases ite_s hf with ⟨n4, hf⟩ | ⟨n4, hf⟩
  · refine r_tsw C dX3_nameOf_1 (tgt := 49) cv0 n4 rfl rfl (by decide) ?_
    refine r_ldcO C (i := 3) (v := 13) dX3_nameOf_49 rfl (by decide) rfl rfl ?_
    cases hf
    exact r_aret C hr dX3_nameOf_51 (Or.inl ⟨_, rfl⟩)
  rcases ite_s hf with ⟨n5, hf⟩ | ⟨n5, hf⟩
  · refine r_tsw C dX3_nameOf_1 (tgt := 52) cv0 n5 rfl rfl (by decide) ?_
    refine r_ldcO C (i := 4) (v := 14) dX3_nameOf_52 rfl (by decide) rfl rfl ?_
    cases hf
    exact r_aret C hr dX3_nameOf_54 (Or.inl ⟨_, rfl⟩)
  rcases ite_s hf with ⟨n6, hf⟩ | ⟨n6, hf⟩
  · refine r_tsw C dX3_nameOf_1 (tgt := 55) cv0 n6 rfl rfl (by decide) ?_
    refine r_ldcO C (i := 5) (v := 15) dX3_nameOf_55 rfl (by decide) rfl rfl ?_
    cases hf
    exact r_aret C hr dX3_nameOf_57 (Or.inl ⟨_, rfl⟩)
  refine r_tswd C dX3_nameOf_1 (tgt := 58) cv0 (by omega) (by decide) ?_
  refine r_ldcO C (i := 6) (v := 16) dX3_nameOf_58 rfl (by decide) rfl rfl ?_
  cases hf
  exact r_aret C hr dX3_nameOf_60 (Or.inl ⟨_, rfl⟩)
set_option maxRecDepth 20000 in
theorem am_X3_nameOf (l : Launch) (n : Nat) : AM l yX3_nameOf cX3_nameOf 1 (some (.object "java/lang/String")) 0 0 [0] 2 (un1 (f_X3_nameOf n)) := by
  refine AM.intro (by decide) (fun xs hx => ?_) (fun g xs h Z hl C hr hx hf => ?_)
  · obtain ⟨a0, rfl, c0⟩ := canL_1 hx
    exact Nat.le_of_ble_eq_true rfl
  · obtain ⟨a0, rfl, c0⟩ := canL_1 hx
    have hf := (un1_e _ a0 _).symm.trans hf
    exact e_X3_nameOf (n := n) C hr c0 hf
/-! java/lang/String.coder()B -/
theorem dJ0_coder_7d493_0 : decode cJ0_coder_7d493 0 = .ok (.getstatic 38, 3) := by decide +kernel
theorem dJ0_coder_7d493_3 : decode cJ0_coder_7d493 3 = .ok (.ifCond .eq 10, 3) := by decide +kernel
theorem dJ0_coder_7d493_6 : decode cJ0_coder_7d493 6 = .ok (.aload_n 0, 1) := by decide +kernel
theorem dJ0_coder_7d493_7 : decode cJ0_coder_7d493 7 = .ok (.getfield 15, 3) := by decide +kernel
theorem dJ0_coder_7d493_10 : decode cJ0_coder_7d493 10 = .ok (.goto 4, 3) := by decide +kernel
theorem dJ0_coder_7d493_13 : decode cJ0_coder_7d493 13 = .ok (.iconst 1, 1) := by decide +kernel
theorem dJ0_coder_7d493_14 : decode cJ0_coder_7d493 14 = .ok (.ireturn, 1) := by decide +kernel
theorem cm_J0_coder_7d493 : CMt yJ0_coder_7d493 cJ0_coder_7d493 1 (some .byte) 0 := ⟨w_587, w_588, w_589, w_102, ⟨by decide +kernel, by decide +kernel, by decide +kernel⟩, rfl⟩
noncomputable def f_J0_coder_7d493_14 (n : Nat)  (s0 : Int) (h : MM) : RR :=
  ck (inb s0) <|
  some (s0, h)
noncomputable def f_J0_coder_7d493 (n : Nat) (v0 : Int) (h : MM) : RR :=
  gf h v0 13 1 fun r2 =>
  f_J0_coder_7d493_14 n r2 h
set_option maxRecDepth 20000 in
theorem b_J0_coder_7d493_14 {g : GT} {Z : Int × MM} {n : Nat} (C : Cx g cJ0_coder_7d493 1 yJ0_coder_7d493 0 0) (hr : Rt g (some .byte) 0 Z) {s0 : Int}    (cs0 : in32 s0) {h : MM} (hf : f_J0_coder_7d493_14 n  s0 h = some Z) : G g 14 [(3, 0)] [(0, s0)] h := by
  unfold f_J0_coder_7d493_14 at hf
  obtain ⟨b1, hf⟩ := ck_s hf
  cases hf
  exact r_bret C hr dJ0_coder_7d493_14 b1
set_option maxRecDepth 20000 in
theorem e_J0_coder_7d493 {g : GT} {Z : Int × MM} {n : Nat} (C : Cx g cJ0_coder_7d493 1 yJ0_coder_7d493 0 0) (hr : Rt g (some .byte) 0 Z) {v0 : Int} (cv0 : cK 2 v0) {h : MM} (hf : f_J0_coder_7d493 n v0 h = some Z) : G g 0 [(2, v0)] [] h := by
  unfold f_J0_coder_7d493 at hf
  refine r_gsC C dJ0_coder_7d493_0 w_590 ?_
  refine r_if_eq C dJ0_coder_7d493_3 (tgt := 13) (by decide) (in32_of rfl) (fun n1 => ?_) (fun n1 => ?_)
  · exact absurd n1 (by decide)
  · refine r_aload_n C dJ0_coder_7d493_6 rfl ?_
    obtain ⟨q2, hf⟩ := gf_s hf
    refine r_gfS1 C dJ0_coder_7d493_7 q2 w_1904 (fun c2 => ?_)
    refine r_goto C dJ0_coder_7d493_10 (tgt := 14) (by decide) ?_
    exact G.mask [false] rfl rfl (b_J0_coder_7d493_14 C hr  c2 hf)
set_option maxRecDepth 20000 in
theorem am_J0_coder_7d493 (l : Launch) (n : Nat) : AM l yJ0_coder_7d493 cJ0_coder_7d493 1 (some .byte) 0 0 [2] 0 (un1 (f_J0_coder_7d493 n)) := by
  refine AM.intro (by decide) (fun xs hx => ?_) (fun g xs h Z hl C hr hx hf => ?_)
  · obtain ⟨a0, rfl, c0⟩ := canL_1 hx
    exact Nat.le_of_ble_eq_true rfl
  · obtain ⟨a0, rfl, c0⟩ := canL_1 hx
    have hf := (un1_e _ a0 _).symm.trans hf
    exact e_J0_coder_7d493 (n := n) C hr c0 hf
/-! java/lang/String.length()I -/
theorem dJ0_length_8abf5_0 : decode cJ0_length_8abf5 0 = .ok (.aload_n 0, 1) := by decide +kernel
theorem dJ0_length_8abf5_1 : decode cJ0_length_8abf5 1 = .ok (.getfield 9, 3) := by decide +kernel
theorem dJ0_length_8abf5_4 : decode cJ0_length_8abf5 4 = .ok (.arraylength, 1) := by decide +kernel
theorem dJ0_length_8abf5_5 : decode cJ0_length_8abf5 5 = .ok (.aload_n 0, 1) := by decide +kernel
theorem dJ0_length_8abf5_6 : decode cJ0_length_8abf5 6 = .ok (.invokevirtual 335, 3) := by decide +kernel
theorem dJ0_length_8abf5_9 : decode cJ0_length_8abf5 9 = .ok (.ishr, 1) := by decide +kernel
theorem dJ0_length_8abf5_10 : decode cJ0_length_8abf5 10 = .ok (.ireturn, 1) := by decide +kernel
theorem cm_J0_length_8abf5 : CMt yJ0_length_8abf5 cJ0_length_8abf5 1 (some .int) 0 := ⟨w_583, w_584, w_585, w_102, ⟨by decide +kernel, by decide +kernel, by decide +kernel⟩, rfl⟩
noncomputable def f_J0_length_8abf5 (n : Nat) (v0 : Int) (h : MM) : RR :=
  gf h v0 13 0 fun r1 =>
  al h r1 102 fun r2 =>
  gk h v0 13 <|
  bd (f_J0_coder_7d493 n v0 h) fun r3 h3 =>
  some (shr r2 r3, h3)
set_option maxRecDepth 20000 in
theorem e_J0_length_8abf5 {g : GT} {Z : Int × MM} {n : Nat} (C : Cx g cJ0_length_8abf5 1 yJ0_length_8abf5 1 20) (hr : Rt g (some .int) 0 Z) {v0 : Int} (cv0 : cK 2 v0) {h : MM} (hf : f_J0_length_8abf5 n v0 h = some Z) : G g 0 [(2, v0)] [] h := by
  unfold f_J0_length_8abf5 at hf
  refine r_aload_n C dJ0_length_8abf5_0 rfl ?_
  obtain ⟨q1, hf⟩ := gf_s hf
  refine r_gfS0 C dJ0_length_8abf5_1 q1 w_1903 ?_
  obtain ⟨q2, hf⟩ := al_s hf
  refine r_alen C (tn := 102) dJ0_length_8abf5_4 q2 rfl (by decide) (fun c2 _ => ?_)
  refine r_aload_n C dJ0_length_8abf5_5 rfl ?_
  obtain ⟨p3, hf⟩ := gk_s hf
  obtain ⟨r3, h3, hq3, hf⟩ := bd_s hf
  refine r_cVs0 C (am_J0_coder_7d493 (gl g) n) cm_J0_coder_7d493 w_586 dJ0_length_8abf5_6 ⟨Nat.le_of_ble_eq_true rfl, Nat.le_of_ble_eq_true rfl⟩ p3  rfl (Nat.le_of_ble_eq_true rfl) hq3 (by decide) (fun c3 => ?_)
  have c3 : in32 _ := c3
  refine r_ishr C dJ0_length_8abf5_9 ?_
  cases hf
  exact r_jret C hr dJ0_length_8abf5_10 (in32_t _)
set_option maxRecDepth 20000 in
theorem am_J0_length_8abf5 (l : Launch) (n : Nat) : AM l yJ0_length_8abf5 cJ0_length_8abf5 1 (some .int) 1 20 [2] 0 (un1 (f_J0_length_8abf5 n)) := by
  refine AM.intro (by decide) (fun xs hx => ?_) (fun g xs h Z hl C hr hx hf => ?_)
  · obtain ⟨a0, rfl, c0⟩ := canL_1 hx
    exact Nat.le_of_ble_eq_true rfl
  · obtain ⟨a0, rfl, c0⟩ := canL_1 hx
    have hf := (un1_e _ a0 _).symm.trans hf
    exact e_J0_length_8abf5 (n := n) C hr c0 hf
/-! java/lang/String.isLatin1()Z -/
theorem dJ0_isLatin1_aae02_0 : decode cJ0_isLatin1_aae02 0 = .ok (.getstatic 38, 3) := by decide +kernel
theorem dJ0_isLatin1_aae02_3 : decode cJ0_isLatin1_aae02 3 = .ok (.ifCond .eq 14, 3) := by decide +kernel
theorem dJ0_isLatin1_aae02_6 : decode cJ0_isLatin1_aae02 6 = .ok (.aload_n 0, 1) := by decide +kernel
theorem dJ0_isLatin1_aae02_7 : decode cJ0_isLatin1_aae02 7 = .ok (.getfield 15, 3) := by decide +kernel
theorem dJ0_isLatin1_aae02_10 : decode cJ0_isLatin1_aae02 10 = .ok (.ifCond .ne 7, 3) := by decide +kernel
theorem dJ0_isLatin1_aae02_13 : decode cJ0_isLatin1_aae02 13 = .ok (.iconst 1, 1) := by decide +kernel
theorem dJ0_isLatin1_aae02_14 : decode cJ0_isLatin1_aae02 14 = .ok (.goto 4, 3) := by decide +kernel
theorem dJ0_isLatin1_aae02_17 : decode cJ0_isLatin1_aae02 17 = .ok (.iconst 0, 1) := by decide +kernel
theorem dJ0_isLatin1_aae02_18 : decode cJ0_isLatin1_aae02 18 = .ok (.ireturn, 1) := by decide +kernel
theorem cm_J0_isLatin1_aae02 : CMt yJ0_isLatin1_aae02 cJ0_isLatin1_aae02 1 (some .boolean) 0 := ⟨w_597, w_598, w_599, w_102, ⟨by decide +kernel, by decide +kernel, by decide +kernel⟩, rfl⟩
noncomputable def f_J0_isLatin1_aae02_18 (n : Nat)  (s0 : Int) (h : MM) : RR :=
  ck (isb s0) <|
  some (s0, h)
noncomputable def f_J0_isLatin1_aae02_17 (n : Nat)  (h : MM) : RR :=
  f_J0_isLatin1_aae02_18 n 0 h
noncomputable def f_J0_isLatin1_aae02 (n : Nat) (v0 : Int) (h : MM) : RR :=
  gf h v0 13 1 fun r2 =>
  if r2 = 0 then
    f_J0_isLatin1_aae02_18 n 1 h
  else
  f_J0_isLatin1_aae02_17 n h
set_option maxRecDepth 20000 in
theorem b_J0_isLatin1_aae02_18 {g : GT} {Z : Int × MM} {n : Nat} (C : Cx g cJ0_isLatin1_aae02 1 yJ0_isLatin1_aae02 0 0) (hr : Rt g (some .boolean) 0 Z) {s0 : Int}    (cs0 : in32 s0) {h : MM} (hf : f_J0_isLatin1_aae02_18 n  s0 h = some Z) : G g 18 [(3, 0)] [(0, s0)] h := by
  unfold f_J0_isLatin1_aae02_18 at hf
  obtain ⟨b1, hf⟩ := ck_s hf
  cases hf
  exact r_zret C hr dJ0_isLatin1_aae02_18 b1
set_option maxRecDepth 20000 in
theorem b_J0_isLatin1_aae02_17 {g : GT} {Z : Int × MM} {n : Nat} (C : Cx g cJ0_isLatin1_aae02 1 yJ0_isLatin1_aae02 0 0) (hr : Rt g (some .boolean) 0 Z)     {h : MM} (hf : f_J0_isLatin1_aae02_17 n   h = some Z) : G g 17 [(3, 0)] [] h := by
  unfold f_J0_isLatin1_aae02_17 at hf
  refine r_iconst C dJ0_isLatin1_aae02_17 ?_
  exact G.mask [false] rfl rfl (b_J0_isLatin1_aae02_18 C hr  (in32_of rfl) hf)
set_option maxRecDepth 20000 in
theorem e_J0_isLatin1_aae02 {g : GT} {Z : Int × MM} {n : Nat} (C : Cx g cJ0_isLatin1_aae02 1 yJ0_isLatin1_aae02 0 0) (hr : Rt g (some .boolean) 0 Z) {v0 : Int} (cv0 : cK 2 v0) {h : MM} (hf : f_J0_isLatin1_aae02 n v0 h = some Z) : G g 0 [(2, v0)] [] h := by
  unfold f_J0_isLatin1_aae02 at hf
  refine r_gsC C dJ0_isLatin1_aae02_0 w_590 ?_
  refine r_if_eq C dJ0_isLatin1_aae02_3 (tgt := 17) (by decide) (in32_of rfl) (fun n1 => ?_) (fun n1 => ?_)
  · exact absurd n1 (by decide)
  · refine r_aload_n C dJ0_isLatin1_aae02_6 rfl ?_
    obtain ⟨q2, hf⟩ := gf_s hf
    refine r_gfS1 C dJ0_isLatin1_aae02_7 q2 w_1904 (fun c2 => ?_)
    refine r_if_ne C dJ0_isLatin1_aae02_10 (tgt := 17) (by decide) c2 (fun n3 => ?_) (fun n3 => ?_)
    · have hf := ite_n n3 hf
      exact G.mask [false] rfl rfl (b_J0_isLatin1_aae02_17 C hr   hf)
    · have hf := ite_p n3 hf
      refine r_iconst C dJ0_isLatin1_aae02_13 ?_
      refine r_goto C dJ0_isLatin1_aae02_14 (tgt := 18) (by decide) ?_
      exact G.mask [false] rfl rfl (b_J0_isLatin1_aae02_18 C hr  (in32_of rfl) hf)
set_option maxRecDepth 20000 in
theorem am_J0_isLatin1_aae02 (l : Launch) (n : Nat) : AM l yJ0_isLatin1_aae02 cJ0_isLatin1_aae02 1 (some .boolean) 0 0 [2] 0 (un1 (f_J0_isLatin1_aae02 n)) := by
  refine AM.intro (by decide) (fun xs hx => ?_) (fun g xs h Z hl C hr hx hf => ?_)
  · obtain ⟨a0, rfl, c0⟩ := canL_1 hx
    exact Nat.le_of_ble_eq_true rfl
  · obtain ⟨a0, rfl, c0⟩ := canL_1 hx
    have hf := (un1_e _ a0 _).symm.trans hf
    exact e_J0_isLatin1_aae02 (n := n) C hr c0 hf
/-! jdk/internal/util/Preconditions.checkIndex(IILjava/util/function/BiFunction;)I -/
theorem dJ3_checkIndex_8e157_0 : decode cJ3_checkIndex_8e157 0 = .ok (.iload_n 0, 1) := by decide +kernel
theorem dJ3_checkIndex_8e157_1 : decode cJ3_checkIndex_8e157 1 = .ok (.ifCond .lt 8, 3) := by decide +kernel
theorem dJ3_checkIndex_8e157_4 : decode cJ3_checkIndex_8e157 4 = .ok (.iload_n 0, 1) := by decide +kernel
theorem dJ3_checkIndex_8e157_5 : decode cJ3_checkIndex_8e157 5 = .ok (.iload_n 1, 1) := by decide +kernel
theorem dJ3_checkIndex_8e157_6 : decode cJ3_checkIndex_8e157 6 = .ok (.if_icmp .lt 10, 3) := by decide +kernel
theorem dJ3_checkIndex_8e157_9 : decode cJ3_checkIndex_8e157 9 = .ok (.aload_n 2, 1) := by decide +kernel
theorem dJ3_checkIndex_8e157_16 : decode cJ3_checkIndex_8e157 16 = .ok (.iload_n 0, 1) := by decide +kernel
theorem dJ3_checkIndex_8e157_17 : decode cJ3_checkIndex_8e157 17 = .ok (.ireturn, 1) := by decide +kernel
theorem cm_J3_checkIndex_8e157 : CMs yJ3_checkIndex_8e157 cJ3_checkIndex_8e157 3 (some .int) 3 := ⟨w_609, w_610, w_104, ⟨by decide +kernel, by decide +kernel, by decide +kernel⟩⟩
noncomputable def f_J3_checkIndex_8e157_9 (n : Nat)  (v2 : Int) (h : MM) : RR :=
  none
noncomputable def f_J3_checkIndex_8e157 (n : Nat) (v0 v1 v2 : Int) (h : MM) : RR :=
  if v0 < 0 then
    f_J3_checkIndex_8e157_9 n v2 h
  else
  if v0 < v1 then
    some (v0, h)
  else
  f_J3_checkIndex_8e157_9 n v2 h
set_option maxRecDepth 20000 in
theorem b_J3_checkIndex_8e157_9 {g : GT} {Z : Int × MM} {n : Nat} (C : Cx g cJ3_checkIndex_8e157 3 yJ3_checkIndex_8e157 0 0) (hr : Rt g (some .int) 0 Z) {v2 : Int}     {h : MM} (hf : f_J3_checkIndex_8e157_9 n  v2 h = some Z) : G g 9 [(3, 0), (3, 0), (2, v2)] [] h := by
  unfold f_J3_checkIndex_8e157_9 at hf
  cases hf
set_option maxRecDepth 20000 in
theorem e_J3_checkIndex_8e157 {g : GT} {Z : Int × MM} {n : Nat} (C : Cx g cJ3_checkIndex_8e157 3 yJ3_checkIndex_8e157 0 0) (hr : Rt g (some .int) 0 Z) {v0 v1 v2 : Int} (cv0 : cK 0 v0) (cv1 : cK 0 v1) (cv2 : cK 2 v2) {h : MM} (hf : f_J3_checkIndex_8e157 n v0 v1 v2 h = some Z) : G g 0 [(0, v0), (0, v1), (2, v2)] [] h := by
  have cv0 : in32 v0 := cv0
  have cv1 : in32 v1 := cv1
  unfold f_J3_checkIndex_8e157 at hf
  refine r_iload_n C dJ3_checkIndex_8e157_0 rfl ?_
  refine r_if_lt C dJ3_checkIndex_8e157_1 (tgt := 9) (by decide) cv0 (fun n1 => ?_) (fun n1 => ?_)
  · have hf := ite_p n1 hf
    exact G.mask [false, false, true] rfl rfl (b_J3_checkIndex_8e157_9 C hr   hf)
  · have hf := ite_n n1 hf
    refine r_iload_n C dJ3_checkIndex_8e157_4 rfl ?_
    refine r_iload_n C dJ3_checkIndex_8e157_5 rfl ?_
    refine r_icmp_lt C dJ3_checkIndex_8e157_6 (tgt := 16) (by decide) cv0 cv1 (fun n2 => ?_) (fun n2 => ?_)
    · have hf := ite_p n2 hf
      refine r_iload_n C dJ3_checkIndex_8e157_16 rfl ?_
      cases hf
      exact r_jret C hr dJ3_checkIndex_8e157_17 cv0
    · have hf := ite_n n2 hf
      exact G.mask [false, false, true] rfl rfl (b_J3_checkIndex_8e157_9 C hr   hf)
set_option maxRecDepth 20000 in
theorem am_J3_checkIndex_8e157 (l : Launch) (n : Nat) : AM l yJ3_checkIndex_8e157 cJ3_checkIndex_8e157 3 (some .int) 0 0 [0, 0, 2] 0 (un3 (f_J3_checkIndex_8e157 n)) := by
  refine AM.intro (by decide) (fun xs hx => ?_) (fun g xs h Z hl C hr hx hf => ?_)
  · obtain ⟨a0, a1, a2, rfl, c0, c1, c2⟩ := canL_3 hx
    exact Nat.le_of_ble_eq_true rfl
  · obtain ⟨a0, a1, a2, rfl, c0, c1, c2⟩ := canL_3 hx
    have hf := (un3_e _ a0 a1 a2 _).symm.trans hf
    exact e_J3_checkIndex_8e157 (n := n) C hr c0 c1 c2 hf
/-! java/lang/String.checkIndex(II)V -/
theorem dJ0_checkIndex_df160_0 : decode cJ0_checkIndex_df160 0 = .ok (.iload_n 0, 1) := by decide +kernel
theorem dJ0_checkIndex_df160_1 : decode cJ0_checkIndex_df160 1 = .ok (.iload_n 1, 1) := by decide +kernel
theorem dJ0_checkIndex_df160_2 : decode cJ0_checkIndex_df160 2 = .ok (.getstatic 1053, 3) := by decide +kernel
theorem dJ0_checkIndex_df160_5 : decode cJ0_checkIndex_df160 5 = .ok (.invokestatic 1059, 3) := by decide +kernel
theorem dJ0_checkIndex_df160_8 : decode cJ0_checkIndex_df160 8 = .ok (.pop, 1) := by decide +kernel
theorem dJ0_checkIndex_df160_9 : decode cJ0_checkIndex_df160 9 = .ok (.return_, 1) := by decide +kernel
theorem cm_J0_checkIndex_df160 : CMs yJ0_checkIndex_df160 cJ0_checkIndex_df160 2 none 2 := ⟨w_604, w_605, w_102, ⟨by decide +kernel, by decide +kernel, by decide +kernel⟩⟩
noncomputable def f_J0_checkIndex_df160 (n : Nat) (v0 v1 : Int) (h : MM) : RR :=
  bd (f_J3_checkIndex_8e157 n v0 v1 0 h) fun r2 h2 =>
  some (0, h2)
set_option maxRecDepth 20000 in
theorem e_J0_checkIndex_df160 {g : GT} {Z : Int × MM} {n : Nat} (C : Cx g cJ0_checkIndex_df160 2 yJ0_checkIndex_df160 1 22) (hr : Rt g none 3 Z) {v0 v1 : Int} (cv0 : cK 0 v0) (cv1 : cK 0 v1) {h : MM} (hf : f_J0_checkIndex_df160 n v0 v1 h = some Z) : G g 0 [(0, v0), (0, v1)] [] h := by
  have cv0 : in32 v0 := cv0
  have cv1 : in32 v1 := cv1
  unfold f_J0_checkIndex_df160 at hf
  refine r_iload_n C dJ0_checkIndex_df160_0 rfl ?_
  refine r_iload_n C dJ0_checkIndex_df160_1 rfl ?_
  refine r_gsF C dJ0_checkIndex_df160_2 w_606 (fun o1 => ?_)
  obtain ⟨r2, h2, hq2, hf⟩ := bd_s hf
  refine r_cS3 C (am_J3_checkIndex_8e157 (gl g) n) cm_J3_checkIndex_8e157 w_608 dJ0_checkIndex_df160_5 ⟨Nat.le_of_ble_eq_true rfl, Nat.le_of_ble_eq_true rfl⟩ cv0 cv1 trivial rfl (Nat.le_of_ble_eq_true rfl) hq2 (by decide) (fun c2 => ?_)
  have c2 : in32 _ := c2
  refine r_pop C dJ0_checkIndex_df160_8 (by decide) ?_
  cases hf
  exact r_vret C hr dJ0_checkIndex_df160_9
set_option maxRecDepth 20000 in
theorem am_J0_checkIndex_df160 (l : Launch) (n : Nat) : AM l yJ0_checkIndex_df160 cJ0_checkIndex_df160 2 none 1 22 [0, 0] 3 (un2 (f_J0_checkIndex_df160 n)) := by
  refine AM.intro (by decide) (fun xs hx => ?_) (fun g xs h Z hl C hr hx hf => ?_)
  · obtain ⟨a0, a1, rfl, c0, c1⟩ := canL_2 hx
    exact Nat.le_of_ble_eq_true rfl
  · obtain ⟨a0, a1, rfl, c0, c1⟩ := canL_2 hx
    have hf := (un2_e _ a0 a1 _).symm.trans hf
    exact e_J0_checkIndex_df160 (n := n) C hr c0 c1 hf
/-! java/lang/StringLatin1.charAt([BI)C -/
theorem dJ1_charAt_3b067_0 : decode cJ1_charAt_3b067 0 = .ok (.iload_n 1, 1) := by decide +kernel
theorem dJ1_charAt_3b067_1 : decode cJ1_charAt_3b067 1 = .ok (.aload_n 0, 1) := by decide +kernel
theorem dJ1_charAt_3b067_2 : decode cJ1_charAt_3b067 2 = .ok (.arraylength, 1) := by decide +kernel
theorem dJ1_charAt_3b067_3 : decode cJ1_charAt_3b067 3 = .ok (.invokestatic 9, 3) := by decide +kernel
theorem dJ1_charAt_3b067_6 : decode cJ1_charAt_3b067 6 = .ok (.aload_n 0, 1) := by decide +kernel
theorem dJ1_charAt_3b067_7 : decode cJ1_charAt_3b067 7 = .ok (.iload_n 1, 1) := by decide +kernel
theorem dJ1_charAt_3b067_8 : decode cJ1_charAt_3b067 8 = .ok (.baload, 1) := by decide +kernel
theorem dJ1_charAt_3b067_9 : decode cJ1_charAt_3b067 9 = .ok (.sipush 255, 3) := by decide +kernel
theorem dJ1_charAt_3b067_12 : decode cJ1_charAt_3b067 12 = .ok (.iand, 1) := by decide +kernel
theorem dJ1_charAt_3b067_13 : decode cJ1_charAt_3b067 13 = .ok (.i2c, 1) := by decide +kernel
theorem dJ1_charAt_3b067_14 : decode cJ1_charAt_3b067 14 = .ok (.ireturn, 1) := by decide +kernel
theorem cm_J1_charAt_3b067 : CMs yJ1_charAt_3b067 cJ1_charAt_3b067 2 (some .char) 2 := ⟨w_601, w_602, w_103, ⟨by decide +kernel, by decide +kernel, by decide +kernel⟩⟩
noncomputable def f_J1_charAt_3b067 (n : Nat) (v0 v1 : Int) (h : MM) : RR :=
  al h v0 102 fun r1 =>
  bd (f_J0_checkIndex_df160 n v1 r1 h) fun r2 h2 =>
  rd h2 v0 102 v1 fun r3 =>
  ck (inc (c16 (ban r3 255))) <|
  some (c16 (ban r3 255), h2)
set_option maxRecDepth 20000 in
theorem e_J1_charAt_3b067 {g : GT} {Z : Int × MM} {n : Nat} (C : Cx g cJ1_charAt_3b067 2 yJ1_charAt_3b067 2 43) (hr : Rt g (some .char) 0 Z) {v0 v1 : Int} (cv0 : cK 2 v0) (cv1 : cK 0 v1) {h : MM} (hf : f_J1_charAt_3b067 n v0 v1 h = some Z) : G g 0 [(2, v0), (0, v1)] [] h := by
  have cv1 : in32 v1 := cv1
  unfold f_J1_charAt_3b067 at hf
  refine r_iload_n C dJ1_charAt_3b067_0 rfl ?_
  refine r_aload_n C dJ1_charAt_3b067_1 rfl ?_
  obtain ⟨q1, hf⟩ := al_s hf
  refine r_alen C (tn := 102) dJ1_charAt_3b067_2 q1 rfl (by decide) (fun c1 _ => ?_)
  obtain ⟨r2, h2, hq2, hf⟩ := bd_s hf
  refine r_cS2v C (am_J0_checkIndex_df160 (gl g) n) cm_J0_checkIndex_df160 w_603 dJ1_charAt_3b067_3 ⟨Nat.le_of_ble_eq_true rfl, Nat.le_of_ble_eq_true rfl⟩ cv1 c1 rfl (Nat.le_of_ble_eq_true rfl) hq2 ?_
  refine r_aload_n C dJ1_charAt_3b067_6 rfl ?_
  refine r_iload_n C dJ1_charAt_3b067_7 rfl ?_
  obtain ⟨q3, hf⟩ := rd_s hf
  refine r_bald C dJ1_charAt_3b067_8 q3 rfl (fun c3 => ?_)
  refine r_sipush C dJ1_charAt_3b067_9 rfl ?_
  refine r_iand C dJ1_charAt_3b067_12 ?_
  refine r_i2c C dJ1_charAt_3b067_13 ?_
  obtain ⟨b4, hf⟩ := ck_s hf
  cases hf
  exact r_cret C hr dJ1_charAt_3b067_14 b4
set_option maxRecDepth 20000 in
theorem am_J1_charAt_3b067 (l : Launch) (n : Nat) : AM l yJ1_charAt_3b067 cJ1_charAt_3b067 2 (some .char) 2 43 [2, 0] 0 (un2 (f_J1_charAt_3b067 n)) := by
  refine AM.intro (by decide) (fun xs hx => ?_) (fun g xs h Z hl C hr hx hf => ?_)
  · obtain ⟨a0, a1, rfl, c0, c1⟩ := canL_2 hx
    exact Nat.le_of_ble_eq_true rfl
  · obtain ⟨a0, a1, rfl, c0, c1⟩ := canL_2 hx
    have hf := (un2_e _ a0 a1 _).symm.trans hf
    exact e_J1_charAt_3b067 (n := n) C hr c0 c1 hf
/-! java/lang/String.charAt(I)C -/
theorem dJ0_charAt_5068e_0 : decode cJ0_charAt_5068e 0 = .ok (.aload_n 0, 1) := by decide +kernel
theorem dJ0_charAt_5068e_1 : decode cJ0_charAt_5068e 1 = .ok (.invokevirtual 492, 3) := by decide +kernel
theorem dJ0_charAt_5068e_4 : decode cJ0_charAt_5068e 4 = .ok (.ifCond .eq 12, 3) := by decide +kernel
theorem dJ0_charAt_5068e_7 : decode cJ0_charAt_5068e 7 = .ok (.aload_n 0, 1) := by decide +kernel
theorem dJ0_charAt_5068e_8 : decode cJ0_charAt_5068e 8 = .ok (.getfield 9, 3) := by decide +kernel
theorem dJ0_charAt_5068e_11 : decode cJ0_charAt_5068e 11 = .ok (.iload_n 1, 1) := by decide +kernel
theorem dJ0_charAt_5068e_12 : decode cJ0_charAt_5068e 12 = .ok (.invokestatic 495, 3) := by decide +kernel
theorem dJ0_charAt_5068e_15 : decode cJ0_charAt_5068e 15 = .ok (.ireturn, 1) := by decide +kernel
theorem dJ0_charAt_5068e_16 : decode cJ0_charAt_5068e 16 = .ok (.aload_n 0, 1) := by decide +kernel
theorem cm_J0_charAt_5068e : CMt yJ0_charAt_5068e cJ0_charAt_5068e 2 (some .char) 1 := ⟨w_593, w_594, w_595, w_102, ⟨by decide +kernel, by decide +kernel, by decide +kernel⟩, rfl⟩
noncomputable def f_J0_charAt_5068e (n : Nat) (v0 v1 : Int) (h : MM) : RR :=
  gk h v0 13 <|
  bd (f_J0_isLatin1_aae02 n v0 h) fun r1 h1 =>
  if r1 = 0 then
    none
  else
  gf h1 v0 13 0 fun r3 =>
  bd (f_J1_charAt_3b067 n r3 v1 h1) fun r4 h4 =>
  ck (inc r4) <|
  some (r4, h4)
set_option maxRecDepth 20000 in
theorem e_J0_charAt_5068e {g : GT} {Z : Int × MM} {n : Nat} (C : Cx g cJ0_charAt_5068e 2 yJ0_charAt_5068e 3 64) (hr : Rt g (some .char) 0 Z) {v0 v1 : Int} (cv0 : cK 2 v0) (cv1 : cK 0 v1) {h : MM} (hf : f_J0_charAt_5068e n v0 v1 h = some Z) : G g 0 [(2, v0), (0, v1)] [] h := by
  have cv1 : in32 v1 := cv1
  unfold f_J0_charAt_5068e at hf
  refine r_aload_n C dJ0_charAt_5068e_0 rfl ?_
  obtain ⟨p1, hf⟩ := gk_s hf
  obtain ⟨r1, h1, hq1, hf⟩ := bd_s hf
  refine r_cVs0 C (am_J0_isLatin1_aae02 (gl g) n) cm_J0_isLatin1_aae02 w_596 dJ0_charAt_5068e_1 ⟨Nat.le_of_ble_eq_true rfl, Nat.le_of_ble_eq_true rfl⟩ p1  rfl (Nat.le_of_ble_eq_true rfl) hq1 (by decide) (fun c1 => ?_)
  have c1 : in32 _ := c1
  refine r_if_eq C dJ0_charAt_5068e_4 (tgt := 16) (by decide) c1 (fun n2 => ?_) (fun n2 => ?_)
  · have hf := ite_p n2 hf
    cases hf
  · have hf := ite_n n2 hf
    refine r_aload_n C dJ0_charAt_5068e_7 rfl ?_
    obtain ⟨q3, hf⟩ := gf_s hf
    refine r_gfS0 C dJ0_charAt_5068e_8 q3 w_1903 ?_
    refine r_iload_n C dJ0_charAt_5068e_11 rfl ?_
    obtain ⟨r4, h4, hq4, hf⟩ := bd_s hf
    refine r_cS2 C (am_J1_charAt_3b067 (gl g) n) cm_J1_charAt_3b067 w_600 dJ0_charAt_5068e_12 ⟨Nat.le_of_ble_eq_true rfl, Nat.le_of_ble_eq_true rfl⟩ trivial cv1 rfl (Nat.le_of_ble_eq_true rfl) hq4 (by decide) (fun c4 => ?_)
    have c4 : in32 _ := c4
    obtain ⟨b5, hf⟩ := ck_s hf
    cases hf
    exact r_cret C hr dJ0_charAt_5068e_15 b5
set_option maxRecDepth 20000 in
theorem am_J0_charAt_5068e (l : Launch) (n : Nat) : AM l yJ0_charAt_5068e cJ0_charAt_5068e 2 (some .char) 3 64 [2, 0] 0 (un2 (f_J0_charAt_5068e n)) := by
  refine AM.intro (by decide) (fun xs hx => ?_) (fun g xs h Z hl C hr hx hf => ?_)
  · obtain ⟨a0, a1, rfl, c0, c1⟩ := canL_2 hx
    exact Nat.le_of_ble_eq_true rfl
  · obtain ⟨a0, a1, rfl, c0, c1⟩ := canL_2 hx
    have hf := (un2_e _ a0 a1 _).symm.trans hf
    exact e_J0_charAt_5068e (n := n) C hr c0 c1 hf
/-! LinesPromised$Order.fitting(Ljava/lang/String;)I -/
theorem dX3_fitting_0 : decode cX3_fitting 0 = .ok (.iconst 0, 1) := by decide +kernel
theorem dX3_fitting_1 : decode cX3_fitting 1 = .ok (.istore_n 2, 1) := by decide +kernel
theorem dX3_fitting_2 : decode cX3_fitting 2 = .ok (.iload_n 2, 1) := by decide +kernel
theorem dX3_fitting_3 : decode cX3_fitting 3 = .ok (.aload_n 1, 1) := by decide +kernel
theorem dX3_fitting_4 : decode cX3_fitting 4 = .ok (.invokevirtual 82, 3) := by decide +kernel
theorem dX3_fitting_7 : decode cX3_fitting 7 = .ok (.if_icmp .ge 42, 3) := by decide +kernel
theorem dX3_fitting_10 : decode cX3_fitting 10 = .ok (.aload_n 0, 1) := by decide +kernel
theorem dX3_fitting_11 : decode cX3_fitting 11 = .ok (.getfield 39, 3) := by decide +kernel
theorem dX3_fitting_14 : decode cX3_fitting 14 = .ok (.iload_n 2, 1) := by decide +kernel
theorem dX3_fitting_15 : decode cX3_fitting 15 = .ok (.iadd, 1) := by decide +kernel
theorem dX3_fitting_16 : decode cX3_fitting 16 = .ok (.aload_n 0, 1) := by decide +kernel
theorem dX3_fitting_17 : decode cX3_fitting 17 = .ok (.getfield 31, 3) := by decide +kernel
theorem dX3_fitting_20 : decode cX3_fitting 20 = .ok (.arraylength, 1) := by decide +kernel
theorem dX3_fitting_21 : decode cX3_fitting 21 = .ok (.if_icmp .ge 28, 3) := by decide +kernel
theorem dX3_fitting_24 : decode cX3_fitting 24 = .ok (.aload_n 0, 1) := by decide +kernel
theorem dX3_fitting_25 : decode cX3_fitting 25 = .ok (.getfield 31, 3) := by decide +kernel
theorem dX3_fitting_28 : decode cX3_fitting 28 = .ok (.aload_n 0, 1) := by decide +kernel
theorem dX3_fitting_29 : decode cX3_fitting 29 = .ok (.getfield 39, 3) := by decide +kernel
theorem dX3_fitting_32 : decode cX3_fitting 32 = .ok (.iload_n 2, 1) := by decide +kernel
theorem dX3_fitting_33 : decode cX3_fitting 33 = .ok (.iadd, 1) := by decide +kernel
theorem dX3_fitting_34 : decode cX3_fitting 34 = .ok (.baload, 1) := by decide +kernel
theorem dX3_fitting_35 : decode cX3_fitting 35 = .ok (.aload_n 1, 1) := by decide +kernel
theorem dX3_fitting_36 : decode cX3_fitting 36 = .ok (.iload_n 2, 1) := by decide +kernel
theorem dX3_fitting_37 : decode cX3_fitting 37 = .ok (.invokevirtual 93, 3) := by decide +kernel
theorem dX3_fitting_40 : decode cX3_fitting 40 = .ok (.if_icmp .ne 9, 3) := by decide +kernel
theorem dX3_fitting_43 : decode cX3_fitting 43 = .ok (.iinc 2 1, 3) := by decide +kernel
theorem dX3_fitting_46 : decode cX3_fitting 46 = .ok (.goto (-44), 3) := by decide +kernel
theorem dX3_fitting_49 : decode cX3_fitting 49 = .ok (.iload_n 2, 1) := by decide +kernel
theorem dX3_fitting_50 : decode cX3_fitting 50 = .ok (.ireturn, 1) := by decide +kernel
theorem cm_X3_fitting : CM yX3_fitting cX3_fitting 3 (some .int) 1 3 := ⟨w_580, w_2, w_581, w_98, ⟨by decide +kernel, by decide +kernel, by decide +kernel⟩, ⟨_, _, rfl⟩, by decide⟩
noncomputable def f_X3_fitting_49 (n : Nat)  (v2 : Int) (h : MM) : RR :=
  some (v2, h)
noncomputable def f_X3_fitting_2b (n : Nat) (rec2 : Int → MM → RR) (v0 v1 v2 : Int) (h : MM) : RR :=
  gk h v1 13 <|
  bd (f_J0_length_8abf5 n v1 h) fun r1 h1 =>
  if r1 ≤ v2 then
    f_X3_fitting_49 n v2 h1
  else
  gf h1 v0 3 5 fun r3 =>
  gf h1 v0 3 1 fun r4 =>
  al h1 r4 102 fun r5 =>
  if r5 ≤ wr (r3 + v2) then
    f_X3_fitting_49 n v2 h1
  else
  gf h1 v0 3 1 fun r7 =>
  gf h1 v0 3 5 fun r8 =>
  rd h1 r7 102 (wr (r8 + v2)) fun r9 =>
  gk h1 v1 13 <|
  bd (f_J0_charAt_5068e n v1 v2 h1) fun r10 h10 =>
  if r9 = r10 then
    lb (wr (v2 + 1)) fun x12 =>
    rec2 x12 h10
  else
  f_X3_fitting_49 n v2 h10
noncomputable def f_X3_fitting_2 (n : Nat)  (v0 v1 : Int) : Nat → Int → MM → RR
  | 0, _, _ => none
  | k + 1, v2, h => f_X3_fitting_2b n  (f_X3_fitting_2 n  v0 v1 k) v0 v1 v2 h
noncomputable def f_X3_fitting (n : Nat) (v0 v1 : Int) (h : MM) : RR :=
  f_X3_fitting_2 n v0 v1 n 0 h
set_option maxRecDepth 20000 in
theorem b_X3_fitting_49 {g : GT} {Z : Int × MM} {n : Nat} (C : Cx g cX3_fitting 3 yX3_fitting 4 85) (hr : Rt g (some .int) 0 Z) {v2 : Int}    (cv2 : in32 v2) {h : MM} (hf : f_X3_fitting_49 n  v2 h = some Z) : G g 49 [(3, 0), (3, 0), (0, v2)] [] h := by
  unfold f_X3_fitting_49 at hf
  refine r_iload_n C dX3_fitting_49 rfl ?_
  cases hf
  exact r_jret C hr dX3_fitting_50 cv2
set_option maxRecDepth 20000 in
theorem b_X3_fitting_2b {g : GT} {Z : Int × MM} {n : Nat} (C : Cx g cX3_fitting 3 yX3_fitting 4 85) (hr : Rt g (some .int) 0 Z) {v0 v1 v2 : Int}  {rec2 : Int → MM → RR} (L2 : ∀ (u2 : Int) (h : MM), in32 u2 → rec2 u2 h = some Z → G g 2 [(2, v0), (2, v1), (0, u2)] [] h) (cv2 : in32 v2) {h : MM} (hf : f_X3_fitting_2b n rec2 v0 v1 v2 h = some Z) : G g 2 [(2, v0), (2, v1), (0, v2)] [] h := by
  unfold f_X3_fitting_2b at hf
  refine r_iload_n C dX3_fitting_2 rfl ?_
  refine r_aload_n C dX3_fitting_3 rfl ?_
  obtain ⟨p1, hf⟩ := gk_s hf
  obtain ⟨r1, h1, hq1, hf⟩ := bd_s hf
  refine r_cVs0 C (am_J0_length_8abf5 (gl g) n) cm_J0_length_8abf5 w_582 dX3_fitting_4 ⟨Nat.le_of_ble_eq_true rfl, Nat.le_of_ble_eq_true rfl⟩ p1  rfl (Nat.le_of_ble_eq_true rfl) hq1 (by decide) (fun c1 => ?_)
  have c1 : in32 _ := c1
  refine r_icmp_ge C dX3_fitting_7 (tgt := 49) (by decide) cv2 c1 (fun n2 => ?_) (fun n2 => ?_)
  · have hf := ite_p n2 hf
    exact G.mask [false, false, true] rfl rfl (b_X3_fitting_49 C hr  cv2 hf)
  · have hf := ite_n n2 hf
    refine r_aload_n C dX3_fitting_10 rfl ?_
    obtain ⟨q3, hf⟩ := gf_s hf
    refine r_gf C ct3 (j := 5) (ji := 5) dX3_fitting_11 q3 rfl rfl (by decide) w_542 rfl (fun c3 => ?_)
    have c3 : in32 _ := c3
    refine r_iload_n C dX3_fitting_14 rfl ?_
    refine r_iadd C dX3_fitting_15 ?_
    refine r_aload_n C dX3_fitting_16 rfl ?_
    obtain ⟨q4, hf⟩ := gf_s hf
    refine r_gf C ct3 (j := 1) (ji := 1) dX3_fitting_17 q4 rfl rfl (by decide) w_534 rfl (fun c4 => ?_)
    obtain ⟨q5, hf⟩ := al_s hf
    refine r_alen C (tn := 102) dX3_fitting_20 q5 rfl (by decide) (fun c5 _ => ?_)
    refine r_icmp_ge C dX3_fitting_21 (tgt := 49) (by decide) (in32_t _) c5 (fun n6 => ?_) (fun n6 => ?_)
    · have hf := ite_p n6 hf
      exact G.mask [false, false, true] rfl rfl (b_X3_fitting_49 C hr  cv2 hf)
    · have hf := ite_n n6 hf
      refine r_aload_n C dX3_fitting_24 rfl ?_
      obtain ⟨q7, hf⟩ := gf_s hf
      refine r_gf C ct3 (j := 1) (ji := 1) dX3_fitting_25 q7 rfl rfl (by decide) w_534 rfl (fun c7 => ?_)
      refine r_aload_n C dX3_fitting_28 rfl ?_
      obtain ⟨q8, hf⟩ := gf_s hf
      refine r_gf C ct3 (j := 5) (ji := 5) dX3_fitting_29 q8 rfl rfl (by decide) w_542 rfl (fun c8 => ?_)
      have c8 : in32 _ := c8
      refine r_iload_n C dX3_fitting_32 rfl ?_
      refine r_iadd C dX3_fitting_33 ?_
      obtain ⟨q9, hf⟩ := rd_s hf
      refine r_bald C dX3_fitting_34 q9 rfl (fun c9 => ?_)
      refine r_aload_n C dX3_fitting_35 rfl ?_
      refine r_iload_n C dX3_fitting_36 rfl ?_
      obtain ⟨p10, hf⟩ := gk_s hf
      obtain ⟨r10, h10, hq10, hf⟩ := bd_s hf
      refine r_cVs1 C (am_J0_charAt_5068e (gl g) n) cm_J0_charAt_5068e w_592 dX3_fitting_37 ⟨Nat.le_of_ble_eq_true rfl, Nat.le_of_ble_eq_true rfl⟩ p10 cv2 rfl (Nat.le_of_ble_eq_true rfl) hq10 (by decide) (fun c10 => ?_)
      have c10 : in32 _ := c10
      refine r_icmp_ne C dX3_fitting_40 (tgt := 49) (by decide) c9 c10 (fun n11 => ?_) (fun n11 => ?_)
      · have hf := ite_n n11 hf
        exact G.mask [false, false, true] rfl rfl (b_X3_fitting_49 C hr  cv2 hf)
      · have hf := ite_p n11 hf
        obtain ⟨x12, e12, hf⟩ := lb_s hf
        have c12 : in32 x12 := by rw [e12]; exact (in32_t _)
        refine r_iincL C dX3_fitting_43 rfl e12 (Nat.le_of_ble_eq_true rfl) rfl ?_
        refine r_goto C dX3_fitting_46 (tgt := 2) (by decide) ?_
        exact G.mask [true, true, true] rfl rfl (L2 _ _ c12 hf)
set_option maxRecDepth 20000 in
theorem l_X3_fitting_2 {g : GT} {Z : Int × MM} {n : Nat} (C : Cx g cX3_fitting 3 yX3_fitting 4 85) (hr : Rt g (some .int) 0 Z) {v0 v1 : Int}    : ∀ (k : Nat) (v2 : Int) (h : MM), in32 v2 → f_X3_fitting_2 n  v0 v1 k v2 h = some Z → G g 2 [(2, v0), (2, v1), (0, v2)] [] h := by
  intro k
  induction k with
  | zero => intro v2 h cv2 hf; exact absurd hf (by intro z; cases z)
  | succ k ih => intro v2 h cv2 hf; exact b_X3_fitting_2b C hr (rec2 := f_X3_fitting_2 n  v0 v1 k)  ih cv2 (show f_X3_fitting_2b n  (f_X3_fitting_2 n  v0 v1 k) v0 v1 v2 h = some Z from hf)
set_option maxRecDepth 20000 in
theorem e_X3_fitting {g : GT} {Z : Int × MM} {n : Nat} (C : Cx g cX3_fitting 3 yX3_fitting 4 85) (hr : Rt g (some .int) 0 Z) {v0 v1 : Int} (cv0 : cK 2 v0) (cv1 : cK 2 v1) {h : MM} (hf : f_X3_fitting n v0 v1 h = some Z) : G g 0 [(2, v0), (2, v1), (3, 0)] [] h := by
  unfold f_X3_fitting at hf
  refine r_iconst C dX3_fitting_0 ?_
  refine r_istore_n C dX3_fitting_1 (Nat.le_of_ble_eq_true rfl) rfl ?_
  exact G.mask [true, true, true] rfl rfl (l_X3_fitting_2 C hr   _ _ _ (in32_of rfl) hf)
set_option maxRecDepth 20000 in
theorem am_X3_fitting (l : Launch) (n : Nat) : AM l yX3_fitting cX3_fitting 3 (some .int) 4 85 [2, 2] 0 (un2 (f_X3_fitting n)) := by
  refine AM.intro (by decide) (fun xs hx => ?_) (fun g xs h Z hl C hr hx hf => ?_)
  · obtain ⟨a0, a1, rfl, c0, c1⟩ := canL_2 hx
    exact Nat.le_of_ble_eq_true rfl
  · obtain ⟨a0, a1, rfl, c0, c1⟩ := canL_2 hx
    have hf := (un2_e _ a0 a1 _).symm.trans hf
    exact e_X3_fitting (n := n) C hr c0 c1 hf
/-! LinesPromised$Order.readWord()I -/
theorem dX3_readWord_0 : decode cX3_readWord 0 = .ok (.iconst 0, 1) := by decide +kernel
theorem dX3_readWord_1 : decode cX3_readWord 1 = .ok (.istore_n 1, 1) := by decide +kernel
theorem dX3_readWord_2 : decode cX3_readWord 2 = .ok (.iconst 0, 1) := by decide +kernel
theorem dX3_readWord_3 : decode cX3_readWord 3 = .ok (.istore_n 2, 1) := by decide +kernel
theorem dX3_readWord_4 : decode cX3_readWord 4 = .ok (.iload_n 2, 1) := by decide +kernel
theorem dX3_readWord_5 : decode cX3_readWord 5 = .ok (.bipush 7, 2) := by decide +kernel
theorem dX3_readWord_7 : decode cX3_readWord 7 = .ok (.if_icmp .ge 50, 3) := by decide +kernel
theorem dX3_readWord_10 : decode cX3_readWord 10 = .ok (.iload_n 2, 1) := by decide +kernel
theorem dX3_readWord_11 : decode cX3_readWord 11 = .ok (.invokestatic 74, 3) := by decide +kernel
theorem dX3_readWord_14 : decode cX3_readWord 14 = .ok (.astore_n 3, 1) := by decide +kernel
theorem dX3_readWord_15 : decode cX3_readWord 15 = .ok (.aload_n 0, 1) := by decide +kernel
theorem dX3_readWord_16 : decode cX3_readWord 16 = .ok (.aload_n 3, 1) := by decide +kernel
theorem dX3_readWord_17 : decode cX3_readWord 17 = .ok (.invokevirtual 78, 3) := by decide +kernel
theorem dX3_readWord_20 : decode cX3_readWord 20 = .ok (.istore 4, 2) := by decide +kernel
theorem dX3_readWord_22 : decode cX3_readWord 22 = .ok (.iload 4, 2) := by decide +kernel
theorem dX3_readWord_24 : decode cX3_readWord 24 = .ok (.aload_n 3, 1) := by decide +kernel
theorem dX3_readWord_25 : decode cX3_readWord 25 = .ok (.invokevirtual 82, 3) := by decide +kernel
theorem dX3_readWord_28 : decode cX3_readWord 28 = .ok (.if_icmp .ne 16, 3) := by decide +kernel
theorem dX3_readWord_31 : decode cX3_readWord 31 = .ok (.aload_n 0, 1) := by decide +kernel
theorem dX3_readWord_32 : decode cX3_readWord 32 = .ok (.dup, 1) := by decide +kernel
theorem dX3_readWord_33 : decode cX3_readWord 33 = .ok (.getfield 39, 3) := by decide +kernel
theorem dX3_readWord_36 : decode cX3_readWord 36 = .ok (.iload 4, 2) := by decide +kernel
theorem dX3_readWord_38 : decode cX3_readWord 38 = .ok (.iadd, 1) := by decide +kernel
theorem dX3_readWord_39 : decode cX3_readWord 39 = .ok (.putfield 39, 3) := by decide +kernel
theorem dX3_readWord_42 : decode cX3_readWord 42 = .ok (.iload_n 2, 1) := by decide +kernel
theorem dX3_readWord_43 : decode cX3_readWord 43 = .ok (.ireturn, 1) := by decide +kernel
theorem dX3_readWord_44 : decode cX3_readWord 44 = .ok (.iload_n 1, 1) := by decide +kernel
theorem dX3_readWord_45 : decode cX3_readWord 45 = .ok (.iload 4, 2) := by decide +kernel
theorem dX3_readWord_47 : decode cX3_readWord 47 = .ok (.invokestatic 87, 3) := by decide +kernel
theorem dX3_readWord_50 : decode cX3_readWord 50 = .ok (.istore_n 1, 1) := by decide +kernel
theorem dX3_readWord_51 : decode cX3_readWord 51 = .ok (.iinc 2 1, 3) := by decide +kernel
theorem dX3_readWord_54 : decode cX3_readWord 54 = .ok (.goto (-50), 3) := by decide +kernel
theorem dX3_readWord_57 : decode cX3_readWord 57 = .ok (.aload_n 0, 1) := by decide +kernel
theorem dX3_readWord_58 : decode cX3_readWord 58 = .ok (.dup, 1) := by decide +kernel
theorem dX3_readWord_59 : decode cX3_readWord 59 = .ok (.getfield 39, 3) := by decide +kernel
theorem dX3_readWord_62 : decode cX3_readWord 62 = .ok (.iload_n 1, 1) := by decide +kernel
theorem dX3_readWord_63 : decode cX3_readWord 63 = .ok (.iadd, 1) := by decide +kernel
theorem dX3_readWord_64 : decode cX3_readWord 64 = .ok (.putfield 39, 3) := by decide +kernel
theorem dX3_readWord_67 : decode cX3_readWord 67 = .ok (.iconst (-1), 1) := by decide +kernel
theorem dX3_readWord_68 : decode cX3_readWord 68 = .ok (.ireturn, 1) := by decide +kernel
theorem cm_X3_readWord : CM yX3_readWord cX3_readWord 5 (some .int) 0 3 := ⟨w_566, w_1, w_567, w_98, ⟨by decide +kernel, by decide +kernel, by decide +kernel⟩, ⟨_, _, rfl⟩, by decide⟩
noncomputable def f_X3_readWord_4b (n : Nat) (rec4 : Int → Int → MM → RR) (v0 v1 v2 : Int) (h : MM) : RR :=
  if 7 ≤ v2 then
    gf h v0 3 5 fun r2 =>
    pf h v0 3 5 (wr (r2 + v1)) fun h3 =>
    some ((-1), h3)
  else
  bd (f_X3_nameOf n v2 h) fun r4 h4 =>
  gk h4 v0 3 <|
  bd (f_X3_fitting n v0 r4 h4) fun r5 h5 =>
  gk h5 r4 13 <|
  bd (f_J0_length_8abf5 n r4 h5) fun r6 h6 =>
  if r5 = r6 then
    gf h6 v0 3 5 fun r10 =>
    pf h6 v0 3 5 (wr (r10 + r5)) fun h11 =>
    some (v2, h11)
  else
  lb (jmax v1 r5) fun x8 =>
  lb (wr (v2 + 1)) fun x9 =>
  rec4 x8 x9 h6
noncomputable def f_X3_readWord_4 (n : Nat)  (v0 : Int) : Nat → Int → Int → MM → RR
  | 0, _, _, _ => none
  | k + 1, v1, v2, h => f_X3_readWord_4b n  (f_X3_readWord_4 n  v0 k) v0 v1 v2 h
noncomputable def f_X3_readWord (n : Nat) (v0 : Int) (h : MM) : RR :=
  f_X3_readWord_4 n v0 n 0 0 h
set_option maxRecDepth 20000 in
theorem b_X3_readWord_4b {g : GT} {Z : Int × MM} {n : Nat} (C : Cx g cX3_readWord 5 yX3_readWord 5 107) (hr : Rt g (some .int) 0 Z) {v0 v1 v2 : Int}  {rec4 : Int → Int → MM → RR} (L4 : ∀ (u1 u2 : Int) (h : MM), in32 u1 → in32 u2 → rec4 u1 u2 h = some Z → G g 4 [(2, v0), (0, u1), (0, u2), (3, 0), (3, 0)] [] h) (cv1 : in32 v1) (cv2 : in32 v2) {h : MM} (hf : f_X3_readWord_4b n rec4 v0 v1 v2 h = some Z) : G g 4 [(2, v0), (0, v1), (0, v2), (3, 0), (3, 0)] [] h := by
  unfold f_X3_readWord_4b at hf
  refine r_iload_n C dX3_readWord_4 rfl ?_
  refine r_bipush C dX3_readWord_5 rfl ?_
  refine r_icmp_ge C dX3_readWord_7 (tgt := 57) (by decide) cv2 (in32_of rfl) (fun n1 => ?_) (fun n1 => ?_)
  · have hf := ite_p n1 hf
    refine r_aload_n C dX3_readWord_57 rfl ?_
    refine r_dup C dX3_readWord_58 (by decide) ?_
    obtain ⟨q2, hf⟩ := gf_s hf
    refine r_gf C ct3 (j := 5) (ji := 5) dX3_readWord_59 q2 rfl rfl (by decide) w_542 rfl (fun c2 => ?_)
    have c2 : in32 _ := c2
    refine r_iload_n C dX3_readWord_62 rfl ?_
    refine r_iadd C dX3_readWord_63 ?_
    obtain ⟨q3, hf⟩ := pf_s hf
    refine r_pf C ct3 (j := 5) (ji := 5) dX3_readWord_64 q3 rfl rfl (by decide) w_542 rfl (Or.inl rfl) nar_int (in32_t _) ?_
    refine r_iconst C dX3_readWord_67 ?_
    cases hf
    exact r_jret C hr dX3_readWord_68 (in32_of rfl)
  · have hf := ite_n n1 hf
    refine r_iload_n C dX3_readWord_10 rfl ?_
    obtain ⟨r4, h4, hq4, hf⟩ := bd_s hf
    refine r_cS1 C (am_X3_nameOf (gl g) n) cm_X3_nameOf w_568 dX3_readWord_11 ⟨Nat.le_of_ble_eq_true rfl, Nat.le_of_ble_eq_true rfl⟩ cv2 rfl (Nat.le_of_ble_eq_true rfl) hq4 (by decide) (fun c4 => ?_)
    refine r_astore_n C dX3_readWord_14 (Nat.le_of_ble_eq_true rfl) rfl ?_
    refine r_aload_n C dX3_readWord_15 rfl ?_
    refine r_aload_n C dX3_readWord_16 rfl ?_
    obtain ⟨p5, hf⟩ := gk_s hf
    obtain ⟨r5, h5, hq5, hf⟩ := bd_s hf
    refine r_cV1 C (am_X3_fitting (gl g) n) cm_X3_fitting w_578 dX3_readWord_17 ⟨Nat.le_of_ble_eq_true rfl, Nat.le_of_ble_eq_true rfl⟩ p5 rfl trivial rfl (Nat.le_of_ble_eq_true rfl) hq5 (by decide) (fun c5 => ?_)
    have c5 : in32 _ := c5
    refine r_istore C dX3_readWord_20 (Nat.le_of_ble_eq_true rfl) rfl ?_
    refine r_iload C dX3_readWord_22 rfl ?_
    refine r_aload_n C dX3_readWord_24 rfl ?_
    obtain ⟨p6, hf⟩ := gk_s hf
    obtain ⟨r6, h6, hq6, hf⟩ := bd_s hf
    refine r_cVs0 C (am_J0_length_8abf5 (gl g) n) cm_J0_length_8abf5 w_582 dX3_readWord_25 ⟨Nat.le_of_ble_eq_true rfl, Nat.le_of_ble_eq_true rfl⟩ p6  rfl (Nat.le_of_ble_eq_true rfl) hq6 (by decide) (fun c6 => ?_)
    have c6 : in32 _ := c6
    refine r_icmp_ne C dX3_readWord_28 (tgt := 44) (by decide) c5 c6 (fun n7 => ?_) (fun n7 => ?_)
    · have hf := ite_n n7 hf
      refine r_iload_n C dX3_readWord_44 rfl ?_
      refine r_iload C dX3_readWord_45 rfl ?_
      refine r_mmax C dX3_readWord_47 w_630 ⟨Nat.le_of_ble_eq_true rfl, Nat.le_of_ble_eq_true rfl⟩ rfl cv1 c5 ?_
      obtain ⟨x8, e8, hf⟩ := lb_s hf
      have c8 : in32 x8 := by rw [e8]; exact (in32_max cv1 c5)
      refine r_istore_nL C dX3_readWord_50 e8 (Nat.le_of_ble_eq_true rfl) rfl ?_
      obtain ⟨x9, e9, hf⟩ := lb_s hf
      have c9 : in32 x9 := by rw [e9]; exact (in32_t _)
      refine r_iincL C dX3_readWord_51 rfl e9 (Nat.le_of_ble_eq_true rfl) rfl ?_
      refine r_goto C dX3_readWord_54 (tgt := 4) (by decide) ?_
      exact G.mask [true, true, true, false, false] rfl rfl (L4 _ _ _ c8 c9 hf)
    · have hf := ite_p n7 hf
      refine r_aload_n C dX3_readWord_31 rfl ?_
      refine r_dup C dX3_readWord_32 (by decide) ?_
      obtain ⟨q10, hf⟩ := gf_s hf
      refine r_gf C ct3 (j := 5) (ji := 5) dX3_readWord_33 q10 rfl rfl (by decide) w_542 rfl (fun c10 => ?_)
      have c10 : in32 _ := c10
      refine r_iload C dX3_readWord_36 rfl ?_
      refine r_iadd C dX3_readWord_38 ?_
      obtain ⟨q11, hf⟩ := pf_s hf
      refine r_pf C ct3 (j := 5) (ji := 5) dX3_readWord_39 q11 rfl rfl (by decide) w_542 rfl (Or.inl rfl) nar_int (in32_t _) ?_
      refine r_iload_n C dX3_readWord_42 rfl ?_
      cases hf
      exact r_jret C hr dX3_readWord_43 cv2
set_option maxRecDepth 20000 in
theorem l_X3_readWord_4 {g : GT} {Z : Int × MM} {n : Nat} (C : Cx g cX3_readWord 5 yX3_readWord 5 107) (hr : Rt g (some .int) 0 Z) {v0 : Int}    : ∀ (k : Nat) (v1 v2 : Int) (h : MM), in32 v1 → in32 v2 → f_X3_readWord_4 n  v0 k v1 v2 h = some Z → G g 4 [(2, v0), (0, v1), (0, v2), (3, 0), (3, 0)] [] h := by
  intro k
  induction k with
  | zero => intro v1 v2 h cv1 cv2 hf; exact absurd hf (by intro z; cases z)
  | succ k ih => intro v1 v2 h cv1 cv2 hf; exact b_X3_readWord_4b C hr (rec4 := f_X3_readWord_4 n  v0 k)  ih cv1 cv2 (show f_X3_readWord_4b n  (f_X3_readWord_4 n  v0 k) v0 v1 v2 h = some Z from hf)
set_option maxRecDepth 20000 in
theorem e_X3_readWord {g : GT} {Z : Int × MM} {n : Nat} (C : Cx g cX3_readWord 5 yX3_readWord 5 107) (hr : Rt g (some .int) 0 Z) {v0 : Int} (cv0 : cK 2 v0) {h : MM} (hf : f_X3_readWord n v0 h = some Z) : G g 0 [(2, v0), (3, 0), (3, 0), (3, 0), (3, 0)] [] h := by
  unfold f_X3_readWord at hf
  refine r_iconst C dX3_readWord_0 ?_
  refine r_istore_n C dX3_readWord_1 (Nat.le_of_ble_eq_true rfl) rfl ?_
  refine r_iconst C dX3_readWord_2 ?_
  refine r_istore_n C dX3_readWord_3 (Nat.le_of_ble_eq_true rfl) rfl ?_
  exact G.mask [true, true, true, false, false] rfl rfl (l_X3_readWord_4 C hr   _ _ _ _ (in32_of rfl) (in32_of rfl) hf)
set_option maxRecDepth 20000 in
theorem am_X3_readWord (l : Launch) (n : Nat) : AM l yX3_readWord cX3_readWord 5 (some .int) 5 107 [2] 0 (un1 (f_X3_readWord n)) := by
  refine AM.intro (by decide) (fun xs hx => ?_) (fun g xs h Z hl C hr hx hf => ?_)
  · obtain ⟨a0, rfl, c0⟩ := canL_1 hx
    exact Nat.le_of_ble_eq_true rfl
  · obtain ⟨a0, rfl, c0⟩ := canL_1 hx
    have hf := (un1_e _ a0 _).symm.trans hf
    exact e_X3_readWord (n := n) C hr c0 hf
/-! LinesPromised$Order.peek()I -/
theorem dX3_peek_0 : decode cX3_peek 0 = .ok (.aload_n 0, 1) := by decide +kernel
theorem dX3_peek_1 : decode cX3_peek 1 = .ok (.getfield 39, 3) := by decide +kernel
theorem dX3_peek_4 : decode cX3_peek 4 = .ok (.aload_n 0, 1) := by decide +kernel
theorem dX3_peek_5 : decode cX3_peek 5 = .ok (.getfield 31, 3) := by decide +kernel
theorem dX3_peek_8 : decode cX3_peek 8 = .ok (.arraylength, 1) := by decide +kernel
theorem dX3_peek_9 : decode cX3_peek 9 = .ok (.if_icmp .ge 15, 3) := by decide +kernel
theorem dX3_peek_12 : decode cX3_peek 12 = .ok (.aload_n 0, 1) := by decide +kernel
theorem dX3_peek_13 : decode cX3_peek 13 = .ok (.getfield 31, 3) := by decide +kernel
theorem dX3_peek_16 : decode cX3_peek 16 = .ok (.aload_n 0, 1) := by decide +kernel
theorem dX3_peek_17 : decode cX3_peek 17 = .ok (.getfield 39, 3) := by decide +kernel
theorem dX3_peek_20 : decode cX3_peek 20 = .ok (.baload, 1) := by decide +kernel
theorem dX3_peek_21 : decode cX3_peek 21 = .ok (.goto 4, 3) := by decide +kernel
theorem dX3_peek_24 : decode cX3_peek 24 = .ok (.iconst (-1), 1) := by decide +kernel
theorem dX3_peek_25 : decode cX3_peek 25 = .ok (.ireturn, 1) := by decide +kernel
theorem cm_X3_peek : CM yX3_peek cX3_peek 1 (some .int) 0 3 := ⟨w_643, w_5, w_644, w_98, ⟨by decide +kernel, by decide +kernel, by decide +kernel⟩, ⟨_, _, rfl⟩, by decide⟩
noncomputable def f_X3_peek_25 (n : Nat)  (s0 : Int) (h : MM) : RR :=
  some (s0, h)
noncomputable def f_X3_peek (n : Nat) (v0 : Int) (h : MM) : RR :=
  gf h v0 3 5 fun r1 =>
  gf h v0 3 1 fun r2 =>
  al h r2 102 fun r3 =>
  if r3 ≤ r1 then
    f_X3_peek_25 n ((-1)) h
  else
  gf h v0 3 1 fun r5 =>
  gf h v0 3 5 fun r6 =>
  rd h r5 102 r6 fun r7 =>
  f_X3_peek_25 n r7 h
set_option maxRecDepth 20000 in
theorem b_X3_peek_25 {g : GT} {Z : Int × MM} {n : Nat} (C : Cx g cX3_peek 1 yX3_peek 0 0) (hr : Rt g (some .int) 0 Z) {s0 : Int}    (cs0 : in32 s0) {h : MM} (hf : f_X3_peek_25 n  s0 h = some Z) : G g 25 [(3, 0)] [(0, s0)] h := by
  unfold f_X3_peek_25 at hf
  cases hf
  exact r_jret C hr dX3_peek_25 cs0
set_option maxRecDepth 20000 in
theorem e_X3_peek {g : GT} {Z : Int × MM} {n : Nat} (C : Cx g cX3_peek 1 yX3_peek 0 0) (hr : Rt g (some .int) 0 Z) {v0 : Int} (cv0 : cK 2 v0) {h : MM} (hf : f_X3_peek n v0 h = some Z) : G g 0 [(2, v0)] [] h := by
  unfold f_X3_peek at hf
  refine r_aload_n C dX3_peek_0 rfl ?_
  obtain ⟨q1, hf⟩ := gf_s hf
  refine r_gf C ct3 (j := 5) (ji := 5) dX3_peek_1 q1 rfl rfl (by decide) w_542 rfl (fun c1 => ?_)
  have c1 : in32 _ := c1
  refine r_aload_n C dX3_peek_4 rfl ?_
  obtain ⟨q2, hf⟩ := gf_s hf
  refine r_gf C ct3 (j := 1) (ji := 1) dX3_peek_5 q2 rfl rfl (by decide) w_534 rfl (fun c2 => ?_)
  obtain ⟨q3, hf⟩ := al_s hf
  refine r_alen C (tn := 102) dX3_peek_8 q3 rfl (by decide) (fun c3 _ => ?_)
  refine r_icmp_ge C dX3_peek_9 (tgt := 24) (by decide) c1 c3 (fun n4 => ?_) (fun n4 => ?_)
  · have hf := ite_p n4 hf
    refine r_iconst C dX3_peek_24 ?_
    exact G.mask [false] rfl rfl (b_X3_peek_25 C hr  (in32_of rfl) hf)
  · have hf := ite_n n4 hf
    refine r_aload_n C dX3_peek_12 rfl ?_
    obtain ⟨q5, hf⟩ := gf_s hf
    refine r_gf C ct3 (j := 1) (ji := 1) dX3_peek_13 q5 rfl rfl (by decide) w_534 rfl (fun c5 => ?_)
    refine r_aload_n C dX3_peek_16 rfl ?_
    obtain ⟨q6, hf⟩ := gf_s hf
    refine r_gf C ct3 (j := 5) (ji := 5) dX3_peek_17 q6 rfl rfl (by decide) w_542 rfl (fun c6 => ?_)
    have c6 : in32 _ := c6
    obtain ⟨q7, hf⟩ := rd_s hf
    refine r_bald C dX3_peek_20 q7 rfl (fun c7 => ?_)
    refine r_goto C dX3_peek_21 (tgt := 25) (by decide) ?_
    exact G.mask [false] rfl rfl (b_X3_peek_25 C hr  c7 hf)
set_option maxRecDepth 20000 in
theorem am_X3_peek (l : Launch) (n : Nat) : AM l yX3_peek cX3_peek 1 (some .int) 0 0 [2] 0 (un1 (f_X3_peek n)) := by
  refine AM.intro (by decide) (fun xs hx => ?_) (fun g xs h Z hl C hr hx hf => ?_)
  · obtain ⟨a0, rfl, c0⟩ := canL_1 hx
    exact Nat.le_of_ble_eq_true rfl
  · obtain ⟨a0, rfl, c0⟩ := canL_1 hx
    have hf := (un1_e _ a0 _).symm.trans hf
    exact e_X3_peek (n := n) C hr c0 hf
/-! LinesPromised$Order.factOf(I)I -/
theorem dX3_factOf_0 : decode cX3_factOf 0 = .ok (.iload_n 0, 1) := by decide +kernel
theorem dX3_factOf_1 : decode cX3_factOf 1 = .ok (.lookupswitch 71 #[(99, 67), (103, 69), (114, 65), (116, 61), (119, 63), (121, 59)], 59) := by decide +kernel
theorem dX3_factOf_60 : decode cX3_factOf 60 = .ok (.iconst 0, 1) := by decide +kernel
theorem dX3_factOf_61 : decode cX3_factOf 61 = .ok (.ireturn, 1) := by decide +kernel
theorem dX3_factOf_62 : decode cX3_factOf 62 = .ok (.iconst 1, 1) := by decide +kernel
theorem dX3_factOf_63 : decode cX3_factOf 63 = .ok (.ireturn, 1) := by decide +kernel
theorem dX3_factOf_64 : decode cX3_factOf 64 = .ok (.iconst 2, 1) := by decide +kernel
theorem dX3_factOf_65 : decode cX3_factOf 65 = .ok (.ireturn, 1) := by decide +kernel
theorem dX3_factOf_66 : decode cX3_factOf 66 = .ok (.iconst 3, 1) := by decide +kernel
theorem dX3_factOf_67 : decode cX3_factOf 67 = .ok (.ireturn, 1) := by decide +kernel
theorem dX3_factOf_68 : decode cX3_factOf 68 = .ok (.iconst 4, 1) := by decide +kernel
theorem dX3_factOf_69 : decode cX3_factOf 69 = .ok (.ireturn, 1) := by decide +kernel
theorem dX3_factOf_70 : decode cX3_factOf 70 = .ok (.iconst 5, 1) := by decide +kernel
theorem dX3_factOf_71 : decode cX3_factOf 71 = .ok (.ireturn, 1) := by decide +kernel
theorem dX3_factOf_72 : decode cX3_factOf 72 = .ok (.iconst (-1), 1) := by decide +kernel
theorem dX3_factOf_73 : decode cX3_factOf 73 = .ok (.ireturn, 1) := by decide +kernel
theorem cm_X3_factOf : CMs yX3_factOf cX3_factOf 1 (some .int) 1 := ⟨w_650, w_651, w_98, ⟨by decide +kernel, by decide +kernel, by decide +kernel⟩⟩
noncomputable def f_X3_factOf (n : Nat) (v0 : Int) (h : MM) : RR :=
  if v0 = 99 then
    some (4, h)
  else
  if v0 = 103 then
    some (5, h)
  else
  if v0 = 114 then
    some (3, h)
  else
  if v0 = 116 then
    some (1, h)
  else
  if v0 = 119 then
    some (2, h)
  else
  if v0 = 121 then
    some (0, h)
  else
  some ((-1), h)
set_option maxRecDepth 20000 in
theorem e_X3_factOf {g : GT} {Z : Int × MM} {n : Nat} (C : Cx g cX3_factOf 1 yX3_factOf 0 0) (hr : Rt g (some .int) 0 Z) {v0 : Int} (cv0 : cK 0 v0) {h : MM} (hf : f_X3_factOf n v0 h = some Z) : G g 0 [(0, v0)] [] h := by
  have cv0 : in32 v0 := cv0
  unfold f_X3_factOf at hf
  refine r_iload_n C dX3_factOf_0 rfl ?_
  rcases ite_s hf with ⟨n1, hf⟩ | ⟨n1, hf⟩
  · refine r_lsw C dX3_factOf_1 (tgt := 68) cv0 (by decide) (by rw [n1]) (by decide) ?_
    refine r_iconst C dX3_factOf_68 ?_
    cases hf
    exact r_jret C hr dX3_factOf_69 (in32_of rfl)
  rcases ite_s hf with ⟨n2, hf⟩ | ⟨n2, hf⟩
  · refine r_lsw C dX3_factOf_1 (tgt := 70) cv0 (by decide) (by rw [n2]) (by decide) ?_
    refine r_iconst C dX3_factOf_70 ?_
    cases hf
    exact r_jret C hr dX3_factOf_71 (in32_of rfl)
  rcases ite_s hf with ⟨n3, hf⟩ | ⟨n3, hf⟩
  · refine r_lsw C dX3_factOf_1 (tgt := 66) cv0 (by decide) (by rw [n3]) (by decide) ?_
    refine r_iconst C dX3_factOf_66 ?_
    cases hf
    exact r_jret C hr dX3_factOf_67 (in32_of rfl)
  rcases ite_s hf with ⟨n4, hf⟩ | ⟨n4, hf⟩
  · refine r_lsw C dX3_factOf_1 (tgt := 62) cv0 (by decide) (by rw [n4]) (by decide) ?_
    refine r_iconst C dX3_factOf_62 ?_
    cases hf
    exact r_jret C hr dX3_factOf_63 (in32_of rfl)
  rcases ite_s hf with ⟨n5, hf⟩ | ⟨n5, hf⟩
  · refine r_lsw C dX3_factOf_1 (tgt := 64) cv0 (by decide) (by rw [n5]) (by decide) ?_
    refine r_iconst C dX3_factOf_64 ?_
    cases hf
    exact r_jret C hr dX3_factOf_65 (in32_of rfl)
  rcases ite_s hf with ⟨n6, hf⟩ | ⟨n6, hf⟩
  · refine r_lsw C dX3_factOf_1 (tgt := 60) cv0 (by decide) (by rw [n6]) (by decide) ?_
    refine r_iconst C dX3_factOf_60 ?_
    cases hf
    exact r_jret C hr dX3_factOf_61 (in32_of rfl)
  refine r_lsw C dX3_factOf_1 (tgt := 72) (off := 71) cv0 (by decide) (by simp [Op.lookupswitch.offset]; (repeat' split) <;> omega) (by decide) ?_
  refine r_iconst C dX3_factOf_72 ?_
  cases hf
  exact r_jret C hr dX3_factOf_73 (in32_of rfl)
set_option maxRecDepth 20000 in
theorem am_X3_factOf (l : Launch) (n : Nat) : AM l yX3_factOf cX3_factOf 1 (some .int) 0 0 [0] 0 (un1 (f_X3_factOf n)) := by
  refine AM.intro (by decide) (fun xs hx => ?_) (fun g xs h Z hl C hr hx hf => ?_)
  · obtain ⟨a0, rfl, c0⟩ := canL_1 hx
    exact Nat.le_of_ble_eq_true rfl
  · obtain ⟨a0, rfl, c0⟩ := canL_1 hx
    have hf := (un1_e _ a0 _).symm.trans hf
    exact e_X3_factOf (n := n) C hr c0 hf
/-! LinesPromised$Order.comparedGauge(I)I -/
theorem dX3_comparedGauge_0 : decode cX3_comparedGauge 0 = .ok (.iload_n 1, 1) := by decide +kernel
theorem dX3_comparedGauge_1 : decode cX3_comparedGauge 1 = .ok (.bipush 48, 2) := by decide +kernel
theorem dX3_comparedGauge_3 : decode cX3_comparedGauge 3 = .ok (.if_icmp .eq 11, 3) := by decide +kernel
theorem dX3_comparedGauge_6 : decode cX3_comparedGauge 6 = .ok (.iload_n 1, 1) := by decide +kernel
theorem dX3_comparedGauge_7 : decode cX3_comparedGauge 7 = .ok (.bipush 49, 2) := by decide +kernel
theorem dX3_comparedGauge_9 : decode cX3_comparedGauge 9 = .ok (.if_icmp .eq 5, 3) := by decide +kernel
theorem dX3_comparedGauge_12 : decode cX3_comparedGauge 12 = .ok (.iconst (-1), 1) := by decide +kernel
theorem dX3_comparedGauge_13 : decode cX3_comparedGauge 13 = .ok (.ireturn, 1) := by decide +kernel
theorem dX3_comparedGauge_14 : decode cX3_comparedGauge 14 = .ok (.aload_n 0, 1) := by decide +kernel
theorem dX3_comparedGauge_15 : decode cX3_comparedGauge 15 = .ok (.dup, 1) := by decide +kernel
theorem dX3_comparedGauge_16 : decode cX3_comparedGauge 16 = .ok (.getfield 39, 3) := by decide +kernel
theorem dX3_comparedGauge_19 : decode cX3_comparedGauge 19 = .ok (.iconst 1, 1) := by decide +kernel
theorem dX3_comparedGauge_20 : decode cX3_comparedGauge 20 = .ok (.iadd, 1) := by decide +kernel
theorem dX3_comparedGauge_21 : decode cX3_comparedGauge 21 = .ok (.putfield 39, 3) := by decide +kernel
theorem dX3_comparedGauge_24 : decode cX3_comparedGauge 24 = .ok (.aload_n 0, 1) := by decide +kernel
theorem dX3_comparedGauge_25 : decode cX3_comparedGauge 25 = .ok (.getfield 18, 3) := by decide +kernel
theorem dX3_comparedGauge_28 : decode cX3_comparedGauge 28 = .ok (.iconst 5, 1) := by decide +kernel
theorem dX3_comparedGauge_29 : decode cX3_comparedGauge 29 = .ok (.iaload, 1) := by decide +kernel
theorem dX3_comparedGauge_30 : decode cX3_comparedGauge 30 = .ok (.iload_n 1, 1) := by decide +kernel
theorem dX3_comparedGauge_31 : decode cX3_comparedGauge 31 = .ok (.bipush 48, 2) := by decide +kernel
theorem dX3_comparedGauge_33 : decode cX3_comparedGauge 33 = .ok (.isub, 1) := by decide +kernel
theorem dX3_comparedGauge_34 : decode cX3_comparedGauge 34 = .ok (.if_icmp .ne 7, 3) := by decide +kernel
theorem dX3_comparedGauge_37 : decode cX3_comparedGauge 37 = .ok (.iconst 1, 1) := by decide +kernel
theorem dX3_comparedGauge_38 : decode cX3_comparedGauge 38 = .ok (.goto 4, 3) := by decide +kernel
theorem dX3_comparedGauge_41 : decode cX3_comparedGauge 41 = .ok (.iconst 0, 1) := by decide +kernel
theorem dX3_comparedGauge_42 : decode cX3_comparedGauge 42 = .ok (.ireturn, 1) := by decide +kernel
theorem cm_X3_comparedGauge : CM yX3_comparedGauge cX3_comparedGauge 2 (some .int) 1 3 := ⟨w_654, w_7, w_655, w_98, ⟨by decide +kernel, by decide +kernel, by decide +kernel⟩, ⟨_, _, rfl⟩, by decide⟩
noncomputable def f_X3_comparedGauge_42 (n : Nat)  (s0 : Int) (h : MM) : RR :=
  some (s0, h)
noncomputable def f_X3_comparedGauge_14 (n : Nat)  (v0 v1 : Int) (h : MM) : RR :=
  gf h v0 3 5 fun r1 =>
  pf h v0 3 5 (wr (r1 + 1)) fun h2 =>
  gf h2 v0 3 4 fun r3 =>
  rd h2 r3 100 5 fun r4 =>
  if r4 = wr (v1 - 48) then
    f_X3_comparedGauge_42 n 1 h2
  else
  f_X3_comparedGauge_42 n 0 h2
noncomputable def f_X3_comparedGauge (n : Nat) (v0 v1 : Int) (h : MM) : RR :=
  if v1 = 48 then
    f_X3_comparedGauge_14 n v0 v1 h
  else
  if v1 = 49 then
    f_X3_comparedGauge_14 n v0 v1 h
  else
  some ((-1), h)
set_option maxRecDepth 20000 in
theorem b_X3_comparedGauge_42 {g : GT} {Z : Int × MM} {n : Nat} (C : Cx g cX3_comparedGauge 2 yX3_comparedGauge 0 0) (hr : Rt g (some .int) 0 Z) {s0 : Int}    (cs0 : in32 s0) {h : MM} (hf : f_X3_comparedGauge_42 n  s0 h = some Z) : G g 42 [(3, 0), (3, 0)] [(0, s0)] h := by
  unfold f_X3_comparedGauge_42 at hf
  cases hf
  exact r_jret C hr dX3_comparedGauge_42 cs0
set_option maxRecDepth 20000 in
theorem b_X3_comparedGauge_14 {g : GT} {Z : Int × MM} {n : Nat} (C : Cx g cX3_comparedGauge 2 yX3_comparedGauge 0 0) (hr : Rt g (some .int) 0 Z) {v0 v1 : Int}    (cv1 : in32 v1) {h : MM} (hf : f_X3_comparedGauge_14 n  v0 v1 h = some Z) : G g 14 [(2, v0), (0, v1)] [] h := by
  unfold f_X3_comparedGauge_14 at hf
  refine r_aload_n C dX3_comparedGauge_14 rfl ?_
  refine r_dup C dX3_comparedGauge_15 (by decide) ?_
  obtain ⟨q1, hf⟩ := gf_s hf
  refine r_gf C ct3 (j := 5) (ji := 5) dX3_comparedGauge_16 q1 rfl rfl (by decide) w_542 rfl (fun c1 => ?_)
  have c1 : in32 _ := c1
  refine r_iconst C dX3_comparedGauge_19 ?_
  refine r_iadd C dX3_comparedGauge_20 ?_
  obtain ⟨q2, hf⟩ := pf_s hf
  refine r_pf C ct3 (j := 5) (ji := 5) dX3_comparedGauge_21 q2 rfl rfl (by decide) w_542 rfl (Or.inl rfl) nar_int (in32_t _) ?_
  refine r_aload_n C dX3_comparedGauge_24 rfl ?_
  obtain ⟨q3, hf⟩ := gf_s hf
  refine r_gf C ct3 (j := 4) (ji := 4) dX3_comparedGauge_25 q3 rfl rfl (by decide) w_540 rfl (fun c3 => ?_)
  refine r_iconst C dX3_comparedGauge_28 ?_
  obtain ⟨q4, hf⟩ := rd_s hf
  refine r_iald C dX3_comparedGauge_29 q4 rfl (fun c4 => ?_)
  refine r_iload_n C dX3_comparedGauge_30 rfl ?_
  refine r_bipush C dX3_comparedGauge_31 rfl ?_
  refine r_isub C dX3_comparedGauge_33 ?_
  refine r_icmp_ne C dX3_comparedGauge_34 (tgt := 41) (by decide) c4 (in32_t _) (fun n5 => ?_) (fun n5 => ?_)
  · have hf := ite_n n5 hf
    refine r_iconst C dX3_comparedGauge_41 ?_
    exact G.mask [false, false] rfl rfl (b_X3_comparedGauge_42 C hr  (in32_of rfl) hf)
  · have hf := ite_p n5 hf
    refine r_iconst C dX3_comparedGauge_37 ?_
    refine r_goto C dX3_comparedGauge_38 (tgt := 42) (by decide) ?_
    exact G.mask [false, false] rfl rfl (b_X3_comparedGauge_42 C hr  (in32_of rfl) hf)
set_option maxRecDepth 20000 in
theorem e_X3_comparedGauge {g : GT} {Z : Int × MM} {n : Nat} (C : Cx g cX3_comparedGauge 2 yX3_comparedGauge 0 0) (hr : Rt g (some .int) 0 Z) {v0 v1 : Int} (cv0 : cK 2 v0) (cv1 : cK 0 v1) {h : MM} (hf : f_X3_comparedGauge n v0 v1 h = some Z) : G g 0 [(2, v0), (0, v1)] [] h := by
  have cv1 : in32 v1 := cv1
  unfold f_X3_comparedGauge at hf
  refine r_iload_n C dX3_comparedGauge_0 rfl ?_
  refine r_bipush C dX3_comparedGauge_1 rfl ?_
  refine r_icmp_eq C dX3_comparedGauge_3 (tgt := 14) (by decide) cv1 (in32_of rfl) (fun n1 => ?_) (fun n1 => ?_)
  · have hf := ite_p n1 hf
    exact G.mask [true, true] rfl rfl (b_X3_comparedGauge_14 C hr  cv1 hf)
  · have hf := ite_n n1 hf
    refine r_iload_n C dX3_comparedGauge_6 rfl ?_
    refine r_bipush C dX3_comparedGauge_7 rfl ?_
    refine r_icmp_eq C dX3_comparedGauge_9 (tgt := 14) (by decide) cv1 (in32_of rfl) (fun n2 => ?_) (fun n2 => ?_)
    · have hf := ite_p n2 hf
      exact G.mask [true, true] rfl rfl (b_X3_comparedGauge_14 C hr  cv1 hf)
    · have hf := ite_n n2 hf
      refine r_iconst C dX3_comparedGauge_12 ?_
      cases hf
      exact r_jret C hr dX3_comparedGauge_13 (in32_of rfl)
set_option maxRecDepth 20000 in
theorem am_X3_comparedGauge (l : Launch) (n : Nat) : AM l yX3_comparedGauge cX3_comparedGauge 2 (some .int) 0 0 [2, 0] 0 (un2 (f_X3_comparedGauge n)) := by
  refine AM.intro (by decide) (fun xs hx => ?_) (fun g xs h Z hl C hr hx hf => ?_)
  · obtain ⟨a0, a1, rfl, c0, c1⟩ := canL_2 hx
    exact Nat.le_of_ble_eq_true rfl
  · obtain ⟨a0, a1, rfl, c0, c1⟩ := canL_2 hx
    have hf := (un2_e _ a0 a1 _).symm.trans hf
    exact e_X3_comparedGauge (n := n) C hr c0 c1 hf
