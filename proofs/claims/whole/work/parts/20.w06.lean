theorem w_753 : (Cond.fieldLink "LinesPromised$Papers" 77 "LinesPromised$Paper" "slot" "I") ∈ wG := wG_in 753 (by decide +kernel) (by decide +kernel)
theorem w_1246 : (Cond.code ⟨"LinesPromised$Papers", "isFallen", "(I)Z"⟩ prog_7_method_10_code 4 (some .boolean)) ∈ wG := wG_in 1246 (by decide +kernel) (by decide +kernel)
theorem w_1244 : (Cond.instanceMethod ⟨"LinesPromised$Papers", "isFallen", "(I)Z"⟩) ∈ wG := wG_in 1244 (by decide +kernel) (by decide +kernel)
theorem w_1245 : (Cond.selects "LinesPromised$Papers" ⟨"LinesPromised$Papers", "isFallen", "(I)Z"⟩ ⟨"LinesPromised$Papers", "isFallen", "(I)Z"⟩) ∈ wG := wG_in 1245 (by decide +kernel) (by decide +kernel)
theorem w_169 : (Cond.fieldLink "LinesPromised$World" 230 "LinesPromised$Papers" "left" "[I") ∈ wG := wG_in 169 (by decide +kernel) (by decide +kernel)
theorem w_1243 : (Cond.methodLink "LinesPromised$World" 233 ⟨"LinesPromised$Papers", "isFallen", "(I)Z"⟩) ∈ wG := wG_in 1243 (by decide +kernel) (by decide +kernel)
theorem w_217 : (Cond.fieldLink "LinesPromised$World" 236 "LinesPromised$Scrip" "coins" "[I") ∈ wG := wG_in 217 (by decide +kernel) (by decide +kernel)
theorem w_1247 : (Cond.methodLink "LinesPromised$World" 239 ⟨"java/lang/Math", "min", "(II)I"⟩) ∈ wG := wG_in 1247 (by decide +kernel) (by decide +kernel)
theorem w_172 : (Cond.fieldLink "LinesPromised$World" 242 "LinesPromised$Papers" "done" "[I") ∈ wG := wG_in 172 (by decide +kernel) (by decide +kernel)
theorem w_1242 : (Cond.code ⟨"LinesPromised$World", "digLine", "(III)I"⟩ prog_12_method_17_code 6 (some .int)) ∈ wG := wG_in 1242 (by decide +kernel) (by decide +kernel)
theorem w_1241 : (Cond.instanceMethod ⟨"LinesPromised$World", "digLine", "(III)I"⟩) ∈ wG := wG_in 1241 (by decide +kernel) (by decide +kernel)
theorem w_32 : (Cond.selects "LinesPromised$World" ⟨"LinesPromised$World", "digLine", "(III)I"⟩ ⟨"LinesPromised$World", "digLine", "(III)I"⟩) ∈ wG := wG_in 32 (by decide +kernel) (by decide +kernel)
theorem w_179 : (Cond.fieldLink "LinesPromised$World" 215 "LinesPromised$Papers" "size" "I") ∈ wG := wG_in 179 (by decide +kernel) (by decide +kernel)
theorem w_1237 : (Cond.methodLink "LinesPromised$World" 218 ⟨"LinesPromised$Papers", "find", "(II)LLinesPromised$Paper;"⟩) ∈ wG := wG_in 1237 (by decide +kernel) (by decide +kernel)
theorem w_1238 : (Cond.methodLink "LinesPromised$World" 222 ⟨"LinesPromised$Papers", "isMarked", "(I)Z"⟩) ∈ wG := wG_in 1238 (by decide +kernel) (by decide +kernel)
theorem w_1239 : (Cond.methodLink "LinesPromised$World" 226 ⟨"LinesPromised$World", "digLine", "(III)I"⟩) ∈ wG := wG_in 1239 (by decide +kernel) (by decide +kernel)
theorem w_318 : (Cond.fieldLink "LinesPromised$World" 88 "LinesPromised$World" "men" "I") ∈ wG := wG_in 318 (by decide +kernel) (by decide +kernel)
theorem w_1236 : (Cond.code ⟨"LinesPromised$World", "digToday", "()V"⟩ prog_12_method_16_code 4 none) ∈ wG := wG_in 1236 (by decide +kernel) (by decide +kernel)
theorem w_1234 : (Cond.instanceMethod ⟨"LinesPromised$World", "digToday", "()V"⟩) ∈ wG := wG_in 1234 (by decide +kernel) (by decide +kernel)
theorem w_1235 : (Cond.selects "LinesPromised$World" ⟨"LinesPromised$World", "digToday", "()V"⟩ ⟨"LinesPromised$World", "digToday", "()V"⟩) ∈ wG := wG_in 1235 (by decide +kernel) (by decide +kernel)
theorem w_180 : (Cond.fieldLink "LinesPromised" 410 "LinesPromised$Papers" "size" "I") ∈ wG := wG_in 180 (by decide +kernel) (by decide +kernel)
theorem w_1253 : (Cond.methodLink "LinesPromised" 437 ⟨"LinesPromised$Papers", "isGranted", "(I)Z"⟩) ∈ wG := wG_in 1253 (by decide +kernel) (by decide +kernel)
theorem w_1252 : (Cond.methodLink "LinesPromised" 431 ⟨"java/util/Arrays", "fill", "([II)V"⟩) ∈ wG := wG_in 1252 (by decide +kernel) (by decide +kernel)
theorem w_1251 : (Cond.code ⟨"LinesPromised", "remember", "(I)V"⟩ prog_1_method_58_code 5 none) ∈ wG := wG_in 1251 (by decide +kernel) (by decide +kernel)
theorem w_1250 : (Cond.instanceMethod ⟨"LinesPromised", "remember", "(I)V"⟩) ∈ wG := wG_in 1250 (by decide +kernel) (by decide +kernel)
theorem w_33 : (Cond.selects "LinesPromised" ⟨"LinesPromised", "remember", "(I)V"⟩ ⟨"LinesPromised", "remember", "(I)V"⟩) ∈ wG := wG_in 33 (by decide +kernel) (by decide +kernel)
theorem w_1233 : (Cond.methodLink "LinesPromised" 361 ⟨"LinesPromised$World", "digToday", "()V"⟩) ∈ wG := wG_in 1233 (by decide +kernel) (by decide +kernel)
theorem w_1248 : (Cond.methodLink "LinesPromised" 364 ⟨"LinesPromised", "remember", "(I)V"⟩) ∈ wG := wG_in 1248 (by decide +kernel) (by decide +kernel)
theorem w_1232 : (Cond.code ⟨"LinesPromised", "dig", "(I)I"⟩ prog_1_method_38_code 3 (some .int)) ∈ wG := wG_in 1232 (by decide +kernel) (by decide +kernel)
theorem w_1230 : (Cond.instanceMethod ⟨"LinesPromised", "dig", "(I)I"⟩) ∈ wG := wG_in 1230 (by decide +kernel) (by decide +kernel)
theorem w_1231 : (Cond.selects "LinesPromised" ⟨"LinesPromised", "dig", "(I)I"⟩ ⟨"LinesPromised", "dig", "(I)I"⟩) ∈ wG := wG_in 1231 (by decide +kernel) (by decide +kernel)
theorem w_173 : (Cond.fieldLink "LinesPromised" 367 "LinesPromised$Papers" "done" "[I") ∈ wG := wG_in 173 (by decide +kernel) (by decide +kernel)
theorem w_1257 : (Cond.code ⟨"LinesPromised", "last", "(II)I"⟩ prog_1_method_39_code 3 (some .int)) ∈ wG := wG_in 1257 (by decide +kernel) (by decide +kernel)
theorem w_1255 : (Cond.instanceMethod ⟨"LinesPromised", "last", "(II)I"⟩) ∈ wG := wG_in 1255 (by decide +kernel) (by decide +kernel)
theorem w_1256 : (Cond.selects "LinesPromised" ⟨"LinesPromised", "last", "(II)I"⟩ ⟨"LinesPromised", "last", "(II)I"⟩) ∈ wG := wG_in 1256 (by decide +kernel) (by decide +kernel)
theorem w_735 : (Cond.fieldLink "LinesPromised$Papers" 103 "LinesPromised$Paper" "first" "I") ∈ wG := wG_in 735 (by decide +kernel) (by decide +kernel)
theorem w_740 : (Cond.fieldLink "LinesPromised$Papers" 106 "LinesPromised$Paper" "second" "I") ∈ wG := wG_in 740 (by decide +kernel) (by decide +kernel)
theorem w_745 : (Cond.fieldLink "LinesPromised$Papers" 109 "LinesPromised$Paper" "gauge" "I") ∈ wG := wG_in 745 (by decide +kernel) (by decide +kernel)
theorem w_1265 : (Cond.code ⟨"LinesPromised$Papers", "townsOfBothGauges", "()I"⟩ prog_7_method_22_code 6 (some .int)) ∈ wG := wG_in 1265 (by decide +kernel) (by decide +kernel)
theorem w_1263 : (Cond.instanceMethod ⟨"LinesPromised$Papers", "townsOfBothGauges", "()I"⟩) ∈ wG := wG_in 1263 (by decide +kernel) (by decide +kernel)
theorem w_1264 : (Cond.selects "LinesPromised$Papers" ⟨"LinesPromised$Papers", "townsOfBothGauges", "()I"⟩ ⟨"LinesPromised$Papers", "townsOfBothGauges", "()I"⟩) ∈ wG := wG_in 1264 (by decide +kernel) (by decide +kernel)
theorem w_1262 : (Cond.methodLink "LinesPromised" 370 ⟨"LinesPromised$Papers", "townsOfBothGauges", "()I"⟩) ∈ wG := wG_in 1262 (by decide +kernel) (by decide +kernel)
theorem w_1261 : (Cond.code ⟨"LinesPromised", "meet", "()I"⟩ prog_1_method_40_code 1 (some .int)) ∈ wG := wG_in 1261 (by decide +kernel) (by decide +kernel)
theorem w_1259 : (Cond.instanceMethod ⟨"LinesPromised", "meet", "()I"⟩) ∈ wG := wG_in 1259 (by decide +kernel) (by decide +kernel)
theorem w_1260 : (Cond.selects "LinesPromised" ⟨"LinesPromised", "meet", "()I"⟩ ⟨"LinesPromised", "meet", "()I"⟩) ∈ wG := wG_in 1260 (by decide +kernel) (by decide +kernel)
theorem w_1273 : (Cond.code ⟨"LinesPromised", "areTowns", "(I)Z"⟩ prog_1_method_56_code 2 (some .boolean)) ∈ wG := wG_in 1273 (by decide +kernel) (by decide +kernel)
theorem w_1272 : (Cond.instanceMethod ⟨"LinesPromised", "areTowns", "(I)Z"⟩) ∈ wG := wG_in 1272 (by decide +kernel) (by decide +kernel)
theorem w_34 : (Cond.selects "LinesPromised" ⟨"LinesPromised", "areTowns", "(I)Z"⟩ ⟨"LinesPromised", "areTowns", "(I)Z"⟩) ∈ wG := wG_in 34 (by decide +kernel) (by decide +kernel)
theorem w_423 : (Cond.fieldLink "LinesPromised$Lines" 27 "LinesPromised$Lines" "size" "I") ∈ wG := wG_in 423 (by decide +kernel) (by decide +kernel)
theorem w_422 : (Cond.fieldLink "LinesPromised$Lines" 31 "LinesPromised$Lines" "gauges" "I") ∈ wG := wG_in 422 (by decide +kernel) (by decide +kernel)
theorem w_1281 : (Cond.code ⟨"LinesPromised$Lines", "clear", "()V"⟩ prog_4_method_2_code 1 none) ∈ wG := wG_in 1281 (by decide +kernel) (by decide +kernel)
theorem w_1279 : (Cond.instanceMethod ⟨"LinesPromised$Lines", "clear", "()V"⟩) ∈ wG := wG_in 1279 (by decide +kernel) (by decide +kernel)
theorem w_1280 : (Cond.selects "LinesPromised$Lines" ⟨"LinesPromised$Lines", "clear", "()V"⟩ ⟨"LinesPromised$Lines", "clear", "()V"⟩) ∈ wG := wG_in 1280 (by decide +kernel) (by decide +kernel)
theorem w_742 : (Cond.fieldLink "LinesPromised$Lines" 42 "LinesPromised$Paper" "gauge" "I") ∈ wG := wG_in 742 (by decide +kernel) (by decide +kernel)
theorem w_731 : (Cond.fieldLink "LinesPromised$Lines" 34 "LinesPromised$Paper" "first" "I") ∈ wG := wG_in 731 (by decide +kernel) (by decide +kernel)
theorem w_737 : (Cond.fieldLink "LinesPromised$Lines" 39 "LinesPromised$Paper" "second" "I") ∈ wG := wG_in 737 (by decide +kernel) (by decide +kernel)
theorem w_1285 : (Cond.code ⟨"LinesPromised$Lines", "add", "(ILLinesPromised$Paper;JII)V"⟩ prog_4_method_3_code 8 none) ∈ wG := wG_in 1285 (by decide +kernel) (by decide +kernel)
theorem w_1283 : (Cond.instanceMethod ⟨"LinesPromised$Lines", "add", "(ILLinesPromised$Paper;JII)V"⟩) ∈ wG := wG_in 1283 (by decide +kernel) (by decide +kernel)
theorem w_1284 : (Cond.selects "LinesPromised$Lines" ⟨"LinesPromised$Lines", "add", "(ILLinesPromised$Paper;JII)V"⟩ ⟨"LinesPromised$Lines", "add", "(ILLinesPromised$Paper;JII)V"⟩) ∈ wG := wG_in 1284 (by decide +kernel) (by decide +kernel)
theorem w_1282 : (Cond.methodLink "LinesPromised" 442 ⟨"LinesPromised$Lines", "add", "(ILLinesPromised$Paper;JII)V"⟩) ∈ wG := wG_in 1282 (by decide +kernel) (by decide +kernel)
theorem w_1278 : (Cond.methodLink "LinesPromised" 440 ⟨"LinesPromised$Lines", "clear", "()V"⟩) ∈ wG := wG_in 1278 (by decide +kernel) (by decide +kernel)
theorem w_1277 : (Cond.code ⟨"LinesPromised", "gatherGranted", "()V"⟩ prog_1_method_59_code 3 none) ∈ wG := wG_in 1277 (by decide +kernel) (by decide +kernel)
theorem w_1276 : (Cond.instanceMethod ⟨"LinesPromised", "gatherGranted", "()V"⟩) ∈ wG := wG_in 1276 (by decide +kernel) (by decide +kernel)
theorem w_35 : (Cond.selects "LinesPromised" ⟨"LinesPromised", "gatherGranted", "()V"⟩ ⟨"LinesPromised", "gatherGranted", "()V"⟩) ∈ wG := wG_in 35 (by decide +kernel) (by decide +kernel)
theorem w_1294 : (Cond.code ⟨"LinesPromised$Lines", "join", "(II)Z"⟩ prog_4_method_4_code 7 (some .boolean)) ∈ wG := wG_in 1294 (by decide +kernel) (by decide +kernel)
theorem w_1293 : (Cond.instanceMethod ⟨"LinesPromised$Lines", "join", "(II)Z"⟩) ∈ wG := wG_in 1293 (by decide +kernel) (by decide +kernel)
theorem w_36 : (Cond.selects "LinesPromised$Lines" ⟨"LinesPromised$Lines", "join", "(II)Z"⟩ ⟨"LinesPromised$Lines", "join", "(II)Z"⟩) ∈ wG := wG_in 36 (by decide +kernel) (by decide +kernel)
theorem w_1291 : (Cond.methodLink "LinesPromised$Lines" 51 ⟨"LinesPromised$Lines", "join", "(II)Z"⟩) ∈ wG := wG_in 1291 (by decide +kernel) (by decide +kernel)
theorem w_1290 : (Cond.methodLink "LinesPromised$Lines" 45 ⟨"java/lang/Integer", "bitCount", "(I)I"⟩) ∈ wG := wG_in 1290 (by decide +kernel) (by decide +kernel)
theorem w_1289 : (Cond.code ⟨"LinesPromised$Lines", "fewestRelaid", "(I)I"⟩ prog_4_method_5_code 6 (some .int)) ∈ wG := wG_in 1289 (by decide +kernel) (by decide +kernel)
theorem w_1287 : (Cond.instanceMethod ⟨"LinesPromised$Lines", "fewestRelaid", "(I)I"⟩) ∈ wG := wG_in 1287 (by decide +kernel) (by decide +kernel)
theorem w_1288 : (Cond.selects "LinesPromised$Lines" ⟨"LinesPromised$Lines", "fewestRelaid", "(I)I"⟩ ⟨"LinesPromised$Lines", "fewestRelaid", "(I)I"⟩) ∈ wG := wG_in 1288 (by decide +kernel) (by decide +kernel)
theorem w_1270 : (Cond.methodLink "LinesPromised" 373 ⟨"LinesPromised", "areTowns", "(I)Z"⟩) ∈ wG := wG_in 1270 (by decide +kernel) (by decide +kernel)
theorem w_1274 : (Cond.methodLink "LinesPromised" 376 ⟨"LinesPromised", "gatherGranted", "()V"⟩) ∈ wG := wG_in 1274 (by decide +kernel) (by decide +kernel)
theorem w_1286 : (Cond.methodLink "LinesPromised" 379 ⟨"LinesPromised$Lines", "fewestRelaid", "(I)I"⟩) ∈ wG := wG_in 1286 (by decide +kernel) (by decide +kernel)
theorem w_1269 : (Cond.code ⟨"LinesPromised", "gauge", "(I)I"⟩ prog_1_method_41_code 2 (some .int)) ∈ wG := wG_in 1269 (by decide +kernel) (by decide +kernel)
theorem w_1267 : (Cond.instanceMethod ⟨"LinesPromised", "gauge", "(I)I"⟩) ∈ wG := wG_in 1267 (by decide +kernel) (by decide +kernel)
theorem w_1268 : (Cond.selects "LinesPromised" ⟨"LinesPromised", "gauge", "(I)I"⟩ ⟨"LinesPromised", "gauge", "(I)I"⟩) ∈ wG := wG_in 1268 (by decide +kernel) (by decide +kernel)
theorem w_424 : (Cond.fieldLink "LinesPromised" 445 "LinesPromised$Lines" "size" "I") ∈ wG := wG_in 424 (by decide +kernel) (by decide +kernel)
theorem w_1304 : (Cond.methodLink "LinesPromised" 446 ⟨"LinesPromised$Land", "claimsOf", "([I)I"⟩) ∈ wG := wG_in 1304 (by decide +kernel) (by decide +kernel)
theorem w_167 : (Cond.fieldLink "LinesPromised" 449 "LinesPromised$Papers" "bars" "[J") ∈ wG := wG_in 167 (by decide +kernel) (by decide +kernel)
theorem w_1303 : (Cond.code ⟨"LinesPromised", "gatherGrantable", "()V"⟩ prog_1_method_60_code 5 none) ∈ wG := wG_in 1303 (by decide +kernel) (by decide +kernel)
theorem w_1302 : (Cond.instanceMethod ⟨"LinesPromised", "gatherGrantable", "()V"⟩) ∈ wG := wG_in 1302 (by decide +kernel) (by decide +kernel)
theorem w_37 : (Cond.selects "LinesPromised" ⟨"LinesPromised", "gatherGrantable", "()V"⟩ ⟨"LinesPromised", "gatherGrantable", "()V"⟩) ∈ wG := wG_in 37 (by decide +kernel) (by decide +kernel)
theorem w_1316 : (Cond.code ⟨"LinesPromised$Lines", "sumOf", "([II)I"⟩ prog_4_method_10_code 5 (some .int)) ∈ wG := wG_in 1316 (by decide +kernel) (by decide +kernel)
theorem w_1315 : (Cond.instanceMethod ⟨"LinesPromised$Lines", "sumOf", "([II)I"⟩) ∈ wG := wG_in 1315 (by decide +kernel) (by decide +kernel)
theorem w_38 : (Cond.selects "LinesPromised$Lines" ⟨"LinesPromised$Lines", "sumOf", "([II)I"⟩ ⟨"LinesPromised$Lines", "sumOf", "([II)I"⟩) ∈ wG := wG_in 38 (by decide +kernel) (by decide +kernel)
theorem w_1313 : (Cond.methodLink "LinesPromised$Lines" 58 ⟨"LinesPromised$Lines", "sumOf", "([II)I"⟩) ∈ wG := wG_in 1313 (by decide +kernel) (by decide +kernel)
theorem w_1312 : (Cond.code ⟨"LinesPromised$Lines", "coinsOf", "(I)I"⟩ prog_4_method_9_code 2 (some .int)) ∈ wG := wG_in 1312 (by decide +kernel) (by decide +kernel)
theorem w_1310 : (Cond.instanceMethod ⟨"LinesPromised$Lines", "coinsOf", "(I)I"⟩) ∈ wG := wG_in 1310 (by decide +kernel) (by decide +kernel)
theorem w_1311 : (Cond.selects "LinesPromised$Lines" ⟨"LinesPromised$Lines", "coinsOf", "(I)I"⟩ ⟨"LinesPromised$Lines", "coinsOf", "(I)I"⟩) ∈ wG := wG_in 1311 (by decide +kernel) (by decide +kernel)
theorem w_1309 : (Cond.methodLink "LinesPromised$Lines" 55 ⟨"LinesPromised$Lines", "coinsOf", "(I)I"⟩) ∈ wG := wG_in 1309 (by decide +kernel) (by decide +kernel)
theorem w_1320 : (Cond.code ⟨"LinesPromised$Lines", "isBetter", "(II)Z"⟩ prog_4_method_7_code 4 (some .boolean)) ∈ wG := wG_in 1320 (by decide +kernel) (by decide +kernel)
theorem w_1319 : (Cond.instanceMethod ⟨"LinesPromised$Lines", "isBetter", "(II)Z"⟩) ∈ wG := wG_in 1319 (by decide +kernel) (by decide +kernel)
theorem w_39 : (Cond.selects "LinesPromised$Lines" ⟨"LinesPromised$Lines", "isBetter", "(II)Z"⟩ ⟨"LinesPromised$Lines", "isBetter", "(II)Z"⟩) ∈ wG := wG_in 39 (by decide +kernel) (by decide +kernel)
theorem w_1324 : (Cond.code ⟨"LinesPromised$Lines", "isAtOdds", "(I)Z"⟩ prog_4_method_8_code 3 (some .boolean)) ∈ wG := wG_in 1324 (by decide +kernel) (by decide +kernel)
theorem w_1323 : (Cond.instanceMethod ⟨"LinesPromised$Lines", "isAtOdds", "(I)Z"⟩) ∈ wG := wG_in 1323 (by decide +kernel) (by decide +kernel)
theorem w_40 : (Cond.selects "LinesPromised$Lines" ⟨"LinesPromised$Lines", "isAtOdds", "(I)Z"⟩ ⟨"LinesPromised$Lines", "isAtOdds", "(I)Z"⟩) ∈ wG := wG_in 40 (by decide +kernel) (by decide +kernel)
theorem w_1321 : (Cond.methodLink "LinesPromised$Lines" 65 ⟨"LinesPromised$Lines", "isAtOdds", "(I)Z"⟩) ∈ wG := wG_in 1321 (by decide +kernel) (by decide +kernel)
theorem w_1317 : (Cond.methodLink "LinesPromised$Lines" 62 ⟨"LinesPromised$Lines", "isBetter", "(II)Z"⟩) ∈ wG := wG_in 1317 (by decide +kernel) (by decide +kernel)
theorem w_1308 : (Cond.code ⟨"LinesPromised$Lines", "cheapest", "(III)I"⟩ prog_4_method_6_code 6 (some .int)) ∈ wG := wG_in 1308 (by decide +kernel) (by decide +kernel)
theorem w_1306 : (Cond.instanceMethod ⟨"LinesPromised$Lines", "cheapest", "(III)I"⟩) ∈ wG := wG_in 1306 (by decide +kernel) (by decide +kernel)
theorem w_1307 : (Cond.selects "LinesPromised$Lines" ⟨"LinesPromised$Lines", "cheapest", "(III)I"⟩ ⟨"LinesPromised$Lines", "cheapest", "(III)I"⟩) ∈ wG := wG_in 1307 (by decide +kernel) (by decide +kernel)
theorem w_1299 : (Cond.constant "LinesPromised" 382 (i32 999999)) ∈ wG := wG_in 1299 (by decide +kernel) (by decide +kernel)
theorem w_1300 : (Cond.methodLink "LinesPromised" 383 ⟨"LinesPromised", "gatherGrantable", "()V"⟩) ∈ wG := wG_in 1300 (by decide +kernel) (by decide +kernel)
theorem w_1305 : (Cond.methodLink "LinesPromised" 386 ⟨"LinesPromised$Lines", "cheapest", "(III)I"⟩) ∈ wG := wG_in 1305 (by decide +kernel) (by decide +kernel)
theorem w_1325 : (Cond.methodLink "LinesPromised" 390 ⟨"LinesPromised$Lines", "coinsOf", "(I)I"⟩) ∈ wG := wG_in 1325 (by decide +kernel) (by decide +kernel)
theorem w_1298 : (Cond.code ⟨"LinesPromised", "plan", "(IIII)I"⟩ prog_1_method_42_code 6 (some .int)) ∈ wG := wG_in 1298 (by decide +kernel) (by decide +kernel)
theorem w_1296 : (Cond.instanceMethod ⟨"LinesPromised", "plan", "(IIII)I"⟩) ∈ wG := wG_in 1296 (by decide +kernel) (by decide +kernel)
theorem w_1297 : (Cond.selects "LinesPromised" ⟨"LinesPromised", "plan", "(IIII)I"⟩ ⟨"LinesPromised", "plan", "(IIII)I"⟩) ∈ wG := wG_in 1297 (by decide +kernel) (by decide +kernel)
theorem w_1333 : (Cond.code ⟨"LinesPromised", "triedYards", "()I"⟩ prog_1_method_61_code 1 (some .int)) ∈ wG := wG_in 1333 (by decide +kernel) (by decide +kernel)
theorem w_1332 : (Cond.instanceMethod ⟨"LinesPromised", "triedYards", "()I"⟩) ∈ wG := wG_in 1332 (by decide +kernel) (by decide +kernel)
theorem w_41 : (Cond.selects "LinesPromised" ⟨"LinesPromised", "triedYards", "()I"⟩ ⟨"LinesPromised", "triedYards", "()I"⟩) ∈ wG := wG_in 41 (by decide +kernel) (by decide +kernel)
/-! LinesPromised$Papers.isFallen(I)Z -/
theorem dX5_isFallen_0 : decode cX5_isFallen 0 = .ok (.iconst 0, 1) := by decide +kernel
theorem dX5_isFallen_1 : decode cX5_isFallen 1 = .ok (.istore_n 2, 1) := by decide +kernel
theorem dX5_isFallen_2 : decode cX5_isFallen 2 = .ok (.iload_n 2, 1) := by decide +kernel
theorem dX5_isFallen_3 : decode cX5_isFallen 3 = .ok (.aload_n 0, 1) := by decide +kernel
theorem dX5_isFallen_4 : decode cX5_isFallen 4 = .ok (.getfield 44, 3) := by decide +kernel
theorem dX5_isFallen_7 : decode cX5_isFallen 7 = .ok (.if_icmp .ge 34, 3) := by decide +kernel
theorem dX5_isFallen_10 : decode cX5_isFallen 10 = .ok (.aload_n 0, 1) := by decide +kernel
theorem dX5_isFallen_11 : decode cX5_isFallen 11 = .ok (.iload_n 2, 1) := by decide +kernel
theorem dX5_isFallen_12 : decode cX5_isFallen 12 = .ok (.iconst 1, 1) := by decide +kernel
theorem dX5_isFallen_13 : decode cX5_isFallen 13 = .ok (.invokevirtual 73, 3) := by decide +kernel
theorem dX5_isFallen_16 : decode cX5_isFallen 16 = .ok (.astore_n 3, 1) := by decide +kernel
theorem dX5_isFallen_17 : decode cX5_isFallen 17 = .ok (.aload_n 3, 1) := by decide +kernel
theorem dX5_isFallen_18 : decode cX5_isFallen 18 = .ok (.ifnull 17, 3) := by decide +kernel
theorem dX5_isFallen_21 : decode cX5_isFallen 21 = .ok (.aload_n 3, 1) := by decide +kernel
theorem dX5_isFallen_22 : decode cX5_isFallen 22 = .ok (.getfield 77, 3) := by decide +kernel
theorem dX5_isFallen_25 : decode cX5_isFallen 25 = .ok (.iload_n 1, 1) := by decide +kernel
theorem dX5_isFallen_26 : decode cX5_isFallen 26 = .ok (.if_icmp .ne 9, 3) := by decide +kernel
theorem dX5_isFallen_29 : decode cX5_isFallen 29 = .ok (.aload_n 0, 1) := by decide +kernel
theorem dX5_isFallen_30 : decode cX5_isFallen 30 = .ok (.iload_n 2, 1) := by decide +kernel
theorem dX5_isFallen_31 : decode cX5_isFallen 31 = .ok (.invokevirtual 69, 3) := by decide +kernel
theorem dX5_isFallen_34 : decode cX5_isFallen 34 = .ok (.ireturn, 1) := by decide +kernel
theorem dX5_isFallen_35 : decode cX5_isFallen 35 = .ok (.iinc 2 1, 3) := by decide +kernel
theorem dX5_isFallen_38 : decode cX5_isFallen 38 = .ok (.goto (-36), 3) := by decide +kernel
theorem dX5_isFallen_41 : decode cX5_isFallen 41 = .ok (.iconst 0, 1) := by decide +kernel
theorem dX5_isFallen_42 : decode cX5_isFallen 42 = .ok (.ireturn, 1) := by decide +kernel
theorem cm_X5_isFallen : CM yX5_isFallen cX5_isFallen 4 (some .boolean) 1 5 := ⟨w_1244, w_1245, w_1246, w_90, ⟨by decide +kernel, by decide +kernel, by decide +kernel⟩, ⟨_, _, rfl⟩, by decide⟩
noncomputable def f_X5_isFallen_35 (n : Nat) (rec2 : Int → MM → RR) (v0 v1 v2 : Int) (h : MM) : RR :=
  lb (wr (v2 + 1)) fun x1 =>
  rec2 x1 h
noncomputable def f_X5_isFallen_2b (n : Nat) (rec2 : Int → MM → RR) (v0 v1 v2 : Int) (h : MM) : RR :=
  gf h v0 5 7 fun r1 =>
  if r1 ≤ v2 then
    ck (isb 0) <|
    some (0, h)
  else
  gk h v0 5 <|
  bd (f_X5_find n v0 v2 1 h) fun r4 h4 =>
  if r4 = 0 then
    f_X5_isFallen_35 n rec2 v0 v1 v2 h4
  else
  gf h4 r4 4 9 fun r6 =>
  if r6 = v1 then
    gk h4 v0 5 <|
    bd (f_X5_isMarked n v0 v2 h4) fun r8 h8 =>
    ck (isb r8) <|
    some (r8, h8)
  else
  f_X5_isFallen_35 n rec2 v0 v1 v2 h4
noncomputable def f_X5_isFallen_2 (n : Nat)  (v0 v1 : Int) : Nat → Int → MM → RR
  | 0, _, _ => none
  | k + 1, v2, h => f_X5_isFallen_2b n  (f_X5_isFallen_2 n  v0 v1 k) v0 v1 v2 h
noncomputable def f_X5_isFallen (n : Nat) (v0 v1 : Int) (h : MM) : RR :=
  f_X5_isFallen_2 n v0 v1 n 0 h
set_option maxRecDepth 20000 in
theorem b_X5_isFallen_35 {g : GT} {Z : Int × MM} {n : Nat} (C : Cx g cX5_isFallen 4 yX5_isFallen 3 67) (hr : Rt g (some .boolean) 0 Z) {v0 v1 v2 : Int}  {rec2 : Int → MM → RR} (L2 : ∀ (u2 : Int) (h : MM), in32 u2 → rec2 u2 h = some Z → G g 2 [(2, v0), (0, v1), (0, u2), (3, 0)] [] h) (cv1 : in32 v1) (cv2 : in32 v2) {h : MM} (hf : f_X5_isFallen_35 n rec2 v0 v1 v2 h = some Z) : G g 35 [(2, v0), (0, v1), (0, v2), (3, 0)] [] h := by
  unfold f_X5_isFallen_35 at hf
  obtain ⟨x1, e1, hf⟩ := lb_s hf
  have c1 : in32 x1 := by rw [e1]; exact (in32_t _)
  refine r_iincL C dX5_isFallen_35 rfl e1 (Nat.le_of_ble_eq_true rfl) rfl ?_
  refine r_goto C dX5_isFallen_38 (tgt := 2) (by decide) ?_
  exact G.mask [true, true, true, false] rfl rfl (L2 _ _ c1 hf)
set_option maxRecDepth 20000 in
theorem b_X5_isFallen_2b {g : GT} {Z : Int × MM} {n : Nat} (C : Cx g cX5_isFallen 4 yX5_isFallen 3 67) (hr : Rt g (some .boolean) 0 Z) {v0 v1 v2 : Int}  {rec2 : Int → MM → RR} (L2 : ∀ (u2 : Int) (h : MM), in32 u2 → rec2 u2 h = some Z → G g 2 [(2, v0), (0, v1), (0, u2), (3, 0)] [] h) (cv1 : in32 v1) (cv2 : in32 v2) {h : MM} (hf : f_X5_isFallen_2b n rec2 v0 v1 v2 h = some Z) : G g 2 [(2, v0), (0, v1), (0, v2), (3, 0)] [] h := by
  unfold f_X5_isFallen_2b at hf
  refine r_iload_n C dX5_isFallen_2 rfl ?_
  refine r_aload_n C dX5_isFallen_3 rfl ?_
  obtain ⟨q1, hf⟩ := gf_s hf
  refine r_gf C ct5 (j := 7) (ji := 7) dX5_isFallen_4 q1 rfl rfl (by decide) w_177 rfl (fun c1 => ?_)
  have c1 : in32 _ := c1
  refine r_icmp_ge C dX5_isFallen_7 (tgt := 41) (by decide) cv2 c1 (fun n2 => ?_) (fun n2 => ?_)
  · have hf := ite_p n2 hf
    refine r_iconst C dX5_isFallen_41 ?_
    obtain ⟨b3, hf⟩ := ck_s hf
    cases hf
    exact r_zret C hr dX5_isFallen_42 b3
  · have hf := ite_n n2 hf
    refine r_aload_n C dX5_isFallen_10 rfl ?_
    refine r_iload_n C dX5_isFallen_11 rfl ?_
    refine r_iconst C dX5_isFallen_12 ?_
    obtain ⟨p4, hf⟩ := gk_s hf
    obtain ⟨r4, h4, hq4, hf⟩ := bd_s hf
    refine r_cV2 C (am_X5_find (gl g) n) cm_X5_find w_949 dX5_isFallen_13 ⟨Nat.le_of_ble_eq_true rfl, Nat.le_of_ble_eq_true rfl⟩ p4 rfl cv2 (in32_of rfl) rfl (Nat.le_of_ble_eq_true rfl) hq4 (by decide) (fun c4 => ?_)
    refine r_astore_n C dX5_isFallen_16 (Nat.le_of_ble_eq_true rfl) rfl ?_
    refine r_aload_n C dX5_isFallen_17 rfl ?_
    refine r_ifnull C dX5_isFallen_18 (tgt := 35) (by decide) (fun n5 => ?_) (fun n5 => ?_)
    · have hf := ite_p n5 hf
      exact G.mask [true, true, true, false] rfl rfl (b_X5_isFallen_35 C hr L2 cv1 cv2 hf)
    · have hf := ite_n n5 hf
      refine r_aload_n C dX5_isFallen_21 rfl ?_
      obtain ⟨q6, hf⟩ := gf_s hf
      refine r_gf C ct4 (j := 9) (ji := 9) dX5_isFallen_22 q6 rfl rfl (by decide) w_753 rfl (fun c6 => ?_)
      have c6 : in32 _ := c6
      refine r_iload_n C dX5_isFallen_25 rfl ?_
      refine r_icmp_ne C dX5_isFallen_26 (tgt := 35) (by decide) c6 cv1 (fun n7 => ?_) (fun n7 => ?_)
      · have hf := ite_n n7 hf
        exact G.mask [true, true, true, false] rfl rfl (b_X5_isFallen_35 C hr L2 cv1 cv2 hf)
      · have hf := ite_p n7 hf
        refine r_aload_n C dX5_isFallen_29 rfl ?_
        refine r_iload_n C dX5_isFallen_30 rfl ?_
        obtain ⟨p8, hf⟩ := gk_s hf
        obtain ⟨r8, h8, hq8, hf⟩ := bd_s hf
        refine r_cV1 C (am_X5_isMarked (gl g) n) cm_X5_isMarked w_1013 dX5_isFallen_31 ⟨Nat.le_of_ble_eq_true rfl, Nat.le_of_ble_eq_true rfl⟩ p8 rfl cv2 rfl (Nat.le_of_ble_eq_true rfl) hq8 (by decide) (fun c8 => ?_)
        have c8 : in32 _ := c8
        obtain ⟨b9, hf⟩ := ck_s hf
        cases hf
        exact r_zret C hr dX5_isFallen_34 b9
set_option maxRecDepth 20000 in
theorem l_X5_isFallen_2 {g : GT} {Z : Int × MM} {n : Nat} (C : Cx g cX5_isFallen 4 yX5_isFallen 3 67) (hr : Rt g (some .boolean) 0 Z) {v0 v1 : Int}   (cv1 : in32 v1) : ∀ (k : Nat) (v2 : Int) (h : MM), in32 v2 → f_X5_isFallen_2 n  v0 v1 k v2 h = some Z → G g 2 [(2, v0), (0, v1), (0, v2), (3, 0)] [] h := by
  intro k
  induction k with
  | zero => intro v2 h cv2 hf; exact absurd hf (by intro z; cases z)
  | succ k ih => intro v2 h cv2 hf; exact b_X5_isFallen_2b C hr (rec2 := f_X5_isFallen_2 n  v0 v1 k)  ih cv1 cv2 (show f_X5_isFallen_2b n  (f_X5_isFallen_2 n  v0 v1 k) v0 v1 v2 h = some Z from hf)
set_option maxRecDepth 20000 in
theorem e_X5_isFallen {g : GT} {Z : Int × MM} {n : Nat} (C : Cx g cX5_isFallen 4 yX5_isFallen 3 67) (hr : Rt g (some .boolean) 0 Z) {v0 v1 : Int} (cv0 : cK 2 v0) (cv1 : cK 0 v1) {h : MM} (hf : f_X5_isFallen n v0 v1 h = some Z) : G g 0 [(2, v0), (0, v1), (3, 0), (3, 0)] [] h := by
  have cv1 : in32 v1 := cv1
  unfold f_X5_isFallen at hf
  refine r_iconst C dX5_isFallen_0 ?_
  refine r_istore_n C dX5_isFallen_1 (Nat.le_of_ble_eq_true rfl) rfl ?_
  exact G.mask [true, true, true, false] rfl rfl (l_X5_isFallen_2 C hr  cv1 _ _ _ (in32_of rfl) hf)
set_option maxRecDepth 20000 in
theorem am_X5_isFallen (l : Launch) (n : Nat) : AM l yX5_isFallen cX5_isFallen 4 (some .boolean) 3 67 [2, 0] 0 (un2 (f_X5_isFallen n)) := by
  refine AM.intro (by decide) (fun xs hx => ?_) (fun g xs h Z hl C hr hx hf => ?_)
  · obtain ⟨a0, a1, rfl, c0, c1⟩ := canL_2 hx
    exact Nat.le_of_ble_eq_true rfl
  · obtain ⟨a0, a1, rfl, c0, c1⟩ := canL_2 hx
    have hf := (un2_e _ a0 a1 _).symm.trans hf
    exact e_X5_isFallen (n := n) C hr c0 c1 hf
/-! LinesPromised$World.digLine(III)I -/
theorem dX10_digLine_0 : decode cX10_digLine 0 = .ok (.aload_n 0, 1) := by decide +kernel
theorem dX10_digLine_1 : decode cX10_digLine 1 = .ok (.getfield 21, 3) := by decide +kernel
theorem dX10_digLine_4 : decode cX10_digLine 4 = .ok (.getfield 230, 3) := by decide +kernel
theorem dX10_digLine_7 : decode cX10_digLine 7 = .ok (.iload_n 1, 1) := by decide +kernel
theorem dX10_digLine_8 : decode cX10_digLine 8 = .ok (.iaload, 1) := by decide +kernel
theorem dX10_digLine_9 : decode cX10_digLine 9 = .ok (.ifCond .eq 14, 3) := by decide +kernel
theorem dX10_digLine_12 : decode cX10_digLine 12 = .ok (.aload_n 0, 1) := by decide +kernel
theorem dX10_digLine_13 : decode cX10_digLine 13 = .ok (.getfield 21, 3) := by decide +kernel
theorem dX10_digLine_16 : decode cX10_digLine 16 = .ok (.iload_n 2, 1) := by decide +kernel
theorem dX10_digLine_17 : decode cX10_digLine 17 = .ok (.invokevirtual 233, 3) := by decide +kernel
theorem dX10_digLine_20 : decode cX10_digLine 20 = .ok (.ifCond .eq 5, 3) := by decide +kernel
theorem dX10_digLine_23 : decode cX10_digLine 23 = .ok (.iconst 0, 1) := by decide +kernel
theorem dX10_digLine_24 : decode cX10_digLine 24 = .ok (.ireturn, 1) := by decide +kernel
theorem dX10_digLine_25 : decode cX10_digLine 25 = .ok (.bipush 8, 2) := by decide +kernel
theorem dX10_digLine_27 : decode cX10_digLine 27 = .ok (.iload_n 2, 1) := by decide +kernel
theorem dX10_digLine_28 : decode cX10_digLine 28 = .ok (.iadd, 1) := by decide +kernel
theorem dX10_digLine_29 : decode cX10_digLine 29 = .ok (.istore 4, 2) := by decide +kernel
theorem dX10_digLine_31 : decode cX10_digLine 31 = .ok (.aload_n 0, 1) := by decide +kernel
theorem dX10_digLine_32 : decode cX10_digLine 32 = .ok (.getfield 21, 3) := by decide +kernel
theorem dX10_digLine_35 : decode cX10_digLine 35 = .ok (.getfield 230, 3) := by decide +kernel
theorem dX10_digLine_38 : decode cX10_digLine 38 = .ok (.iload_n 1, 1) := by decide +kernel
theorem dX10_digLine_39 : decode cX10_digLine 39 = .ok (.iaload, 1) := by decide +kernel
theorem dX10_digLine_40 : decode cX10_digLine 40 = .ok (.iload_n 3, 1) := by decide +kernel
theorem dX10_digLine_41 : decode cX10_digLine 41 = .ok (.aload_n 0, 1) := by decide +kernel
theorem dX10_digLine_42 : decode cX10_digLine 42 = .ok (.getfield 28, 3) := by decide +kernel
theorem dX10_digLine_45 : decode cX10_digLine 45 = .ok (.getfield 236, 3) := by decide +kernel
theorem dX10_digLine_48 : decode cX10_digLine 48 = .ok (.iload 4, 2) := by decide +kernel
theorem dX10_digLine_50 : decode cX10_digLine 50 = .ok (.iaload, 1) := by decide +kernel
theorem dX10_digLine_51 : decode cX10_digLine 51 = .ok (.iconst 2, 1) := by decide +kernel
theorem dX10_digLine_52 : decode cX10_digLine 52 = .ok (.idiv, 1) := by decide +kernel
theorem dX10_digLine_53 : decode cX10_digLine 53 = .ok (.invokestatic 239, 3) := by decide +kernel
theorem dX10_digLine_56 : decode cX10_digLine 56 = .ok (.invokestatic 239, 3) := by decide +kernel
theorem dX10_digLine_59 : decode cX10_digLine 59 = .ok (.istore 5, 2) := by decide +kernel
theorem dX10_digLine_61 : decode cX10_digLine 61 = .ok (.aload_n 0, 1) := by decide +kernel
theorem dX10_digLine_62 : decode cX10_digLine 62 = .ok (.getfield 28, 3) := by decide +kernel
theorem dX10_digLine_65 : decode cX10_digLine 65 = .ok (.getfield 236, 3) := by decide +kernel
theorem dX10_digLine_68 : decode cX10_digLine 68 = .ok (.iload 4, 2) := by decide +kernel
theorem dX10_digLine_70 : decode cX10_digLine 70 = .ok (.dup2, 1) := by decide +kernel
theorem dX10_digLine_71 : decode cX10_digLine 71 = .ok (.iaload, 1) := by decide +kernel
theorem dX10_digLine_72 : decode cX10_digLine 72 = .ok (.iconst 2, 1) := by decide +kernel
theorem dX10_digLine_73 : decode cX10_digLine 73 = .ok (.iload 5, 2) := by decide +kernel
theorem dX10_digLine_75 : decode cX10_digLine 75 = .ok (.imul, 1) := by decide +kernel
theorem dX10_digLine_76 : decode cX10_digLine 76 = .ok (.isub, 1) := by decide +kernel
theorem dX10_digLine_77 : decode cX10_digLine 77 = .ok (.iastore, 1) := by decide +kernel
theorem dX10_digLine_78 : decode cX10_digLine 78 = .ok (.aload_n 0, 1) := by decide +kernel
theorem dX10_digLine_79 : decode cX10_digLine 79 = .ok (.getfield 21, 3) := by decide +kernel
theorem dX10_digLine_82 : decode cX10_digLine 82 = .ok (.getfield 230, 3) := by decide +kernel
theorem dX10_digLine_85 : decode cX10_digLine 85 = .ok (.iload_n 1, 1) := by decide +kernel
theorem dX10_digLine_86 : decode cX10_digLine 86 = .ok (.dup2, 1) := by decide +kernel
theorem dX10_digLine_87 : decode cX10_digLine 87 = .ok (.iaload, 1) := by decide +kernel
theorem dX10_digLine_88 : decode cX10_digLine 88 = .ok (.iload 5, 2) := by decide +kernel
theorem dX10_digLine_90 : decode cX10_digLine 90 = .ok (.isub, 1) := by decide +kernel
theorem dX10_digLine_91 : decode cX10_digLine 91 = .ok (.iastore, 1) := by decide +kernel
theorem dX10_digLine_92 : decode cX10_digLine 92 = .ok (.aload_n 0, 1) := by decide +kernel
theorem dX10_digLine_93 : decode cX10_digLine 93 = .ok (.getfield 21, 3) := by decide +kernel
theorem dX10_digLine_96 : decode cX10_digLine 96 = .ok (.getfield 230, 3) := by decide +kernel
theorem dX10_digLine_99 : decode cX10_digLine 99 = .ok (.iload_n 1, 1) := by decide +kernel
theorem dX10_digLine_100 : decode cX10_digLine 100 = .ok (.iaload, 1) := by decide +kernel
theorem dX10_digLine_101 : decode cX10_digLine 101 = .ok (.ifCond .ne 16, 3) := by decide +kernel
theorem dX10_digLine_104 : decode cX10_digLine 104 = .ok (.aload_n 0, 1) := by decide +kernel
theorem dX10_digLine_105 : decode cX10_digLine 105 = .ok (.getfield 21, 3) := by decide +kernel
theorem dX10_digLine_108 : decode cX10_digLine 108 = .ok (.getfield 242, 3) := by decide +kernel
theorem dX10_digLine_111 : decode cX10_digLine 111 = .ok (.iload_n 1, 1) := by decide +kernel
theorem dX10_digLine_112 : decode cX10_digLine 112 = .ok (.aload_n 0, 1) := by decide +kernel
theorem dX10_digLine_113 : decode cX10_digLine 113 = .ok (.getfield 85, 3) := by decide +kernel
theorem dX10_digLine_116 : decode cX10_digLine 116 = .ok (.iastore, 1) := by decide +kernel
theorem dX10_digLine_117 : decode cX10_digLine 117 = .ok (.iload 5, 2) := by decide +kernel
theorem dX10_digLine_119 : decode cX10_digLine 119 = .ok (.ireturn, 1) := by decide +kernel
theorem cm_X10_digLine : CM yX10_digLine cX10_digLine 6 (some .int) 3 10 := ⟨w_1241, w_32, w_1242, w_88, ⟨by decide +kernel, by decide +kernel, by decide +kernel⟩, ⟨_, _, rfl⟩, by decide⟩
noncomputable def f_X10_digLine_23 (n : Nat)  (h : MM) : RR :=
  some (0, h)
noncomputable def f_X10_digLine_117 (n : Nat)  (v5 : Int) (h : MM) : RR :=
  some (v5, h)
noncomputable def f_X10_digLine (n : Nat) (v0 v1 v2 v3 : Int) (h : MM) : RR :=
  gf h v0 10 1 fun r1 =>
  gf h r1 5 2 fun r2 =>
  rd h r2 100 v1 fun r3 =>
  if r3 = 0 then
    f_X10_digLine_23 n h
  else
  gf h v0 10 1 fun r5 =>
  gk h r5 5 <|
  bd (f_X5_isFallen n r5 v2 h) fun r6 h6 =>
  if r6 = 0 then
    lb (wr (8 + v2)) fun x8 =>
    gf h6 v0 10 1 fun r9 =>
    gf h6 r9 5 2 fun r10 =>
    rd h6 r10 100 v1 fun r11 =>
    gf h6 v0 10 2 fun r12 =>
    gf h6 r12 8 0 fun r13 =>
    rd h6 r13 100 x8 fun r14 =>
    lb (jmin r11 (jmin v3 (idv r14 2))) fun x15 =>
    gf h6 v0 10 2 fun r16 =>
    gf h6 r16 8 0 fun r17 =>
    rd h6 r17 100 x8 fun r18 =>
    wt h6 r17 100 x8 (wr (r18 - (wr (2 * x15)))) fun h19 =>
    gf h19 v0 10 1 fun r20 =>
    gf h19 r20 5 2 fun r21 =>
    rd h19 r21 100 v1 fun r22 =>
    wt h19 r21 100 v1 (wr (r22 - x15)) fun h23 =>
    gf h23 v0 10 1 fun r24 =>
    gf h23 r24 5 2 fun r25 =>
    rd h23 r25 100 v1 fun r26 =>
    if r26 = 0 then
      gf h23 v0 10 1 fun r28 =>
      gf h23 r28 5 3 fun r29 =>
      gf h23 v0 10 9 fun r30 =>
      wt h23 r29 100 v1 r30 fun h31 =>
      f_X10_digLine_117 n x15 h31
    else
    f_X10_digLine_117 n x15 h23
  else
  f_X10_digLine_23 n h6
set_option maxRecDepth 20000 in
theorem b_X10_digLine_23 {g : GT} {Z : Int × MM} {n : Nat} (C : Cx g cX10_digLine 6 yX10_digLine 4 90) (hr : Rt g (some .int) 0 Z)     {h : MM} (hf : f_X10_digLine_23 n   h = some Z) : G g 23 [(3, 0), (3, 0), (3, 0), (3, 0), (3, 0), (3, 0)] [] h := by
  unfold f_X10_digLine_23 at hf
  refine r_iconst C dX10_digLine_23 ?_
  cases hf
  exact r_jret C hr dX10_digLine_24 (in32_of rfl)
set_option maxRecDepth 20000 in
theorem b_X10_digLine_117 {g : GT} {Z : Int × MM} {n : Nat} (C : Cx g cX10_digLine 6 yX10_digLine 4 90) (hr : Rt g (some .int) 0 Z) {v5 : Int}    (cv5 : in32 v5) {h : MM} (hf : f_X10_digLine_117 n  v5 h = some Z) : G g 117 [(3, 0), (3, 0), (3, 0), (3, 0), (3, 0), (0, v5)] [] h := by
  unfold f_X10_digLine_117 at hf
  refine r_iload C dX10_digLine_117 rfl ?_
  cases hf
  exact r_jret C hr dX10_digLine_119 cv5
set_option maxRecDepth 20000 in
theorem e_X10_digLine {g : GT} {Z : Int × MM} {n : Nat} (C : Cx g cX10_digLine 6 yX10_digLine 4 90) (hr : Rt g (some .int) 0 Z) {v0 v1 v2 v3 : Int} (cv0 : cK 2 v0) (cv1 : cK 0 v1) (cv2 : cK 0 v2) (cv3 : cK 0 v3) {h : MM} (hf : f_X10_digLine n v0 v1 v2 v3 h = some Z) : G g 0 [(2, v0), (0, v1), (0, v2), (0, v3), (3, 0), (3, 0)] [] h := by
  have cv1 : in32 v1 := cv1
  have cv2 : in32 v2 := cv2
  have cv3 : in32 v3 := cv3
  unfold f_X10_digLine at hf
  refine r_aload_n C dX10_digLine_0 rfl ?_
  obtain ⟨q1, hf⟩ := gf_s hf
  refine r_gf C ct10 (j := 1) (ji := 1) dX10_digLine_1 q1 rfl rfl (by decide) w_301 rfl (fun c1 => ?_)
  obtain ⟨q2, hf⟩ := gf_s hf
  refine r_gf C ct5 (j := 2) (ji := 2) dX10_digLine_4 q2 rfl rfl (by decide) w_169 rfl (fun c2 => ?_)
  refine r_iload_n C dX10_digLine_7 rfl ?_
  obtain ⟨q3, hf⟩ := rd_s hf
  refine r_iald C dX10_digLine_8 q3 rfl (fun c3 => ?_)
  refine r_if_eq C dX10_digLine_9 (tgt := 23) (by decide) c3 (fun n4 => ?_) (fun n4 => ?_)
  · have hf := ite_p n4 hf
    exact G.mask [false, false, false, false, false, false] rfl rfl (b_X10_digLine_23 C hr   hf)
  · have hf := ite_n n4 hf
    refine r_aload_n C dX10_digLine_12 rfl ?_
    obtain ⟨q5, hf⟩ := gf_s hf
    refine r_gf C ct10 (j := 1) (ji := 1) dX10_digLine_13 q5 rfl rfl (by decide) w_301 rfl (fun c5 => ?_)
    refine r_iload_n C dX10_digLine_16 rfl ?_
    obtain ⟨p6, hf⟩ := gk_s hf
    obtain ⟨r6, h6, hq6, hf⟩ := bd_s hf
    refine r_cV1 C (am_X5_isFallen (gl g) n) cm_X5_isFallen w_1243 dX10_digLine_17 ⟨Nat.le_of_ble_eq_true rfl, Nat.le_of_ble_eq_true rfl⟩ p6 rfl cv2 rfl (Nat.le_of_ble_eq_true rfl) hq6 (by decide) (fun c6 => ?_)
    have c6 : in32 _ := c6
    refine r_if_eq C dX10_digLine_20 (tgt := 25) (by decide) c6 (fun n7 => ?_) (fun n7 => ?_)
    · have hf := ite_p n7 hf
      refine r_bipush C dX10_digLine_25 rfl ?_
      refine r_iload_n C dX10_digLine_27 rfl ?_
      refine r_iadd C dX10_digLine_28 ?_
      obtain ⟨x8, e8, hf⟩ := lb_s hf
      have c8 : in32 x8 := by rw [e8]; exact (in32_t _)
      refine r_istoreL C dX10_digLine_29 e8 (Nat.le_of_ble_eq_true rfl) rfl ?_
      refine r_aload_n C dX10_digLine_31 rfl ?_
      obtain ⟨q9, hf⟩ := gf_s hf
      refine r_gf C ct10 (j := 1) (ji := 1) dX10_digLine_32 q9 rfl rfl (by decide) w_301 rfl (fun c9 => ?_)
      obtain ⟨q10, hf⟩ := gf_s hf
      refine r_gf C ct5 (j := 2) (ji := 2) dX10_digLine_35 q10 rfl rfl (by decide) w_169 rfl (fun c10 => ?_)
      refine r_iload_n C dX10_digLine_38 rfl ?_
      obtain ⟨q11, hf⟩ := rd_s hf
      refine r_iald C dX10_digLine_39 q11 rfl (fun c11 => ?_)
      refine r_iload_n C dX10_digLine_40 rfl ?_
      refine r_aload_n C dX10_digLine_41 rfl ?_
      obtain ⟨q12, hf⟩ := gf_s hf
      refine r_gf C ct10 (j := 2) (ji := 2) dX10_digLine_42 q12 rfl rfl (by decide) w_303 rfl (fun c12 => ?_)
      obtain ⟨q13, hf⟩ := gf_s hf
      refine r_gf C ct8 (j := 0) (ji := 0) dX10_digLine_45 q13 rfl rfl (by decide) w_217 rfl (fun c13 => ?_)
      refine r_iload C dX10_digLine_48 rfl ?_
      obtain ⟨q14, hf⟩ := rd_s hf
      refine r_iald C dX10_digLine_50 q14 rfl (fun c14 => ?_)
      refine r_iconst C dX10_digLine_51 ?_
      refine r_idiv C dX10_digLine_52 (in32_of rfl) (by decide) ?_
      refine r_mmin C dX10_digLine_53 w_1247 ⟨Nat.le_of_ble_eq_true rfl, Nat.le_of_ble_eq_true rfl⟩ rfl cv3 (in32_t _) ?_
      refine r_mmin C dX10_digLine_56 w_1247 ⟨Nat.le_of_ble_eq_true rfl, Nat.le_of_ble_eq_true rfl⟩ rfl c11 (in32_min cv3 (in32_t _)) ?_
      obtain ⟨x15, e15, hf⟩ := lb_s hf
      have c15 : in32 x15 := by rw [e15]; exact (in32_min c11 (in32_min cv3 (in32_t _)))
      refine r_istoreL C dX10_digLine_59 e15 (Nat.le_of_ble_eq_true rfl) rfl ?_
      refine r_aload_n C dX10_digLine_61 rfl ?_
      obtain ⟨q16, hf⟩ := gf_s hf
      refine r_gf C ct10 (j := 2) (ji := 2) dX10_digLine_62 q16 rfl rfl (by decide) w_303 rfl (fun c16 => ?_)
      obtain ⟨q17, hf⟩ := gf_s hf
      refine r_gf C ct8 (j := 0) (ji := 0) dX10_digLine_65 q17 rfl rfl (by decide) w_217 rfl (fun c17 => ?_)
      refine r_iload C dX10_digLine_68 rfl ?_
      refine r_dup2 C dX10_digLine_70 (by decide) (by decide) ?_
      obtain ⟨q18, hf⟩ := rd_s hf
      refine r_iald C dX10_digLine_71 q18 rfl (fun c18 => ?_)
      refine r_iconst C dX10_digLine_72 ?_
      refine r_iload C dX10_digLine_73 rfl ?_
      refine r_imul C dX10_digLine_75 ?_
      refine r_isub C dX10_digLine_76 ?_
      obtain ⟨q19, hf⟩ := wt_s hf
      refine r_iast C dX10_digLine_77 q19 rfl (in32_t _) ?_
      refine r_aload_n C dX10_digLine_78 rfl ?_
      obtain ⟨q20, hf⟩ := gf_s hf
      refine r_gf C ct10 (j := 1) (ji := 1) dX10_digLine_79 q20 rfl rfl (by decide) w_301 rfl (fun c20 => ?_)
      obtain ⟨q21, hf⟩ := gf_s hf
      refine r_gf C ct5 (j := 2) (ji := 2) dX10_digLine_82 q21 rfl rfl (by decide) w_169 rfl (fun c21 => ?_)
      refine r_iload_n C dX10_digLine_85 rfl ?_
      refine r_dup2 C dX10_digLine_86 (by decide) (by decide) ?_
      obtain ⟨q22, hf⟩ := rd_s hf
      refine r_iald C dX10_digLine_87 q22 rfl (fun c22 => ?_)
      refine r_iload C dX10_digLine_88 rfl ?_
      refine r_isub C dX10_digLine_90 ?_
      obtain ⟨q23, hf⟩ := wt_s hf
      refine r_iast C dX10_digLine_91 q23 rfl (in32_t _) ?_
      refine r_aload_n C dX10_digLine_92 rfl ?_
      obtain ⟨q24, hf⟩ := gf_s hf
      refine r_gf C ct10 (j := 1) (ji := 1) dX10_digLine_93 q24 rfl rfl (by decide) w_301 rfl (fun c24 => ?_)
      obtain ⟨q25, hf⟩ := gf_s hf
      refine r_gf C ct5 (j := 2) (ji := 2) dX10_digLine_96 q25 rfl rfl (by decide) w_169 rfl (fun c25 => ?_)
      refine r_iload_n C dX10_digLine_99 rfl ?_
      obtain ⟨q26, hf⟩ := rd_s hf
      refine r_iald C dX10_digLine_100 q26 rfl (fun c26 => ?_)
      refine r_if_ne C dX10_digLine_101 (tgt := 117) (by decide) c26 (fun n27 => ?_) (fun n27 => ?_)
      · have hf := ite_n n27 hf
        exact G.mask [false, false, false, false, false, true] rfl rfl (b_X10_digLine_117 C hr  c15 hf)
      · have hf := ite_p n27 hf
        refine r_aload_n C dX10_digLine_104 rfl ?_
        obtain ⟨q28, hf⟩ := gf_s hf
        refine r_gf C ct10 (j := 1) (ji := 1) dX10_digLine_105 q28 rfl rfl (by decide) w_301 rfl (fun c28 => ?_)
        obtain ⟨q29, hf⟩ := gf_s hf
        refine r_gf C ct5 (j := 3) (ji := 3) dX10_digLine_108 q29 rfl rfl (by decide) w_172 rfl (fun c29 => ?_)
        refine r_iload_n C dX10_digLine_111 rfl ?_
        refine r_aload_n C dX10_digLine_112 rfl ?_
        obtain ⟨q30, hf⟩ := gf_s hf
        refine r_gf C ct10 (j := 9) (ji := 9) dX10_digLine_113 q30 rfl rfl (by decide) w_316 rfl (fun c30 => ?_)
        have c30 : in32 _ := c30
        obtain ⟨q31, hf⟩ := wt_s hf
        refine r_iast C dX10_digLine_116 q31 rfl c30 ?_
        exact G.mask [false, false, false, false, false, true] rfl rfl (b_X10_digLine_117 C hr  c15 hf)
    · have hf := ite_n n7 hf
      exact G.mask [false, false, false, false, false, false] rfl rfl (b_X10_digLine_23 C hr   hf)
set_option maxRecDepth 20000 in
theorem am_X10_digLine (l : Launch) (n : Nat) : AM l yX10_digLine cX10_digLine 6 (some .int) 4 90 [2, 0, 0, 0] 0 (un4 (f_X10_digLine n)) := by
  refine AM.intro (by decide) (fun xs hx => ?_) (fun g xs h Z hl C hr hx hf => ?_)
  · obtain ⟨a0, a1, a2, a3, rfl, c0, c1, c2, c3⟩ := canL_4 hx
    exact Nat.le_of_ble_eq_true rfl
  · obtain ⟨a0, a1, a2, a3, rfl, c0, c1, c2, c3⟩ := canL_4 hx
    have hf := (un4_e _ a0 a1 a2 a3 _).symm.trans hf
    exact e_X10_digLine (n := n) C hr c0 c1 c2 c3 hf
/-! LinesPromised$World.digToday()V -/
theorem dX10_digToday_0 : decode cX10_digToday 0 = .ok (.iconst 3, 1) := by decide +kernel
theorem dX10_digToday_1 : decode cX10_digToday 1 = .ok (.aload_n 0, 1) := by decide +kernel
theorem dX10_digToday_2 : decode cX10_digToday 2 = .ok (.getfield 88, 3) := by decide +kernel
theorem dX10_digToday_5 : decode cX10_digToday 5 = .ok (.imul, 1) := by decide +kernel
theorem dX10_digToday_6 : decode cX10_digToday 6 = .ok (.istore_n 1, 1) := by decide +kernel
theorem dX10_digToday_7 : decode cX10_digToday 7 = .ok (.iconst 0, 1) := by decide +kernel
theorem dX10_digToday_8 : decode cX10_digToday 8 = .ok (.istore_n 2, 1) := by decide +kernel
theorem dX10_digToday_9 : decode cX10_digToday 9 = .ok (.iload_n 2, 1) := by decide +kernel
theorem dX10_digToday_10 : decode cX10_digToday 10 = .ok (.aload_n 0, 1) := by decide +kernel
theorem dX10_digToday_11 : decode cX10_digToday 11 = .ok (.getfield 21, 3) := by decide +kernel
theorem dX10_digToday_14 : decode cX10_digToday 14 = .ok (.getfield 215, 3) := by decide +kernel
theorem dX10_digToday_17 : decode cX10_digToday 17 = .ok (.if_icmp .ge 47, 3) := by decide +kernel
theorem dX10_digToday_20 : decode cX10_digToday 20 = .ok (.aload_n 0, 1) := by decide +kernel
theorem dX10_digToday_21 : decode cX10_digToday 21 = .ok (.getfield 21, 3) := by decide +kernel
theorem dX10_digToday_24 : decode cX10_digToday 24 = .ok (.iload_n 2, 1) := by decide +kernel
theorem dX10_digToday_25 : decode cX10_digToday 25 = .ok (.iconst 3, 1) := by decide +kernel
theorem dX10_digToday_26 : decode cX10_digToday 26 = .ok (.invokevirtual 218, 3) := by decide +kernel
theorem dX10_digToday_29 : decode cX10_digToday 29 = .ok (.astore_n 3, 1) := by decide +kernel
theorem dX10_digToday_30 : decode cX10_digToday 30 = .ok (.aload_n 3, 1) := by decide +kernel
theorem dX10_digToday_31 : decode cX10_digToday 31 = .ok (.ifnull 27, 3) := by decide +kernel
theorem dX10_digToday_34 : decode cX10_digToday 34 = .ok (.aload_n 0, 1) := by decide +kernel
theorem dX10_digToday_35 : decode cX10_digToday 35 = .ok (.getfield 21, 3) := by decide +kernel
theorem dX10_digToday_38 : decode cX10_digToday 38 = .ok (.iload_n 2, 1) := by decide +kernel
theorem dX10_digToday_39 : decode cX10_digToday 39 = .ok (.invokevirtual 222, 3) := by decide +kernel
theorem dX10_digToday_42 : decode cX10_digToday 42 = .ok (.ifCond .eq 16, 3) := by decide +kernel
theorem dX10_digToday_45 : decode cX10_digToday 45 = .ok (.iload_n 1, 1) := by decide +kernel
theorem dX10_digToday_46 : decode cX10_digToday 46 = .ok (.aload_n 0, 1) := by decide +kernel
theorem dX10_digToday_47 : decode cX10_digToday 47 = .ok (.iload_n 2, 1) := by decide +kernel
theorem dX10_digToday_48 : decode cX10_digToday 48 = .ok (.aload_n 3, 1) := by decide +kernel
theorem dX10_digToday_49 : decode cX10_digToday 49 = .ok (.getfield 153, 3) := by decide +kernel
theorem dX10_digToday_52 : decode cX10_digToday 52 = .ok (.iload_n 1, 1) := by decide +kernel
theorem dX10_digToday_53 : decode cX10_digToday 53 = .ok (.invokevirtual 226, 3) := by decide +kernel
theorem dX10_digToday_56 : decode cX10_digToday 56 = .ok (.isub, 1) := by decide +kernel
theorem dX10_digToday_57 : decode cX10_digToday 57 = .ok (.istore_n 1, 1) := by decide +kernel
theorem dX10_digToday_58 : decode cX10_digToday 58 = .ok (.iinc 2 1, 3) := by decide +kernel
theorem dX10_digToday_61 : decode cX10_digToday 61 = .ok (.goto (-52), 3) := by decide +kernel
theorem dX10_digToday_64 : decode cX10_digToday 64 = .ok (.return_, 1) := by decide +kernel
theorem cm_X10_digToday : CM yX10_digToday cX10_digToday 4 none 0 10 := ⟨w_1234, w_1235, w_1236, w_88, ⟨by decide +kernel, by decide +kernel, by decide +kernel⟩, ⟨_, _, rfl⟩, by decide⟩
noncomputable def f_X10_digToday_58 (n : Nat) (rec9 : Int → Int → MM → RR) (v0 v1 v2 : Int) (h : MM) : RR :=
  lb (wr (v2 + 1)) fun x1 =>
  rec9 v1 x1 h
noncomputable def f_X10_digToday_9b (n : Nat) (rec9 : Int → Int → MM → RR) (v0 v1 v2 : Int) (h : MM) : RR :=
  gf h v0 10 1 fun r1 =>
  gf h r1 5 7 fun r2 =>
  if r2 ≤ v2 then
    some (0, h)
  else
  gf h v0 10 1 fun r4 =>
  gk h r4 5 <|
  bd (f_X5_find n r4 v2 3 h) fun r5 h5 =>
  if r5 = 0 then
    f_X10_digToday_58 n rec9 v0 v1 v2 h5
  else
  gf h5 v0 10 1 fun r7 =>
  gk h5 r7 5 <|
  bd (f_X5_isMarked n r7 v2 h5) fun r8 h8 =>
  if r8 = 0 then
    f_X10_digToday_58 n rec9 v0 v1 v2 h8
  else
  gf h8 r5 4 9 fun r10 =>
  gk h8 v0 10 <|
  bd (f_X10_digLine n v0 v2 r10 v1 h8) fun r11 h11 =>
  lb (wr (v1 - r11)) fun x12 =>
  f_X10_digToday_58 n rec9 v0 x12 v2 h11
noncomputable def f_X10_digToday_9 (n : Nat)  (v0 : Int) : Nat → Int → Int → MM → RR
  | 0, _, _, _ => none
  | k + 1, v1, v2, h => f_X10_digToday_9b n  (f_X10_digToday_9 n  v0 k) v0 v1 v2 h
noncomputable def f_X10_digToday (n : Nat) (v0 : Int) (h : MM) : RR :=
  gf h v0 10 10 fun r1 =>
  lb (wr (3 * r1)) fun x2 =>
  f_X10_digToday_9 n v0 n x2 0 h
set_option maxRecDepth 20000 in
theorem b_X10_digToday_58 {g : GT} {Z : Int × MM} {n : Nat} (C : Cx g cX10_digToday 4 yX10_digToday 5 115) (hr : Rt g none 3 Z) {v0 v1 v2 : Int}  {rec9 : Int → Int → MM → RR} (L9 : ∀ (u1 u2 : Int) (h : MM), in32 u1 → in32 u2 → rec9 u1 u2 h = some Z → G g 9 [(2, v0), (0, u1), (0, u2), (3, 0)] [] h) (cv1 : in32 v1) (cv2 : in32 v2) {h : MM} (hf : f_X10_digToday_58 n rec9 v0 v1 v2 h = some Z) : G g 58 [(2, v0), (0, v1), (0, v2), (3, 0)] [] h := by
  unfold f_X10_digToday_58 at hf
  obtain ⟨x1, e1, hf⟩ := lb_s hf
  have c1 : in32 x1 := by rw [e1]; exact (in32_t _)
  refine r_iincL C dX10_digToday_58 rfl e1 (Nat.le_of_ble_eq_true rfl) rfl ?_
  refine r_goto C dX10_digToday_61 (tgt := 9) (by decide) ?_
  exact G.mask [true, true, true, false] rfl rfl (L9 _ _ _ cv1 c1 hf)
set_option maxRecDepth 20000 in
theorem b_X10_digToday_9b {g : GT} {Z : Int × MM} {n : Nat} (C : Cx g cX10_digToday 4 yX10_digToday 5 115) (hr : Rt g none 3 Z) {v0 v1 v2 : Int}  {rec9 : Int → Int → MM → RR} (L9 : ∀ (u1 u2 : Int) (h : MM), in32 u1 → in32 u2 → rec9 u1 u2 h = some Z → G g 9 [(2, v0), (0, u1), (0, u2), (3, 0)] [] h) (cv1 : in32 v1) (cv2 : in32 v2) {h : MM} (hf : f_X10_digToday_9b n rec9 v0 v1 v2 h = some Z) : G g 9 [(2, v0), (0, v1), (0, v2), (3, 0)] [] h := by
  unfold f_X10_digToday_9b at hf
  refine r_iload_n C dX10_digToday_9 rfl ?_
  refine r_aload_n C dX10_digToday_10 rfl ?_
  obtain ⟨q1, hf⟩ := gf_s hf
  refine r_gf C ct10 (j := 1) (ji := 1) dX10_digToday_11 q1 rfl rfl (by decide) w_301 rfl (fun c1 => ?_)
  obtain ⟨q2, hf⟩ := gf_s hf
  refine r_gf C ct5 (j := 7) (ji := 7) dX10_digToday_14 q2 rfl rfl (by decide) w_179 rfl (fun c2 => ?_)
  have c2 : in32 _ := c2
  refine r_icmp_ge C dX10_digToday_17 (tgt := 64) (by decide) cv2 c2 (fun n3 => ?_) (fun n3 => ?_)
  · have hf := ite_p n3 hf
    cases hf
    exact r_vret C hr dX10_digToday_64
  · have hf := ite_n n3 hf
    refine r_aload_n C dX10_digToday_20 rfl ?_
    obtain ⟨q4, hf⟩ := gf_s hf
    refine r_gf C ct10 (j := 1) (ji := 1) dX10_digToday_21 q4 rfl rfl (by decide) w_301 rfl (fun c4 => ?_)
    refine r_iload_n C dX10_digToday_24 rfl ?_
    refine r_iconst C dX10_digToday_25 ?_
    obtain ⟨p5, hf⟩ := gk_s hf
    obtain ⟨r5, h5, hq5, hf⟩ := bd_s hf
    refine r_cV2 C (am_X5_find (gl g) n) cm_X5_find w_1237 dX10_digToday_26 ⟨Nat.le_of_ble_eq_true rfl, Nat.le_of_ble_eq_true rfl⟩ p5 rfl cv2 (in32_of rfl) rfl (Nat.le_of_ble_eq_true rfl) hq5 (by decide) (fun c5 => ?_)
    refine r_astore_n C dX10_digToday_29 (Nat.le_of_ble_eq_true rfl) rfl ?_
    refine r_aload_n C dX10_digToday_30 rfl ?_
    refine r_ifnull C dX10_digToday_31 (tgt := 58) (by decide) (fun n6 => ?_) (fun n6 => ?_)
    · have hf := ite_p n6 hf
      exact G.mask [true, true, true, false] rfl rfl (b_X10_digToday_58 C hr L9 cv1 cv2 hf)
    · have hf := ite_n n6 hf
      refine r_aload_n C dX10_digToday_34 rfl ?_
      obtain ⟨q7, hf⟩ := gf_s hf
      refine r_gf C ct10 (j := 1) (ji := 1) dX10_digToday_35 q7 rfl rfl (by decide) w_301 rfl (fun c7 => ?_)
      refine r_iload_n C dX10_digToday_38 rfl ?_
      obtain ⟨p8, hf⟩ := gk_s hf
      obtain ⟨r8, h8, hq8, hf⟩ := bd_s hf
      refine r_cV1 C (am_X5_isMarked (gl g) n) cm_X5_isMarked w_1238 dX10_digToday_39 ⟨Nat.le_of_ble_eq_true rfl, Nat.le_of_ble_eq_true rfl⟩ p8 rfl cv2 rfl (Nat.le_of_ble_eq_true rfl) hq8 (by decide) (fun c8 => ?_)
      have c8 : in32 _ := c8
      refine r_if_eq C dX10_digToday_42 (tgt := 58) (by decide) c8 (fun n9 => ?_) (fun n9 => ?_)
      · have hf := ite_p n9 hf
        exact G.mask [true, true, true, false] rfl rfl (b_X10_digToday_58 C hr L9 cv1 cv2 hf)
      · have hf := ite_n n9 hf
        refine r_iload_n C dX10_digToday_45 rfl ?_
        refine r_aload_n C dX10_digToday_46 rfl ?_
        refine r_iload_n C dX10_digToday_47 rfl ?_
        refine r_aload_n C dX10_digToday_48 rfl ?_
        obtain ⟨q10, hf⟩ := gf_s hf
        refine r_gf C ct4 (j := 9) (ji := 9) dX10_digToday_49 q10 rfl rfl (by decide) w_752 rfl (fun c10 => ?_)
        have c10 : in32 _ := c10
        refine r_iload_n C dX10_digToday_52 rfl ?_
        obtain ⟨p11, hf⟩ := gk_s hf
        obtain ⟨r11, h11, hq11, hf⟩ := bd_s hf
        refine r_cV3 C (am_X10_digLine (gl g) n) cm_X10_digLine w_1239 dX10_digToday_53 ⟨Nat.le_of_ble_eq_true rfl, Nat.le_of_ble_eq_true rfl⟩ p11 rfl cv2 c10 cv1 rfl (Nat.le_of_ble_eq_true rfl) hq11 (by decide) (fun c11 => ?_)
        have c11 : in32 _ := c11
        refine r_isub C dX10_digToday_56 ?_
        obtain ⟨x12, e12, hf⟩ := lb_s hf
        have c12 : in32 x12 := by rw [e12]; exact (in32_t _)
        refine r_istore_nL C dX10_digToday_57 e12 (Nat.le_of_ble_eq_true rfl) rfl ?_
        exact G.mask [true, true, true, false] rfl rfl (b_X10_digToday_58 C hr L9 c12 cv2 hf)
set_option maxRecDepth 20000 in
theorem l_X10_digToday_9 {g : GT} {Z : Int × MM} {n : Nat} (C : Cx g cX10_digToday 4 yX10_digToday 5 115) (hr : Rt g none 3 Z) {v0 : Int}    : ∀ (k : Nat) (v1 v2 : Int) (h : MM), in32 v1 → in32 v2 → f_X10_digToday_9 n  v0 k v1 v2 h = some Z → G g 9 [(2, v0), (0, v1), (0, v2), (3, 0)] [] h := by
  intro k
  induction k with
  | zero => intro v1 v2 h cv1 cv2 hf; exact absurd hf (by intro z; cases z)
  | succ k ih => intro v1 v2 h cv1 cv2 hf; exact b_X10_digToday_9b C hr (rec9 := f_X10_digToday_9 n  v0 k)  ih cv1 cv2 (show f_X10_digToday_9b n  (f_X10_digToday_9 n  v0 k) v0 v1 v2 h = some Z from hf)
set_option maxRecDepth 20000 in
theorem e_X10_digToday {g : GT} {Z : Int × MM} {n : Nat} (C : Cx g cX10_digToday 4 yX10_digToday 5 115) (hr : Rt g none 3 Z) {v0 : Int} (cv0 : cK 2 v0) {h : MM} (hf : f_X10_digToday n v0 h = some Z) : G g 0 [(2, v0), (3, 0), (3, 0), (3, 0)] [] h := by
  unfold f_X10_digToday at hf
  refine r_iconst C dX10_digToday_0 ?_
  refine r_aload_n C dX10_digToday_1 rfl ?_
  obtain ⟨q1, hf⟩ := gf_s hf
  refine r_gf C ct10 (j := 10) (ji := 10) dX10_digToday_2 q1 rfl rfl (by decide) w_318 rfl (fun c1 => ?_)
  have c1 : in32 _ := c1
  refine r_imul C dX10_digToday_5 ?_
  obtain ⟨x2, e2, hf⟩ := lb_s hf
  have c2 : in32 x2 := by rw [e2]; exact (in32_t _)
  refine r_istore_nL C dX10_digToday_6 e2 (Nat.le_of_ble_eq_true rfl) rfl ?_
  refine r_iconst C dX10_digToday_7 ?_
  refine r_istore_n C dX10_digToday_8 (Nat.le_of_ble_eq_true rfl) rfl ?_
  exact G.mask [true, true, true, false] rfl rfl (l_X10_digToday_9 C hr   _ _ _ _ c2 (in32_of rfl) hf)
set_option maxRecDepth 20000 in
theorem am_X10_digToday (l : Launch) (n : Nat) : AM l yX10_digToday cX10_digToday 4 none 5 115 [2] 3 (un1 (f_X10_digToday n)) := by
  refine AM.intro (by decide) (fun xs hx => ?_) (fun g xs h Z hl C hr hx hf => ?_)
  · obtain ⟨a0, rfl, c0⟩ := canL_1 hx
    exact Nat.le_of_ble_eq_true rfl
  · obtain ⟨a0, rfl, c0⟩ := canL_1 hx
    have hf := (un1_e _ a0 _).symm.trans hf
    exact e_X10_digToday (n := n) C hr c0 hf
/-! LinesPromised.remember(I)V -/
theorem dX11_remember_0 : decode cX11_remember 0 = .ok (.aload_n 0, 1) := by decide +kernel
theorem dX11_remember_1 : decode cX11_remember 1 = .ok (.getfield 21, 3) := by decide +kernel
theorem dX11_remember_4 : decode cX11_remember 4 = .ok (.iload_n 1, 1) := by decide +kernel
theorem dX11_remember_5 : decode cX11_remember 5 = .ok (.aaload, 1) := by decide +kernel
theorem dX11_remember_6 : decode cX11_remember 6 = .ok (.ifnonnull 13, 3) := by decide +kernel
theorem dX11_remember_9 : decode cX11_remember 9 = .ok (.aload_n 0, 1) := by decide +kernel
theorem dX11_remember_10 : decode cX11_remember 10 = .ok (.getfield 21, 3) := by decide +kernel
theorem dX11_remember_13 : decode cX11_remember 13 = .ok (.iload_n 1, 1) := by decide +kernel
theorem dX11_remember_14 : decode cX11_remember 14 = .ok (.bipush 60, 2) := by decide +kernel
theorem dX11_remember_16 : decode cX11_remember 16 = .ok (.newarray .int, 2) := by decide +kernel
theorem dX11_remember_18 : decode cX11_remember 18 = .ok (.aastore, 1) := by decide +kernel
theorem dX11_remember_19 : decode cX11_remember 19 = .ok (.aload_n 0, 1) := by decide +kernel
theorem dX11_remember_20 : decode cX11_remember 20 = .ok (.getfield 21, 3) := by decide +kernel
theorem dX11_remember_23 : decode cX11_remember 23 = .ok (.iload_n 1, 1) := by decide +kernel
theorem dX11_remember_24 : decode cX11_remember 24 = .ok (.aaload, 1) := by decide +kernel
theorem dX11_remember_25 : decode cX11_remember 25 = .ok (.astore_n 2, 1) := by decide +kernel
theorem dX11_remember_26 : decode cX11_remember 26 = .ok (.aload_n 2, 1) := by decide +kernel
theorem dX11_remember_27 : decode cX11_remember 27 = .ok (.iconst (-1), 1) := by decide +kernel
theorem dX11_remember_28 : decode cX11_remember 28 = .ok (.invokestatic 431, 3) := by decide +kernel
theorem dX11_remember_31 : decode cX11_remember 31 = .ok (.iconst 0, 1) := by decide +kernel
theorem dX11_remember_32 : decode cX11_remember 32 = .ok (.istore_n 3, 1) := by decide +kernel
theorem dX11_remember_33 : decode cX11_remember 33 = .ok (.iload_n 3, 1) := by decide +kernel
theorem dX11_remember_34 : decode cX11_remember 34 = .ok (.aload_n 0, 1) := by decide +kernel
theorem dX11_remember_35 : decode cX11_remember 35 = .ok (.getfield 10, 3) := by decide +kernel
theorem dX11_remember_38 : decode cX11_remember 38 = .ok (.getfield 133, 3) := by decide +kernel
theorem dX11_remember_41 : decode cX11_remember 41 = .ok (.getfield 410, 3) := by decide +kernel
theorem dX11_remember_44 : decode cX11_remember 44 = .ok (.if_icmp .ge 82, 3) := by decide +kernel
theorem dX11_remember_47 : decode cX11_remember 47 = .ok (.aload_n 0, 1) := by decide +kernel
theorem dX11_remember_48 : decode cX11_remember 48 = .ok (.getfield 10, 3) := by decide +kernel
theorem dX11_remember_51 : decode cX11_remember 51 = .ok (.getfield 133, 3) := by decide +kernel
theorem dX11_remember_54 : decode cX11_remember 54 = .ok (.iload_n 3, 1) := by decide +kernel
theorem dX11_remember_55 : decode cX11_remember 55 = .ok (.iconst 1, 1) := by decide +kernel
theorem dX11_remember_56 : decode cX11_remember 56 = .ok (.invokevirtual 172, 3) := by decide +kernel
theorem dX11_remember_59 : decode cX11_remember 59 = .ok (.astore 4, 2) := by decide +kernel
theorem dX11_remember_61 : decode cX11_remember 61 = .ok (.aload 4, 2) := by decide +kernel
theorem dX11_remember_63 : decode cX11_remember 63 = .ok (.ifnull 28, 3) := by decide +kernel
theorem dX11_remember_66 : decode cX11_remember 66 = .ok (.aload_n 2, 1) := by decide +kernel
theorem dX11_remember_67 : decode cX11_remember 67 = .ok (.iload_n 3, 1) := by decide +kernel
theorem dX11_remember_68 : decode cX11_remember 68 = .ok (.aload_n 0, 1) := by decide +kernel
theorem dX11_remember_69 : decode cX11_remember 69 = .ok (.getfield 10, 3) := by decide +kernel
theorem dX11_remember_72 : decode cX11_remember 72 = .ok (.getfield 78, 3) := by decide +kernel
theorem dX11_remember_75 : decode cX11_remember 75 = .ok (.getfield 82, 3) := by decide +kernel
theorem dX11_remember_78 : decode cX11_remember 78 = .ok (.bipush 8, 2) := by decide +kernel
theorem dX11_remember_80 : decode cX11_remember 80 = .ok (.aload 4, 2) := by decide +kernel
theorem dX11_remember_82 : decode cX11_remember 82 = .ok (.getfield 161, 3) := by decide +kernel
theorem dX11_remember_85 : decode cX11_remember 85 = .ok (.iadd, 1) := by decide +kernel
theorem dX11_remember_86 : decode cX11_remember 86 = .ok (.iaload, 1) := by decide +kernel
theorem dX11_remember_87 : decode cX11_remember 87 = .ok (.iastore, 1) := by decide +kernel
theorem dX11_remember_88 : decode cX11_remember 88 = .ok (.goto 32, 3) := by decide +kernel
theorem dX11_remember_91 : decode cX11_remember 91 = .ok (.aload_n 0, 1) := by decide +kernel
theorem dX11_remember_92 : decode cX11_remember 92 = .ok (.getfield 10, 3) := by decide +kernel
theorem dX11_remember_95 : decode cX11_remember 95 = .ok (.getfield 133, 3) := by decide +kernel
theorem dX11_remember_98 : decode cX11_remember 98 = .ok (.iload_n 3, 1) := by decide +kernel
theorem dX11_remember_99 : decode cX11_remember 99 = .ok (.invokevirtual 437, 3) := by decide +kernel
theorem dX11_remember_102 : decode cX11_remember 102 = .ok (.ifCond .eq 18, 3) := by decide +kernel
theorem dX11_remember_105 : decode cX11_remember 105 = .ok (.aload_n 2, 1) := by decide +kernel
theorem dX11_remember_106 : decode cX11_remember 106 = .ok (.iload_n 3, 1) := by decide +kernel
theorem dX11_remember_107 : decode cX11_remember 107 = .ok (.aload_n 0, 1) := by decide +kernel
theorem dX11_remember_108 : decode cX11_remember 108 = .ok (.getfield 10, 3) := by decide +kernel
theorem dX11_remember_111 : decode cX11_remember 111 = .ok (.getfield 133, 3) := by decide +kernel
theorem dX11_remember_114 : decode cX11_remember 114 = .ok (.getfield 266, 3) := by decide +kernel
theorem dX11_remember_117 : decode cX11_remember 117 = .ok (.iload_n 3, 1) := by decide +kernel
theorem dX11_remember_118 : decode cX11_remember 118 = .ok (.iaload, 1) := by decide +kernel
theorem dX11_remember_119 : decode cX11_remember 119 = .ok (.iastore, 1) := by decide +kernel
theorem dX11_remember_120 : decode cX11_remember 120 = .ok (.iinc 3 1, 3) := by decide +kernel
theorem dX11_remember_123 : decode cX11_remember 123 = .ok (.goto (-90), 3) := by decide +kernel
theorem dX11_remember_126 : decode cX11_remember 126 = .ok (.return_, 1) := by decide +kernel
theorem cm_X11_remember : CM yX11_remember cX11_remember 5 none 1 11 := ⟨w_1250, w_33, w_1251, w_87, ⟨by decide +kernel, by decide +kernel, by decide +kernel⟩, ⟨_, _, rfl⟩, by decide⟩
noncomputable def f_X11_remember_120 (n : Nat) (rec33 : Int → MM → RR) (v0 v2 v3 : Int) (h : MM) : RR :=
  lb (wr (v3 + 1)) fun x1 =>
  rec33 x1 h
noncomputable def f_X11_remember_33b (n : Nat) (rec33 : Int → MM → RR) (v0 v2 v3 : Int) (h : MM) : RR :=
  gf h v0 11 0 fun r1 =>
  gf h r1 10 1 fun r2 =>
  gf h r2 5 7 fun r3 =>
  if r3 ≤ v3 then
    some (0, h)
  else
  gf h v0 11 0 fun r5 =>
  gf h r5 10 1 fun r6 =>
  gk h r6 5 <|
  bd (f_X5_find n r6 v3 1 h) fun r7 h7 =>
  if r7 = 0 then
    gf h7 v0 11 0 fun r9 =>
    gf h7 r9 10 1 fun r10 =>
    gk h7 r10 5 <|
    bd (f_X5_isGranted n r10 v3 h7) fun r11 h11 =>
    if r11 = 0 then
      f_X11_remember_120 n rec33 v0 v2 v3 h11
    else
    gf h11 v0 11 0 fun r13 =>
    gf h11 r13 10 1 fun r14 =>
    gf h11 r14 5 2 fun r15 =>
    rd h11 r15 100 v3 fun r16 =>
    wt h11 v2 100 v3 r16 fun h17 =>
    f_X11_remember_120 n rec33 v0 v2 v3 h17
  else
  gf h7 v0 11 0 fun r18 =>
  gf h7 r18 10 2 fun r19 =>
  gf h7 r19 8 0 fun r20 =>
  gf h7 r7 4 9 fun r21 =>
  rd h7 r20 100 (wr (8 + r21)) fun r22 =>
  wt h7 v2 100 v3 r22 fun h23 =>
  f_X11_remember_120 n rec33 v0 v2 v3 h23
noncomputable def f_X11_remember_33 (n : Nat)  (v0 v2 : Int) : Nat → Int → MM → RR
  | 0, _, _ => none
  | k + 1, v3, h => f_X11_remember_33b n  (f_X11_remember_33 n  v0 v2 k) v0 v2 v3 h
noncomputable def f_X11_remember_19 (n : Nat)  (v0 v1 : Int) (h : MM) : RR :=
  gf h v0 11 3 fun r1 =>
  rd h r1 107 v1 fun r2 =>
  bd (f_J7_fill_53178 n r2 ((-1)) h) fun r3 h3 =>
  f_X11_remember_33 n v0 r2 n 0 h3
noncomputable def f_X11_remember (n : Nat) (v0 v1 : Int) (h : MM) : RR :=
  gf h v0 11 3 fun r1 =>
  rd h r1 107 v1 fun r2 =>
  if r2 = 0 then
    gf h v0 11 3 fun r4 =>
    na h 100 60 fun r5 h5 =>
    gk2 h5 r5 100 <|
    wt h5 r4 107 v1 r5 fun h6 =>
    f_X11_remember_19 n v0 v1 h6
  else
  f_X11_remember_19 n v0 v1 h
set_option maxRecDepth 20000 in
theorem b_X11_remember_120 {g : GT} {Z : Int × MM} {n : Nat} (C : Cx g cX11_remember 5 yX11_remember 4 88) (hr : Rt g none 3 Z) {v0 v2 v3 : Int}  {rec33 : Int → MM → RR} (L33 : ∀ (u3 : Int) (h : MM), in32 u3 → rec33 u3 h = some Z → G g 33 [(2, v0), (3, 0), (2, v2), (0, u3), (3, 0)] [] h) (cv3 : in32 v3) {h : MM} (hf : f_X11_remember_120 n rec33 v0 v2 v3 h = some Z) : G g 120 [(2, v0), (3, 0), (2, v2), (0, v3), (3, 0)] [] h := by
  unfold f_X11_remember_120 at hf
  obtain ⟨x1, e1, hf⟩ := lb_s hf
  have c1 : in32 x1 := by rw [e1]; exact (in32_t _)
  refine r_iincL C dX11_remember_120 rfl e1 (Nat.le_of_ble_eq_true rfl) rfl ?_
  refine r_goto C dX11_remember_123 (tgt := 33) (by decide) ?_
  exact G.mask [true, false, true, true, false] rfl rfl (L33 _ _ c1 hf)
set_option maxRecDepth 20000 in
theorem b_X11_remember_33b {g : GT} {Z : Int × MM} {n : Nat} (C : Cx g cX11_remember 5 yX11_remember 4 88) (hr : Rt g none 3 Z) {v0 v2 v3 : Int}  {rec33 : Int → MM → RR} (L33 : ∀ (u3 : Int) (h : MM), in32 u3 → rec33 u3 h = some Z → G g 33 [(2, v0), (3, 0), (2, v2), (0, u3), (3, 0)] [] h) (cv3 : in32 v3) {h : MM} (hf : f_X11_remember_33b n rec33 v0 v2 v3 h = some Z) : G g 33 [(2, v0), (3, 0), (2, v2), (0, v3), (3, 0)] [] h := by
  unfold f_X11_remember_33b at hf
  refine r_iload_n C dX11_remember_33 rfl ?_
  refine r_aload_n C dX11_remember_34 rfl ?_
  obtain ⟨q1, hf⟩ := gf_s hf
  refine r_gf C ct11 (j := 0) (ji := 0) dX11_remember_35 q1 rfl rfl (by decide) w_440 rfl (fun c1 => ?_)
  obtain ⟨q2, hf⟩ := gf_s hf
  refine r_gf C ct10 (j := 1) (ji := 1) dX11_remember_38 q2 rfl rfl (by decide) w_302 rfl (fun c2 => ?_)
  obtain ⟨q3, hf⟩ := gf_s hf
  refine r_gf C ct5 (j := 7) (ji := 7) dX11_remember_41 q3 rfl rfl (by decide) w_180 rfl (fun c3 => ?_)
  have c3 : in32 _ := c3
  refine r_icmp_ge C dX11_remember_44 (tgt := 126) (by decide) cv3 c3 (fun n4 => ?_) (fun n4 => ?_)
  · have hf := ite_p n4 hf
    cases hf
    exact r_vret C hr dX11_remember_126
  · have hf := ite_n n4 hf
    refine r_aload_n C dX11_remember_47 rfl ?_
    obtain ⟨q5, hf⟩ := gf_s hf
    refine r_gf C ct11 (j := 0) (ji := 0) dX11_remember_48 q5 rfl rfl (by decide) w_440 rfl (fun c5 => ?_)
    obtain ⟨q6, hf⟩ := gf_s hf
    refine r_gf C ct10 (j := 1) (ji := 1) dX11_remember_51 q6 rfl rfl (by decide) w_302 rfl (fun c6 => ?_)
    refine r_iload_n C dX11_remember_54 rfl ?_
    refine r_iconst C dX11_remember_55 ?_
    obtain ⟨p7, hf⟩ := gk_s hf
    obtain ⟨r7, h7, hq7, hf⟩ := bd_s hf
    refine r_cV2 C (am_X5_find (gl g) n) cm_X5_find w_798 dX11_remember_56 ⟨Nat.le_of_ble_eq_true rfl, Nat.le_of_ble_eq_true rfl⟩ p7 rfl cv3 (in32_of rfl) rfl (Nat.le_of_ble_eq_true rfl) hq7 (by decide) (fun c7 => ?_)
    refine r_astore C dX11_remember_59 (Nat.le_of_ble_eq_true rfl) rfl ?_
    refine r_aload C dX11_remember_61 rfl ?_
    refine r_ifnull C dX11_remember_63 (tgt := 91) (by decide) (fun n8 => ?_) (fun n8 => ?_)
    · have hf := ite_p n8 hf
      refine r_aload_n C dX11_remember_91 rfl ?_
      obtain ⟨q9, hf⟩ := gf_s hf
      refine r_gf C ct11 (j := 0) (ji := 0) dX11_remember_92 q9 rfl rfl (by decide) w_440 rfl (fun c9 => ?_)
      obtain ⟨q10, hf⟩ := gf_s hf
      refine r_gf C ct10 (j := 1) (ji := 1) dX11_remember_95 q10 rfl rfl (by decide) w_302 rfl (fun c10 => ?_)
      refine r_iload_n C dX11_remember_98 rfl ?_
      obtain ⟨p11, hf⟩ := gk_s hf
      obtain ⟨r11, h11, hq11, hf⟩ := bd_s hf
      refine r_cV1 C (am_X5_isGranted (gl g) n) cm_X5_isGranted w_1253 dX11_remember_99 ⟨Nat.le_of_ble_eq_true rfl, Nat.le_of_ble_eq_true rfl⟩ p11 rfl cv3 rfl (Nat.le_of_ble_eq_true rfl) hq11 (by decide) (fun c11 => ?_)
      have c11 : in32 _ := c11
      refine r_if_eq C dX11_remember_102 (tgt := 120) (by decide) c11 (fun n12 => ?_) (fun n12 => ?_)
      · have hf := ite_p n12 hf
        exact G.mask [true, false, true, true, false] rfl rfl (b_X11_remember_120 C hr L33 cv3 hf)
      · have hf := ite_n n12 hf
        refine r_aload_n C dX11_remember_105 rfl ?_
        refine r_iload_n C dX11_remember_106 rfl ?_
        refine r_aload_n C dX11_remember_107 rfl ?_
        obtain ⟨q13, hf⟩ := gf_s hf
        refine r_gf C ct11 (j := 0) (ji := 0) dX11_remember_108 q13 rfl rfl (by decide) w_440 rfl (fun c13 => ?_)
        obtain ⟨q14, hf⟩ := gf_s hf
        refine r_gf C ct10 (j := 1) (ji := 1) dX11_remember_111 q14 rfl rfl (by decide) w_302 rfl (fun c14 => ?_)
        obtain ⟨q15, hf⟩ := gf_s hf
        refine r_gf C ct5 (j := 2) (ji := 2) dX11_remember_114 q15 rfl rfl (by decide) w_170 rfl (fun c15 => ?_)
        refine r_iload_n C dX11_remember_117 rfl ?_
        obtain ⟨q16, hf⟩ := rd_s hf
        refine r_iald C dX11_remember_118 q16 rfl (fun c16 => ?_)
        obtain ⟨q17, hf⟩ := wt_s hf
        refine r_iast C dX11_remember_119 q17 rfl c16 ?_
        exact G.mask [true, false, true, true, false] rfl rfl (b_X11_remember_120 C hr L33 cv3 hf)
    · have hf := ite_n n8 hf
      refine r_aload_n C dX11_remember_66 rfl ?_
      refine r_iload_n C dX11_remember_67 rfl ?_
      refine r_aload_n C dX11_remember_68 rfl ?_
      obtain ⟨q18, hf⟩ := gf_s hf
      refine r_gf C ct11 (j := 0) (ji := 0) dX11_remember_69 q18 rfl rfl (by decide) w_440 rfl (fun c18 => ?_)
      obtain ⟨q19, hf⟩ := gf_s hf
      refine r_gf C ct10 (j := 2) (ji := 2) dX11_remember_72 q19 rfl rfl (by decide) w_304 rfl (fun c19 => ?_)
      obtain ⟨q20, hf⟩ := gf_s hf
      refine r_gf C ct8 (j := 0) (ji := 0) dX11_remember_75 q20 rfl rfl (by decide) w_215 rfl (fun c20 => ?_)
      refine r_bipush C dX11_remember_78 rfl ?_
      refine r_aload C dX11_remember_80 rfl ?_
      obtain ⟨q21, hf⟩ := gf_s hf
      refine r_gf C ct4 (j := 9) (ji := 9) dX11_remember_82 q21 rfl rfl (by decide) w_754 rfl (fun c21 => ?_)
      have c21 : in32 _ := c21
      refine r_iadd C dX11_remember_85 ?_
      obtain ⟨q22, hf⟩ := rd_s hf
      refine r_iald C dX11_remember_86 q22 rfl (fun c22 => ?_)
      obtain ⟨q23, hf⟩ := wt_s hf
      refine r_iast C dX11_remember_87 q23 rfl c22 ?_
      refine r_goto C dX11_remember_88 (tgt := 120) (by decide) ?_
      exact G.mask [true, false, true, true, false] rfl rfl (b_X11_remember_120 C hr L33 cv3 hf)
set_option maxRecDepth 20000 in
theorem l_X11_remember_33 {g : GT} {Z : Int × MM} {n : Nat} (C : Cx g cX11_remember 5 yX11_remember 4 88) (hr : Rt g none 3 Z) {v0 v2 : Int}    : ∀ (k : Nat) (v3 : Int) (h : MM), in32 v3 → f_X11_remember_33 n  v0 v2 k v3 h = some Z → G g 33 [(2, v0), (3, 0), (2, v2), (0, v3), (3, 0)] [] h := by
  intro k
  induction k with
  | zero => intro v3 h cv3 hf; exact absurd hf (by intro z; cases z)
  | succ k ih => intro v3 h cv3 hf; exact b_X11_remember_33b C hr (rec33 := f_X11_remember_33 n  v0 v2 k)  ih cv3 (show f_X11_remember_33b n  (f_X11_remember_33 n  v0 v2 k) v0 v2 v3 h = some Z from hf)
set_option maxRecDepth 20000 in
theorem b_X11_remember_19 {g : GT} {Z : Int × MM} {n : Nat} (C : Cx g cX11_remember 5 yX11_remember 4 88) (hr : Rt g none 3 Z) {v0 v1 : Int}    (cv1 : in32 v1) {h : MM} (hf : f_X11_remember_19 n  v0 v1 h = some Z) : G g 19 [(2, v0), (0, v1), (3, 0), (3, 0), (3, 0)] [] h := by
  unfold f_X11_remember_19 at hf
  refine r_aload_n C dX11_remember_19 rfl ?_
  obtain ⟨q1, hf⟩ := gf_s hf
  refine r_gf C ct11 (j := 3) (ji := 3) dX11_remember_20 q1 rfl rfl (by decide) w_443 rfl (fun c1 => ?_)
  refine r_iload_n C dX11_remember_23 rfl ?_
  obtain ⟨q2, hf⟩ := rd_s hf
  refine r_aald C dX11_remember_24 q2 (tn := 107) rfl (by decide) ?_
  refine r_astore_n C dX11_remember_25 (Nat.le_of_ble_eq_true rfl) rfl ?_
  refine r_aload_n C dX11_remember_26 rfl ?_
  refine r_iconst C dX11_remember_27 ?_
  obtain ⟨r3, h3, hq3, hf⟩ := bd_s hf
  refine r_cS2v C (am_J7_fill_53178 (gl g) n) cm_J7_fill_53178 w_1252 dX11_remember_28 ⟨Nat.le_of_ble_eq_true rfl, Nat.le_of_ble_eq_true rfl⟩ trivial (in32_of rfl) rfl (Nat.le_of_ble_eq_true rfl) hq3 ?_
  refine r_iconst C dX11_remember_31 ?_
  refine r_istore_n C dX11_remember_32 (Nat.le_of_ble_eq_true rfl) rfl ?_
  exact G.mask [true, false, true, true, false] rfl rfl (l_X11_remember_33 C hr   _ _ _ (in32_of rfl) hf)
set_option maxRecDepth 20000 in
theorem e_X11_remember {g : GT} {Z : Int × MM} {n : Nat} (C : Cx g cX11_remember 5 yX11_remember 4 88) (hr : Rt g none 3 Z) {v0 v1 : Int} (cv0 : cK 2 v0) (cv1 : cK 0 v1) {h : MM} (hf : f_X11_remember n v0 v1 h = some Z) : G g 0 [(2, v0), (0, v1), (3, 0), (3, 0), (3, 0)] [] h := by
  have cv1 : in32 v1 := cv1
  unfold f_X11_remember at hf
  refine r_aload_n C dX11_remember_0 rfl ?_
  obtain ⟨q1, hf⟩ := gf_s hf
  refine r_gf C ct11 (j := 3) (ji := 3) dX11_remember_1 q1 rfl rfl (by decide) w_443 rfl (fun c1 => ?_)
  refine r_iload_n C dX11_remember_4 rfl ?_
  obtain ⟨q2, hf⟩ := rd_s hf
  refine r_aald C dX11_remember_5 q2 (tn := 107) rfl (by decide) ?_
  refine r_ifnonnull C dX11_remember_6 (tgt := 19) (by decide) (fun n3 => ?_) (fun n3 => ?_)
  · have hf := ite_n n3 hf
    exact G.mask [true, true, false, false, false] rfl rfl (b_X11_remember_19 C hr  cv1 hf)
  · have hf := ite_p n3 hf
    refine r_aload_n C dX11_remember_9 rfl ?_
    obtain ⟨q4, hf⟩ := gf_s hf
    refine r_gf C ct11 (j := 3) (ji := 3) dX11_remember_10 q4 rfl rfl (by decide) w_443 rfl (fun c4 => ?_)
    refine r_iload_n C dX11_remember_13 rfl ?_
    refine r_bipush C dX11_remember_14 rfl ?_
    obtain ⟨q5, hf⟩ := na_s hf
    refine r_na C (tn := 100) (t := 100) dX11_remember_16 q5 rfl (by decide) (by decide) w_156 ?_
    obtain ⟨p6, hf⟩ := gk2_s hf
    obtain ⟨q6, hf⟩ := wt_s hf
    refine r_aastI C dX11_remember_18 q6 rfl p6 rfl ?_
    exact G.mask [true, true, false, false, false] rfl rfl (b_X11_remember_19 C hr  cv1 hf)
set_option maxRecDepth 20000 in
theorem am_X11_remember (l : Launch) (n : Nat) : AM l yX11_remember cX11_remember 5 none 4 88 [2, 0] 3 (un2 (f_X11_remember n)) := by
  refine AM.intro (by decide) (fun xs hx => ?_) (fun g xs h Z hl C hr hx hf => ?_)
  · obtain ⟨a0, a1, rfl, c0, c1⟩ := canL_2 hx
    exact Nat.le_of_ble_eq_true rfl
  · obtain ⟨a0, a1, rfl, c0, c1⟩ := canL_2 hx
    have hf := (un2_e _ a0 a1 _).symm.trans hf
    exact e_X11_remember (n := n) C hr c0 c1 hf
/-! LinesPromised.dig(I)I -/
theorem dX11_dig_0 : decode cX11_dig 0 = .ok (.iload_n 1, 1) := by decide +kernel
theorem dX11_dig_1 : decode cX11_dig 1 = .ok (.i2l, 1) := by decide +kernel
theorem dX11_dig_2 : decode cX11_dig 2 = .ok (.iconst 1, 1) := by decide +kernel
theorem dX11_dig_3 : decode cX11_dig 3 = .ok (.bipush 50, 2) := by decide +kernel
theorem dX11_dig_5 : decode cX11_dig 5 = .ok (.invokestatic 46, 3) := by decide +kernel
theorem dX11_dig_8 : decode cX11_dig 8 = .ok (.ifCond .eq 18, 3) := by decide +kernel
theorem dX11_dig_11 : decode cX11_dig 11 = .ok (.aload_n 0, 1) := by decide +kernel
theorem dX11_dig_12 : decode cX11_dig 12 = .ok (.getfield 10, 3) := by decide +kernel
theorem dX11_dig_15 : decode cX11_dig 15 = .ok (.getfield 148, 3) := by decide +kernel
theorem dX11_dig_18 : decode cX11_dig 18 = .ok (.iload_n 1, 1) := by decide +kernel
theorem dX11_dig_19 : decode cX11_dig 19 = .ok (.iadd, 1) := by decide +kernel
theorem dX11_dig_20 : decode cX11_dig 20 = .ok (.sipush 999, 3) := by decide +kernel
theorem dX11_dig_23 : decode cX11_dig 23 = .ok (.if_icmp .le 6, 3) := by decide +kernel
theorem dX11_dig_26 : decode cX11_dig 26 = .ok (.bipush (-2), 2) := by decide +kernel
theorem dX11_dig_28 : decode cX11_dig 28 = .ok (.ireturn, 1) := by decide +kernel
theorem dX11_dig_29 : decode cX11_dig 29 = .ok (.iconst 0, 1) := by decide +kernel
theorem dX11_dig_30 : decode cX11_dig 30 = .ok (.istore_n 2, 1) := by decide +kernel
theorem dX11_dig_31 : decode cX11_dig 31 = .ok (.iload_n 2, 1) := by decide +kernel
theorem dX11_dig_32 : decode cX11_dig 32 = .ok (.iload_n 1, 1) := by decide +kernel
theorem dX11_dig_33 : decode cX11_dig 33 = .ok (.if_icmp .ge 40, 3) := by decide +kernel
theorem dX11_dig_36 : decode cX11_dig 36 = .ok (.aload_n 0, 1) := by decide +kernel
theorem dX11_dig_37 : decode cX11_dig 37 = .ok (.getfield 10, 3) := by decide +kernel
theorem dX11_dig_40 : decode cX11_dig 40 = .ok (.invokevirtual 361, 3) := by decide +kernel
theorem dX11_dig_43 : decode cX11_dig 43 = .ok (.aload_n 0, 1) := by decide +kernel
theorem dX11_dig_44 : decode cX11_dig 44 = .ok (.aload_n 0, 1) := by decide +kernel
theorem dX11_dig_45 : decode cX11_dig 45 = .ok (.getfield 10, 3) := by decide +kernel
theorem dX11_dig_48 : decode cX11_dig 48 = .ok (.getfield 148, 3) := by decide +kernel
theorem dX11_dig_51 : decode cX11_dig 51 = .ok (.invokevirtual 364, 3) := by decide +kernel
theorem dX11_dig_54 : decode cX11_dig 54 = .ok (.aload_n 0, 1) := by decide +kernel
theorem dX11_dig_55 : decode cX11_dig 55 = .ok (.getfield 10, 3) := by decide +kernel
theorem dX11_dig_58 : decode cX11_dig 58 = .ok (.dup, 1) := by decide +kernel
theorem dX11_dig_59 : decode cX11_dig 59 = .ok (.getfield 148, 3) := by decide +kernel
theorem dX11_dig_62 : decode cX11_dig 62 = .ok (.iconst 1, 1) := by decide +kernel
theorem dX11_dig_63 : decode cX11_dig 63 = .ok (.iadd, 1) := by decide +kernel
theorem dX11_dig_64 : decode cX11_dig 64 = .ok (.putfield 148, 3) := by decide +kernel
theorem dX11_dig_67 : decode cX11_dig 67 = .ok (.iinc 2 1, 3) := by decide +kernel
theorem dX11_dig_70 : decode cX11_dig 70 = .ok (.goto (-39), 3) := by decide +kernel
theorem dX11_dig_73 : decode cX11_dig 73 = .ok (.aload_n 0, 1) := by decide +kernel
theorem dX11_dig_74 : decode cX11_dig 74 = .ok (.getfield 10, 3) := by decide +kernel
theorem dX11_dig_77 : decode cX11_dig 77 = .ok (.getfield 148, 3) := by decide +kernel
theorem dX11_dig_80 : decode cX11_dig 80 = .ok (.ireturn, 1) := by decide +kernel
theorem cm_X11_dig : CM yX11_dig cX11_dig 3 (some .int) 1 11 := ⟨w_1230, w_1231, w_1232, w_87, ⟨by decide +kernel, by decide +kernel, by decide +kernel⟩, ⟨_, _, rfl⟩, by decide⟩
noncomputable def f_X11_dig_26 (n : Nat)  (h : MM) : RR :=
  some ((-2), h)
noncomputable def f_X11_dig_31b (n : Nat) (rec31 : Int → MM → RR) (v0 v1 v2 : Int) (h : MM) : RR :=
  if v1 ≤ v2 then
    gf h v0 11 0 fun r2 =>
    gf h r2 10 9 fun r3 =>
    some (r3, h)
  else
  gf h v0 11 0 fun r4 =>
  gk h r4 10 <|
  bd (f_X10_digToday n r4 h) fun r5 h5 =>
  gf h5 v0 11 0 fun r6 =>
  gf h5 r6 10 9 fun r7 =>
  gk h5 v0 11 <|
  bd (f_X11_remember n v0 r7 h5) fun r8 h8 =>
  gf h8 v0 11 0 fun r9 =>
  gf h8 r9 10 9 fun r10 =>
  pf h8 r9 10 9 (wr (r10 + 1)) fun h11 =>
  lb (wr (v2 + 1)) fun x12 =>
  rec31 x12 h11
noncomputable def f_X11_dig_31 (n : Nat)  (v0 v1 : Int) : Nat → Int → MM → RR
  | 0, _, _ => none
  | k + 1, v2, h => f_X11_dig_31b n  (f_X11_dig_31 n  v0 v1 k) v0 v1 v2 h
noncomputable def f_X11_dig (n : Nat) (v0 v1 : Int) (h : MM) : RR :=
  bd (f_X11_within n v1 1 50 h) fun r1 h1 =>
  if r1 = 0 then
    f_X11_dig_26 n h1
  else
  gf h1 v0 11 0 fun r3 =>
  gf h1 r3 10 9 fun r4 =>
  if wr (r4 + v1) ≤ 999 then
    f_X11_dig_31 n v0 v1 n 0 h1
  else
  f_X11_dig_26 n h1
set_option maxRecDepth 20000 in
theorem b_X11_dig_26 {g : GT} {Z : Int × MM} {n : Nat} (C : Cx g cX11_dig 3 yX11_dig 6 138) (hr : Rt g (some .int) 0 Z)     {h : MM} (hf : f_X11_dig_26 n   h = some Z) : G g 26 [(3, 0), (3, 0), (3, 0)] [] h := by
  unfold f_X11_dig_26 at hf
  refine r_bipush C dX11_dig_26 rfl ?_
  cases hf
  exact r_jret C hr dX11_dig_28 (in32_of rfl)
set_option maxRecDepth 20000 in
theorem b_X11_dig_31b {g : GT} {Z : Int × MM} {n : Nat} (C : Cx g cX11_dig 3 yX11_dig 6 138) (hr : Rt g (some .int) 0 Z) {v0 v1 v2 : Int}  {rec31 : Int → MM → RR} (L31 : ∀ (u2 : Int) (h : MM), in32 u2 → rec31 u2 h = some Z → G g 31 [(2, v0), (0, v1), (0, u2)] [] h) (cv1 : in32 v1) (cv2 : in32 v2) {h : MM} (hf : f_X11_dig_31b n rec31 v0 v1 v2 h = some Z) : G g 31 [(2, v0), (0, v1), (0, v2)] [] h := by
  unfold f_X11_dig_31b at hf
  refine r_iload_n C dX11_dig_31 rfl ?_
  refine r_iload_n C dX11_dig_32 rfl ?_
  refine r_icmp_ge C dX11_dig_33 (tgt := 73) (by decide) cv2 cv1 (fun n1 => ?_) (fun n1 => ?_)
  · have hf := ite_p n1 hf
    refine r_aload_n C dX11_dig_73 rfl ?_
    obtain ⟨q2, hf⟩ := gf_s hf
    refine r_gf C ct11 (j := 0) (ji := 0) dX11_dig_74 q2 rfl rfl (by decide) w_440 rfl (fun c2 => ?_)
    obtain ⟨q3, hf⟩ := gf_s hf
    refine r_gf C ct10 (j := 9) (ji := 9) dX11_dig_77 q3 rfl rfl (by decide) w_317 rfl (fun c3 => ?_)
    have c3 : in32 _ := c3
    cases hf
    exact r_jret C hr dX11_dig_80 c3
  · have hf := ite_n n1 hf
    refine r_aload_n C dX11_dig_36 rfl ?_
    obtain ⟨q4, hf⟩ := gf_s hf
    refine r_gf C ct11 (j := 0) (ji := 0) dX11_dig_37 q4 rfl rfl (by decide) w_440 rfl (fun c4 => ?_)
    obtain ⟨p5, hf⟩ := gk_s hf
    obtain ⟨r5, h5, hq5, hf⟩ := bd_s hf
    refine r_cV0v C (am_X10_digToday (gl g) n) cm_X10_digToday w_1233 dX11_dig_40 ⟨Nat.le_of_ble_eq_true rfl, Nat.le_of_ble_eq_true rfl⟩ p5 rfl  rfl (Nat.le_of_ble_eq_true rfl) hq5 ?_
    refine r_aload_n C dX11_dig_43 rfl ?_
    refine r_aload_n C dX11_dig_44 rfl ?_
    obtain ⟨q6, hf⟩ := gf_s hf
    refine r_gf C ct11 (j := 0) (ji := 0) dX11_dig_45 q6 rfl rfl (by decide) w_440 rfl (fun c6 => ?_)
    obtain ⟨q7, hf⟩ := gf_s hf
    refine r_gf C ct10 (j := 9) (ji := 9) dX11_dig_48 q7 rfl rfl (by decide) w_317 rfl (fun c7 => ?_)
    have c7 : in32 _ := c7
    obtain ⟨p8, hf⟩ := gk_s hf
    obtain ⟨r8, h8, hq8, hf⟩ := bd_s hf
    refine r_cV1v C (am_X11_remember (gl g) n) cm_X11_remember w_1248 dX11_dig_51 ⟨Nat.le_of_ble_eq_true rfl, Nat.le_of_ble_eq_true rfl⟩ p8 rfl c7 rfl (Nat.le_of_ble_eq_true rfl) hq8 ?_
    refine r_aload_n C dX11_dig_54 rfl ?_
    obtain ⟨q9, hf⟩ := gf_s hf
    refine r_gf C ct11 (j := 0) (ji := 0) dX11_dig_55 q9 rfl rfl (by decide) w_440 rfl (fun c9 => ?_)
    refine r_dup C dX11_dig_58 (by decide) ?_
    obtain ⟨q10, hf⟩ := gf_s hf
    refine r_gf C ct10 (j := 9) (ji := 9) dX11_dig_59 q10 rfl rfl (by decide) w_317 rfl (fun c10 => ?_)
    have c10 : in32 _ := c10
    refine r_iconst C dX11_dig_62 ?_
    refine r_iadd C dX11_dig_63 ?_
    obtain ⟨q11, hf⟩ := pf_s hf
    refine r_pf C ct10 (j := 9) (ji := 9) dX11_dig_64 q11 rfl rfl (by decide) w_317 rfl (Or.inl rfl) nar_int (in32_t _) ?_
    obtain ⟨x12, e12, hf⟩ := lb_s hf
    have c12 : in32 x12 := by rw [e12]; exact (in32_t _)
    refine r_iincL C dX11_dig_67 rfl e12 (Nat.le_of_ble_eq_true rfl) rfl ?_
    refine r_goto C dX11_dig_70 (tgt := 31) (by decide) ?_
    exact G.mask [true, true, true] rfl rfl (L31 _ _ c12 hf)
set_option maxRecDepth 20000 in
theorem l_X11_dig_31 {g : GT} {Z : Int × MM} {n : Nat} (C : Cx g cX11_dig 3 yX11_dig 6 138) (hr : Rt g (some .int) 0 Z) {v0 v1 : Int}   (cv1 : in32 v1) : ∀ (k : Nat) (v2 : Int) (h : MM), in32 v2 → f_X11_dig_31 n  v0 v1 k v2 h = some Z → G g 31 [(2, v0), (0, v1), (0, v2)] [] h := by
  intro k
  induction k with
  | zero => intro v2 h cv2 hf; exact absurd hf (by intro z; cases z)
  | succ k ih => intro v2 h cv2 hf; exact b_X11_dig_31b C hr (rec31 := f_X11_dig_31 n  v0 v1 k)  ih cv1 cv2 (show f_X11_dig_31b n  (f_X11_dig_31 n  v0 v1 k) v0 v1 v2 h = some Z from hf)
set_option maxRecDepth 20000 in
theorem e_X11_dig {g : GT} {Z : Int × MM} {n : Nat} (C : Cx g cX11_dig 3 yX11_dig 6 138) (hr : Rt g (some .int) 0 Z) {v0 v1 : Int} (cv0 : cK 2 v0) (cv1 : cK 0 v1) {h : MM} (hf : f_X11_dig n v0 v1 h = some Z) : G g 0 [(2, v0), (0, v1), (3, 0)] [] h := by
  have cv1 : in32 v1 := cv1
  unfold f_X11_dig at hf
  refine r_iload_n C dX11_dig_0 rfl ?_
  refine r_i2l C dX11_dig_1 cv1 ?_
  refine r_iconst C dX11_dig_2 ?_
  refine r_bipush C dX11_dig_3 rfl ?_
  obtain ⟨r1, h1, hq1, hf⟩ := bd_s hf
  refine r_cS3 C (am_X11_within (gl g) n) cm_X11_within w_466 dX11_dig_5 ⟨Nat.le_of_ble_eq_true rfl, Nat.le_of_ble_eq_true rfl⟩ (in64_i cv1) (in32_of rfl) (in32_of rfl) rfl (Nat.le_of_ble_eq_true rfl) hq1 (by decide) (fun c1 => ?_)
  have c1 : in32 _ := c1
  refine r_if_eq C dX11_dig_8 (tgt := 26) (by decide) c1 (fun n2 => ?_) (fun n2 => ?_)
  · have hf := ite_p n2 hf
    exact G.mask [false, false, false] rfl rfl (b_X11_dig_26 C hr   hf)
  · have hf := ite_n n2 hf
    refine r_aload_n C dX11_dig_11 rfl ?_
    obtain ⟨q3, hf⟩ := gf_s hf
    refine r_gf C ct11 (j := 0) (ji := 0) dX11_dig_12 q3 rfl rfl (by decide) w_440 rfl (fun c3 => ?_)
    obtain ⟨q4, hf⟩ := gf_s hf
    refine r_gf C ct10 (j := 9) (ji := 9) dX11_dig_15 q4 rfl rfl (by decide) w_317 rfl (fun c4 => ?_)
    have c4 : in32 _ := c4
    refine r_iload_n C dX11_dig_18 rfl ?_
    refine r_iadd C dX11_dig_19 ?_
    refine r_sipush C dX11_dig_20 rfl ?_
    refine r_icmp_le C dX11_dig_23 (tgt := 29) (by decide) (in32_t _) (in32_of rfl) (fun n5 => ?_) (fun n5 => ?_)
    · have hf := ite_p n5 hf
      refine r_iconst C dX11_dig_29 ?_
      refine r_istore_n C dX11_dig_30 (Nat.le_of_ble_eq_true rfl) rfl ?_
      exact G.mask [true, true, true] rfl rfl (l_X11_dig_31 C hr  cv1 _ _ _ (in32_of rfl) hf)
    · have hf := ite_n n5 hf
      exact G.mask [false, false, false] rfl rfl (b_X11_dig_26 C hr   hf)
set_option maxRecDepth 20000 in
theorem am_X11_dig (l : Launch) (n : Nat) : AM l yX11_dig cX11_dig 3 (some .int) 6 138 [2, 0] 0 (un2 (f_X11_dig n)) := by
  refine AM.intro (by decide) (fun xs hx => ?_) (fun g xs h Z hl C hr hx hf => ?_)
  · obtain ⟨a0, a1, rfl, c0, c1⟩ := canL_2 hx
    exact Nat.le_of_ble_eq_true rfl
  · obtain ⟨a0, a1, rfl, c0, c1⟩ := canL_2 hx
    have hf := (un2_e _ a0 a1 _).symm.trans hf
    exact e_X11_dig (n := n) C hr c0 c1 hf
/-! LinesPromised.last(II)I -/
theorem dX11_last_0 : decode cX11_last 0 = .ok (.aload_n 0, 1) := by decide +kernel
theorem dX11_last_1 : decode cX11_last 1 = .ok (.getfield 10, 3) := by decide +kernel
theorem dX11_last_4 : decode cX11_last 4 = .ok (.getfield 133, 3) := by decide +kernel
theorem dX11_last_7 : decode cX11_last 7 = .ok (.iload_n 1, 1) := by decide +kernel
theorem dX11_last_8 : decode cX11_last 8 = .ok (.iconst 3, 1) := by decide +kernel
theorem dX11_last_9 : decode cX11_last 9 = .ok (.invokevirtual 172, 3) := by decide +kernel
theorem dX11_last_12 : decode cX11_last 12 = .ok (.ifnull 13, 3) := by decide +kernel
theorem dX11_last_15 : decode cX11_last 15 = .ok (.iload_n 2, 1) := by decide +kernel
theorem dX11_last_16 : decode cX11_last 16 = .ok (.i2l, 1) := by decide +kernel
theorem dX11_last_17 : decode cX11_last 17 = .ok (.iconst 0, 1) := by decide +kernel
theorem dX11_last_18 : decode cX11_last 18 = .ok (.iconst 1, 1) := by decide +kernel
theorem dX11_last_19 : decode cX11_last 19 = .ok (.invokestatic 46, 3) := by decide +kernel
theorem dX11_last_22 : decode cX11_last 22 = .ok (.ifCond .ne 5, 3) := by decide +kernel
theorem dX11_last_25 : decode cX11_last 25 = .ok (.iconst (-1), 1) := by decide +kernel
theorem dX11_last_26 : decode cX11_last 26 = .ok (.ireturn, 1) := by decide +kernel
theorem dX11_last_27 : decode cX11_last 27 = .ok (.aload_n 0, 1) := by decide +kernel
theorem dX11_last_28 : decode cX11_last 28 = .ok (.getfield 10, 3) := by decide +kernel
theorem dX11_last_31 : decode cX11_last 31 = .ok (.getfield 133, 3) := by decide +kernel
theorem dX11_last_34 : decode cX11_last 34 = .ok (.iload_n 1, 1) := by decide +kernel
theorem dX11_last_35 : decode cX11_last 35 = .ok (.invokevirtual 256, 3) := by decide +kernel
theorem dX11_last_38 : decode cX11_last 38 = .ok (.ifCond .ne 6, 3) := by decide +kernel
theorem dX11_last_41 : decode cX11_last 41 = .ok (.bipush (-3), 2) := by decide +kernel
theorem dX11_last_43 : decode cX11_last 43 = .ok (.ireturn, 1) := by decide +kernel
theorem dX11_last_44 : decode cX11_last 44 = .ok (.iload_n 2, 1) := by decide +kernel
theorem dX11_last_45 : decode cX11_last 45 = .ok (.ifCond .ne 18, 3) := by decide +kernel
theorem dX11_last_48 : decode cX11_last 48 = .ok (.aload_n 0, 1) := by decide +kernel
theorem dX11_last_49 : decode cX11_last 49 = .ok (.getfield 10, 3) := by decide +kernel
theorem dX11_last_52 : decode cX11_last 52 = .ok (.getfield 133, 3) := by decide +kernel
theorem dX11_last_55 : decode cX11_last 55 = .ok (.getfield 266, 3) := by decide +kernel
theorem dX11_last_58 : decode cX11_last 58 = .ok (.iload_n 1, 1) := by decide +kernel
theorem dX11_last_59 : decode cX11_last 59 = .ok (.iaload, 1) := by decide +kernel
theorem dX11_last_60 : decode cX11_last 60 = .ok (.goto 15, 3) := by decide +kernel
theorem dX11_last_63 : decode cX11_last 63 = .ok (.aload_n 0, 1) := by decide +kernel
theorem dX11_last_64 : decode cX11_last 64 = .ok (.getfield 10, 3) := by decide +kernel
theorem dX11_last_67 : decode cX11_last 67 = .ok (.getfield 133, 3) := by decide +kernel
theorem dX11_last_70 : decode cX11_last 70 = .ok (.getfield 367, 3) := by decide +kernel
theorem dX11_last_73 : decode cX11_last 73 = .ok (.iload_n 1, 1) := by decide +kernel
theorem dX11_last_74 : decode cX11_last 74 = .ok (.iaload, 1) := by decide +kernel
theorem dX11_last_75 : decode cX11_last 75 = .ok (.ireturn, 1) := by decide +kernel
theorem cm_X11_last : CM yX11_last cX11_last 3 (some .int) 2 11 := ⟨w_1255, w_1256, w_1257, w_87, ⟨by decide +kernel, by decide +kernel, by decide +kernel⟩, ⟨_, _, rfl⟩, by decide⟩
noncomputable def f_X11_last_25 (n : Nat)  (h : MM) : RR :=
  some ((-1), h)
noncomputable def f_X11_last_75 (n : Nat)  (s0 : Int) (h : MM) : RR :=
  some (s0, h)
noncomputable def f_X11_last (n : Nat) (v0 v1 v2 : Int) (h : MM) : RR :=
  gf h v0 11 0 fun r1 =>
  gf h r1 10 1 fun r2 =>
  gk h r2 5 <|
  bd (f_X5_find n r2 v1 3 h) fun r3 h3 =>
  if r3 = 0 then
    f_X11_last_25 n h3
  else
  bd (f_X11_within n v2 0 1 h3) fun r5 h5 =>
  if r5 = 0 then
    f_X11_last_25 n h5
  else
  gf h5 v0 11 0 fun r7 =>
  gf h5 r7 10 1 fun r8 =>
  gk h5 r8 5 <|
  bd (f_X5_isMarked n r8 v1 h5) fun r9 h9 =>
  if r9 = 0 then
    some ((-3), h9)
  else
  if v2 = 0 then
    gf h9 v0 11 0 fun r16 =>
    gf h9 r16 10 1 fun r17 =>
    gf h9 r17 5 2 fun r18 =>
    rd h9 r18 100 v1 fun r19 =>
    f_X11_last_75 n r19 h9
  else
  gf h9 v0 11 0 fun r12 =>
  gf h9 r12 10 1 fun r13 =>
  gf h9 r13 5 3 fun r14 =>
  rd h9 r14 100 v1 fun r15 =>
  f_X11_last_75 n r15 h9
set_option maxRecDepth 20000 in
theorem b_X11_last_25 {g : GT} {Z : Int × MM} {n : Nat} (C : Cx g cX11_last 3 yX11_last 3 67) (hr : Rt g (some .int) 0 Z)     {h : MM} (hf : f_X11_last_25 n   h = some Z) : G g 25 [(3, 0), (3, 0), (3, 0)] [] h := by
  unfold f_X11_last_25 at hf
  refine r_iconst C dX11_last_25 ?_
  cases hf
  exact r_jret C hr dX11_last_26 (in32_of rfl)
set_option maxRecDepth 20000 in
theorem b_X11_last_75 {g : GT} {Z : Int × MM} {n : Nat} (C : Cx g cX11_last 3 yX11_last 3 67) (hr : Rt g (some .int) 0 Z) {s0 : Int}    (cs0 : in32 s0) {h : MM} (hf : f_X11_last_75 n  s0 h = some Z) : G g 75 [(3, 0), (3, 0), (3, 0)] [(0, s0)] h := by
  unfold f_X11_last_75 at hf
  cases hf
  exact r_jret C hr dX11_last_75 cs0
set_option maxRecDepth 20000 in
theorem e_X11_last {g : GT} {Z : Int × MM} {n : Nat} (C : Cx g cX11_last 3 yX11_last 3 67) (hr : Rt g (some .int) 0 Z) {v0 v1 v2 : Int} (cv0 : cK 2 v0) (cv1 : cK 0 v1) (cv2 : cK 0 v2) {h : MM} (hf : f_X11_last n v0 v1 v2 h = some Z) : G g 0 [(2, v0), (0, v1), (0, v2)] [] h := by
  have cv1 : in32 v1 := cv1
  have cv2 : in32 v2 := cv2
  unfold f_X11_last at hf
  refine r_aload_n C dX11_last_0 rfl ?_
  obtain ⟨q1, hf⟩ := gf_s hf
  refine r_gf C ct11 (j := 0) (ji := 0) dX11_last_1 q1 rfl rfl (by decide) w_440 rfl (fun c1 => ?_)
  obtain ⟨q2, hf⟩ := gf_s hf
  refine r_gf C ct10 (j := 1) (ji := 1) dX11_last_4 q2 rfl rfl (by decide) w_302 rfl (fun c2 => ?_)
  refine r_iload_n C dX11_last_7 rfl ?_
  refine r_iconst C dX11_last_8 ?_
  obtain ⟨p3, hf⟩ := gk_s hf
  obtain ⟨r3, h3, hq3, hf⟩ := bd_s hf
  refine r_cV2 C (am_X5_find (gl g) n) cm_X5_find w_798 dX11_last_9 ⟨Nat.le_of_ble_eq_true rfl, Nat.le_of_ble_eq_true rfl⟩ p3 rfl cv1 (in32_of rfl) rfl (Nat.le_of_ble_eq_true rfl) hq3 (by decide) (fun c3 => ?_)
  refine r_ifnull C dX11_last_12 (tgt := 25) (by decide) (fun n4 => ?_) (fun n4 => ?_)
  · have hf := ite_p n4 hf
    exact G.mask [false, false, false] rfl rfl (b_X11_last_25 C hr   hf)
  · have hf := ite_n n4 hf
    refine r_iload_n C dX11_last_15 rfl ?_
    refine r_i2l C dX11_last_16 cv2 ?_
    refine r_iconst C dX11_last_17 ?_
    refine r_iconst C dX11_last_18 ?_
    obtain ⟨r5, h5, hq5, hf⟩ := bd_s hf
    refine r_cS3 C (am_X11_within (gl g) n) cm_X11_within w_466 dX11_last_19 ⟨Nat.le_of_ble_eq_true rfl, Nat.le_of_ble_eq_true rfl⟩ (in64_i cv2) (in32_of rfl) (in32_of rfl) rfl (Nat.le_of_ble_eq_true rfl) hq5 (by decide) (fun c5 => ?_)
    have c5 : in32 _ := c5
    refine r_if_ne C dX11_last_22 (tgt := 27) (by decide) c5 (fun n6 => ?_) (fun n6 => ?_)
    · have hf := ite_n n6 hf
      refine r_aload_n C dX11_last_27 rfl ?_
      obtain ⟨q7, hf⟩ := gf_s hf
      refine r_gf C ct11 (j := 0) (ji := 0) dX11_last_28 q7 rfl rfl (by decide) w_440 rfl (fun c7 => ?_)
      obtain ⟨q8, hf⟩ := gf_s hf
      refine r_gf C ct10 (j := 1) (ji := 1) dX11_last_31 q8 rfl rfl (by decide) w_302 rfl (fun c8 => ?_)
      refine r_iload_n C dX11_last_34 rfl ?_
      obtain ⟨p9, hf⟩ := gk_s hf
      obtain ⟨r9, h9, hq9, hf⟩ := bd_s hf
      refine r_cV1 C (am_X5_isMarked (gl g) n) cm_X5_isMarked w_993 dX11_last_35 ⟨Nat.le_of_ble_eq_true rfl, Nat.le_of_ble_eq_true rfl⟩ p9 rfl cv1 rfl (Nat.le_of_ble_eq_true rfl) hq9 (by decide) (fun c9 => ?_)
      have c9 : in32 _ := c9
      refine r_if_ne C dX11_last_38 (tgt := 44) (by decide) c9 (fun n10 => ?_) (fun n10 => ?_)
      · have hf := ite_n n10 hf
        refine r_iload_n C dX11_last_44 rfl ?_
        refine r_if_ne C dX11_last_45 (tgt := 63) (by decide) cv2 (fun n11 => ?_) (fun n11 => ?_)
        · have hf := ite_n n11 hf
          refine r_aload_n C dX11_last_63 rfl ?_
          obtain ⟨q12, hf⟩ := gf_s hf
          refine r_gf C ct11 (j := 0) (ji := 0) dX11_last_64 q12 rfl rfl (by decide) w_440 rfl (fun c12 => ?_)
          obtain ⟨q13, hf⟩ := gf_s hf
          refine r_gf C ct10 (j := 1) (ji := 1) dX11_last_67 q13 rfl rfl (by decide) w_302 rfl (fun c13 => ?_)
          obtain ⟨q14, hf⟩ := gf_s hf
          refine r_gf C ct5 (j := 3) (ji := 3) dX11_last_70 q14 rfl rfl (by decide) w_173 rfl (fun c14 => ?_)
          refine r_iload_n C dX11_last_73 rfl ?_
          obtain ⟨q15, hf⟩ := rd_s hf
          refine r_iald C dX11_last_74 q15 rfl (fun c15 => ?_)
          exact G.mask [false, false, false] rfl rfl (b_X11_last_75 C hr  c15 hf)
        · have hf := ite_p n11 hf
          refine r_aload_n C dX11_last_48 rfl ?_
          obtain ⟨q16, hf⟩ := gf_s hf
          refine r_gf C ct11 (j := 0) (ji := 0) dX11_last_49 q16 rfl rfl (by decide) w_440 rfl (fun c16 => ?_)
          obtain ⟨q17, hf⟩ := gf_s hf
          refine r_gf C ct10 (j := 1) (ji := 1) dX11_last_52 q17 rfl rfl (by decide) w_302 rfl (fun c17 => ?_)
          obtain ⟨q18, hf⟩ := gf_s hf
          refine r_gf C ct5 (j := 2) (ji := 2) dX11_last_55 q18 rfl rfl (by decide) w_170 rfl (fun c18 => ?_)
          refine r_iload_n C dX11_last_58 rfl ?_
          obtain ⟨q19, hf⟩ := rd_s hf
          refine r_iald C dX11_last_59 q19 rfl (fun c19 => ?_)
          refine r_goto C dX11_last_60 (tgt := 75) (by decide) ?_
          exact G.mask [false, false, false] rfl rfl (b_X11_last_75 C hr  c19 hf)
      · have hf := ite_p n10 hf
        refine r_bipush C dX11_last_41 rfl ?_
        cases hf
        exact r_jret C hr dX11_last_43 (in32_of rfl)
    · have hf := ite_p n6 hf
      exact G.mask [false, false, false] rfl rfl (b_X11_last_25 C hr   hf)
set_option maxRecDepth 20000 in
theorem am_X11_last (l : Launch) (n : Nat) : AM l yX11_last cX11_last 3 (some .int) 3 67 [2, 0, 0] 0 (un3 (f_X11_last n)) := by
  refine AM.intro (by decide) (fun xs hx => ?_) (fun g xs h Z hl C hr hx hf => ?_)
  · obtain ⟨a0, a1, a2, rfl, c0, c1, c2⟩ := canL_3 hx
    exact Nat.le_of_ble_eq_true rfl
  · obtain ⟨a0, a1, a2, rfl, c0, c1, c2⟩ := canL_3 hx
    have hf := (un3_e _ a0 a1 a2 _).symm.trans hf
    exact e_X11_last (n := n) C hr c0 c1 c2 hf
/-! LinesPromised$Papers.townsOfBothGauges()I -/
theorem dX5_townsOfBothGauges_0 : decode cX5_townsOfBothGauges 0 = .ok (.iconst 0, 1) := by decide +kernel
theorem dX5_townsOfBothGauges_1 : decode cX5_townsOfBothGauges 1 = .ok (.istore_n 1, 1) := by decide +kernel
theorem dX5_townsOfBothGauges_2 : decode cX5_townsOfBothGauges 2 = .ok (.iconst 0, 1) := by decide +kernel
theorem dX5_townsOfBothGauges_3 : decode cX5_townsOfBothGauges 3 = .ok (.istore_n 2, 1) := by decide +kernel
theorem dX5_townsOfBothGauges_4 : decode cX5_townsOfBothGauges 4 = .ok (.iconst 0, 1) := by decide +kernel
theorem dX5_townsOfBothGauges_5 : decode cX5_townsOfBothGauges 5 = .ok (.istore_n 3, 1) := by decide +kernel
theorem dX5_townsOfBothGauges_6 : decode cX5_townsOfBothGauges 6 = .ok (.iload_n 3, 1) := by decide +kernel
theorem dX5_townsOfBothGauges_7 : decode cX5_townsOfBothGauges 7 = .ok (.aload_n 0, 1) := by decide +kernel
theorem dX5_townsOfBothGauges_8 : decode cX5_townsOfBothGauges 8 = .ok (.getfield 44, 3) := by decide +kernel
theorem dX5_townsOfBothGauges_11 : decode cX5_townsOfBothGauges 11 = .ok (.if_icmp .ge 74, 3) := by decide +kernel
theorem dX5_townsOfBothGauges_14 : decode cX5_townsOfBothGauges 14 = .ok (.aload_n 0, 1) := by decide +kernel
theorem dX5_townsOfBothGauges_15 : decode cX5_townsOfBothGauges 15 = .ok (.iload_n 3, 1) := by decide +kernel
theorem dX5_townsOfBothGauges_16 : decode cX5_townsOfBothGauges 16 = .ok (.iconst 3, 1) := by decide +kernel
theorem dX5_townsOfBothGauges_17 : decode cX5_townsOfBothGauges 17 = .ok (.invokevirtual 73, 3) := by decide +kernel
theorem dX5_townsOfBothGauges_20 : decode cX5_townsOfBothGauges 20 = .ok (.astore 4, 2) := by decide +kernel
theorem dX5_townsOfBothGauges_22 : decode cX5_townsOfBothGauges 22 = .ok (.aload 4, 2) := by decide +kernel
theorem dX5_townsOfBothGauges_24 : decode cX5_townsOfBothGauges 24 = .ok (.ifnull 55, 3) := by decide +kernel
theorem dX5_townsOfBothGauges_27 : decode cX5_townsOfBothGauges 27 = .ok (.aload_n 0, 1) := by decide +kernel
theorem dX5_townsOfBothGauges_28 : decode cX5_townsOfBothGauges 28 = .ok (.getfield 25, 3) := by decide +kernel
theorem dX5_townsOfBothGauges_31 : decode cX5_townsOfBothGauges 31 = .ok (.iload_n 3, 1) := by decide +kernel
theorem dX5_townsOfBothGauges_32 : decode cX5_townsOfBothGauges 32 = .ok (.iaload, 1) := by decide +kernel
theorem dX5_townsOfBothGauges_33 : decode cX5_townsOfBothGauges 33 = .ok (.bipush (-5), 2) := by decide +kernel
theorem dX5_townsOfBothGauges_35 : decode cX5_townsOfBothGauges 35 = .ok (.if_icmp .ne 6, 3) := by decide +kernel
theorem dX5_townsOfBothGauges_38 : decode cX5_townsOfBothGauges 38 = .ok (.goto 41, 3) := by decide +kernel
theorem dX5_townsOfBothGauges_41 : decode cX5_townsOfBothGauges 41 = .ok (.iconst 1, 1) := by decide +kernel
theorem dX5_townsOfBothGauges_42 : decode cX5_townsOfBothGauges 42 = .ok (.aload 4, 2) := by decide +kernel
theorem dX5_townsOfBothGauges_44 : decode cX5_townsOfBothGauges 44 = .ok (.getfield 103, 3) := by decide +kernel
theorem dX5_townsOfBothGauges_47 : decode cX5_townsOfBothGauges 47 = .ok (.ishl, 1) := by decide +kernel
theorem dX5_townsOfBothGauges_48 : decode cX5_townsOfBothGauges 48 = .ok (.iconst 1, 1) := by decide +kernel
theorem dX5_townsOfBothGauges_49 : decode cX5_townsOfBothGauges 49 = .ok (.aload 4, 2) := by decide +kernel
theorem dX5_townsOfBothGauges_51 : decode cX5_townsOfBothGauges 51 = .ok (.getfield 106, 3) := by decide +kernel
theorem dX5_townsOfBothGauges_54 : decode cX5_townsOfBothGauges 54 = .ok (.ishl, 1) := by decide +kernel
theorem dX5_townsOfBothGauges_55 : decode cX5_townsOfBothGauges 55 = .ok (.ior, 1) := by decide +kernel
theorem dX5_townsOfBothGauges_56 : decode cX5_townsOfBothGauges 56 = .ok (.istore 5, 2) := by decide +kernel
theorem dX5_townsOfBothGauges_58 : decode cX5_townsOfBothGauges 58 = .ok (.aload 4, 2) := by decide +kernel
theorem dX5_townsOfBothGauges_60 : decode cX5_townsOfBothGauges 60 = .ok (.getfield 109, 3) := by decide +kernel
theorem dX5_townsOfBothGauges_63 : decode cX5_townsOfBothGauges 63 = .ok (.ifCond .ne 11, 3) := by decide +kernel
theorem dX5_townsOfBothGauges_66 : decode cX5_townsOfBothGauges 66 = .ok (.iload_n 1, 1) := by decide +kernel
theorem dX5_townsOfBothGauges_67 : decode cX5_townsOfBothGauges 67 = .ok (.iload 5, 2) := by decide +kernel
theorem dX5_townsOfBothGauges_69 : decode cX5_townsOfBothGauges 69 = .ok (.ior, 1) := by decide +kernel
theorem dX5_townsOfBothGauges_70 : decode cX5_townsOfBothGauges 70 = .ok (.istore_n 1, 1) := by decide +kernel
theorem dX5_townsOfBothGauges_71 : decode cX5_townsOfBothGauges 71 = .ok (.goto 8, 3) := by decide +kernel
theorem dX5_townsOfBothGauges_74 : decode cX5_townsOfBothGauges 74 = .ok (.iload_n 2, 1) := by decide +kernel
theorem dX5_townsOfBothGauges_75 : decode cX5_townsOfBothGauges 75 = .ok (.iload 5, 2) := by decide +kernel
theorem dX5_townsOfBothGauges_77 : decode cX5_townsOfBothGauges 77 = .ok (.ior, 1) := by decide +kernel
theorem dX5_townsOfBothGauges_78 : decode cX5_townsOfBothGauges 78 = .ok (.istore_n 2, 1) := by decide +kernel
theorem dX5_townsOfBothGauges_79 : decode cX5_townsOfBothGauges 79 = .ok (.iinc 3 1, 3) := by decide +kernel
theorem dX5_townsOfBothGauges_82 : decode cX5_townsOfBothGauges 82 = .ok (.goto (-76), 3) := by decide +kernel
theorem dX5_townsOfBothGauges_85 : decode cX5_townsOfBothGauges 85 = .ok (.iload_n 1, 1) := by decide +kernel
theorem dX5_townsOfBothGauges_86 : decode cX5_townsOfBothGauges 86 = .ok (.iload_n 2, 1) := by decide +kernel
theorem dX5_townsOfBothGauges_87 : decode cX5_townsOfBothGauges 87 = .ok (.iand, 1) := by decide +kernel
theorem dX5_townsOfBothGauges_88 : decode cX5_townsOfBothGauges 88 = .ok (.ireturn, 1) := by decide +kernel
theorem cm_X5_townsOfBothGauges : CM yX5_townsOfBothGauges cX5_townsOfBothGauges 6 (some .int) 0 5 := ⟨w_1263, w_1264, w_1265, w_90, ⟨by decide +kernel, by decide +kernel, by decide +kernel⟩, ⟨_, _, rfl⟩, by decide⟩
noncomputable def f_X5_townsOfBothGauges_79 (n : Nat) (rec6 : Int → Int → Int → MM → RR) (v0 v1 v2 v3 : Int) (h : MM) : RR :=
  lb (wr (v3 + 1)) fun x1 =>
  rec6 v1 v2 x1 h
noncomputable def f_X5_townsOfBothGauges_6b (n : Nat) (rec6 : Int → Int → Int → MM → RR) (v0 v1 v2 v3 : Int) (h : MM) : RR :=
  gf h v0 5 7 fun r1 =>
  if r1 ≤ v3 then
    some (ban v1 v2, h)
  else
  gk h v0 5 <|
  bd (f_X5_find n v0 v3 3 h) fun r3 h3 =>
  if r3 = 0 then
    f_X5_townsOfBothGauges_79 n rec6 v0 v1 v2 v3 h3
  else
  gf h3 v0 5 3 fun r5 =>
  rd h3 r5 100 v3 fun r6 =>
  if r6 = (-5) then
    f_X5_townsOfBothGauges_79 n rec6 v0 v1 v2 v3 h3
  else
  gf h3 r3 4 5 fun r8 =>
  gf h3 r3 4 6 fun r9 =>
  lb (bor (shl 1 r8) (shl 1 r9)) fun x10 =>
  gf h3 r3 4 7 fun r11 =>
  if r11 = 0 then
    lb (bor v1 x10) fun x14 =>
    f_X5_townsOfBothGauges_79 n rec6 v0 x14 v2 v3 h3
  else
  lb (bor v2 x10) fun x13 =>
  f_X5_townsOfBothGauges_79 n rec6 v0 v1 x13 v3 h3
noncomputable def f_X5_townsOfBothGauges_6 (n : Nat)  (v0 : Int) : Nat → Int → Int → Int → MM → RR
  | 0, _, _, _, _ => none
  | k + 1, v1, v2, v3, h => f_X5_townsOfBothGauges_6b n  (f_X5_townsOfBothGauges_6 n  v0 k) v0 v1 v2 v3 h
noncomputable def f_X5_townsOfBothGauges (n : Nat) (v0 : Int) (h : MM) : RR :=
  f_X5_townsOfBothGauges_6 n v0 n 0 0 0 h
set_option maxRecDepth 20000 in
theorem b_X5_townsOfBothGauges_79 {g : GT} {Z : Int × MM} {n : Nat} (C : Cx g cX5_townsOfBothGauges 6 yX5_townsOfBothGauges 3 67) (hr : Rt g (some .int) 0 Z) {v0 v1 v2 v3 : Int}  {rec6 : Int → Int → Int → MM → RR} (L6 : ∀ (u1 u2 u3 : Int) (h : MM), in32 u1 → in32 u2 → in32 u3 → rec6 u1 u2 u3 h = some Z → G g 6 [(2, v0), (0, u1), (0, u2), (0, u3), (3, 0), (3, 0)] [] h) (cv1 : in32 v1) (cv2 : in32 v2) (cv3 : in32 v3) {h : MM} (hf : f_X5_townsOfBothGauges_79 n rec6 v0 v1 v2 v3 h = some Z) : G g 79 [(2, v0), (0, v1), (0, v2), (0, v3), (3, 0), (3, 0)] [] h := by
  unfold f_X5_townsOfBothGauges_79 at hf
  obtain ⟨x1, e1, hf⟩ := lb_s hf
  have c1 : in32 x1 := by rw [e1]; exact (in32_t _)
  refine r_iincL C dX5_townsOfBothGauges_79 rfl e1 (Nat.le_of_ble_eq_true rfl) rfl ?_
  refine r_goto C dX5_townsOfBothGauges_82 (tgt := 6) (by decide) ?_
  exact G.mask [true, true, true, true, false, false] rfl rfl (L6 _ _ _ _ cv1 cv2 c1 hf)
set_option maxRecDepth 20000 in
theorem b_X5_townsOfBothGauges_6b {g : GT} {Z : Int × MM} {n : Nat} (C : Cx g cX5_townsOfBothGauges 6 yX5_townsOfBothGauges 3 67) (hr : Rt g (some .int) 0 Z) {v0 v1 v2 v3 : Int}  {rec6 : Int → Int → Int → MM → RR} (L6 : ∀ (u1 u2 u3 : Int) (h : MM), in32 u1 → in32 u2 → in32 u3 → rec6 u1 u2 u3 h = some Z → G g 6 [(2, v0), (0, u1), (0, u2), (0, u3), (3, 0), (3, 0)] [] h) (cv1 : in32 v1) (cv2 : in32 v2) (cv3 : in32 v3) {h : MM} (hf : f_X5_townsOfBothGauges_6b n rec6 v0 v1 v2 v3 h = some Z) : G g 6 [(2, v0), (0, v1), (0, v2), (0, v3), (3, 0), (3, 0)] [] h := by
  unfold f_X5_townsOfBothGauges_6b at hf
  refine r_iload_n C dX5_townsOfBothGauges_6 rfl ?_
  refine r_aload_n C dX5_townsOfBothGauges_7 rfl ?_
  obtain ⟨q1, hf⟩ := gf_s hf
  refine r_gf C ct5 (j := 7) (ji := 7) dX5_townsOfBothGauges_8 q1 rfl rfl (by decide) w_177 rfl (fun c1 => ?_)
  have c1 : in32 _ := c1
  refine r_icmp_ge C dX5_townsOfBothGauges_11 (tgt := 85) (by decide) cv3 c1 (fun n2 => ?_) (fun n2 => ?_)
  · have hf := ite_p n2 hf
    refine r_iload_n C dX5_townsOfBothGauges_85 rfl ?_
    refine r_iload_n C dX5_townsOfBothGauges_86 rfl ?_
    refine r_iand C dX5_townsOfBothGauges_87 ?_
    cases hf
    exact r_jret C hr dX5_townsOfBothGauges_88 (in32_t _)
  · have hf := ite_n n2 hf
    refine r_aload_n C dX5_townsOfBothGauges_14 rfl ?_
    refine r_iload_n C dX5_townsOfBothGauges_15 rfl ?_
    refine r_iconst C dX5_townsOfBothGauges_16 ?_
    obtain ⟨p3, hf⟩ := gk_s hf
    obtain ⟨r3, h3, hq3, hf⟩ := bd_s hf
    refine r_cV2 C (am_X5_find (gl g) n) cm_X5_find w_949 dX5_townsOfBothGauges_17 ⟨Nat.le_of_ble_eq_true rfl, Nat.le_of_ble_eq_true rfl⟩ p3 rfl cv3 (in32_of rfl) rfl (Nat.le_of_ble_eq_true rfl) hq3 (by decide) (fun c3 => ?_)
    refine r_astore C dX5_townsOfBothGauges_20 (Nat.le_of_ble_eq_true rfl) rfl ?_
    refine r_aload C dX5_townsOfBothGauges_22 rfl ?_
    refine r_ifnull C dX5_townsOfBothGauges_24 (tgt := 79) (by decide) (fun n4 => ?_) (fun n4 => ?_)
    · have hf := ite_p n4 hf
      exact G.mask [true, true, true, true, false, false] rfl rfl (b_X5_townsOfBothGauges_79 C hr L6 cv1 cv2 cv3 hf)
    · have hf := ite_n n4 hf
      refine r_aload_n C dX5_townsOfBothGauges_27 rfl ?_
      obtain ⟨q5, hf⟩ := gf_s hf
      refine r_gf C ct5 (j := 3) (ji := 3) dX5_townsOfBothGauges_28 q5 rfl rfl (by decide) w_171 rfl (fun c5 => ?_)
      refine r_iload_n C dX5_townsOfBothGauges_31 rfl ?_
      obtain ⟨q6, hf⟩ := rd_s hf
      refine r_iald C dX5_townsOfBothGauges_32 q6 rfl (fun c6 => ?_)
      refine r_bipush C dX5_townsOfBothGauges_33 rfl ?_
      refine r_icmp_ne C dX5_townsOfBothGauges_35 (tgt := 41) (by decide) c6 (in32_of rfl) (fun n7 => ?_) (fun n7 => ?_)
      · have hf := ite_n n7 hf
        refine r_iconst C dX5_townsOfBothGauges_41 ?_
        refine r_aload C dX5_townsOfBothGauges_42 rfl ?_
        obtain ⟨q8, hf⟩ := gf_s hf
        refine r_gf C ct4 (j := 5) (ji := 5) dX5_townsOfBothGauges_44 q8 rfl rfl (by decide) w_735 rfl (fun c8 => ?_)
        have c8 : in32 _ := c8
        refine r_ishl C dX5_townsOfBothGauges_47 ?_
        refine r_iconst C dX5_townsOfBothGauges_48 ?_
        refine r_aload C dX5_townsOfBothGauges_49 rfl ?_
        obtain ⟨q9, hf⟩ := gf_s hf
        refine r_gf C ct4 (j := 6) (ji := 6) dX5_townsOfBothGauges_51 q9 rfl rfl (by decide) w_740 rfl (fun c9 => ?_)
        have c9 : in32 _ := c9
        refine r_ishl C dX5_townsOfBothGauges_54 ?_
        refine r_ior C dX5_townsOfBothGauges_55 ?_
        obtain ⟨x10, e10, hf⟩ := lb_s hf
        have c10 : in32 x10 := by rw [e10]; exact (in32_t _)
        refine r_istoreL C dX5_townsOfBothGauges_56 e10 (Nat.le_of_ble_eq_true rfl) rfl ?_
        refine r_aload C dX5_townsOfBothGauges_58 rfl ?_
        obtain ⟨q11, hf⟩ := gf_s hf
        refine r_gf C ct4 (j := 7) (ji := 7) dX5_townsOfBothGauges_60 q11 rfl rfl (by decide) w_745 rfl (fun c11 => ?_)
        have c11 : in32 _ := c11
        refine r_if_ne C dX5_townsOfBothGauges_63 (tgt := 74) (by decide) c11 (fun n12 => ?_) (fun n12 => ?_)
        · have hf := ite_n n12 hf
          refine r_iload_n C dX5_townsOfBothGauges_74 rfl ?_
          refine r_iload C dX5_townsOfBothGauges_75 rfl ?_
          refine r_ior C dX5_townsOfBothGauges_77 ?_
          obtain ⟨x13, e13, hf⟩ := lb_s hf
          have c13 : in32 x13 := by rw [e13]; exact (in32_t _)
          refine r_istore_nL C dX5_townsOfBothGauges_78 e13 (Nat.le_of_ble_eq_true rfl) rfl ?_
          exact G.mask [true, true, true, true, false, false] rfl rfl (b_X5_townsOfBothGauges_79 C hr L6 cv1 c13 cv3 hf)
        · have hf := ite_p n12 hf
          refine r_iload_n C dX5_townsOfBothGauges_66 rfl ?_
          refine r_iload C dX5_townsOfBothGauges_67 rfl ?_
          refine r_ior C dX5_townsOfBothGauges_69 ?_
          obtain ⟨x14, e14, hf⟩ := lb_s hf
          have c14 : in32 x14 := by rw [e14]; exact (in32_t _)
          refine r_istore_nL C dX5_townsOfBothGauges_70 e14 (Nat.le_of_ble_eq_true rfl) rfl ?_
          refine r_goto C dX5_townsOfBothGauges_71 (tgt := 79) (by decide) ?_
          exact G.mask [true, true, true, true, false, false] rfl rfl (b_X5_townsOfBothGauges_79 C hr L6 c14 cv2 cv3 hf)
      · have hf := ite_p n7 hf
        refine r_goto C dX5_townsOfBothGauges_38 (tgt := 79) (by decide) ?_
        exact G.mask [true, true, true, true, false, false] rfl rfl (b_X5_townsOfBothGauges_79 C hr L6 cv1 cv2 cv3 hf)
set_option maxRecDepth 20000 in
theorem l_X5_townsOfBothGauges_6 {g : GT} {Z : Int × MM} {n : Nat} (C : Cx g cX5_townsOfBothGauges 6 yX5_townsOfBothGauges 3 67) (hr : Rt g (some .int) 0 Z) {v0 : Int}    : ∀ (k : Nat) (v1 v2 v3 : Int) (h : MM), in32 v1 → in32 v2 → in32 v3 → f_X5_townsOfBothGauges_6 n  v0 k v1 v2 v3 h = some Z → G g 6 [(2, v0), (0, v1), (0, v2), (0, v3), (3, 0), (3, 0)] [] h := by
  intro k
  induction k with
  | zero => intro v1 v2 v3 h cv1 cv2 cv3 hf; exact absurd hf (by intro z; cases z)
  | succ k ih => intro v1 v2 v3 h cv1 cv2 cv3 hf; exact b_X5_townsOfBothGauges_6b C hr (rec6 := f_X5_townsOfBothGauges_6 n  v0 k)  ih cv1 cv2 cv3 (show f_X5_townsOfBothGauges_6b n  (f_X5_townsOfBothGauges_6 n  v0 k) v0 v1 v2 v3 h = some Z from hf)
set_option maxRecDepth 20000 in
theorem e_X5_townsOfBothGauges {g : GT} {Z : Int × MM} {n : Nat} (C : Cx g cX5_townsOfBothGauges 6 yX5_townsOfBothGauges 3 67) (hr : Rt g (some .int) 0 Z) {v0 : Int} (cv0 : cK 2 v0) {h : MM} (hf : f_X5_townsOfBothGauges n v0 h = some Z) : G g 0 [(2, v0), (3, 0), (3, 0), (3, 0), (3, 0), (3, 0)] [] h := by
  unfold f_X5_townsOfBothGauges at hf
  refine r_iconst C dX5_townsOfBothGauges_0 ?_
  refine r_istore_n C dX5_townsOfBothGauges_1 (Nat.le_of_ble_eq_true rfl) rfl ?_
  refine r_iconst C dX5_townsOfBothGauges_2 ?_
  refine r_istore_n C dX5_townsOfBothGauges_3 (Nat.le_of_ble_eq_true rfl) rfl ?_
  refine r_iconst C dX5_townsOfBothGauges_4 ?_
  refine r_istore_n C dX5_townsOfBothGauges_5 (Nat.le_of_ble_eq_true rfl) rfl ?_
  exact G.mask [true, true, true, true, false, false] rfl rfl (l_X5_townsOfBothGauges_6 C hr   _ _ _ _ _ (in32_of rfl) (in32_of rfl) (in32_of rfl) hf)
set_option maxRecDepth 20000 in
theorem am_X5_townsOfBothGauges (l : Launch) (n : Nat) : AM l yX5_townsOfBothGauges cX5_townsOfBothGauges 6 (some .int) 3 67 [2] 0 (un1 (f_X5_townsOfBothGauges n)) := by
  refine AM.intro (by decide) (fun xs hx => ?_) (fun g xs h Z hl C hr hx hf => ?_)
  · obtain ⟨a0, rfl, c0⟩ := canL_1 hx
    exact Nat.le_of_ble_eq_true rfl
  · obtain ⟨a0, rfl, c0⟩ := canL_1 hx
    have hf := (un1_e _ a0 _).symm.trans hf
    exact e_X5_townsOfBothGauges (n := n) C hr c0 hf
/-! LinesPromised.meet()I -/
theorem dX11_meet_0 : decode cX11_meet 0 = .ok (.aload_n 0, 1) := by decide +kernel
theorem dX11_meet_1 : decode cX11_meet 1 = .ok (.getfield 10, 3) := by decide +kernel
theorem dX11_meet_4 : decode cX11_meet 4 = .ok (.getfield 133, 3) := by decide +kernel
theorem dX11_meet_7 : decode cX11_meet 7 = .ok (.invokevirtual 370, 3) := by decide +kernel
theorem dX11_meet_10 : decode cX11_meet 10 = .ok (.ireturn, 1) := by decide +kernel
theorem cm_X11_meet : CM yX11_meet cX11_meet 1 (some .int) 0 11 := ⟨w_1259, w_1260, w_1261, w_87, ⟨by decide +kernel, by decide +kernel, by decide +kernel⟩, ⟨_, _, rfl⟩, by decide⟩
noncomputable def f_X11_meet (n : Nat) (v0 : Int) (h : MM) : RR :=
  gf h v0 11 0 fun r1 =>
  gf h r1 10 1 fun r2 =>
  gk h r2 5 <|
  bd (f_X5_townsOfBothGauges n r2 h) fun r3 h3 =>
  some (r3, h3)
set_option maxRecDepth 20000 in
theorem e_X11_meet {g : GT} {Z : Int × MM} {n : Nat} (C : Cx g cX11_meet 1 yX11_meet 4 92) (hr : Rt g (some .int) 0 Z) {v0 : Int} (cv0 : cK 2 v0) {h : MM} (hf : f_X11_meet n v0 h = some Z) : G g 0 [(2, v0)] [] h := by
  unfold f_X11_meet at hf
  refine r_aload_n C dX11_meet_0 rfl ?_
  obtain ⟨q1, hf⟩ := gf_s hf
  refine r_gf C ct11 (j := 0) (ji := 0) dX11_meet_1 q1 rfl rfl (by decide) w_440 rfl (fun c1 => ?_)
  obtain ⟨q2, hf⟩ := gf_s hf
  refine r_gf C ct10 (j := 1) (ji := 1) dX11_meet_4 q2 rfl rfl (by decide) w_302 rfl (fun c2 => ?_)
  obtain ⟨p3, hf⟩ := gk_s hf
  obtain ⟨r3, h3, hq3, hf⟩ := bd_s hf
  refine r_cV0 C (am_X5_townsOfBothGauges (gl g) n) cm_X5_townsOfBothGauges w_1262 dX11_meet_7 ⟨Nat.le_of_ble_eq_true rfl, Nat.le_of_ble_eq_true rfl⟩ p3 rfl  rfl (Nat.le_of_ble_eq_true rfl) hq3 (by decide) (fun c3 => ?_)
  have c3 : in32 _ := c3
  cases hf
  exact r_jret C hr dX11_meet_10 c3
set_option maxRecDepth 20000 in
theorem am_X11_meet (l : Launch) (n : Nat) : AM l yX11_meet cX11_meet 1 (some .int) 4 92 [2] 0 (un1 (f_X11_meet n)) := by
  refine AM.intro (by decide) (fun xs hx => ?_) (fun g xs h Z hl C hr hx hf => ?_)
  · obtain ⟨a0, rfl, c0⟩ := canL_1 hx
    exact Nat.le_of_ble_eq_true rfl
  · obtain ⟨a0, rfl, c0⟩ := canL_1 hx
    have hf := (un1_e _ a0 _).symm.trans hf
    exact e_X11_meet (n := n) C hr c0 hf
/-! LinesPromised.areTowns(I)Z -/
theorem dX11_areTowns_0 : decode cX11_areTowns 0 = .ok (.iload_n 1, 1) := by decide +kernel
theorem dX11_areTowns_1 : decode cX11_areTowns 1 = .ok (.i2l, 1) := by decide +kernel
theorem dX11_areTowns_2 : decode cX11_areTowns 2 = .ok (.iconst 0, 1) := by decide +kernel
theorem dX11_areTowns_3 : decode cX11_areTowns 3 = .ok (.iconst 1, 1) := by decide +kernel
theorem dX11_areTowns_4 : decode cX11_areTowns 4 = .ok (.aload_n 0, 1) := by decide +kernel
theorem dX11_areTowns_5 : decode cX11_areTowns 5 = .ok (.getfield 10, 3) := by decide +kernel
theorem dX11_areTowns_8 : decode cX11_areTowns 8 = .ok (.getfield 50, 3) := by decide +kernel
theorem dX11_areTowns_11 : decode cX11_areTowns 11 = .ok (.getfield 66, 3) := by decide +kernel
theorem dX11_areTowns_14 : decode cX11_areTowns 14 = .ok (.ishl, 1) := by decide +kernel
theorem dX11_areTowns_15 : decode cX11_areTowns 15 = .ok (.iconst 1, 1) := by decide +kernel
theorem dX11_areTowns_16 : decode cX11_areTowns 16 = .ok (.isub, 1) := by decide +kernel
theorem dX11_areTowns_17 : decode cX11_areTowns 17 = .ok (.invokestatic 46, 3) := by decide +kernel
theorem dX11_areTowns_20 : decode cX11_areTowns 20 = .ok (.ireturn, 1) := by decide +kernel
theorem cm_X11_areTowns : CM yX11_areTowns cX11_areTowns 2 (some .boolean) 1 11 := ⟨w_1272, w_34, w_1273, w_87, ⟨by decide +kernel, by decide +kernel, by decide +kernel⟩, ⟨_, _, rfl⟩, by decide⟩
noncomputable def f_X11_areTowns (n : Nat) (v0 v1 : Int) (h : MM) : RR :=
  gf h v0 11 0 fun r1 =>
  gf h r1 10 0 fun r2 =>
  gf h r2 1 5 fun r3 =>
  bd (f_X11_within n v1 0 (wr ((shl 1 r3) - 1)) h) fun r4 h4 =>
  ck (isb r4) <|
  some (r4, h4)
set_option maxRecDepth 20000 in
theorem e_X11_areTowns {g : GT} {Z : Int × MM} {n : Nat} (C : Cx g cX11_areTowns 2 yX11_areTowns 1 23) (hr : Rt g (some .boolean) 0 Z) {v0 v1 : Int} (cv0 : cK 2 v0) (cv1 : cK 0 v1) {h : MM} (hf : f_X11_areTowns n v0 v1 h = some Z) : G g 0 [(2, v0), (0, v1)] [] h := by
  have cv1 : in32 v1 := cv1
  unfold f_X11_areTowns at hf
  refine r_iload_n C dX11_areTowns_0 rfl ?_
  refine r_i2l C dX11_areTowns_1 cv1 ?_
  refine r_iconst C dX11_areTowns_2 ?_
  refine r_iconst C dX11_areTowns_3 ?_
  refine r_aload_n C dX11_areTowns_4 rfl ?_
  obtain ⟨q1, hf⟩ := gf_s hf
  refine r_gf C ct11 (j := 0) (ji := 0) dX11_areTowns_5 q1 rfl rfl (by decide) w_440 rfl (fun c1 => ?_)
  obtain ⟨q2, hf⟩ := gf_s hf
  refine r_gf C ct10 (j := 0) (ji := 0) dX11_areTowns_8 q2 rfl rfl (by decide) w_300 rfl (fun c2 => ?_)
  obtain ⟨q3, hf⟩ := gf_s hf
  refine r_gf C ct1 (j := 5) (ji := 5) dX11_areTowns_11 q3 rfl rfl (by decide) w_142 rfl (fun c3 => ?_)
  have c3 : in32 _ := c3
  refine r_ishl C dX11_areTowns_14 ?_
  refine r_iconst C dX11_areTowns_15 ?_
  refine r_isub C dX11_areTowns_16 ?_
  obtain ⟨r4, h4, hq4, hf⟩ := bd_s hf
  refine r_cS3 C (am_X11_within (gl g) n) cm_X11_within w_466 dX11_areTowns_17 ⟨Nat.le_of_ble_eq_true rfl, Nat.le_of_ble_eq_true rfl⟩ (in64_i cv1) (in32_of rfl) (in32_t _) rfl (Nat.le_of_ble_eq_true rfl) hq4 (by decide) (fun c4 => ?_)
  have c4 : in32 _ := c4
  obtain ⟨b5, hf⟩ := ck_s hf
  cases hf
  exact r_zret C hr dX11_areTowns_20 b5
set_option maxRecDepth 20000 in
theorem am_X11_areTowns (l : Launch) (n : Nat) : AM l yX11_areTowns cX11_areTowns 2 (some .boolean) 1 23 [2, 0] 0 (un2 (f_X11_areTowns n)) := by
  refine AM.intro (by decide) (fun xs hx => ?_) (fun g xs h Z hl C hr hx hf => ?_)
  · obtain ⟨a0, a1, rfl, c0, c1⟩ := canL_2 hx
    exact Nat.le_of_ble_eq_true rfl
  · obtain ⟨a0, a1, rfl, c0, c1⟩ := canL_2 hx
    have hf := (un2_e _ a0 a1 _).symm.trans hf
    exact e_X11_areTowns (n := n) C hr c0 c1 hf
/-! LinesPromised$Lines.clear()V -/
theorem dX2_clear_0 : decode cX2_clear 0 = .ok (.aload_n 0, 1) := by decide +kernel
theorem dX2_clear_1 : decode cX2_clear 1 = .ok (.iconst 0, 1) := by decide +kernel
theorem dX2_clear_2 : decode cX2_clear 2 = .ok (.putfield 27, 3) := by decide +kernel
theorem dX2_clear_5 : decode cX2_clear 5 = .ok (.aload_n 0, 1) := by decide +kernel
theorem dX2_clear_6 : decode cX2_clear 6 = .ok (.iconst 0, 1) := by decide +kernel
theorem dX2_clear_7 : decode cX2_clear 7 = .ok (.putfield 31, 3) := by decide +kernel
theorem dX2_clear_10 : decode cX2_clear 10 = .ok (.return_, 1) := by decide +kernel
theorem cm_X2_clear : CM yX2_clear cX2_clear 1 none 0 2 := ⟨w_1279, w_1280, w_1281, w_96, ⟨by decide +kernel, by decide +kernel, by decide +kernel⟩, ⟨_, _, rfl⟩, by decide⟩
noncomputable def f_X2_clear (n : Nat) (v0 : Int) (h : MM) : RR :=
  pf h v0 2 6 0 fun h1 =>
  pf h1 v0 2 5 0 fun h2 =>
  some (0, h2)
set_option maxRecDepth 20000 in
theorem e_X2_clear {g : GT} {Z : Int × MM} {n : Nat} (C : Cx g cX2_clear 1 yX2_clear 0 0) (hr : Rt g none 3 Z) {v0 : Int} (cv0 : cK 2 v0) {h : MM} (hf : f_X2_clear n v0 h = some Z) : G g 0 [(2, v0)] [] h := by
  unfold f_X2_clear at hf
  refine r_aload_n C dX2_clear_0 rfl ?_
  refine r_iconst C dX2_clear_1 ?_
  obtain ⟨q1, hf⟩ := pf_s hf
  refine r_pf C ct2 (j := 6) (ji := 6) dX2_clear_2 q1 rfl rfl (by decide) w_423 rfl (Or.inl rfl) nar_int (in32_of rfl) ?_
  refine r_aload_n C dX2_clear_5 rfl ?_
  refine r_iconst C dX2_clear_6 ?_
  obtain ⟨q2, hf⟩ := pf_s hf
  refine r_pf C ct2 (j := 5) (ji := 5) dX2_clear_7 q2 rfl rfl (by decide) w_422 rfl (Or.inl rfl) nar_int (in32_of rfl) ?_
  cases hf
  exact r_vret C hr dX2_clear_10
set_option maxRecDepth 20000 in
theorem am_X2_clear (l : Launch) (n : Nat) : AM l yX2_clear cX2_clear 1 none 0 0 [2] 3 (un1 (f_X2_clear n)) := by
  refine AM.intro (by decide) (fun xs hx => ?_) (fun g xs h Z hl C hr hx hf => ?_)
  · obtain ⟨a0, rfl, c0⟩ := canL_1 hx
    exact Nat.le_of_ble_eq_true rfl
  · obtain ⟨a0, rfl, c0⟩ := canL_1 hx
    have hf := (un1_e _ a0 _).symm.trans hf
    exact e_X2_clear (n := n) C hr c0 hf
/-! LinesPromised$Lines.add(ILLinesPromised$Paper;JII)V -/
theorem dX2_add_0 : decode cX2_add 0 = .ok (.aload_n 0, 1) := by decide +kernel
theorem dX2_add_1 : decode cX2_add 1 = .ok (.getfield 27, 3) := by decide +kernel
theorem dX2_add_4 : decode cX2_add 4 = .ok (.bipush 10, 2) := by decide +kernel
theorem dX2_add_6 : decode cX2_add 6 = .ok (.if_icmp .lt 4, 3) := by decide +kernel
theorem dX2_add_9 : decode cX2_add 9 = .ok (.return_, 1) := by decide +kernel
theorem dX2_add_10 : decode cX2_add 10 = .ok (.aload_n 0, 1) := by decide +kernel
theorem dX2_add_11 : decode cX2_add 11 = .ok (.getfield 9, 3) := by decide +kernel
theorem dX2_add_14 : decode cX2_add 14 = .ok (.aload_n 0, 1) := by decide +kernel
theorem dX2_add_15 : decode cX2_add 15 = .ok (.getfield 27, 3) := by decide +kernel
theorem dX2_add_18 : decode cX2_add 18 = .ok (.iload_n 1, 1) := by decide +kernel
theorem dX2_add_19 : decode cX2_add 19 = .ok (.iastore, 1) := by decide +kernel
theorem dX2_add_20 : decode cX2_add 20 = .ok (.aload_n 0, 1) := by decide +kernel
theorem dX2_add_21 : decode cX2_add 21 = .ok (.getfield 15, 3) := by decide +kernel
theorem dX2_add_24 : decode cX2_add 24 = .ok (.aload_n 0, 1) := by decide +kernel
theorem dX2_add_25 : decode cX2_add 25 = .ok (.getfield 27, 3) := by decide +kernel
theorem dX2_add_28 : decode cX2_add 28 = .ok (.iconst 1, 1) := by decide +kernel
theorem dX2_add_29 : decode cX2_add 29 = .ok (.aload_n 2, 1) := by decide +kernel
theorem dX2_add_30 : decode cX2_add 30 = .ok (.getfield 34, 3) := by decide +kernel
theorem dX2_add_33 : decode cX2_add 33 = .ok (.ishl, 1) := by decide +kernel
theorem dX2_add_34 : decode cX2_add 34 = .ok (.iconst 1, 1) := by decide +kernel
theorem dX2_add_35 : decode cX2_add 35 = .ok (.aload_n 2, 1) := by decide +kernel
theorem dX2_add_36 : decode cX2_add 36 = .ok (.getfield 39, 3) := by decide +kernel
theorem dX2_add_39 : decode cX2_add 39 = .ok (.ishl, 1) := by decide +kernel
theorem dX2_add_40 : decode cX2_add 40 = .ok (.ior, 1) := by decide +kernel
theorem dX2_add_41 : decode cX2_add 41 = .ok (.iastore, 1) := by decide +kernel
theorem dX2_add_42 : decode cX2_add 42 = .ok (.aload_n 0, 1) := by decide +kernel
theorem dX2_add_43 : decode cX2_add 43 = .ok (.getfield 21, 3) := by decide +kernel
theorem dX2_add_46 : decode cX2_add 46 = .ok (.aload_n 0, 1) := by decide +kernel
theorem dX2_add_47 : decode cX2_add 47 = .ok (.getfield 27, 3) := by decide +kernel
theorem dX2_add_50 : decode cX2_add 50 = .ok (.iload 5, 2) := by decide +kernel
theorem dX2_add_52 : decode cX2_add 52 = .ok (.iastore, 1) := by decide +kernel
theorem dX2_add_53 : decode cX2_add 53 = .ok (.aload_n 0, 1) := by decide +kernel
theorem dX2_add_54 : decode cX2_add 54 = .ok (.getfield 24, 3) := by decide +kernel
theorem dX2_add_57 : decode cX2_add 57 = .ok (.aload_n 0, 1) := by decide +kernel
theorem dX2_add_58 : decode cX2_add 58 = .ok (.getfield 27, 3) := by decide +kernel
theorem dX2_add_61 : decode cX2_add 61 = .ok (.iload 6, 2) := by decide +kernel
theorem dX2_add_63 : decode cX2_add 63 = .ok (.iastore, 1) := by decide +kernel
theorem dX2_add_64 : decode cX2_add 64 = .ok (.aload_n 0, 1) := by decide +kernel
theorem dX2_add_65 : decode cX2_add 65 = .ok (.getfield 18, 3) := by decide +kernel
theorem dX2_add_68 : decode cX2_add 68 = .ok (.aload_n 0, 1) := by decide +kernel
theorem dX2_add_69 : decode cX2_add 69 = .ok (.getfield 27, 3) := by decide +kernel
theorem dX2_add_72 : decode cX2_add 72 = .ok (.iconst 0, 1) := by decide +kernel
theorem dX2_add_73 : decode cX2_add 73 = .ok (.iastore, 1) := by decide +kernel
theorem dX2_add_74 : decode cX2_add 74 = .ok (.iconst 0, 1) := by decide +kernel
theorem dX2_add_75 : decode cX2_add 75 = .ok (.istore 7, 2) := by decide +kernel
theorem dX2_add_77 : decode cX2_add 77 = .ok (.iload 7, 2) := by decide +kernel
theorem dX2_add_79 : decode cX2_add 79 = .ok (.aload_n 0, 1) := by decide +kernel
theorem dX2_add_80 : decode cX2_add 80 = .ok (.getfield 27, 3) := by decide +kernel
theorem dX2_add_83 : decode cX2_add 83 = .ok (.if_icmp .ge 41, 3) := by decide +kernel
theorem dX2_add_86 : decode cX2_add 86 = .ok (.lload_n 3, 1) := by decide +kernel
theorem dX2_add_87 : decode cX2_add 87 = .ok (.aload_n 0, 1) := by decide +kernel
theorem dX2_add_88 : decode cX2_add 88 = .ok (.getfield 9, 3) := by decide +kernel
theorem dX2_add_91 : decode cX2_add 91 = .ok (.iload 7, 2) := by decide +kernel
theorem dX2_add_93 : decode cX2_add 93 = .ok (.iaload, 1) := by decide +kernel
theorem dX2_add_94 : decode cX2_add 94 = .ok (.lshr, 1) := by decide +kernel
theorem dX2_add_95 : decode cX2_add 95 = .ok (.lconst 1, 1) := by decide +kernel
theorem dX2_add_96 : decode cX2_add 96 = .ok (.land, 1) := by decide +kernel
theorem dX2_add_97 : decode cX2_add 97 = .ok (.lconst 0, 1) := by decide +kernel
theorem dX2_add_98 : decode cX2_add 98 = .ok (.lcmp, 1) := by decide +kernel
theorem dX2_add_99 : decode cX2_add 99 = .ok (.ifCond .eq 19, 3) := by decide +kernel
theorem dX2_add_102 : decode cX2_add 102 = .ok (.aload_n 0, 1) := by decide +kernel
theorem dX2_add_103 : decode cX2_add 103 = .ok (.getfield 18, 3) := by decide +kernel
theorem dX2_add_106 : decode cX2_add 106 = .ok (.aload_n 0, 1) := by decide +kernel
theorem dX2_add_107 : decode cX2_add 107 = .ok (.getfield 27, 3) := by decide +kernel
theorem dX2_add_110 : decode cX2_add 110 = .ok (.dup2, 1) := by decide +kernel
theorem dX2_add_111 : decode cX2_add 111 = .ok (.iaload, 1) := by decide +kernel
theorem dX2_add_112 : decode cX2_add 112 = .ok (.iconst 1, 1) := by decide +kernel
theorem dX2_add_113 : decode cX2_add 113 = .ok (.iload 7, 2) := by decide +kernel
theorem dX2_add_115 : decode cX2_add 115 = .ok (.ishl, 1) := by decide +kernel
theorem dX2_add_116 : decode cX2_add 116 = .ok (.ior, 1) := by decide +kernel
theorem dX2_add_117 : decode cX2_add 117 = .ok (.iastore, 1) := by decide +kernel
theorem dX2_add_118 : decode cX2_add 118 = .ok (.iinc 7 1, 3) := by decide +kernel
theorem dX2_add_121 : decode cX2_add 121 = .ok (.goto (-44), 3) := by decide +kernel
theorem dX2_add_124 : decode cX2_add 124 = .ok (.aload_n 0, 1) := by decide +kernel
theorem dX2_add_125 : decode cX2_add 125 = .ok (.dup, 1) := by decide +kernel
theorem dX2_add_126 : decode cX2_add 126 = .ok (.getfield 31, 3) := by decide +kernel
theorem dX2_add_129 : decode cX2_add 129 = .ok (.aload_n 2, 1) := by decide +kernel
theorem dX2_add_130 : decode cX2_add 130 = .ok (.getfield 42, 3) := by decide +kernel
theorem dX2_add_133 : decode cX2_add 133 = .ok (.aload_n 0, 1) := by decide +kernel
theorem dX2_add_134 : decode cX2_add 134 = .ok (.getfield 27, 3) := by decide +kernel
theorem dX2_add_137 : decode cX2_add 137 = .ok (.ishl, 1) := by decide +kernel
theorem dX2_add_138 : decode cX2_add 138 = .ok (.ior, 1) := by decide +kernel
theorem dX2_add_139 : decode cX2_add 139 = .ok (.putfield 31, 3) := by decide +kernel
theorem dX2_add_142 : decode cX2_add 142 = .ok (.aload_n 0, 1) := by decide +kernel
theorem dX2_add_143 : decode cX2_add 143 = .ok (.dup, 1) := by decide +kernel
theorem dX2_add_144 : decode cX2_add 144 = .ok (.getfield 27, 3) := by decide +kernel
theorem dX2_add_147 : decode cX2_add 147 = .ok (.iconst 1, 1) := by decide +kernel
theorem dX2_add_148 : decode cX2_add 148 = .ok (.iadd, 1) := by decide +kernel
theorem dX2_add_149 : decode cX2_add 149 = .ok (.putfield 27, 3) := by decide +kernel
theorem dX2_add_152 : decode cX2_add 152 = .ok (.return_, 1) := by decide +kernel
theorem cm_X2_add : CM yX2_add cX2_add 8 none 5 2 := ⟨w_1283, w_1284, w_1285, w_96, ⟨by decide +kernel, by decide +kernel, by decide +kernel⟩, ⟨_, _, rfl⟩, by decide⟩
noncomputable def f_X2_add_118 (n : Nat) (rec77 : Int → MM → RR) (v0 v2 v3 v7 : Int) (h : MM) : RR :=
  lb (wr (v7 + 1)) fun x1 =>
  rec77 x1 h
noncomputable def f_X2_add_77b (n : Nat) (rec77 : Int → MM → RR) (v0 v2 v3 v7 : Int) (h : MM) : RR :=
  gf h v0 2 6 fun r1 =>
  if r1 ≤ v7 then
    gf h v0 2 5 fun r3 =>
    gf h v2 4 7 fun r4 =>
    gf h v0 2 6 fun r5 =>
    pf h v0 2 5 (bor r3 (shl r4 r5)) fun h6 =>
    gf h6 v0 2 6 fun r7 =>
    pf h6 v0 2 6 (wr (r7 + 1)) fun h8 =>
    some (0, h8)
  else
  gf h v0 2 0 fun r9 =>
  rd h r9 100 v7 fun r10 =>
  if lcm (lan (lsr v3 r10) 1) 0 = 0 then
    f_X2_add_118 n rec77 v0 v2 v3 v7 h
  else
  gf h v0 2 2 fun r12 =>
  gf h v0 2 6 fun r13 =>
  rd h r12 100 r13 fun r14 =>
  wt h r12 100 r13 (bor r14 (shl 1 v7)) fun h15 =>
  f_X2_add_118 n rec77 v0 v2 v3 v7 h15
noncomputable def f_X2_add_77 (n : Nat)  (v0 v2 v3 : Int) : Nat → Int → MM → RR
  | 0, _, _ => none
  | k + 1, v7, h => f_X2_add_77b n  (f_X2_add_77 n  v0 v2 v3 k) v0 v2 v3 v7 h
noncomputable def f_X2_add (n : Nat) (v0 v1 v2 v3 v5 v6 : Int) (h : MM) : RR :=
  gf h v0 2 6 fun r1 =>
  if r1 < 10 then
    gf h v0 2 0 fun r3 =>
    gf h v0 2 6 fun r4 =>
    wt h r3 100 r4 v1 fun h5 =>
    gf h5 v0 2 1 fun r6 =>
    gf h5 v0 2 6 fun r7 =>
    gf h5 v2 4 5 fun r8 =>
    gf h5 v2 4 6 fun r9 =>
    wt h5 r6 100 r7 (bor (shl 1 r8) (shl 1 r9)) fun h10 =>
    gf h10 v0 2 3 fun r11 =>
    gf h10 v0 2 6 fun r12 =>
    wt h10 r11 100 r12 v5 fun h13 =>
    gf h13 v0 2 4 fun r14 =>
    gf h13 v0 2 6 fun r15 =>
    wt h13 r14 100 r15 v6 fun h16 =>
    gf h16 v0 2 2 fun r17 =>
    gf h16 v0 2 6 fun r18 =>
    wt h16 r17 100 r18 0 fun h19 =>
    f_X2_add_77 n v0 v2 v3 n 0 h19
  else
  some (0, h)
set_option maxRecDepth 20000 in
theorem b_X2_add_118 {g : GT} {Z : Int × MM} {n : Nat} (C : Cx g cX2_add 8 yX2_add 0 0) (hr : Rt g none 3 Z) {v0 v2 v3 v7 : Int}  {rec77 : Int → MM → RR} (L77 : ∀ (u7 : Int) (h : MM), in32 u7 → rec77 u7 h = some Z → G g 77 [(2, v0), (3, 0), (2, v2), (1, v3), (4, 0), (3, 0), (3, 0), (0, u7)] [] h) (cv3 : in64 v3) (cv7 : in32 v7) {h : MM} (hf : f_X2_add_118 n rec77 v0 v2 v3 v7 h = some Z) : G g 118 [(2, v0), (3, 0), (2, v2), (1, v3), (4, 0), (3, 0), (3, 0), (0, v7)] [] h := by
  unfold f_X2_add_118 at hf
  obtain ⟨x1, e1, hf⟩ := lb_s hf
  have c1 : in32 x1 := by rw [e1]; exact (in32_t _)
  refine r_iincL C dX2_add_118 rfl e1 (Nat.le_of_ble_eq_true rfl) rfl ?_
  refine r_goto C dX2_add_121 (tgt := 77) (by decide) ?_
  exact G.mask [true, false, true, true, true, false, false, true] rfl rfl (L77 _ _ c1 hf)
set_option maxRecDepth 20000 in
theorem b_X2_add_77b {g : GT} {Z : Int × MM} {n : Nat} (C : Cx g cX2_add 8 yX2_add 0 0) (hr : Rt g none 3 Z) {v0 v2 v3 v7 : Int}  {rec77 : Int → MM → RR} (L77 : ∀ (u7 : Int) (h : MM), in32 u7 → rec77 u7 h = some Z → G g 77 [(2, v0), (3, 0), (2, v2), (1, v3), (4, 0), (3, 0), (3, 0), (0, u7)] [] h) (cv3 : in64 v3) (cv7 : in32 v7) {h : MM} (hf : f_X2_add_77b n rec77 v0 v2 v3 v7 h = some Z) : G g 77 [(2, v0), (3, 0), (2, v2), (1, v3), (4, 0), (3, 0), (3, 0), (0, v7)] [] h := by
  unfold f_X2_add_77b at hf
  refine r_iload C dX2_add_77 rfl ?_
  refine r_aload_n C dX2_add_79 rfl ?_
  obtain ⟨q1, hf⟩ := gf_s hf
  refine r_gf C ct2 (j := 6) (ji := 6) dX2_add_80 q1 rfl rfl (by decide) w_423 rfl (fun c1 => ?_)
  have c1 : in32 _ := c1
  refine r_icmp_ge C dX2_add_83 (tgt := 124) (by decide) cv7 c1 (fun n2 => ?_) (fun n2 => ?_)
  · have hf := ite_p n2 hf
    refine r_aload_n C dX2_add_124 rfl ?_
    refine r_dup C dX2_add_125 (by decide) ?_
    obtain ⟨q3, hf⟩ := gf_s hf
    refine r_gf C ct2 (j := 5) (ji := 5) dX2_add_126 q3 rfl rfl (by decide) w_422 rfl (fun c3 => ?_)
    have c3 : in32 _ := c3
    refine r_aload_n C dX2_add_129 rfl ?_
    obtain ⟨q4, hf⟩ := gf_s hf
    refine r_gf C ct4 (j := 7) (ji := 7) dX2_add_130 q4 rfl rfl (by decide) w_742 rfl (fun c4 => ?_)
    have c4 : in32 _ := c4
    refine r_aload_n C dX2_add_133 rfl ?_
    obtain ⟨q5, hf⟩ := gf_s hf
    refine r_gf C ct2 (j := 6) (ji := 6) dX2_add_134 q5 rfl rfl (by decide) w_423 rfl (fun c5 => ?_)
    have c5 : in32 _ := c5
    refine r_ishl C dX2_add_137 ?_
    refine r_ior C dX2_add_138 ?_
    obtain ⟨q6, hf⟩ := pf_s hf
    refine r_pf C ct2 (j := 5) (ji := 5) dX2_add_139 q6 rfl rfl (by decide) w_422 rfl (Or.inl rfl) nar_int (in32_t _) ?_
    refine r_aload_n C dX2_add_142 rfl ?_
    refine r_dup C dX2_add_143 (by decide) ?_
    obtain ⟨q7, hf⟩ := gf_s hf
    refine r_gf C ct2 (j := 6) (ji := 6) dX2_add_144 q7 rfl rfl (by decide) w_423 rfl (fun c7 => ?_)
    have c7 : in32 _ := c7
    refine r_iconst C dX2_add_147 ?_
    refine r_iadd C dX2_add_148 ?_
    obtain ⟨q8, hf⟩ := pf_s hf
    refine r_pf C ct2 (j := 6) (ji := 6) dX2_add_149 q8 rfl rfl (by decide) w_423 rfl (Or.inl rfl) nar_int (in32_t _) ?_
    cases hf
    exact r_vret C hr dX2_add_152
  · have hf := ite_n n2 hf
    refine r_lload_n C dX2_add_86 rfl ?_
    refine r_aload_n C dX2_add_87 rfl ?_
    obtain ⟨q9, hf⟩ := gf_s hf
    refine r_gf C ct2 (j := 0) (ji := 0) dX2_add_88 q9 rfl rfl (by decide) w_417 rfl (fun c9 => ?_)
    refine r_iload C dX2_add_91 rfl ?_
    obtain ⟨q10, hf⟩ := rd_s hf
    refine r_iald C dX2_add_93 q10 rfl (fun c10 => ?_)
    refine r_lshr C dX2_add_94 ?_
    refine r_lconst C (v := 1) dX2_add_95 rfl ?_
    refine r_land C dX2_add_96 ?_
    refine r_lconst C (v := 0) dX2_add_97 rfl ?_
    refine r_lcmp C dX2_add_98 ?_
    refine r_if_eq C dX2_add_99 (tgt := 118) (by decide) (in32_t _) (fun n11 => ?_) (fun n11 => ?_)
    · have hf := ite_p n11 hf
      exact G.mask [true, false, true, true, true, false, false, true] rfl rfl (b_X2_add_118 C hr L77 cv3 cv7 hf)
    · have hf := ite_n n11 hf
      refine r_aload_n C dX2_add_102 rfl ?_
      obtain ⟨q12, hf⟩ := gf_s hf
      refine r_gf C ct2 (j := 2) (ji := 2) dX2_add_103 q12 rfl rfl (by decide) w_419 rfl (fun c12 => ?_)
      refine r_aload_n C dX2_add_106 rfl ?_
      obtain ⟨q13, hf⟩ := gf_s hf
      refine r_gf C ct2 (j := 6) (ji := 6) dX2_add_107 q13 rfl rfl (by decide) w_423 rfl (fun c13 => ?_)
      have c13 : in32 _ := c13
      refine r_dup2 C dX2_add_110 (by decide) (by decide) ?_
      obtain ⟨q14, hf⟩ := rd_s hf
      refine r_iald C dX2_add_111 q14 rfl (fun c14 => ?_)
      refine r_iconst C dX2_add_112 ?_
      refine r_iload C dX2_add_113 rfl ?_
      refine r_ishl C dX2_add_115 ?_
      refine r_ior C dX2_add_116 ?_
      obtain ⟨q15, hf⟩ := wt_s hf
      refine r_iast C dX2_add_117 q15 rfl (in32_t _) ?_
      exact G.mask [true, false, true, true, true, false, false, true] rfl rfl (b_X2_add_118 C hr L77 cv3 cv7 hf)
set_option maxRecDepth 20000 in
theorem l_X2_add_77 {g : GT} {Z : Int × MM} {n : Nat} (C : Cx g cX2_add 8 yX2_add 0 0) (hr : Rt g none 3 Z) {v0 v2 v3 : Int}   (cv3 : in64 v3) : ∀ (k : Nat) (v7 : Int) (h : MM), in32 v7 → f_X2_add_77 n  v0 v2 v3 k v7 h = some Z → G g 77 [(2, v0), (3, 0), (2, v2), (1, v3), (4, 0), (3, 0), (3, 0), (0, v7)] [] h := by
  intro k
  induction k with
  | zero => intro v7 h cv7 hf; exact absurd hf (by intro z; cases z)
  | succ k ih => intro v7 h cv7 hf; exact b_X2_add_77b C hr (rec77 := f_X2_add_77 n  v0 v2 v3 k)  ih cv3 cv7 (show f_X2_add_77b n  (f_X2_add_77 n  v0 v2 v3 k) v0 v2 v3 v7 h = some Z from hf)
set_option maxRecDepth 20000 in
theorem e_X2_add {g : GT} {Z : Int × MM} {n : Nat} (C : Cx g cX2_add 8 yX2_add 0 0) (hr : Rt g none 3 Z) {v0 v1 v2 v3 v5 v6 : Int} (cv0 : cK 2 v0) (cv1 : cK 0 v1) (cv2 : cK 2 v2) (cv3 : cK 1 v3) (cv5 : cK 0 v5) (cv6 : cK 0 v6) {h : MM} (hf : f_X2_add n v0 v1 v2 v3 v5 v6 h = some Z) : G g 0 [(2, v0), (0, v1), (2, v2), (1, v3), (4, 0), (0, v5), (0, v6), (3, 0)] [] h := by
  have cv1 : in32 v1 := cv1
  have cv3 : in64 v3 := cv3
  have cv5 : in32 v5 := cv5
  have cv6 : in32 v6 := cv6
  unfold f_X2_add at hf
  refine r_aload_n C dX2_add_0 rfl ?_
  obtain ⟨q1, hf⟩ := gf_s hf
  refine r_gf C ct2 (j := 6) (ji := 6) dX2_add_1 q1 rfl rfl (by decide) w_423 rfl (fun c1 => ?_)
  have c1 : in32 _ := c1
  refine r_bipush C dX2_add_4 rfl ?_
  refine r_icmp_lt C dX2_add_6 (tgt := 10) (by decide) c1 (in32_of rfl) (fun n2 => ?_) (fun n2 => ?_)
  · have hf := ite_p n2 hf
    refine r_aload_n C dX2_add_10 rfl ?_
    obtain ⟨q3, hf⟩ := gf_s hf
    refine r_gf C ct2 (j := 0) (ji := 0) dX2_add_11 q3 rfl rfl (by decide) w_417 rfl (fun c3 => ?_)
    refine r_aload_n C dX2_add_14 rfl ?_
    obtain ⟨q4, hf⟩ := gf_s hf
    refine r_gf C ct2 (j := 6) (ji := 6) dX2_add_15 q4 rfl rfl (by decide) w_423 rfl (fun c4 => ?_)
    have c4 : in32 _ := c4
    refine r_iload_n C dX2_add_18 rfl ?_
    obtain ⟨q5, hf⟩ := wt_s hf
    refine r_iast C dX2_add_19 q5 rfl cv1 ?_
    refine r_aload_n C dX2_add_20 rfl ?_
    obtain ⟨q6, hf⟩ := gf_s hf
    refine r_gf C ct2 (j := 1) (ji := 1) dX2_add_21 q6 rfl rfl (by decide) w_418 rfl (fun c6 => ?_)
    refine r_aload_n C dX2_add_24 rfl ?_
    obtain ⟨q7, hf⟩ := gf_s hf
    refine r_gf C ct2 (j := 6) (ji := 6) dX2_add_25 q7 rfl rfl (by decide) w_423 rfl (fun c7 => ?_)
    have c7 : in32 _ := c7
    refine r_iconst C dX2_add_28 ?_
    refine r_aload_n C dX2_add_29 rfl ?_
    obtain ⟨q8, hf⟩ := gf_s hf
    refine r_gf C ct4 (j := 5) (ji := 5) dX2_add_30 q8 rfl rfl (by decide) w_731 rfl (fun c8 => ?_)
    have c8 : in32 _ := c8
    refine r_ishl C dX2_add_33 ?_
    refine r_iconst C dX2_add_34 ?_
    refine r_aload_n C dX2_add_35 rfl ?_
    obtain ⟨q9, hf⟩ := gf_s hf
    refine r_gf C ct4 (j := 6) (ji := 6) dX2_add_36 q9 rfl rfl (by decide) w_737 rfl (fun c9 => ?_)
    have c9 : in32 _ := c9
    refine r_ishl C dX2_add_39 ?_
    refine r_ior C dX2_add_40 ?_
    obtain ⟨q10, hf⟩ := wt_s hf
    refine r_iast C dX2_add_41 q10 rfl (in32_t _) ?_
    refine r_aload_n C dX2_add_42 rfl ?_
    obtain ⟨q11, hf⟩ := gf_s hf
    refine r_gf C ct2 (j := 3) (ji := 3) dX2_add_43 q11 rfl rfl (by decide) w_420 rfl (fun c11 => ?_)
    refine r_aload_n C dX2_add_46 rfl ?_
    obtain ⟨q12, hf⟩ := gf_s hf
    refine r_gf C ct2 (j := 6) (ji := 6) dX2_add_47 q12 rfl rfl (by decide) w_423 rfl (fun c12 => ?_)
    have c12 : in32 _ := c12
    refine r_iload C dX2_add_50 rfl ?_
    obtain ⟨q13, hf⟩ := wt_s hf
    refine r_iast C dX2_add_52 q13 rfl cv5 ?_
    refine r_aload_n C dX2_add_53 rfl ?_
    obtain ⟨q14, hf⟩ := gf_s hf
    refine r_gf C ct2 (j := 4) (ji := 4) dX2_add_54 q14 rfl rfl (by decide) w_421 rfl (fun c14 => ?_)
    refine r_aload_n C dX2_add_57 rfl ?_
    obtain ⟨q15, hf⟩ := gf_s hf
    refine r_gf C ct2 (j := 6) (ji := 6) dX2_add_58 q15 rfl rfl (by decide) w_423 rfl (fun c15 => ?_)
    have c15 : in32 _ := c15
    refine r_iload C dX2_add_61 rfl ?_
    obtain ⟨q16, hf⟩ := wt_s hf
    refine r_iast C dX2_add_63 q16 rfl cv6 ?_
    refine r_aload_n C dX2_add_64 rfl ?_
    obtain ⟨q17, hf⟩ := gf_s hf
    refine r_gf C ct2 (j := 2) (ji := 2) dX2_add_65 q17 rfl rfl (by decide) w_419 rfl (fun c17 => ?_)
    refine r_aload_n C dX2_add_68 rfl ?_
    obtain ⟨q18, hf⟩ := gf_s hf
    refine r_gf C ct2 (j := 6) (ji := 6) dX2_add_69 q18 rfl rfl (by decide) w_423 rfl (fun c18 => ?_)
    have c18 : in32 _ := c18
    refine r_iconst C dX2_add_72 ?_
    obtain ⟨q19, hf⟩ := wt_s hf
    refine r_iast C dX2_add_73 q19 rfl (in32_of rfl) ?_
    refine r_iconst C dX2_add_74 ?_
    refine r_istore C dX2_add_75 (Nat.le_of_ble_eq_true rfl) rfl ?_
    exact G.mask [true, false, true, true, true, false, false, true] rfl rfl (l_X2_add_77 C hr  cv3 _ _ _ (in32_of rfl) hf)
  · have hf := ite_n n2 hf
    cases hf
    exact r_vret C hr dX2_add_9
set_option maxRecDepth 20000 in
theorem am_X2_add (l : Launch) (n : Nat) : AM l yX2_add cX2_add 8 none 0 0 [2, 0, 2, 1, 0, 0] 3 (un6 (f_X2_add n)) := by
  refine AM.intro (by decide) (fun xs hx => ?_) (fun g xs h Z hl C hr hx hf => ?_)
  · obtain ⟨a0, a1, a2, a3, a4, a5, rfl, c0, c1, c2, c3, c4, c5⟩ := canL_6 hx
    exact Nat.le_of_ble_eq_true rfl
  · obtain ⟨a0, a1, a2, a3, a4, a5, rfl, c0, c1, c2, c3, c4, c5⟩ := canL_6 hx
    have hf := (un6_e _ a0 a1 a2 a3 a4 a5 _).symm.trans hf
    exact e_X2_add (n := n) C hr c0 c1 c2 c3 c4 c5 hf
/-! LinesPromised.gatherGranted()V -/
theorem dX11_gatherGranted_0 : decode cX11_gatherGranted 0 = .ok (.aload_n 0, 1) := by decide +kernel
theorem dX11_gatherGranted_1 : decode cX11_gatherGranted 1 = .ok (.getfield 42, 3) := by decide +kernel
theorem dX11_gatherGranted_4 : decode cX11_gatherGranted 4 = .ok (.invokevirtual 440, 3) := by decide +kernel
theorem dX11_gatherGranted_7 : decode cX11_gatherGranted 7 = .ok (.iconst 0, 1) := by decide +kernel
theorem dX11_gatherGranted_8 : decode cX11_gatherGranted 8 = .ok (.istore_n 1, 1) := by decide +kernel
theorem dX11_gatherGranted_9 : decode cX11_gatherGranted 9 = .ok (.iload_n 1, 1) := by decide +kernel
theorem dX11_gatherGranted_10 : decode cX11_gatherGranted 10 = .ok (.aload_n 0, 1) := by decide +kernel
theorem dX11_gatherGranted_11 : decode cX11_gatherGranted 11 = .ok (.getfield 10, 3) := by decide +kernel
theorem dX11_gatherGranted_14 : decode cX11_gatherGranted 14 = .ok (.getfield 133, 3) := by decide +kernel
theorem dX11_gatherGranted_17 : decode cX11_gatherGranted 17 = .ok (.getfield 410, 3) := by decide +kernel
theorem dX11_gatherGranted_20 : decode cX11_gatherGranted 20 = .ok (.if_icmp .ge 52, 3) := by decide +kernel
theorem dX11_gatherGranted_23 : decode cX11_gatherGranted 23 = .ok (.aload_n 0, 1) := by decide +kernel
theorem dX11_gatherGranted_24 : decode cX11_gatherGranted 24 = .ok (.getfield 10, 3) := by decide +kernel
theorem dX11_gatherGranted_27 : decode cX11_gatherGranted 27 = .ok (.getfield 133, 3) := by decide +kernel
theorem dX11_gatherGranted_30 : decode cX11_gatherGranted 30 = .ok (.iload_n 1, 1) := by decide +kernel
theorem dX11_gatherGranted_31 : decode cX11_gatherGranted 31 = .ok (.iconst 3, 1) := by decide +kernel
theorem dX11_gatherGranted_32 : decode cX11_gatherGranted 32 = .ok (.invokevirtual 172, 3) := by decide +kernel
theorem dX11_gatherGranted_35 : decode cX11_gatherGranted 35 = .ok (.astore_n 2, 1) := by decide +kernel
theorem dX11_gatherGranted_36 : decode cX11_gatherGranted 36 = .ok (.aload_n 2, 1) := by decide +kernel
theorem dX11_gatherGranted_37 : decode cX11_gatherGranted 37 = .ok (.ifnull 29, 3) := by decide +kernel
theorem dX11_gatherGranted_40 : decode cX11_gatherGranted 40 = .ok (.aload_n 0, 1) := by decide +kernel
theorem dX11_gatherGranted_41 : decode cX11_gatherGranted 41 = .ok (.getfield 10, 3) := by decide +kernel
theorem dX11_gatherGranted_44 : decode cX11_gatherGranted 44 = .ok (.getfield 133, 3) := by decide +kernel
theorem dX11_gatherGranted_47 : decode cX11_gatherGranted 47 = .ok (.iload_n 1, 1) := by decide +kernel
theorem dX11_gatherGranted_48 : decode cX11_gatherGranted 48 = .ok (.invokevirtual 256, 3) := by decide +kernel
theorem dX11_gatherGranted_51 : decode cX11_gatherGranted 51 = .ok (.ifCond .eq 15, 3) := by decide +kernel
theorem dX11_gatherGranted_54 : decode cX11_gatherGranted 54 = .ok (.aload_n 0, 1) := by decide +kernel
theorem dX11_gatherGranted_55 : decode cX11_gatherGranted 55 = .ok (.getfield 42, 3) := by decide +kernel
theorem dX11_gatherGranted_58 : decode cX11_gatherGranted 58 = .ok (.iload_n 1, 1) := by decide +kernel
theorem dX11_gatherGranted_59 : decode cX11_gatherGranted 59 = .ok (.aload_n 2, 1) := by decide +kernel
theorem dX11_gatherGranted_60 : decode cX11_gatherGranted 60 = .ok (.lconst 0, 1) := by decide +kernel
theorem dX11_gatherGranted_61 : decode cX11_gatherGranted 61 = .ok (.iconst 0, 1) := by decide +kernel
theorem dX11_gatherGranted_62 : decode cX11_gatherGranted 62 = .ok (.iconst 0, 1) := by decide +kernel
theorem dX11_gatherGranted_63 : decode cX11_gatherGranted 63 = .ok (.invokevirtual 442, 3) := by decide +kernel
theorem dX11_gatherGranted_66 : decode cX11_gatherGranted 66 = .ok (.iinc 1 1, 3) := by decide +kernel
theorem dX11_gatherGranted_69 : decode cX11_gatherGranted 69 = .ok (.goto (-60), 3) := by decide +kernel
theorem dX11_gatherGranted_72 : decode cX11_gatherGranted 72 = .ok (.return_, 1) := by decide +kernel
theorem cm_X11_gatherGranted : CM yX11_gatherGranted cX11_gatherGranted 3 none 0 11 := ⟨w_1276, w_35, w_1277, w_87, ⟨by decide +kernel, by decide +kernel, by decide +kernel⟩, ⟨_, _, rfl⟩, by decide⟩
noncomputable def f_X11_gatherGranted_66 (n : Nat) (rec9 : Int → MM → RR) (v0 v1 : Int) (h : MM) : RR :=
  lb (wr (v1 + 1)) fun x1 =>
  rec9 x1 h
noncomputable def f_X11_gatherGranted_9b (n : Nat) (rec9 : Int → MM → RR) (v0 v1 : Int) (h : MM) : RR :=
  gf h v0 11 0 fun r1 =>
  gf h r1 10 1 fun r2 =>
  gf h r2 5 7 fun r3 =>
  if r3 ≤ v1 then
    some (0, h)
  else
  gf h v0 11 0 fun r5 =>
  gf h r5 10 1 fun r6 =>
  gk h r6 5 <|
  bd (f_X5_find n r6 v1 3 h) fun r7 h7 =>
  if r7 = 0 then
    f_X11_gatherGranted_66 n rec9 v0 v1 h7
  else
  gf h7 v0 11 0 fun r9 =>
  gf h7 r9 10 1 fun r10 =>
  gk h7 r10 5 <|
  bd (f_X5_isMarked n r10 v1 h7) fun r11 h11 =>
  if r11 = 0 then
    f_X11_gatherGranted_66 n rec9 v0 v1 h11
  else
  gf h11 v0 11 6 fun r13 =>
  gk h11 r13 2 <|
  bd (f_X2_add n r13 v1 r7 0 0 0 h11) fun r14 h14 =>
  f_X11_gatherGranted_66 n rec9 v0 v1 h14
noncomputable def f_X11_gatherGranted_9 (n : Nat)  (v0 : Int) : Nat → Int → MM → RR
  | 0, _, _ => none
  | k + 1, v1, h => f_X11_gatherGranted_9b n  (f_X11_gatherGranted_9 n  v0 k) v0 v1 h
noncomputable def f_X11_gatherGranted (n : Nat) (v0 : Int) (h : MM) : RR :=
  gf h v0 11 6 fun r1 =>
  gk h r1 2 <|
  bd (f_X2_clear n r1 h) fun r2 h2 =>
  f_X11_gatherGranted_9 n v0 n 0 h2
set_option maxRecDepth 20000 in
theorem b_X11_gatherGranted_66 {g : GT} {Z : Int × MM} {n : Nat} (C : Cx g cX11_gatherGranted 3 yX11_gatherGranted 3 67) (hr : Rt g none 3 Z) {v0 v1 : Int}  {rec9 : Int → MM → RR} (L9 : ∀ (u1 : Int) (h : MM), in32 u1 → rec9 u1 h = some Z → G g 9 [(2, v0), (0, u1), (3, 0)] [] h) (cv1 : in32 v1) {h : MM} (hf : f_X11_gatherGranted_66 n rec9 v0 v1 h = some Z) : G g 66 [(2, v0), (0, v1), (3, 0)] [] h := by
  unfold f_X11_gatherGranted_66 at hf
  obtain ⟨x1, e1, hf⟩ := lb_s hf
  have c1 : in32 x1 := by rw [e1]; exact (in32_t _)
  refine r_iincL C dX11_gatherGranted_66 rfl e1 (Nat.le_of_ble_eq_true rfl) rfl ?_
  refine r_goto C dX11_gatherGranted_69 (tgt := 9) (by decide) ?_
  exact G.mask [true, true, false] rfl rfl (L9 _ _ c1 hf)
set_option maxRecDepth 20000 in
theorem b_X11_gatherGranted_9b {g : GT} {Z : Int × MM} {n : Nat} (C : Cx g cX11_gatherGranted 3 yX11_gatherGranted 3 67) (hr : Rt g none 3 Z) {v0 v1 : Int}  {rec9 : Int → MM → RR} (L9 : ∀ (u1 : Int) (h : MM), in32 u1 → rec9 u1 h = some Z → G g 9 [(2, v0), (0, u1), (3, 0)] [] h) (cv1 : in32 v1) {h : MM} (hf : f_X11_gatherGranted_9b n rec9 v0 v1 h = some Z) : G g 9 [(2, v0), (0, v1), (3, 0)] [] h := by
  unfold f_X11_gatherGranted_9b at hf
  refine r_iload_n C dX11_gatherGranted_9 rfl ?_
  refine r_aload_n C dX11_gatherGranted_10 rfl ?_
  obtain ⟨q1, hf⟩ := gf_s hf
  refine r_gf C ct11 (j := 0) (ji := 0) dX11_gatherGranted_11 q1 rfl rfl (by decide) w_440 rfl (fun c1 => ?_)
  obtain ⟨q2, hf⟩ := gf_s hf
  refine r_gf C ct10 (j := 1) (ji := 1) dX11_gatherGranted_14 q2 rfl rfl (by decide) w_302 rfl (fun c2 => ?_)
  obtain ⟨q3, hf⟩ := gf_s hf
  refine r_gf C ct5 (j := 7) (ji := 7) dX11_gatherGranted_17 q3 rfl rfl (by decide) w_180 rfl (fun c3 => ?_)
  have c3 : in32 _ := c3
  refine r_icmp_ge C dX11_gatherGranted_20 (tgt := 72) (by decide) cv1 c3 (fun n4 => ?_) (fun n4 => ?_)
  · have hf := ite_p n4 hf
    cases hf
    exact r_vret C hr dX11_gatherGranted_72
  · have hf := ite_n n4 hf
    refine r_aload_n C dX11_gatherGranted_23 rfl ?_
    obtain ⟨q5, hf⟩ := gf_s hf
    refine r_gf C ct11 (j := 0) (ji := 0) dX11_gatherGranted_24 q5 rfl rfl (by decide) w_440 rfl (fun c5 => ?_)
    obtain ⟨q6, hf⟩ := gf_s hf
    refine r_gf C ct10 (j := 1) (ji := 1) dX11_gatherGranted_27 q6 rfl rfl (by decide) w_302 rfl (fun c6 => ?_)
    refine r_iload_n C dX11_gatherGranted_30 rfl ?_
    refine r_iconst C dX11_gatherGranted_31 ?_
    obtain ⟨p7, hf⟩ := gk_s hf
    obtain ⟨r7, h7, hq7, hf⟩ := bd_s hf
    refine r_cV2 C (am_X5_find (gl g) n) cm_X5_find w_798 dX11_gatherGranted_32 ⟨Nat.le_of_ble_eq_true rfl, Nat.le_of_ble_eq_true rfl⟩ p7 rfl cv1 (in32_of rfl) rfl (Nat.le_of_ble_eq_true rfl) hq7 (by decide) (fun c7 => ?_)
    refine r_astore_n C dX11_gatherGranted_35 (Nat.le_of_ble_eq_true rfl) rfl ?_
    refine r_aload_n C dX11_gatherGranted_36 rfl ?_
    refine r_ifnull C dX11_gatherGranted_37 (tgt := 66) (by decide) (fun n8 => ?_) (fun n8 => ?_)
    · have hf := ite_p n8 hf
      exact G.mask [true, true, false] rfl rfl (b_X11_gatherGranted_66 C hr L9 cv1 hf)
    · have hf := ite_n n8 hf
      refine r_aload_n C dX11_gatherGranted_40 rfl ?_
      obtain ⟨q9, hf⟩ := gf_s hf
      refine r_gf C ct11 (j := 0) (ji := 0) dX11_gatherGranted_41 q9 rfl rfl (by decide) w_440 rfl (fun c9 => ?_)
      obtain ⟨q10, hf⟩ := gf_s hf
      refine r_gf C ct10 (j := 1) (ji := 1) dX11_gatherGranted_44 q10 rfl rfl (by decide) w_302 rfl (fun c10 => ?_)
      refine r_iload_n C dX11_gatherGranted_47 rfl ?_
      obtain ⟨p11, hf⟩ := gk_s hf
      obtain ⟨r11, h11, hq11, hf⟩ := bd_s hf
      refine r_cV1 C (am_X5_isMarked (gl g) n) cm_X5_isMarked w_993 dX11_gatherGranted_48 ⟨Nat.le_of_ble_eq_true rfl, Nat.le_of_ble_eq_true rfl⟩ p11 rfl cv1 rfl (Nat.le_of_ble_eq_true rfl) hq11 (by decide) (fun c11 => ?_)
      have c11 : in32 _ := c11
      refine r_if_eq C dX11_gatherGranted_51 (tgt := 66) (by decide) c11 (fun n12 => ?_) (fun n12 => ?_)
      · have hf := ite_p n12 hf
        exact G.mask [true, true, false] rfl rfl (b_X11_gatherGranted_66 C hr L9 cv1 hf)
      · have hf := ite_n n12 hf
        refine r_aload_n C dX11_gatherGranted_54 rfl ?_
        obtain ⟨q13, hf⟩ := gf_s hf
        refine r_gf C ct11 (j := 6) (ji := 6) dX11_gatherGranted_55 q13 rfl rfl (by decide) w_446 rfl (fun c13 => ?_)
        refine r_iload_n C dX11_gatherGranted_58 rfl ?_
        refine r_aload_n C dX11_gatherGranted_59 rfl ?_
        refine r_lconst C (v := 0) dX11_gatherGranted_60 rfl ?_
        refine r_iconst C dX11_gatherGranted_61 ?_
        refine r_iconst C dX11_gatherGranted_62 ?_
        obtain ⟨p14, hf⟩ := gk_s hf
        obtain ⟨r14, h14, hq14, hf⟩ := bd_s hf
        refine r_cV5v C (am_X2_add (gl g) n) cm_X2_add w_1282 dX11_gatherGranted_63 ⟨Nat.le_of_ble_eq_true rfl, Nat.le_of_ble_eq_true rfl⟩ p14 rfl cv1 trivial (in64_of rfl) (in32_of rfl) (in32_of rfl) rfl (Nat.le_of_ble_eq_true rfl) hq14 ?_
        exact G.mask [true, true, false] rfl rfl (b_X11_gatherGranted_66 C hr L9 cv1 hf)
set_option maxRecDepth 20000 in
theorem l_X11_gatherGranted_9 {g : GT} {Z : Int × MM} {n : Nat} (C : Cx g cX11_gatherGranted 3 yX11_gatherGranted 3 67) (hr : Rt g none 3 Z) {v0 : Int}    : ∀ (k : Nat) (v1 : Int) (h : MM), in32 v1 → f_X11_gatherGranted_9 n  v0 k v1 h = some Z → G g 9 [(2, v0), (0, v1), (3, 0)] [] h := by
  intro k
  induction k with
  | zero => intro v1 h cv1 hf; exact absurd hf (by intro z; cases z)
  | succ k ih => intro v1 h cv1 hf; exact b_X11_gatherGranted_9b C hr (rec9 := f_X11_gatherGranted_9 n  v0 k)  ih cv1 (show f_X11_gatherGranted_9b n  (f_X11_gatherGranted_9 n  v0 k) v0 v1 h = some Z from hf)
set_option maxRecDepth 20000 in
theorem e_X11_gatherGranted {g : GT} {Z : Int × MM} {n : Nat} (C : Cx g cX11_gatherGranted 3 yX11_gatherGranted 3 67) (hr : Rt g none 3 Z) {v0 : Int} (cv0 : cK 2 v0) {h : MM} (hf : f_X11_gatherGranted n v0 h = some Z) : G g 0 [(2, v0), (3, 0), (3, 0)] [] h := by
  unfold f_X11_gatherGranted at hf
  refine r_aload_n C dX11_gatherGranted_0 rfl ?_
  obtain ⟨q1, hf⟩ := gf_s hf
  refine r_gf C ct11 (j := 6) (ji := 6) dX11_gatherGranted_1 q1 rfl rfl (by decide) w_446 rfl (fun c1 => ?_)
  obtain ⟨p2, hf⟩ := gk_s hf
  obtain ⟨r2, h2, hq2, hf⟩ := bd_s hf
  refine r_cV0v C (am_X2_clear (gl g) n) cm_X2_clear w_1278 dX11_gatherGranted_4 ⟨Nat.le_of_ble_eq_true rfl, Nat.le_of_ble_eq_true rfl⟩ p2 rfl  rfl (Nat.le_of_ble_eq_true rfl) hq2 ?_
  refine r_iconst C dX11_gatherGranted_7 ?_
  refine r_istore_n C dX11_gatherGranted_8 (Nat.le_of_ble_eq_true rfl) rfl ?_
  exact G.mask [true, true, false] rfl rfl (l_X11_gatherGranted_9 C hr   _ _ _ (in32_of rfl) hf)
set_option maxRecDepth 20000 in
theorem am_X11_gatherGranted (l : Launch) (n : Nat) : AM l yX11_gatherGranted cX11_gatherGranted 3 none 3 67 [2] 3 (un1 (f_X11_gatherGranted n)) := by
  refine AM.intro (by decide) (fun xs hx => ?_) (fun g xs h Z hl C hr hx hf => ?_)
  · obtain ⟨a0, rfl, c0⟩ := canL_1 hx
    exact Nat.le_of_ble_eq_true rfl
  · obtain ⟨a0, rfl, c0⟩ := canL_1 hx
    have hf := (un1_e _ a0 _).symm.trans hf
    exact e_X11_gatherGranted (n := n) C hr c0 hf
/-! LinesPromised$Lines.join(II)Z -/
theorem dX2_join_0 : decode cX2_join 0 = .ok (.iload_n 1, 1) := by decide +kernel
theorem dX2_join_1 : decode cX2_join 1 = .ok (.iload_n 1, 1) := by decide +kernel
theorem dX2_join_2 : decode cX2_join 2 = .ok (.ineg, 1) := by decide +kernel
theorem dX2_join_3 : decode cX2_join 3 = .ok (.iand, 1) := by decide +kernel
theorem dX2_join_4 : decode cX2_join 4 = .ok (.istore_n 3, 1) := by decide +kernel
theorem dX2_join_5 : decode cX2_join 5 = .ok (.iconst 0, 1) := by decide +kernel
theorem dX2_join_6 : decode cX2_join 6 = .ok (.istore 4, 2) := by decide +kernel
theorem dX2_join_8 : decode cX2_join 8 = .ok (.iconst 0, 1) := by decide +kernel
theorem dX2_join_9 : decode cX2_join 9 = .ok (.istore 5, 2) := by decide +kernel
theorem dX2_join_11 : decode cX2_join 11 = .ok (.iload 5, 2) := by decide +kernel
theorem dX2_join_13 : decode cX2_join 13 = .ok (.bipush 6, 2) := by decide +kernel
theorem dX2_join_15 : decode cX2_join 15 = .ok (.if_icmp .ge 67, 3) := by decide +kernel
theorem dX2_join_18 : decode cX2_join 18 = .ok (.iload_n 3, 1) := by decide +kernel
theorem dX2_join_19 : decode cX2_join 19 = .ok (.iload 4, 2) := by decide +kernel
theorem dX2_join_21 : decode cX2_join 21 = .ok (.if_icmp .eq 61, 3) := by decide +kernel
theorem dX2_join_24 : decode cX2_join 24 = .ok (.iload_n 3, 1) := by decide +kernel
theorem dX2_join_25 : decode cX2_join 25 = .ok (.istore 4, 2) := by decide +kernel
theorem dX2_join_27 : decode cX2_join 27 = .ok (.iconst 0, 1) := by decide +kernel
theorem dX2_join_28 : decode cX2_join 28 = .ok (.istore 6, 2) := by decide +kernel
theorem dX2_join_30 : decode cX2_join 30 = .ok (.iload 6, 2) := by decide +kernel
theorem dX2_join_32 : decode cX2_join 32 = .ok (.aload_n 0, 1) := by decide +kernel
theorem dX2_join_33 : decode cX2_join 33 = .ok (.getfield 27, 3) := by decide +kernel
theorem dX2_join_36 : decode cX2_join 36 = .ok (.if_icmp .ge 40, 3) := by decide +kernel
theorem dX2_join_39 : decode cX2_join 39 = .ok (.iload_n 2, 1) := by decide +kernel
theorem dX2_join_40 : decode cX2_join 40 = .ok (.iload 6, 2) := by decide +kernel
theorem dX2_join_42 : decode cX2_join 42 = .ok (.ishr, 1) := by decide +kernel
theorem dX2_join_43 : decode cX2_join 43 = .ok (.iconst 1, 1) := by decide +kernel
theorem dX2_join_44 : decode cX2_join 44 = .ok (.iand, 1) := by decide +kernel
theorem dX2_join_45 : decode cX2_join 45 = .ok (.ifCond .eq 25, 3) := by decide +kernel
theorem dX2_join_48 : decode cX2_join 48 = .ok (.aload_n 0, 1) := by decide +kernel
theorem dX2_join_49 : decode cX2_join 49 = .ok (.getfield 15, 3) := by decide +kernel
theorem dX2_join_52 : decode cX2_join 52 = .ok (.iload 6, 2) := by decide +kernel
theorem dX2_join_54 : decode cX2_join 54 = .ok (.iaload, 1) := by decide +kernel
theorem dX2_join_55 : decode cX2_join 55 = .ok (.iload_n 3, 1) := by decide +kernel
theorem dX2_join_56 : decode cX2_join 56 = .ok (.iand, 1) := by decide +kernel
theorem dX2_join_57 : decode cX2_join 57 = .ok (.ifCond .eq 13, 3) := by decide +kernel
theorem dX2_join_60 : decode cX2_join 60 = .ok (.iload_n 3, 1) := by decide +kernel
theorem dX2_join_61 : decode cX2_join 61 = .ok (.aload_n 0, 1) := by decide +kernel
theorem dX2_join_62 : decode cX2_join 62 = .ok (.getfield 15, 3) := by decide +kernel
theorem dX2_join_65 : decode cX2_join 65 = .ok (.iload 6, 2) := by decide +kernel
theorem dX2_join_67 : decode cX2_join 67 = .ok (.iaload, 1) := by decide +kernel
theorem dX2_join_68 : decode cX2_join 68 = .ok (.ior, 1) := by decide +kernel
theorem dX2_join_69 : decode cX2_join 69 = .ok (.istore_n 3, 1) := by decide +kernel
theorem dX2_join_70 : decode cX2_join 70 = .ok (.iinc 6 1, 3) := by decide +kernel
theorem dX2_join_73 : decode cX2_join 73 = .ok (.goto (-43), 3) := by decide +kernel
theorem dX2_join_76 : decode cX2_join 76 = .ok (.iinc 5 1, 3) := by decide +kernel
theorem dX2_join_79 : decode cX2_join 79 = .ok (.goto (-68), 3) := by decide +kernel
theorem dX2_join_82 : decode cX2_join 82 = .ok (.iload_n 1, 1) := by decide +kernel
theorem dX2_join_83 : decode cX2_join 83 = .ok (.iload_n 3, 1) := by decide +kernel
theorem dX2_join_84 : decode cX2_join 84 = .ok (.iconst (-1), 1) := by decide +kernel
theorem dX2_join_85 : decode cX2_join 85 = .ok (.ixor, 1) := by decide +kernel
theorem dX2_join_86 : decode cX2_join 86 = .ok (.iand, 1) := by decide +kernel
theorem dX2_join_87 : decode cX2_join 87 = .ok (.ifCond .ne 7, 3) := by decide +kernel
theorem dX2_join_90 : decode cX2_join 90 = .ok (.iconst 1, 1) := by decide +kernel
theorem dX2_join_91 : decode cX2_join 91 = .ok (.goto 4, 3) := by decide +kernel
theorem dX2_join_94 : decode cX2_join 94 = .ok (.iconst 0, 1) := by decide +kernel
theorem dX2_join_95 : decode cX2_join 95 = .ok (.ireturn, 1) := by decide +kernel
theorem cm_X2_join : CM yX2_join cX2_join 7 (some .boolean) 2 2 := ⟨w_1293, w_36, w_1294, w_96, ⟨by decide +kernel, by decide +kernel, by decide +kernel⟩, ⟨_, _, rfl⟩, by decide⟩
noncomputable def f_X2_join_95 (n : Nat)  (s0 : Int) (h : MM) : RR :=
  ck (isb s0) <|
  some (s0, h)
noncomputable def f_X2_join_82 (n : Nat)  (v1 v3 : Int) (h : MM) : RR :=
  if ban v1 (bxo v3 ((-1))) = 0 then
    f_X2_join_95 n 1 h
  else
  f_X2_join_95 n 0 h
noncomputable def f_X2_join_70 (n : Nat) (rec11 : Int → Int → Int → MM → RR) (rec30 : Int → Int → MM → RR) (v0 v1 v2 v3 v4 v5 v6 : Int) (h : MM) : RR :=
  lb (wr (v6 + 1)) fun x1 =>
  rec30 v3 x1 h
noncomputable def f_X2_join_30b (n : Nat) (rec11 : Int → Int → Int → MM → RR) (rec30 : Int → Int → MM → RR) (v0 v1 v2 v3 v4 v5 v6 : Int) (h : MM) : RR :=
  gf h v0 2 6 fun r1 =>
  if r1 ≤ v6 then
    lb (wr (v5 + 1)) fun x3 =>
    rec11 v3 v4 x3 h
  else
  if ban (shr v2 v6) 1 = 0 then
    f_X2_join_70 n rec11 rec30 v0 v1 v2 v3 v4 v5 v6 h
  else
  gf h v0 2 1 fun r5 =>
  rd h r5 100 v6 fun r6 =>
  if ban r6 v3 = 0 then
    f_X2_join_70 n rec11 rec30 v0 v1 v2 v3 v4 v5 v6 h
  else
  gf h v0 2 1 fun r8 =>
  rd h r8 100 v6 fun r9 =>
  lb (bor v3 r9) fun x10 =>
  f_X2_join_70 n rec11 rec30 v0 v1 v2 x10 v4 v5 v6 h
noncomputable def f_X2_join_30 (n : Nat) (rec11 : Int → Int → Int → MM → RR) (v0 v1 v2 v4 v5 : Int) : Nat → Int → Int → MM → RR
  | 0, _, _, _ => none
  | k + 1, v3, v6, h => f_X2_join_30b n rec11 (f_X2_join_30 n rec11 v0 v1 v2 v4 v5 k) v0 v1 v2 v3 v4 v5 v6 h
noncomputable def f_X2_join_11b (n : Nat) (rec11 : Int → Int → Int → MM → RR) (v0 v1 v2 v3 v4 v5 : Int) (h : MM) : RR :=
  if 6 ≤ v5 then
    f_X2_join_82 n v1 v3 h
  else
  if v3 = v4 then
    f_X2_join_82 n v1 v3 h
  else
  f_X2_join_30 n rec11 v0 v1 v2 v3 v5 n v3 0 h
noncomputable def f_X2_join_11 (n : Nat)  (v0 v1 v2 : Int) : Nat → Int → Int → Int → MM → RR
  | 0, _, _, _, _ => none
  | k + 1, v3, v4, v5, h => f_X2_join_11b n  (f_X2_join_11 n  v0 v1 v2 k) v0 v1 v2 v3 v4 v5 h
noncomputable def f_X2_join (n : Nat) (v0 v1 v2 : Int) (h : MM) : RR :=
  lb (ban v1 (wr (-v1))) fun x1 =>
  f_X2_join_11 n v0 v1 v2 n x1 0 0 h
set_option maxRecDepth 20000 in
theorem b_X2_join_95 {g : GT} {Z : Int × MM} {n : Nat} (C : Cx g cX2_join 7 yX2_join 0 0) (hr : Rt g (some .boolean) 0 Z) {s0 : Int}    (cs0 : in32 s0) {h : MM} (hf : f_X2_join_95 n  s0 h = some Z) : G g 95 [(3, 0), (3, 0), (3, 0), (3, 0), (3, 0), (3, 0), (3, 0)] [(0, s0)] h := by
  unfold f_X2_join_95 at hf
  obtain ⟨b1, hf⟩ := ck_s hf
  cases hf
  exact r_zret C hr dX2_join_95 b1
set_option maxRecDepth 20000 in
theorem b_X2_join_82 {g : GT} {Z : Int × MM} {n : Nat} (C : Cx g cX2_join 7 yX2_join 0 0) (hr : Rt g (some .boolean) 0 Z) {v1 v3 : Int}    (cv1 : in32 v1) (cv3 : in32 v3) {h : MM} (hf : f_X2_join_82 n  v1 v3 h = some Z) : G g 82 [(3, 0), (0, v1), (3, 0), (0, v3), (3, 0), (3, 0), (3, 0)] [] h := by
  unfold f_X2_join_82 at hf
  refine r_iload_n C dX2_join_82 rfl ?_
  refine r_iload_n C dX2_join_83 rfl ?_
  refine r_iconst C dX2_join_84 ?_
  refine r_ixor C dX2_join_85 ?_
  refine r_iand C dX2_join_86 ?_
  refine r_if_ne C dX2_join_87 (tgt := 94) (by decide) (in32_t _) (fun n1 => ?_) (fun n1 => ?_)
  · have hf := ite_n n1 hf
    refine r_iconst C dX2_join_94 ?_
    exact G.mask [false, false, false, false, false, false, false] rfl rfl (b_X2_join_95 C hr  (in32_of rfl) hf)
  · have hf := ite_p n1 hf
    refine r_iconst C dX2_join_90 ?_
    refine r_goto C dX2_join_91 (tgt := 95) (by decide) ?_
    exact G.mask [false, false, false, false, false, false, false] rfl rfl (b_X2_join_95 C hr  (in32_of rfl) hf)
set_option maxRecDepth 20000 in
theorem b_X2_join_70 {g : GT} {Z : Int × MM} {n : Nat} (C : Cx g cX2_join 7 yX2_join 0 0) (hr : Rt g (some .boolean) 0 Z) {v0 v1 v2 v3 v4 v5 v6 : Int}  {rec11 : Int → Int → Int → MM → RR} {rec30 : Int → Int → MM → RR} (L11 : ∀ (u3 u4 u5 : Int) (h : MM), in32 u3 → in32 u4 → in32 u5 → rec11 u3 u4 u5 h = some Z → G g 11 [(2, v0), (0, v1), (0, v2), (0, u3), (0, u4), (0, u5), (3, 0)] [] h) (L30 : ∀ (u3 u6 : Int) (h : MM), in32 u3 → in32 u6 → rec30 u3 u6 h = some Z → G g 30 [(2, v0), (0, v1), (0, v2), (0, u3), (0, v4), (0, v5), (0, u6)] [] h) (cv1 : in32 v1) (cv2 : in32 v2) (cv3 : in32 v3) (cv4 : in32 v4) (cv5 : in32 v5) (cv6 : in32 v6) {h : MM} (hf : f_X2_join_70 n rec11 rec30 v0 v1 v2 v3 v4 v5 v6 h = some Z) : G g 70 [(2, v0), (0, v1), (0, v2), (0, v3), (0, v4), (0, v5), (0, v6)] [] h := by
  unfold f_X2_join_70 at hf
  obtain ⟨x1, e1, hf⟩ := lb_s hf
  have c1 : in32 x1 := by rw [e1]; exact (in32_t _)
  refine r_iincL C dX2_join_70 rfl e1 (Nat.le_of_ble_eq_true rfl) rfl ?_
  refine r_goto C dX2_join_73 (tgt := 30) (by decide) ?_
  exact G.mask [true, true, true, true, true, true, true] rfl rfl (L30 _ _ _ cv3 c1 hf)
set_option maxRecDepth 20000 in
theorem b_X2_join_30b {g : GT} {Z : Int × MM} {n : Nat} (C : Cx g cX2_join 7 yX2_join 0 0) (hr : Rt g (some .boolean) 0 Z) {v0 v1 v2 v3 v4 v5 v6 : Int}  {rec11 : Int → Int → Int → MM → RR} {rec30 : Int → Int → MM → RR} (L11 : ∀ (u3 u4 u5 : Int) (h : MM), in32 u3 → in32 u4 → in32 u5 → rec11 u3 u4 u5 h = some Z → G g 11 [(2, v0), (0, v1), (0, v2), (0, u3), (0, u4), (0, u5), (3, 0)] [] h) (L30 : ∀ (u3 u6 : Int) (h : MM), in32 u3 → in32 u6 → rec30 u3 u6 h = some Z → G g 30 [(2, v0), (0, v1), (0, v2), (0, u3), (0, v4), (0, v5), (0, u6)] [] h) (cv1 : in32 v1) (cv2 : in32 v2) (cv3 : in32 v3) (cv4 : in32 v4) (cv5 : in32 v5) (cv6 : in32 v6) {h : MM} (hf : f_X2_join_30b n rec11 rec30 v0 v1 v2 v3 v4 v5 v6 h = some Z) : G g 30 [(2, v0), (0, v1), (0, v2), (0, v3), (0, v4), (0, v5), (0, v6)] [] h := by
  unfold f_X2_join_30b at hf
  refine r_iload C dX2_join_30 rfl ?_
  refine r_aload_n C dX2_join_32 rfl ?_
  obtain ⟨q1, hf⟩ := gf_s hf
  refine r_gf C ct2 (j := 6) (ji := 6) dX2_join_33 q1 rfl rfl (by decide) w_423 rfl (fun c1 => ?_)
  have c1 : in32 _ := c1
  refine r_icmp_ge C dX2_join_36 (tgt := 76) (by decide) cv6 c1 (fun n2 => ?_) (fun n2 => ?_)
  · have hf := ite_p n2 hf
    obtain ⟨x3, e3, hf⟩ := lb_s hf
    have c3 : in32 x3 := by rw [e3]; exact (in32_t _)
    refine r_iincL C dX2_join_76 rfl e3 (Nat.le_of_ble_eq_true rfl) rfl ?_
    refine r_goto C dX2_join_79 (tgt := 11) (by decide) ?_
    exact G.mask [true, true, true, true, true, true, false] rfl rfl (L11 _ _ _ _ cv3 cv4 c3 hf)
  · have hf := ite_n n2 hf
    refine r_iload_n C dX2_join_39 rfl ?_
    refine r_iload C dX2_join_40 rfl ?_
    refine r_ishr C dX2_join_42 ?_
    refine r_iconst C dX2_join_43 ?_
    refine r_iand C dX2_join_44 ?_
    refine r_if_eq C dX2_join_45 (tgt := 70) (by decide) (in32_t _) (fun n4 => ?_) (fun n4 => ?_)
    · have hf := ite_p n4 hf
      exact G.mask [true, true, true, true, true, true, true] rfl rfl (b_X2_join_70 C hr L11 L30 cv1 cv2 cv3 cv4 cv5 cv6 hf)
    · have hf := ite_n n4 hf
      refine r_aload_n C dX2_join_48 rfl ?_
      obtain ⟨q5, hf⟩ := gf_s hf
      refine r_gf C ct2 (j := 1) (ji := 1) dX2_join_49 q5 rfl rfl (by decide) w_418 rfl (fun c5 => ?_)
      refine r_iload C dX2_join_52 rfl ?_
      obtain ⟨q6, hf⟩ := rd_s hf
      refine r_iald C dX2_join_54 q6 rfl (fun c6 => ?_)
      refine r_iload_n C dX2_join_55 rfl ?_
      refine r_iand C dX2_join_56 ?_
      refine r_if_eq C dX2_join_57 (tgt := 70) (by decide) (in32_t _) (fun n7 => ?_) (fun n7 => ?_)
      · have hf := ite_p n7 hf
        exact G.mask [true, true, true, true, true, true, true] rfl rfl (b_X2_join_70 C hr L11 L30 cv1 cv2 cv3 cv4 cv5 cv6 hf)
      · have hf := ite_n n7 hf
        refine r_iload_n C dX2_join_60 rfl ?_
        refine r_aload_n C dX2_join_61 rfl ?_
        obtain ⟨q8, hf⟩ := gf_s hf
        refine r_gf C ct2 (j := 1) (ji := 1) dX2_join_62 q8 rfl rfl (by decide) w_418 rfl (fun c8 => ?_)
        refine r_iload C dX2_join_65 rfl ?_
        obtain ⟨q9, hf⟩ := rd_s hf
        refine r_iald C dX2_join_67 q9 rfl (fun c9 => ?_)
        refine r_ior C dX2_join_68 ?_
        obtain ⟨x10, e10, hf⟩ := lb_s hf
        have c10 : in32 x10 := by rw [e10]; exact (in32_t _)
        refine r_istore_nL C dX2_join_69 e10 (Nat.le_of_ble_eq_true rfl) rfl ?_
        exact G.mask [true, true, true, true, true, true, true] rfl rfl (b_X2_join_70 C hr L11 L30 cv1 cv2 c10 cv4 cv5 cv6 hf)
set_option maxRecDepth 20000 in
theorem l_X2_join_30 {g : GT} {Z : Int × MM} {n : Nat} (C : Cx g cX2_join 7 yX2_join 0 0) (hr : Rt g (some .boolean) 0 Z) {v0 v1 v2 v4 v5 : Int} {rec11 : Int → Int → Int → MM → RR} (L11 : ∀ (u3 u4 u5 : Int) (h : MM), in32 u3 → in32 u4 → in32 u5 → rec11 u3 u4 u5 h = some Z → G g 11 [(2, v0), (0, v1), (0, v2), (0, u3), (0, u4), (0, u5), (3, 0)] [] h) (cv1 : in32 v1) (cv2 : in32 v2) (cv4 : in32 v4) (cv5 : in32 v5) : ∀ (k : Nat) (v3 v6 : Int) (h : MM), in32 v3 → in32 v6 → f_X2_join_30 n rec11 v0 v1 v2 v4 v5 k v3 v6 h = some Z → G g 30 [(2, v0), (0, v1), (0, v2), (0, v3), (0, v4), (0, v5), (0, v6)] [] h := by
  intro k
  induction k with
  | zero => intro v3 v6 h cv3 cv6 hf; exact absurd hf (by intro z; cases z)
  | succ k ih => intro v3 v6 h cv3 cv6 hf; exact b_X2_join_30b C hr (rec30 := f_X2_join_30 n rec11 v0 v1 v2 v4 v5 k) L11 ih cv1 cv2 cv3 cv4 cv5 cv6 (show f_X2_join_30b n rec11 (f_X2_join_30 n rec11 v0 v1 v2 v4 v5 k) v0 v1 v2 v3 v4 v5 v6 h = some Z from hf)
set_option maxRecDepth 20000 in
theorem b_X2_join_11b {g : GT} {Z : Int × MM} {n : Nat} (C : Cx g cX2_join 7 yX2_join 0 0) (hr : Rt g (some .boolean) 0 Z) {v0 v1 v2 v3 v4 v5 : Int}  {rec11 : Int → Int → Int → MM → RR} (L11 : ∀ (u3 u4 u5 : Int) (h : MM), in32 u3 → in32 u4 → in32 u5 → rec11 u3 u4 u5 h = some Z → G g 11 [(2, v0), (0, v1), (0, v2), (0, u3), (0, u4), (0, u5), (3, 0)] [] h) (cv1 : in32 v1) (cv2 : in32 v2) (cv3 : in32 v3) (cv4 : in32 v4) (cv5 : in32 v5) {h : MM} (hf : f_X2_join_11b n rec11 v0 v1 v2 v3 v4 v5 h = some Z) : G g 11 [(2, v0), (0, v1), (0, v2), (0, v3), (0, v4), (0, v5), (3, 0)] [] h := by
  unfold f_X2_join_11b at hf
  refine r_iload C dX2_join_11 rfl ?_
  refine r_bipush C dX2_join_13 rfl ?_
  refine r_icmp_ge C dX2_join_15 (tgt := 82) (by decide) cv5 (in32_of rfl) (fun n1 => ?_) (fun n1 => ?_)
  · have hf := ite_p n1 hf
    exact G.mask [false, true, false, true, false, false, false] rfl rfl (b_X2_join_82 C hr  cv1 cv3 hf)
  · have hf := ite_n n1 hf
    refine r_iload_n C dX2_join_18 rfl ?_
    refine r_iload C dX2_join_19 rfl ?_
    refine r_icmp_eq C dX2_join_21 (tgt := 82) (by decide) cv3 cv4 (fun n2 => ?_) (fun n2 => ?_)
    · have hf := ite_p n2 hf
      exact G.mask [false, true, false, true, false, false, false] rfl rfl (b_X2_join_82 C hr  cv1 cv3 hf)
    · have hf := ite_n n2 hf
      refine r_iload_n C dX2_join_24 rfl ?_
      refine r_istore C dX2_join_25 (Nat.le_of_ble_eq_true rfl) rfl ?_
      refine r_iconst C dX2_join_27 ?_
      refine r_istore C dX2_join_28 (Nat.le_of_ble_eq_true rfl) rfl ?_
      exact G.mask [true, true, true, true, true, true, true] rfl rfl (l_X2_join_30 C hr L11 cv1 cv2 cv3 cv5 _ _ _ _ cv3 (in32_of rfl) hf)
set_option maxRecDepth 20000 in
theorem l_X2_join_11 {g : GT} {Z : Int × MM} {n : Nat} (C : Cx g cX2_join 7 yX2_join 0 0) (hr : Rt g (some .boolean) 0 Z) {v0 v1 v2 : Int}   (cv1 : in32 v1) (cv2 : in32 v2) : ∀ (k : Nat) (v3 v4 v5 : Int) (h : MM), in32 v3 → in32 v4 → in32 v5 → f_X2_join_11 n  v0 v1 v2 k v3 v4 v5 h = some Z → G g 11 [(2, v0), (0, v1), (0, v2), (0, v3), (0, v4), (0, v5), (3, 0)] [] h := by
  intro k
  induction k with
  | zero => intro v3 v4 v5 h cv3 cv4 cv5 hf; exact absurd hf (by intro z; cases z)
  | succ k ih => intro v3 v4 v5 h cv3 cv4 cv5 hf; exact b_X2_join_11b C hr (rec11 := f_X2_join_11 n  v0 v1 v2 k)  ih cv1 cv2 cv3 cv4 cv5 (show f_X2_join_11b n  (f_X2_join_11 n  v0 v1 v2 k) v0 v1 v2 v3 v4 v5 h = some Z from hf)
set_option maxRecDepth 20000 in
theorem e_X2_join {g : GT} {Z : Int × MM} {n : Nat} (C : Cx g cX2_join 7 yX2_join 0 0) (hr : Rt g (some .boolean) 0 Z) {v0 v1 v2 : Int} (cv0 : cK 2 v0) (cv1 : cK 0 v1) (cv2 : cK 0 v2) {h : MM} (hf : f_X2_join n v0 v1 v2 h = some Z) : G g 0 [(2, v0), (0, v1), (0, v2), (3, 0), (3, 0), (3, 0), (3, 0)] [] h := by
  have cv1 : in32 v1 := cv1
  have cv2 : in32 v2 := cv2
  unfold f_X2_join at hf
  refine r_iload_n C dX2_join_0 rfl ?_
  refine r_iload_n C dX2_join_1 rfl ?_
  refine r_ineg C dX2_join_2 ?_
  refine r_iand C dX2_join_3 ?_
  obtain ⟨x1, e1, hf⟩ := lb_s hf
  have c1 : in32 x1 := by rw [e1]; exact (in32_t _)
  refine r_istore_nL C dX2_join_4 e1 (Nat.le_of_ble_eq_true rfl) rfl ?_
  refine r_iconst C dX2_join_5 ?_
  refine r_istore C dX2_join_6 (Nat.le_of_ble_eq_true rfl) rfl ?_
  refine r_iconst C dX2_join_8 ?_
  refine r_istore C dX2_join_9 (Nat.le_of_ble_eq_true rfl) rfl ?_
  exact G.mask [true, true, true, true, true, true, false] rfl rfl (l_X2_join_11 C hr  cv1 cv2 _ _ _ _ _ c1 (in32_of rfl) (in32_of rfl) hf)
set_option maxRecDepth 20000 in
theorem am_X2_join (l : Launch) (n : Nat) : AM l yX2_join cX2_join 7 (some .boolean) 0 0 [2, 0, 0] 0 (un3 (f_X2_join n)) := by
  refine AM.intro (by decide) (fun xs hx => ?_) (fun g xs h Z hl C hr hx hf => ?_)
  · obtain ⟨a0, a1, a2, rfl, c0, c1, c2⟩ := canL_3 hx
    exact Nat.le_of_ble_eq_true rfl
  · obtain ⟨a0, a1, a2, rfl, c0, c1, c2⟩ := canL_3 hx
    have hf := (un3_e _ a0 a1 a2 _).symm.trans hf
    exact e_X2_join (n := n) C hr c0 c1 c2 hf
/-! LinesPromised$Lines.fewestRelaid(I)I -/
theorem dX2_fewestRelaid_0 : decode cX2_fewestRelaid 0 = .ok (.iconst 1, 1) := by decide +kernel
theorem dX2_fewestRelaid_1 : decode cX2_fewestRelaid 1 = .ok (.aload_n 0, 1) := by decide +kernel
theorem dX2_fewestRelaid_2 : decode cX2_fewestRelaid 2 = .ok (.getfield 27, 3) := by decide +kernel
theorem dX2_fewestRelaid_5 : decode cX2_fewestRelaid 5 = .ok (.ishl, 1) := by decide +kernel
theorem dX2_fewestRelaid_6 : decode cX2_fewestRelaid 6 = .ok (.iconst 1, 1) := by decide +kernel
theorem dX2_fewestRelaid_7 : decode cX2_fewestRelaid 7 = .ok (.isub, 1) := by decide +kernel
theorem dX2_fewestRelaid_8 : decode cX2_fewestRelaid 8 = .ok (.istore_n 2, 1) := by decide +kernel
theorem dX2_fewestRelaid_9 : decode cX2_fewestRelaid 9 = .ok (.bipush (-5), 2) := by decide +kernel
theorem dX2_fewestRelaid_11 : decode cX2_fewestRelaid 11 = .ok (.istore_n 3, 1) := by decide +kernel
theorem dX2_fewestRelaid_12 : decode cX2_fewestRelaid 12 = .ok (.iconst 0, 1) := by decide +kernel
theorem dX2_fewestRelaid_13 : decode cX2_fewestRelaid 13 = .ok (.istore 4, 2) := by decide +kernel
theorem dX2_fewestRelaid_15 : decode cX2_fewestRelaid 15 = .ok (.iload 4, 2) := by decide +kernel
theorem dX2_fewestRelaid_17 : decode cX2_fewestRelaid 17 = .ok (.iload_n 2, 1) := by decide +kernel
theorem dX2_fewestRelaid_18 : decode cX2_fewestRelaid 18 = .ok (.if_icmp .gt 64, 3) := by decide +kernel
theorem dX2_fewestRelaid_21 : decode cX2_fewestRelaid 21 = .ok (.iload_n 3, 1) := by decide +kernel
theorem dX2_fewestRelaid_22 : decode cX2_fewestRelaid 22 = .ok (.ifCond .lt 18, 3) := by decide +kernel
theorem dX2_fewestRelaid_25 : decode cX2_fewestRelaid 25 = .ok (.iload 4, 2) := by decide +kernel
theorem dX2_fewestRelaid_27 : decode cX2_fewestRelaid 27 = .ok (.invokestatic 45, 3) := by decide +kernel
theorem dX2_fewestRelaid_30 : decode cX2_fewestRelaid 30 = .ok (.iload_n 3, 1) := by decide +kernel
theorem dX2_fewestRelaid_31 : decode cX2_fewestRelaid 31 = .ok (.invokestatic 45, 3) := by decide +kernel
theorem dX2_fewestRelaid_34 : decode cX2_fewestRelaid 34 = .ok (.if_icmp .lt 6, 3) := by decide +kernel
theorem dX2_fewestRelaid_37 : decode cX2_fewestRelaid 37 = .ok (.goto 39, 3) := by decide +kernel
theorem dX2_fewestRelaid_40 : decode cX2_fewestRelaid 40 = .ok (.aload_n 0, 1) := by decide +kernel
theorem dX2_fewestRelaid_41 : decode cX2_fewestRelaid 41 = .ok (.getfield 31, 3) := by decide +kernel
theorem dX2_fewestRelaid_44 : decode cX2_fewestRelaid 44 = .ok (.iload 4, 2) := by decide +kernel
theorem dX2_fewestRelaid_46 : decode cX2_fewestRelaid 46 = .ok (.ixor, 1) := by decide +kernel
theorem dX2_fewestRelaid_47 : decode cX2_fewestRelaid 47 = .ok (.istore 5, 2) := by decide +kernel
theorem dX2_fewestRelaid_49 : decode cX2_fewestRelaid 49 = .ok (.aload_n 0, 1) := by decide +kernel
theorem dX2_fewestRelaid_50 : decode cX2_fewestRelaid 50 = .ok (.iload_n 1, 1) := by decide +kernel
theorem dX2_fewestRelaid_51 : decode cX2_fewestRelaid 51 = .ok (.iload 5, 2) := by decide +kernel
theorem dX2_fewestRelaid_53 : decode cX2_fewestRelaid 53 = .ok (.invokevirtual 51, 3) := by decide +kernel
theorem dX2_fewestRelaid_56 : decode cX2_fewestRelaid 56 = .ok (.ifCond .ne 17, 3) := by decide +kernel
theorem dX2_fewestRelaid_59 : decode cX2_fewestRelaid 59 = .ok (.aload_n 0, 1) := by decide +kernel
theorem dX2_fewestRelaid_60 : decode cX2_fewestRelaid 60 = .ok (.iload_n 1, 1) := by decide +kernel
theorem dX2_fewestRelaid_61 : decode cX2_fewestRelaid 61 = .ok (.iload_n 2, 1) := by decide +kernel
theorem dX2_fewestRelaid_62 : decode cX2_fewestRelaid 62 = .ok (.iload 5, 2) := by decide +kernel
theorem dX2_fewestRelaid_64 : decode cX2_fewestRelaid 64 = .ok (.iconst (-1), 1) := by decide +kernel
theorem dX2_fewestRelaid_65 : decode cX2_fewestRelaid 65 = .ok (.ixor, 1) := by decide +kernel
theorem dX2_fewestRelaid_66 : decode cX2_fewestRelaid 66 = .ok (.iand, 1) := by decide +kernel
theorem dX2_fewestRelaid_67 : decode cX2_fewestRelaid 67 = .ok (.invokevirtual 51, 3) := by decide +kernel
theorem dX2_fewestRelaid_70 : decode cX2_fewestRelaid 70 = .ok (.ifCond .eq 6, 3) := by decide +kernel
theorem dX2_fewestRelaid_73 : decode cX2_fewestRelaid 73 = .ok (.iload 4, 2) := by decide +kernel
theorem dX2_fewestRelaid_75 : decode cX2_fewestRelaid 75 = .ok (.istore_n 3, 1) := by decide +kernel
theorem dX2_fewestRelaid_76 : decode cX2_fewestRelaid 76 = .ok (.iinc 4 1, 3) := by decide +kernel
theorem dX2_fewestRelaid_79 : decode cX2_fewestRelaid 79 = .ok (.goto (-64), 3) := by decide +kernel
theorem dX2_fewestRelaid_82 : decode cX2_fewestRelaid 82 = .ok (.iload_n 3, 1) := by decide +kernel
theorem dX2_fewestRelaid_83 : decode cX2_fewestRelaid 83 = .ok (.ireturn, 1) := by decide +kernel
theorem cm_X2_fewestRelaid : CM yX2_fewestRelaid cX2_fewestRelaid 6 (some .int) 1 2 := ⟨w_1287, w_1288, w_1289, w_96, ⟨by decide +kernel, by decide +kernel, by decide +kernel⟩, ⟨_, _, rfl⟩, by decide⟩
noncomputable def f_X2_fewestRelaid_76 (n : Nat) (rec15 : Int → Int → MM → RR) (v0 v1 v2 v3 v4 : Int) (h : MM) : RR :=
  lb (wr (v4 + 1)) fun x1 =>
  rec15 v3 x1 h
noncomputable def f_X2_fewestRelaid_73 (n : Nat) (rec15 : Int → Int → MM → RR) (v0 v1 v2 v4 : Int) (h : MM) : RR :=
  f_X2_fewestRelaid_76 n rec15 v0 v1 v2 v4 v4 h
noncomputable def f_X2_fewestRelaid_40 (n : Nat) (rec15 : Int → Int → MM → RR) (v0 v1 v2 v3 v4 : Int) (h : MM) : RR :=
  gf h v0 2 5 fun r1 =>
  lb (bxo r1 v4) fun x2 =>
  gk h v0 2 <|
  bd (f_X2_join n v0 v1 x2 h) fun r3 h3 =>
  if r3 = 0 then
    gk h3 v0 2 <|
    bd (f_X2_join n v0 v1 (ban v2 (bxo x2 ((-1)))) h3) fun r5 h5 =>
    if r5 = 0 then
      f_X2_fewestRelaid_76 n rec15 v0 v1 v2 v3 v4 h5
    else
    f_X2_fewestRelaid_73 n rec15 v0 v1 v2 v4 h5
  else
  f_X2_fewestRelaid_73 n rec15 v0 v1 v2 v4 h3
noncomputable def f_X2_fewestRelaid_15b (n : Nat) (rec15 : Int → Int → MM → RR) (v0 v1 v2 v3 v4 : Int) (h : MM) : RR :=
  if v2 < v4 then
    some (v3, h)
  else
  if v3 < 0 then
    f_X2_fewestRelaid_40 n rec15 v0 v1 v2 v3 v4 h
  else
  bd (f_J6_bitCount_0f7a4 n v4 h) fun r3 h3 =>
  bd (f_J6_bitCount_0f7a4 n v3 h3) fun r4 h4 =>
  if r3 < r4 then
    f_X2_fewestRelaid_40 n rec15 v0 v1 v2 v3 v4 h4
  else
  f_X2_fewestRelaid_76 n rec15 v0 v1 v2 v3 v4 h4
noncomputable def f_X2_fewestRelaid_15 (n : Nat)  (v0 v1 v2 : Int) : Nat → Int → Int → MM → RR
  | 0, _, _, _ => none
  | k + 1, v3, v4, h => f_X2_fewestRelaid_15b n  (f_X2_fewestRelaid_15 n  v0 v1 v2 k) v0 v1 v2 v3 v4 h
noncomputable def f_X2_fewestRelaid (n : Nat) (v0 v1 : Int) (h : MM) : RR :=
  gf h v0 2 6 fun r1 =>
  lb (wr ((shl 1 r1) - 1)) fun x2 =>
  f_X2_fewestRelaid_15 n v0 v1 x2 n ((-5)) 0 h
set_option maxRecDepth 20000 in
theorem b_X2_fewestRelaid_76 {g : GT} {Z : Int × MM} {n : Nat} (C : Cx g cX2_fewestRelaid 6 yX2_fewestRelaid 1 26) (hr : Rt g (some .int) 0 Z) {v0 v1 v2 v3 v4 : Int}  {rec15 : Int → Int → MM → RR} (L15 : ∀ (u3 u4 : Int) (h : MM), in32 u3 → in32 u4 → rec15 u3 u4 h = some Z → G g 15 [(2, v0), (0, v1), (0, v2), (0, u3), (0, u4), (3, 0)] [] h) (cv1 : in32 v1) (cv2 : in32 v2) (cv3 : in32 v3) (cv4 : in32 v4) {h : MM} (hf : f_X2_fewestRelaid_76 n rec15 v0 v1 v2 v3 v4 h = some Z) : G g 76 [(2, v0), (0, v1), (0, v2), (0, v3), (0, v4), (3, 0)] [] h := by
  unfold f_X2_fewestRelaid_76 at hf
  obtain ⟨x1, e1, hf⟩ := lb_s hf
  have c1 : in32 x1 := by rw [e1]; exact (in32_t _)
  refine r_iincL C dX2_fewestRelaid_76 rfl e1 (Nat.le_of_ble_eq_true rfl) rfl ?_
  refine r_goto C dX2_fewestRelaid_79 (tgt := 15) (by decide) ?_
  exact G.mask [true, true, true, true, true, false] rfl rfl (L15 _ _ _ cv3 c1 hf)
set_option maxRecDepth 20000 in
theorem b_X2_fewestRelaid_73 {g : GT} {Z : Int × MM} {n : Nat} (C : Cx g cX2_fewestRelaid 6 yX2_fewestRelaid 1 26) (hr : Rt g (some .int) 0 Z) {v0 v1 v2 v4 : Int}  {rec15 : Int → Int → MM → RR} (L15 : ∀ (u3 u4 : Int) (h : MM), in32 u3 → in32 u4 → rec15 u3 u4 h = some Z → G g 15 [(2, v0), (0, v1), (0, v2), (0, u3), (0, u4), (3, 0)] [] h) (cv1 : in32 v1) (cv2 : in32 v2) (cv4 : in32 v4) {h : MM} (hf : f_X2_fewestRelaid_73 n rec15 v0 v1 v2 v4 h = some Z) : G g 73 [(2, v0), (0, v1), (0, v2), (3, 0), (0, v4), (3, 0)] [] h := by
  unfold f_X2_fewestRelaid_73 at hf
  refine r_iload C dX2_fewestRelaid_73 rfl ?_
  refine r_istore_n C dX2_fewestRelaid_75 (Nat.le_of_ble_eq_true rfl) rfl ?_
  exact G.mask [true, true, true, true, true, false] rfl rfl (b_X2_fewestRelaid_76 C hr L15 cv1 cv2 cv4 cv4 hf)
set_option maxRecDepth 20000 in
theorem b_X2_fewestRelaid_40 {g : GT} {Z : Int × MM} {n : Nat} (C : Cx g cX2_fewestRelaid 6 yX2_fewestRelaid 1 26) (hr : Rt g (some .int) 0 Z) {v0 v1 v2 v3 v4 : Int}  {rec15 : Int → Int → MM → RR} (L15 : ∀ (u3 u4 : Int) (h : MM), in32 u3 → in32 u4 → rec15 u3 u4 h = some Z → G g 15 [(2, v0), (0, v1), (0, v2), (0, u3), (0, u4), (3, 0)] [] h) (cv1 : in32 v1) (cv2 : in32 v2) (cv3 : in32 v3) (cv4 : in32 v4) {h : MM} (hf : f_X2_fewestRelaid_40 n rec15 v0 v1 v2 v3 v4 h = some Z) : G g 40 [(2, v0), (0, v1), (0, v2), (0, v3), (0, v4), (3, 0)] [] h := by
  unfold f_X2_fewestRelaid_40 at hf
  refine r_aload_n C dX2_fewestRelaid_40 rfl ?_
  obtain ⟨q1, hf⟩ := gf_s hf
  refine r_gf C ct2 (j := 5) (ji := 5) dX2_fewestRelaid_41 q1 rfl rfl (by decide) w_422 rfl (fun c1 => ?_)
  have c1 : in32 _ := c1
  refine r_iload C dX2_fewestRelaid_44 rfl ?_
  refine r_ixor C dX2_fewestRelaid_46 ?_
  obtain ⟨x2, e2, hf⟩ := lb_s hf
  have c2 : in32 x2 := by rw [e2]; exact (in32_t _)
  refine r_istoreL C dX2_fewestRelaid_47 e2 (Nat.le_of_ble_eq_true rfl) rfl ?_
  refine r_aload_n C dX2_fewestRelaid_49 rfl ?_
  refine r_iload_n C dX2_fewestRelaid_50 rfl ?_
  refine r_iload C dX2_fewestRelaid_51 rfl ?_
  obtain ⟨p3, hf⟩ := gk_s hf
  obtain ⟨r3, h3, hq3, hf⟩ := bd_s hf
  refine r_cV2 C (am_X2_join (gl g) n) cm_X2_join w_1291 dX2_fewestRelaid_53 ⟨Nat.le_of_ble_eq_true rfl, Nat.le_of_ble_eq_true rfl⟩ p3 rfl cv1 c2 rfl (Nat.le_of_ble_eq_true rfl) hq3 (by decide) (fun c3 => ?_)
  have c3 : in32 _ := c3
  refine r_if_ne C dX2_fewestRelaid_56 (tgt := 73) (by decide) c3 (fun n4 => ?_) (fun n4 => ?_)
  · have hf := ite_n n4 hf
    exact G.mask [true, true, true, false, true, false] rfl rfl (b_X2_fewestRelaid_73 C hr L15 cv1 cv2 cv4 hf)
  · have hf := ite_p n4 hf
    refine r_aload_n C dX2_fewestRelaid_59 rfl ?_
    refine r_iload_n C dX2_fewestRelaid_60 rfl ?_
    refine r_iload_n C dX2_fewestRelaid_61 rfl ?_
    refine r_iload C dX2_fewestRelaid_62 rfl ?_
    refine r_iconst C dX2_fewestRelaid_64 ?_
    refine r_ixor C dX2_fewestRelaid_65 ?_
    refine r_iand C dX2_fewestRelaid_66 ?_
    obtain ⟨p5, hf⟩ := gk_s hf
    obtain ⟨r5, h5, hq5, hf⟩ := bd_s hf
    refine r_cV2 C (am_X2_join (gl g) n) cm_X2_join w_1291 dX2_fewestRelaid_67 ⟨Nat.le_of_ble_eq_true rfl, Nat.le_of_ble_eq_true rfl⟩ p5 rfl cv1 (in32_t _) rfl (Nat.le_of_ble_eq_true rfl) hq5 (by decide) (fun c5 => ?_)
    have c5 : in32 _ := c5
    refine r_if_eq C dX2_fewestRelaid_70 (tgt := 76) (by decide) c5 (fun n6 => ?_) (fun n6 => ?_)
    · have hf := ite_p n6 hf
      exact G.mask [true, true, true, true, true, false] rfl rfl (b_X2_fewestRelaid_76 C hr L15 cv1 cv2 cv3 cv4 hf)
    · have hf := ite_n n6 hf
      exact G.mask [true, true, true, false, true, false] rfl rfl (b_X2_fewestRelaid_73 C hr L15 cv1 cv2 cv4 hf)
set_option maxRecDepth 20000 in
theorem b_X2_fewestRelaid_15b {g : GT} {Z : Int × MM} {n : Nat} (C : Cx g cX2_fewestRelaid 6 yX2_fewestRelaid 1 26) (hr : Rt g (some .int) 0 Z) {v0 v1 v2 v3 v4 : Int}  {rec15 : Int → Int → MM → RR} (L15 : ∀ (u3 u4 : Int) (h : MM), in32 u3 → in32 u4 → rec15 u3 u4 h = some Z → G g 15 [(2, v0), (0, v1), (0, v2), (0, u3), (0, u4), (3, 0)] [] h) (cv1 : in32 v1) (cv2 : in32 v2) (cv3 : in32 v3) (cv4 : in32 v4) {h : MM} (hf : f_X2_fewestRelaid_15b n rec15 v0 v1 v2 v3 v4 h = some Z) : G g 15 [(2, v0), (0, v1), (0, v2), (0, v3), (0, v4), (3, 0)] [] h := by
  unfold f_X2_fewestRelaid_15b at hf
  refine r_iload C dX2_fewestRelaid_15 rfl ?_
  refine r_iload_n C dX2_fewestRelaid_17 rfl ?_
  refine r_icmp_gt C dX2_fewestRelaid_18 (tgt := 82) (by decide) cv4 cv2 (fun n1 => ?_) (fun n1 => ?_)
  · have hf := ite_p n1 hf
    refine r_iload_n C dX2_fewestRelaid_82 rfl ?_
    cases hf
    exact r_jret C hr dX2_fewestRelaid_83 cv3
  · have hf := ite_n n1 hf
    refine r_iload_n C dX2_fewestRelaid_21 rfl ?_
    refine r_if_lt C dX2_fewestRelaid_22 (tgt := 40) (by decide) cv3 (fun n2 => ?_) (fun n2 => ?_)
    · have hf := ite_p n2 hf
      exact G.mask [true, true, true, true, true, false] rfl rfl (b_X2_fewestRelaid_40 C hr L15 cv1 cv2 cv3 cv4 hf)
    · have hf := ite_n n2 hf
      refine r_iload C dX2_fewestRelaid_25 rfl ?_
      obtain ⟨r3, h3, hq3, hf⟩ := bd_s hf
      refine r_cS1 C (am_J6_bitCount_0f7a4 (gl g) n) cm_J6_bitCount_0f7a4 w_1290 dX2_fewestRelaid_27 ⟨Nat.le_of_ble_eq_true rfl, Nat.le_of_ble_eq_true rfl⟩ cv4 rfl (Nat.le_of_ble_eq_true rfl) hq3 (by decide) (fun c3 => ?_)
      have c3 : in32 _ := c3
      refine r_iload_n C dX2_fewestRelaid_30 rfl ?_
      obtain ⟨r4, h4, hq4, hf⟩ := bd_s hf
      refine r_cS1 C (am_J6_bitCount_0f7a4 (gl g) n) cm_J6_bitCount_0f7a4 w_1290 dX2_fewestRelaid_31 ⟨Nat.le_of_ble_eq_true rfl, Nat.le_of_ble_eq_true rfl⟩ cv3 rfl (Nat.le_of_ble_eq_true rfl) hq4 (by decide) (fun c4 => ?_)
      have c4 : in32 _ := c4
      refine r_icmp_lt C dX2_fewestRelaid_34 (tgt := 40) (by decide) c3 c4 (fun n5 => ?_) (fun n5 => ?_)
      · have hf := ite_p n5 hf
        exact G.mask [true, true, true, true, true, false] rfl rfl (b_X2_fewestRelaid_40 C hr L15 cv1 cv2 cv3 cv4 hf)
      · have hf := ite_n n5 hf
        refine r_goto C dX2_fewestRelaid_37 (tgt := 76) (by decide) ?_
        exact G.mask [true, true, true, true, true, false] rfl rfl (b_X2_fewestRelaid_76 C hr L15 cv1 cv2 cv3 cv4 hf)
set_option maxRecDepth 20000 in
theorem l_X2_fewestRelaid_15 {g : GT} {Z : Int × MM} {n : Nat} (C : Cx g cX2_fewestRelaid 6 yX2_fewestRelaid 1 26) (hr : Rt g (some .int) 0 Z) {v0 v1 v2 : Int}   (cv1 : in32 v1) (cv2 : in32 v2) : ∀ (k : Nat) (v3 v4 : Int) (h : MM), in32 v3 → in32 v4 → f_X2_fewestRelaid_15 n  v0 v1 v2 k v3 v4 h = some Z → G g 15 [(2, v0), (0, v1), (0, v2), (0, v3), (0, v4), (3, 0)] [] h := by
  intro k
  induction k with
  | zero => intro v3 v4 h cv3 cv4 hf; exact absurd hf (by intro z; cases z)
  | succ k ih => intro v3 v4 h cv3 cv4 hf; exact b_X2_fewestRelaid_15b C hr (rec15 := f_X2_fewestRelaid_15 n  v0 v1 v2 k)  ih cv1 cv2 cv3 cv4 (show f_X2_fewestRelaid_15b n  (f_X2_fewestRelaid_15 n  v0 v1 v2 k) v0 v1 v2 v3 v4 h = some Z from hf)
set_option maxRecDepth 20000 in
theorem e_X2_fewestRelaid {g : GT} {Z : Int × MM} {n : Nat} (C : Cx g cX2_fewestRelaid 6 yX2_fewestRelaid 1 26) (hr : Rt g (some .int) 0 Z) {v0 v1 : Int} (cv0 : cK 2 v0) (cv1 : cK 0 v1) {h : MM} (hf : f_X2_fewestRelaid n v0 v1 h = some Z) : G g 0 [(2, v0), (0, v1), (3, 0), (3, 0), (3, 0), (3, 0)] [] h := by
  have cv1 : in32 v1 := cv1
  unfold f_X2_fewestRelaid at hf
  refine r_iconst C dX2_fewestRelaid_0 ?_
  refine r_aload_n C dX2_fewestRelaid_1 rfl ?_
  obtain ⟨q1, hf⟩ := gf_s hf
  refine r_gf C ct2 (j := 6) (ji := 6) dX2_fewestRelaid_2 q1 rfl rfl (by decide) w_423 rfl (fun c1 => ?_)
  have c1 : in32 _ := c1
  refine r_ishl C dX2_fewestRelaid_5 ?_
  refine r_iconst C dX2_fewestRelaid_6 ?_
  refine r_isub C dX2_fewestRelaid_7 ?_
  obtain ⟨x2, e2, hf⟩ := lb_s hf
  have c2 : in32 x2 := by rw [e2]; exact (in32_t _)
  refine r_istore_nL C dX2_fewestRelaid_8 e2 (Nat.le_of_ble_eq_true rfl) rfl ?_
  refine r_bipush C dX2_fewestRelaid_9 rfl ?_
  refine r_istore_n C dX2_fewestRelaid_11 (Nat.le_of_ble_eq_true rfl) rfl ?_
  refine r_iconst C dX2_fewestRelaid_12 ?_
  refine r_istore C dX2_fewestRelaid_13 (Nat.le_of_ble_eq_true rfl) rfl ?_
  exact G.mask [true, true, true, true, true, false] rfl rfl (l_X2_fewestRelaid_15 C hr  cv1 c2 _ _ _ _ (in32_of rfl) (in32_of rfl) hf)
set_option maxRecDepth 20000 in
theorem am_X2_fewestRelaid (l : Launch) (n : Nat) : AM l yX2_fewestRelaid cX2_fewestRelaid 6 (some .int) 1 26 [2, 0] 0 (un2 (f_X2_fewestRelaid n)) := by
  refine AM.intro (by decide) (fun xs hx => ?_) (fun g xs h Z hl C hr hx hf => ?_)
  · obtain ⟨a0, a1, rfl, c0, c1⟩ := canL_2 hx
    exact Nat.le_of_ble_eq_true rfl
  · obtain ⟨a0, a1, rfl, c0, c1⟩ := canL_2 hx
    have hf := (un2_e _ a0 a1 _).symm.trans hf
    exact e_X2_fewestRelaid (n := n) C hr c0 c1 hf
/-! LinesPromised.gauge(I)I -/
theorem dX11_gauge_0 : decode cX11_gauge 0 = .ok (.aload_n 0, 1) := by decide +kernel
theorem dX11_gauge_1 : decode cX11_gauge 1 = .ok (.iload_n 1, 1) := by decide +kernel
theorem dX11_gauge_2 : decode cX11_gauge 2 = .ok (.invokevirtual 373, 3) := by decide +kernel
theorem dX11_gauge_5 : decode cX11_gauge 5 = .ok (.ifCond .ne 6, 3) := by decide +kernel
theorem dX11_gauge_8 : decode cX11_gauge 8 = .ok (.bipush (-2), 2) := by decide +kernel
theorem dX11_gauge_10 : decode cX11_gauge 10 = .ok (.ireturn, 1) := by decide +kernel
theorem dX11_gauge_11 : decode cX11_gauge 11 = .ok (.aload_n 0, 1) := by decide +kernel
theorem dX11_gauge_12 : decode cX11_gauge 12 = .ok (.getfield 10, 3) := by decide +kernel
theorem dX11_gauge_15 : decode cX11_gauge 15 = .ok (.getfield 133, 3) := by decide +kernel
theorem dX11_gauge_18 : decode cX11_gauge 18 = .ok (.invokevirtual 269, 3) := by decide +kernel
theorem dX11_gauge_21 : decode cX11_gauge 21 = .ok (.bipush 10, 2) := by decide +kernel
theorem dX11_gauge_23 : decode cX11_gauge 23 = .ok (.if_icmp .le 6, 3) := by decide +kernel
theorem dX11_gauge_26 : decode cX11_gauge 26 = .ok (.bipush (-9), 2) := by decide +kernel
theorem dX11_gauge_28 : decode cX11_gauge 28 = .ok (.ireturn, 1) := by decide +kernel
theorem dX11_gauge_29 : decode cX11_gauge 29 = .ok (.aload_n 0, 1) := by decide +kernel
theorem dX11_gauge_30 : decode cX11_gauge 30 = .ok (.invokevirtual 376, 3) := by decide +kernel
theorem dX11_gauge_33 : decode cX11_gauge 33 = .ok (.aload_n 0, 1) := by decide +kernel
theorem dX11_gauge_34 : decode cX11_gauge 34 = .ok (.getfield 42, 3) := by decide +kernel
theorem dX11_gauge_37 : decode cX11_gauge 37 = .ok (.iload_n 1, 1) := by decide +kernel
theorem dX11_gauge_38 : decode cX11_gauge 38 = .ok (.invokevirtual 379, 3) := by decide +kernel
theorem dX11_gauge_41 : decode cX11_gauge 41 = .ok (.ireturn, 1) := by decide +kernel
theorem cm_X11_gauge : CM yX11_gauge cX11_gauge 2 (some .int) 1 11 := ⟨w_1267, w_1268, w_1269, w_87, ⟨by decide +kernel, by decide +kernel, by decide +kernel⟩, ⟨_, _, rfl⟩, by decide⟩
noncomputable def f_X11_gauge (n : Nat) (v0 v1 : Int) (h : MM) : RR :=
  gk h v0 11 <|
  bd (f_X11_areTowns n v0 v1 h) fun r1 h1 =>
  if r1 = 0 then
    some ((-2), h1)
  else
  gf h1 v0 11 0 fun r3 =>
  gf h1 r3 10 1 fun r4 =>
  gk h1 r4 5 <|
  bd (f_X5_granted n r4 h1) fun r5 h5 =>
  if r5 ≤ 10 then
    gk h5 v0 11 <|
    bd (f_X11_gatherGranted n v0 h5) fun r7 h7 =>
    gf h7 v0 11 6 fun r8 =>
    gk h7 r8 2 <|
    bd (f_X2_fewestRelaid n r8 v1 h7) fun r9 h9 =>
    some (r9, h9)
  else
  some ((-9), h5)
set_option maxRecDepth 20000 in
theorem e_X11_gauge {g : GT} {Z : Int × MM} {n : Nat} (C : Cx g cX11_gauge 2 yX11_gauge 5 110) (hr : Rt g (some .int) 0 Z) {v0 v1 : Int} (cv0 : cK 2 v0) (cv1 : cK 0 v1) {h : MM} (hf : f_X11_gauge n v0 v1 h = some Z) : G g 0 [(2, v0), (0, v1)] [] h := by
  have cv1 : in32 v1 := cv1
  unfold f_X11_gauge at hf
  refine r_aload_n C dX11_gauge_0 rfl ?_
  refine r_iload_n C dX11_gauge_1 rfl ?_
  obtain ⟨p1, hf⟩ := gk_s hf
  obtain ⟨r1, h1, hq1, hf⟩ := bd_s hf
  refine r_cV1 C (am_X11_areTowns (gl g) n) cm_X11_areTowns w_1270 dX11_gauge_2 ⟨Nat.le_of_ble_eq_true rfl, Nat.le_of_ble_eq_true rfl⟩ p1 rfl cv1 rfl (Nat.le_of_ble_eq_true rfl) hq1 (by decide) (fun c1 => ?_)
  have c1 : in32 _ := c1
  refine r_if_ne C dX11_gauge_5 (tgt := 11) (by decide) c1 (fun n2 => ?_) (fun n2 => ?_)
  · have hf := ite_n n2 hf
    refine r_aload_n C dX11_gauge_11 rfl ?_
    obtain ⟨q3, hf⟩ := gf_s hf
    refine r_gf C ct11 (j := 0) (ji := 0) dX11_gauge_12 q3 rfl rfl (by decide) w_440 rfl (fun c3 => ?_)
    obtain ⟨q4, hf⟩ := gf_s hf
    refine r_gf C ct10 (j := 1) (ji := 1) dX11_gauge_15 q4 rfl rfl (by decide) w_302 rfl (fun c4 => ?_)
    obtain ⟨p5, hf⟩ := gk_s hf
    obtain ⟨r5, h5, hq5, hf⟩ := bd_s hf
    refine r_cV0 C (am_X5_granted (gl g) n) cm_X5_granted w_1005 dX11_gauge_18 ⟨Nat.le_of_ble_eq_true rfl, Nat.le_of_ble_eq_true rfl⟩ p5 rfl  rfl (Nat.le_of_ble_eq_true rfl) hq5 (by decide) (fun c5 => ?_)
    have c5 : in32 _ := c5
    refine r_bipush C dX11_gauge_21 rfl ?_
    refine r_icmp_le C dX11_gauge_23 (tgt := 29) (by decide) c5 (in32_of rfl) (fun n6 => ?_) (fun n6 => ?_)
    · have hf := ite_p n6 hf
      refine r_aload_n C dX11_gauge_29 rfl ?_
      obtain ⟨p7, hf⟩ := gk_s hf
      obtain ⟨r7, h7, hq7, hf⟩ := bd_s hf
      refine r_cV0v C (am_X11_gatherGranted (gl g) n) cm_X11_gatherGranted w_1274 dX11_gauge_30 ⟨Nat.le_of_ble_eq_true rfl, Nat.le_of_ble_eq_true rfl⟩ p7 rfl  rfl (Nat.le_of_ble_eq_true rfl) hq7 ?_
      refine r_aload_n C dX11_gauge_33 rfl ?_
      obtain ⟨q8, hf⟩ := gf_s hf
      refine r_gf C ct11 (j := 6) (ji := 6) dX11_gauge_34 q8 rfl rfl (by decide) w_446 rfl (fun c8 => ?_)
      refine r_iload_n C dX11_gauge_37 rfl ?_
      obtain ⟨p9, hf⟩ := gk_s hf
      obtain ⟨r9, h9, hq9, hf⟩ := bd_s hf
      refine r_cV1 C (am_X2_fewestRelaid (gl g) n) cm_X2_fewestRelaid w_1286 dX11_gauge_38 ⟨Nat.le_of_ble_eq_true rfl, Nat.le_of_ble_eq_true rfl⟩ p9 rfl cv1 rfl (Nat.le_of_ble_eq_true rfl) hq9 (by decide) (fun c9 => ?_)
      have c9 : in32 _ := c9
      cases hf
      exact r_jret C hr dX11_gauge_41 c9
    · have hf := ite_n n6 hf
      refine r_bipush C dX11_gauge_26 rfl ?_
      cases hf
      exact r_jret C hr dX11_gauge_28 (in32_of rfl)
  · have hf := ite_p n2 hf
    refine r_bipush C dX11_gauge_8 rfl ?_
    cases hf
    exact r_jret C hr dX11_gauge_10 (in32_of rfl)
set_option maxRecDepth 20000 in
theorem am_X11_gauge (l : Launch) (n : Nat) : AM l yX11_gauge cX11_gauge 2 (some .int) 5 110 [2, 0] 0 (un2 (f_X11_gauge n)) := by
  refine AM.intro (by decide) (fun xs hx => ?_) (fun g xs h Z hl C hr hx hf => ?_)
  · obtain ⟨a0, a1, rfl, c0, c1⟩ := canL_2 hx
    exact Nat.le_of_ble_eq_true rfl
  · obtain ⟨a0, a1, rfl, c0, c1⟩ := canL_2 hx
    have hf := (un2_e _ a0 a1 _).symm.trans hf
    exact e_X11_gauge (n := n) C hr c0 c1 hf
/-! LinesPromised.gatherGrantable()V -/
theorem dX11_gatherGrantable_0 : decode cX11_gatherGrantable 0 = .ok (.aload_n 0, 1) := by decide +kernel
theorem dX11_gatherGrantable_1 : decode cX11_gatherGrantable 1 = .ok (.getfield 42, 3) := by decide +kernel
theorem dX11_gatherGrantable_4 : decode cX11_gatherGrantable 4 = .ok (.invokevirtual 440, 3) := by decide +kernel
theorem dX11_gatherGrantable_7 : decode cX11_gatherGrantable 7 = .ok (.iconst 0, 1) := by decide +kernel
theorem dX11_gatherGrantable_8 : decode cX11_gatherGrantable 8 = .ok (.istore_n 1, 1) := by decide +kernel
theorem dX11_gatherGrantable_9 : decode cX11_gatherGrantable 9 = .ok (.iload_n 1, 1) := by decide +kernel
theorem dX11_gatherGrantable_10 : decode cX11_gatherGrantable 10 = .ok (.aload_n 0, 1) := by decide +kernel
theorem dX11_gatherGrantable_11 : decode cX11_gatherGrantable 11 = .ok (.getfield 10, 3) := by decide +kernel
theorem dX11_gatherGrantable_14 : decode cX11_gatherGrantable 14 = .ok (.getfield 133, 3) := by decide +kernel
theorem dX11_gatherGrantable_17 : decode cX11_gatherGrantable 17 = .ok (.getfield 410, 3) := by decide +kernel
theorem dX11_gatherGrantable_20 : decode cX11_gatherGrantable 20 = .ok (.if_icmp .ge 129, 3) := by decide +kernel
theorem dX11_gatherGrantable_23 : decode cX11_gatherGrantable 23 = .ok (.aload_n 0, 1) := by decide +kernel
theorem dX11_gatherGrantable_24 : decode cX11_gatherGrantable 24 = .ok (.getfield 42, 3) := by decide +kernel
theorem dX11_gatherGrantable_27 : decode cX11_gatherGrantable 27 = .ok (.getfield 445, 3) := by decide +kernel
theorem dX11_gatherGrantable_30 : decode cX11_gatherGrantable 30 = .ok (.bipush 8, 2) := by decide +kernel
theorem dX11_gatherGrantable_32 : decode cX11_gatherGrantable 32 = .ok (.if_icmp .ge 117, 3) := by decide +kernel
theorem dX11_gatherGrantable_35 : decode cX11_gatherGrantable 35 = .ok (.aload_n 0, 1) := by decide +kernel
theorem dX11_gatherGrantable_36 : decode cX11_gatherGrantable 36 = .ok (.getfield 10, 3) := by decide +kernel
theorem dX11_gatherGrantable_39 : decode cX11_gatherGrantable 39 = .ok (.getfield 133, 3) := by decide +kernel
theorem dX11_gatherGrantable_42 : decode cX11_gatherGrantable 42 = .ok (.iload_n 1, 1) := by decide +kernel
theorem dX11_gatherGrantable_43 : decode cX11_gatherGrantable 43 = .ok (.iconst 3, 1) := by decide +kernel
theorem dX11_gatherGrantable_44 : decode cX11_gatherGrantable 44 = .ok (.invokevirtual 172, 3) := by decide +kernel
theorem dX11_gatherGrantable_47 : decode cX11_gatherGrantable 47 = .ok (.astore_n 2, 1) := by decide +kernel
theorem dX11_gatherGrantable_48 : decode cX11_gatherGrantable 48 = .ok (.aload_n 2, 1) := by decide +kernel
theorem dX11_gatherGrantable_49 : decode cX11_gatherGrantable 49 = .ok (.ifnull 94, 3) := by decide +kernel
theorem dX11_gatherGrantable_52 : decode cX11_gatherGrantable 52 = .ok (.aload_n 0, 1) := by decide +kernel
theorem dX11_gatherGrantable_53 : decode cX11_gatherGrantable 53 = .ok (.getfield 10, 3) := by decide +kernel
theorem dX11_gatherGrantable_56 : decode cX11_gatherGrantable 56 = .ok (.getfield 133, 3) := by decide +kernel
theorem dX11_gatherGrantable_59 : decode cX11_gatherGrantable 59 = .ok (.iload_n 1, 1) := by decide +kernel
theorem dX11_gatherGrantable_60 : decode cX11_gatherGrantable 60 = .ok (.invokevirtual 256, 3) := by decide +kernel
theorem dX11_gatherGrantable_63 : decode cX11_gatherGrantable 63 = .ok (.ifCond .ne 80, 3) := by decide +kernel
theorem dX11_gatherGrantable_66 : decode cX11_gatherGrantable 66 = .ok (.aload_n 0, 1) := by decide +kernel
theorem dX11_gatherGrantable_67 : decode cX11_gatherGrantable 67 = .ok (.getfield 10, 3) := by decide +kernel
theorem dX11_gatherGrantable_70 : decode cX11_gatherGrantable 70 = .ok (.aload_n 2, 1) := by decide +kernel
theorem dX11_gatherGrantable_71 : decode cX11_gatherGrantable 71 = .ok (.aload_n 0, 1) := by decide +kernel
theorem dX11_gatherGrantable_72 : decode cX11_gatherGrantable 72 = .ok (.getfield 10, 3) := by decide +kernel
theorem dX11_gatherGrantable_75 : decode cX11_gatherGrantable 75 = .ok (.getfield 148, 3) := by decide +kernel
theorem dX11_gatherGrantable_78 : decode cX11_gatherGrantable 78 = .ok (.invokevirtual 248, 3) := by decide +kernel
theorem dX11_gatherGrantable_81 : decode cX11_gatherGrantable 81 = .ok (.ifCond .eq 62, 3) := by decide +kernel
theorem dX11_gatherGrantable_84 : decode cX11_gatherGrantable 84 = .ok (.aload_n 0, 1) := by decide +kernel
theorem dX11_gatherGrantable_85 : decode cX11_gatherGrantable 85 = .ok (.getfield 10, 3) := by decide +kernel
theorem dX11_gatherGrantable_88 : decode cX11_gatherGrantable 88 = .ok (.getfield 50, 3) := by decide +kernel
theorem dX11_gatherGrantable_91 : decode cX11_gatherGrantable 91 = .ok (.aload_n 2, 1) := by decide +kernel
theorem dX11_gatherGrantable_92 : decode cX11_gatherGrantable 92 = .ok (.getfield 192, 3) := by decide +kernel
theorem dX11_gatherGrantable_95 : decode cX11_gatherGrantable 95 = .ok (.invokevirtual 198, 3) := by decide +kernel
theorem dX11_gatherGrantable_98 : decode cX11_gatherGrantable 98 = .ok (.istore_n 3, 1) := by decide +kernel
theorem dX11_gatherGrantable_99 : decode cX11_gatherGrantable 99 = .ok (.iconst 2, 1) := by decide +kernel
theorem dX11_gatherGrantable_100 : decode cX11_gatherGrantable 100 = .ok (.iload_n 3, 1) := by decide +kernel
theorem dX11_gatherGrantable_101 : decode cX11_gatherGrantable 101 = .ok (.imul, 1) := by decide +kernel
theorem dX11_gatherGrantable_102 : decode cX11_gatherGrantable 102 = .ok (.aload_n 0, 1) := by decide +kernel
theorem dX11_gatherGrantable_103 : decode cX11_gatherGrantable 103 = .ok (.getfield 10, 3) := by decide +kernel
theorem dX11_gatherGrantable_106 : decode cX11_gatherGrantable 106 = .ok (.getfield 50, 3) := by decide +kernel
theorem dX11_gatherGrantable_109 : decode cX11_gatherGrantable 109 = .ok (.aload_n 2, 1) := by decide +kernel
theorem dX11_gatherGrantable_110 : decode cX11_gatherGrantable 110 = .ok (.getfield 192, 3) := by decide +kernel
theorem dX11_gatherGrantable_113 : decode cX11_gatherGrantable 113 = .ok (.invokevirtual 446, 3) := by decide +kernel
theorem dX11_gatherGrantable_116 : decode cX11_gatherGrantable 116 = .ok (.iadd, 1) := by decide +kernel
theorem dX11_gatherGrantable_117 : decode cX11_gatherGrantable 117 = .ok (.istore 4, 2) := by decide +kernel
theorem dX11_gatherGrantable_119 : decode cX11_gatherGrantable 119 = .ok (.aload_n 0, 1) := by decide +kernel
theorem dX11_gatherGrantable_120 : decode cX11_gatherGrantable 120 = .ok (.getfield 42, 3) := by decide +kernel
theorem dX11_gatherGrantable_123 : decode cX11_gatherGrantable 123 = .ok (.iload_n 1, 1) := by decide +kernel
theorem dX11_gatherGrantable_124 : decode cX11_gatherGrantable 124 = .ok (.aload_n 2, 1) := by decide +kernel
theorem dX11_gatherGrantable_125 : decode cX11_gatherGrantable 125 = .ok (.aload_n 0, 1) := by decide +kernel
theorem dX11_gatherGrantable_126 : decode cX11_gatherGrantable 126 = .ok (.getfield 10, 3) := by decide +kernel
theorem dX11_gatherGrantable_129 : decode cX11_gatherGrantable 129 = .ok (.getfield 133, 3) := by decide +kernel
theorem dX11_gatherGrantable_132 : decode cX11_gatherGrantable 132 = .ok (.getfield 449, 3) := by decide +kernel
theorem dX11_gatherGrantable_135 : decode cX11_gatherGrantable 135 = .ok (.iload_n 1, 1) := by decide +kernel
theorem dX11_gatherGrantable_136 : decode cX11_gatherGrantable 136 = .ok (.laload, 1) := by decide +kernel
theorem dX11_gatherGrantable_137 : decode cX11_gatherGrantable 137 = .ok (.iload_n 3, 1) := by decide +kernel
theorem dX11_gatherGrantable_138 : decode cX11_gatherGrantable 138 = .ok (.iload 4, 2) := by decide +kernel
theorem dX11_gatherGrantable_140 : decode cX11_gatherGrantable 140 = .ok (.invokevirtual 442, 3) := by decide +kernel
theorem dX11_gatherGrantable_143 : decode cX11_gatherGrantable 143 = .ok (.iinc 1 1, 3) := by decide +kernel
theorem dX11_gatherGrantable_146 : decode cX11_gatherGrantable 146 = .ok (.goto (-137), 3) := by decide +kernel
theorem dX11_gatherGrantable_149 : decode cX11_gatherGrantable 149 = .ok (.return_, 1) := by decide +kernel
theorem cm_X11_gatherGrantable : CM yX11_gatherGrantable cX11_gatherGrantable 5 none 0 11 := ⟨w_1302, w_37, w_1303, w_87, ⟨by decide +kernel, by decide +kernel, by decide +kernel⟩, ⟨_, _, rfl⟩, by decide⟩
noncomputable def f_X11_gatherGrantable_149 (n : Nat)  (h : MM) : RR :=
  some (0, h)
noncomputable def f_X11_gatherGrantable_143 (n : Nat) (rec9 : Int → MM → RR) (v0 v1 : Int) (h : MM) : RR :=
  lb (wr (v1 + 1)) fun x1 =>
  rec9 x1 h
noncomputable def f_X11_gatherGrantable_9b (n : Nat) (rec9 : Int → MM → RR) (v0 v1 : Int) (h : MM) : RR :=
  gf h v0 11 0 fun r1 =>
  gf h r1 10 1 fun r2 =>
  gf h r2 5 7 fun r3 =>
  if r3 ≤ v1 then
    f_X11_gatherGrantable_149 n h
  else
  gf h v0 11 6 fun r5 =>
  gf h r5 2 6 fun r6 =>
  if 8 ≤ r6 then
    f_X11_gatherGrantable_149 n h
  else
  gf h v0 11 0 fun r8 =>
  gf h r8 10 1 fun r9 =>
  gk h r9 5 <|
  bd (f_X5_find n r9 v1 3 h) fun r10 h10 =>
  if r10 = 0 then
    f_X11_gatherGrantable_143 n rec9 v0 v1 h10
  else
  gf h10 v0 11 0 fun r12 =>
  gf h10 r12 10 1 fun r13 =>
  gk h10 r13 5 <|
  bd (f_X5_isMarked n r13 v1 h10) fun r14 h14 =>
  if r14 = 0 then
    gf h14 v0 11 0 fun r16 =>
    gf h14 v0 11 0 fun r17 =>
    gf h14 r17 10 9 fun r18 =>
    gk h14 r16 10 <|
    bd (f_X10_canBeLet n r16 r10 r18 h14) fun r19 h19 =>
    if r19 = 0 then
      f_X11_gatherGrantable_143 n rec9 v0 v1 h19
    else
    gf h19 v0 11 0 fun r21 =>
    gf h19 r21 10 0 fun r22 =>
    gf h19 r10 4 3 fun r23 =>
    gk h19 r22 1 <|
    bd (f_X1_yardsOf n r22 r23 h19) fun r24 h24 =>
    gf h24 v0 11 0 fun r25 =>
    gf h24 r25 10 0 fun r26 =>
    gf h24 r10 4 3 fun r27 =>
    gk h24 r26 1 <|
    bd (f_X1_claimsOf n r26 r27 h24) fun r28 h28 =>
    lb (wr ((wr (2 * r24)) + r28)) fun x29 =>
    gf h28 v0 11 6 fun r30 =>
    gf h28 v0 11 0 fun r31 =>
    gf h28 r31 10 1 fun r32 =>
    gf h28 r32 5 1 fun r33 =>
    rd h28 r33 101 v1 fun r34 =>
    gk h28 r30 2 <|
    bd (f_X2_add n r30 v1 r10 r34 r24 x29 h28) fun r35 h35 =>
    f_X11_gatherGrantable_143 n rec9 v0 v1 h35
  else
  f_X11_gatherGrantable_143 n rec9 v0 v1 h14
noncomputable def f_X11_gatherGrantable_9 (n : Nat)  (v0 : Int) : Nat → Int → MM → RR
  | 0, _, _ => none
  | k + 1, v1, h => f_X11_gatherGrantable_9b n  (f_X11_gatherGrantable_9 n  v0 k) v0 v1 h
noncomputable def f_X11_gatherGrantable (n : Nat) (v0 : Int) (h : MM) : RR :=
  gf h v0 11 6 fun r1 =>
  gk h r1 2 <|
  bd (f_X2_clear n r1 h) fun r2 h2 =>
  f_X11_gatherGrantable_9 n v0 n 0 h2
set_option maxRecDepth 20000 in
theorem b_X11_gatherGrantable_149 {g : GT} {Z : Int × MM} {n : Nat} (C : Cx g cX11_gatherGrantable 5 yX11_gatherGrantable 35 821) (hr : Rt g none 3 Z)     {h : MM} (hf : f_X11_gatherGrantable_149 n   h = some Z) : G g 149 [(3, 0), (3, 0), (3, 0), (3, 0), (3, 0)] [] h := by
  unfold f_X11_gatherGrantable_149 at hf
  cases hf
  exact r_vret C hr dX11_gatherGrantable_149
set_option maxRecDepth 20000 in
theorem b_X11_gatherGrantable_143 {g : GT} {Z : Int × MM} {n : Nat} (C : Cx g cX11_gatherGrantable 5 yX11_gatherGrantable 35 821) (hr : Rt g none 3 Z) {v0 v1 : Int}  {rec9 : Int → MM → RR} (L9 : ∀ (u1 : Int) (h : MM), in32 u1 → rec9 u1 h = some Z → G g 9 [(2, v0), (0, u1), (3, 0), (3, 0), (3, 0)] [] h) (cv1 : in32 v1) {h : MM} (hf : f_X11_gatherGrantable_143 n rec9 v0 v1 h = some Z) : G g 143 [(2, v0), (0, v1), (3, 0), (3, 0), (3, 0)] [] h := by
  unfold f_X11_gatherGrantable_143 at hf
  obtain ⟨x1, e1, hf⟩ := lb_s hf
  have c1 : in32 x1 := by rw [e1]; exact (in32_t _)
  refine r_iincL C dX11_gatherGrantable_143 rfl e1 (Nat.le_of_ble_eq_true rfl) rfl ?_
  refine r_goto C dX11_gatherGrantable_146 (tgt := 9) (by decide) ?_
  exact G.mask [true, true, false, false, false] rfl rfl (L9 _ _ c1 hf)
set_option maxRecDepth 20000 in
theorem b_X11_gatherGrantable_9b {g : GT} {Z : Int × MM} {n : Nat} (C : Cx g cX11_gatherGrantable 5 yX11_gatherGrantable 35 821) (hr : Rt g none 3 Z) {v0 v1 : Int}  {rec9 : Int → MM → RR} (L9 : ∀ (u1 : Int) (h : MM), in32 u1 → rec9 u1 h = some Z → G g 9 [(2, v0), (0, u1), (3, 0), (3, 0), (3, 0)] [] h) (cv1 : in32 v1) {h : MM} (hf : f_X11_gatherGrantable_9b n rec9 v0 v1 h = some Z) : G g 9 [(2, v0), (0, v1), (3, 0), (3, 0), (3, 0)] [] h := by
  unfold f_X11_gatherGrantable_9b at hf
  refine r_iload_n C dX11_gatherGrantable_9 rfl ?_
  refine r_aload_n C dX11_gatherGrantable_10 rfl ?_
  obtain ⟨q1, hf⟩ := gf_s hf
  refine r_gf C ct11 (j := 0) (ji := 0) dX11_gatherGrantable_11 q1 rfl rfl (by decide) w_440 rfl (fun c1 => ?_)
  obtain ⟨q2, hf⟩ := gf_s hf
  refine r_gf C ct10 (j := 1) (ji := 1) dX11_gatherGrantable_14 q2 rfl rfl (by decide) w_302 rfl (fun c2 => ?_)
  obtain ⟨q3, hf⟩ := gf_s hf
  refine r_gf C ct5 (j := 7) (ji := 7) dX11_gatherGrantable_17 q3 rfl rfl (by decide) w_180 rfl (fun c3 => ?_)
  have c3 : in32 _ := c3
  refine r_icmp_ge C dX11_gatherGrantable_20 (tgt := 149) (by decide) cv1 c3 (fun n4 => ?_) (fun n4 => ?_)
  · have hf := ite_p n4 hf
    exact G.mask [false, false, false, false, false] rfl rfl (b_X11_gatherGrantable_149 C hr   hf)
  · have hf := ite_n n4 hf
    refine r_aload_n C dX11_gatherGrantable_23 rfl ?_
    obtain ⟨q5, hf⟩ := gf_s hf
    refine r_gf C ct11 (j := 6) (ji := 6) dX11_gatherGrantable_24 q5 rfl rfl (by decide) w_446 rfl (fun c5 => ?_)
    obtain ⟨q6, hf⟩ := gf_s hf
    refine r_gf C ct2 (j := 6) (ji := 6) dX11_gatherGrantable_27 q6 rfl rfl (by decide) w_424 rfl (fun c6 => ?_)
    have c6 : in32 _ := c6
    refine r_bipush C dX11_gatherGrantable_30 rfl ?_
    refine r_icmp_ge C dX11_gatherGrantable_32 (tgt := 149) (by decide) c6 (in32_of rfl) (fun n7 => ?_) (fun n7 => ?_)
    · have hf := ite_p n7 hf
      exact G.mask [false, false, false, false, false] rfl rfl (b_X11_gatherGrantable_149 C hr   hf)
    · have hf := ite_n n7 hf
      refine r_aload_n C dX11_gatherGrantable_35 rfl ?_
      obtain ⟨q8, hf⟩ := gf_s hf
      refine r_gf C ct11 (j := 0) (ji := 0) dX11_gatherGrantable_36 q8 rfl rfl (by decide) w_440 rfl (fun c8 => ?_)
      obtain ⟨q9, hf⟩ := gf_s hf
      refine r_gf C ct10 (j := 1) (ji := 1) dX11_gatherGrantable_39 q9 rfl rfl (by decide) w_302 rfl (fun c9 => ?_)
      refine r_iload_n C dX11_gatherGrantable_42 rfl ?_
      refine r_iconst C dX11_gatherGrantable_43 ?_
      obtain ⟨p10, hf⟩ := gk_s hf
      obtain ⟨r10, h10, hq10, hf⟩ := bd_s hf
      refine r_cV2 C (am_X5_find (gl g) n) cm_X5_find w_798 dX11_gatherGrantable_44 ⟨Nat.le_of_ble_eq_true rfl, Nat.le_of_ble_eq_true rfl⟩ p10 rfl cv1 (in32_of rfl) rfl (Nat.le_of_ble_eq_true rfl) hq10 (by decide) (fun c10 => ?_)
      refine r_astore_n C dX11_gatherGrantable_47 (Nat.le_of_ble_eq_true rfl) rfl ?_
      refine r_aload_n C dX11_gatherGrantable_48 rfl ?_
      refine r_ifnull C dX11_gatherGrantable_49 (tgt := 143) (by decide) (fun n11 => ?_) (fun n11 => ?_)
      · have hf := ite_p n11 hf
        exact G.mask [true, true, false, false, false] rfl rfl (b_X11_gatherGrantable_143 C hr L9 cv1 hf)
      · have hf := ite_n n11 hf
        refine r_aload_n C dX11_gatherGrantable_52 rfl ?_
        obtain ⟨q12, hf⟩ := gf_s hf
        refine r_gf C ct11 (j := 0) (ji := 0) dX11_gatherGrantable_53 q12 rfl rfl (by decide) w_440 rfl (fun c12 => ?_)
        obtain ⟨q13, hf⟩ := gf_s hf
        refine r_gf C ct10 (j := 1) (ji := 1) dX11_gatherGrantable_56 q13 rfl rfl (by decide) w_302 rfl (fun c13 => ?_)
        refine r_iload_n C dX11_gatherGrantable_59 rfl ?_
        obtain ⟨p14, hf⟩ := gk_s hf
        obtain ⟨r14, h14, hq14, hf⟩ := bd_s hf
        refine r_cV1 C (am_X5_isMarked (gl g) n) cm_X5_isMarked w_993 dX11_gatherGrantable_60 ⟨Nat.le_of_ble_eq_true rfl, Nat.le_of_ble_eq_true rfl⟩ p14 rfl cv1 rfl (Nat.le_of_ble_eq_true rfl) hq14 (by decide) (fun c14 => ?_)
        have c14 : in32 _ := c14
        refine r_if_ne C dX11_gatherGrantable_63 (tgt := 143) (by decide) c14 (fun n15 => ?_) (fun n15 => ?_)
        · have hf := ite_n n15 hf
          exact G.mask [true, true, false, false, false] rfl rfl (b_X11_gatherGrantable_143 C hr L9 cv1 hf)
        · have hf := ite_p n15 hf
          refine r_aload_n C dX11_gatherGrantable_66 rfl ?_
          obtain ⟨q16, hf⟩ := gf_s hf
          refine r_gf C ct11 (j := 0) (ji := 0) dX11_gatherGrantable_67 q16 rfl rfl (by decide) w_440 rfl (fun c16 => ?_)
          refine r_aload_n C dX11_gatherGrantable_70 rfl ?_
          refine r_aload_n C dX11_gatherGrantable_71 rfl ?_
          obtain ⟨q17, hf⟩ := gf_s hf
          refine r_gf C ct11 (j := 0) (ji := 0) dX11_gatherGrantable_72 q17 rfl rfl (by decide) w_440 rfl (fun c17 => ?_)
          obtain ⟨q18, hf⟩ := gf_s hf
          refine r_gf C ct10 (j := 9) (ji := 9) dX11_gatherGrantable_75 q18 rfl rfl (by decide) w_317 rfl (fun c18 => ?_)
          have c18 : in32 _ := c18
          obtain ⟨p19, hf⟩ := gk_s hf
          obtain ⟨r19, h19, hq19, hf⟩ := bd_s hf
          refine r_cV2 C (am_X10_canBeLet (gl g) n) cm_X10_canBeLet w_964 dX11_gatherGrantable_78 ⟨Nat.le_of_ble_eq_true rfl, Nat.le_of_ble_eq_true rfl⟩ p19 rfl trivial c18 rfl (Nat.le_of_ble_eq_true rfl) hq19 (by decide) (fun c19 => ?_)
          have c19 : in32 _ := c19
          refine r_if_eq C dX11_gatherGrantable_81 (tgt := 143) (by decide) c19 (fun n20 => ?_) (fun n20 => ?_)
          · have hf := ite_p n20 hf
            exact G.mask [true, true, false, false, false] rfl rfl (b_X11_gatherGrantable_143 C hr L9 cv1 hf)
          · have hf := ite_n n20 hf
            refine r_aload_n C dX11_gatherGrantable_84 rfl ?_
            obtain ⟨q21, hf⟩ := gf_s hf
            refine r_gf C ct11 (j := 0) (ji := 0) dX11_gatherGrantable_85 q21 rfl rfl (by decide) w_440 rfl (fun c21 => ?_)
            obtain ⟨q22, hf⟩ := gf_s hf
            refine r_gf C ct10 (j := 0) (ji := 0) dX11_gatherGrantable_88 q22 rfl rfl (by decide) w_300 rfl (fun c22 => ?_)
            refine r_aload_n C dX11_gatherGrantable_91 rfl ?_
            obtain ⟨q23, hf⟩ := gf_s hf
            refine r_gf C ct4 (j := 3) (ji := 3) dX11_gatherGrantable_92 q23 rfl rfl (by decide) w_725 rfl (fun c23 => ?_)
            obtain ⟨p24, hf⟩ := gk_s hf
            obtain ⟨r24, h24, hq24, hf⟩ := bd_s hf
            refine r_cV1 C (am_X1_yardsOf (gl g) n) cm_X1_yardsOf w_854 dX11_gatherGrantable_95 ⟨Nat.le_of_ble_eq_true rfl, Nat.le_of_ble_eq_true rfl⟩ p24 rfl trivial rfl (Nat.le_of_ble_eq_true rfl) hq24 (by decide) (fun c24 => ?_)
            have c24 : in32 _ := c24
            refine r_istore_n C dX11_gatherGrantable_98 (Nat.le_of_ble_eq_true rfl) rfl ?_
            refine r_iconst C dX11_gatherGrantable_99 ?_
            refine r_iload_n C dX11_gatherGrantable_100 rfl ?_
            refine r_imul C dX11_gatherGrantable_101 ?_
            refine r_aload_n C dX11_gatherGrantable_102 rfl ?_
            obtain ⟨q25, hf⟩ := gf_s hf
            refine r_gf C ct11 (j := 0) (ji := 0) dX11_gatherGrantable_103 q25 rfl rfl (by decide) w_440 rfl (fun c25 => ?_)
            obtain ⟨q26, hf⟩ := gf_s hf
            refine r_gf C ct10 (j := 0) (ji := 0) dX11_gatherGrantable_106 q26 rfl rfl (by decide) w_300 rfl (fun c26 => ?_)
            refine r_aload_n C dX11_gatherGrantable_109 rfl ?_
            obtain ⟨q27, hf⟩ := gf_s hf
            refine r_gf C ct4 (j := 3) (ji := 3) dX11_gatherGrantable_110 q27 rfl rfl (by decide) w_725 rfl (fun c27 => ?_)
            obtain ⟨p28, hf⟩ := gk_s hf
            obtain ⟨r28, h28, hq28, hf⟩ := bd_s hf
            refine r_cV1 C (am_X1_claimsOf (gl g) n) cm_X1_claimsOf w_1304 dX11_gatherGrantable_113 ⟨Nat.le_of_ble_eq_true rfl, Nat.le_of_ble_eq_true rfl⟩ p28 rfl trivial rfl (Nat.le_of_ble_eq_true rfl) hq28 (by decide) (fun c28 => ?_)
            have c28 : in32 _ := c28
            refine r_iadd C dX11_gatherGrantable_116 ?_
            obtain ⟨x29, e29, hf⟩ := lb_s hf
            have c29 : in32 x29 := by rw [e29]; exact (in32_t _)
            refine r_istoreL C dX11_gatherGrantable_117 e29 (Nat.le_of_ble_eq_true rfl) rfl ?_
            refine r_aload_n C dX11_gatherGrantable_119 rfl ?_
            obtain ⟨q30, hf⟩ := gf_s hf
            refine r_gf C ct11 (j := 6) (ji := 6) dX11_gatherGrantable_120 q30 rfl rfl (by decide) w_446 rfl (fun c30 => ?_)
            refine r_iload_n C dX11_gatherGrantable_123 rfl ?_
            refine r_aload_n C dX11_gatherGrantable_124 rfl ?_
            refine r_aload_n C dX11_gatherGrantable_125 rfl ?_
            obtain ⟨q31, hf⟩ := gf_s hf
            refine r_gf C ct11 (j := 0) (ji := 0) dX11_gatherGrantable_126 q31 rfl rfl (by decide) w_440 rfl (fun c31 => ?_)
            obtain ⟨q32, hf⟩ := gf_s hf
            refine r_gf C ct10 (j := 1) (ji := 1) dX11_gatherGrantable_129 q32 rfl rfl (by decide) w_302 rfl (fun c32 => ?_)
            obtain ⟨q33, hf⟩ := gf_s hf
            refine r_gf C ct5 (j := 1) (ji := 1) dX11_gatherGrantable_132 q33 rfl rfl (by decide) w_167 rfl (fun c33 => ?_)
            refine r_iload_n C dX11_gatherGrantable_135 rfl ?_
            obtain ⟨q34, hf⟩ := rd_s hf
            refine r_lald C dX11_gatherGrantable_136 q34 rfl (fun c34 => ?_)
            refine r_iload_n C dX11_gatherGrantable_137 rfl ?_
            refine r_iload C dX11_gatherGrantable_138 rfl ?_
            obtain ⟨p35, hf⟩ := gk_s hf
            obtain ⟨r35, h35, hq35, hf⟩ := bd_s hf
            refine r_cV5v C (am_X2_add (gl g) n) cm_X2_add w_1282 dX11_gatherGrantable_140 ⟨Nat.le_of_ble_eq_true rfl, Nat.le_of_ble_eq_true rfl⟩ p35 rfl cv1 trivial c34 c24 c29 rfl (Nat.le_of_ble_eq_true rfl) hq35 ?_
            exact G.mask [true, true, false, false, false] rfl rfl (b_X11_gatherGrantable_143 C hr L9 cv1 hf)
set_option maxRecDepth 20000 in
theorem l_X11_gatherGrantable_9 {g : GT} {Z : Int × MM} {n : Nat} (C : Cx g cX11_gatherGrantable 5 yX11_gatherGrantable 35 821) (hr : Rt g none 3 Z) {v0 : Int}    : ∀ (k : Nat) (v1 : Int) (h : MM), in32 v1 → f_X11_gatherGrantable_9 n  v0 k v1 h = some Z → G g 9 [(2, v0), (0, v1), (3, 0), (3, 0), (3, 0)] [] h := by
  intro k
  induction k with
  | zero => intro v1 h cv1 hf; exact absurd hf (by intro z; cases z)
  | succ k ih => intro v1 h cv1 hf; exact b_X11_gatherGrantable_9b C hr (rec9 := f_X11_gatherGrantable_9 n  v0 k)  ih cv1 (show f_X11_gatherGrantable_9b n  (f_X11_gatherGrantable_9 n  v0 k) v0 v1 h = some Z from hf)
set_option maxRecDepth 20000 in
theorem e_X11_gatherGrantable {g : GT} {Z : Int × MM} {n : Nat} (C : Cx g cX11_gatherGrantable 5 yX11_gatherGrantable 35 821) (hr : Rt g none 3 Z) {v0 : Int} (cv0 : cK 2 v0) {h : MM} (hf : f_X11_gatherGrantable n v0 h = some Z) : G g 0 [(2, v0), (3, 0), (3, 0), (3, 0), (3, 0)] [] h := by
  unfold f_X11_gatherGrantable at hf
  refine r_aload_n C dX11_gatherGrantable_0 rfl ?_
  obtain ⟨q1, hf⟩ := gf_s hf
  refine r_gf C ct11 (j := 6) (ji := 6) dX11_gatherGrantable_1 q1 rfl rfl (by decide) w_446 rfl (fun c1 => ?_)
  obtain ⟨p2, hf⟩ := gk_s hf
  obtain ⟨r2, h2, hq2, hf⟩ := bd_s hf
  refine r_cV0v C (am_X2_clear (gl g) n) cm_X2_clear w_1278 dX11_gatherGrantable_4 ⟨Nat.le_of_ble_eq_true rfl, Nat.le_of_ble_eq_true rfl⟩ p2 rfl  rfl (Nat.le_of_ble_eq_true rfl) hq2 ?_
  refine r_iconst C dX11_gatherGrantable_7 ?_
  refine r_istore_n C dX11_gatherGrantable_8 (Nat.le_of_ble_eq_true rfl) rfl ?_
  exact G.mask [true, true, false, false, false] rfl rfl (l_X11_gatherGrantable_9 C hr   _ _ _ (in32_of rfl) hf)
set_option maxRecDepth 20000 in
theorem am_X11_gatherGrantable (l : Launch) (n : Nat) : AM l yX11_gatherGrantable cX11_gatherGrantable 5 none 35 821 [2] 3 (un1 (f_X11_gatherGrantable n)) := by
  refine AM.intro (by decide) (fun xs hx => ?_) (fun g xs h Z hl C hr hx hf => ?_)
  · obtain ⟨a0, rfl, c0⟩ := canL_1 hx
    exact Nat.le_of_ble_eq_true rfl
  · obtain ⟨a0, rfl, c0⟩ := canL_1 hx
    have hf := (un1_e _ a0 _).symm.trans hf
    exact e_X11_gatherGrantable (n := n) C hr c0 hf
/-! LinesPromised$Lines.sumOf([II)I -/
theorem dX2_sumOf_0 : decode cX2_sumOf 0 = .ok (.iconst 0, 1) := by decide +kernel
theorem dX2_sumOf_1 : decode cX2_sumOf 1 = .ok (.istore_n 3, 1) := by decide +kernel
theorem dX2_sumOf_2 : decode cX2_sumOf 2 = .ok (.iconst 0, 1) := by decide +kernel
theorem dX2_sumOf_3 : decode cX2_sumOf 3 = .ok (.istore 4, 2) := by decide +kernel
theorem dX2_sumOf_5 : decode cX2_sumOf 5 = .ok (.iload 4, 2) := by decide +kernel
theorem dX2_sumOf_7 : decode cX2_sumOf 7 = .ok (.aload_n 0, 1) := by decide +kernel
theorem dX2_sumOf_8 : decode cX2_sumOf 8 = .ok (.getfield 27, 3) := by decide +kernel
theorem dX2_sumOf_11 : decode cX2_sumOf 11 = .ok (.if_icmp .ge 25, 3) := by decide +kernel
theorem dX2_sumOf_14 : decode cX2_sumOf 14 = .ok (.iload_n 2, 1) := by decide +kernel
theorem dX2_sumOf_15 : decode cX2_sumOf 15 = .ok (.iload 4, 2) := by decide +kernel
theorem dX2_sumOf_17 : decode cX2_sumOf 17 = .ok (.ishr, 1) := by decide +kernel
theorem dX2_sumOf_18 : decode cX2_sumOf 18 = .ok (.iconst 1, 1) := by decide +kernel
theorem dX2_sumOf_19 : decode cX2_sumOf 19 = .ok (.iand, 1) := by decide +kernel
theorem dX2_sumOf_20 : decode cX2_sumOf 20 = .ok (.ifCond .eq 10, 3) := by decide +kernel
theorem dX2_sumOf_23 : decode cX2_sumOf 23 = .ok (.iload_n 3, 1) := by decide +kernel
theorem dX2_sumOf_24 : decode cX2_sumOf 24 = .ok (.aload_n 1, 1) := by decide +kernel
theorem dX2_sumOf_25 : decode cX2_sumOf 25 = .ok (.iload 4, 2) := by decide +kernel
theorem dX2_sumOf_27 : decode cX2_sumOf 27 = .ok (.iaload, 1) := by decide +kernel
theorem dX2_sumOf_28 : decode cX2_sumOf 28 = .ok (.iadd, 1) := by decide +kernel
theorem dX2_sumOf_29 : decode cX2_sumOf 29 = .ok (.istore_n 3, 1) := by decide +kernel
theorem dX2_sumOf_30 : decode cX2_sumOf 30 = .ok (.iinc 4 1, 3) := by decide +kernel
theorem dX2_sumOf_33 : decode cX2_sumOf 33 = .ok (.goto (-28), 3) := by decide +kernel
theorem dX2_sumOf_36 : decode cX2_sumOf 36 = .ok (.iload_n 3, 1) := by decide +kernel
theorem dX2_sumOf_37 : decode cX2_sumOf 37 = .ok (.ireturn, 1) := by decide +kernel
theorem cm_X2_sumOf : CM yX2_sumOf cX2_sumOf 5 (some .int) 2 2 := ⟨w_1315, w_38, w_1316, w_96, ⟨by decide +kernel, by decide +kernel, by decide +kernel⟩, ⟨_, _, rfl⟩, by decide⟩
noncomputable def f_X2_sumOf_30 (n : Nat) (rec5 : Int → Int → MM → RR) (v0 v1 v2 v3 v4 : Int) (h : MM) : RR :=
  lb (wr (v4 + 1)) fun x1 =>
  rec5 v3 x1 h
noncomputable def f_X2_sumOf_5b (n : Nat) (rec5 : Int → Int → MM → RR) (v0 v1 v2 v3 v4 : Int) (h : MM) : RR :=
  gf h v0 2 6 fun r1 =>
  if r1 ≤ v4 then
    some (v3, h)
  else
  if ban (shr v2 v4) 1 = 0 then
    f_X2_sumOf_30 n rec5 v0 v1 v2 v3 v4 h
  else
  rd h v1 100 v4 fun r4 =>
  lb (wr (v3 + r4)) fun x5 =>
  f_X2_sumOf_30 n rec5 v0 v1 v2 x5 v4 h
noncomputable def f_X2_sumOf_5 (n : Nat)  (v0 v1 v2 : Int) : Nat → Int → Int → MM → RR
  | 0, _, _, _ => none
  | k + 1, v3, v4, h => f_X2_sumOf_5b n  (f_X2_sumOf_5 n  v0 v1 v2 k) v0 v1 v2 v3 v4 h
noncomputable def f_X2_sumOf (n : Nat) (v0 v1 v2 : Int) (h : MM) : RR :=
  f_X2_sumOf_5 n v0 v1 v2 n 0 0 h
set_option maxRecDepth 20000 in
theorem b_X2_sumOf_30 {g : GT} {Z : Int × MM} {n : Nat} (C : Cx g cX2_sumOf 5 yX2_sumOf 0 0) (hr : Rt g (some .int) 0 Z) {v0 v1 v2 v3 v4 : Int}  {rec5 : Int → Int → MM → RR} (L5 : ∀ (u3 u4 : Int) (h : MM), in32 u3 → in32 u4 → rec5 u3 u4 h = some Z → G g 5 [(2, v0), (2, v1), (0, v2), (0, u3), (0, u4)] [] h) (cv2 : in32 v2) (cv3 : in32 v3) (cv4 : in32 v4) {h : MM} (hf : f_X2_sumOf_30 n rec5 v0 v1 v2 v3 v4 h = some Z) : G g 30 [(2, v0), (2, v1), (0, v2), (0, v3), (0, v4)] [] h := by
  unfold f_X2_sumOf_30 at hf
  obtain ⟨x1, e1, hf⟩ := lb_s hf
  have c1 : in32 x1 := by rw [e1]; exact (in32_t _)
  refine r_iincL C dX2_sumOf_30 rfl e1 (Nat.le_of_ble_eq_true rfl) rfl ?_
  refine r_goto C dX2_sumOf_33 (tgt := 5) (by decide) ?_
  exact G.mask [true, true, true, true, true] rfl rfl (L5 _ _ _ cv3 c1 hf)
set_option maxRecDepth 20000 in
theorem b_X2_sumOf_5b {g : GT} {Z : Int × MM} {n : Nat} (C : Cx g cX2_sumOf 5 yX2_sumOf 0 0) (hr : Rt g (some .int) 0 Z) {v0 v1 v2 v3 v4 : Int}  {rec5 : Int → Int → MM → RR} (L5 : ∀ (u3 u4 : Int) (h : MM), in32 u3 → in32 u4 → rec5 u3 u4 h = some Z → G g 5 [(2, v0), (2, v1), (0, v2), (0, u3), (0, u4)] [] h) (cv2 : in32 v2) (cv3 : in32 v3) (cv4 : in32 v4) {h : MM} (hf : f_X2_sumOf_5b n rec5 v0 v1 v2 v3 v4 h = some Z) : G g 5 [(2, v0), (2, v1), (0, v2), (0, v3), (0, v4)] [] h := by
  unfold f_X2_sumOf_5b at hf
  refine r_iload C dX2_sumOf_5 rfl ?_
  refine r_aload_n C dX2_sumOf_7 rfl ?_
  obtain ⟨q1, hf⟩ := gf_s hf
  refine r_gf C ct2 (j := 6) (ji := 6) dX2_sumOf_8 q1 rfl rfl (by decide) w_423 rfl (fun c1 => ?_)
  have c1 : in32 _ := c1
  refine r_icmp_ge C dX2_sumOf_11 (tgt := 36) (by decide) cv4 c1 (fun n2 => ?_) (fun n2 => ?_)
  · have hf := ite_p n2 hf
    refine r_iload_n C dX2_sumOf_36 rfl ?_
    cases hf
    exact r_jret C hr dX2_sumOf_37 cv3
  · have hf := ite_n n2 hf
    refine r_iload_n C dX2_sumOf_14 rfl ?_
    refine r_iload C dX2_sumOf_15 rfl ?_
    refine r_ishr C dX2_sumOf_17 ?_
    refine r_iconst C dX2_sumOf_18 ?_
    refine r_iand C dX2_sumOf_19 ?_
    refine r_if_eq C dX2_sumOf_20 (tgt := 30) (by decide) (in32_t _) (fun n3 => ?_) (fun n3 => ?_)
    · have hf := ite_p n3 hf
      exact G.mask [true, true, true, true, true] rfl rfl (b_X2_sumOf_30 C hr L5 cv2 cv3 cv4 hf)
    · have hf := ite_n n3 hf
      refine r_iload_n C dX2_sumOf_23 rfl ?_
      refine r_aload_n C dX2_sumOf_24 rfl ?_
      refine r_iload C dX2_sumOf_25 rfl ?_
      obtain ⟨q4, hf⟩ := rd_s hf
      refine r_iald C dX2_sumOf_27 q4 rfl (fun c4 => ?_)
      refine r_iadd C dX2_sumOf_28 ?_
      obtain ⟨x5, e5, hf⟩ := lb_s hf
      have c5 : in32 x5 := by rw [e5]; exact (in32_t _)
      refine r_istore_nL C dX2_sumOf_29 e5 (Nat.le_of_ble_eq_true rfl) rfl ?_
      exact G.mask [true, true, true, true, true] rfl rfl (b_X2_sumOf_30 C hr L5 cv2 c5 cv4 hf)
set_option maxRecDepth 20000 in
theorem l_X2_sumOf_5 {g : GT} {Z : Int × MM} {n : Nat} (C : Cx g cX2_sumOf 5 yX2_sumOf 0 0) (hr : Rt g (some .int) 0 Z) {v0 v1 v2 : Int}   (cv2 : in32 v2) : ∀ (k : Nat) (v3 v4 : Int) (h : MM), in32 v3 → in32 v4 → f_X2_sumOf_5 n  v0 v1 v2 k v3 v4 h = some Z → G g 5 [(2, v0), (2, v1), (0, v2), (0, v3), (0, v4)] [] h := by
  intro k
  induction k with
  | zero => intro v3 v4 h cv3 cv4 hf; exact absurd hf (by intro z; cases z)
  | succ k ih => intro v3 v4 h cv3 cv4 hf; exact b_X2_sumOf_5b C hr (rec5 := f_X2_sumOf_5 n  v0 v1 v2 k)  ih cv2 cv3 cv4 (show f_X2_sumOf_5b n  (f_X2_sumOf_5 n  v0 v1 v2 k) v0 v1 v2 v3 v4 h = some Z from hf)
set_option maxRecDepth 20000 in
theorem e_X2_sumOf {g : GT} {Z : Int × MM} {n : Nat} (C : Cx g cX2_sumOf 5 yX2_sumOf 0 0) (hr : Rt g (some .int) 0 Z) {v0 v1 v2 : Int} (cv0 : cK 2 v0) (cv1 : cK 2 v1) (cv2 : cK 0 v2) {h : MM} (hf : f_X2_sumOf n v0 v1 v2 h = some Z) : G g 0 [(2, v0), (2, v1), (0, v2), (3, 0), (3, 0)] [] h := by
  have cv2 : in32 v2 := cv2
  unfold f_X2_sumOf at hf
  refine r_iconst C dX2_sumOf_0 ?_
  refine r_istore_n C dX2_sumOf_1 (Nat.le_of_ble_eq_true rfl) rfl ?_
  refine r_iconst C dX2_sumOf_2 ?_
  refine r_istore C dX2_sumOf_3 (Nat.le_of_ble_eq_true rfl) rfl ?_
  exact G.mask [true, true, true, true, true] rfl rfl (l_X2_sumOf_5 C hr  cv2 _ _ _ _ (in32_of rfl) (in32_of rfl) hf)
set_option maxRecDepth 20000 in
theorem am_X2_sumOf (l : Launch) (n : Nat) : AM l yX2_sumOf cX2_sumOf 5 (some .int) 0 0 [2, 2, 0] 0 (un3 (f_X2_sumOf n)) := by
  refine AM.intro (by decide) (fun xs hx => ?_) (fun g xs h Z hl C hr hx hf => ?_)
  · obtain ⟨a0, a1, a2, rfl, c0, c1, c2⟩ := canL_3 hx
    exact Nat.le_of_ble_eq_true rfl
  · obtain ⟨a0, a1, a2, rfl, c0, c1, c2⟩ := canL_3 hx
    have hf := (un3_e _ a0 a1 a2 _).symm.trans hf
    exact e_X2_sumOf (n := n) C hr c0 c1 c2 hf
/-! LinesPromised$Lines.coinsOf(I)I -/
theorem dX2_coinsOf_0 : decode cX2_coinsOf 0 = .ok (.aload_n 0, 1) := by decide +kernel
theorem dX2_coinsOf_1 : decode cX2_coinsOf 1 = .ok (.aload_n 0, 1) := by decide +kernel
theorem dX2_coinsOf_2 : decode cX2_coinsOf 2 = .ok (.getfield 24, 3) := by decide +kernel
theorem dX2_coinsOf_5 : decode cX2_coinsOf 5 = .ok (.iload_n 1, 1) := by decide +kernel
theorem dX2_coinsOf_6 : decode cX2_coinsOf 6 = .ok (.invokevirtual 58, 3) := by decide +kernel
theorem dX2_coinsOf_9 : decode cX2_coinsOf 9 = .ok (.ireturn, 1) := by decide +kernel
theorem cm_X2_coinsOf : CM yX2_coinsOf cX2_coinsOf 2 (some .int) 1 2 := ⟨w_1310, w_1311, w_1312, w_96, ⟨by decide +kernel, by decide +kernel, by decide +kernel⟩, ⟨_, _, rfl⟩, by decide⟩
noncomputable def f_X2_coinsOf (n : Nat) (v0 v1 : Int) (h : MM) : RR :=
  gf h v0 2 4 fun r1 =>
  gk h v0 2 <|
  bd (f_X2_sumOf n v0 r1 v1 h) fun r2 h2 =>
  some (r2, h2)
set_option maxRecDepth 20000 in
theorem e_X2_coinsOf {g : GT} {Z : Int × MM} {n : Nat} (C : Cx g cX2_coinsOf 2 yX2_coinsOf 1 24) (hr : Rt g (some .int) 0 Z) {v0 v1 : Int} (cv0 : cK 2 v0) (cv1 : cK 0 v1) {h : MM} (hf : f_X2_coinsOf n v0 v1 h = some Z) : G g 0 [(2, v0), (0, v1)] [] h := by
  have cv1 : in32 v1 := cv1
  unfold f_X2_coinsOf at hf
  refine r_aload_n C dX2_coinsOf_0 rfl ?_
  refine r_aload_n C dX2_coinsOf_1 rfl ?_
  obtain ⟨q1, hf⟩ := gf_s hf
  refine r_gf C ct2 (j := 4) (ji := 4) dX2_coinsOf_2 q1 rfl rfl (by decide) w_421 rfl (fun c1 => ?_)
  refine r_iload_n C dX2_coinsOf_5 rfl ?_
  obtain ⟨p2, hf⟩ := gk_s hf
  obtain ⟨r2, h2, hq2, hf⟩ := bd_s hf
  refine r_cV2 C (am_X2_sumOf (gl g) n) cm_X2_sumOf w_1313 dX2_coinsOf_6 ⟨Nat.le_of_ble_eq_true rfl, Nat.le_of_ble_eq_true rfl⟩ p2 rfl trivial cv1 rfl (Nat.le_of_ble_eq_true rfl) hq2 (by decide) (fun c2 => ?_)
  have c2 : in32 _ := c2
  cases hf
  exact r_jret C hr dX2_coinsOf_9 c2
set_option maxRecDepth 20000 in
theorem am_X2_coinsOf (l : Launch) (n : Nat) : AM l yX2_coinsOf cX2_coinsOf 2 (some .int) 1 24 [2, 0] 0 (un2 (f_X2_coinsOf n)) := by
  refine AM.intro (by decide) (fun xs hx => ?_) (fun g xs h Z hl C hr hx hf => ?_)
  · obtain ⟨a0, a1, rfl, c0, c1⟩ := canL_2 hx
    exact Nat.le_of_ble_eq_true rfl
  · obtain ⟨a0, a1, rfl, c0, c1⟩ := canL_2 hx
    have hf := (un2_e _ a0 a1 _).symm.trans hf
    exact e_X2_coinsOf (n := n) C hr c0 c1 hf
/-! LinesPromised$Lines.isBetter(II)Z -/
theorem dX2_isBetter_0 : decode cX2_isBetter 0 = .ok (.aload_n 0, 1) := by decide +kernel
theorem dX2_isBetter_1 : decode cX2_isBetter 1 = .ok (.iload_n 1, 1) := by decide +kernel
theorem dX2_isBetter_2 : decode cX2_isBetter 2 = .ok (.invokevirtual 55, 3) := by decide +kernel
theorem dX2_isBetter_5 : decode cX2_isBetter 5 = .ok (.aload_n 0, 1) := by decide +kernel
theorem dX2_isBetter_6 : decode cX2_isBetter 6 = .ok (.iload_n 2, 1) := by decide +kernel
theorem dX2_isBetter_7 : decode cX2_isBetter 7 = .ok (.invokevirtual 55, 3) := by decide +kernel
theorem dX2_isBetter_10 : decode cX2_isBetter 10 = .ok (.isub, 1) := by decide +kernel
theorem dX2_isBetter_11 : decode cX2_isBetter 11 = .ok (.istore_n 3, 1) := by decide +kernel
theorem dX2_isBetter_12 : decode cX2_isBetter 12 = .ok (.iload_n 3, 1) := by decide +kernel
theorem dX2_isBetter_13 : decode cX2_isBetter 13 = .ok (.ifCond .lt 18, 3) := by decide +kernel
theorem dX2_isBetter_16 : decode cX2_isBetter 16 = .ok (.iload_n 3, 1) := by decide +kernel
theorem dX2_isBetter_17 : decode cX2_isBetter 17 = .ok (.ifCond .ne 18, 3) := by decide +kernel
theorem dX2_isBetter_20 : decode cX2_isBetter 20 = .ok (.iload_n 1, 1) := by decide +kernel
theorem dX2_isBetter_21 : decode cX2_isBetter 21 = .ok (.invokestatic 45, 3) := by decide +kernel
theorem dX2_isBetter_24 : decode cX2_isBetter 24 = .ok (.iload_n 2, 1) := by decide +kernel
theorem dX2_isBetter_25 : decode cX2_isBetter 25 = .ok (.invokestatic 45, 3) := by decide +kernel
theorem dX2_isBetter_28 : decode cX2_isBetter 28 = .ok (.if_icmp .ge 7, 3) := by decide +kernel
theorem dX2_isBetter_31 : decode cX2_isBetter 31 = .ok (.iconst 1, 1) := by decide +kernel
theorem dX2_isBetter_32 : decode cX2_isBetter 32 = .ok (.goto 4, 3) := by decide +kernel
theorem dX2_isBetter_35 : decode cX2_isBetter 35 = .ok (.iconst 0, 1) := by decide +kernel
theorem dX2_isBetter_36 : decode cX2_isBetter 36 = .ok (.ireturn, 1) := by decide +kernel
theorem cm_X2_isBetter : CM yX2_isBetter cX2_isBetter 4 (some .boolean) 2 2 := ⟨w_1319, w_39, w_1320, w_96, ⟨by decide +kernel, by decide +kernel, by decide +kernel⟩, ⟨_, _, rfl⟩, by decide⟩
noncomputable def f_X2_isBetter_36 (n : Nat)  (s0 : Int) (h : MM) : RR :=
  ck (isb s0) <|
  some (s0, h)
noncomputable def f_X2_isBetter_31 (n : Nat)  (h : MM) : RR :=
  f_X2_isBetter_36 n 1 h
noncomputable def f_X2_isBetter_35 (n : Nat)  (h : MM) : RR :=
  f_X2_isBetter_36 n 0 h
noncomputable def f_X2_isBetter (n : Nat) (v0 v1 v2 : Int) (h : MM) : RR :=
  gk h v0 2 <|
  bd (f_X2_coinsOf n v0 v1 h) fun r1 h1 =>
  gk h1 v0 2 <|
  bd (f_X2_coinsOf n v0 v2 h1) fun r2 h2 =>
  lb (wr (r1 - r2)) fun x3 =>
  if x3 < 0 then
    f_X2_isBetter_31 n h2
  else
  if x3 = 0 then
    bd (f_J6_bitCount_0f7a4 n v1 h2) fun r6 h6 =>
    bd (f_J6_bitCount_0f7a4 n v2 h6) fun r7 h7 =>
    if r7 ≤ r6 then
      f_X2_isBetter_35 n h7
    else
    f_X2_isBetter_31 n h7
  else
  f_X2_isBetter_35 n h2
set_option maxRecDepth 20000 in
theorem b_X2_isBetter_36 {g : GT} {Z : Int × MM} {n : Nat} (C : Cx g cX2_isBetter 4 yX2_isBetter 2 45) (hr : Rt g (some .boolean) 0 Z) {s0 : Int}    (cs0 : in32 s0) {h : MM} (hf : f_X2_isBetter_36 n  s0 h = some Z) : G g 36 [(3, 0), (3, 0), (3, 0), (3, 0)] [(0, s0)] h := by
  unfold f_X2_isBetter_36 at hf
  obtain ⟨b1, hf⟩ := ck_s hf
  cases hf
  exact r_zret C hr dX2_isBetter_36 b1
set_option maxRecDepth 20000 in
theorem b_X2_isBetter_31 {g : GT} {Z : Int × MM} {n : Nat} (C : Cx g cX2_isBetter 4 yX2_isBetter 2 45) (hr : Rt g (some .boolean) 0 Z)     {h : MM} (hf : f_X2_isBetter_31 n   h = some Z) : G g 31 [(3, 0), (3, 0), (3, 0), (3, 0)] [] h := by
  unfold f_X2_isBetter_31 at hf
  refine r_iconst C dX2_isBetter_31 ?_
  refine r_goto C dX2_isBetter_32 (tgt := 36) (by decide) ?_
  exact G.mask [false, false, false, false] rfl rfl (b_X2_isBetter_36 C hr  (in32_of rfl) hf)
set_option maxRecDepth 20000 in
theorem b_X2_isBetter_35 {g : GT} {Z : Int × MM} {n : Nat} (C : Cx g cX2_isBetter 4 yX2_isBetter 2 45) (hr : Rt g (some .boolean) 0 Z)     {h : MM} (hf : f_X2_isBetter_35 n   h = some Z) : G g 35 [(3, 0), (3, 0), (3, 0), (3, 0)] [] h := by
  unfold f_X2_isBetter_35 at hf
  refine r_iconst C dX2_isBetter_35 ?_
  exact G.mask [false, false, false, false] rfl rfl (b_X2_isBetter_36 C hr  (in32_of rfl) hf)
set_option maxRecDepth 20000 in
theorem e_X2_isBetter {g : GT} {Z : Int × MM} {n : Nat} (C : Cx g cX2_isBetter 4 yX2_isBetter 2 45) (hr : Rt g (some .boolean) 0 Z) {v0 v1 v2 : Int} (cv0 : cK 2 v0) (cv1 : cK 0 v1) (cv2 : cK 0 v2) {h : MM} (hf : f_X2_isBetter n v0 v1 v2 h = some Z) : G g 0 [(2, v0), (0, v1), (0, v2), (3, 0)] [] h := by
  have cv1 : in32 v1 := cv1
  have cv2 : in32 v2 := cv2
  unfold f_X2_isBetter at hf
  refine r_aload_n C dX2_isBetter_0 rfl ?_
  refine r_iload_n C dX2_isBetter_1 rfl ?_
  obtain ⟨p1, hf⟩ := gk_s hf
  obtain ⟨r1, h1, hq1, hf⟩ := bd_s hf
  refine r_cV1 C (am_X2_coinsOf (gl g) n) cm_X2_coinsOf w_1309 dX2_isBetter_2 ⟨Nat.le_of_ble_eq_true rfl, Nat.le_of_ble_eq_true rfl⟩ p1 rfl cv1 rfl (Nat.le_of_ble_eq_true rfl) hq1 (by decide) (fun c1 => ?_)
  have c1 : in32 _ := c1
  refine r_aload_n C dX2_isBetter_5 rfl ?_
  refine r_iload_n C dX2_isBetter_6 rfl ?_
  obtain ⟨p2, hf⟩ := gk_s hf
  obtain ⟨r2, h2, hq2, hf⟩ := bd_s hf
  refine r_cV1 C (am_X2_coinsOf (gl g) n) cm_X2_coinsOf w_1309 dX2_isBetter_7 ⟨Nat.le_of_ble_eq_true rfl, Nat.le_of_ble_eq_true rfl⟩ p2 rfl cv2 rfl (Nat.le_of_ble_eq_true rfl) hq2 (by decide) (fun c2 => ?_)
  have c2 : in32 _ := c2
  refine r_isub C dX2_isBetter_10 ?_
  obtain ⟨x3, e3, hf⟩ := lb_s hf
  have c3 : in32 x3 := by rw [e3]; exact (in32_t _)
  refine r_istore_nL C dX2_isBetter_11 e3 (Nat.le_of_ble_eq_true rfl) rfl ?_
  refine r_iload_n C dX2_isBetter_12 rfl ?_
  refine r_if_lt C dX2_isBetter_13 (tgt := 31) (by decide) c3 (fun n4 => ?_) (fun n4 => ?_)
  · have hf := ite_p n4 hf
    exact G.mask [false, false, false, false] rfl rfl (b_X2_isBetter_31 C hr   hf)
  · have hf := ite_n n4 hf
    refine r_iload_n C dX2_isBetter_16 rfl ?_
    refine r_if_ne C dX2_isBetter_17 (tgt := 35) (by decide) c3 (fun n5 => ?_) (fun n5 => ?_)
    · have hf := ite_n n5 hf
      exact G.mask [false, false, false, false] rfl rfl (b_X2_isBetter_35 C hr   hf)
    · have hf := ite_p n5 hf
      refine r_iload_n C dX2_isBetter_20 rfl ?_
      obtain ⟨r6, h6, hq6, hf⟩ := bd_s hf
      refine r_cS1 C (am_J6_bitCount_0f7a4 (gl g) n) cm_J6_bitCount_0f7a4 w_1290 dX2_isBetter_21 ⟨Nat.le_of_ble_eq_true rfl, Nat.le_of_ble_eq_true rfl⟩ cv1 rfl (Nat.le_of_ble_eq_true rfl) hq6 (by decide) (fun c6 => ?_)
      have c6 : in32 _ := c6
      refine r_iload_n C dX2_isBetter_24 rfl ?_
      obtain ⟨r7, h7, hq7, hf⟩ := bd_s hf
      refine r_cS1 C (am_J6_bitCount_0f7a4 (gl g) n) cm_J6_bitCount_0f7a4 w_1290 dX2_isBetter_25 ⟨Nat.le_of_ble_eq_true rfl, Nat.le_of_ble_eq_true rfl⟩ cv2 rfl (Nat.le_of_ble_eq_true rfl) hq7 (by decide) (fun c7 => ?_)
      have c7 : in32 _ := c7
      refine r_icmp_ge C dX2_isBetter_28 (tgt := 35) (by decide) c6 c7 (fun n8 => ?_) (fun n8 => ?_)
      · have hf := ite_p n8 hf
        exact G.mask [false, false, false, false] rfl rfl (b_X2_isBetter_35 C hr   hf)
      · have hf := ite_n n8 hf
        exact G.mask [false, false, false, false] rfl rfl (b_X2_isBetter_31 C hr   hf)
set_option maxRecDepth 20000 in
theorem am_X2_isBetter (l : Launch) (n : Nat) : AM l yX2_isBetter cX2_isBetter 4 (some .boolean) 2 45 [2, 0, 0] 0 (un3 (f_X2_isBetter n)) := by
  refine AM.intro (by decide) (fun xs hx => ?_) (fun g xs h Z hl C hr hx hf => ?_)
  · obtain ⟨a0, a1, a2, rfl, c0, c1, c2⟩ := canL_3 hx
    exact Nat.le_of_ble_eq_true rfl
  · obtain ⟨a0, a1, a2, rfl, c0, c1, c2⟩ := canL_3 hx
    have hf := (un3_e _ a0 a1 a2 _).symm.trans hf
    exact e_X2_isBetter (n := n) C hr c0 c1 c2 hf
/-! LinesPromised$Lines.isAtOdds(I)Z -/
theorem dX2_isAtOdds_0 : decode cX2_isAtOdds 0 = .ok (.iconst 0, 1) := by decide +kernel
theorem dX2_isAtOdds_1 : decode cX2_isAtOdds 1 = .ok (.istore_n 2, 1) := by decide +kernel
theorem dX2_isAtOdds_2 : decode cX2_isAtOdds 2 = .ok (.iload_n 2, 1) := by decide +kernel
theorem dX2_isAtOdds_3 : decode cX2_isAtOdds 3 = .ok (.aload_n 0, 1) := by decide +kernel
theorem dX2_isAtOdds_4 : decode cX2_isAtOdds 4 = .ok (.getfield 27, 3) := by decide +kernel
theorem dX2_isAtOdds_7 : decode cX2_isAtOdds 7 = .ok (.if_icmp .ge 30, 3) := by decide +kernel
theorem dX2_isAtOdds_10 : decode cX2_isAtOdds 10 = .ok (.iload_n 1, 1) := by decide +kernel
theorem dX2_isAtOdds_11 : decode cX2_isAtOdds 11 = .ok (.iload_n 2, 1) := by decide +kernel
theorem dX2_isAtOdds_12 : decode cX2_isAtOdds 12 = .ok (.ishr, 1) := by decide +kernel
theorem dX2_isAtOdds_13 : decode cX2_isAtOdds 13 = .ok (.iconst 1, 1) := by decide +kernel
theorem dX2_isAtOdds_14 : decode cX2_isAtOdds 14 = .ok (.iand, 1) := by decide +kernel
theorem dX2_isAtOdds_15 : decode cX2_isAtOdds 15 = .ok (.ifCond .eq 16, 3) := by decide +kernel
theorem dX2_isAtOdds_18 : decode cX2_isAtOdds 18 = .ok (.aload_n 0, 1) := by decide +kernel
theorem dX2_isAtOdds_19 : decode cX2_isAtOdds 19 = .ok (.getfield 18, 3) := by decide +kernel
theorem dX2_isAtOdds_22 : decode cX2_isAtOdds 22 = .ok (.iload_n 2, 1) := by decide +kernel
theorem dX2_isAtOdds_23 : decode cX2_isAtOdds 23 = .ok (.iaload, 1) := by decide +kernel
theorem dX2_isAtOdds_24 : decode cX2_isAtOdds 24 = .ok (.iload_n 1, 1) := by decide +kernel
theorem dX2_isAtOdds_25 : decode cX2_isAtOdds 25 = .ok (.iand, 1) := by decide +kernel
theorem dX2_isAtOdds_26 : decode cX2_isAtOdds 26 = .ok (.ifCond .eq 5, 3) := by decide +kernel
theorem dX2_isAtOdds_29 : decode cX2_isAtOdds 29 = .ok (.iconst 1, 1) := by decide +kernel
theorem dX2_isAtOdds_30 : decode cX2_isAtOdds 30 = .ok (.ireturn, 1) := by decide +kernel
theorem dX2_isAtOdds_31 : decode cX2_isAtOdds 31 = .ok (.iinc 2 1, 3) := by decide +kernel
theorem dX2_isAtOdds_34 : decode cX2_isAtOdds 34 = .ok (.goto (-32), 3) := by decide +kernel
theorem dX2_isAtOdds_37 : decode cX2_isAtOdds 37 = .ok (.iconst 0, 1) := by decide +kernel
theorem dX2_isAtOdds_38 : decode cX2_isAtOdds 38 = .ok (.ireturn, 1) := by decide +kernel
theorem cm_X2_isAtOdds : CM yX2_isAtOdds cX2_isAtOdds 3 (some .boolean) 1 2 := ⟨w_1323, w_40, w_1324, w_96, ⟨by decide +kernel, by decide +kernel, by decide +kernel⟩, ⟨_, _, rfl⟩, by decide⟩
noncomputable def f_X2_isAtOdds_31 (n : Nat) (rec2 : Int → MM → RR) (v0 v1 v2 : Int) (h : MM) : RR :=
  lb (wr (v2 + 1)) fun x1 =>
  rec2 x1 h
noncomputable def f_X2_isAtOdds_2b (n : Nat) (rec2 : Int → MM → RR) (v0 v1 v2 : Int) (h : MM) : RR :=
  gf h v0 2 6 fun r1 =>
  if r1 ≤ v2 then
    ck (isb 0) <|
    some (0, h)
  else
  if ban (shr v1 v2) 1 = 0 then
    f_X2_isAtOdds_31 n rec2 v0 v1 v2 h
  else
  gf h v0 2 2 fun r5 =>
  rd h r5 100 v2 fun r6 =>
  if ban r6 v1 = 0 then
    f_X2_isAtOdds_31 n rec2 v0 v1 v2 h
  else
  ck (isb 1) <|
  some (1, h)
noncomputable def f_X2_isAtOdds_2 (n : Nat)  (v0 v1 : Int) : Nat → Int → MM → RR
  | 0, _, _ => none
  | k + 1, v2, h => f_X2_isAtOdds_2b n  (f_X2_isAtOdds_2 n  v0 v1 k) v0 v1 v2 h
noncomputable def f_X2_isAtOdds (n : Nat) (v0 v1 : Int) (h : MM) : RR :=
  f_X2_isAtOdds_2 n v0 v1 n 0 h
set_option maxRecDepth 20000 in
theorem b_X2_isAtOdds_31 {g : GT} {Z : Int × MM} {n : Nat} (C : Cx g cX2_isAtOdds 3 yX2_isAtOdds 0 0) (hr : Rt g (some .boolean) 0 Z) {v0 v1 v2 : Int}  {rec2 : Int → MM → RR} (L2 : ∀ (u2 : Int) (h : MM), in32 u2 → rec2 u2 h = some Z → G g 2 [(2, v0), (0, v1), (0, u2)] [] h) (cv1 : in32 v1) (cv2 : in32 v2) {h : MM} (hf : f_X2_isAtOdds_31 n rec2 v0 v1 v2 h = some Z) : G g 31 [(2, v0), (0, v1), (0, v2)] [] h := by
  unfold f_X2_isAtOdds_31 at hf
  obtain ⟨x1, e1, hf⟩ := lb_s hf
  have c1 : in32 x1 := by rw [e1]; exact (in32_t _)
  refine r_iincL C dX2_isAtOdds_31 rfl e1 (Nat.le_of_ble_eq_true rfl) rfl ?_
  refine r_goto C dX2_isAtOdds_34 (tgt := 2) (by decide) ?_
  exact G.mask [true, true, true] rfl rfl (L2 _ _ c1 hf)
set_option maxRecDepth 20000 in
theorem b_X2_isAtOdds_2b {g : GT} {Z : Int × MM} {n : Nat} (C : Cx g cX2_isAtOdds 3 yX2_isAtOdds 0 0) (hr : Rt g (some .boolean) 0 Z) {v0 v1 v2 : Int}  {rec2 : Int → MM → RR} (L2 : ∀ (u2 : Int) (h : MM), in32 u2 → rec2 u2 h = some Z → G g 2 [(2, v0), (0, v1), (0, u2)] [] h) (cv1 : in32 v1) (cv2 : in32 v2) {h : MM} (hf : f_X2_isAtOdds_2b n rec2 v0 v1 v2 h = some Z) : G g 2 [(2, v0), (0, v1), (0, v2)] [] h := by
  unfold f_X2_isAtOdds_2b at hf
  refine r_iload_n C dX2_isAtOdds_2 rfl ?_
  refine r_aload_n C dX2_isAtOdds_3 rfl ?_
  obtain ⟨q1, hf⟩ := gf_s hf
  refine r_gf C ct2 (j := 6) (ji := 6) dX2_isAtOdds_4 q1 rfl rfl (by decide) w_423 rfl (fun c1 => ?_)
  have c1 : in32 _ := c1
  refine r_icmp_ge C dX2_isAtOdds_7 (tgt := 37) (by decide) cv2 c1 (fun n2 => ?_) (fun n2 => ?_)
  · have hf := ite_p n2 hf
    refine r_iconst C dX2_isAtOdds_37 ?_
    obtain ⟨b3, hf⟩ := ck_s hf
    cases hf
    exact r_zret C hr dX2_isAtOdds_38 b3
  · have hf := ite_n n2 hf
    refine r_iload_n C dX2_isAtOdds_10 rfl ?_
    refine r_iload_n C dX2_isAtOdds_11 rfl ?_
    refine r_ishr C dX2_isAtOdds_12 ?_
    refine r_iconst C dX2_isAtOdds_13 ?_
    refine r_iand C dX2_isAtOdds_14 ?_
    refine r_if_eq C dX2_isAtOdds_15 (tgt := 31) (by decide) (in32_t _) (fun n4 => ?_) (fun n4 => ?_)
    · have hf := ite_p n4 hf
      exact G.mask [true, true, true] rfl rfl (b_X2_isAtOdds_31 C hr L2 cv1 cv2 hf)
    · have hf := ite_n n4 hf
      refine r_aload_n C dX2_isAtOdds_18 rfl ?_
      obtain ⟨q5, hf⟩ := gf_s hf
      refine r_gf C ct2 (j := 2) (ji := 2) dX2_isAtOdds_19 q5 rfl rfl (by decide) w_419 rfl (fun c5 => ?_)
      refine r_iload_n C dX2_isAtOdds_22 rfl ?_
      obtain ⟨q6, hf⟩ := rd_s hf
      refine r_iald C dX2_isAtOdds_23 q6 rfl (fun c6 => ?_)
      refine r_iload_n C dX2_isAtOdds_24 rfl ?_
      refine r_iand C dX2_isAtOdds_25 ?_
      refine r_if_eq C dX2_isAtOdds_26 (tgt := 31) (by decide) (in32_t _) (fun n7 => ?_) (fun n7 => ?_)
      · have hf := ite_p n7 hf
        exact G.mask [true, true, true] rfl rfl (b_X2_isAtOdds_31 C hr L2 cv1 cv2 hf)
      · have hf := ite_n n7 hf
        refine r_iconst C dX2_isAtOdds_29 ?_
        obtain ⟨b8, hf⟩ := ck_s hf
        cases hf
        exact r_zret C hr dX2_isAtOdds_30 b8
set_option maxRecDepth 20000 in
theorem l_X2_isAtOdds_2 {g : GT} {Z : Int × MM} {n : Nat} (C : Cx g cX2_isAtOdds 3 yX2_isAtOdds 0 0) (hr : Rt g (some .boolean) 0 Z) {v0 v1 : Int}   (cv1 : in32 v1) : ∀ (k : Nat) (v2 : Int) (h : MM), in32 v2 → f_X2_isAtOdds_2 n  v0 v1 k v2 h = some Z → G g 2 [(2, v0), (0, v1), (0, v2)] [] h := by
  intro k
  induction k with
  | zero => intro v2 h cv2 hf; exact absurd hf (by intro z; cases z)
  | succ k ih => intro v2 h cv2 hf; exact b_X2_isAtOdds_2b C hr (rec2 := f_X2_isAtOdds_2 n  v0 v1 k)  ih cv1 cv2 (show f_X2_isAtOdds_2b n  (f_X2_isAtOdds_2 n  v0 v1 k) v0 v1 v2 h = some Z from hf)
set_option maxRecDepth 20000 in
theorem e_X2_isAtOdds {g : GT} {Z : Int × MM} {n : Nat} (C : Cx g cX2_isAtOdds 3 yX2_isAtOdds 0 0) (hr : Rt g (some .boolean) 0 Z) {v0 v1 : Int} (cv0 : cK 2 v0) (cv1 : cK 0 v1) {h : MM} (hf : f_X2_isAtOdds n v0 v1 h = some Z) : G g 0 [(2, v0), (0, v1), (3, 0)] [] h := by
  have cv1 : in32 v1 := cv1
  unfold f_X2_isAtOdds at hf
  refine r_iconst C dX2_isAtOdds_0 ?_
  refine r_istore_n C dX2_isAtOdds_1 (Nat.le_of_ble_eq_true rfl) rfl ?_
  exact G.mask [true, true, true] rfl rfl (l_X2_isAtOdds_2 C hr  cv1 _ _ _ (in32_of rfl) hf)
set_option maxRecDepth 20000 in
theorem am_X2_isAtOdds (l : Launch) (n : Nat) : AM l yX2_isAtOdds cX2_isAtOdds 3 (some .boolean) 0 0 [2, 0] 0 (un2 (f_X2_isAtOdds n)) := by
  refine AM.intro (by decide) (fun xs hx => ?_) (fun g xs h Z hl C hr hx hf => ?_)
  · obtain ⟨a0, a1, rfl, c0, c1⟩ := canL_2 hx
    exact Nat.le_of_ble_eq_true rfl
  · obtain ⟨a0, a1, rfl, c0, c1⟩ := canL_2 hx
    have hf := (un2_e _ a0 a1 _).symm.trans hf
    exact e_X2_isAtOdds (n := n) C hr c0 c1 hf
/-! LinesPromised$Lines.cheapest(III)I -/
theorem dX2_cheapest_0 : decode cX2_cheapest 0 = .ok (.bipush (-5), 2) := by decide +kernel
theorem dX2_cheapest_2 : decode cX2_cheapest 2 = .ok (.istore 4, 2) := by decide +kernel
theorem dX2_cheapest_4 : decode cX2_cheapest 4 = .ok (.iconst 0, 1) := by decide +kernel
theorem dX2_cheapest_5 : decode cX2_cheapest 5 = .ok (.istore 5, 2) := by decide +kernel
theorem dX2_cheapest_7 : decode cX2_cheapest 7 = .ok (.iload 5, 2) := by decide +kernel
theorem dX2_cheapest_9 : decode cX2_cheapest 9 = .ok (.iconst 1, 1) := by decide +kernel
theorem dX2_cheapest_10 : decode cX2_cheapest 10 = .ok (.aload_n 0, 1) := by decide +kernel
theorem dX2_cheapest_11 : decode cX2_cheapest 11 = .ok (.getfield 27, 3) := by decide +kernel
theorem dX2_cheapest_14 : decode cX2_cheapest 14 = .ok (.ishl, 1) := by decide +kernel
theorem dX2_cheapest_15 : decode cX2_cheapest 15 = .ok (.if_icmp .ge 78, 3) := by decide +kernel
theorem dX2_cheapest_18 : decode cX2_cheapest 18 = .ok (.aload_n 0, 1) := by decide +kernel
theorem dX2_cheapest_19 : decode cX2_cheapest 19 = .ok (.iload 5, 2) := by decide +kernel
theorem dX2_cheapest_21 : decode cX2_cheapest 21 = .ok (.invokevirtual 55, 3) := by decide +kernel
theorem dX2_cheapest_24 : decode cX2_cheapest 24 = .ok (.iload_n 3, 1) := by decide +kernel
theorem dX2_cheapest_25 : decode cX2_cheapest 25 = .ok (.if_icmp .gt 62, 3) := by decide +kernel
theorem dX2_cheapest_28 : decode cX2_cheapest 28 = .ok (.aload_n 0, 1) := by decide +kernel
theorem dX2_cheapest_29 : decode cX2_cheapest 29 = .ok (.aload_n 0, 1) := by decide +kernel
theorem dX2_cheapest_30 : decode cX2_cheapest 30 = .ok (.getfield 21, 3) := by decide +kernel
theorem dX2_cheapest_33 : decode cX2_cheapest 33 = .ok (.iload 5, 2) := by decide +kernel
theorem dX2_cheapest_35 : decode cX2_cheapest 35 = .ok (.invokevirtual 58, 3) := by decide +kernel
theorem dX2_cheapest_38 : decode cX2_cheapest 38 = .ok (.iload_n 2, 1) := by decide +kernel
theorem dX2_cheapest_39 : decode cX2_cheapest 39 = .ok (.if_icmp .le 6, 3) := by decide +kernel
theorem dX2_cheapest_42 : decode cX2_cheapest 42 = .ok (.goto 45, 3) := by decide +kernel
theorem dX2_cheapest_45 : decode cX2_cheapest 45 = .ok (.iload 4, 2) := by decide +kernel
theorem dX2_cheapest_47 : decode cX2_cheapest 47 = .ok (.ifCond .lt 17, 3) := by decide +kernel
theorem dX2_cheapest_50 : decode cX2_cheapest 50 = .ok (.aload_n 0, 1) := by decide +kernel
theorem dX2_cheapest_51 : decode cX2_cheapest 51 = .ok (.iload 5, 2) := by decide +kernel
theorem dX2_cheapest_53 : decode cX2_cheapest 53 = .ok (.iload 4, 2) := by decide +kernel
theorem dX2_cheapest_55 : decode cX2_cheapest 55 = .ok (.invokevirtual 62, 3) := by decide +kernel
theorem dX2_cheapest_58 : decode cX2_cheapest 58 = .ok (.ifCond .ne 6, 3) := by decide +kernel
theorem dX2_cheapest_61 : decode cX2_cheapest 61 = .ok (.goto 26, 3) := by decide +kernel
theorem dX2_cheapest_64 : decode cX2_cheapest 64 = .ok (.aload_n 0, 1) := by decide +kernel
theorem dX2_cheapest_65 : decode cX2_cheapest 65 = .ok (.iload 5, 2) := by decide +kernel
theorem dX2_cheapest_67 : decode cX2_cheapest 67 = .ok (.invokevirtual 65, 3) := by decide +kernel
theorem dX2_cheapest_70 : decode cX2_cheapest 70 = .ok (.ifCond .ne 17, 3) := by decide +kernel
theorem dX2_cheapest_73 : decode cX2_cheapest 73 = .ok (.aload_n 0, 1) := by decide +kernel
theorem dX2_cheapest_74 : decode cX2_cheapest 74 = .ok (.iload_n 1, 1) := by decide +kernel
theorem dX2_cheapest_75 : decode cX2_cheapest 75 = .ok (.iload 5, 2) := by decide +kernel
theorem dX2_cheapest_77 : decode cX2_cheapest 77 = .ok (.invokevirtual 51, 3) := by decide +kernel
theorem dX2_cheapest_80 : decode cX2_cheapest 80 = .ok (.ifCond .eq 7, 3) := by decide +kernel
theorem dX2_cheapest_83 : decode cX2_cheapest 83 = .ok (.iload 5, 2) := by decide +kernel
theorem dX2_cheapest_85 : decode cX2_cheapest 85 = .ok (.istore 4, 2) := by decide +kernel
theorem dX2_cheapest_87 : decode cX2_cheapest 87 = .ok (.iinc 5 1, 3) := by decide +kernel
theorem dX2_cheapest_90 : decode cX2_cheapest 90 = .ok (.goto (-83), 3) := by decide +kernel
theorem dX2_cheapest_93 : decode cX2_cheapest 93 = .ok (.iload 4, 2) := by decide +kernel
theorem dX2_cheapest_95 : decode cX2_cheapest 95 = .ok (.ireturn, 1) := by decide +kernel
theorem cm_X2_cheapest : CM yX2_cheapest cX2_cheapest 6 (some .int) 3 2 := ⟨w_1306, w_1307, w_1308, w_96, ⟨by decide +kernel, by decide +kernel, by decide +kernel⟩, ⟨_, _, rfl⟩, by decide⟩
noncomputable def f_X2_cheapest_87 (n : Nat) (rec7 : Int → Int → MM → RR) (v0 v1 v2 v3 v4 v5 : Int) (h : MM) : RR :=
  lb (wr (v5 + 1)) fun x1 =>
  rec7 v4 x1 h
noncomputable def f_X2_cheapest_64 (n : Nat) (rec7 : Int → Int → MM → RR) (v0 v1 v2 v3 v4 v5 : Int) (h : MM) : RR :=
  gk h v0 2 <|
  bd (f_X2_isAtOdds n v0 v5 h) fun r1 h1 =>
  if r1 = 0 then
    gk h1 v0 2 <|
    bd (f_X2_join n v0 v1 v5 h1) fun r3 h3 =>
    if r3 = 0 then
      f_X2_cheapest_87 n rec7 v0 v1 v2 v3 v4 v5 h3
    else
    f_X2_cheapest_87 n rec7 v0 v1 v2 v3 v5 v5 h3
  else
  f_X2_cheapest_87 n rec7 v0 v1 v2 v3 v4 v5 h1
noncomputable def f_X2_cheapest_7b (n : Nat) (rec7 : Int → Int → MM → RR) (v0 v1 v2 v3 v4 v5 : Int) (h : MM) : RR :=
  gf h v0 2 6 fun r1 =>
  if shl 1 r1 ≤ v5 then
    some (v4, h)
  else
  gk h v0 2 <|
  bd (f_X2_coinsOf n v0 v5 h) fun r3 h3 =>
  if v3 < r3 then
    f_X2_cheapest_87 n rec7 v0 v1 v2 v3 v4 v5 h3
  else
  gf h3 v0 2 3 fun r5 =>
  gk h3 v0 2 <|
  bd (f_X2_sumOf n v0 r5 v5 h3) fun r6 h6 =>
  if r6 ≤ v2 then
    if v4 < 0 then
      f_X2_cheapest_64 n rec7 v0 v1 v2 v3 v4 v5 h6
    else
    gk h6 v0 2 <|
    bd (f_X2_isBetter n v0 v5 v4 h6) fun r9 h9 =>
    if r9 = 0 then
      f_X2_cheapest_87 n rec7 v0 v1 v2 v3 v4 v5 h9
    else
    f_X2_cheapest_64 n rec7 v0 v1 v2 v3 v4 v5 h9
  else
  f_X2_cheapest_87 n rec7 v0 v1 v2 v3 v4 v5 h6
noncomputable def f_X2_cheapest_7 (n : Nat)  (v0 v1 v2 v3 : Int) : Nat → Int → Int → MM → RR
  | 0, _, _, _ => none
  | k + 1, v4, v5, h => f_X2_cheapest_7b n  (f_X2_cheapest_7 n  v0 v1 v2 v3 k) v0 v1 v2 v3 v4 v5 h
noncomputable def f_X2_cheapest (n : Nat) (v0 v1 v2 v3 : Int) (h : MM) : RR :=
  f_X2_cheapest_7 n v0 v1 v2 v3 n ((-5)) 0 h
set_option maxRecDepth 20000 in
theorem b_X2_cheapest_87 {g : GT} {Z : Int × MM} {n : Nat} (C : Cx g cX2_cheapest 6 yX2_cheapest 3 68) (hr : Rt g (some .int) 0 Z) {v0 v1 v2 v3 v4 v5 : Int}  {rec7 : Int → Int → MM → RR} (L7 : ∀ (u4 u5 : Int) (h : MM), in32 u4 → in32 u5 → rec7 u4 u5 h = some Z → G g 7 [(2, v0), (0, v1), (0, v2), (0, v3), (0, u4), (0, u5)] [] h) (cv1 : in32 v1) (cv2 : in32 v2) (cv3 : in32 v3) (cv4 : in32 v4) (cv5 : in32 v5) {h : MM} (hf : f_X2_cheapest_87 n rec7 v0 v1 v2 v3 v4 v5 h = some Z) : G g 87 [(2, v0), (0, v1), (0, v2), (0, v3), (0, v4), (0, v5)] [] h := by
  unfold f_X2_cheapest_87 at hf
  obtain ⟨x1, e1, hf⟩ := lb_s hf
  have c1 : in32 x1 := by rw [e1]; exact (in32_t _)
  refine r_iincL C dX2_cheapest_87 rfl e1 (Nat.le_of_ble_eq_true rfl) rfl ?_
  refine r_goto C dX2_cheapest_90 (tgt := 7) (by decide) ?_
  exact G.mask [true, true, true, true, true, true] rfl rfl (L7 _ _ _ cv4 c1 hf)
set_option maxRecDepth 20000 in
theorem b_X2_cheapest_64 {g : GT} {Z : Int × MM} {n : Nat} (C : Cx g cX2_cheapest 6 yX2_cheapest 3 68) (hr : Rt g (some .int) 0 Z) {v0 v1 v2 v3 v4 v5 : Int}  {rec7 : Int → Int → MM → RR} (L7 : ∀ (u4 u5 : Int) (h : MM), in32 u4 → in32 u5 → rec7 u4 u5 h = some Z → G g 7 [(2, v0), (0, v1), (0, v2), (0, v3), (0, u4), (0, u5)] [] h) (cv1 : in32 v1) (cv2 : in32 v2) (cv3 : in32 v3) (cv4 : in32 v4) (cv5 : in32 v5) {h : MM} (hf : f_X2_cheapest_64 n rec7 v0 v1 v2 v3 v4 v5 h = some Z) : G g 64 [(2, v0), (0, v1), (0, v2), (0, v3), (0, v4), (0, v5)] [] h := by
  unfold f_X2_cheapest_64 at hf
  refine r_aload_n C dX2_cheapest_64 rfl ?_
  refine r_iload C dX2_cheapest_65 rfl ?_
  obtain ⟨p1, hf⟩ := gk_s hf
  obtain ⟨r1, h1, hq1, hf⟩ := bd_s hf
  refine r_cV1 C (am_X2_isAtOdds (gl g) n) cm_X2_isAtOdds w_1321 dX2_cheapest_67 ⟨Nat.le_of_ble_eq_true rfl, Nat.le_of_ble_eq_true rfl⟩ p1 rfl cv5 rfl (Nat.le_of_ble_eq_true rfl) hq1 (by decide) (fun c1 => ?_)
  have c1 : in32 _ := c1
  refine r_if_ne C dX2_cheapest_70 (tgt := 87) (by decide) c1 (fun n2 => ?_) (fun n2 => ?_)
  · have hf := ite_n n2 hf
    exact G.mask [true, true, true, true, true, true] rfl rfl (b_X2_cheapest_87 C hr L7 cv1 cv2 cv3 cv4 cv5 hf)
  · have hf := ite_p n2 hf
    refine r_aload_n C dX2_cheapest_73 rfl ?_
    refine r_iload_n C dX2_cheapest_74 rfl ?_
    refine r_iload C dX2_cheapest_75 rfl ?_
    obtain ⟨p3, hf⟩ := gk_s hf
    obtain ⟨r3, h3, hq3, hf⟩ := bd_s hf
    refine r_cV2 C (am_X2_join (gl g) n) cm_X2_join w_1291 dX2_cheapest_77 ⟨Nat.le_of_ble_eq_true rfl, Nat.le_of_ble_eq_true rfl⟩ p3 rfl cv1 cv5 rfl (Nat.le_of_ble_eq_true rfl) hq3 (by decide) (fun c3 => ?_)
    have c3 : in32 _ := c3
    refine r_if_eq C dX2_cheapest_80 (tgt := 87) (by decide) c3 (fun n4 => ?_) (fun n4 => ?_)
    · have hf := ite_p n4 hf
      exact G.mask [true, true, true, true, true, true] rfl rfl (b_X2_cheapest_87 C hr L7 cv1 cv2 cv3 cv4 cv5 hf)
    · have hf := ite_n n4 hf
      refine r_iload C dX2_cheapest_83 rfl ?_
      refine r_istore C dX2_cheapest_85 (Nat.le_of_ble_eq_true rfl) rfl ?_
      exact G.mask [true, true, true, true, true, true] rfl rfl (b_X2_cheapest_87 C hr L7 cv1 cv2 cv3 cv5 cv5 hf)
set_option maxRecDepth 20000 in
theorem b_X2_cheapest_7b {g : GT} {Z : Int × MM} {n : Nat} (C : Cx g cX2_cheapest 6 yX2_cheapest 3 68) (hr : Rt g (some .int) 0 Z) {v0 v1 v2 v3 v4 v5 : Int}  {rec7 : Int → Int → MM → RR} (L7 : ∀ (u4 u5 : Int) (h : MM), in32 u4 → in32 u5 → rec7 u4 u5 h = some Z → G g 7 [(2, v0), (0, v1), (0, v2), (0, v3), (0, u4), (0, u5)] [] h) (cv1 : in32 v1) (cv2 : in32 v2) (cv3 : in32 v3) (cv4 : in32 v4) (cv5 : in32 v5) {h : MM} (hf : f_X2_cheapest_7b n rec7 v0 v1 v2 v3 v4 v5 h = some Z) : G g 7 [(2, v0), (0, v1), (0, v2), (0, v3), (0, v4), (0, v5)] [] h := by
  unfold f_X2_cheapest_7b at hf
  refine r_iload C dX2_cheapest_7 rfl ?_
  refine r_iconst C dX2_cheapest_9 ?_
  refine r_aload_n C dX2_cheapest_10 rfl ?_
  obtain ⟨q1, hf⟩ := gf_s hf
  refine r_gf C ct2 (j := 6) (ji := 6) dX2_cheapest_11 q1 rfl rfl (by decide) w_423 rfl (fun c1 => ?_)
  have c1 : in32 _ := c1
  refine r_ishl C dX2_cheapest_14 ?_
  refine r_icmp_ge C dX2_cheapest_15 (tgt := 93) (by decide) cv5 (in32_t _) (fun n2 => ?_) (fun n2 => ?_)
  · have hf := ite_p n2 hf
    refine r_iload C dX2_cheapest_93 rfl ?_
    cases hf
    exact r_jret C hr dX2_cheapest_95 cv4
  · have hf := ite_n n2 hf
    refine r_aload_n C dX2_cheapest_18 rfl ?_
    refine r_iload C dX2_cheapest_19 rfl ?_
    obtain ⟨p3, hf⟩ := gk_s hf
    obtain ⟨r3, h3, hq3, hf⟩ := bd_s hf
    refine r_cV1 C (am_X2_coinsOf (gl g) n) cm_X2_coinsOf w_1309 dX2_cheapest_21 ⟨Nat.le_of_ble_eq_true rfl, Nat.le_of_ble_eq_true rfl⟩ p3 rfl cv5 rfl (Nat.le_of_ble_eq_true rfl) hq3 (by decide) (fun c3 => ?_)
    have c3 : in32 _ := c3
    refine r_iload_n C dX2_cheapest_24 rfl ?_
    refine r_icmp_gt C dX2_cheapest_25 (tgt := 87) (by decide) c3 cv3 (fun n4 => ?_) (fun n4 => ?_)
    · have hf := ite_p n4 hf
      exact G.mask [true, true, true, true, true, true] rfl rfl (b_X2_cheapest_87 C hr L7 cv1 cv2 cv3 cv4 cv5 hf)
    · have hf := ite_n n4 hf
      refine r_aload_n C dX2_cheapest_28 rfl ?_
      refine r_aload_n C dX2_cheapest_29 rfl ?_
      obtain ⟨q5, hf⟩ := gf_s hf
      refine r_gf C ct2 (j := 3) (ji := 3) dX2_cheapest_30 q5 rfl rfl (by decide) w_420 rfl (fun c5 => ?_)
      refine r_iload C dX2_cheapest_33 rfl ?_
      obtain ⟨p6, hf⟩ := gk_s hf
      obtain ⟨r6, h6, hq6, hf⟩ := bd_s hf
      refine r_cV2 C (am_X2_sumOf (gl g) n) cm_X2_sumOf w_1313 dX2_cheapest_35 ⟨Nat.le_of_ble_eq_true rfl, Nat.le_of_ble_eq_true rfl⟩ p6 rfl trivial cv5 rfl (Nat.le_of_ble_eq_true rfl) hq6 (by decide) (fun c6 => ?_)
      have c6 : in32 _ := c6
      refine r_iload_n C dX2_cheapest_38 rfl ?_
      refine r_icmp_le C dX2_cheapest_39 (tgt := 45) (by decide) c6 cv2 (fun n7 => ?_) (fun n7 => ?_)
      · have hf := ite_p n7 hf
        refine r_iload C dX2_cheapest_45 rfl ?_
        refine r_if_lt C dX2_cheapest_47 (tgt := 64) (by decide) cv4 (fun n8 => ?_) (fun n8 => ?_)
        · have hf := ite_p n8 hf
          exact G.mask [true, true, true, true, true, true] rfl rfl (b_X2_cheapest_64 C hr L7 cv1 cv2 cv3 cv4 cv5 hf)
        · have hf := ite_n n8 hf
          refine r_aload_n C dX2_cheapest_50 rfl ?_
          refine r_iload C dX2_cheapest_51 rfl ?_
          refine r_iload C dX2_cheapest_53 rfl ?_
          obtain ⟨p9, hf⟩ := gk_s hf
          obtain ⟨r9, h9, hq9, hf⟩ := bd_s hf
          refine r_cV2 C (am_X2_isBetter (gl g) n) cm_X2_isBetter w_1317 dX2_cheapest_55 ⟨Nat.le_of_ble_eq_true rfl, Nat.le_of_ble_eq_true rfl⟩ p9 rfl cv5 cv4 rfl (Nat.le_of_ble_eq_true rfl) hq9 (by decide) (fun c9 => ?_)
          have c9 : in32 _ := c9
          refine r_if_ne C dX2_cheapest_58 (tgt := 64) (by decide) c9 (fun n10 => ?_) (fun n10 => ?_)
          · have hf := ite_n n10 hf
            exact G.mask [true, true, true, true, true, true] rfl rfl (b_X2_cheapest_64 C hr L7 cv1 cv2 cv3 cv4 cv5 hf)
          · have hf := ite_p n10 hf
            refine r_goto C dX2_cheapest_61 (tgt := 87) (by decide) ?_
            exact G.mask [true, true, true, true, true, true] rfl rfl (b_X2_cheapest_87 C hr L7 cv1 cv2 cv3 cv4 cv5 hf)
      · have hf := ite_n n7 hf
        refine r_goto C dX2_cheapest_42 (tgt := 87) (by decide) ?_
        exact G.mask [true, true, true, true, true, true] rfl rfl (b_X2_cheapest_87 C hr L7 cv1 cv2 cv3 cv4 cv5 hf)
set_option maxRecDepth 20000 in
theorem l_X2_cheapest_7 {g : GT} {Z : Int × MM} {n : Nat} (C : Cx g cX2_cheapest 6 yX2_cheapest 3 68) (hr : Rt g (some .int) 0 Z) {v0 v1 v2 v3 : Int}   (cv1 : in32 v1) (cv2 : in32 v2) (cv3 : in32 v3) : ∀ (k : Nat) (v4 v5 : Int) (h : MM), in32 v4 → in32 v5 → f_X2_cheapest_7 n  v0 v1 v2 v3 k v4 v5 h = some Z → G g 7 [(2, v0), (0, v1), (0, v2), (0, v3), (0, v4), (0, v5)] [] h := by
  intro k
  induction k with
  | zero => intro v4 v5 h cv4 cv5 hf; exact absurd hf (by intro z; cases z)
  | succ k ih => intro v4 v5 h cv4 cv5 hf; exact b_X2_cheapest_7b C hr (rec7 := f_X2_cheapest_7 n  v0 v1 v2 v3 k)  ih cv1 cv2 cv3 cv4 cv5 (show f_X2_cheapest_7b n  (f_X2_cheapest_7 n  v0 v1 v2 v3 k) v0 v1 v2 v3 v4 v5 h = some Z from hf)
set_option maxRecDepth 20000 in
theorem e_X2_cheapest {g : GT} {Z : Int × MM} {n : Nat} (C : Cx g cX2_cheapest 6 yX2_cheapest 3 68) (hr : Rt g (some .int) 0 Z) {v0 v1 v2 v3 : Int} (cv0 : cK 2 v0) (cv1 : cK 0 v1) (cv2 : cK 0 v2) (cv3 : cK 0 v3) {h : MM} (hf : f_X2_cheapest n v0 v1 v2 v3 h = some Z) : G g 0 [(2, v0), (0, v1), (0, v2), (0, v3), (3, 0), (3, 0)] [] h := by
  have cv1 : in32 v1 := cv1
  have cv2 : in32 v2 := cv2
  have cv3 : in32 v3 := cv3
  unfold f_X2_cheapest at hf
  refine r_bipush C dX2_cheapest_0 rfl ?_
  refine r_istore C dX2_cheapest_2 (Nat.le_of_ble_eq_true rfl) rfl ?_
  refine r_iconst C dX2_cheapest_4 ?_
  refine r_istore C dX2_cheapest_5 (Nat.le_of_ble_eq_true rfl) rfl ?_
  exact G.mask [true, true, true, true, true, true] rfl rfl (l_X2_cheapest_7 C hr  cv1 cv2 cv3 _ _ _ _ (in32_of rfl) (in32_of rfl) hf)
set_option maxRecDepth 20000 in
theorem am_X2_cheapest (l : Launch) (n : Nat) : AM l yX2_cheapest cX2_cheapest 6 (some .int) 3 68 [2, 0, 0, 0] 0 (un4 (f_X2_cheapest n)) := by
  refine AM.intro (by decide) (fun xs hx => ?_) (fun g xs h Z hl C hr hx hf => ?_)
  · obtain ⟨a0, a1, a2, a3, rfl, c0, c1, c2, c3⟩ := canL_4 hx
    exact Nat.le_of_ble_eq_true rfl
  · obtain ⟨a0, a1, a2, a3, rfl, c0, c1, c2, c3⟩ := canL_4 hx
    have hf := (un4_e _ a0 a1 a2 a3 _).symm.trans hf
    exact e_X2_cheapest (n := n) C hr c0 c1 c2 c3 hf
/-! LinesPromised.plan(IIII)I -/
theorem dX11_plan_0 : decode cX11_plan 0 = .ok (.iload 4, 2) := by decide +kernel
theorem dX11_plan_2 : decode cX11_plan 2 = .ok (.i2l, 1) := by decide +kernel
theorem dX11_plan_3 : decode cX11_plan 3 = .ok (.iconst 0, 1) := by decide +kernel
theorem dX11_plan_4 : decode cX11_plan 4 = .ok (.iconst 1, 1) := by decide +kernel
theorem dX11_plan_5 : decode cX11_plan 5 = .ok (.invokestatic 46, 3) := by decide +kernel
theorem dX11_plan_8 : decode cX11_plan 8 = .ok (.ifCond .ne 5, 3) := by decide +kernel
theorem dX11_plan_11 : decode cX11_plan 11 = .ok (.iconst (-1), 1) := by decide +kernel
theorem dX11_plan_12 : decode cX11_plan 12 = .ok (.ireturn, 1) := by decide +kernel
theorem dX11_plan_13 : decode cX11_plan 13 = .ok (.aload_n 0, 1) := by decide +kernel
theorem dX11_plan_14 : decode cX11_plan 14 = .ok (.iload_n 1, 1) := by decide +kernel
theorem dX11_plan_15 : decode cX11_plan 15 = .ok (.invokevirtual 373, 3) := by decide +kernel
theorem dX11_plan_18 : decode cX11_plan 18 = .ok (.ifCond .eq 26, 3) := by decide +kernel
theorem dX11_plan_21 : decode cX11_plan 21 = .ok (.iload_n 2, 1) := by decide +kernel
theorem dX11_plan_22 : decode cX11_plan 22 = .ok (.i2l, 1) := by decide +kernel
theorem dX11_plan_23 : decode cX11_plan 23 = .ok (.iconst 0, 1) := by decide +kernel
theorem dX11_plan_24 : decode cX11_plan 24 = .ok (.ldc 77, 2) := by decide +kernel
theorem dX11_plan_26 : decode cX11_plan 26 = .ok (.invokestatic 46, 3) := by decide +kernel
theorem dX11_plan_29 : decode cX11_plan 29 = .ok (.ifCond .eq 15, 3) := by decide +kernel
theorem dX11_plan_32 : decode cX11_plan 32 = .ok (.iload_n 3, 1) := by decide +kernel
theorem dX11_plan_33 : decode cX11_plan 33 = .ok (.i2l, 1) := by decide +kernel
theorem dX11_plan_34 : decode cX11_plan 34 = .ok (.iconst 0, 1) := by decide +kernel
theorem dX11_plan_35 : decode cX11_plan 35 = .ok (.ldc_w 382, 3) := by decide +kernel
theorem dX11_plan_38 : decode cX11_plan 38 = .ok (.invokestatic 46, 3) := by decide +kernel
theorem dX11_plan_41 : decode cX11_plan 41 = .ok (.ifCond .ne 6, 3) := by decide +kernel
theorem dX11_plan_44 : decode cX11_plan 44 = .ok (.bipush (-2), 2) := by decide +kernel
theorem dX11_plan_46 : decode cX11_plan 46 = .ok (.ireturn, 1) := by decide +kernel
theorem dX11_plan_47 : decode cX11_plan 47 = .ok (.aload_n 0, 1) := by decide +kernel
theorem dX11_plan_48 : decode cX11_plan 48 = .ok (.invokevirtual 383, 3) := by decide +kernel
theorem dX11_plan_51 : decode cX11_plan 51 = .ok (.aload_n 0, 1) := by decide +kernel
theorem dX11_plan_52 : decode cX11_plan 52 = .ok (.getfield 42, 3) := by decide +kernel
theorem dX11_plan_55 : decode cX11_plan 55 = .ok (.iload_n 1, 1) := by decide +kernel
theorem dX11_plan_56 : decode cX11_plan 56 = .ok (.iload_n 2, 1) := by decide +kernel
theorem dX11_plan_57 : decode cX11_plan 57 = .ok (.iload_n 3, 1) := by decide +kernel
theorem dX11_plan_58 : decode cX11_plan 58 = .ok (.invokevirtual 386, 3) := by decide +kernel
theorem dX11_plan_61 : decode cX11_plan 61 = .ok (.istore 5, 2) := by decide +kernel
theorem dX11_plan_63 : decode cX11_plan 63 = .ok (.iload 5, 2) := by decide +kernel
theorem dX11_plan_65 : decode cX11_plan 65 = .ok (.ifCond .ge 6, 3) := by decide +kernel
theorem dX11_plan_68 : decode cX11_plan 68 = .ok (.bipush (-5), 2) := by decide +kernel
theorem dX11_plan_70 : decode cX11_plan 70 = .ok (.ireturn, 1) := by decide +kernel
theorem dX11_plan_71 : decode cX11_plan 71 = .ok (.iload 4, 2) := by decide +kernel
theorem dX11_plan_73 : decode cX11_plan 73 = .ok (.ifCond .ne 8, 3) := by decide +kernel
theorem dX11_plan_76 : decode cX11_plan 76 = .ok (.iload 5, 2) := by decide +kernel
theorem dX11_plan_78 : decode cX11_plan 78 = .ok (.goto 12, 3) := by decide +kernel
theorem dX11_plan_81 : decode cX11_plan 81 = .ok (.aload_n 0, 1) := by decide +kernel
theorem dX11_plan_82 : decode cX11_plan 82 = .ok (.getfield 42, 3) := by decide +kernel
theorem dX11_plan_85 : decode cX11_plan 85 = .ok (.iload 5, 2) := by decide +kernel
theorem dX11_plan_87 : decode cX11_plan 87 = .ok (.invokevirtual 390, 3) := by decide +kernel
theorem dX11_plan_90 : decode cX11_plan 90 = .ok (.ireturn, 1) := by decide +kernel
theorem cm_X11_plan : CM yX11_plan cX11_plan 6 (some .int) 4 11 := ⟨w_1296, w_1297, w_1298, w_87, ⟨by decide +kernel, by decide +kernel, by decide +kernel⟩, ⟨_, _, rfl⟩, by decide⟩
noncomputable def f_X11_plan_44 (n : Nat)  (h : MM) : RR :=
  some ((-2), h)
noncomputable def f_X11_plan_90 (n : Nat)  (s0 : Int) (h : MM) : RR :=
  some (s0, h)
noncomputable def f_X11_plan (n : Nat) (v0 v1 v2 v3 v4 : Int) (h : MM) : RR :=
  bd (f_X11_within n v4 0 1 h) fun r1 h1 =>
  if r1 = 0 then
    some ((-1), h1)
  else
  gk h1 v0 11 <|
  bd (f_X11_areTowns n v0 v1 h1) fun r3 h3 =>
  if r3 = 0 then
    f_X11_plan_44 n h3
  else
  bd (f_X11_within n v2 0 99999 h3) fun r5 h5 =>
  if r5 = 0 then
    f_X11_plan_44 n h5
  else
  bd (f_X11_within n v3 0 999999 h5) fun r7 h7 =>
  if r7 = 0 then
    f_X11_plan_44 n h7
  else
  gk h7 v0 11 <|
  bd (f_X11_gatherGrantable n v0 h7) fun r9 h9 =>
  gf h9 v0 11 6 fun r10 =>
  gk h9 r10 2 <|
  bd (f_X2_cheapest n r10 v1 v2 v3 h9) fun r11 h11 =>
  if 0 ≤ r11 then
    if v4 = 0 then
      f_X11_plan_90 n r11 h11
    else
    gf h11 v0 11 6 fun r14 =>
    gk h11 r14 2 <|
    bd (f_X2_coinsOf n r14 r11 h11) fun r15 h15 =>
    f_X11_plan_90 n r15 h15
  else
  some ((-5), h11)
set_option maxRecDepth 20000 in
theorem b_X11_plan_44 {g : GT} {Z : Int × MM} {n : Nat} (C : Cx g cX11_plan 6 yX11_plan 36 845) (hr : Rt g (some .int) 0 Z)     {h : MM} (hf : f_X11_plan_44 n   h = some Z) : G g 44 [(3, 0), (3, 0), (3, 0), (3, 0), (3, 0), (3, 0)] [] h := by
  unfold f_X11_plan_44 at hf
  refine r_bipush C dX11_plan_44 rfl ?_
  cases hf
  exact r_jret C hr dX11_plan_46 (in32_of rfl)
set_option maxRecDepth 20000 in
theorem b_X11_plan_90 {g : GT} {Z : Int × MM} {n : Nat} (C : Cx g cX11_plan 6 yX11_plan 36 845) (hr : Rt g (some .int) 0 Z) {s0 : Int}    (cs0 : in32 s0) {h : MM} (hf : f_X11_plan_90 n  s0 h = some Z) : G g 90 [(3, 0), (3, 0), (3, 0), (3, 0), (3, 0), (3, 0)] [(0, s0)] h := by
  unfold f_X11_plan_90 at hf
  cases hf
  exact r_jret C hr dX11_plan_90 cs0
set_option maxRecDepth 20000 in
theorem e_X11_plan {g : GT} {Z : Int × MM} {n : Nat} (C : Cx g cX11_plan 6 yX11_plan 36 845) (hr : Rt g (some .int) 0 Z) {v0 v1 v2 v3 v4 : Int} (cv0 : cK 2 v0) (cv1 : cK 0 v1) (cv2 : cK 0 v2) (cv3 : cK 0 v3) (cv4 : cK 0 v4) {h : MM} (hf : f_X11_plan n v0 v1 v2 v3 v4 h = some Z) : G g 0 [(2, v0), (0, v1), (0, v2), (0, v3), (0, v4), (3, 0)] [] h := by
  have cv1 : in32 v1 := cv1
  have cv2 : in32 v2 := cv2
  have cv3 : in32 v3 := cv3
  have cv4 : in32 v4 := cv4
  unfold f_X11_plan at hf
  refine r_iload C dX11_plan_0 rfl ?_
  refine r_i2l C dX11_plan_2 cv4 ?_
  refine r_iconst C dX11_plan_3 ?_
  refine r_iconst C dX11_plan_4 ?_
  obtain ⟨r1, h1, hq1, hf⟩ := bd_s hf
  refine r_cS3 C (am_X11_within (gl g) n) cm_X11_within w_466 dX11_plan_5 ⟨Nat.le_of_ble_eq_true rfl, Nat.le_of_ble_eq_true rfl⟩ (in64_i cv4) (in32_of rfl) (in32_of rfl) rfl (Nat.le_of_ble_eq_true rfl) hq1 (by decide) (fun c1 => ?_)
  have c1 : in32 _ := c1
  refine r_if_ne C dX11_plan_8 (tgt := 13) (by decide) c1 (fun n2 => ?_) (fun n2 => ?_)
  · have hf := ite_n n2 hf
    refine r_aload_n C dX11_plan_13 rfl ?_
    refine r_iload_n C dX11_plan_14 rfl ?_
    obtain ⟨p3, hf⟩ := gk_s hf
    obtain ⟨r3, h3, hq3, hf⟩ := bd_s hf
    refine r_cV1 C (am_X11_areTowns (gl g) n) cm_X11_areTowns w_1270 dX11_plan_15 ⟨Nat.le_of_ble_eq_true rfl, Nat.le_of_ble_eq_true rfl⟩ p3 rfl cv1 rfl (Nat.le_of_ble_eq_true rfl) hq3 (by decide) (fun c3 => ?_)
    have c3 : in32 _ := c3
    refine r_if_eq C dX11_plan_18 (tgt := 44) (by decide) c3 (fun n4 => ?_) (fun n4 => ?_)
    · have hf := ite_p n4 hf
      exact G.mask [false, false, false, false, false, false] rfl rfl (b_X11_plan_44 C hr   hf)
    · have hf := ite_n n4 hf
      refine r_iload_n C dX11_plan_21 rfl ?_
      refine r_i2l C dX11_plan_22 cv2 ?_
      refine r_iconst C dX11_plan_23 ?_
      refine r_ldc C (v := 99999) dX11_plan_24 w_488 ?_
      obtain ⟨r5, h5, hq5, hf⟩ := bd_s hf
      refine r_cS3 C (am_X11_within (gl g) n) cm_X11_within w_466 dX11_plan_26 ⟨Nat.le_of_ble_eq_true rfl, Nat.le_of_ble_eq_true rfl⟩ (in64_i cv2) (in32_of rfl) (in32_of rfl) rfl (Nat.le_of_ble_eq_true rfl) hq5 (by decide) (fun c5 => ?_)
      have c5 : in32 _ := c5
      refine r_if_eq C dX11_plan_29 (tgt := 44) (by decide) c5 (fun n6 => ?_) (fun n6 => ?_)
      · have hf := ite_p n6 hf
        exact G.mask [false, false, false, false, false, false] rfl rfl (b_X11_plan_44 C hr   hf)
      · have hf := ite_n n6 hf
        refine r_iload_n C dX11_plan_32 rfl ?_
        refine r_i2l C dX11_plan_33 cv3 ?_
        refine r_iconst C dX11_plan_34 ?_
        refine r_ldcw C (v := 999999) dX11_plan_35 w_1299 ?_
        obtain ⟨r7, h7, hq7, hf⟩ := bd_s hf
        refine r_cS3 C (am_X11_within (gl g) n) cm_X11_within w_466 dX11_plan_38 ⟨Nat.le_of_ble_eq_true rfl, Nat.le_of_ble_eq_true rfl⟩ (in64_i cv3) (in32_of rfl) (in32_of rfl) rfl (Nat.le_of_ble_eq_true rfl) hq7 (by decide) (fun c7 => ?_)
        have c7 : in32 _ := c7
        refine r_if_ne C dX11_plan_41 (tgt := 47) (by decide) c7 (fun n8 => ?_) (fun n8 => ?_)
        · have hf := ite_n n8 hf
          refine r_aload_n C dX11_plan_47 rfl ?_
          obtain ⟨p9, hf⟩ := gk_s hf
          obtain ⟨r9, h9, hq9, hf⟩ := bd_s hf
          refine r_cV0v C (am_X11_gatherGrantable (gl g) n) cm_X11_gatherGrantable w_1300 dX11_plan_48 ⟨Nat.le_of_ble_eq_true rfl, Nat.le_of_ble_eq_true rfl⟩ p9 rfl  rfl (Nat.le_of_ble_eq_true rfl) hq9 ?_
          refine r_aload_n C dX11_plan_51 rfl ?_
          obtain ⟨q10, hf⟩ := gf_s hf
          refine r_gf C ct11 (j := 6) (ji := 6) dX11_plan_52 q10 rfl rfl (by decide) w_446 rfl (fun c10 => ?_)
          refine r_iload_n C dX11_plan_55 rfl ?_
          refine r_iload_n C dX11_plan_56 rfl ?_
          refine r_iload_n C dX11_plan_57 rfl ?_
          obtain ⟨p11, hf⟩ := gk_s hf
          obtain ⟨r11, h11, hq11, hf⟩ := bd_s hf
          refine r_cV3 C (am_X2_cheapest (gl g) n) cm_X2_cheapest w_1305 dX11_plan_58 ⟨Nat.le_of_ble_eq_true rfl, Nat.le_of_ble_eq_true rfl⟩ p11 rfl cv1 cv2 cv3 rfl (Nat.le_of_ble_eq_true rfl) hq11 (by decide) (fun c11 => ?_)
          have c11 : in32 _ := c11
          refine r_istore C dX11_plan_61 (Nat.le_of_ble_eq_true rfl) rfl ?_
          refine r_iload C dX11_plan_63 rfl ?_
          refine r_if_ge C dX11_plan_65 (tgt := 71) (by decide) c11 (fun n12 => ?_) (fun n12 => ?_)
          · have hf := ite_p n12 hf
            refine r_iload C dX11_plan_71 rfl ?_
            refine r_if_ne C dX11_plan_73 (tgt := 81) (by decide) cv4 (fun n13 => ?_) (fun n13 => ?_)
            · have hf := ite_n n13 hf
              refine r_aload_n C dX11_plan_81 rfl ?_
              obtain ⟨q14, hf⟩ := gf_s hf
              refine r_gf C ct11 (j := 6) (ji := 6) dX11_plan_82 q14 rfl rfl (by decide) w_446 rfl (fun c14 => ?_)
              refine r_iload C dX11_plan_85 rfl ?_
              obtain ⟨p15, hf⟩ := gk_s hf
              obtain ⟨r15, h15, hq15, hf⟩ := bd_s hf
              refine r_cV1 C (am_X2_coinsOf (gl g) n) cm_X2_coinsOf w_1325 dX11_plan_87 ⟨Nat.le_of_ble_eq_true rfl, Nat.le_of_ble_eq_true rfl⟩ p15 rfl c11 rfl (Nat.le_of_ble_eq_true rfl) hq15 (by decide) (fun c15 => ?_)
              have c15 : in32 _ := c15
              exact G.mask [false, false, false, false, false, false] rfl rfl (b_X11_plan_90 C hr  c15 hf)
            · have hf := ite_p n13 hf
              refine r_iload C dX11_plan_76 rfl ?_
              refine r_goto C dX11_plan_78 (tgt := 90) (by decide) ?_
              exact G.mask [false, false, false, false, false, false] rfl rfl (b_X11_plan_90 C hr  c11 hf)
          · have hf := ite_n n12 hf
            refine r_bipush C dX11_plan_68 rfl ?_
            cases hf
            exact r_jret C hr dX11_plan_70 (in32_of rfl)
        · have hf := ite_p n8 hf
          exact G.mask [false, false, false, false, false, false] rfl rfl (b_X11_plan_44 C hr   hf)
  · have hf := ite_p n2 hf
    refine r_iconst C dX11_plan_11 ?_
    cases hf
    exact r_jret C hr dX11_plan_12 (in32_of rfl)
set_option maxRecDepth 20000 in
theorem am_X11_plan (l : Launch) (n : Nat) : AM l yX11_plan cX11_plan 6 (some .int) 36 845 [2, 0, 0, 0, 0] 0 (un5 (f_X11_plan n)) := by
  refine AM.intro (by decide) (fun xs hx => ?_) (fun g xs h Z hl C hr hx hf => ?_)
  · obtain ⟨a0, a1, a2, a3, a4, rfl, c0, c1, c2, c3, c4⟩ := canL_5 hx
    exact Nat.le_of_ble_eq_true rfl
  · obtain ⟨a0, a1, a2, a3, a4, rfl, c0, c1, c2, c3, c4⟩ := canL_5 hx
    have hf := (un5_e _ a0 a1 a2 a3 a4 _).symm.trans hf
    exact e_X11_plan (n := n) C hr c0 c1 c2 c3 c4 hf
/-! LinesPromised.triedYards()I -/
theorem dX11_triedYards_0 : decode cX11_triedYards 0 = .ok (.aload_n 0, 1) := by decide +kernel
theorem dX11_triedYards_1 : decode cX11_triedYards 1 = .ok (.getfield 10, 3) := by decide +kernel
theorem dX11_triedYards_4 : decode cX11_triedYards 4 = .ok (.getfield 50, 3) := by decide +kernel
theorem dX11_triedYards_7 : decode cX11_triedYards 7 = .ok (.getfield 66, 3) := by decide +kernel
theorem dX11_triedYards_10 : decode cX11_triedYards 10 = .ok (.iconst 2, 1) := by decide +kernel
theorem dX11_triedYards_11 : decode cX11_triedYards 11 = .ok (.if_icmp .lt 36, 3) := by decide +kernel
theorem dX11_triedYards_14 : decode cX11_triedYards 14 = .ok (.aload_n 0, 1) := by decide +kernel
theorem dX11_triedYards_15 : decode cX11_triedYards 15 = .ok (.getfield 28, 3) := by decide +kernel
theorem dX11_triedYards_18 : decode cX11_triedYards 18 = .ok (.aload_n 0, 1) := by decide +kernel
theorem dX11_triedYards_19 : decode cX11_triedYards 19 = .ok (.getfield 10, 3) := by decide +kernel
theorem dX11_triedYards_22 : decode cX11_triedYards 22 = .ok (.iconst 0, 1) := by decide +kernel
theorem dX11_triedYards_23 : decode cX11_triedYards 23 = .ok (.iconst 1, 1) := by decide +kernel
theorem dX11_triedYards_24 : decode cX11_triedYards 24 = .ok (.aload_n 0, 1) := by decide +kernel
theorem dX11_triedYards_25 : decode cX11_triedYards 25 = .ok (.getfield 10, 3) := by decide +kernel
theorem dX11_triedYards_28 : decode cX11_triedYards 28 = .ok (.getfield 148, 3) := by decide +kernel
theorem dX11_triedYards_31 : decode cX11_triedYards 31 = .ok (.invokevirtual 218, 3) := by decide +kernel
theorem dX11_triedYards_34 : decode cX11_triedYards 34 = .ok (.ifCond .eq 13, 3) := by decide +kernel
theorem dX11_triedYards_37 : decode cX11_triedYards 37 = .ok (.aload_n 0, 1) := by decide +kernel
theorem dX11_triedYards_38 : decode cX11_triedYards 38 = .ok (.getfield 28, 3) := by decide +kernel
theorem dX11_triedYards_41 : decode cX11_triedYards 41 = .ok (.getfield 222, 3) := by decide +kernel
theorem dX11_triedYards_44 : decode cX11_triedYards 44 = .ok (.goto 5, 3) := by decide +kernel
theorem dX11_triedYards_47 : decode cX11_triedYards 47 = .ok (.bipush (-5), 2) := by decide +kernel
theorem dX11_triedYards_49 : decode cX11_triedYards 49 = .ok (.ireturn, 1) := by decide +kernel
theorem cm_X11_triedYards : CM yX11_triedYards cX11_triedYards 1 (some .int) 0 11 := ⟨w_1332, w_41, w_1333, w_87, ⟨by decide +kernel, by decide +kernel, by decide +kernel⟩, ⟨_, _, rfl⟩, by decide⟩
noncomputable def f_X11_triedYards_49 (n : Nat)  (s0 : Int) (h : MM) : RR :=
  some (s0, h)
noncomputable def f_X11_triedYards_47 (n : Nat)  (h : MM) : RR :=
  f_X11_triedYards_49 n ((-5)) h
noncomputable def f_X11_triedYards (n : Nat) (v0 : Int) (h : MM) : RR :=
  gf h v0 11 0 fun r1 =>
  gf h r1 10 0 fun r2 =>
  gf h r2 1 5 fun r3 =>
  if r3 < 2 then
    f_X11_triedYards_47 n h
  else
  gf h v0 11 4 fun r5 =>
  gf h v0 11 0 fun r6 =>
  gf h v0 11 0 fun r7 =>
  gf h r7 10 9 fun r8 =>
  gk h r5 7 <|
  bd (f_X7_seek n r5 r6 0 1 r8 h) fun r9 h9 =>
  if r9 = 0 then
    f_X11_triedYards_47 n h9
  else
  gf h9 v0 11 4 fun r11 =>
  gf h9 r11 7 2 fun r12 =>
  f_X11_triedYards_49 n r12 h9
set_option maxRecDepth 20000 in
theorem b_X11_triedYards_49 {g : GT} {Z : Int × MM} {n : Nat} (C : Cx g cX11_triedYards 1 yX11_triedYards 6 140) (hr : Rt g (some .int) 0 Z) {s0 : Int}    (cs0 : in32 s0) {h : MM} (hf : f_X11_triedYards_49 n  s0 h = some Z) : G g 49 [(3, 0)] [(0, s0)] h := by
  unfold f_X11_triedYards_49 at hf
  cases hf
  exact r_jret C hr dX11_triedYards_49 cs0
set_option maxRecDepth 20000 in
theorem b_X11_triedYards_47 {g : GT} {Z : Int × MM} {n : Nat} (C : Cx g cX11_triedYards 1 yX11_triedYards 6 140) (hr : Rt g (some .int) 0 Z)     {h : MM} (hf : f_X11_triedYards_47 n   h = some Z) : G g 47 [(3, 0)] [] h := by
  unfold f_X11_triedYards_47 at hf
  refine r_bipush C dX11_triedYards_47 rfl ?_
  exact G.mask [false] rfl rfl (b_X11_triedYards_49 C hr  (in32_of rfl) hf)
set_option maxRecDepth 20000 in
theorem e_X11_triedYards {g : GT} {Z : Int × MM} {n : Nat} (C : Cx g cX11_triedYards 1 yX11_triedYards 6 140) (hr : Rt g (some .int) 0 Z) {v0 : Int} (cv0 : cK 2 v0) {h : MM} (hf : f_X11_triedYards n v0 h = some Z) : G g 0 [(2, v0)] [] h := by
  unfold f_X11_triedYards at hf
  refine r_aload_n C dX11_triedYards_0 rfl ?_
  obtain ⟨q1, hf⟩ := gf_s hf
  refine r_gf C ct11 (j := 0) (ji := 0) dX11_triedYards_1 q1 rfl rfl (by decide) w_440 rfl (fun c1 => ?_)
  obtain ⟨q2, hf⟩ := gf_s hf
  refine r_gf C ct10 (j := 0) (ji := 0) dX11_triedYards_4 q2 rfl rfl (by decide) w_300 rfl (fun c2 => ?_)
  obtain ⟨q3, hf⟩ := gf_s hf
  refine r_gf C ct1 (j := 5) (ji := 5) dX11_triedYards_7 q3 rfl rfl (by decide) w_142 rfl (fun c3 => ?_)
  have c3 : in32 _ := c3
  refine r_iconst C dX11_triedYards_10 ?_
  refine r_icmp_lt C dX11_triedYards_11 (tgt := 47) (by decide) c3 (in32_of rfl) (fun n4 => ?_) (fun n4 => ?_)
  · have hf := ite_p n4 hf
    exact G.mask [false] rfl rfl (b_X11_triedYards_47 C hr   hf)
  · have hf := ite_n n4 hf
    refine r_aload_n C dX11_triedYards_14 rfl ?_
    obtain ⟨q5, hf⟩ := gf_s hf
    refine r_gf C ct11 (j := 4) (ji := 4) dX11_triedYards_15 q5 rfl rfl (by decide) w_444 rfl (fun c5 => ?_)
    refine r_aload_n C dX11_triedYards_18 rfl ?_
    obtain ⟨q6, hf⟩ := gf_s hf
    refine r_gf C ct11 (j := 0) (ji := 0) dX11_triedYards_19 q6 rfl rfl (by decide) w_440 rfl (fun c6 => ?_)
    refine r_iconst C dX11_triedYards_22 ?_
    refine r_iconst C dX11_triedYards_23 ?_
    refine r_aload_n C dX11_triedYards_24 rfl ?_
    obtain ⟨q7, hf⟩ := gf_s hf
    refine r_gf C ct11 (j := 0) (ji := 0) dX11_triedYards_25 q7 rfl rfl (by decide) w_440 rfl (fun c7 => ?_)
    obtain ⟨q8, hf⟩ := gf_s hf
    refine r_gf C ct10 (j := 9) (ji := 9) dX11_triedYards_28 q8 rfl rfl (by decide) w_317 rfl (fun c8 => ?_)
    have c8 : in32 _ := c8
    obtain ⟨p9, hf⟩ := gk_s hf
    obtain ⟨r9, h9, hq9, hf⟩ := bd_s hf
    refine r_cV4 C (am_X7_seek (gl g) n) cm_X7_seek w_902 dX11_triedYards_31 ⟨Nat.le_of_ble_eq_true rfl, Nat.le_of_ble_eq_true rfl⟩ p9 rfl trivial (in32_of rfl) (in32_of rfl) c8 rfl (Nat.le_of_ble_eq_true rfl) hq9 (by decide) (fun c9 => ?_)
    have c9 : in32 _ := c9
    refine r_if_eq C dX11_triedYards_34 (tgt := 47) (by decide) c9 (fun n10 => ?_) (fun n10 => ?_)
    · have hf := ite_p n10 hf
      exact G.mask [false] rfl rfl (b_X11_triedYards_47 C hr   hf)
    · have hf := ite_n n10 hf
      refine r_aload_n C dX11_triedYards_37 rfl ?_
      obtain ⟨q11, hf⟩ := gf_s hf
      refine r_gf C ct11 (j := 4) (ji := 4) dX11_triedYards_38 q11 rfl rfl (by decide) w_444 rfl (fun c11 => ?_)
      obtain ⟨q12, hf⟩ := gf_s hf
      refine r_gf C ct7 (j := 2) (ji := 2) dX11_triedYards_41 q12 rfl rfl (by decide) w_356 rfl (fun c12 => ?_)
      have c12 : in32 _ := c12
      refine r_goto C dX11_triedYards_44 (tgt := 49) (by decide) ?_
      exact G.mask [false] rfl rfl (b_X11_triedYards_49 C hr  c12 hf)
set_option maxRecDepth 20000 in
theorem am_X11_triedYards (l : Launch) (n : Nat) : AM l yX11_triedYards cX11_triedYards 1 (some .int) 6 140 [2] 0 (un1 (f_X11_triedYards n)) := by
  refine AM.intro (by decide) (fun xs hx => ?_) (fun g xs h Z hl C hr hx hf => ?_)
  · obtain ⟨a0, rfl, c0⟩ := canL_1 hx
    exact Nat.le_of_ble_eq_true rfl
  · obtain ⟨a0, rfl, c0⟩ := canL_1 hx
    have hf := (un1_e _ a0 _).symm.trans hf
    exact e_X11_triedYards (n := n) C hr c0 hf
