def gkz (h : MM) (a t : Int) (k : RR) : RR := if a = 0 ∨ tg h a = t then k else none
theorem gkz_s {h : MM} {a t : Int} {k : RR} {w : Int × MM} (q : gkz h a t k = some w) : (a = 0 ∨ tg h a = t) ∧ k = some w := by
  unfold gkz at q
  by_cases c : a = 0 ∨ tg h a = t
  · rw [if_pos c] at q; exact ⟨c, q⟩
  · rw [if_neg c] at q; cases q
/-- a row of references: null, or an object of the row's class -/
theorem r_aastZ {g : GT} {cc : ByteArray} {nL : Nat} {y : MethodName} {FR LO : Nat} {pc : Nat} {lv st : List (Nat × Int)} {h : MM} (C : Cx g cc nL y FR LO) {a i x t tx : Int} {tn tc : Nat} (d : decode cc pc = .ok (.aastore, 1)) (q : tg h a = t ∧ 100 ≤ a ∧ 0 ≤ i ∧ i < ln h a) (et : t = (tn : Int)) (ht : 104 ≤ tn) (ht' : tn ≤ 106) (qx : x = 0 ∨ tg h x = tx) (ex : tx = (tc : Int)) (hc : ∃ (T : u_T) (N : Nat), vwCl[tc]? = some (cnm tn, T, N)) (h13 : tc < 13) (k : G g (pc + 1) lv st (ms h a i x)) : G g pc lv ((2, x) :: (0, i) :: (2, a) :: st) h := by
  rcases qx with q0 | qx
  · subst q0
    exact r_aastN C d q et ht ht' k
  · exact r_aast C d q et ht ht' qx ex hc h13 k
theorem w_1338 : (Cond.methodLink "LinesPromised" 453 ⟨"LinesPromised$World", "isSound", "(LLinesPromised$Paper;)Z"⟩) ∈ wG := wG_in 1338 (by decide +kernel) (by decide +kernel)
theorem w_1337 : (Cond.code ⟨"LinesPromised", "triedPapers", "(I)I"⟩ prog_1_method_62_code 5 (some .int)) ∈ wG := wG_in 1337 (by decide +kernel) (by decide +kernel)
theorem w_1336 : (Cond.instanceMethod ⟨"LinesPromised", "triedPapers", "(I)I"⟩) ∈ wG := wG_in 1336 (by decide +kernel) (by decide +kernel)
theorem w_42 : (Cond.selects "LinesPromised" ⟨"LinesPromised", "triedPapers", "(I)I"⟩ ⟨"LinesPromised", "triedPapers", "(I)I"⟩) ∈ wG := wG_in 42 (by decide +kernel) (by decide +kernel)
theorem w_1342 : (Cond.code ⟨"LinesPromised$World", "dropLatestOrder", "()V"⟩ prog_12_method_5_code 1 none) ∈ wG := wG_in 1342 (by decide +kernel) (by decide +kernel)
theorem w_1340 : (Cond.instanceMethod ⟨"LinesPromised$World", "dropLatestOrder", "()V"⟩) ∈ wG := wG_in 1340 (by decide +kernel) (by decide +kernel)
theorem w_1341 : (Cond.selects "LinesPromised$World" ⟨"LinesPromised$World", "dropLatestOrder", "()V"⟩ ⟨"LinesPromised$World", "dropLatestOrder", "()V"⟩) ∈ wG := wG_in 1341 (by decide +kernel) (by decide +kernel)
theorem w_1339 : (Cond.methodLink "LinesPromised" 399 ⟨"LinesPromised$World", "dropLatestOrder", "()V"⟩) ∈ wG := wG_in 1339 (by decide +kernel) (by decide +kernel)
theorem w_1334 : (Cond.methodLink "LinesPromised" 396 ⟨"LinesPromised", "triedPapers", "(I)I"⟩) ∈ wG := wG_in 1334 (by decide +kernel) (by decide +kernel)
theorem w_1330 : (Cond.methodLink "LinesPromised" 393 ⟨"LinesPromised", "triedYards", "()I"⟩) ∈ wG := wG_in 1330 (by decide +kernel) (by decide +kernel)
theorem w_1329 : (Cond.code ⟨"LinesPromised", "tried", "(I)I"⟩ prog_1_method_43_code 5 (some .int)) ∈ wG := wG_in 1329 (by decide +kernel) (by decide +kernel)
theorem w_1327 : (Cond.instanceMethod ⟨"LinesPromised", "tried", "(I)I"⟩) ∈ wG := wG_in 1327 (by decide +kernel) (by decide +kernel)
theorem w_1328 : (Cond.selects "LinesPromised" ⟨"LinesPromised", "tried", "(I)I"⟩ ⟨"LinesPromised", "tried", "(I)I"⟩) ∈ wG := wG_in 1328 (by decide +kernel) (by decide +kernel)
theorem w_1346 : (Cond.code ⟨"LinesPromised", "known", "(II)I"⟩ prog_1_method_44_code 4 (some .int)) ∈ wG := wG_in 1346 (by decide +kernel) (by decide +kernel)
theorem w_1344 : (Cond.instanceMethod ⟨"LinesPromised", "known", "(II)I"⟩) ∈ wG := wG_in 1344 (by decide +kernel) (by decide +kernel)
theorem w_1345 : (Cond.selects "LinesPromised" ⟨"LinesPromised", "known", "(II)I"⟩ ⟨"LinesPromised", "known", "(II)I"⟩) ∈ wG := wG_in 1345 (by decide +kernel) (by decide +kernel)
theorem w_1359 : (Cond.methodLink "LinesPromised$Land" 27 arraycopyName) ∈ wG := wG_in 1359 (by decide +kernel) (by decide +kernel)
theorem w_1358 : (Cond.code ⟨"LinesPromised$Land", "become", "(LLinesPromised$Land;)V"⟩ prog_3_method_2_code 2 none) ∈ wG := wG_in 1358 (by decide +kernel) (by decide +kernel)
theorem w_1356 : (Cond.instanceMethod ⟨"LinesPromised$Land", "become", "(LLinesPromised$Land;)V"⟩) ∈ wG := wG_in 1356 (by decide +kernel) (by decide +kernel)
theorem w_1357 : (Cond.selects "LinesPromised$Land" ⟨"LinesPromised$Land", "become", "(LLinesPromised$Land;)V"⟩ ⟨"LinesPromised$Land", "become", "(LLinesPromised$Land;)V"⟩) ∈ wG := wG_in 1357 (by decide +kernel) (by decide +kernel)
theorem w_1364 : (Cond.methodLink "LinesPromised$Papers" 34 arraycopyName) ∈ wG := wG_in 1364 (by decide +kernel) (by decide +kernel)
theorem w_1363 : (Cond.code ⟨"LinesPromised$Papers", "become", "(LLinesPromised$Papers;)V"⟩ prog_7_method_2_code 3 none) ∈ wG := wG_in 1363 (by decide +kernel) (by decide +kernel)
theorem w_1361 : (Cond.instanceMethod ⟨"LinesPromised$Papers", "become", "(LLinesPromised$Papers;)V"⟩) ∈ wG := wG_in 1361 (by decide +kernel) (by decide +kernel)
theorem w_1362 : (Cond.selects "LinesPromised$Papers" ⟨"LinesPromised$Papers", "become", "(LLinesPromised$Papers;)V"⟩ ⟨"LinesPromised$Papers", "become", "(LLinesPromised$Papers;)V"⟩) ∈ wG := wG_in 1362 (by decide +kernel) (by decide +kernel)
theorem w_1369 : (Cond.methodLink "LinesPromised$Scrip" 36 arraycopyName) ∈ wG := wG_in 1369 (by decide +kernel) (by decide +kernel)
theorem w_1368 : (Cond.code ⟨"LinesPromised$Scrip", "become", "(LLinesPromised$Scrip;)V"⟩ prog_10_method_2_code 2 none) ∈ wG := wG_in 1368 (by decide +kernel) (by decide +kernel)
theorem w_1366 : (Cond.instanceMethod ⟨"LinesPromised$Scrip", "become", "(LLinesPromised$Scrip;)V"⟩) ∈ wG := wG_in 1366 (by decide +kernel) (by decide +kernel)
theorem w_1367 : (Cond.selects "LinesPromised$Scrip" ⟨"LinesPromised$Scrip", "become", "(LLinesPromised$Scrip;)V"⟩ ⟨"LinesPromised$Scrip", "become", "(LLinesPromised$Scrip;)V"⟩) ∈ wG := wG_in 1367 (by decide +kernel) (by decide +kernel)
theorem w_1374 : (Cond.methodLink "LinesPromised$Press" 24 arraycopyName) ∈ wG := wG_in 1374 (by decide +kernel) (by decide +kernel)
theorem w_1373 : (Cond.code ⟨"LinesPromised$Press", "become", "(LLinesPromised$Press;)V"⟩ prog_8_method_2_code 2 none) ∈ wG := wG_in 1373 (by decide +kernel) (by decide +kernel)
theorem w_1371 : (Cond.instanceMethod ⟨"LinesPromised$Press", "become", "(LLinesPromised$Press;)V"⟩) ∈ wG := wG_in 1371 (by decide +kernel) (by decide +kernel)
theorem w_1372 : (Cond.selects "LinesPromised$Press" ⟨"LinesPromised$Press", "become", "(LLinesPromised$Press;)V"⟩ ⟨"LinesPromised$Press", "become", "(LLinesPromised$Press;)V"⟩) ∈ wG := wG_in 1372 (by decide +kernel) (by decide +kernel)
theorem w_1379 : (Cond.methodLink "LinesPromised$Sheet" 19 arraycopyName) ∈ wG := wG_in 1379 (by decide +kernel) (by decide +kernel)
theorem w_287 : (Cond.fieldLink "LinesPromised$Sheet" 25 "LinesPromised$Sheet" "size" "I") ∈ wG := wG_in 287 (by decide +kernel) (by decide +kernel)
theorem w_1378 : (Cond.code ⟨"LinesPromised$Sheet", "become", "(LLinesPromised$Sheet;)V"⟩ prog_11_method_2_code 2 none) ∈ wG := wG_in 1378 (by decide +kernel) (by decide +kernel)
theorem w_1376 : (Cond.instanceMethod ⟨"LinesPromised$Sheet", "become", "(LLinesPromised$Sheet;)V"⟩) ∈ wG := wG_in 1376 (by decide +kernel) (by decide +kernel)
theorem w_1377 : (Cond.selects "LinesPromised$Sheet" ⟨"LinesPromised$Sheet", "become", "(LLinesPromised$Sheet;)V"⟩ ⟨"LinesPromised$Sheet", "become", "(LLinesPromised$Sheet;)V"⟩) ∈ wG := wG_in 1377 (by decide +kernel) (by decide +kernel)
theorem w_1380 : (Cond.methodLink "LinesPromised$World" 72 arraycopyName) ∈ wG := wG_in 1380 (by decide +kernel) (by decide +kernel)
theorem w_1375 : (Cond.methodLink "LinesPromised$World" 69 ⟨"LinesPromised$Sheet", "become", "(LLinesPromised$Sheet;)V"⟩) ∈ wG := wG_in 1375 (by decide +kernel) (by decide +kernel)
theorem w_1355 : (Cond.methodLink "LinesPromised$World" 56 ⟨"LinesPromised$Land", "become", "(LLinesPromised$Land;)V"⟩) ∈ wG := wG_in 1355 (by decide +kernel) (by decide +kernel)
theorem w_1360 : (Cond.methodLink "LinesPromised$World" 60 ⟨"LinesPromised$Papers", "become", "(LLinesPromised$Papers;)V"⟩) ∈ wG := wG_in 1360 (by decide +kernel) (by decide +kernel)
theorem w_1365 : (Cond.methodLink "LinesPromised$World" 63 ⟨"LinesPromised$Scrip", "become", "(LLinesPromised$Scrip;)V"⟩) ∈ wG := wG_in 1365 (by decide +kernel) (by decide +kernel)
theorem w_1370 : (Cond.methodLink "LinesPromised$World" 66 ⟨"LinesPromised$Press", "become", "(LLinesPromised$Press;)V"⟩) ∈ wG := wG_in 1370 (by decide +kernel) (by decide +kernel)
theorem w_1354 : (Cond.code ⟨"LinesPromised$World", "become", "(LLinesPromised$World;)V"⟩ prog_12_method_2_code 3 none) ∈ wG := wG_in 1354 (by decide +kernel) (by decide +kernel)
theorem w_1352 : (Cond.instanceMethod ⟨"LinesPromised$World", "become", "(LLinesPromised$World;)V"⟩) ∈ wG := wG_in 1352 (by decide +kernel) (by decide +kernel)
theorem w_1353 : (Cond.selects "LinesPromised$World" ⟨"LinesPromised$World", "become", "(LLinesPromised$World;)V"⟩ ⟨"LinesPromised$World", "become", "(LLinesPromised$World;)V"⟩) ∈ wG := wG_in 1353 (by decide +kernel) (by decide +kernel)
theorem w_1351 : (Cond.methodLink "LinesPromised" 402 ⟨"LinesPromised$World", "become", "(LLinesPromised$World;)V"⟩) ∈ wG := wG_in 1351 (by decide +kernel) (by decide +kernel)
theorem w_442 : (Cond.fieldLink "LinesPromised" 406 "LinesPromised" "isKept" "Z") ∈ wG := wG_in 442 (by decide +kernel) (by decide +kernel)
theorem w_1350 : (Cond.code ⟨"LinesPromised", "image", "()I"⟩ prog_1_method_45_code 1 (some .int)) ∈ wG := wG_in 1350 (by decide +kernel) (by decide +kernel)
theorem w_1348 : (Cond.instanceMethod ⟨"LinesPromised", "image", "()I"⟩) ∈ wG := wG_in 1348 (by decide +kernel) (by decide +kernel)
theorem w_1349 : (Cond.selects "LinesPromised" ⟨"LinesPromised", "image", "()I"⟩ ⟨"LinesPromised", "image", "()I"⟩) ∈ wG := wG_in 1349 (by decide +kernel) (by decide +kernel)
theorem w_1384 : (Cond.code ⟨"LinesPromised", "undo", "()I"⟩ prog_1_method_46_code 1 (some .int)) ∈ wG := wG_in 1384 (by decide +kernel) (by decide +kernel)
theorem w_1382 : (Cond.instanceMethod ⟨"LinesPromised", "undo", "()I"⟩) ∈ wG := wG_in 1382 (by decide +kernel) (by decide +kernel)
theorem w_1383 : (Cond.selects "LinesPromised" ⟨"LinesPromised", "undo", "()I"⟩ ⟨"LinesPromised", "undo", "()I"⟩) ∈ wG := wG_in 1383 (by decide +kernel) (by decide +kernel)
theorem w_1392 : (Cond.code ⟨"LinesPromised$Papers", "finished", "()I"⟩ prog_7_method_12_code 3 (some .int)) ∈ wG := wG_in 1392 (by decide +kernel) (by decide +kernel)
theorem w_1390 : (Cond.instanceMethod ⟨"LinesPromised$Papers", "finished", "()I"⟩) ∈ wG := wG_in 1390 (by decide +kernel) (by decide +kernel)
theorem w_1391 : (Cond.selects "LinesPromised$Papers" ⟨"LinesPromised$Papers", "finished", "()I"⟩ ⟨"LinesPromised$Papers", "finished", "()I"⟩) ∈ wG := wG_in 1391 (by decide +kernel) (by decide +kernel)
theorem w_1389 : (Cond.methodLink "LinesPromised" 411 ⟨"LinesPromised$Papers", "finished", "()I"⟩) ∈ wG := wG_in 1389 (by decide +kernel) (by decide +kernel)
theorem w_1388 : (Cond.code ⟨"LinesPromised", "count", "(I)I"⟩ prog_1_method_47_code 2 (some .int)) ∈ wG := wG_in 1388 (by decide +kernel) (by decide +kernel)
theorem w_1386 : (Cond.instanceMethod ⟨"LinesPromised", "count", "(I)I"⟩) ∈ wG := wG_in 1386 (by decide +kernel) (by decide +kernel)
theorem w_1387 : (Cond.selects "LinesPromised" ⟨"LinesPromised", "count", "(I)I"⟩ ⟨"LinesPromised", "count", "(I)I"⟩) ∈ wG := wG_in 1387 (by decide +kernel) (by decide +kernel)
theorem w_1401 : (Cond.methodLink "LinesPromised$Sheet" 28 ⟨"java/util/Arrays", "fill", "([II)V"⟩) ∈ wG := wG_in 1401 (by decide +kernel) (by decide +kernel)
theorem w_1400 : (Cond.code ⟨"LinesPromised$Sheet", "clear", "(II)V"⟩ prog_11_method_3_code 3 none) ∈ wG := wG_in 1400 (by decide +kernel) (by decide +kernel)
theorem w_1398 : (Cond.instanceMethod ⟨"LinesPromised$Sheet", "clear", "(II)V"⟩) ∈ wG := wG_in 1398 (by decide +kernel) (by decide +kernel)
theorem w_1399 : (Cond.selects "LinesPromised$Sheet" ⟨"LinesPromised$Sheet", "clear", "(II)V"⟩ ⟨"LinesPromised$Sheet", "clear", "(II)V"⟩) ∈ wG := wG_in 1399 (by decide +kernel) (by decide +kernel)
theorem w_1397 : (Cond.methodLink "LinesPromised" 414 ⟨"LinesPromised$Sheet", "clear", "(II)V"⟩) ∈ wG := wG_in 1397 (by decide +kernel) (by decide +kernel)
theorem w_1396 : (Cond.code ⟨"LinesPromised", "sheet", "(III)I"⟩ prog_1_method_48_code 4 (some .int)) ∈ wG := wG_in 1396 (by decide +kernel) (by decide +kernel)
theorem w_1394 : (Cond.instanceMethod ⟨"LinesPromised", "sheet", "(III)I"⟩) ∈ wG := wG_in 1394 (by decide +kernel) (by decide +kernel)
theorem w_1395 : (Cond.selects "LinesPromised" ⟨"LinesPromised", "sheet", "(III)I"⟩ ⟨"LinesPromised", "sheet", "(III)I"⟩) ∈ wG := wG_in 1395 (by decide +kernel) (by decide +kernel)
theorem w_1409 : (Cond.code ⟨"LinesPromised$Sheet", "put", "(II)V"⟩ prog_11_method_4_code 3 none) ∈ wG := wG_in 1409 (by decide +kernel) (by decide +kernel)
theorem w_1407 : (Cond.instanceMethod ⟨"LinesPromised$Sheet", "put", "(II)V"⟩) ∈ wG := wG_in 1407 (by decide +kernel) (by decide +kernel)
theorem w_1408 : (Cond.selects "LinesPromised$Sheet" ⟨"LinesPromised$Sheet", "put", "(II)V"⟩ ⟨"LinesPromised$Sheet", "put", "(II)V"⟩) ∈ wG := wG_in 1408 (by decide +kernel) (by decide +kernel)
theorem w_289 : (Cond.fieldLink "LinesPromised" 417 "LinesPromised$Sheet" "size" "I") ∈ wG := wG_in 289 (by decide +kernel) (by decide +kernel)
theorem w_1406 : (Cond.methodLink "LinesPromised" 418 ⟨"LinesPromised$Sheet", "put", "(II)V"⟩) ∈ wG := wG_in 1406 (by decide +kernel) (by decide +kernel)
theorem w_1405 : (Cond.code ⟨"LinesPromised", "item", "(III)I"⟩ prog_1_method_49_code 5 (some .int)) ∈ wG := wG_in 1405 (by decide +kernel) (by decide +kernel)
theorem w_1403 : (Cond.instanceMethod ⟨"LinesPromised", "item", "(III)I"⟩) ∈ wG := wG_in 1403 (by decide +kernel) (by decide +kernel)
theorem w_1404 : (Cond.selects "LinesPromised" ⟨"LinesPromised", "item", "(III)I"⟩ ⟨"LinesPromised", "item", "(III)I"⟩) ∈ wG := wG_in 1404 (by decide +kernel) (by decide +kernel)
theorem w_1417 : (Cond.code ⟨"LinesPromised$Sheet", "has", "(II)Z"⟩ prog_11_method_5_code 3 (some .boolean)) ∈ wG := wG_in 1417 (by decide +kernel) (by decide +kernel)
theorem w_1415 : (Cond.instanceMethod ⟨"LinesPromised$Sheet", "has", "(II)Z"⟩) ∈ wG := wG_in 1415 (by decide +kernel) (by decide +kernel)
theorem w_1416 : (Cond.selects "LinesPromised$Sheet" ⟨"LinesPromised$Sheet", "has", "(II)Z"⟩ ⟨"LinesPromised$Sheet", "has", "(II)Z"⟩) ∈ wG := wG_in 1416 (by decide +kernel) (by decide +kernel)
theorem w_1414 : (Cond.methodLink "LinesPromised" 421 ⟨"LinesPromised$Sheet", "has", "(II)Z"⟩) ∈ wG := wG_in 1414 (by decide +kernel) (by decide +kernel)
theorem w_283 : (Cond.fieldLink "LinesPromised" 424 "LinesPromised$Sheet" "row" "[I") ∈ wG := wG_in 283 (by decide +kernel) (by decide +kernel)
theorem w_1418 : (Cond.methodLink "LinesPromised" 425 arraycopyName) ∈ wG := wG_in 1418 (by decide +kernel) (by decide +kernel)
theorem w_1413 : (Cond.code ⟨"LinesPromised", "copy", "(IIIII)I"⟩ prog_1_method_50_code 8 (some .int)) ∈ wG := wG_in 1413 (by decide +kernel) (by decide +kernel)
theorem w_1411 : (Cond.instanceMethod ⟨"LinesPromised", "copy", "(IIIII)I"⟩) ∈ wG := wG_in 1411 (by decide +kernel) (by decide +kernel)
theorem w_1412 : (Cond.selects "LinesPromised" ⟨"LinesPromised", "copy", "(IIIII)I"⟩ ⟨"LinesPromised", "copy", "(IIIII)I"⟩) ∈ wG := wG_in 1412 (by decide +kernel) (by decide +kernel)
theorem w_1498 : (Cond.code ⟨"LinesPromisedModel", "in", "(III)Z"⟩ prog_14_method_3_code 3 (some .boolean)) ∈ wG := wG_in 1498 (by decide +kernel) (by decide +kernel)
theorem w_1497 : (Cond.static ⟨"LinesPromisedModel", "in", "(III)Z"⟩) ∈ wG := wG_in 1497 (by decide +kernel) (by decide +kernel)
theorem w_1496 : (Cond.methodLink "LinesPromisedModel" 58 ⟨"LinesPromisedModel", "in", "(III)Z"⟩) ∈ wG := wG_in 1496 (by decide +kernel) (by decide +kernel)
theorem w_1495 : (Cond.code ⟨"LinesPromisedModel", "isCell", "(I)Z"⟩ prog_14_method_4_code 1 (some .boolean)) ∈ wG := wG_in 1495 (by decide +kernel) (by decide +kernel)
theorem w_1494 : (Cond.static ⟨"LinesPromisedModel", "isCell", "(I)Z"⟩) ∈ wG := wG_in 1494 (by decide +kernel) (by decide +kernel)
theorem w_1493 : (Cond.methodLink "LinesPromisedModel" 66 ⟨"LinesPromisedModel", "isCell", "(I)Z"⟩) ∈ wG := wG_in 1493 (by decide +kernel) (by decide +kernel)
theorem w_1492 : (Cond.code ⟨"LinesPromisedModel", "land", "(III)I"⟩ prog_14_method_10_code 6 (some .int)) ∈ wG := wG_in 1492 (by decide +kernel) (by decide +kernel)
theorem w_1490 : (Cond.instanceMethod ⟨"LinesPromisedModel", "land", "(III)I"⟩) ∈ wG := wG_in 1490 (by decide +kernel) (by decide +kernel)
theorem w_1491 : (Cond.selects "LinesPromisedModel" ⟨"LinesPromisedModel", "land", "(III)I"⟩ ⟨"LinesPromisedModel", "land", "(III)I"⟩) ∈ wG := wG_in 1491 (by decide +kernel) (by decide +kernel)
theorem w_1502 : (Cond.code ⟨"LinesPromisedModel", "town", "(II)I"⟩ prog_14_method_11_code 4 (some .int)) ∈ wG := wG_in 1502 (by decide +kernel) (by decide +kernel)
theorem w_1500 : (Cond.instanceMethod ⟨"LinesPromisedModel", "town", "(II)I"⟩) ∈ wG := wG_in 1500 (by decide +kernel) (by decide +kernel)
theorem w_1501 : (Cond.selects "LinesPromisedModel" ⟨"LinesPromisedModel", "town", "(II)I"⟩ ⟨"LinesPromisedModel", "town", "(II)I"⟩) ∈ wG := wG_in 1501 (by decide +kernel) (by decide +kernel)
theorem w_1509 : (Cond.code ⟨"LinesPromisedModel", "isHolder", "(I)Z"⟩ prog_14_method_6_code 1 (some .boolean)) ∈ wG := wG_in 1509 (by decide +kernel) (by decide +kernel)
theorem w_1508 : (Cond.static ⟨"LinesPromisedModel", "isHolder", "(I)Z"⟩) ∈ wG := wG_in 1508 (by decide +kernel) (by decide +kernel)
theorem w_1507 : (Cond.methodLink "LinesPromisedModel" 69 ⟨"LinesPromisedModel", "isHolder", "(I)Z"⟩) ∈ wG := wG_in 1507 (by decide +kernel) (by decide +kernel)
theorem w_1510 : (Cond.constant "LinesPromisedModel" 72 (i32 99999)) ∈ wG := wG_in 1510 (by decide +kernel) (by decide +kernel)
theorem w_1506 : (Cond.code ⟨"LinesPromisedModel", "coin", "(II)I"⟩ prog_14_method_12_code 4 (some .int)) ∈ wG := wG_in 1506 (by decide +kernel) (by decide +kernel)
theorem w_1504 : (Cond.instanceMethod ⟨"LinesPromisedModel", "coin", "(II)I"⟩) ∈ wG := wG_in 1504 (by decide +kernel) (by decide +kernel)
theorem w_1505 : (Cond.selects "LinesPromisedModel" ⟨"LinesPromisedModel", "coin", "(II)I"⟩ ⟨"LinesPromisedModel", "coin", "(II)I"⟩) ∈ wG := wG_in 1505 (by decide +kernel) (by decide +kernel)
/-! LinesPromised.triedPapers(I)I -/
theorem dX11_triedPapers_0 : decode cX11_triedPapers 0 = .ok (.iconst 0, 1) := by decide +kernel
theorem dX11_triedPapers_1 : decode cX11_triedPapers 1 = .ok (.istore_n 2, 1) := by decide +kernel
theorem dX11_triedPapers_2 : decode cX11_triedPapers 2 = .ok (.iconst 0, 1) := by decide +kernel
theorem dX11_triedPapers_3 : decode cX11_triedPapers 3 = .ok (.istore_n 3, 1) := by decide +kernel
theorem dX11_triedPapers_4 : decode cX11_triedPapers 4 = .ok (.iload_n 3, 1) := by decide +kernel
theorem dX11_triedPapers_5 : decode cX11_triedPapers 5 = .ok (.aload_n 0, 1) := by decide +kernel
theorem dX11_triedPapers_6 : decode cX11_triedPapers 6 = .ok (.getfield 10, 3) := by decide +kernel
theorem dX11_triedPapers_9 : decode cX11_triedPapers 9 = .ok (.getfield 133, 3) := by decide +kernel
theorem dX11_triedPapers_12 : decode cX11_triedPapers 12 = .ok (.getfield 410, 3) := by decide +kernel
theorem dX11_triedPapers_15 : decode cX11_triedPapers 15 = .ok (.if_icmp .ge 73, 3) := by decide +kernel
theorem dX11_triedPapers_18 : decode cX11_triedPapers 18 = .ok (.aload_n 0, 1) := by decide +kernel
theorem dX11_triedPapers_19 : decode cX11_triedPapers 19 = .ok (.getfield 10, 3) := by decide +kernel
theorem dX11_triedPapers_22 : decode cX11_triedPapers 22 = .ok (.getfield 133, 3) := by decide +kernel
theorem dX11_triedPapers_25 : decode cX11_triedPapers 25 = .ok (.iload_n 3, 1) := by decide +kernel
theorem dX11_triedPapers_26 : decode cX11_triedPapers 26 = .ok (.iload_n 1, 1) := by decide +kernel
theorem dX11_triedPapers_27 : decode cX11_triedPapers 27 = .ok (.invokevirtual 172, 3) := by decide +kernel
theorem dX11_triedPapers_30 : decode cX11_triedPapers 30 = .ok (.astore 4, 2) := by decide +kernel
theorem dX11_triedPapers_32 : decode cX11_triedPapers 32 = .ok (.aload 4, 2) := by decide +kernel
theorem dX11_triedPapers_34 : decode cX11_triedPapers 34 = .ok (.ifnonnull 6, 3) := by decide +kernel
theorem dX11_triedPapers_37 : decode cX11_triedPapers 37 = .ok (.goto 45, 3) := by decide +kernel
theorem dX11_triedPapers_40 : decode cX11_triedPapers 40 = .ok (.iload_n 1, 1) := by decide +kernel
theorem dX11_triedPapers_41 : decode cX11_triedPapers 41 = .ok (.iconst 2, 1) := by decide +kernel
theorem dX11_triedPapers_42 : decode cX11_triedPapers 42 = .ok (.if_icmp .ne 18, 3) := by decide +kernel
theorem dX11_triedPapers_45 : decode cX11_triedPapers 45 = .ok (.aload_n 0, 1) := by decide +kernel
theorem dX11_triedPapers_46 : decode cX11_triedPapers 46 = .ok (.getfield 10, 3) := by decide +kernel
theorem dX11_triedPapers_49 : decode cX11_triedPapers 49 = .ok (.aload 4, 2) := by decide +kernel
theorem dX11_triedPapers_51 : decode cX11_triedPapers 51 = .ok (.invokevirtual 453, 3) := by decide +kernel
theorem dX11_triedPapers_54 : decode cX11_triedPapers 54 = .ok (.ifCond .eq 28, 3) := by decide +kernel
theorem dX11_triedPapers_57 : decode cX11_triedPapers 57 = .ok (.goto 22, 3) := by decide +kernel
theorem dX11_triedPapers_60 : decode cX11_triedPapers 60 = .ok (.aload_n 0, 1) := by decide +kernel
theorem dX11_triedPapers_61 : decode cX11_triedPapers 61 = .ok (.getfield 10, 3) := by decide +kernel
theorem dX11_triedPapers_64 : decode cX11_triedPapers 64 = .ok (.aload 4, 2) := by decide +kernel
theorem dX11_triedPapers_66 : decode cX11_triedPapers 66 = .ok (.aload_n 0, 1) := by decide +kernel
theorem dX11_triedPapers_67 : decode cX11_triedPapers 67 = .ok (.getfield 10, 3) := by decide +kernel
theorem dX11_triedPapers_70 : decode cX11_triedPapers 70 = .ok (.getfield 148, 3) := by decide +kernel
theorem dX11_triedPapers_73 : decode cX11_triedPapers 73 = .ok (.invokevirtual 248, 3) := by decide +kernel
theorem dX11_triedPapers_76 : decode cX11_triedPapers 76 = .ok (.ifCond .eq 6, 3) := by decide +kernel
theorem dX11_triedPapers_79 : decode cX11_triedPapers 79 = .ok (.iinc 2 1, 3) := by decide +kernel
theorem dX11_triedPapers_82 : decode cX11_triedPapers 82 = .ok (.iinc 3 1, 3) := by decide +kernel
theorem dX11_triedPapers_85 : decode cX11_triedPapers 85 = .ok (.goto (-81), 3) := by decide +kernel
theorem dX11_triedPapers_88 : decode cX11_triedPapers 88 = .ok (.iload_n 2, 1) := by decide +kernel
theorem dX11_triedPapers_89 : decode cX11_triedPapers 89 = .ok (.ireturn, 1) := by decide +kernel
theorem cm_X11_triedPapers : CM yX11_triedPapers cX11_triedPapers 5 (some .int) 1 11 := ⟨w_1336, w_42, w_1337, w_87, ⟨by decide +kernel, by decide +kernel, by decide +kernel⟩, ⟨_, _, rfl⟩, by decide⟩
noncomputable def f_X11_triedPapers_82 (n : Nat) (rec4 : Int → Int → MM → RR) (v0 v1 v2 v3 : Int) (h : MM) : RR :=
  lb (wr (v3 + 1)) fun x1 =>
  rec4 v2 x1 h
noncomputable def f_X11_triedPapers_79 (n : Nat) (rec4 : Int → Int → MM → RR) (v0 v1 v2 v3 : Int) (h : MM) : RR :=
  lb (wr (v2 + 1)) fun x1 =>
  f_X11_triedPapers_82 n rec4 v0 v1 x1 v3 h
noncomputable def f_X11_triedPapers_4b (n : Nat) (rec4 : Int → Int → MM → RR) (v0 v1 v2 v3 : Int) (h : MM) : RR :=
  gf h v0 11 0 fun r1 =>
  gf h r1 10 1 fun r2 =>
  gf h r2 5 7 fun r3 =>
  if r3 ≤ v3 then
    some (v2, h)
  else
  gf h v0 11 0 fun r5 =>
  gf h r5 10 1 fun r6 =>
  gk h r6 5 <|
  bd (f_X5_find n r6 v3 v1 h) fun r7 h7 =>
  if r7 = 0 then
    f_X11_triedPapers_82 n rec4 v0 v1 v2 v3 h7
  else
  if v1 = 2 then
    gf h7 v0 11 0 fun r15 =>
    gk h7 r15 10 <|
    bd (f_X10_isSound n r15 r7 h7) fun r16 h16 =>
    if r16 = 0 then
      f_X11_triedPapers_82 n rec4 v0 v1 v2 v3 h16
    else
    f_X11_triedPapers_79 n rec4 v0 v1 v2 v3 h16
  else
  gf h7 v0 11 0 fun r10 =>
  gf h7 v0 11 0 fun r11 =>
  gf h7 r11 10 9 fun r12 =>
  gk h7 r10 10 <|
  bd (f_X10_canBeLet n r10 r7 r12 h7) fun r13 h13 =>
  if r13 = 0 then
    f_X11_triedPapers_82 n rec4 v0 v1 v2 v3 h13
  else
  f_X11_triedPapers_79 n rec4 v0 v1 v2 v3 h13
noncomputable def f_X11_triedPapers_4 (n : Nat)  (v0 v1 : Int) : Nat → Int → Int → MM → RR
  | 0, _, _, _ => none
  | k + 1, v2, v3, h => f_X11_triedPapers_4b n  (f_X11_triedPapers_4 n  v0 v1 k) v0 v1 v2 v3 h
noncomputable def f_X11_triedPapers (n : Nat) (v0 v1 : Int) (h : MM) : RR :=
  f_X11_triedPapers_4 n v0 v1 n 0 0 h
set_option maxRecDepth 20000 in
theorem b_X11_triedPapers_82 {g : GT} {Z : Int × MM} {n : Nat} (C : Cx g cX11_triedPapers 5 yX11_triedPapers 35 821) (hr : Rt g (some .int) 0 Z) {v0 v1 v2 v3 : Int}  {rec4 : Int → Int → MM → RR} (L4 : ∀ (u2 u3 : Int) (h : MM), in32 u2 → in32 u3 → rec4 u2 u3 h = some Z → G g 4 [(2, v0), (0, v1), (0, u2), (0, u3), (3, 0)] [] h) (cv1 : in32 v1) (cv2 : in32 v2) (cv3 : in32 v3) {h : MM} (hf : f_X11_triedPapers_82 n rec4 v0 v1 v2 v3 h = some Z) : G g 82 [(2, v0), (0, v1), (0, v2), (0, v3), (3, 0)] [] h := by
  unfold f_X11_triedPapers_82 at hf
  obtain ⟨x1, e1, hf⟩ := lb_s hf
  have c1 : in32 x1 := by rw [e1]; exact (in32_t _)
  refine r_iincL C dX11_triedPapers_82 rfl e1 (Nat.le_of_ble_eq_true rfl) rfl ?_
  refine r_goto C dX11_triedPapers_85 (tgt := 4) (by decide) ?_
  exact G.mask [true, true, true, true, false] rfl rfl (L4 _ _ _ cv2 c1 hf)
set_option maxRecDepth 20000 in
theorem b_X11_triedPapers_79 {g : GT} {Z : Int × MM} {n : Nat} (C : Cx g cX11_triedPapers 5 yX11_triedPapers 35 821) (hr : Rt g (some .int) 0 Z) {v0 v1 v2 v3 : Int}  {rec4 : Int → Int → MM → RR} (L4 : ∀ (u2 u3 : Int) (h : MM), in32 u2 → in32 u3 → rec4 u2 u3 h = some Z → G g 4 [(2, v0), (0, v1), (0, u2), (0, u3), (3, 0)] [] h) (cv1 : in32 v1) (cv2 : in32 v2) (cv3 : in32 v3) {h : MM} (hf : f_X11_triedPapers_79 n rec4 v0 v1 v2 v3 h = some Z) : G g 79 [(2, v0), (0, v1), (0, v2), (0, v3), (3, 0)] [] h := by
  unfold f_X11_triedPapers_79 at hf
  obtain ⟨x1, e1, hf⟩ := lb_s hf
  have c1 : in32 x1 := by rw [e1]; exact (in32_t _)
  refine r_iincL C dX11_triedPapers_79 rfl e1 (Nat.le_of_ble_eq_true rfl) rfl ?_
  exact G.mask [true, true, true, true, false] rfl rfl (b_X11_triedPapers_82 C hr L4 cv1 c1 cv3 hf)
set_option maxRecDepth 20000 in
theorem b_X11_triedPapers_4b {g : GT} {Z : Int × MM} {n : Nat} (C : Cx g cX11_triedPapers 5 yX11_triedPapers 35 821) (hr : Rt g (some .int) 0 Z) {v0 v1 v2 v3 : Int}  {rec4 : Int → Int → MM → RR} (L4 : ∀ (u2 u3 : Int) (h : MM), in32 u2 → in32 u3 → rec4 u2 u3 h = some Z → G g 4 [(2, v0), (0, v1), (0, u2), (0, u3), (3, 0)] [] h) (cv1 : in32 v1) (cv2 : in32 v2) (cv3 : in32 v3) {h : MM} (hf : f_X11_triedPapers_4b n rec4 v0 v1 v2 v3 h = some Z) : G g 4 [(2, v0), (0, v1), (0, v2), (0, v3), (3, 0)] [] h := by
  unfold f_X11_triedPapers_4b at hf
  refine r_iload_n C dX11_triedPapers_4 rfl ?_
  refine r_aload_n C dX11_triedPapers_5 rfl ?_
  obtain ⟨q1, hf⟩ := gf_s hf
  refine r_gf C ct11 (j := 0) (ji := 0) dX11_triedPapers_6 q1 rfl rfl (by decide) w_440 rfl (fun c1 => ?_)
  obtain ⟨q2, hf⟩ := gf_s hf
  refine r_gf C ct10 (j := 1) (ji := 1) dX11_triedPapers_9 q2 rfl rfl (by decide) w_302 rfl (fun c2 => ?_)
  obtain ⟨q3, hf⟩ := gf_s hf
  refine r_gf C ct5 (j := 7) (ji := 7) dX11_triedPapers_12 q3 rfl rfl (by decide) w_180 rfl (fun c3 => ?_)
  have c3 : in32 _ := c3
  refine r_icmp_ge C dX11_triedPapers_15 (tgt := 88) (by decide) cv3 c3 (fun n4 => ?_) (fun n4 => ?_)
  · have hf := ite_p n4 hf
    refine r_iload_n C dX11_triedPapers_88 rfl ?_
    cases hf
    exact r_jret C hr dX11_triedPapers_89 cv2
  · have hf := ite_n n4 hf
    refine r_aload_n C dX11_triedPapers_18 rfl ?_
    obtain ⟨q5, hf⟩ := gf_s hf
    refine r_gf C ct11 (j := 0) (ji := 0) dX11_triedPapers_19 q5 rfl rfl (by decide) w_440 rfl (fun c5 => ?_)
    obtain ⟨q6, hf⟩ := gf_s hf
    refine r_gf C ct10 (j := 1) (ji := 1) dX11_triedPapers_22 q6 rfl rfl (by decide) w_302 rfl (fun c6 => ?_)
    refine r_iload_n C dX11_triedPapers_25 rfl ?_
    refine r_iload_n C dX11_triedPapers_26 rfl ?_
    obtain ⟨p7, hf⟩ := gk_s hf
    obtain ⟨r7, h7, hq7, hf⟩ := bd_s hf
    refine r_cV2 C (am_X5_find (gl g) n) cm_X5_find w_798 dX11_triedPapers_27 ⟨Nat.le_of_ble_eq_true rfl, Nat.le_of_ble_eq_true rfl⟩ p7 rfl cv3 cv1 rfl (Nat.le_of_ble_eq_true rfl) hq7 (by decide) (fun c7 => ?_)
    refine r_astore C dX11_triedPapers_30 (Nat.le_of_ble_eq_true rfl) rfl ?_
    refine r_aload C dX11_triedPapers_32 rfl ?_
    refine r_ifnonnull C dX11_triedPapers_34 (tgt := 40) (by decide) (fun n8 => ?_) (fun n8 => ?_)
    · have hf := ite_n n8 hf
      refine r_iload_n C dX11_triedPapers_40 rfl ?_
      refine r_iconst C dX11_triedPapers_41 ?_
      refine r_icmp_ne C dX11_triedPapers_42 (tgt := 60) (by decide) cv1 (in32_of rfl) (fun n9 => ?_) (fun n9 => ?_)
      · have hf := ite_n n9 hf
        refine r_aload_n C dX11_triedPapers_60 rfl ?_
        obtain ⟨q10, hf⟩ := gf_s hf
        refine r_gf C ct11 (j := 0) (ji := 0) dX11_triedPapers_61 q10 rfl rfl (by decide) w_440 rfl (fun c10 => ?_)
        refine r_aload C dX11_triedPapers_64 rfl ?_
        refine r_aload_n C dX11_triedPapers_66 rfl ?_
        obtain ⟨q11, hf⟩ := gf_s hf
        refine r_gf C ct11 (j := 0) (ji := 0) dX11_triedPapers_67 q11 rfl rfl (by decide) w_440 rfl (fun c11 => ?_)
        obtain ⟨q12, hf⟩ := gf_s hf
        refine r_gf C ct10 (j := 9) (ji := 9) dX11_triedPapers_70 q12 rfl rfl (by decide) w_317 rfl (fun c12 => ?_)
        have c12 : in32 _ := c12
        obtain ⟨p13, hf⟩ := gk_s hf
        obtain ⟨r13, h13, hq13, hf⟩ := bd_s hf
        refine r_cV2 C (am_X10_canBeLet (gl g) n) cm_X10_canBeLet w_964 dX11_triedPapers_73 ⟨Nat.le_of_ble_eq_true rfl, Nat.le_of_ble_eq_true rfl⟩ p13 rfl trivial c12 rfl (Nat.le_of_ble_eq_true rfl) hq13 (by decide) (fun c13 => ?_)
        have c13 : in32 _ := c13
        refine r_if_eq C dX11_triedPapers_76 (tgt := 82) (by decide) c13 (fun n14 => ?_) (fun n14 => ?_)
        · have hf := ite_p n14 hf
          exact G.mask [true, true, true, true, false] rfl rfl (b_X11_triedPapers_82 C hr L4 cv1 cv2 cv3 hf)
        · have hf := ite_n n14 hf
          exact G.mask [true, true, true, true, false] rfl rfl (b_X11_triedPapers_79 C hr L4 cv1 cv2 cv3 hf)
      · have hf := ite_p n9 hf
        refine r_aload_n C dX11_triedPapers_45 rfl ?_
        obtain ⟨q15, hf⟩ := gf_s hf
        refine r_gf C ct11 (j := 0) (ji := 0) dX11_triedPapers_46 q15 rfl rfl (by decide) w_440 rfl (fun c15 => ?_)
        refine r_aload C dX11_triedPapers_49 rfl ?_
        obtain ⟨p16, hf⟩ := gk_s hf
        obtain ⟨r16, h16, hq16, hf⟩ := bd_s hf
        refine r_cV1 C (am_X10_isSound (gl g) n) cm_X10_isSound w_1338 dX11_triedPapers_51 ⟨Nat.le_of_ble_eq_true rfl, Nat.le_of_ble_eq_true rfl⟩ p16 rfl trivial rfl (Nat.le_of_ble_eq_true rfl) hq16 (by decide) (fun c16 => ?_)
        have c16 : in32 _ := c16
        refine r_if_eq C dX11_triedPapers_54 (tgt := 82) (by decide) c16 (fun n17 => ?_) (fun n17 => ?_)
        · have hf := ite_p n17 hf
          exact G.mask [true, true, true, true, false] rfl rfl (b_X11_triedPapers_82 C hr L4 cv1 cv2 cv3 hf)
        · have hf := ite_n n17 hf
          refine r_goto C dX11_triedPapers_57 (tgt := 79) (by decide) ?_
          exact G.mask [true, true, true, true, false] rfl rfl (b_X11_triedPapers_79 C hr L4 cv1 cv2 cv3 hf)
    · have hf := ite_p n8 hf
      refine r_goto C dX11_triedPapers_37 (tgt := 82) (by decide) ?_
      exact G.mask [true, true, true, true, false] rfl rfl (b_X11_triedPapers_82 C hr L4 cv1 cv2 cv3 hf)
set_option maxRecDepth 20000 in
theorem l_X11_triedPapers_4 {g : GT} {Z : Int × MM} {n : Nat} (C : Cx g cX11_triedPapers 5 yX11_triedPapers 35 821) (hr : Rt g (some .int) 0 Z) {v0 v1 : Int}   (cv1 : in32 v1) : ∀ (k : Nat) (v2 v3 : Int) (h : MM), in32 v2 → in32 v3 → f_X11_triedPapers_4 n  v0 v1 k v2 v3 h = some Z → G g 4 [(2, v0), (0, v1), (0, v2), (0, v3), (3, 0)] [] h := by
  intro k
  induction k with
  | zero => intro v2 v3 h cv2 cv3 hf; exact absurd hf (by intro z; cases z)
  | succ k ih => intro v2 v3 h cv2 cv3 hf; exact b_X11_triedPapers_4b C hr (rec4 := f_X11_triedPapers_4 n  v0 v1 k)  ih cv1 cv2 cv3 (show f_X11_triedPapers_4b n  (f_X11_triedPapers_4 n  v0 v1 k) v0 v1 v2 v3 h = some Z from hf)
set_option maxRecDepth 20000 in
theorem e_X11_triedPapers {g : GT} {Z : Int × MM} {n : Nat} (C : Cx g cX11_triedPapers 5 yX11_triedPapers 35 821) (hr : Rt g (some .int) 0 Z) {v0 v1 : Int} (cv0 : cK 2 v0) (cv1 : cK 0 v1) {h : MM} (hf : f_X11_triedPapers n v0 v1 h = some Z) : G g 0 [(2, v0), (0, v1), (3, 0), (3, 0), (3, 0)] [] h := by
  have cv1 : in32 v1 := cv1
  unfold f_X11_triedPapers at hf
  refine r_iconst C dX11_triedPapers_0 ?_
  refine r_istore_n C dX11_triedPapers_1 (Nat.le_of_ble_eq_true rfl) rfl ?_
  refine r_iconst C dX11_triedPapers_2 ?_
  refine r_istore_n C dX11_triedPapers_3 (Nat.le_of_ble_eq_true rfl) rfl ?_
  exact G.mask [true, true, true, true, false] rfl rfl (l_X11_triedPapers_4 C hr  cv1 _ _ _ _ (in32_of rfl) (in32_of rfl) hf)
set_option maxRecDepth 20000 in
theorem am_X11_triedPapers (l : Launch) (n : Nat) : AM l yX11_triedPapers cX11_triedPapers 5 (some .int) 35 821 [2, 0] 0 (un2 (f_X11_triedPapers n)) := by
  refine AM.intro (by decide) (fun xs hx => ?_) (fun g xs h Z hl C hr hx hf => ?_)
  · obtain ⟨a0, a1, rfl, c0, c1⟩ := canL_2 hx
    exact Nat.le_of_ble_eq_true rfl
  · obtain ⟨a0, a1, rfl, c0, c1⟩ := canL_2 hx
    have hf := (un2_e _ a0 a1 _).symm.trans hf
    exact e_X11_triedPapers (n := n) C hr c0 c1 hf
/-! LinesPromised$World.dropLatestOrder()V -/
theorem dX10_dropLatestOrder_0 : decode cX10_dropLatestOrder 0 = .ok (.aload_n 0, 1) := by decide +kernel
theorem dX10_dropLatestOrder_1 : decode cX10_dropLatestOrder 1 = .ok (.getfield 82, 3) := by decide +kernel
theorem dX10_dropLatestOrder_4 : decode cX10_dropLatestOrder 4 = .ok (.ifCond .ne 4, 3) := by decide +kernel
theorem dX10_dropLatestOrder_7 : decode cX10_dropLatestOrder 7 = .ok (.return_, 1) := by decide +kernel
theorem dX10_dropLatestOrder_8 : decode cX10_dropLatestOrder 8 = .ok (.aload_n 0, 1) := by decide +kernel
theorem dX10_dropLatestOrder_9 : decode cX10_dropLatestOrder 9 = .ok (.dup, 1) := by decide +kernel
theorem dX10_dropLatestOrder_10 : decode cX10_dropLatestOrder 10 = .ok (.getfield 82, 3) := by decide +kernel
theorem dX10_dropLatestOrder_13 : decode cX10_dropLatestOrder 13 = .ok (.iconst 1, 1) := by decide +kernel
theorem dX10_dropLatestOrder_14 : decode cX10_dropLatestOrder 14 = .ok (.isub, 1) := by decide +kernel
theorem dX10_dropLatestOrder_15 : decode cX10_dropLatestOrder 15 = .ok (.putfield 82, 3) := by decide +kernel
theorem dX10_dropLatestOrder_18 : decode cX10_dropLatestOrder 18 = .ok (.aload_n 0, 1) := by decide +kernel
theorem dX10_dropLatestOrder_19 : decode cX10_dropLatestOrder 19 = .ok (.getfield 51, 3) := by decide +kernel
theorem dX10_dropLatestOrder_22 : decode cX10_dropLatestOrder 22 = .ok (.aload_n 0, 1) := by decide +kernel
theorem dX10_dropLatestOrder_23 : decode cX10_dropLatestOrder 23 = .ok (.getfield 82, 3) := by decide +kernel
theorem dX10_dropLatestOrder_26 : decode cX10_dropLatestOrder 26 = .ok (.aconst_null, 1) := by decide +kernel
theorem dX10_dropLatestOrder_27 : decode cX10_dropLatestOrder 27 = .ok (.aastore, 1) := by decide +kernel
theorem dX10_dropLatestOrder_28 : decode cX10_dropLatestOrder 28 = .ok (.return_, 1) := by decide +kernel
theorem cm_X10_dropLatestOrder : CM yX10_dropLatestOrder cX10_dropLatestOrder 1 none 0 10 := ⟨w_1340, w_1341, w_1342, w_88, ⟨by decide +kernel, by decide +kernel, by decide +kernel⟩, ⟨_, _, rfl⟩, by decide⟩
noncomputable def f_X10_dropLatestOrder (n : Nat) (v0 : Int) (h : MM) : RR :=
  gf h v0 10 8 fun r1 =>
  if r1 = 0 then
    some (0, h)
  else
  gf h v0 10 8 fun r3 =>
  pf h v0 10 8 (wr (r3 - 1)) fun h4 =>
  gf h4 v0 10 6 fun r5 =>
  gf h4 v0 10 8 fun r6 =>
  wt h4 r5 104 r6 0 fun h7 =>
  some (0, h7)
set_option maxRecDepth 20000 in
theorem e_X10_dropLatestOrder {g : GT} {Z : Int × MM} {n : Nat} (C : Cx g cX10_dropLatestOrder 1 yX10_dropLatestOrder 0 0) (hr : Rt g none 3 Z) {v0 : Int} (cv0 : cK 2 v0) {h : MM} (hf : f_X10_dropLatestOrder n v0 h = some Z) : G g 0 [(2, v0)] [] h := by
  unfold f_X10_dropLatestOrder at hf
  refine r_aload_n C dX10_dropLatestOrder_0 rfl ?_
  obtain ⟨q1, hf⟩ := gf_s hf
  refine r_gf C ct10 (j := 8) (ji := 8) dX10_dropLatestOrder_1 q1 rfl rfl (by decide) w_314 rfl (fun c1 => ?_)
  have c1 : in32 _ := c1
  refine r_if_ne C dX10_dropLatestOrder_4 (tgt := 8) (by decide) c1 (fun n2 => ?_) (fun n2 => ?_)
  · have hf := ite_n n2 hf
    refine r_aload_n C dX10_dropLatestOrder_8 rfl ?_
    refine r_dup C dX10_dropLatestOrder_9 (by decide) ?_
    obtain ⟨q3, hf⟩ := gf_s hf
    refine r_gf C ct10 (j := 8) (ji := 8) dX10_dropLatestOrder_10 q3 rfl rfl (by decide) w_314 rfl (fun c3 => ?_)
    have c3 : in32 _ := c3
    refine r_iconst C dX10_dropLatestOrder_13 ?_
    refine r_isub C dX10_dropLatestOrder_14 ?_
    obtain ⟨q4, hf⟩ := pf_s hf
    refine r_pf C ct10 (j := 8) (ji := 8) dX10_dropLatestOrder_15 q4 rfl rfl (by decide) w_314 rfl (Or.inl rfl) nar_int (in32_t _) ?_
    refine r_aload_n C dX10_dropLatestOrder_18 rfl ?_
    obtain ⟨q5, hf⟩ := gf_s hf
    refine r_gf C ct10 (j := 6) (ji := 6) dX10_dropLatestOrder_19 q5 rfl rfl (by decide) w_311 rfl (fun c5 => ?_)
    refine r_aload_n C dX10_dropLatestOrder_22 rfl ?_
    obtain ⟨q6, hf⟩ := gf_s hf
    refine r_gf C ct10 (j := 8) (ji := 8) dX10_dropLatestOrder_23 q6 rfl rfl (by decide) w_314 rfl (fun c6 => ?_)
    have c6 : in32 _ := c6
    refine r_null C dX10_dropLatestOrder_26 ?_
    obtain ⟨q7, hf⟩ := wt_s hf
    refine r_aastN C (tn := 104) dX10_dropLatestOrder_27 q7 rfl (by decide) (by decide) ?_
    cases hf
    exact r_vret C hr dX10_dropLatestOrder_28
  · have hf := ite_p n2 hf
    cases hf
    exact r_vret C hr dX10_dropLatestOrder_7
set_option maxRecDepth 20000 in
theorem am_X10_dropLatestOrder (l : Launch) (n : Nat) : AM l yX10_dropLatestOrder cX10_dropLatestOrder 1 none 0 0 [2] 3 (un1 (f_X10_dropLatestOrder n)) := by
  refine AM.intro (by decide) (fun xs hx => ?_) (fun g xs h Z hl C hr hx hf => ?_)
  · obtain ⟨a0, rfl, c0⟩ := canL_1 hx
    exact Nat.le_of_ble_eq_true rfl
  · obtain ⟨a0, rfl, c0⟩ := canL_1 hx
    have hf := (un1_e _ a0 _).symm.trans hf
    exact e_X10_dropLatestOrder (n := n) C hr c0 hf
/-! LinesPromised.tried(I)I -/
theorem dX11_tried_0 : decode cX11_tried 0 = .ok (.iload_n 1, 1) := by decide +kernel
theorem dX11_tried_1 : decode cX11_tried 1 = .ok (.i2l, 1) := by decide +kernel
theorem dX11_tried_2 : decode cX11_tried 2 = .ok (.iconst 0, 1) := by decide +kernel
theorem dX11_tried_3 : decode cX11_tried 3 = .ok (.iconst 2, 1) := by decide +kernel
theorem dX11_tried_4 : decode cX11_tried 4 = .ok (.invokestatic 46, 3) := by decide +kernel
theorem dX11_tried_7 : decode cX11_tried 7 = .ok (.ifCond .ne 5, 3) := by decide +kernel
theorem dX11_tried_10 : decode cX11_tried 10 = .ok (.iconst (-1), 1) := by decide +kernel
theorem dX11_tried_11 : decode cX11_tried 11 = .ok (.ireturn, 1) := by decide +kernel
theorem dX11_tried_12 : decode cX11_tried 12 = .ok (.aload_n 0, 1) := by decide +kernel
theorem dX11_tried_13 : decode cX11_tried 13 = .ok (.getfield 10, 3) := by decide +kernel
theorem dX11_tried_16 : decode cX11_tried 16 = .ok (.aload_n 0, 1) := by decide +kernel
theorem dX11_tried_17 : decode cX11_tried 17 = .ok (.getfield 10, 3) := by decide +kernel
theorem dX11_tried_20 : decode cX11_tried 20 = .ok (.getfield 148, 3) := by decide +kernel
theorem dX11_tried_23 : decode cX11_tried 23 = .ok (.invokevirtual 103, 3) := by decide +kernel
theorem dX11_tried_26 : decode cX11_tried 26 = .ok (.astore_n 2, 1) := by decide +kernel
theorem dX11_tried_27 : decode cX11_tried 27 = .ok (.aload_n 2, 1) := by decide +kernel
theorem dX11_tried_28 : decode cX11_tried 28 = .ok (.invokevirtual 107, 3) := by decide +kernel
theorem dX11_tried_31 : decode cX11_tried 31 = .ok (.istore_n 3, 1) := by decide +kernel
theorem dX11_tried_32 : decode cX11_tried 32 = .ok (.iload_n 3, 1) := by decide +kernel
theorem dX11_tried_33 : decode cX11_tried 33 = .ok (.iconst (-1), 1) := by decide +kernel
theorem dX11_tried_34 : decode cX11_tried 34 = .ok (.if_icmp .eq 8, 3) := by decide +kernel
theorem dX11_tried_37 : decode cX11_tried 37 = .ok (.bipush (-10), 2) := by decide +kernel
theorem dX11_tried_39 : decode cX11_tried 39 = .ok (.iload_n 3, 1) := by decide +kernel
theorem dX11_tried_40 : decode cX11_tried 40 = .ok (.isub, 1) := by decide +kernel
theorem dX11_tried_41 : decode cX11_tried 41 = .ok (.ireturn, 1) := by decide +kernel
theorem dX11_tried_42 : decode cX11_tried 42 = .ok (.aload_n 0, 1) := by decide +kernel
theorem dX11_tried_43 : decode cX11_tried 43 = .ok (.getfield 10, 3) := by decide +kernel
theorem dX11_tried_46 : decode cX11_tried 46 = .ok (.aload_n 2, 1) := by decide +kernel
theorem dX11_tried_47 : decode cX11_tried 47 = .ok (.invokevirtual 113, 3) := by decide +kernel
theorem dX11_tried_50 : decode cX11_tried 50 = .ok (.pop, 1) := by decide +kernel
theorem dX11_tried_51 : decode cX11_tried 51 = .ok (.iload_n 1, 1) := by decide +kernel
theorem dX11_tried_52 : decode cX11_tried 52 = .ok (.iconst 2, 1) := by decide +kernel
theorem dX11_tried_53 : decode cX11_tried 53 = .ok (.if_icmp .ne 10, 3) := by decide +kernel
theorem dX11_tried_56 : decode cX11_tried 56 = .ok (.aload_n 0, 1) := by decide +kernel
theorem dX11_tried_57 : decode cX11_tried 57 = .ok (.invokevirtual 393, 3) := by decide +kernel
theorem dX11_tried_60 : decode cX11_tried 60 = .ok (.goto 16, 3) := by decide +kernel
theorem dX11_tried_63 : decode cX11_tried 63 = .ok (.aload_n 0, 1) := by decide +kernel
theorem dX11_tried_64 : decode cX11_tried 64 = .ok (.iload_n 1, 1) := by decide +kernel
theorem dX11_tried_65 : decode cX11_tried 65 = .ok (.ifCond .ne 7, 3) := by decide +kernel
theorem dX11_tried_68 : decode cX11_tried 68 = .ok (.iconst 2, 1) := by decide +kernel
theorem dX11_tried_69 : decode cX11_tried 69 = .ok (.goto 4, 3) := by decide +kernel
theorem dX11_tried_72 : decode cX11_tried 72 = .ok (.iconst 3, 1) := by decide +kernel
theorem dX11_tried_73 : decode cX11_tried 73 = .ok (.invokevirtual 396, 3) := by decide +kernel
theorem dX11_tried_76 : decode cX11_tried 76 = .ok (.istore 4, 2) := by decide +kernel
theorem dX11_tried_78 : decode cX11_tried 78 = .ok (.aload_n 0, 1) := by decide +kernel
theorem dX11_tried_79 : decode cX11_tried 79 = .ok (.getfield 10, 3) := by decide +kernel
theorem dX11_tried_82 : decode cX11_tried 82 = .ok (.invokevirtual 399, 3) := by decide +kernel
theorem dX11_tried_85 : decode cX11_tried 85 = .ok (.iload 4, 2) := by decide +kernel
theorem dX11_tried_87 : decode cX11_tried 87 = .ok (.ireturn, 1) := by decide +kernel
theorem cm_X11_tried : CM yX11_tried cX11_tried 5 (some .int) 1 11 := ⟨w_1327, w_1328, w_1329, w_87, ⟨by decide +kernel, by decide +kernel, by decide +kernel⟩, ⟨_, _, rfl⟩, by decide⟩
noncomputable def f_X11_tried_76 (n : Nat)  (v0 s0 : Int) (h : MM) : RR :=
  gf h v0 11 0 fun r1 =>
  gk h r1 10 <|
  bd (f_X10_dropLatestOrder n r1 h) fun r2 h2 =>
  some (s0, h2)
noncomputable def f_X11_tried_73 (n : Nat)  (v0 s0 s1 : Int) (h : MM) : RR :=
  gk h s0 11 <|
  bd (f_X11_triedPapers n s0 s1 h) fun r1 h1 =>
  f_X11_tried_76 n v0 r1 h1
noncomputable def f_X11_tried (n : Nat) (v0 v1 : Int) (h : MM) : RR :=
  bd (f_X11_within n v1 0 2 h) fun r1 h1 =>
  if r1 = 0 then
    some ((-1), h1)
  else
  gf h1 v0 11 0 fun r3 =>
  gf h1 v0 11 0 fun r4 =>
  gf h1 r4 10 9 fun r5 =>
  gk h1 r3 10 <|
  bd (f_X10_takeTape n r3 r5 h1) fun r6 h6 =>
  gk h6 r6 3 <|
  bd (f_X3_faultOf n r6 h6) fun r7 h7 =>
  if r7 = (-1) then
    gf h7 v0 11 0 fun r9 =>
    gk h7 r9 10 <|
    bd (f_X10_enforce n r9 r6 h7) fun r10 h10 =>
    if v1 = 2 then
      gk h10 v0 11 <|
      bd (f_X11_triedYards n v0 h10) fun r13 h13 =>
      f_X11_tried_76 n v0 r13 h13
    else
    if v1 = 0 then
      f_X11_tried_73 n v0 v0 2 h10
    else
    f_X11_tried_73 n v0 v0 3 h10
  else
  some (wr (((-10)) - r7), h7)
set_option maxRecDepth 20000 in
theorem b_X11_tried_76 {g : GT} {Z : Int × MM} {n : Nat} (C : Cx g cX11_tried 5 yX11_tried 36 845) (hr : Rt g (some .int) 0 Z) {v0 s0 : Int}    (cs0 : in32 s0) {h : MM} (hf : f_X11_tried_76 n  v0 s0 h = some Z) : G g 76 [(2, v0), (3, 0), (3, 0), (3, 0), (3, 0)] [(0, s0)] h := by
  unfold f_X11_tried_76 at hf
  refine r_istore C dX11_tried_76 (Nat.le_of_ble_eq_true rfl) rfl ?_
  refine r_aload_n C dX11_tried_78 rfl ?_
  obtain ⟨q1, hf⟩ := gf_s hf
  refine r_gf C ct11 (j := 0) (ji := 0) dX11_tried_79 q1 rfl rfl (by decide) w_440 rfl (fun c1 => ?_)
  obtain ⟨p2, hf⟩ := gk_s hf
  obtain ⟨r2, h2, hq2, hf⟩ := bd_s hf
  refine r_cV0v C (am_X10_dropLatestOrder (gl g) n) cm_X10_dropLatestOrder w_1339 dX11_tried_82 ⟨Nat.le_of_ble_eq_true rfl, Nat.le_of_ble_eq_true rfl⟩ p2 rfl  rfl (Nat.le_of_ble_eq_true rfl) hq2 ?_
  refine r_iload C dX11_tried_85 rfl ?_
  cases hf
  exact r_jret C hr dX11_tried_87 cs0
set_option maxRecDepth 20000 in
theorem b_X11_tried_73 {g : GT} {Z : Int × MM} {n : Nat} (C : Cx g cX11_tried 5 yX11_tried 36 845) (hr : Rt g (some .int) 0 Z) {v0 s0 s1 : Int}    (cs1 : in32 s1) {h : MM} (hf : f_X11_tried_73 n  v0 s0 s1 h = some Z) : G g 73 [(2, v0), (3, 0), (3, 0), (3, 0), (3, 0)] [(0, s1), (2, s0)] h := by
  unfold f_X11_tried_73 at hf
  obtain ⟨p1, hf⟩ := gk_s hf
  obtain ⟨r1, h1, hq1, hf⟩ := bd_s hf
  refine r_cV1 C (am_X11_triedPapers (gl g) n) cm_X11_triedPapers w_1334 dX11_tried_73 ⟨Nat.le_of_ble_eq_true rfl, Nat.le_of_ble_eq_true rfl⟩ p1 rfl cs1 rfl (Nat.le_of_ble_eq_true rfl) hq1 (by decide) (fun c1 => ?_)
  have c1 : in32 _ := c1
  exact G.mask [true, false, false, false, false] rfl rfl (b_X11_tried_76 C hr  c1 hf)
set_option maxRecDepth 20000 in
theorem e_X11_tried {g : GT} {Z : Int × MM} {n : Nat} (C : Cx g cX11_tried 5 yX11_tried 36 845) (hr : Rt g (some .int) 0 Z) {v0 v1 : Int} (cv0 : cK 2 v0) (cv1 : cK 0 v1) {h : MM} (hf : f_X11_tried n v0 v1 h = some Z) : G g 0 [(2, v0), (0, v1), (3, 0), (3, 0), (3, 0)] [] h := by
  have cv1 : in32 v1 := cv1
  unfold f_X11_tried at hf
  refine r_iload_n C dX11_tried_0 rfl ?_
  refine r_i2l C dX11_tried_1 cv1 ?_
  refine r_iconst C dX11_tried_2 ?_
  refine r_iconst C dX11_tried_3 ?_
  obtain ⟨r1, h1, hq1, hf⟩ := bd_s hf
  refine r_cS3 C (am_X11_within (gl g) n) cm_X11_within w_466 dX11_tried_4 ⟨Nat.le_of_ble_eq_true rfl, Nat.le_of_ble_eq_true rfl⟩ (in64_i cv1) (in32_of rfl) (in32_of rfl) rfl (Nat.le_of_ble_eq_true rfl) hq1 (by decide) (fun c1 => ?_)
  have c1 : in32 _ := c1
  refine r_if_ne C dX11_tried_7 (tgt := 12) (by decide) c1 (fun n2 => ?_) (fun n2 => ?_)
  · have hf := ite_n n2 hf
    refine r_aload_n C dX11_tried_12 rfl ?_
    obtain ⟨q3, hf⟩ := gf_s hf
    refine r_gf C ct11 (j := 0) (ji := 0) dX11_tried_13 q3 rfl rfl (by decide) w_440 rfl (fun c3 => ?_)
    refine r_aload_n C dX11_tried_16 rfl ?_
    obtain ⟨q4, hf⟩ := gf_s hf
    refine r_gf C ct11 (j := 0) (ji := 0) dX11_tried_17 q4 rfl rfl (by decide) w_440 rfl (fun c4 => ?_)
    obtain ⟨q5, hf⟩ := gf_s hf
    refine r_gf C ct10 (j := 9) (ji := 9) dX11_tried_20 q5 rfl rfl (by decide) w_317 rfl (fun c5 => ?_)
    have c5 : in32 _ := c5
    obtain ⟨p6, hf⟩ := gk_s hf
    obtain ⟨r6, h6, hq6, hf⟩ := bd_s hf
    refine r_cV1 C (am_X10_takeTape (gl g) n) cm_X10_takeTape w_504 dX11_tried_23 ⟨Nat.le_of_ble_eq_true rfl, Nat.le_of_ble_eq_true rfl⟩ p6 rfl c5 rfl (Nat.le_of_ble_eq_true rfl) hq6 (by decide) (fun c6 => ?_)
    refine r_astore_n C dX11_tried_26 (Nat.le_of_ble_eq_true rfl) rfl ?_
    refine r_aload_n C dX11_tried_27 rfl ?_
    obtain ⟨p7, hf⟩ := gk_s hf
    obtain ⟨r7, h7, hq7, hf⟩ := bd_s hf
    refine r_cV0 C (am_X3_faultOf (gl g) n) cm_X3_faultOf w_556 dX11_tried_28 ⟨Nat.le_of_ble_eq_true rfl, Nat.le_of_ble_eq_true rfl⟩ p7 rfl  rfl (Nat.le_of_ble_eq_true rfl) hq7 (by decide) (fun c7 => ?_)
    have c7 : in32 _ := c7
    refine r_istore_n C dX11_tried_31 (Nat.le_of_ble_eq_true rfl) rfl ?_
    refine r_iload_n C dX11_tried_32 rfl ?_
    refine r_iconst C dX11_tried_33 ?_
    refine r_icmp_eq C dX11_tried_34 (tgt := 42) (by decide) c7 (in32_of rfl) (fun n8 => ?_) (fun n8 => ?_)
    · have hf := ite_p n8 hf
      refine r_aload_n C dX11_tried_42 rfl ?_
      obtain ⟨q9, hf⟩ := gf_s hf
      refine r_gf C ct11 (j := 0) (ji := 0) dX11_tried_43 q9 rfl rfl (by decide) w_440 rfl (fun c9 => ?_)
      refine r_aload_n C dX11_tried_46 rfl ?_
      obtain ⟨p10, hf⟩ := gk_s hf
      obtain ⟨r10, h10, hq10, hf⟩ := bd_s hf
      refine r_cV1 C (am_X10_enforce (gl g) n) cm_X10_enforce w_664 dX11_tried_47 ⟨Nat.le_of_ble_eq_true rfl, Nat.le_of_ble_eq_true rfl⟩ p10 rfl trivial rfl (Nat.le_of_ble_eq_true rfl) hq10 (by decide) (fun c10 => ?_)
      have c10 : in32 _ := c10
      refine r_pop C dX11_tried_50 (by decide) ?_
      refine r_iload_n C dX11_tried_51 rfl ?_
      refine r_iconst C dX11_tried_52 ?_
      refine r_icmp_ne C dX11_tried_53 (tgt := 63) (by decide) cv1 (in32_of rfl) (fun n11 => ?_) (fun n11 => ?_)
      · have hf := ite_n n11 hf
        refine r_aload_n C dX11_tried_63 rfl ?_
        refine r_iload_n C dX11_tried_64 rfl ?_
        refine r_if_ne C dX11_tried_65 (tgt := 72) (by decide) cv1 (fun n12 => ?_) (fun n12 => ?_)
        · have hf := ite_n n12 hf
          refine r_iconst C dX11_tried_72 ?_
          exact G.mask [true, false, false, false, false] rfl rfl (b_X11_tried_73 C hr  (in32_of rfl) hf)
        · have hf := ite_p n12 hf
          refine r_iconst C dX11_tried_68 ?_
          refine r_goto C dX11_tried_69 (tgt := 73) (by decide) ?_
          exact G.mask [true, false, false, false, false] rfl rfl (b_X11_tried_73 C hr  (in32_of rfl) hf)
      · have hf := ite_p n11 hf
        refine r_aload_n C dX11_tried_56 rfl ?_
        obtain ⟨p13, hf⟩ := gk_s hf
        obtain ⟨r13, h13, hq13, hf⟩ := bd_s hf
        refine r_cV0 C (am_X11_triedYards (gl g) n) cm_X11_triedYards w_1330 dX11_tried_57 ⟨Nat.le_of_ble_eq_true rfl, Nat.le_of_ble_eq_true rfl⟩ p13 rfl  rfl (Nat.le_of_ble_eq_true rfl) hq13 (by decide) (fun c13 => ?_)
        have c13 : in32 _ := c13
        refine r_goto C dX11_tried_60 (tgt := 76) (by decide) ?_
        exact G.mask [true, false, false, false, false] rfl rfl (b_X11_tried_76 C hr  c13 hf)
    · have hf := ite_n n8 hf
      refine r_bipush C dX11_tried_37 rfl ?_
      refine r_iload_n C dX11_tried_39 rfl ?_
      refine r_isub C dX11_tried_40 ?_
      cases hf
      exact r_jret C hr dX11_tried_41 (in32_t _)
  · have hf := ite_p n2 hf
    refine r_iconst C dX11_tried_10 ?_
    cases hf
    exact r_jret C hr dX11_tried_11 (in32_of rfl)
set_option maxRecDepth 20000 in
theorem am_X11_tried (l : Launch) (n : Nat) : AM l yX11_tried cX11_tried 5 (some .int) 36 845 [2, 0] 0 (un2 (f_X11_tried n)) := by
  refine AM.intro (by decide) (fun xs hx => ?_) (fun g xs h Z hl C hr hx hf => ?_)
  · obtain ⟨a0, a1, rfl, c0, c1⟩ := canL_2 hx
    exact Nat.le_of_ble_eq_true rfl
  · obtain ⟨a0, a1, rfl, c0, c1⟩ := canL_2 hx
    have hf := (un2_e _ a0 a1 _).symm.trans hf
    exact e_X11_tried (n := n) C hr c0 c1 hf
/-! LinesPromised.known(II)I -/
theorem dX11_known_0 : decode cX11_known 0 = .ok (.aload_n 0, 1) := by decide +kernel
theorem dX11_known_1 : decode cX11_known 1 = .ok (.getfield 10, 3) := by decide +kernel
theorem dX11_known_4 : decode cX11_known 4 = .ok (.getfield 133, 3) := by decide +kernel
theorem dX11_known_7 : decode cX11_known 7 = .ok (.iload_n 1, 1) := by decide +kernel
theorem dX11_known_8 : decode cX11_known 8 = .ok (.invokevirtual 272, 3) := by decide +kernel
theorem dX11_known_11 : decode cX11_known 11 = .ok (.ifnull 21, 3) := by decide +kernel
theorem dX11_known_14 : decode cX11_known 14 = .ok (.iload_n 2, 1) := by decide +kernel
theorem dX11_known_15 : decode cX11_known 15 = .ok (.i2l, 1) := by decide +kernel
theorem dX11_known_16 : decode cX11_known 16 = .ok (.iconst 0, 1) := by decide +kernel
theorem dX11_known_17 : decode cX11_known 17 = .ok (.aload_n 0, 1) := by decide +kernel
theorem dX11_known_18 : decode cX11_known 18 = .ok (.getfield 10, 3) := by decide +kernel
theorem dX11_known_21 : decode cX11_known 21 = .ok (.getfield 148, 3) := by decide +kernel
theorem dX11_known_24 : decode cX11_known 24 = .ok (.iconst 1, 1) := by decide +kernel
theorem dX11_known_25 : decode cX11_known 25 = .ok (.isub, 1) := by decide +kernel
theorem dX11_known_26 : decode cX11_known 26 = .ok (.invokestatic 46, 3) := by decide +kernel
theorem dX11_known_29 : decode cX11_known 29 = .ok (.ifCond .ne 5, 3) := by decide +kernel
theorem dX11_known_32 : decode cX11_known 32 = .ok (.iconst (-1), 1) := by decide +kernel
theorem dX11_known_33 : decode cX11_known 33 = .ok (.ireturn, 1) := by decide +kernel
theorem dX11_known_34 : decode cX11_known 34 = .ok (.aload_n 0, 1) := by decide +kernel
theorem dX11_known_35 : decode cX11_known 35 = .ok (.getfield 21, 3) := by decide +kernel
theorem dX11_known_38 : decode cX11_known 38 = .ok (.iload_n 2, 1) := by decide +kernel
theorem dX11_known_39 : decode cX11_known 39 = .ok (.aaload, 1) := by decide +kernel
theorem dX11_known_40 : decode cX11_known 40 = .ok (.astore_n 3, 1) := by decide +kernel
theorem dX11_known_41 : decode cX11_known 41 = .ok (.aload_n 3, 1) := by decide +kernel
theorem dX11_known_42 : decode cX11_known 42 = .ok (.ifnonnull 7, 3) := by decide +kernel
theorem dX11_known_45 : decode cX11_known 45 = .ok (.iconst (-1), 1) := by decide +kernel
theorem dX11_known_46 : decode cX11_known 46 = .ok (.goto 6, 3) := by decide +kernel
theorem dX11_known_49 : decode cX11_known 49 = .ok (.aload_n 3, 1) := by decide +kernel
theorem dX11_known_50 : decode cX11_known 50 = .ok (.iload_n 1, 1) := by decide +kernel
theorem dX11_known_51 : decode cX11_known 51 = .ok (.iaload, 1) := by decide +kernel
theorem dX11_known_52 : decode cX11_known 52 = .ok (.ireturn, 1) := by decide +kernel
theorem cm_X11_known : CM yX11_known cX11_known 4 (some .int) 2 11 := ⟨w_1344, w_1345, w_1346, w_87, ⟨by decide +kernel, by decide +kernel, by decide +kernel⟩, ⟨_, _, rfl⟩, by decide⟩
noncomputable def f_X11_known_32 (n : Nat)  (h : MM) : RR :=
  some ((-1), h)
noncomputable def f_X11_known_52 (n : Nat)  (s0 : Int) (h : MM) : RR :=
  some (s0, h)
noncomputable def f_X11_known (n : Nat) (v0 v1 v2 : Int) (h : MM) : RR :=
  gf h v0 11 0 fun r1 =>
  gf h r1 10 1 fun r2 =>
  gk h r2 5 <|
  bd (f_X5_get n r2 v1 h) fun r3 h3 =>
  if r3 = 0 then
    f_X11_known_32 n h3
  else
  gf h3 v0 11 0 fun r5 =>
  gf h3 r5 10 9 fun r6 =>
  bd (f_X11_within n v2 0 (wr (r6 - 1)) h3) fun r7 h7 =>
  if r7 = 0 then
    f_X11_known_32 n h7
  else
  gf h7 v0 11 3 fun r9 =>
  rd h7 r9 107 v2 fun r10 =>
  if r10 = 0 then
    f_X11_known_52 n ((-1)) h7
  else
  rd h7 r10 100 v1 fun r12 =>
  f_X11_known_52 n r12 h7
set_option maxRecDepth 20000 in
theorem b_X11_known_32 {g : GT} {Z : Int × MM} {n : Nat} (C : Cx g cX11_known 4 yX11_known 2 44) (hr : Rt g (some .int) 0 Z)     {h : MM} (hf : f_X11_known_32 n   h = some Z) : G g 32 [(3, 0), (3, 0), (3, 0), (3, 0)] [] h := by
  unfold f_X11_known_32 at hf
  refine r_iconst C dX11_known_32 ?_
  cases hf
  exact r_jret C hr dX11_known_33 (in32_of rfl)
set_option maxRecDepth 20000 in
theorem b_X11_known_52 {g : GT} {Z : Int × MM} {n : Nat} (C : Cx g cX11_known 4 yX11_known 2 44) (hr : Rt g (some .int) 0 Z) {s0 : Int}    (cs0 : in32 s0) {h : MM} (hf : f_X11_known_52 n  s0 h = some Z) : G g 52 [(3, 0), (3, 0), (3, 0), (3, 0)] [(0, s0)] h := by
  unfold f_X11_known_52 at hf
  cases hf
  exact r_jret C hr dX11_known_52 cs0
set_option maxRecDepth 20000 in
theorem e_X11_known {g : GT} {Z : Int × MM} {n : Nat} (C : Cx g cX11_known 4 yX11_known 2 44) (hr : Rt g (some .int) 0 Z) {v0 v1 v2 : Int} (cv0 : cK 2 v0) (cv1 : cK 0 v1) (cv2 : cK 0 v2) {h : MM} (hf : f_X11_known n v0 v1 v2 h = some Z) : G g 0 [(2, v0), (0, v1), (0, v2), (3, 0)] [] h := by
  have cv1 : in32 v1 := cv1
  have cv2 : in32 v2 := cv2
  unfold f_X11_known at hf
  refine r_aload_n C dX11_known_0 rfl ?_
  obtain ⟨q1, hf⟩ := gf_s hf
  refine r_gf C ct11 (j := 0) (ji := 0) dX11_known_1 q1 rfl rfl (by decide) w_440 rfl (fun c1 => ?_)
  obtain ⟨q2, hf⟩ := gf_s hf
  refine r_gf C ct10 (j := 1) (ji := 1) dX11_known_4 q2 rfl rfl (by decide) w_302 rfl (fun c2 => ?_)
  refine r_iload_n C dX11_known_7 rfl ?_
  obtain ⟨p3, hf⟩ := gk_s hf
  obtain ⟨r3, h3, hq3, hf⟩ := bd_s hf
  refine r_cV1 C (am_X5_get (gl g) n) cm_X5_get w_1018 dX11_known_8 ⟨Nat.le_of_ble_eq_true rfl, Nat.le_of_ble_eq_true rfl⟩ p3 rfl cv1 rfl (Nat.le_of_ble_eq_true rfl) hq3 (by decide) (fun c3 => ?_)
  refine r_ifnull C dX11_known_11 (tgt := 32) (by decide) (fun n4 => ?_) (fun n4 => ?_)
  · have hf := ite_p n4 hf
    exact G.mask [false, false, false, false] rfl rfl (b_X11_known_32 C hr   hf)
  · have hf := ite_n n4 hf
    refine r_iload_n C dX11_known_14 rfl ?_
    refine r_i2l C dX11_known_15 cv2 ?_
    refine r_iconst C dX11_known_16 ?_
    refine r_aload_n C dX11_known_17 rfl ?_
    obtain ⟨q5, hf⟩ := gf_s hf
    refine r_gf C ct11 (j := 0) (ji := 0) dX11_known_18 q5 rfl rfl (by decide) w_440 rfl (fun c5 => ?_)
    obtain ⟨q6, hf⟩ := gf_s hf
    refine r_gf C ct10 (j := 9) (ji := 9) dX11_known_21 q6 rfl rfl (by decide) w_317 rfl (fun c6 => ?_)
    have c6 : in32 _ := c6
    refine r_iconst C dX11_known_24 ?_
    refine r_isub C dX11_known_25 ?_
    obtain ⟨r7, h7, hq7, hf⟩ := bd_s hf
    refine r_cS3 C (am_X11_within (gl g) n) cm_X11_within w_466 dX11_known_26 ⟨Nat.le_of_ble_eq_true rfl, Nat.le_of_ble_eq_true rfl⟩ (in64_i cv2) (in32_of rfl) (in32_t _) rfl (Nat.le_of_ble_eq_true rfl) hq7 (by decide) (fun c7 => ?_)
    have c7 : in32 _ := c7
    refine r_if_ne C dX11_known_29 (tgt := 34) (by decide) c7 (fun n8 => ?_) (fun n8 => ?_)
    · have hf := ite_n n8 hf
      refine r_aload_n C dX11_known_34 rfl ?_
      obtain ⟨q9, hf⟩ := gf_s hf
      refine r_gf C ct11 (j := 3) (ji := 3) dX11_known_35 q9 rfl rfl (by decide) w_443 rfl (fun c9 => ?_)
      refine r_iload_n C dX11_known_38 rfl ?_
      obtain ⟨q10, hf⟩ := rd_s hf
      refine r_aald C dX11_known_39 q10 (tn := 107) rfl (by decide) ?_
      refine r_astore_n C dX11_known_40 (Nat.le_of_ble_eq_true rfl) rfl ?_
      refine r_aload_n C dX11_known_41 rfl ?_
      refine r_ifnonnull C dX11_known_42 (tgt := 49) (by decide) (fun n11 => ?_) (fun n11 => ?_)
      · have hf := ite_n n11 hf
        refine r_aload_n C dX11_known_49 rfl ?_
        refine r_iload_n C dX11_known_50 rfl ?_
        obtain ⟨q12, hf⟩ := rd_s hf
        refine r_iald C dX11_known_51 q12 rfl (fun c12 => ?_)
        exact G.mask [false, false, false, false] rfl rfl (b_X11_known_52 C hr  c12 hf)
      · have hf := ite_p n11 hf
        refine r_iconst C dX11_known_45 ?_
        refine r_goto C dX11_known_46 (tgt := 52) (by decide) ?_
        exact G.mask [false, false, false, false] rfl rfl (b_X11_known_52 C hr  (in32_of rfl) hf)
    · have hf := ite_p n8 hf
      exact G.mask [false, false, false, false] rfl rfl (b_X11_known_32 C hr   hf)
set_option maxRecDepth 20000 in
theorem am_X11_known (l : Launch) (n : Nat) : AM l yX11_known cX11_known 4 (some .int) 2 44 [2, 0, 0] 0 (un3 (f_X11_known n)) := by
  refine AM.intro (by decide) (fun xs hx => ?_) (fun g xs h Z hl C hr hx hf => ?_)
  · obtain ⟨a0, a1, a2, rfl, c0, c1, c2⟩ := canL_3 hx
    exact Nat.le_of_ble_eq_true rfl
  · obtain ⟨a0, a1, a2, rfl, c0, c1, c2⟩ := canL_3 hx
    have hf := (un3_e _ a0 a1 a2 _).symm.trans hf
    exact e_X11_known (n := n) C hr c0 c1 c2 hf
/-! LinesPromised$Land.become(LLinesPromised$Land;)V -/
theorem dX1_become_0 : decode cX1_become 0 = .ok (.aload_n 1, 1) := by decide +kernel
theorem dX1_become_1 : decode cX1_become 1 = .ok (.getfield 9, 3) := by decide +kernel
theorem dX1_become_4 : decode cX1_become 4 = .ok (.iconst 0, 1) := by decide +kernel
theorem dX1_become_5 : decode cX1_become 5 = .ok (.aload_n 0, 1) := by decide +kernel
theorem dX1_become_6 : decode cX1_become 6 = .ok (.getfield 9, 3) := by decide +kernel
theorem dX1_become_9 : decode cX1_become 9 = .ok (.iconst 0, 1) := by decide +kernel
theorem dX1_become_10 : decode cX1_become 10 = .ok (.bipush 80, 2) := by decide +kernel
theorem dX1_become_12 : decode cX1_become 12 = .ok (.invokestatic 27, 3) := by decide +kernel
theorem dX1_become_15 : decode cX1_become 15 = .ok (.aload_n 1, 1) := by decide +kernel
theorem dX1_become_16 : decode cX1_become 16 = .ok (.getfield 15, 3) := by decide +kernel
theorem dX1_become_19 : decode cX1_become 19 = .ok (.iconst 0, 1) := by decide +kernel
theorem dX1_become_20 : decode cX1_become 20 = .ok (.aload_n 0, 1) := by decide +kernel
theorem dX1_become_21 : decode cX1_become 21 = .ok (.getfield 15, 3) := by decide +kernel
theorem dX1_become_24 : decode cX1_become 24 = .ok (.iconst 0, 1) := by decide +kernel
theorem dX1_become_25 : decode cX1_become 25 = .ok (.bipush 80, 2) := by decide +kernel
theorem dX1_become_27 : decode cX1_become 27 = .ok (.invokestatic 27, 3) := by decide +kernel
theorem dX1_become_30 : decode cX1_become 30 = .ok (.aload_n 1, 1) := by decide +kernel
theorem dX1_become_31 : decode cX1_become 31 = .ok (.getfield 18, 3) := by decide +kernel
theorem dX1_become_34 : decode cX1_become 34 = .ok (.iconst 0, 1) := by decide +kernel
theorem dX1_become_35 : decode cX1_become 35 = .ok (.aload_n 0, 1) := by decide +kernel
theorem dX1_become_36 : decode cX1_become 36 = .ok (.getfield 18, 3) := by decide +kernel
theorem dX1_become_39 : decode cX1_become 39 = .ok (.iconst 0, 1) := by decide +kernel
theorem dX1_become_40 : decode cX1_become 40 = .ok (.bipush 80, 2) := by decide +kernel
theorem dX1_become_42 : decode cX1_become 42 = .ok (.invokestatic 27, 3) := by decide +kernel
theorem dX1_become_45 : decode cX1_become 45 = .ok (.aload_n 1, 1) := by decide +kernel
theorem dX1_become_46 : decode cX1_become 46 = .ok (.getfield 21, 3) := by decide +kernel
theorem dX1_become_49 : decode cX1_become 49 = .ok (.iconst 0, 1) := by decide +kernel
theorem dX1_become_50 : decode cX1_become 50 = .ok (.aload_n 0, 1) := by decide +kernel
theorem dX1_become_51 : decode cX1_become 51 = .ok (.getfield 21, 3) := by decide +kernel
theorem dX1_become_54 : decode cX1_become 54 = .ok (.iconst 0, 1) := by decide +kernel
theorem dX1_become_55 : decode cX1_become 55 = .ok (.bipush 6, 2) := by decide +kernel
theorem dX1_become_57 : decode cX1_become 57 = .ok (.invokestatic 27, 3) := by decide +kernel
theorem dX1_become_60 : decode cX1_become 60 = .ok (.aload_n 1, 1) := by decide +kernel
theorem dX1_become_61 : decode cX1_become 61 = .ok (.getfield 24, 3) := by decide +kernel
theorem dX1_become_64 : decode cX1_become 64 = .ok (.iconst 0, 1) := by decide +kernel
theorem dX1_become_65 : decode cX1_become 65 = .ok (.aload_n 0, 1) := by decide +kernel
theorem dX1_become_66 : decode cX1_become 66 = .ok (.getfield 24, 3) := by decide +kernel
theorem dX1_become_69 : decode cX1_become 69 = .ok (.iconst 0, 1) := by decide +kernel
theorem dX1_become_70 : decode cX1_become 70 = .ok (.bipush 6, 2) := by decide +kernel
theorem dX1_become_72 : decode cX1_become 72 = .ok (.invokestatic 27, 3) := by decide +kernel
theorem dX1_become_75 : decode cX1_become 75 = .ok (.aload_n 0, 1) := by decide +kernel
theorem dX1_become_76 : decode cX1_become 76 = .ok (.aload_n 1, 1) := by decide +kernel
theorem dX1_become_77 : decode cX1_become 77 = .ok (.getfield 33, 3) := by decide +kernel
theorem dX1_become_80 : decode cX1_become 80 = .ok (.putfield 33, 3) := by decide +kernel
theorem dX1_become_83 : decode cX1_become 83 = .ok (.return_, 1) := by decide +kernel
theorem cm_X1_become : CM yX1_become cX1_become 2 none 1 1 := ⟨w_1356, w_1357, w_1358, w_89, ⟨by decide +kernel, by decide +kernel, by decide +kernel⟩, ⟨_, _, rfl⟩, by decide⟩
noncomputable def f_X1_become (n : Nat) (v0 v1 : Int) (h : MM) : RR :=
  gf h v1 1 0 fun r1 =>
  gf h v0 1 0 fun r2 =>
  ac h 100 r1 0 r2 0 80 fun h3 =>
  gf h3 v1 1 1 fun r4 =>
  gf h3 v0 1 1 fun r5 =>
  ac h3 100 r4 0 r5 0 80 fun h6 =>
  gf h6 v1 1 2 fun r7 =>
  gf h6 v0 1 2 fun r8 =>
  ac h6 100 r7 0 r8 0 80 fun h9 =>
  gf h9 v1 1 3 fun r10 =>
  gf h9 v0 1 3 fun r11 =>
  ac h9 100 r10 0 r11 0 6 fun h12 =>
  gf h12 v1 1 4 fun r13 =>
  gf h12 v0 1 4 fun r14 =>
  ac h12 100 r13 0 r14 0 6 fun h15 =>
  gf h15 v1 1 5 fun r16 =>
  pf h15 v0 1 5 r16 fun h17 =>
  some (0, h17)
set_option maxRecDepth 20000 in
theorem e_X1_become {g : GT} {Z : Int × MM} {n : Nat} (C : Cx g cX1_become 2 yX1_become 1 60) (hr : Rt g none 3 Z) {v0 v1 : Int} (cv0 : cK 2 v0) (cv1 : cK 2 v1) {h : MM} (hf : f_X1_become n v0 v1 h = some Z) : G g 0 [(2, v0), (2, v1)] [] h := by
  unfold f_X1_become at hf
  refine r_aload_n C dX1_become_0 rfl ?_
  obtain ⟨q1, hf⟩ := gf_s hf
  refine r_gf C ct1 (j := 0) (ji := 0) dX1_become_1 q1 rfl rfl (by decide) w_128 rfl (fun c1 => ?_)
  refine r_iconst C dX1_become_4 ?_
  refine r_aload_n C dX1_become_5 rfl ?_
  obtain ⟨q2, hf⟩ := gf_s hf
  refine r_gf C ct1 (j := 0) (ji := 0) dX1_become_6 q2 rfl rfl (by decide) w_128 rfl (fun c2 => ?_)
  refine r_iconst C dX1_become_9 ?_
  refine r_bipush C dX1_become_10 rfl ?_
  obtain ⟨q3, hf⟩ := ac_s hf
  refine r_acopy C (t := 100) dX1_become_12 q3 rfl (by decide) (by decide) w_1359 wa1 wa2 wa3 ⟨Nat.le_of_ble_eq_true rfl, by decide⟩ rfl ?_
  refine r_aload_n C dX1_become_15 rfl ?_
  obtain ⟨q4, hf⟩ := gf_s hf
  refine r_gf C ct1 (j := 1) (ji := 1) dX1_become_16 q4 rfl rfl (by decide) w_131 rfl (fun c4 => ?_)
  refine r_iconst C dX1_become_19 ?_
  refine r_aload_n C dX1_become_20 rfl ?_
  obtain ⟨q5, hf⟩ := gf_s hf
  refine r_gf C ct1 (j := 1) (ji := 1) dX1_become_21 q5 rfl rfl (by decide) w_131 rfl (fun c5 => ?_)
  refine r_iconst C dX1_become_24 ?_
  refine r_bipush C dX1_become_25 rfl ?_
  obtain ⟨q6, hf⟩ := ac_s hf
  refine r_acopy C (t := 100) dX1_become_27 q6 rfl (by decide) (by decide) w_1359 wa1 wa2 wa3 ⟨Nat.le_of_ble_eq_true rfl, by decide⟩ rfl ?_
  refine r_aload_n C dX1_become_30 rfl ?_
  obtain ⟨q7, hf⟩ := gf_s hf
  refine r_gf C ct1 (j := 2) (ji := 2) dX1_become_31 q7 rfl rfl (by decide) w_134 rfl (fun c7 => ?_)
  refine r_iconst C dX1_become_34 ?_
  refine r_aload_n C dX1_become_35 rfl ?_
  obtain ⟨q8, hf⟩ := gf_s hf
  refine r_gf C ct1 (j := 2) (ji := 2) dX1_become_36 q8 rfl rfl (by decide) w_134 rfl (fun c8 => ?_)
  refine r_iconst C dX1_become_39 ?_
  refine r_bipush C dX1_become_40 rfl ?_
  obtain ⟨q9, hf⟩ := ac_s hf
  refine r_acopy C (t := 100) dX1_become_42 q9 rfl (by decide) (by decide) w_1359 wa1 wa2 wa3 ⟨Nat.le_of_ble_eq_true rfl, by decide⟩ rfl ?_
  refine r_aload_n C dX1_become_45 rfl ?_
  obtain ⟨q10, hf⟩ := gf_s hf
  refine r_gf C ct1 (j := 3) (ji := 3) dX1_become_46 q10 rfl rfl (by decide) w_136 rfl (fun c10 => ?_)
  refine r_iconst C dX1_become_49 ?_
  refine r_aload_n C dX1_become_50 rfl ?_
  obtain ⟨q11, hf⟩ := gf_s hf
  refine r_gf C ct1 (j := 3) (ji := 3) dX1_become_51 q11 rfl rfl (by decide) w_136 rfl (fun c11 => ?_)
  refine r_iconst C dX1_become_54 ?_
  refine r_bipush C dX1_become_55 rfl ?_
  obtain ⟨q12, hf⟩ := ac_s hf
  refine r_acopy C (t := 100) dX1_become_57 q12 rfl (by decide) (by decide) w_1359 wa1 wa2 wa3 ⟨Nat.le_of_ble_eq_true rfl, by decide⟩ rfl ?_
  refine r_aload_n C dX1_become_60 rfl ?_
  obtain ⟨q13, hf⟩ := gf_s hf
  refine r_gf C ct1 (j := 4) (ji := 4) dX1_become_61 q13 rfl rfl (by decide) w_139 rfl (fun c13 => ?_)
  refine r_iconst C dX1_become_64 ?_
  refine r_aload_n C dX1_become_65 rfl ?_
  obtain ⟨q14, hf⟩ := gf_s hf
  refine r_gf C ct1 (j := 4) (ji := 4) dX1_become_66 q14 rfl rfl (by decide) w_139 rfl (fun c14 => ?_)
  refine r_iconst C dX1_become_69 ?_
  refine r_bipush C dX1_become_70 rfl ?_
  obtain ⟨q15, hf⟩ := ac_s hf
  refine r_acopy C (t := 100) dX1_become_72 q15 rfl (by decide) (by decide) w_1359 wa1 wa2 wa3 ⟨Nat.le_of_ble_eq_true rfl, by decide⟩ rfl ?_
  refine r_aload_n C dX1_become_75 rfl ?_
  refine r_aload_n C dX1_become_76 rfl ?_
  obtain ⟨q16, hf⟩ := gf_s hf
  refine r_gf C ct1 (j := 5) (ji := 5) dX1_become_77 q16 rfl rfl (by decide) w_141 rfl (fun c16 => ?_)
  have c16 : in32 _ := c16
  obtain ⟨q17, hf⟩ := pf_s hf
  refine r_pf C ct1 (j := 5) (ji := 5) dX1_become_80 q17 rfl rfl (by decide) w_141 rfl (Or.inl rfl) nar_int c16 ?_
  cases hf
  exact r_vret C hr dX1_become_83
set_option maxRecDepth 20000 in
theorem am_X1_become (l : Launch) (n : Nat) : AM l yX1_become cX1_become 2 none 1 60 [2, 2] 3 (un2 (f_X1_become n)) := by
  refine AM.intro (by decide) (fun xs hx => ?_) (fun g xs h Z hl C hr hx hf => ?_)
  · obtain ⟨a0, a1, rfl, c0, c1⟩ := canL_2 hx
    exact Nat.le_of_ble_eq_true rfl
  · obtain ⟨a0, a1, rfl, c0, c1⟩ := canL_2 hx
    have hf := (un2_e _ a0 a1 _).symm.trans hf
    exact e_X1_become (n := n) C hr c0 c1 hf
/-! LinesPromised$Papers.become(LLinesPromised$Papers;)V -/
theorem dX5_become_0 : decode cX5_become 0 = .ok (.iconst 0, 1) := by decide +kernel
theorem dX5_become_1 : decode cX5_become 1 = .ok (.istore_n 2, 1) := by decide +kernel
theorem dX5_become_2 : decode cX5_become 2 = .ok (.iload_n 2, 1) := by decide +kernel
theorem dX5_become_3 : decode cX5_become 3 = .ok (.bipush 60, 2) := by decide +kernel
theorem dX5_become_5 : decode cX5_become 5 = .ok (.if_icmp .ge 21, 3) := by decide +kernel
theorem dX5_become_8 : decode cX5_become 8 = .ok (.aload_n 0, 1) := by decide +kernel
theorem dX5_become_9 : decode cX5_become 9 = .ok (.getfield 11, 3) := by decide +kernel
theorem dX5_become_12 : decode cX5_become 12 = .ok (.iload_n 2, 1) := by decide +kernel
theorem dX5_become_13 : decode cX5_become 13 = .ok (.aload_n 1, 1) := by decide +kernel
theorem dX5_become_14 : decode cX5_become 14 = .ok (.getfield 11, 3) := by decide +kernel
theorem dX5_become_17 : decode cX5_become 17 = .ok (.iload_n 2, 1) := by decide +kernel
theorem dX5_become_18 : decode cX5_become 18 = .ok (.aaload, 1) := by decide +kernel
theorem dX5_become_19 : decode cX5_become 19 = .ok (.aastore, 1) := by decide +kernel
theorem dX5_become_20 : decode cX5_become 20 = .ok (.iinc 2 1, 3) := by decide +kernel
theorem dX5_become_23 : decode cX5_become 23 = .ok (.goto (-21), 3) := by decide +kernel
theorem dX5_become_26 : decode cX5_become 26 = .ok (.aload_n 1, 1) := by decide +kernel
theorem dX5_become_27 : decode cX5_become 27 = .ok (.getfield 17, 3) := by decide +kernel
theorem dX5_become_30 : decode cX5_become 30 = .ok (.iconst 0, 1) := by decide +kernel
theorem dX5_become_31 : decode cX5_become 31 = .ok (.aload_n 0, 1) := by decide +kernel
theorem dX5_become_32 : decode cX5_become 32 = .ok (.getfield 17, 3) := by decide +kernel
theorem dX5_become_35 : decode cX5_become 35 = .ok (.iconst 0, 1) := by decide +kernel
theorem dX5_become_36 : decode cX5_become 36 = .ok (.bipush 60, 2) := by decide +kernel
theorem dX5_become_38 : decode cX5_become 38 = .ok (.invokestatic 34, 3) := by decide +kernel
theorem dX5_become_41 : decode cX5_become 41 = .ok (.aload_n 1, 1) := by decide +kernel
theorem dX5_become_42 : decode cX5_become 42 = .ok (.getfield 21, 3) := by decide +kernel
theorem dX5_become_45 : decode cX5_become 45 = .ok (.iconst 0, 1) := by decide +kernel
theorem dX5_become_46 : decode cX5_become 46 = .ok (.aload_n 0, 1) := by decide +kernel
theorem dX5_become_47 : decode cX5_become 47 = .ok (.getfield 21, 3) := by decide +kernel
theorem dX5_become_50 : decode cX5_become 50 = .ok (.iconst 0, 1) := by decide +kernel
theorem dX5_become_51 : decode cX5_become 51 = .ok (.bipush 60, 2) := by decide +kernel
theorem dX5_become_53 : decode cX5_become 53 = .ok (.invokestatic 34, 3) := by decide +kernel
theorem dX5_become_56 : decode cX5_become 56 = .ok (.aload_n 1, 1) := by decide +kernel
theorem dX5_become_57 : decode cX5_become 57 = .ok (.getfield 25, 3) := by decide +kernel
theorem dX5_become_60 : decode cX5_become 60 = .ok (.iconst 0, 1) := by decide +kernel
theorem dX5_become_61 : decode cX5_become 61 = .ok (.aload_n 0, 1) := by decide +kernel
theorem dX5_become_62 : decode cX5_become 62 = .ok (.getfield 25, 3) := by decide +kernel
theorem dX5_become_65 : decode cX5_become 65 = .ok (.iconst 0, 1) := by decide +kernel
theorem dX5_become_66 : decode cX5_become 66 = .ok (.bipush 60, 2) := by decide +kernel
theorem dX5_become_68 : decode cX5_become 68 = .ok (.invokestatic 34, 3) := by decide +kernel
theorem dX5_become_71 : decode cX5_become 71 = .ok (.aload_n 1, 1) := by decide +kernel
theorem dX5_become_72 : decode cX5_become 72 = .ok (.getfield 28, 3) := by decide +kernel
theorem dX5_become_75 : decode cX5_become 75 = .ok (.iconst 0, 1) := by decide +kernel
theorem dX5_become_76 : decode cX5_become 76 = .ok (.aload_n 0, 1) := by decide +kernel
theorem dX5_become_77 : decode cX5_become 77 = .ok (.getfield 28, 3) := by decide +kernel
theorem dX5_become_80 : decode cX5_become 80 = .ok (.iconst 0, 1) := by decide +kernel
theorem dX5_become_81 : decode cX5_become 81 = .ok (.bipush 60, 2) := by decide +kernel
theorem dX5_become_83 : decode cX5_become 83 = .ok (.invokestatic 34, 3) := by decide +kernel
theorem dX5_become_86 : decode cX5_become 86 = .ok (.aload_n 1, 1) := by decide +kernel
theorem dX5_become_87 : decode cX5_become 87 = .ok (.getfield 31, 3) := by decide +kernel
theorem dX5_become_90 : decode cX5_become 90 = .ok (.iconst 0, 1) := by decide +kernel
theorem dX5_become_91 : decode cX5_become 91 = .ok (.aload_n 0, 1) := by decide +kernel
theorem dX5_become_92 : decode cX5_become 92 = .ok (.getfield 31, 3) := by decide +kernel
theorem dX5_become_95 : decode cX5_become 95 = .ok (.iconst 0, 1) := by decide +kernel
theorem dX5_become_96 : decode cX5_become 96 = .ok (.bipush 60, 2) := by decide +kernel
theorem dX5_become_98 : decode cX5_become 98 = .ok (.invokestatic 34, 3) := by decide +kernel
theorem dX5_become_101 : decode cX5_become 101 = .ok (.aload_n 0, 1) := by decide +kernel
theorem dX5_become_102 : decode cX5_become 102 = .ok (.aload_n 1, 1) := by decide +kernel
theorem dX5_become_103 : decode cX5_become 103 = .ok (.getfield 40, 3) := by decide +kernel
theorem dX5_become_106 : decode cX5_become 106 = .ok (.putfield 40, 3) := by decide +kernel
theorem dX5_become_109 : decode cX5_become 109 = .ok (.aload_n 0, 1) := by decide +kernel
theorem dX5_become_110 : decode cX5_become 110 = .ok (.aload_n 1, 1) := by decide +kernel
theorem dX5_become_111 : decode cX5_become 111 = .ok (.getfield 44, 3) := by decide +kernel
theorem dX5_become_114 : decode cX5_become 114 = .ok (.putfield 44, 3) := by decide +kernel
theorem dX5_become_117 : decode cX5_become 117 = .ok (.aload_n 0, 1) := by decide +kernel
theorem dX5_become_118 : decode cX5_become 118 = .ok (.aload_n 1, 1) := by decide +kernel
theorem dX5_become_119 : decode cX5_become 119 = .ok (.getfield 48, 3) := by decide +kernel
theorem dX5_become_122 : decode cX5_become 122 = .ok (.putfield 48, 3) := by decide +kernel
theorem dX5_become_125 : decode cX5_become 125 = .ok (.aload_n 0, 1) := by decide +kernel
theorem dX5_become_126 : decode cX5_become 126 = .ok (.aload_n 1, 1) := by decide +kernel
theorem dX5_become_127 : decode cX5_become 127 = .ok (.getfield 51, 3) := by decide +kernel
theorem dX5_become_130 : decode cX5_become 130 = .ok (.putfield 51, 3) := by decide +kernel
theorem dX5_become_133 : decode cX5_become 133 = .ok (.return_, 1) := by decide +kernel
theorem cm_X5_become : CM yX5_become cX5_become 3 none 1 5 := ⟨w_1361, w_1362, w_1363, w_90, ⟨by decide +kernel, by decide +kernel, by decide +kernel⟩, ⟨_, _, rfl⟩, by decide⟩
noncomputable def f_X5_become_2b (n : Nat) (rec2 : Int → MM → RR) (v0 v1 v2 : Int) (h : MM) : RR :=
  if 60 ≤ v2 then
    gf h v1 5 1 fun r2 =>
    gf h v0 5 1 fun r3 =>
    ac h 101 r2 0 r3 0 60 fun h4 =>
    gf h4 v1 5 2 fun r5 =>
    gf h4 v0 5 2 fun r6 =>
    ac h4 100 r5 0 r6 0 60 fun h7 =>
    gf h7 v1 5 3 fun r8 =>
    gf h7 v0 5 3 fun r9 =>
    ac h7 100 r8 0 r9 0 60 fun h10 =>
    gf h10 v1 5 4 fun r11 =>
    gf h10 v0 5 4 fun r12 =>
    ac h10 100 r11 0 r12 0 60 fun h13 =>
    gf h13 v1 5 5 fun r14 =>
    gf h13 v0 5 5 fun r15 =>
    ac h13 100 r14 0 r15 0 60 fun h16 =>
    gf h16 v1 5 6 fun r17 =>
    pf h16 v0 5 6 r17 fun h18 =>
    gf h18 v1 5 7 fun r19 =>
    pf h18 v0 5 7 r19 fun h20 =>
    gf h20 v1 5 8 fun r21 =>
    pf h20 v0 5 8 r21 fun h22 =>
    gf h22 v1 5 9 fun r23 =>
    pf h22 v0 5 9 r23 fun h24 =>
    some (0, h24)
  else
  gf h v0 5 0 fun r25 =>
  gf h v1 5 0 fun r26 =>
  rd h r26 105 v2 fun r27 =>
  gkz h r27 4 <|
  wt h r25 105 v2 r27 fun h28 =>
  lb (wr (v2 + 1)) fun x29 =>
  rec2 x29 h28
noncomputable def f_X5_become_2 (n : Nat)  (v0 v1 : Int) : Nat → Int → MM → RR
  | 0, _, _ => none
  | k + 1, v2, h => f_X5_become_2b n  (f_X5_become_2 n  v0 v1 k) v0 v1 v2 h
noncomputable def f_X5_become (n : Nat) (v0 v1 : Int) (h : MM) : RR :=
  f_X5_become_2 n v0 v1 n 0 h
set_option maxRecDepth 20000 in
theorem b_X5_become_2b {g : GT} {Z : Int × MM} {n : Nat} (C : Cx g cX5_become 3 yX5_become 1 60) (hr : Rt g none 3 Z) {v0 v1 v2 : Int}  {rec2 : Int → MM → RR} (L2 : ∀ (u2 : Int) (h : MM), in32 u2 → rec2 u2 h = some Z → G g 2 [(2, v0), (2, v1), (0, u2)] [] h) (cv2 : in32 v2) {h : MM} (hf : f_X5_become_2b n rec2 v0 v1 v2 h = some Z) : G g 2 [(2, v0), (2, v1), (0, v2)] [] h := by
  unfold f_X5_become_2b at hf
  refine r_iload_n C dX5_become_2 rfl ?_
  refine r_bipush C dX5_become_3 rfl ?_
  refine r_icmp_ge C dX5_become_5 (tgt := 26) (by decide) cv2 (in32_of rfl) (fun n1 => ?_) (fun n1 => ?_)
  · have hf := ite_p n1 hf
    refine r_aload_n C dX5_become_26 rfl ?_
    obtain ⟨q2, hf⟩ := gf_s hf
    refine r_gf C ct5 (j := 1) (ji := 1) dX5_become_27 q2 rfl rfl (by decide) w_166 rfl (fun c2 => ?_)
    refine r_iconst C dX5_become_30 ?_
    refine r_aload_n C dX5_become_31 rfl ?_
    obtain ⟨q3, hf⟩ := gf_s hf
    refine r_gf C ct5 (j := 1) (ji := 1) dX5_become_32 q3 rfl rfl (by decide) w_166 rfl (fun c3 => ?_)
    refine r_iconst C dX5_become_35 ?_
    refine r_bipush C dX5_become_36 rfl ?_
    obtain ⟨q4, hf⟩ := ac_s hf
    refine r_acopy C (t := 101) dX5_become_38 q4 rfl (by decide) (by decide) w_1364 wa1 wa2 wa3 ⟨Nat.le_of_ble_eq_true rfl, by decide⟩ rfl ?_
    refine r_aload_n C dX5_become_41 rfl ?_
    obtain ⟨q5, hf⟩ := gf_s hf
    refine r_gf C ct5 (j := 2) (ji := 2) dX5_become_42 q5 rfl rfl (by decide) w_168 rfl (fun c5 => ?_)
    refine r_iconst C dX5_become_45 ?_
    refine r_aload_n C dX5_become_46 rfl ?_
    obtain ⟨q6, hf⟩ := gf_s hf
    refine r_gf C ct5 (j := 2) (ji := 2) dX5_become_47 q6 rfl rfl (by decide) w_168 rfl (fun c6 => ?_)
    refine r_iconst C dX5_become_50 ?_
    refine r_bipush C dX5_become_51 rfl ?_
    obtain ⟨q7, hf⟩ := ac_s hf
    refine r_acopy C (t := 100) dX5_become_53 q7 rfl (by decide) (by decide) w_1364 wa1 wa2 wa3 ⟨Nat.le_of_ble_eq_true rfl, by decide⟩ rfl ?_
    refine r_aload_n C dX5_become_56 rfl ?_
    obtain ⟨q8, hf⟩ := gf_s hf
    refine r_gf C ct5 (j := 3) (ji := 3) dX5_become_57 q8 rfl rfl (by decide) w_171 rfl (fun c8 => ?_)
    refine r_iconst C dX5_become_60 ?_
    refine r_aload_n C dX5_become_61 rfl ?_
    obtain ⟨q9, hf⟩ := gf_s hf
    refine r_gf C ct5 (j := 3) (ji := 3) dX5_become_62 q9 rfl rfl (by decide) w_171 rfl (fun c9 => ?_)
    refine r_iconst C dX5_become_65 ?_
    refine r_bipush C dX5_become_66 rfl ?_
    obtain ⟨q10, hf⟩ := ac_s hf
    refine r_acopy C (t := 100) dX5_become_68 q10 rfl (by decide) (by decide) w_1364 wa1 wa2 wa3 ⟨Nat.le_of_ble_eq_true rfl, by decide⟩ rfl ?_
    refine r_aload_n C dX5_become_71 rfl ?_
    obtain ⟨q11, hf⟩ := gf_s hf
    refine r_gf C ct5 (j := 4) (ji := 4) dX5_become_72 q11 rfl rfl (by decide) w_174 rfl (fun c11 => ?_)
    refine r_iconst C dX5_become_75 ?_
    refine r_aload_n C dX5_become_76 rfl ?_
    obtain ⟨q12, hf⟩ := gf_s hf
    refine r_gf C ct5 (j := 4) (ji := 4) dX5_become_77 q12 rfl rfl (by decide) w_174 rfl (fun c12 => ?_)
    refine r_iconst C dX5_become_80 ?_
    refine r_bipush C dX5_become_81 rfl ?_
    obtain ⟨q13, hf⟩ := ac_s hf
    refine r_acopy C (t := 100) dX5_become_83 q13 rfl (by decide) (by decide) w_1364 wa1 wa2 wa3 ⟨Nat.le_of_ble_eq_true rfl, by decide⟩ rfl ?_
    refine r_aload_n C dX5_become_86 rfl ?_
    obtain ⟨q14, hf⟩ := gf_s hf
    refine r_gf C ct5 (j := 5) (ji := 5) dX5_become_87 q14 rfl rfl (by decide) w_175 rfl (fun c14 => ?_)
    refine r_iconst C dX5_become_90 ?_
    refine r_aload_n C dX5_become_91 rfl ?_
    obtain ⟨q15, hf⟩ := gf_s hf
    refine r_gf C ct5 (j := 5) (ji := 5) dX5_become_92 q15 rfl rfl (by decide) w_175 rfl (fun c15 => ?_)
    refine r_iconst C dX5_become_95 ?_
    refine r_bipush C dX5_become_96 rfl ?_
    obtain ⟨q16, hf⟩ := ac_s hf
    refine r_acopy C (t := 100) dX5_become_98 q16 rfl (by decide) (by decide) w_1364 wa1 wa2 wa3 ⟨Nat.le_of_ble_eq_true rfl, by decide⟩ rfl ?_
    refine r_aload_n C dX5_become_101 rfl ?_
    refine r_aload_n C dX5_become_102 rfl ?_
    obtain ⟨q17, hf⟩ := gf_s hf
    refine r_gf C ct5 (j := 6) (ji := 6) dX5_become_103 q17 rfl rfl (by decide) w_176 rfl (fun c17 => ?_)
    have c17 : in64 _ := c17
    obtain ⟨q18, hf⟩ := pf_s hf
    refine r_pf C ct5 (j := 6) (ji := 6) dX5_become_106 q18 rfl rfl (by decide) w_176 rfl (Or.inl rfl) nar_long c17 ?_
    refine r_aload_n C dX5_become_109 rfl ?_
    refine r_aload_n C dX5_become_110 rfl ?_
    obtain ⟨q19, hf⟩ := gf_s hf
    refine r_gf C ct5 (j := 7) (ji := 7) dX5_become_111 q19 rfl rfl (by decide) w_177 rfl (fun c19 => ?_)
    have c19 : in32 _ := c19
    obtain ⟨q20, hf⟩ := pf_s hf
    refine r_pf C ct5 (j := 7) (ji := 7) dX5_become_114 q20 rfl rfl (by decide) w_177 rfl (Or.inl rfl) nar_int c19 ?_
    refine r_aload_n C dX5_become_117 rfl ?_
    refine r_aload_n C dX5_become_118 rfl ?_
    obtain ⟨q21, hf⟩ := gf_s hf
    refine r_gf C ct5 (j := 8) (ji := 8) dX5_become_119 q21 rfl rfl (by decide) w_182 rfl (fun c21 => ?_)
    have c21 : in32 _ := c21
    obtain ⟨q22, hf⟩ := pf_s hf
    refine r_pf C ct5 (j := 8) (ji := 8) dX5_become_122 q22 rfl rfl (by decide) w_182 rfl (Or.inl rfl) nar_int c21 ?_
    refine r_aload_n C dX5_become_125 rfl ?_
    refine r_aload_n C dX5_become_126 rfl ?_
    obtain ⟨q23, hf⟩ := gf_s hf
    refine r_gf C ct5 (j := 9) (ji := 9) dX5_become_127 q23 rfl rfl (by decide) w_184 rfl (fun c23 => ?_)
    have c23 : in32 _ := c23
    obtain ⟨q24, hf⟩ := pf_s hf
    refine r_pf C ct5 (j := 9) (ji := 9) dX5_become_130 q24 rfl rfl (by decide) w_184 rfl (Or.inl rfl) nar_int c23 ?_
    cases hf
    exact r_vret C hr dX5_become_133
  · have hf := ite_n n1 hf
    refine r_aload_n C dX5_become_8 rfl ?_
    obtain ⟨q25, hf⟩ := gf_s hf
    refine r_gf C ct5 (j := 0) (ji := 0) dX5_become_9 q25 rfl rfl (by decide) w_165 rfl (fun c25 => ?_)
    refine r_iload_n C dX5_become_12 rfl ?_
    refine r_aload_n C dX5_become_13 rfl ?_
    obtain ⟨q26, hf⟩ := gf_s hf
    refine r_gf C ct5 (j := 0) (ji := 0) dX5_become_14 q26 rfl rfl (by decide) w_165 rfl (fun c26 => ?_)
    refine r_iload_n C dX5_become_17 rfl ?_
    obtain ⟨q27, hf⟩ := rd_s hf
    refine r_aald C dX5_become_18 q27 (tn := 105) rfl (by decide) ?_
    obtain ⟨p28, hf⟩ := gkz_s hf
    obtain ⟨q28, hf⟩ := wt_s hf
    refine r_aastZ C (tn := 105) (tc := 4) dX5_become_19 q28 rfl (by decide) (by decide) p28 rfl ⟨_, _, rfl⟩ (by decide) ?_
    obtain ⟨x29, e29, hf⟩ := lb_s hf
    have c29 : in32 x29 := by rw [e29]; exact (in32_t _)
    refine r_iincL C dX5_become_20 rfl e29 (Nat.le_of_ble_eq_true rfl) rfl ?_
    refine r_goto C dX5_become_23 (tgt := 2) (by decide) ?_
    exact G.mask [true, true, true] rfl rfl (L2 _ _ c29 hf)
set_option maxRecDepth 20000 in
theorem l_X5_become_2 {g : GT} {Z : Int × MM} {n : Nat} (C : Cx g cX5_become 3 yX5_become 1 60) (hr : Rt g none 3 Z) {v0 v1 : Int}    : ∀ (k : Nat) (v2 : Int) (h : MM), in32 v2 → f_X5_become_2 n  v0 v1 k v2 h = some Z → G g 2 [(2, v0), (2, v1), (0, v2)] [] h := by
  intro k
  induction k with
  | zero => intro v2 h cv2 hf; exact absurd hf (by intro z; cases z)
  | succ k ih => intro v2 h cv2 hf; exact b_X5_become_2b C hr (rec2 := f_X5_become_2 n  v0 v1 k)  ih cv2 (show f_X5_become_2b n  (f_X5_become_2 n  v0 v1 k) v0 v1 v2 h = some Z from hf)
set_option maxRecDepth 20000 in
theorem e_X5_become {g : GT} {Z : Int × MM} {n : Nat} (C : Cx g cX5_become 3 yX5_become 1 60) (hr : Rt g none 3 Z) {v0 v1 : Int} (cv0 : cK 2 v0) (cv1 : cK 2 v1) {h : MM} (hf : f_X5_become n v0 v1 h = some Z) : G g 0 [(2, v0), (2, v1), (3, 0)] [] h := by
  unfold f_X5_become at hf
  refine r_iconst C dX5_become_0 ?_
  refine r_istore_n C dX5_become_1 (Nat.le_of_ble_eq_true rfl) rfl ?_
  exact G.mask [true, true, true] rfl rfl (l_X5_become_2 C hr   _ _ _ (in32_of rfl) hf)
set_option maxRecDepth 20000 in
theorem am_X5_become (l : Launch) (n : Nat) : AM l yX5_become cX5_become 3 none 1 60 [2, 2] 3 (un2 (f_X5_become n)) := by
  refine AM.intro (by decide) (fun xs hx => ?_) (fun g xs h Z hl C hr hx hf => ?_)
  · obtain ⟨a0, a1, rfl, c0, c1⟩ := canL_2 hx
    exact Nat.le_of_ble_eq_true rfl
  · obtain ⟨a0, a1, rfl, c0, c1⟩ := canL_2 hx
    have hf := (un2_e _ a0 a1 _).symm.trans hf
    exact e_X5_become (n := n) C hr c0 c1 hf
/-! LinesPromised$Scrip.become(LLinesPromised$Scrip;)V -/
theorem dX8_become_0 : decode cX8_become 0 = .ok (.aload_n 1, 1) := by decide +kernel
theorem dX8_become_1 : decode cX8_become 1 = .ok (.getfield 9, 3) := by decide +kernel
theorem dX8_become_4 : decode cX8_become 4 = .ok (.iconst 0, 1) := by decide +kernel
theorem dX8_become_5 : decode cX8_become 5 = .ok (.aload_n 0, 1) := by decide +kernel
theorem dX8_become_6 : decode cX8_become 6 = .ok (.getfield 9, 3) := by decide +kernel
theorem dX8_become_9 : decode cX8_become 9 = .ok (.iconst 0, 1) := by decide +kernel
theorem dX8_become_10 : decode cX8_become 10 = .ok (.aload_n 0, 1) := by decide +kernel
theorem dX8_become_11 : decode cX8_become 11 = .ok (.getfield 9, 3) := by decide +kernel
theorem dX8_become_14 : decode cX8_become 14 = .ok (.arraylength, 1) := by decide +kernel
theorem dX8_become_15 : decode cX8_become 15 = .ok (.invokestatic 36, 3) := by decide +kernel
theorem dX8_become_18 : decode cX8_become 18 = .ok (.aload_n 1, 1) := by decide +kernel
theorem dX8_become_19 : decode cX8_become 19 = .ok (.getfield 15, 3) := by decide +kernel
theorem dX8_become_22 : decode cX8_become 22 = .ok (.iconst 0, 1) := by decide +kernel
theorem dX8_become_23 : decode cX8_become 23 = .ok (.aload_n 0, 1) := by decide +kernel
theorem dX8_become_24 : decode cX8_become 24 = .ok (.getfield 15, 3) := by decide +kernel
theorem dX8_become_27 : decode cX8_become 27 = .ok (.iconst 0, 1) := by decide +kernel
theorem dX8_become_28 : decode cX8_become 28 = .ok (.aload_n 0, 1) := by decide +kernel
theorem dX8_become_29 : decode cX8_become 29 = .ok (.getfield 15, 3) := by decide +kernel
theorem dX8_become_32 : decode cX8_become 32 = .ok (.arraylength, 1) := by decide +kernel
theorem dX8_become_33 : decode cX8_become 33 = .ok (.invokestatic 36, 3) := by decide +kernel
theorem dX8_become_36 : decode cX8_become 36 = .ok (.aload_n 1, 1) := by decide +kernel
theorem dX8_become_37 : decode cX8_become 37 = .ok (.getfield 18, 3) := by decide +kernel
theorem dX8_become_40 : decode cX8_become 40 = .ok (.iconst 0, 1) := by decide +kernel
theorem dX8_become_41 : decode cX8_become 41 = .ok (.aload_n 0, 1) := by decide +kernel
theorem dX8_become_42 : decode cX8_become 42 = .ok (.getfield 18, 3) := by decide +kernel
theorem dX8_become_45 : decode cX8_become 45 = .ok (.iconst 0, 1) := by decide +kernel
theorem dX8_become_46 : decode cX8_become 46 = .ok (.bipush 12, 2) := by decide +kernel
theorem dX8_become_48 : decode cX8_become 48 = .ok (.invokestatic 36, 3) := by decide +kernel
theorem dX8_become_51 : decode cX8_become 51 = .ok (.aload_n 1, 1) := by decide +kernel
theorem dX8_become_52 : decode cX8_become 52 = .ok (.getfield 21, 3) := by decide +kernel
theorem dX8_become_55 : decode cX8_become 55 = .ok (.iconst 0, 1) := by decide +kernel
theorem dX8_become_56 : decode cX8_become 56 = .ok (.aload_n 0, 1) := by decide +kernel
theorem dX8_become_57 : decode cX8_become 57 = .ok (.getfield 21, 3) := by decide +kernel
theorem dX8_become_60 : decode cX8_become 60 = .ok (.iconst 0, 1) := by decide +kernel
theorem dX8_become_61 : decode cX8_become 61 = .ok (.bipush 40, 2) := by decide +kernel
theorem dX8_become_63 : decode cX8_become 63 = .ok (.invokestatic 36, 3) := by decide +kernel
theorem dX8_become_66 : decode cX8_become 66 = .ok (.aload_n 1, 1) := by decide +kernel
theorem dX8_become_67 : decode cX8_become 67 = .ok (.getfield 24, 3) := by decide +kernel
theorem dX8_become_70 : decode cX8_become 70 = .ok (.iconst 0, 1) := by decide +kernel
theorem dX8_become_71 : decode cX8_become 71 = .ok (.aload_n 0, 1) := by decide +kernel
theorem dX8_become_72 : decode cX8_become 72 = .ok (.getfield 24, 3) := by decide +kernel
theorem dX8_become_75 : decode cX8_become 75 = .ok (.iconst 0, 1) := by decide +kernel
theorem dX8_become_76 : decode cX8_become 76 = .ok (.bipush 40, 2) := by decide +kernel
theorem dX8_become_78 : decode cX8_become 78 = .ok (.invokestatic 36, 3) := by decide +kernel
theorem dX8_become_81 : decode cX8_become 81 = .ok (.aload_n 1, 1) := by decide +kernel
theorem dX8_become_82 : decode cX8_become 82 = .ok (.getfield 27, 3) := by decide +kernel
theorem dX8_become_85 : decode cX8_become 85 = .ok (.iconst 0, 1) := by decide +kernel
theorem dX8_become_86 : decode cX8_become 86 = .ok (.aload_n 0, 1) := by decide +kernel
theorem dX8_become_87 : decode cX8_become 87 = .ok (.getfield 27, 3) := by decide +kernel
theorem dX8_become_90 : decode cX8_become 90 = .ok (.iconst 0, 1) := by decide +kernel
theorem dX8_become_91 : decode cX8_become 91 = .ok (.bipush 40, 2) := by decide +kernel
theorem dX8_become_93 : decode cX8_become 93 = .ok (.invokestatic 36, 3) := by decide +kernel
theorem dX8_become_96 : decode cX8_become 96 = .ok (.aload_n 1, 1) := by decide +kernel
theorem dX8_become_97 : decode cX8_become 97 = .ok (.getfield 30, 3) := by decide +kernel
theorem dX8_become_100 : decode cX8_become 100 = .ok (.iconst 0, 1) := by decide +kernel
theorem dX8_become_101 : decode cX8_become 101 = .ok (.aload_n 0, 1) := by decide +kernel
theorem dX8_become_102 : decode cX8_become 102 = .ok (.getfield 30, 3) := by decide +kernel
theorem dX8_become_105 : decode cX8_become 105 = .ok (.iconst 0, 1) := by decide +kernel
theorem dX8_become_106 : decode cX8_become 106 = .ok (.bipush 40, 2) := by decide +kernel
theorem dX8_become_108 : decode cX8_become 108 = .ok (.invokestatic 36, 3) := by decide +kernel
theorem dX8_become_111 : decode cX8_become 111 = .ok (.aload_n 1, 1) := by decide +kernel
theorem dX8_become_112 : decode cX8_become 112 = .ok (.getfield 33, 3) := by decide +kernel
theorem dX8_become_115 : decode cX8_become 115 = .ok (.iconst 0, 1) := by decide +kernel
theorem dX8_become_116 : decode cX8_become 116 = .ok (.aload_n 0, 1) := by decide +kernel
theorem dX8_become_117 : decode cX8_become 117 = .ok (.getfield 33, 3) := by decide +kernel
theorem dX8_become_120 : decode cX8_become 120 = .ok (.iconst 0, 1) := by decide +kernel
theorem dX8_become_121 : decode cX8_become 121 = .ok (.bipush 40, 2) := by decide +kernel
theorem dX8_become_123 : decode cX8_become 123 = .ok (.invokestatic 36, 3) := by decide +kernel
theorem dX8_become_126 : decode cX8_become 126 = .ok (.aload_n 0, 1) := by decide +kernel
theorem dX8_become_127 : decode cX8_become 127 = .ok (.aload_n 1, 1) := by decide +kernel
theorem dX8_become_128 : decode cX8_become 128 = .ok (.getfield 42, 3) := by decide +kernel
theorem dX8_become_131 : decode cX8_become 131 = .ok (.putfield 42, 3) := by decide +kernel
theorem dX8_become_134 : decode cX8_become 134 = .ok (.return_, 1) := by decide +kernel
theorem cm_X8_become : CM yX8_become cX8_become 2 none 1 8 := ⟨w_1366, w_1367, w_1368, w_91, ⟨by decide +kernel, by decide +kernel, by decide +kernel⟩, ⟨_, _, rfl⟩, by decide⟩
noncomputable def f_X8_become (n : Nat) (v0 v1 : Int) (h : MM) : RR :=
  gf h v1 8 0 fun r1 =>
  gf h v0 8 0 fun r2 =>
  gf h v0 8 0 fun r3 =>
  al h r3 100 fun r4 =>
  ac h 100 r1 0 r2 0 r4 fun h5 =>
  gf h5 v1 8 1 fun r6 =>
  gf h5 v0 8 1 fun r7 =>
  gf h5 v0 8 1 fun r8 =>
  al h5 r8 100 fun r9 =>
  ac h5 100 r6 0 r7 0 r9 fun h10 =>
  gf h10 v1 8 2 fun r11 =>
  gf h10 v0 8 2 fun r12 =>
  ac h10 100 r11 0 r12 0 12 fun h13 =>
  gf h13 v1 8 3 fun r14 =>
  gf h13 v0 8 3 fun r15 =>
  ac h13 100 r14 0 r15 0 40 fun h16 =>
  gf h16 v1 8 4 fun r17 =>
  gf h16 v0 8 4 fun r18 =>
  ac h16 100 r17 0 r18 0 40 fun h19 =>
  gf h19 v1 8 5 fun r20 =>
  gf h19 v0 8 5 fun r21 =>
  ac h19 100 r20 0 r21 0 40 fun h22 =>
  gf h22 v1 8 6 fun r23 =>
  gf h22 v0 8 6 fun r24 =>
  ac h22 100 r23 0 r24 0 40 fun h25 =>
  gf h25 v1 8 7 fun r26 =>
  gf h25 v0 8 7 fun r27 =>
  ac h25 100 r26 0 r27 0 40 fun h28 =>
  gf h28 v1 8 8 fun r29 =>
  pf h28 v0 8 8 r29 fun h30 =>
  some (0, h30)
set_option maxRecDepth 20000 in
theorem e_X8_become {g : GT} {Z : Int × MM} {n : Nat} (C : Cx g cX8_become 2 yX8_become 1 60) (hr : Rt g none 3 Z) {v0 v1 : Int} (cv0 : cK 2 v0) (cv1 : cK 2 v1) {h : MM} (hf : f_X8_become n v0 v1 h = some Z) : G g 0 [(2, v0), (2, v1)] [] h := by
  unfold f_X8_become at hf
  refine r_aload_n C dX8_become_0 rfl ?_
  obtain ⟨q1, hf⟩ := gf_s hf
  refine r_gf C ct8 (j := 0) (ji := 0) dX8_become_1 q1 rfl rfl (by decide) w_214 rfl (fun c1 => ?_)
  refine r_iconst C dX8_become_4 ?_
  refine r_aload_n C dX8_become_5 rfl ?_
  obtain ⟨q2, hf⟩ := gf_s hf
  refine r_gf C ct8 (j := 0) (ji := 0) dX8_become_6 q2 rfl rfl (by decide) w_214 rfl (fun c2 => ?_)
  refine r_iconst C dX8_become_9 ?_
  refine r_aload_n C dX8_become_10 rfl ?_
  obtain ⟨q3, hf⟩ := gf_s hf
  refine r_gf C ct8 (j := 0) (ji := 0) dX8_become_11 q3 rfl rfl (by decide) w_214 rfl (fun c3 => ?_)
  obtain ⟨q4, hf⟩ := al_s hf
  refine r_alen C (tn := 100) dX8_become_14 q4 rfl (by decide) (fun c4 _ => ?_)
  obtain ⟨q5, hf⟩ := ac_s hf
  refine r_acopy C (t := 100) dX8_become_15 q5 rfl (by decide) (by decide) w_1369 wa1 wa2 wa3 ⟨Nat.le_of_ble_eq_true rfl, by decide⟩ rfl ?_
  refine r_aload_n C dX8_become_18 rfl ?_
  obtain ⟨q6, hf⟩ := gf_s hf
  refine r_gf C ct8 (j := 1) (ji := 1) dX8_become_19 q6 rfl rfl (by decide) w_218 rfl (fun c6 => ?_)
  refine r_iconst C dX8_become_22 ?_
  refine r_aload_n C dX8_become_23 rfl ?_
  obtain ⟨q7, hf⟩ := gf_s hf
  refine r_gf C ct8 (j := 1) (ji := 1) dX8_become_24 q7 rfl rfl (by decide) w_218 rfl (fun c7 => ?_)
  refine r_iconst C dX8_become_27 ?_
  refine r_aload_n C dX8_become_28 rfl ?_
  obtain ⟨q8, hf⟩ := gf_s hf
  refine r_gf C ct8 (j := 1) (ji := 1) dX8_become_29 q8 rfl rfl (by decide) w_218 rfl (fun c8 => ?_)
  obtain ⟨q9, hf⟩ := al_s hf
  refine r_alen C (tn := 100) dX8_become_32 q9 rfl (by decide) (fun c9 _ => ?_)
  obtain ⟨q10, hf⟩ := ac_s hf
  refine r_acopy C (t := 100) dX8_become_33 q10 rfl (by decide) (by decide) w_1369 wa1 wa2 wa3 ⟨Nat.le_of_ble_eq_true rfl, by decide⟩ rfl ?_
  refine r_aload_n C dX8_become_36 rfl ?_
  obtain ⟨q11, hf⟩ := gf_s hf
  refine r_gf C ct8 (j := 2) (ji := 2) dX8_become_37 q11 rfl rfl (by decide) w_219 rfl (fun c11 => ?_)
  refine r_iconst C dX8_become_40 ?_
  refine r_aload_n C dX8_become_41 rfl ?_
  obtain ⟨q12, hf⟩ := gf_s hf
  refine r_gf C ct8 (j := 2) (ji := 2) dX8_become_42 q12 rfl rfl (by decide) w_219 rfl (fun c12 => ?_)
  refine r_iconst C dX8_become_45 ?_
  refine r_bipush C dX8_become_46 rfl ?_
  obtain ⟨q13, hf⟩ := ac_s hf
  refine r_acopy C (t := 100) dX8_become_48 q13 rfl (by decide) (by decide) w_1369 wa1 wa2 wa3 ⟨Nat.le_of_ble_eq_true rfl, by decide⟩ rfl ?_
  refine r_aload_n C dX8_become_51 rfl ?_
  obtain ⟨q14, hf⟩ := gf_s hf
  refine r_gf C ct8 (j := 3) (ji := 3) dX8_become_52 q14 rfl rfl (by decide) w_221 rfl (fun c14 => ?_)
  refine r_iconst C dX8_become_55 ?_
  refine r_aload_n C dX8_become_56 rfl ?_
  obtain ⟨q15, hf⟩ := gf_s hf
  refine r_gf C ct8 (j := 3) (ji := 3) dX8_become_57 q15 rfl rfl (by decide) w_221 rfl (fun c15 => ?_)
  refine r_iconst C dX8_become_60 ?_
  refine r_bipush C dX8_become_61 rfl ?_
  obtain ⟨q16, hf⟩ := ac_s hf
  refine r_acopy C (t := 100) dX8_become_63 q16 rfl (by decide) (by decide) w_1369 wa1 wa2 wa3 ⟨Nat.le_of_ble_eq_true rfl, by decide⟩ rfl ?_
  refine r_aload_n C dX8_become_66 rfl ?_
  obtain ⟨q17, hf⟩ := gf_s hf
  refine r_gf C ct8 (j := 4) (ji := 4) dX8_become_67 q17 rfl rfl (by decide) w_222 rfl (fun c17 => ?_)
  refine r_iconst C dX8_become_70 ?_
  refine r_aload_n C dX8_become_71 rfl ?_
  obtain ⟨q18, hf⟩ := gf_s hf
  refine r_gf C ct8 (j := 4) (ji := 4) dX8_become_72 q18 rfl rfl (by decide) w_222 rfl (fun c18 => ?_)
  refine r_iconst C dX8_become_75 ?_
  refine r_bipush C dX8_become_76 rfl ?_
  obtain ⟨q19, hf⟩ := ac_s hf
  refine r_acopy C (t := 100) dX8_become_78 q19 rfl (by decide) (by decide) w_1369 wa1 wa2 wa3 ⟨Nat.le_of_ble_eq_true rfl, by decide⟩ rfl ?_
  refine r_aload_n C dX8_become_81 rfl ?_
  obtain ⟨q20, hf⟩ := gf_s hf
  refine r_gf C ct8 (j := 5) (ji := 5) dX8_become_82 q20 rfl rfl (by decide) w_223 rfl (fun c20 => ?_)
  refine r_iconst C dX8_become_85 ?_
  refine r_aload_n C dX8_become_86 rfl ?_
  obtain ⟨q21, hf⟩ := gf_s hf
  refine r_gf C ct8 (j := 5) (ji := 5) dX8_become_87 q21 rfl rfl (by decide) w_223 rfl (fun c21 => ?_)
  refine r_iconst C dX8_become_90 ?_
  refine r_bipush C dX8_become_91 rfl ?_
  obtain ⟨q22, hf⟩ := ac_s hf
  refine r_acopy C (t := 100) dX8_become_93 q22 rfl (by decide) (by decide) w_1369 wa1 wa2 wa3 ⟨Nat.le_of_ble_eq_true rfl, by decide⟩ rfl ?_
  refine r_aload_n C dX8_become_96 rfl ?_
  obtain ⟨q23, hf⟩ := gf_s hf
  refine r_gf C ct8 (j := 6) (ji := 6) dX8_become_97 q23 rfl rfl (by decide) w_224 rfl (fun c23 => ?_)
  refine r_iconst C dX8_become_100 ?_
  refine r_aload_n C dX8_become_101 rfl ?_
  obtain ⟨q24, hf⟩ := gf_s hf
  refine r_gf C ct8 (j := 6) (ji := 6) dX8_become_102 q24 rfl rfl (by decide) w_224 rfl (fun c24 => ?_)
  refine r_iconst C dX8_become_105 ?_
  refine r_bipush C dX8_become_106 rfl ?_
  obtain ⟨q25, hf⟩ := ac_s hf
  refine r_acopy C (t := 100) dX8_become_108 q25 rfl (by decide) (by decide) w_1369 wa1 wa2 wa3 ⟨Nat.le_of_ble_eq_true rfl, by decide⟩ rfl ?_
  refine r_aload_n C dX8_become_111 rfl ?_
  obtain ⟨q26, hf⟩ := gf_s hf
  refine r_gf C ct8 (j := 7) (ji := 7) dX8_become_112 q26 rfl rfl (by decide) w_225 rfl (fun c26 => ?_)
  refine r_iconst C dX8_become_115 ?_
  refine r_aload_n C dX8_become_116 rfl ?_
  obtain ⟨q27, hf⟩ := gf_s hf
  refine r_gf C ct8 (j := 7) (ji := 7) dX8_become_117 q27 rfl rfl (by decide) w_225 rfl (fun c27 => ?_)
  refine r_iconst C dX8_become_120 ?_
  refine r_bipush C dX8_become_121 rfl ?_
  obtain ⟨q28, hf⟩ := ac_s hf
  refine r_acopy C (t := 100) dX8_become_123 q28 rfl (by decide) (by decide) w_1369 wa1 wa2 wa3 ⟨Nat.le_of_ble_eq_true rfl, by decide⟩ rfl ?_
  refine r_aload_n C dX8_become_126 rfl ?_
  refine r_aload_n C dX8_become_127 rfl ?_
  obtain ⟨q29, hf⟩ := gf_s hf
  refine r_gf C ct8 (j := 8) (ji := 8) dX8_become_128 q29 rfl rfl (by decide) w_226 rfl (fun c29 => ?_)
  have c29 : in32 _ := c29
  obtain ⟨q30, hf⟩ := pf_s hf
  refine r_pf C ct8 (j := 8) (ji := 8) dX8_become_131 q30 rfl rfl (by decide) w_226 rfl (Or.inl rfl) nar_int c29 ?_
  cases hf
  exact r_vret C hr dX8_become_134
set_option maxRecDepth 20000 in
theorem am_X8_become (l : Launch) (n : Nat) : AM l yX8_become cX8_become 2 none 1 60 [2, 2] 3 (un2 (f_X8_become n)) := by
  refine AM.intro (by decide) (fun xs hx => ?_) (fun g xs h Z hl C hr hx hf => ?_)
  · obtain ⟨a0, a1, rfl, c0, c1⟩ := canL_2 hx
    exact Nat.le_of_ble_eq_true rfl
  · obtain ⟨a0, a1, rfl, c0, c1⟩ := canL_2 hx
    have hf := (un2_e _ a0 a1 _).symm.trans hf
    exact e_X8_become (n := n) C hr c0 c1 hf
/-! LinesPromised$Press.become(LLinesPromised$Press;)V -/
theorem dX6_become_0 : decode cX6_become 0 = .ok (.aload_n 1, 1) := by decide +kernel
theorem dX6_become_1 : decode cX6_become 1 = .ok (.getfield 9, 3) := by decide +kernel
theorem dX6_become_4 : decode cX6_become 4 = .ok (.iconst 0, 1) := by decide +kernel
theorem dX6_become_5 : decode cX6_become 5 = .ok (.aload_n 0, 1) := by decide +kernel
theorem dX6_become_6 : decode cX6_become 6 = .ok (.getfield 9, 3) := by decide +kernel
theorem dX6_become_9 : decode cX6_become 9 = .ok (.iconst 0, 1) := by decide +kernel
theorem dX6_become_10 : decode cX6_become 10 = .ok (.bipush 7, 2) := by decide +kernel
theorem dX6_become_12 : decode cX6_become 12 = .ok (.invokestatic 24, 3) := by decide +kernel
theorem dX6_become_15 : decode cX6_become 15 = .ok (.aload_n 1, 1) := by decide +kernel
theorem dX6_become_16 : decode cX6_become 16 = .ok (.getfield 15, 3) := by decide +kernel
theorem dX6_become_19 : decode cX6_become 19 = .ok (.iconst 0, 1) := by decide +kernel
theorem dX6_become_20 : decode cX6_become 20 = .ok (.aload_n 0, 1) := by decide +kernel
theorem dX6_become_21 : decode cX6_become 21 = .ok (.getfield 15, 3) := by decide +kernel
theorem dX6_become_24 : decode cX6_become 24 = .ok (.iconst 0, 1) := by decide +kernel
theorem dX6_become_25 : decode cX6_become 25 = .ok (.bipush 7, 2) := by decide +kernel
theorem dX6_become_27 : decode cX6_become 27 = .ok (.invokestatic 24, 3) := by decide +kernel
theorem dX6_become_30 : decode cX6_become 30 = .ok (.aload_n 0, 1) := by decide +kernel
theorem dX6_become_31 : decode cX6_become 31 = .ok (.aload_n 1, 1) := by decide +kernel
theorem dX6_become_32 : decode cX6_become 32 = .ok (.getfield 30, 3) := by decide +kernel
theorem dX6_become_35 : decode cX6_become 35 = .ok (.putfield 30, 3) := by decide +kernel
theorem dX6_become_38 : decode cX6_become 38 = .ok (.return_, 1) := by decide +kernel
theorem cm_X6_become : CM yX6_become cX6_become 2 none 1 6 := ⟨w_1371, w_1372, w_1373, w_92, ⟨by decide +kernel, by decide +kernel, by decide +kernel⟩, ⟨_, _, rfl⟩, by decide⟩
noncomputable def f_X6_become (n : Nat) (v0 v1 : Int) (h : MM) : RR :=
  gf h v1 6 0 fun r1 =>
  gf h v0 6 0 fun r2 =>
  ac h 100 r1 0 r2 0 7 fun h3 =>
  gf h3 v1 6 1 fun r4 =>
  gf h3 v0 6 1 fun r5 =>
  ac h3 100 r4 0 r5 0 7 fun h6 =>
  gf h6 v1 6 2 fun r7 =>
  pf h6 v0 6 2 r7 fun h8 =>
  some (0, h8)
set_option maxRecDepth 20000 in
theorem e_X6_become {g : GT} {Z : Int × MM} {n : Nat} (C : Cx g cX6_become 2 yX6_become 1 60) (hr : Rt g none 3 Z) {v0 v1 : Int} (cv0 : cK 2 v0) (cv1 : cK 2 v1) {h : MM} (hf : f_X6_become n v0 v1 h = some Z) : G g 0 [(2, v0), (2, v1)] [] h := by
  unfold f_X6_become at hf
  refine r_aload_n C dX6_become_0 rfl ?_
  obtain ⟨q1, hf⟩ := gf_s hf
  refine r_gf C ct6 (j := 0) (ji := 0) dX6_become_1 q1 rfl rfl (by decide) w_253 rfl (fun c1 => ?_)
  refine r_iconst C dX6_become_4 ?_
  refine r_aload_n C dX6_become_5 rfl ?_
  obtain ⟨q2, hf⟩ := gf_s hf
  refine r_gf C ct6 (j := 0) (ji := 0) dX6_become_6 q2 rfl rfl (by decide) w_253 rfl (fun c2 => ?_)
  refine r_iconst C dX6_become_9 ?_
  refine r_bipush C dX6_become_10 rfl ?_
  obtain ⟨q3, hf⟩ := ac_s hf
  refine r_acopy C (t := 100) dX6_become_12 q3 rfl (by decide) (by decide) w_1374 wa1 wa2 wa3 ⟨Nat.le_of_ble_eq_true rfl, by decide⟩ rfl ?_
  refine r_aload_n C dX6_become_15 rfl ?_
  obtain ⟨q4, hf⟩ := gf_s hf
  refine r_gf C ct6 (j := 1) (ji := 1) dX6_become_16 q4 rfl rfl (by decide) w_254 rfl (fun c4 => ?_)
  refine r_iconst C dX6_become_19 ?_
  refine r_aload_n C dX6_become_20 rfl ?_
  obtain ⟨q5, hf⟩ := gf_s hf
  refine r_gf C ct6 (j := 1) (ji := 1) dX6_become_21 q5 rfl rfl (by decide) w_254 rfl (fun c5 => ?_)
  refine r_iconst C dX6_become_24 ?_
  refine r_bipush C dX6_become_25 rfl ?_
  obtain ⟨q6, hf⟩ := ac_s hf
  refine r_acopy C (t := 100) dX6_become_27 q6 rfl (by decide) (by decide) w_1374 wa1 wa2 wa3 ⟨Nat.le_of_ble_eq_true rfl, by decide⟩ rfl ?_
  refine r_aload_n C dX6_become_30 rfl ?_
  refine r_aload_n C dX6_become_31 rfl ?_
  obtain ⟨q7, hf⟩ := gf_s hf
  refine r_gf C ct6 (j := 2) (ji := 2) dX6_become_32 q7 rfl rfl (by decide) w_255 rfl (fun c7 => ?_)
  have c7 : in32 _ := c7
  obtain ⟨q8, hf⟩ := pf_s hf
  refine r_pf C ct6 (j := 2) (ji := 2) dX6_become_35 q8 rfl rfl (by decide) w_255 rfl (Or.inl rfl) nar_int c7 ?_
  cases hf
  exact r_vret C hr dX6_become_38
set_option maxRecDepth 20000 in
theorem am_X6_become (l : Launch) (n : Nat) : AM l yX6_become cX6_become 2 none 1 60 [2, 2] 3 (un2 (f_X6_become n)) := by
  refine AM.intro (by decide) (fun xs hx => ?_) (fun g xs h Z hl C hr hx hf => ?_)
  · obtain ⟨a0, a1, rfl, c0, c1⟩ := canL_2 hx
    exact Nat.le_of_ble_eq_true rfl
  · obtain ⟨a0, a1, rfl, c0, c1⟩ := canL_2 hx
    have hf := (un2_e _ a0 a1 _).symm.trans hf
    exact e_X6_become (n := n) C hr c0 c1 hf
/-! LinesPromised$Sheet.become(LLinesPromised$Sheet;)V -/
theorem dX9_become_0 : decode cX9_become 0 = .ok (.aload_n 1, 1) := by decide +kernel
theorem dX9_become_1 : decode cX9_become 1 = .ok (.getfield 9, 3) := by decide +kernel
theorem dX9_become_4 : decode cX9_become 4 = .ok (.iconst 0, 1) := by decide +kernel
theorem dX9_become_5 : decode cX9_become 5 = .ok (.aload_n 0, 1) := by decide +kernel
theorem dX9_become_6 : decode cX9_become 6 = .ok (.getfield 9, 3) := by decide +kernel
theorem dX9_become_9 : decode cX9_become 9 = .ok (.iconst 0, 1) := by decide +kernel
theorem dX9_become_10 : decode cX9_become 10 = .ok (.bipush 40, 2) := by decide +kernel
theorem dX9_become_12 : decode cX9_become 12 = .ok (.invokestatic 19, 3) := by decide +kernel
theorem dX9_become_15 : decode cX9_become 15 = .ok (.aload_n 0, 1) := by decide +kernel
theorem dX9_become_16 : decode cX9_become 16 = .ok (.aload_n 1, 1) := by decide +kernel
theorem dX9_become_17 : decode cX9_become 17 = .ok (.getfield 15, 3) := by decide +kernel
theorem dX9_become_20 : decode cX9_become 20 = .ok (.putfield 15, 3) := by decide +kernel
theorem dX9_become_23 : decode cX9_become 23 = .ok (.aload_n 0, 1) := by decide +kernel
theorem dX9_become_24 : decode cX9_become 24 = .ok (.aload_n 1, 1) := by decide +kernel
theorem dX9_become_25 : decode cX9_become 25 = .ok (.getfield 25, 3) := by decide +kernel
theorem dX9_become_28 : decode cX9_become 28 = .ok (.putfield 25, 3) := by decide +kernel
theorem dX9_become_31 : decode cX9_become 31 = .ok (.return_, 1) := by decide +kernel
theorem cm_X9_become : CM yX9_become cX9_become 2 none 1 9 := ⟨w_1376, w_1377, w_1378, w_93, ⟨by decide +kernel, by decide +kernel, by decide +kernel⟩, ⟨_, _, rfl⟩, by decide⟩
noncomputable def f_X9_become (n : Nat) (v0 v1 : Int) (h : MM) : RR :=
  gf h v1 9 0 fun r1 =>
  gf h v0 9 0 fun r2 =>
  ac h 100 r1 0 r2 0 40 fun h3 =>
  gf h3 v1 9 1 fun r4 =>
  pf h3 v0 9 1 r4 fun h5 =>
  gf h5 v1 9 2 fun r6 =>
  pf h5 v0 9 2 r6 fun h7 =>
  some (0, h7)
set_option maxRecDepth 20000 in
theorem e_X9_become {g : GT} {Z : Int × MM} {n : Nat} (C : Cx g cX9_become 2 yX9_become 1 60) (hr : Rt g none 3 Z) {v0 v1 : Int} (cv0 : cK 2 v0) (cv1 : cK 2 v1) {h : MM} (hf : f_X9_become n v0 v1 h = some Z) : G g 0 [(2, v0), (2, v1)] [] h := by
  unfold f_X9_become at hf
  refine r_aload_n C dX9_become_0 rfl ?_
  obtain ⟨q1, hf⟩ := gf_s hf
  refine r_gf C ct9 (j := 0) (ji := 0) dX9_become_1 q1 rfl rfl (by decide) w_280 rfl (fun c1 => ?_)
  refine r_iconst C dX9_become_4 ?_
  refine r_aload_n C dX9_become_5 rfl ?_
  obtain ⟨q2, hf⟩ := gf_s hf
  refine r_gf C ct9 (j := 0) (ji := 0) dX9_become_6 q2 rfl rfl (by decide) w_280 rfl (fun c2 => ?_)
  refine r_iconst C dX9_become_9 ?_
  refine r_bipush C dX9_become_10 rfl ?_
  obtain ⟨q3, hf⟩ := ac_s hf
  refine r_acopy C (t := 100) dX9_become_12 q3 rfl (by decide) (by decide) w_1379 wa1 wa2 wa3 ⟨Nat.le_of_ble_eq_true rfl, by decide⟩ rfl ?_
  refine r_aload_n C dX9_become_15 rfl ?_
  refine r_aload_n C dX9_become_16 rfl ?_
  obtain ⟨q4, hf⟩ := gf_s hf
  refine r_gf C ct9 (j := 1) (ji := 1) dX9_become_17 q4 rfl rfl (by decide) w_284 rfl (fun c4 => ?_)
  have c4 : in32 _ := c4
  obtain ⟨q5, hf⟩ := pf_s hf
  refine r_pf C ct9 (j := 1) (ji := 1) dX9_become_20 q5 rfl rfl (by decide) w_284 rfl (Or.inl rfl) nar_int c4 ?_
  refine r_aload_n C dX9_become_23 rfl ?_
  refine r_aload_n C dX9_become_24 rfl ?_
  obtain ⟨q6, hf⟩ := gf_s hf
  refine r_gf C ct9 (j := 2) (ji := 2) dX9_become_25 q6 rfl rfl (by decide) w_287 rfl (fun c6 => ?_)
  have c6 : in32 _ := c6
  obtain ⟨q7, hf⟩ := pf_s hf
  refine r_pf C ct9 (j := 2) (ji := 2) dX9_become_28 q7 rfl rfl (by decide) w_287 rfl (Or.inl rfl) nar_int c6 ?_
  cases hf
  exact r_vret C hr dX9_become_31
set_option maxRecDepth 20000 in
theorem am_X9_become (l : Launch) (n : Nat) : AM l yX9_become cX9_become 2 none 1 60 [2, 2] 3 (un2 (f_X9_become n)) := by
  refine AM.intro (by decide) (fun xs hx => ?_) (fun g xs h Z hl C hr hx hf => ?_)
  · obtain ⟨a0, a1, rfl, c0, c1⟩ := canL_2 hx
    exact Nat.le_of_ble_eq_true rfl
  · obtain ⟨a0, a1, rfl, c0, c1⟩ := canL_2 hx
    have hf := (un2_e _ a0 a1 _).symm.trans hf
    exact e_X9_become (n := n) C hr c0 c1 hf
/-! LinesPromised$World.become(LLinesPromised$World;)V -/
theorem dX10_become_0 : decode cX10_become 0 = .ok (.aload_n 0, 1) := by decide +kernel
theorem dX10_become_1 : decode cX10_become 1 = .ok (.getfield 12, 3) := by decide +kernel
theorem dX10_become_4 : decode cX10_become 4 = .ok (.aload_n 1, 1) := by decide +kernel
theorem dX10_become_5 : decode cX10_become 5 = .ok (.getfield 12, 3) := by decide +kernel
theorem dX10_become_8 : decode cX10_become 8 = .ok (.invokevirtual 56, 3) := by decide +kernel
theorem dX10_become_11 : decode cX10_become 11 = .ok (.aload_n 0, 1) := by decide +kernel
theorem dX10_become_12 : decode cX10_become 12 = .ok (.getfield 21, 3) := by decide +kernel
theorem dX10_become_15 : decode cX10_become 15 = .ok (.aload_n 1, 1) := by decide +kernel
theorem dX10_become_16 : decode cX10_become 16 = .ok (.getfield 21, 3) := by decide +kernel
theorem dX10_become_19 : decode cX10_become 19 = .ok (.invokevirtual 60, 3) := by decide +kernel
theorem dX10_become_22 : decode cX10_become 22 = .ok (.aload_n 0, 1) := by decide +kernel
theorem dX10_become_23 : decode cX10_become 23 = .ok (.getfield 28, 3) := by decide +kernel
theorem dX10_become_26 : decode cX10_become 26 = .ok (.aload_n 1, 1) := by decide +kernel
theorem dX10_become_27 : decode cX10_become 27 = .ok (.getfield 28, 3) := by decide +kernel
theorem dX10_become_30 : decode cX10_become 30 = .ok (.invokevirtual 63, 3) := by decide +kernel
theorem dX10_become_33 : decode cX10_become 33 = .ok (.aload_n 0, 1) := by decide +kernel
theorem dX10_become_34 : decode cX10_become 34 = .ok (.getfield 35, 3) := by decide +kernel
theorem dX10_become_37 : decode cX10_become 37 = .ok (.aload_n 1, 1) := by decide +kernel
theorem dX10_become_38 : decode cX10_become 38 = .ok (.getfield 35, 3) := by decide +kernel
theorem dX10_become_41 : decode cX10_become 41 = .ok (.invokevirtual 66, 3) := by decide +kernel
theorem dX10_become_44 : decode cX10_become 44 = .ok (.iconst 0, 1) := by decide +kernel
theorem dX10_become_45 : decode cX10_become 45 = .ok (.istore_n 2, 1) := by decide +kernel
theorem dX10_become_46 : decode cX10_become 46 = .ok (.iload_n 2, 1) := by decide +kernel
theorem dX10_become_47 : decode cX10_become 47 = .ok (.iconst 4, 1) := by decide +kernel
theorem dX10_become_48 : decode cX10_become 48 = .ok (.if_icmp .ge 24, 3) := by decide +kernel
theorem dX10_become_51 : decode cX10_become 51 = .ok (.aload_n 0, 1) := by decide +kernel
theorem dX10_become_52 : decode cX10_become 52 = .ok (.getfield 41, 3) := by decide +kernel
theorem dX10_become_55 : decode cX10_become 55 = .ok (.iload_n 2, 1) := by decide +kernel
theorem dX10_become_56 : decode cX10_become 56 = .ok (.aaload, 1) := by decide +kernel
theorem dX10_become_57 : decode cX10_become 57 = .ok (.aload_n 1, 1) := by decide +kernel
theorem dX10_become_58 : decode cX10_become 58 = .ok (.getfield 41, 3) := by decide +kernel
theorem dX10_become_61 : decode cX10_become 61 = .ok (.iload_n 2, 1) := by decide +kernel
theorem dX10_become_62 : decode cX10_become 62 = .ok (.aaload, 1) := by decide +kernel
theorem dX10_become_63 : decode cX10_become 63 = .ok (.invokevirtual 69, 3) := by decide +kernel
theorem dX10_become_66 : decode cX10_become 66 = .ok (.iinc 2 1, 3) := by decide +kernel
theorem dX10_become_69 : decode cX10_become 69 = .ok (.goto (-23), 3) := by decide +kernel
theorem dX10_become_72 : decode cX10_become 72 = .ok (.aload_n 1, 1) := by decide +kernel
theorem dX10_become_73 : decode cX10_become 73 = .ok (.getfield 45, 3) := by decide +kernel
theorem dX10_become_76 : decode cX10_become 76 = .ok (.iconst 0, 1) := by decide +kernel
theorem dX10_become_77 : decode cX10_become 77 = .ok (.aload_n 0, 1) := by decide +kernel
theorem dX10_become_78 : decode cX10_become 78 = .ok (.getfield 45, 3) := by decide +kernel
theorem dX10_become_81 : decode cX10_become 81 = .ok (.iconst 0, 1) := by decide +kernel
theorem dX10_become_82 : decode cX10_become 82 = .ok (.sipush 140, 3) := by decide +kernel
theorem dX10_become_85 : decode cX10_become 85 = .ok (.invokestatic 72, 3) := by decide +kernel
theorem dX10_become_88 : decode cX10_become 88 = .ok (.iconst 0, 1) := by decide +kernel
theorem dX10_become_89 : decode cX10_become 89 = .ok (.istore_n 2, 1) := by decide +kernel
theorem dX10_become_90 : decode cX10_become 90 = .ok (.iload_n 2, 1) := by decide +kernel
theorem dX10_become_91 : decode cX10_become 91 = .ok (.aload_n 0, 1) := by decide +kernel
theorem dX10_become_92 : decode cX10_become 92 = .ok (.getfield 51, 3) := by decide +kernel
theorem dX10_become_95 : decode cX10_become 95 = .ok (.arraylength, 1) := by decide +kernel
theorem dX10_become_96 : decode cX10_become 96 = .ok (.if_icmp .ge 21, 3) := by decide +kernel
theorem dX10_become_99 : decode cX10_become 99 = .ok (.aload_n 0, 1) := by decide +kernel
theorem dX10_become_100 : decode cX10_become 100 = .ok (.getfield 51, 3) := by decide +kernel
theorem dX10_become_103 : decode cX10_become 103 = .ok (.iload_n 2, 1) := by decide +kernel
theorem dX10_become_104 : decode cX10_become 104 = .ok (.aload_n 1, 1) := by decide +kernel
theorem dX10_become_105 : decode cX10_become 105 = .ok (.getfield 51, 3) := by decide +kernel
theorem dX10_become_108 : decode cX10_become 108 = .ok (.iload_n 2, 1) := by decide +kernel
theorem dX10_become_109 : decode cX10_become 109 = .ok (.aaload, 1) := by decide +kernel
theorem dX10_become_110 : decode cX10_become 110 = .ok (.aastore, 1) := by decide +kernel
theorem dX10_become_111 : decode cX10_become 111 = .ok (.iinc 2 1, 3) := by decide +kernel
theorem dX10_become_114 : decode cX10_become 114 = .ok (.goto (-24), 3) := by decide +kernel
theorem dX10_become_117 : decode cX10_become 117 = .ok (.aload_n 0, 1) := by decide +kernel
theorem dX10_become_118 : decode cX10_become 118 = .ok (.aload_n 1, 1) := by decide +kernel
theorem dX10_become_119 : decode cX10_become 119 = .ok (.getfield 78, 3) := by decide +kernel
theorem dX10_become_122 : decode cX10_become 122 = .ok (.putfield 78, 3) := by decide +kernel
theorem dX10_become_125 : decode cX10_become 125 = .ok (.aload_n 0, 1) := by decide +kernel
theorem dX10_become_126 : decode cX10_become 126 = .ok (.aload_n 1, 1) := by decide +kernel
theorem dX10_become_127 : decode cX10_become 127 = .ok (.getfield 82, 3) := by decide +kernel
theorem dX10_become_130 : decode cX10_become 130 = .ok (.putfield 82, 3) := by decide +kernel
theorem dX10_become_133 : decode cX10_become 133 = .ok (.aload_n 0, 1) := by decide +kernel
theorem dX10_become_134 : decode cX10_become 134 = .ok (.aload_n 1, 1) := by decide +kernel
theorem dX10_become_135 : decode cX10_become 135 = .ok (.getfield 85, 3) := by decide +kernel
theorem dX10_become_138 : decode cX10_become 138 = .ok (.putfield 85, 3) := by decide +kernel
theorem dX10_become_141 : decode cX10_become 141 = .ok (.aload_n 0, 1) := by decide +kernel
theorem dX10_become_142 : decode cX10_become 142 = .ok (.aload_n 1, 1) := by decide +kernel
theorem dX10_become_143 : decode cX10_become 143 = .ok (.getfield 88, 3) := by decide +kernel
theorem dX10_become_146 : decode cX10_become 146 = .ok (.putfield 88, 3) := by decide +kernel
theorem dX10_become_149 : decode cX10_become 149 = .ok (.return_, 1) := by decide +kernel
theorem cm_X10_become : CM yX10_become cX10_become 3 none 1 10 := ⟨w_1352, w_1353, w_1354, w_88, ⟨by decide +kernel, by decide +kernel, by decide +kernel⟩, ⟨_, _, rfl⟩, by decide⟩
noncomputable def f_X10_become_90b (n : Nat) (rec90 : Int → MM → RR) (v0 v1 v2 : Int) (h : MM) : RR :=
  gf h v0 10 6 fun r1 =>
  al h r1 104 fun r2 =>
  if r2 ≤ v2 then
    gf h v1 10 7 fun r4 =>
    pf h v0 10 7 r4 fun h5 =>
    gf h5 v1 10 8 fun r6 =>
    pf h5 v0 10 8 r6 fun h7 =>
    gf h7 v1 10 9 fun r8 =>
    pf h7 v0 10 9 r8 fun h9 =>
    gf h9 v1 10 10 fun r10 =>
    pf h9 v0 10 10 r10 fun h11 =>
    some (0, h11)
  else
  gf h v0 10 6 fun r12 =>
  gf h v1 10 6 fun r13 =>
  rd h r13 104 v2 fun r14 =>
  gkz h r14 3 <|
  wt h r12 104 v2 r14 fun h15 =>
  lb (wr (v2 + 1)) fun x16 =>
  rec90 x16 h15
noncomputable def f_X10_become_90 (n : Nat)  (v0 v1 : Int) : Nat → Int → MM → RR
  | 0, _, _ => none
  | k + 1, v2, h => f_X10_become_90b n  (f_X10_become_90 n  v0 v1 k) v0 v1 v2 h
noncomputable def f_X10_become_46b (n : Nat) (rec46 : Int → MM → RR) (v0 v1 v2 : Int) (h : MM) : RR :=
  if 4 ≤ v2 then
    gf h v1 10 5 fun r2 =>
    gf h v0 10 5 fun r3 =>
    ac h 102 r2 0 r3 0 140 fun h4 =>
    f_X10_become_90 n v0 v1 n 0 h4
  else
  gf h v0 10 4 fun r5 =>
  rd h r5 106 v2 fun r6 =>
  gf h v1 10 4 fun r7 =>
  rd h r7 106 v2 fun r8 =>
  gk h r6 9 <|
  bd (f_X9_become n r6 r8 h) fun r9 h9 =>
  lb (wr (v2 + 1)) fun x10 =>
  rec46 x10 h9
noncomputable def f_X10_become_46 (n : Nat)  (v0 v1 : Int) : Nat → Int → MM → RR
  | 0, _, _ => none
  | k + 1, v2, h => f_X10_become_46b n  (f_X10_become_46 n  v0 v1 k) v0 v1 v2 h
noncomputable def f_X10_become (n : Nat) (v0 v1 : Int) (h : MM) : RR :=
  gf h v0 10 0 fun r1 =>
  gf h v1 10 0 fun r2 =>
  gk h r1 1 <|
  bd (f_X1_become n r1 r2 h) fun r3 h3 =>
  gf h3 v0 10 1 fun r4 =>
  gf h3 v1 10 1 fun r5 =>
  gk h3 r4 5 <|
  bd (f_X5_become n r4 r5 h3) fun r6 h6 =>
  gf h6 v0 10 2 fun r7 =>
  gf h6 v1 10 2 fun r8 =>
  gk h6 r7 8 <|
  bd (f_X8_become n r7 r8 h6) fun r9 h9 =>
  gf h9 v0 10 3 fun r10 =>
  gf h9 v1 10 3 fun r11 =>
  gk h9 r10 6 <|
  bd (f_X6_become n r10 r11 h9) fun r12 h12 =>
  f_X10_become_46 n v0 v1 n 0 h12
set_option maxRecDepth 20000 in
theorem b_X10_become_90b {g : GT} {Z : Int × MM} {n : Nat} (C : Cx g cX10_become 3 yX10_become 2 82) (hr : Rt g none 3 Z) {v0 v1 v2 : Int}  {rec90 : Int → MM → RR} (L90 : ∀ (u2 : Int) (h : MM), in32 u2 → rec90 u2 h = some Z → G g 90 [(2, v0), (2, v1), (0, u2)] [] h) (cv2 : in32 v2) {h : MM} (hf : f_X10_become_90b n rec90 v0 v1 v2 h = some Z) : G g 90 [(2, v0), (2, v1), (0, v2)] [] h := by
  unfold f_X10_become_90b at hf
  refine r_iload_n C dX10_become_90 rfl ?_
  refine r_aload_n C dX10_become_91 rfl ?_
  obtain ⟨q1, hf⟩ := gf_s hf
  refine r_gf C ct10 (j := 6) (ji := 6) dX10_become_92 q1 rfl rfl (by decide) w_311 rfl (fun c1 => ?_)
  obtain ⟨q2, hf⟩ := al_s hf
  refine r_alen C (tn := 104) dX10_become_95 q2 rfl (by decide) (fun c2 _ => ?_)
  refine r_icmp_ge C dX10_become_96 (tgt := 117) (by decide) cv2 c2 (fun n3 => ?_) (fun n3 => ?_)
  · have hf := ite_p n3 hf
    refine r_aload_n C dX10_become_117 rfl ?_
    refine r_aload_n C dX10_become_118 rfl ?_
    obtain ⟨q4, hf⟩ := gf_s hf
    refine r_gf C ct10 (j := 7) (ji := 7) dX10_become_119 q4 rfl rfl (by decide) w_312 rfl (fun c4 => ?_)
    have c4 : in32 _ := c4
    obtain ⟨q5, hf⟩ := pf_s hf
    refine r_pf C ct10 (j := 7) (ji := 7) dX10_become_122 q5 rfl rfl (by decide) w_312 rfl (Or.inl rfl) nar_int c4 ?_
    refine r_aload_n C dX10_become_125 rfl ?_
    refine r_aload_n C dX10_become_126 rfl ?_
    obtain ⟨q6, hf⟩ := gf_s hf
    refine r_gf C ct10 (j := 8) (ji := 8) dX10_become_127 q6 rfl rfl (by decide) w_314 rfl (fun c6 => ?_)
    have c6 : in32 _ := c6
    obtain ⟨q7, hf⟩ := pf_s hf
    refine r_pf C ct10 (j := 8) (ji := 8) dX10_become_130 q7 rfl rfl (by decide) w_314 rfl (Or.inl rfl) nar_int c6 ?_
    refine r_aload_n C dX10_become_133 rfl ?_
    refine r_aload_n C dX10_become_134 rfl ?_
    obtain ⟨q8, hf⟩ := gf_s hf
    refine r_gf C ct10 (j := 9) (ji := 9) dX10_become_135 q8 rfl rfl (by decide) w_316 rfl (fun c8 => ?_)
    have c8 : in32 _ := c8
    obtain ⟨q9, hf⟩ := pf_s hf
    refine r_pf C ct10 (j := 9) (ji := 9) dX10_become_138 q9 rfl rfl (by decide) w_316 rfl (Or.inl rfl) nar_int c8 ?_
    refine r_aload_n C dX10_become_141 rfl ?_
    refine r_aload_n C dX10_become_142 rfl ?_
    obtain ⟨q10, hf⟩ := gf_s hf
    refine r_gf C ct10 (j := 10) (ji := 10) dX10_become_143 q10 rfl rfl (by decide) w_318 rfl (fun c10 => ?_)
    have c10 : in32 _ := c10
    obtain ⟨q11, hf⟩ := pf_s hf
    refine r_pf C ct10 (j := 10) (ji := 10) dX10_become_146 q11 rfl rfl (by decide) w_318 rfl (Or.inl rfl) nar_int c10 ?_
    cases hf
    exact r_vret C hr dX10_become_149
  · have hf := ite_n n3 hf
    refine r_aload_n C dX10_become_99 rfl ?_
    obtain ⟨q12, hf⟩ := gf_s hf
    refine r_gf C ct10 (j := 6) (ji := 6) dX10_become_100 q12 rfl rfl (by decide) w_311 rfl (fun c12 => ?_)
    refine r_iload_n C dX10_become_103 rfl ?_
    refine r_aload_n C dX10_become_104 rfl ?_
    obtain ⟨q13, hf⟩ := gf_s hf
    refine r_gf C ct10 (j := 6) (ji := 6) dX10_become_105 q13 rfl rfl (by decide) w_311 rfl (fun c13 => ?_)
    refine r_iload_n C dX10_become_108 rfl ?_
    obtain ⟨q14, hf⟩ := rd_s hf
    refine r_aald C dX10_become_109 q14 (tn := 104) rfl (by decide) ?_
    obtain ⟨p15, hf⟩ := gkz_s hf
    obtain ⟨q15, hf⟩ := wt_s hf
    refine r_aastZ C (tn := 104) (tc := 3) dX10_become_110 q15 rfl (by decide) (by decide) p15 rfl ⟨_, _, rfl⟩ (by decide) ?_
    obtain ⟨x16, e16, hf⟩ := lb_s hf
    have c16 : in32 x16 := by rw [e16]; exact (in32_t _)
    refine r_iincL C dX10_become_111 rfl e16 (Nat.le_of_ble_eq_true rfl) rfl ?_
    refine r_goto C dX10_become_114 (tgt := 90) (by decide) ?_
    exact G.mask [true, true, true] rfl rfl (L90 _ _ c16 hf)
set_option maxRecDepth 20000 in
theorem l_X10_become_90 {g : GT} {Z : Int × MM} {n : Nat} (C : Cx g cX10_become 3 yX10_become 2 82) (hr : Rt g none 3 Z) {v0 v1 : Int}    : ∀ (k : Nat) (v2 : Int) (h : MM), in32 v2 → f_X10_become_90 n  v0 v1 k v2 h = some Z → G g 90 [(2, v0), (2, v1), (0, v2)] [] h := by
  intro k
  induction k with
  | zero => intro v2 h cv2 hf; exact absurd hf (by intro z; cases z)
  | succ k ih => intro v2 h cv2 hf; exact b_X10_become_90b C hr (rec90 := f_X10_become_90 n  v0 v1 k)  ih cv2 (show f_X10_become_90b n  (f_X10_become_90 n  v0 v1 k) v0 v1 v2 h = some Z from hf)
set_option maxRecDepth 20000 in
theorem b_X10_become_46b {g : GT} {Z : Int × MM} {n : Nat} (C : Cx g cX10_become 3 yX10_become 2 82) (hr : Rt g none 3 Z) {v0 v1 v2 : Int}  {rec46 : Int → MM → RR} (L46 : ∀ (u2 : Int) (h : MM), in32 u2 → rec46 u2 h = some Z → G g 46 [(2, v0), (2, v1), (0, u2)] [] h) (cv2 : in32 v2) {h : MM} (hf : f_X10_become_46b n rec46 v0 v1 v2 h = some Z) : G g 46 [(2, v0), (2, v1), (0, v2)] [] h := by
  unfold f_X10_become_46b at hf
  refine r_iload_n C dX10_become_46 rfl ?_
  refine r_iconst C dX10_become_47 ?_
  refine r_icmp_ge C dX10_become_48 (tgt := 72) (by decide) cv2 (in32_of rfl) (fun n1 => ?_) (fun n1 => ?_)
  · have hf := ite_p n1 hf
    refine r_aload_n C dX10_become_72 rfl ?_
    obtain ⟨q2, hf⟩ := gf_s hf
    refine r_gf C ct10 (j := 5) (ji := 5) dX10_become_73 q2 rfl rfl (by decide) w_309 rfl (fun c2 => ?_)
    refine r_iconst C dX10_become_76 ?_
    refine r_aload_n C dX10_become_77 rfl ?_
    obtain ⟨q3, hf⟩ := gf_s hf
    refine r_gf C ct10 (j := 5) (ji := 5) dX10_become_78 q3 rfl rfl (by decide) w_309 rfl (fun c3 => ?_)
    refine r_iconst C dX10_become_81 ?_
    refine r_sipush C dX10_become_82 rfl ?_
    obtain ⟨q4, hf⟩ := ac_s hf
    refine r_acopy C (t := 102) dX10_become_85 q4 rfl (by decide) (by decide) w_1380 wa1 wa2 wa3 ⟨Nat.le_of_ble_eq_true rfl, by decide⟩ rfl ?_
    refine r_iconst C dX10_become_88 ?_
    refine r_istore_n C dX10_become_89 (Nat.le_of_ble_eq_true rfl) rfl ?_
    exact G.mask [true, true, true] rfl rfl (l_X10_become_90 C hr   _ _ _ (in32_of rfl) hf)
  · have hf := ite_n n1 hf
    refine r_aload_n C dX10_become_51 rfl ?_
    obtain ⟨q5, hf⟩ := gf_s hf
    refine r_gf C ct10 (j := 4) (ji := 4) dX10_become_52 q5 rfl rfl (by decide) w_307 rfl (fun c5 => ?_)
    refine r_iload_n C dX10_become_55 rfl ?_
    obtain ⟨q6, hf⟩ := rd_s hf
    refine r_aald C dX10_become_56 q6 (tn := 106) rfl (by decide) ?_
    refine r_aload_n C dX10_become_57 rfl ?_
    obtain ⟨q7, hf⟩ := gf_s hf
    refine r_gf C ct10 (j := 4) (ji := 4) dX10_become_58 q7 rfl rfl (by decide) w_307 rfl (fun c7 => ?_)
    refine r_iload_n C dX10_become_61 rfl ?_
    obtain ⟨q8, hf⟩ := rd_s hf
    refine r_aald C dX10_become_62 q8 (tn := 106) rfl (by decide) ?_
    obtain ⟨p9, hf⟩ := gk_s hf
    obtain ⟨r9, h9, hq9, hf⟩ := bd_s hf
    refine r_cV1v C (am_X9_become (gl g) n) cm_X9_become w_1375 dX10_become_63 ⟨Nat.le_of_ble_eq_true rfl, Nat.le_of_ble_eq_true rfl⟩ p9 rfl trivial rfl (Nat.le_of_ble_eq_true rfl) hq9 ?_
    obtain ⟨x10, e10, hf⟩ := lb_s hf
    have c10 : in32 x10 := by rw [e10]; exact (in32_t _)
    refine r_iincL C dX10_become_66 rfl e10 (Nat.le_of_ble_eq_true rfl) rfl ?_
    refine r_goto C dX10_become_69 (tgt := 46) (by decide) ?_
    exact G.mask [true, true, true] rfl rfl (L46 _ _ c10 hf)
set_option maxRecDepth 20000 in
theorem l_X10_become_46 {g : GT} {Z : Int × MM} {n : Nat} (C : Cx g cX10_become 3 yX10_become 2 82) (hr : Rt g none 3 Z) {v0 v1 : Int}    : ∀ (k : Nat) (v2 : Int) (h : MM), in32 v2 → f_X10_become_46 n  v0 v1 k v2 h = some Z → G g 46 [(2, v0), (2, v1), (0, v2)] [] h := by
  intro k
  induction k with
  | zero => intro v2 h cv2 hf; exact absurd hf (by intro z; cases z)
  | succ k ih => intro v2 h cv2 hf; exact b_X10_become_46b C hr (rec46 := f_X10_become_46 n  v0 v1 k)  ih cv2 (show f_X10_become_46b n  (f_X10_become_46 n  v0 v1 k) v0 v1 v2 h = some Z from hf)
set_option maxRecDepth 20000 in
theorem e_X10_become {g : GT} {Z : Int × MM} {n : Nat} (C : Cx g cX10_become 3 yX10_become 2 82) (hr : Rt g none 3 Z) {v0 v1 : Int} (cv0 : cK 2 v0) (cv1 : cK 2 v1) {h : MM} (hf : f_X10_become n v0 v1 h = some Z) : G g 0 [(2, v0), (2, v1), (3, 0)] [] h := by
  unfold f_X10_become at hf
  refine r_aload_n C dX10_become_0 rfl ?_
  obtain ⟨q1, hf⟩ := gf_s hf
  refine r_gf C ct10 (j := 0) (ji := 0) dX10_become_1 q1 rfl rfl (by decide) w_298 rfl (fun c1 => ?_)
  refine r_aload_n C dX10_become_4 rfl ?_
  obtain ⟨q2, hf⟩ := gf_s hf
  refine r_gf C ct10 (j := 0) (ji := 0) dX10_become_5 q2 rfl rfl (by decide) w_298 rfl (fun c2 => ?_)
  obtain ⟨p3, hf⟩ := gk_s hf
  obtain ⟨r3, h3, hq3, hf⟩ := bd_s hf
  refine r_cV1v C (am_X1_become (gl g) n) cm_X1_become w_1355 dX10_become_8 ⟨Nat.le_of_ble_eq_true rfl, Nat.le_of_ble_eq_true rfl⟩ p3 rfl trivial rfl (Nat.le_of_ble_eq_true rfl) hq3 ?_
  refine r_aload_n C dX10_become_11 rfl ?_
  obtain ⟨q4, hf⟩ := gf_s hf
  refine r_gf C ct10 (j := 1) (ji := 1) dX10_become_12 q4 rfl rfl (by decide) w_301 rfl (fun c4 => ?_)
  refine r_aload_n C dX10_become_15 rfl ?_
  obtain ⟨q5, hf⟩ := gf_s hf
  refine r_gf C ct10 (j := 1) (ji := 1) dX10_become_16 q5 rfl rfl (by decide) w_301 rfl (fun c5 => ?_)
  obtain ⟨p6, hf⟩ := gk_s hf
  obtain ⟨r6, h6, hq6, hf⟩ := bd_s hf
  refine r_cV1v C (am_X5_become (gl g) n) cm_X5_become w_1360 dX10_become_19 ⟨Nat.le_of_ble_eq_true rfl, Nat.le_of_ble_eq_true rfl⟩ p6 rfl trivial rfl (Nat.le_of_ble_eq_true rfl) hq6 ?_
  refine r_aload_n C dX10_become_22 rfl ?_
  obtain ⟨q7, hf⟩ := gf_s hf
  refine r_gf C ct10 (j := 2) (ji := 2) dX10_become_23 q7 rfl rfl (by decide) w_303 rfl (fun c7 => ?_)
  refine r_aload_n C dX10_become_26 rfl ?_
  obtain ⟨q8, hf⟩ := gf_s hf
  refine r_gf C ct10 (j := 2) (ji := 2) dX10_become_27 q8 rfl rfl (by decide) w_303 rfl (fun c8 => ?_)
  obtain ⟨p9, hf⟩ := gk_s hf
  obtain ⟨r9, h9, hq9, hf⟩ := bd_s hf
  refine r_cV1v C (am_X8_become (gl g) n) cm_X8_become w_1365 dX10_become_30 ⟨Nat.le_of_ble_eq_true rfl, Nat.le_of_ble_eq_true rfl⟩ p9 rfl trivial rfl (Nat.le_of_ble_eq_true rfl) hq9 ?_
  refine r_aload_n C dX10_become_33 rfl ?_
  obtain ⟨q10, hf⟩ := gf_s hf
  refine r_gf C ct10 (j := 3) (ji := 3) dX10_become_34 q10 rfl rfl (by decide) w_305 rfl (fun c10 => ?_)
  refine r_aload_n C dX10_become_37 rfl ?_
  obtain ⟨q11, hf⟩ := gf_s hf
  refine r_gf C ct10 (j := 3) (ji := 3) dX10_become_38 q11 rfl rfl (by decide) w_305 rfl (fun c11 => ?_)
  obtain ⟨p12, hf⟩ := gk_s hf
  obtain ⟨r12, h12, hq12, hf⟩ := bd_s hf
  refine r_cV1v C (am_X6_become (gl g) n) cm_X6_become w_1370 dX10_become_41 ⟨Nat.le_of_ble_eq_true rfl, Nat.le_of_ble_eq_true rfl⟩ p12 rfl trivial rfl (Nat.le_of_ble_eq_true rfl) hq12 ?_
  refine r_iconst C dX10_become_44 ?_
  refine r_istore_n C dX10_become_45 (Nat.le_of_ble_eq_true rfl) rfl ?_
  exact G.mask [true, true, true] rfl rfl (l_X10_become_46 C hr   _ _ _ (in32_of rfl) hf)
set_option maxRecDepth 20000 in
theorem am_X10_become (l : Launch) (n : Nat) : AM l yX10_become cX10_become 3 none 2 82 [2, 2] 3 (un2 (f_X10_become n)) := by
  refine AM.intro (by decide) (fun xs hx => ?_) (fun g xs h Z hl C hr hx hf => ?_)
  · obtain ⟨a0, a1, rfl, c0, c1⟩ := canL_2 hx
    exact Nat.le_of_ble_eq_true rfl
  · obtain ⟨a0, a1, rfl, c0, c1⟩ := canL_2 hx
    have hf := (un2_e _ a0 a1 _).symm.trans hf
    exact e_X10_become (n := n) C hr c0 c1 hf
/-! LinesPromised.image()I -/
theorem dX11_image_0 : decode cX11_image 0 = .ok (.aload_n 0, 1) := by decide +kernel
theorem dX11_image_1 : decode cX11_image 1 = .ok (.getfield 16, 3) := by decide +kernel
theorem dX11_image_4 : decode cX11_image 4 = .ok (.aload_n 0, 1) := by decide +kernel
theorem dX11_image_5 : decode cX11_image 5 = .ok (.getfield 10, 3) := by decide +kernel
theorem dX11_image_8 : decode cX11_image 8 = .ok (.invokevirtual 402, 3) := by decide +kernel
theorem dX11_image_11 : decode cX11_image 11 = .ok (.aload_n 0, 1) := by decide +kernel
theorem dX11_image_12 : decode cX11_image 12 = .ok (.iconst 1, 1) := by decide +kernel
theorem dX11_image_13 : decode cX11_image 13 = .ok (.putfield 406, 3) := by decide +kernel
theorem dX11_image_16 : decode cX11_image 16 = .ok (.aload_n 0, 1) := by decide +kernel
theorem dX11_image_17 : decode cX11_image 17 = .ok (.getfield 10, 3) := by decide +kernel
theorem dX11_image_20 : decode cX11_image 20 = .ok (.getfield 148, 3) := by decide +kernel
theorem dX11_image_23 : decode cX11_image 23 = .ok (.ireturn, 1) := by decide +kernel
theorem cm_X11_image : CM yX11_image cX11_image 1 (some .int) 0 11 := ⟨w_1348, w_1349, w_1350, w_87, ⟨by decide +kernel, by decide +kernel, by decide +kernel⟩, ⟨_, _, rfl⟩, by decide⟩
noncomputable def f_X11_image (n : Nat) (v0 : Int) (h : MM) : RR :=
  gf h v0 11 1 fun r1 =>
  gf h v0 11 0 fun r2 =>
  gk h r1 10 <|
  bd (f_X10_become n r1 r2 h) fun r3 h3 =>
  ck (isb 1) <|
  pf h3 v0 11 2 1 fun h4 =>
  gf h4 v0 11 0 fun r6 =>
  gf h4 r6 10 9 fun r7 =>
  some (r7, h4)
set_option maxRecDepth 20000 in
theorem e_X11_image {g : GT} {Z : Int × MM} {n : Nat} (C : Cx g cX11_image 1 yX11_image 3 104) (hr : Rt g (some .int) 0 Z) {v0 : Int} (cv0 : cK 2 v0) {h : MM} (hf : f_X11_image n v0 h = some Z) : G g 0 [(2, v0)] [] h := by
  unfold f_X11_image at hf
  refine r_aload_n C dX11_image_0 rfl ?_
  obtain ⟨q1, hf⟩ := gf_s hf
  refine r_gf C ct11 (j := 1) (ji := 1) dX11_image_1 q1 rfl rfl (by decide) w_441 rfl (fun c1 => ?_)
  refine r_aload_n C dX11_image_4 rfl ?_
  obtain ⟨q2, hf⟩ := gf_s hf
  refine r_gf C ct11 (j := 0) (ji := 0) dX11_image_5 q2 rfl rfl (by decide) w_440 rfl (fun c2 => ?_)
  obtain ⟨p3, hf⟩ := gk_s hf
  obtain ⟨r3, h3, hq3, hf⟩ := bd_s hf
  refine r_cV1v C (am_X10_become (gl g) n) cm_X10_become w_1351 dX11_image_8 ⟨Nat.le_of_ble_eq_true rfl, Nat.le_of_ble_eq_true rfl⟩ p3 rfl trivial rfl (Nat.le_of_ble_eq_true rfl) hq3 ?_
  refine r_aload_n C dX11_image_11 rfl ?_
  refine r_iconst C dX11_image_12 ?_
  obtain ⟨b5, hf⟩ := ck_s hf
  obtain ⟨q4, hf⟩ := pf_s hf
  refine r_pf C ct11 (j := 2) (ji := 2) dX11_image_13 q4 rfl rfl (by decide) w_442 rfl (Or.inl rfl) (nar_bool (isb_s b5)) (in32_of rfl) ?_
  refine r_aload_n C dX11_image_16 rfl ?_
  obtain ⟨q6, hf⟩ := gf_s hf
  refine r_gf C ct11 (j := 0) (ji := 0) dX11_image_17 q6 rfl rfl (by decide) w_440 rfl (fun c6 => ?_)
  obtain ⟨q7, hf⟩ := gf_s hf
  refine r_gf C ct10 (j := 9) (ji := 9) dX11_image_20 q7 rfl rfl (by decide) w_317 rfl (fun c7 => ?_)
  have c7 : in32 _ := c7
  cases hf
  exact r_jret C hr dX11_image_23 c7
set_option maxRecDepth 20000 in
theorem am_X11_image (l : Launch) (n : Nat) : AM l yX11_image cX11_image 1 (some .int) 3 104 [2] 0 (un1 (f_X11_image n)) := by
  refine AM.intro (by decide) (fun xs hx => ?_) (fun g xs h Z hl C hr hx hf => ?_)
  · obtain ⟨a0, rfl, c0⟩ := canL_1 hx
    exact Nat.le_of_ble_eq_true rfl
  · obtain ⟨a0, rfl, c0⟩ := canL_1 hx
    have hf := (un1_e _ a0 _).symm.trans hf
    exact e_X11_image (n := n) C hr c0 hf
/-! LinesPromised.undo()I -/
theorem dX11_undo_0 : decode cX11_undo 0 = .ok (.aload_n 0, 1) := by decide +kernel
theorem dX11_undo_1 : decode cX11_undo 1 = .ok (.getfield 406, 3) := by decide +kernel
theorem dX11_undo_4 : decode cX11_undo 4 = .ok (.ifCond .ne 6, 3) := by decide +kernel
theorem dX11_undo_7 : decode cX11_undo 7 = .ok (.bipush (-3), 2) := by decide +kernel
theorem dX11_undo_9 : decode cX11_undo 9 = .ok (.ireturn, 1) := by decide +kernel
theorem dX11_undo_10 : decode cX11_undo 10 = .ok (.aload_n 0, 1) := by decide +kernel
theorem dX11_undo_11 : decode cX11_undo 11 = .ok (.getfield 10, 3) := by decide +kernel
theorem dX11_undo_14 : decode cX11_undo 14 = .ok (.aload_n 0, 1) := by decide +kernel
theorem dX11_undo_15 : decode cX11_undo 15 = .ok (.getfield 16, 3) := by decide +kernel
theorem dX11_undo_18 : decode cX11_undo 18 = .ok (.invokevirtual 402, 3) := by decide +kernel
theorem dX11_undo_21 : decode cX11_undo 21 = .ok (.aload_n 0, 1) := by decide +kernel
theorem dX11_undo_22 : decode cX11_undo 22 = .ok (.getfield 10, 3) := by decide +kernel
theorem dX11_undo_25 : decode cX11_undo 25 = .ok (.getfield 148, 3) := by decide +kernel
theorem dX11_undo_28 : decode cX11_undo 28 = .ok (.ireturn, 1) := by decide +kernel
theorem cm_X11_undo : CM yX11_undo cX11_undo 1 (some .int) 0 11 := ⟨w_1382, w_1383, w_1384, w_87, ⟨by decide +kernel, by decide +kernel, by decide +kernel⟩, ⟨_, _, rfl⟩, by decide⟩
noncomputable def f_X11_undo (n : Nat) (v0 : Int) (h : MM) : RR :=
  gf h v0 11 2 fun r1 =>
  if r1 = 0 then
    some ((-3), h)
  else
  gf h v0 11 0 fun r3 =>
  gf h v0 11 1 fun r4 =>
  gk h r3 10 <|
  bd (f_X10_become n r3 r4 h) fun r5 h5 =>
  gf h5 v0 11 0 fun r6 =>
  gf h5 r6 10 9 fun r7 =>
  some (r7, h5)
set_option maxRecDepth 20000 in
theorem e_X11_undo {g : GT} {Z : Int × MM} {n : Nat} (C : Cx g cX11_undo 1 yX11_undo 3 104) (hr : Rt g (some .int) 0 Z) {v0 : Int} (cv0 : cK 2 v0) {h : MM} (hf : f_X11_undo n v0 h = some Z) : G g 0 [(2, v0)] [] h := by
  unfold f_X11_undo at hf
  refine r_aload_n C dX11_undo_0 rfl ?_
  obtain ⟨q1, hf⟩ := gf_s hf
  refine r_gf C ct11 (j := 2) (ji := 2) dX11_undo_1 q1 rfl rfl (by decide) w_442 rfl (fun c1 => ?_)
  have c1 : in32 _ := c1
  refine r_if_ne C dX11_undo_4 (tgt := 10) (by decide) c1 (fun n2 => ?_) (fun n2 => ?_)
  · have hf := ite_n n2 hf
    refine r_aload_n C dX11_undo_10 rfl ?_
    obtain ⟨q3, hf⟩ := gf_s hf
    refine r_gf C ct11 (j := 0) (ji := 0) dX11_undo_11 q3 rfl rfl (by decide) w_440 rfl (fun c3 => ?_)
    refine r_aload_n C dX11_undo_14 rfl ?_
    obtain ⟨q4, hf⟩ := gf_s hf
    refine r_gf C ct11 (j := 1) (ji := 1) dX11_undo_15 q4 rfl rfl (by decide) w_441 rfl (fun c4 => ?_)
    obtain ⟨p5, hf⟩ := gk_s hf
    obtain ⟨r5, h5, hq5, hf⟩ := bd_s hf
    refine r_cV1v C (am_X10_become (gl g) n) cm_X10_become w_1351 dX11_undo_18 ⟨Nat.le_of_ble_eq_true rfl, Nat.le_of_ble_eq_true rfl⟩ p5 rfl trivial rfl (Nat.le_of_ble_eq_true rfl) hq5 ?_
    refine r_aload_n C dX11_undo_21 rfl ?_
    obtain ⟨q6, hf⟩ := gf_s hf
    refine r_gf C ct11 (j := 0) (ji := 0) dX11_undo_22 q6 rfl rfl (by decide) w_440 rfl (fun c6 => ?_)
    obtain ⟨q7, hf⟩ := gf_s hf
    refine r_gf C ct10 (j := 9) (ji := 9) dX11_undo_25 q7 rfl rfl (by decide) w_317 rfl (fun c7 => ?_)
    have c7 : in32 _ := c7
    cases hf
    exact r_jret C hr dX11_undo_28 c7
  · have hf := ite_p n2 hf
    refine r_bipush C dX11_undo_7 rfl ?_
    cases hf
    exact r_jret C hr dX11_undo_9 (in32_of rfl)
set_option maxRecDepth 20000 in
theorem am_X11_undo (l : Launch) (n : Nat) : AM l yX11_undo cX11_undo 1 (some .int) 3 104 [2] 0 (un1 (f_X11_undo n)) := by
  refine AM.intro (by decide) (fun xs hx => ?_) (fun g xs h Z hl C hr hx hf => ?_)
  · obtain ⟨a0, rfl, c0⟩ := canL_1 hx
    exact Nat.le_of_ble_eq_true rfl
  · obtain ⟨a0, rfl, c0⟩ := canL_1 hx
    have hf := (un1_e _ a0 _).symm.trans hf
    exact e_X11_undo (n := n) C hr c0 hf
/-! LinesPromised$Papers.finished()I -/
theorem dX5_finished_0 : decode cX5_finished 0 = .ok (.iconst 0, 1) := by decide +kernel
theorem dX5_finished_1 : decode cX5_finished 1 = .ok (.istore_n 1, 1) := by decide +kernel
theorem dX5_finished_2 : decode cX5_finished 2 = .ok (.iconst 0, 1) := by decide +kernel
theorem dX5_finished_3 : decode cX5_finished 3 = .ok (.istore_n 2, 1) := by decide +kernel
theorem dX5_finished_4 : decode cX5_finished 4 = .ok (.iload_n 2, 1) := by decide +kernel
theorem dX5_finished_5 : decode cX5_finished 5 = .ok (.aload_n 0, 1) := by decide +kernel
theorem dX5_finished_6 : decode cX5_finished 6 = .ok (.getfield 44, 3) := by decide +kernel
theorem dX5_finished_9 : decode cX5_finished 9 = .ok (.if_icmp .ge 23, 3) := by decide +kernel
theorem dX5_finished_12 : decode cX5_finished 12 = .ok (.aload_n 0, 1) := by decide +kernel
theorem dX5_finished_13 : decode cX5_finished 13 = .ok (.getfield 25, 3) := by decide +kernel
theorem dX5_finished_16 : decode cX5_finished 16 = .ok (.iload_n 2, 1) := by decide +kernel
theorem dX5_finished_17 : decode cX5_finished 17 = .ok (.iaload, 1) := by decide +kernel
theorem dX5_finished_18 : decode cX5_finished 18 = .ok (.bipush (-5), 2) := by decide +kernel
theorem dX5_finished_20 : decode cX5_finished 20 = .ok (.if_icmp .eq 6, 3) := by decide +kernel
theorem dX5_finished_23 : decode cX5_finished 23 = .ok (.iinc 1 1, 3) := by decide +kernel
theorem dX5_finished_26 : decode cX5_finished 26 = .ok (.iinc 2 1, 3) := by decide +kernel
theorem dX5_finished_29 : decode cX5_finished 29 = .ok (.goto (-25), 3) := by decide +kernel
theorem dX5_finished_32 : decode cX5_finished 32 = .ok (.iload_n 1, 1) := by decide +kernel
theorem dX5_finished_33 : decode cX5_finished 33 = .ok (.ireturn, 1) := by decide +kernel
theorem cm_X5_finished : CM yX5_finished cX5_finished 3 (some .int) 0 5 := ⟨w_1390, w_1391, w_1392, w_90, ⟨by decide +kernel, by decide +kernel, by decide +kernel⟩, ⟨_, _, rfl⟩, by decide⟩
noncomputable def f_X5_finished_26 (n : Nat) (rec4 : Int → Int → MM → RR) (v0 v1 v2 : Int) (h : MM) : RR :=
  lb (wr (v2 + 1)) fun x1 =>
  rec4 v1 x1 h
noncomputable def f_X5_finished_4b (n : Nat) (rec4 : Int → Int → MM → RR) (v0 v1 v2 : Int) (h : MM) : RR :=
  gf h v0 5 7 fun r1 =>
  if r1 ≤ v2 then
    some (v1, h)
  else
  gf h v0 5 3 fun r3 =>
  rd h r3 100 v2 fun r4 =>
  if r4 = (-5) then
    f_X5_finished_26 n rec4 v0 v1 v2 h
  else
  lb (wr (v1 + 1)) fun x6 =>
  f_X5_finished_26 n rec4 v0 x6 v2 h
noncomputable def f_X5_finished_4 (n : Nat)  (v0 : Int) : Nat → Int → Int → MM → RR
  | 0, _, _, _ => none
  | k + 1, v1, v2, h => f_X5_finished_4b n  (f_X5_finished_4 n  v0 k) v0 v1 v2 h
noncomputable def f_X5_finished (n : Nat) (v0 : Int) (h : MM) : RR :=
  f_X5_finished_4 n v0 n 0 0 h
set_option maxRecDepth 20000 in
theorem b_X5_finished_26 {g : GT} {Z : Int × MM} {n : Nat} (C : Cx g cX5_finished 3 yX5_finished 0 0) (hr : Rt g (some .int) 0 Z) {v0 v1 v2 : Int}  {rec4 : Int → Int → MM → RR} (L4 : ∀ (u1 u2 : Int) (h : MM), in32 u1 → in32 u2 → rec4 u1 u2 h = some Z → G g 4 [(2, v0), (0, u1), (0, u2)] [] h) (cv1 : in32 v1) (cv2 : in32 v2) {h : MM} (hf : f_X5_finished_26 n rec4 v0 v1 v2 h = some Z) : G g 26 [(2, v0), (0, v1), (0, v2)] [] h := by
  unfold f_X5_finished_26 at hf
  obtain ⟨x1, e1, hf⟩ := lb_s hf
  have c1 : in32 x1 := by rw [e1]; exact (in32_t _)
  refine r_iincL C dX5_finished_26 rfl e1 (Nat.le_of_ble_eq_true rfl) rfl ?_
  refine r_goto C dX5_finished_29 (tgt := 4) (by decide) ?_
  exact G.mask [true, true, true] rfl rfl (L4 _ _ _ cv1 c1 hf)
set_option maxRecDepth 20000 in
theorem b_X5_finished_4b {g : GT} {Z : Int × MM} {n : Nat} (C : Cx g cX5_finished 3 yX5_finished 0 0) (hr : Rt g (some .int) 0 Z) {v0 v1 v2 : Int}  {rec4 : Int → Int → MM → RR} (L4 : ∀ (u1 u2 : Int) (h : MM), in32 u1 → in32 u2 → rec4 u1 u2 h = some Z → G g 4 [(2, v0), (0, u1), (0, u2)] [] h) (cv1 : in32 v1) (cv2 : in32 v2) {h : MM} (hf : f_X5_finished_4b n rec4 v0 v1 v2 h = some Z) : G g 4 [(2, v0), (0, v1), (0, v2)] [] h := by
  unfold f_X5_finished_4b at hf
  refine r_iload_n C dX5_finished_4 rfl ?_
  refine r_aload_n C dX5_finished_5 rfl ?_
  obtain ⟨q1, hf⟩ := gf_s hf
  refine r_gf C ct5 (j := 7) (ji := 7) dX5_finished_6 q1 rfl rfl (by decide) w_177 rfl (fun c1 => ?_)
  have c1 : in32 _ := c1
  refine r_icmp_ge C dX5_finished_9 (tgt := 32) (by decide) cv2 c1 (fun n2 => ?_) (fun n2 => ?_)
  · have hf := ite_p n2 hf
    refine r_iload_n C dX5_finished_32 rfl ?_
    cases hf
    exact r_jret C hr dX5_finished_33 cv1
  · have hf := ite_n n2 hf
    refine r_aload_n C dX5_finished_12 rfl ?_
    obtain ⟨q3, hf⟩ := gf_s hf
    refine r_gf C ct5 (j := 3) (ji := 3) dX5_finished_13 q3 rfl rfl (by decide) w_171 rfl (fun c3 => ?_)
    refine r_iload_n C dX5_finished_16 rfl ?_
    obtain ⟨q4, hf⟩ := rd_s hf
    refine r_iald C dX5_finished_17 q4 rfl (fun c4 => ?_)
    refine r_bipush C dX5_finished_18 rfl ?_
    refine r_icmp_eq C dX5_finished_20 (tgt := 26) (by decide) c4 (in32_of rfl) (fun n5 => ?_) (fun n5 => ?_)
    · have hf := ite_p n5 hf
      exact G.mask [true, true, true] rfl rfl (b_X5_finished_26 C hr L4 cv1 cv2 hf)
    · have hf := ite_n n5 hf
      obtain ⟨x6, e6, hf⟩ := lb_s hf
      have c6 : in32 x6 := by rw [e6]; exact (in32_t _)
      refine r_iincL C dX5_finished_23 rfl e6 (Nat.le_of_ble_eq_true rfl) rfl ?_
      exact G.mask [true, true, true] rfl rfl (b_X5_finished_26 C hr L4 c6 cv2 hf)
set_option maxRecDepth 20000 in
theorem l_X5_finished_4 {g : GT} {Z : Int × MM} {n : Nat} (C : Cx g cX5_finished 3 yX5_finished 0 0) (hr : Rt g (some .int) 0 Z) {v0 : Int}    : ∀ (k : Nat) (v1 v2 : Int) (h : MM), in32 v1 → in32 v2 → f_X5_finished_4 n  v0 k v1 v2 h = some Z → G g 4 [(2, v0), (0, v1), (0, v2)] [] h := by
  intro k
  induction k with
  | zero => intro v1 v2 h cv1 cv2 hf; exact absurd hf (by intro z; cases z)
  | succ k ih => intro v1 v2 h cv1 cv2 hf; exact b_X5_finished_4b C hr (rec4 := f_X5_finished_4 n  v0 k)  ih cv1 cv2 (show f_X5_finished_4b n  (f_X5_finished_4 n  v0 k) v0 v1 v2 h = some Z from hf)
set_option maxRecDepth 20000 in
theorem e_X5_finished {g : GT} {Z : Int × MM} {n : Nat} (C : Cx g cX5_finished 3 yX5_finished 0 0) (hr : Rt g (some .int) 0 Z) {v0 : Int} (cv0 : cK 2 v0) {h : MM} (hf : f_X5_finished n v0 h = some Z) : G g 0 [(2, v0), (3, 0), (3, 0)] [] h := by
  unfold f_X5_finished at hf
  refine r_iconst C dX5_finished_0 ?_
  refine r_istore_n C dX5_finished_1 (Nat.le_of_ble_eq_true rfl) rfl ?_
  refine r_iconst C dX5_finished_2 ?_
  refine r_istore_n C dX5_finished_3 (Nat.le_of_ble_eq_true rfl) rfl ?_
  exact G.mask [true, true, true] rfl rfl (l_X5_finished_4 C hr   _ _ _ _ (in32_of rfl) (in32_of rfl) hf)
set_option maxRecDepth 20000 in
theorem am_X5_finished (l : Launch) (n : Nat) : AM l yX5_finished cX5_finished 3 (some .int) 0 0 [2] 0 (un1 (f_X5_finished n)) := by
  refine AM.intro (by decide) (fun xs hx => ?_) (fun g xs h Z hl C hr hx hf => ?_)
  · obtain ⟨a0, rfl, c0⟩ := canL_1 hx
    exact Nat.le_of_ble_eq_true rfl
  · obtain ⟨a0, rfl, c0⟩ := canL_1 hx
    have hf := (un1_e _ a0 _).symm.trans hf
    exact e_X5_finished (n := n) C hr c0 hf
/-! LinesPromised.count(I)I -/
theorem dX11_count_0 : decode cX11_count 0 = .ok (.iload_n 1, 1) := by decide +kernel
theorem dX11_count_1 : decode cX11_count 1 = .ok (.tableswitch 168 0 10 #[59, 70, 81, 89, 97, 105, 113, 124, 135, 146, 157], 59) := by decide +kernel
theorem dX11_count_60 : decode cX11_count 60 = .ok (.aload_n 0, 1) := by decide +kernel
theorem dX11_count_61 : decode cX11_count 61 = .ok (.getfield 10, 3) := by decide +kernel
theorem dX11_count_64 : decode cX11_count 64 = .ok (.getfield 50, 3) := by decide +kernel
theorem dX11_count_67 : decode cX11_count 67 = .ok (.getfield 66, 3) := by decide +kernel
theorem dX11_count_70 : decode cX11_count 70 = .ok (.ireturn, 1) := by decide +kernel
theorem dX11_count_71 : decode cX11_count 71 = .ok (.aload_n 0, 1) := by decide +kernel
theorem dX11_count_72 : decode cX11_count 72 = .ok (.getfield 10, 3) := by decide +kernel
theorem dX11_count_75 : decode cX11_count 75 = .ok (.getfield 133, 3) := by decide +kernel
theorem dX11_count_78 : decode cX11_count 78 = .ok (.getfield 410, 3) := by decide +kernel
theorem dX11_count_81 : decode cX11_count 81 = .ok (.ireturn, 1) := by decide +kernel
theorem dX11_count_82 : decode cX11_count 82 = .ok (.aload_n 0, 1) := by decide +kernel
theorem dX11_count_83 : decode cX11_count 83 = .ok (.getfield 10, 3) := by decide +kernel
theorem dX11_count_86 : decode cX11_count 86 = .ok (.getfield 100, 3) := by decide +kernel
theorem dX11_count_89 : decode cX11_count 89 = .ok (.ireturn, 1) := by decide +kernel
theorem dX11_count_90 : decode cX11_count 90 = .ok (.aload_n 0, 1) := by decide +kernel
theorem dX11_count_91 : decode cX11_count 91 = .ok (.getfield 10, 3) := by decide +kernel
theorem dX11_count_94 : decode cX11_count 94 = .ok (.getfield 148, 3) := by decide +kernel
theorem dX11_count_97 : decode cX11_count 97 = .ok (.ireturn, 1) := by decide +kernel
theorem dX11_count_98 : decode cX11_count 98 = .ok (.aload_n 0, 1) := by decide +kernel
theorem dX11_count_99 : decode cX11_count 99 = .ok (.getfield 10, 3) := by decide +kernel
theorem dX11_count_102 : decode cX11_count 102 = .ok (.getfield 90, 3) := by decide +kernel
theorem dX11_count_105 : decode cX11_count 105 = .ok (.ireturn, 1) := by decide +kernel
theorem dX11_count_106 : decode cX11_count 106 = .ok (.aload_n 0, 1) := by decide +kernel
theorem dX11_count_107 : decode cX11_count 107 = .ok (.getfield 10, 3) := by decide +kernel
theorem dX11_count_110 : decode cX11_count 110 = .ok (.getfield 87, 3) := by decide +kernel
theorem dX11_count_113 : decode cX11_count 113 = .ok (.ireturn, 1) := by decide +kernel
theorem dX11_count_114 : decode cX11_count 114 = .ok (.aload_n 0, 1) := by decide +kernel
theorem dX11_count_115 : decode cX11_count 115 = .ok (.getfield 10, 3) := by decide +kernel
theorem dX11_count_118 : decode cX11_count 118 = .ok (.getfield 133, 3) := by decide +kernel
theorem dX11_count_121 : decode cX11_count 121 = .ok (.invokevirtual 269, 3) := by decide +kernel
theorem dX11_count_124 : decode cX11_count 124 = .ok (.ireturn, 1) := by decide +kernel
theorem dX11_count_125 : decode cX11_count 125 = .ok (.aload_n 0, 1) := by decide +kernel
theorem dX11_count_126 : decode cX11_count 126 = .ok (.getfield 10, 3) := by decide +kernel
theorem dX11_count_129 : decode cX11_count 129 = .ok (.getfield 133, 3) := by decide +kernel
theorem dX11_count_132 : decode cX11_count 132 = .ok (.invokevirtual 411, 3) := by decide +kernel
theorem dX11_count_135 : decode cX11_count 135 = .ok (.ireturn, 1) := by decide +kernel
theorem dX11_count_136 : decode cX11_count 136 = .ok (.aload_n 0, 1) := by decide +kernel
theorem dX11_count_137 : decode cX11_count 137 = .ok (.getfield 10, 3) := by decide +kernel
theorem dX11_count_140 : decode cX11_count 140 = .ok (.getfield 304, 3) := by decide +kernel
theorem dX11_count_143 : decode cX11_count 143 = .ok (.getfield 308, 3) := by decide +kernel
theorem dX11_count_146 : decode cX11_count 146 = .ok (.ireturn, 1) := by decide +kernel
theorem dX11_count_147 : decode cX11_count 147 = .ok (.aload_n 0, 1) := by decide +kernel
theorem dX11_count_148 : decode cX11_count 148 = .ok (.getfield 10, 3) := by decide +kernel
theorem dX11_count_151 : decode cX11_count 151 = .ok (.getfield 78, 3) := by decide +kernel
theorem dX11_count_154 : decode cX11_count 154 = .ok (.getfield 330, 3) := by decide +kernel
theorem dX11_count_157 : decode cX11_count 157 = .ok (.ireturn, 1) := by decide +kernel
theorem dX11_count_158 : decode cX11_count 158 = .ok (.aload_n 0, 1) := by decide +kernel
theorem dX11_count_159 : decode cX11_count 159 = .ok (.getfield 10, 3) := by decide +kernel
theorem dX11_count_162 : decode cX11_count 162 = .ok (.getfield 133, 3) := by decide +kernel
theorem dX11_count_165 : decode cX11_count 165 = .ok (.getfield 294, 3) := by decide +kernel
theorem dX11_count_168 : decode cX11_count 168 = .ok (.ireturn, 1) := by decide +kernel
theorem dX11_count_169 : decode cX11_count 169 = .ok (.iconst (-1), 1) := by decide +kernel
theorem dX11_count_170 : decode cX11_count 170 = .ok (.ireturn, 1) := by decide +kernel
theorem cm_X11_count : CM yX11_count cX11_count 2 (some .int) 1 11 := ⟨w_1386, w_1387, w_1388, w_87, ⟨by decide +kernel, by decide +kernel, by decide +kernel⟩, ⟨_, _, rfl⟩, by decide⟩
noncomputable def f_X11_count (n : Nat) (v0 v1 : Int) (h : MM) : RR :=
  if v1 = 0 then
    gf h v0 11 0 fun r2 =>
    gf h r2 10 0 fun r3 =>
    gf h r3 1 5 fun r4 =>
    some (r4, h)
  else
  if v1 = 1 then
    gf h v0 11 0 fun r6 =>
    gf h r6 10 1 fun r7 =>
    gf h r7 5 7 fun r8 =>
    some (r8, h)
  else
  if v1 = 2 then
    gf h v0 11 0 fun r10 =>
    gf h r10 10 8 fun r11 =>
    some (r11, h)
  else
  if v1 = 3 then
    gf h v0 11 0 fun r13 =>
    gf h r13 10 9 fun r14 =>
    some (r14, h)
  else
  if v1 = 4 then
    gf h v0 11 0 fun r16 =>
    gf h r16 10 7 fun r17 =>
    some (r17, h)
  else
  if v1 = 5 then
    gf h v0 11 0 fun r19 =>
    gf h r19 10 10 fun r20 =>
    some (r20, h)
  else
  if v1 = 6 then
    gf h v0 11 0 fun r22 =>
    gf h r22 10 1 fun r23 =>
    gk h r23 5 <|
    bd (f_X5_granted n r23 h) fun r24 h24 =>
    some (r24, h24)
  else
  if v1 = 7 then
    gf h v0 11 0 fun r26 =>
    gf h r26 10 1 fun r27 =>
    gk h r27 5 <|
    bd (f_X5_finished n r27 h) fun r28 h28 =>
    some (r28, h28)
  else
  if v1 = 8 then
    gf h v0 11 0 fun r30 =>
    gf h r30 10 3 fun r31 =>
    gf h r31 6 2 fun r32 =>
    some (r32, h)
  else
  if v1 = 9 then
    gf h v0 11 0 fun r34 =>
    gf h r34 10 2 fun r35 =>
    gf h r35 8 8 fun r36 =>
    some (r36, h)
  else
  if v1 = 10 then
    gf h v0 11 0 fun r38 =>
    gf h r38 10 1 fun r39 =>
    gf h r39 5 9 fun r40 =>
    some (r40, h)
  else
  some ((-1), h)
set_option maxRecDepth 20000 in
theorem e_X11_count {g : GT} {Z : Int × MM} {n : Nat} (C : Cx g cX11_count 2 yX11_count 5 110) (hr : Rt g (some .int) 0 Z) {v0 v1 : Int} (cv0 : cK 2 v0) (cv1 : cK 0 v1) {h : MM} (hf : f_X11_count n v0 v1 h = some Z) : G g 0 [(2, v0), (0, v1)] [] h := by
  have cv1 : in32 v1 := cv1
  unfold f_X11_count at hf
  refine r_iload_n C dX11_count_0 rfl ?_
  rcases ite_s hf with ⟨n1, hf⟩ | ⟨n1, hf⟩
  · refine r_tsw C dX11_count_1 (tgt := 60) cv1 n1 rfl rfl (by decide) ?_
    refine r_aload_n C dX11_count_60 rfl ?_
    obtain ⟨q2, hf⟩ := gf_s hf
    refine r_gf C ct11 (j := 0) (ji := 0) dX11_count_61 q2 rfl rfl (by decide) w_440 rfl (fun c2 => ?_)
    obtain ⟨q3, hf⟩ := gf_s hf
    refine r_gf C ct10 (j := 0) (ji := 0) dX11_count_64 q3 rfl rfl (by decide) w_300 rfl (fun c3 => ?_)
    obtain ⟨q4, hf⟩ := gf_s hf
    refine r_gf C ct1 (j := 5) (ji := 5) dX11_count_67 q4 rfl rfl (by decide) w_142 rfl (fun c4 => ?_)
    have c4 : in32 _ := c4
    cases hf
    exact r_jret C hr dX11_count_70 c4
  rcases ite_s hf with ⟨n5, hf⟩ | ⟨n5, hf⟩
  · refine r_tsw C dX11_count_1 (tgt := 71) cv1 n5 rfl rfl (by decide) ?_
    refine r_aload_n C dX11_count_71 rfl ?_
    obtain ⟨q6, hf⟩ := gf_s hf
    refine r_gf C ct11 (j := 0) (ji := 0) dX11_count_72 q6 rfl rfl (by decide) w_440 rfl (fun c6 => ?_)
    obtain ⟨q7, hf⟩ := gf_s hf
    refine r_gf C ct10 (j := 1) (ji := 1) dX11_count_75 q7 rfl rfl (by decide) w_302 rfl (fun c7 => ?_)
    obtain ⟨q8, hf⟩ := gf_s hf
    refine r_gf C ct5 (j := 7) (ji := 7) dX11_count_78 q8 rfl rfl (by decide) w_180 rfl (fun c8 => ?_)
    have c8 : in32 _ := c8
    cases hf
    exact r_jret C hr dX11_count_81 c8
  rcases ite_s hf with ⟨n9, hf⟩ | ⟨n9, hf⟩
  · refine r_tsw C dX11_count_1 (tgt := 82) cv1 n9 rfl rfl (by decide) ?_
    refine r_aload_n C dX11_count_82 rfl ?_
    obtain ⟨q10, hf⟩ := gf_s hf
    refine r_gf C ct11 (j := 0) (ji := 0) dX11_count_83 q10 rfl rfl (by decide) w_440 rfl (fun c10 => ?_)
    obtain ⟨q11, hf⟩ := gf_s hf
    refine r_gf C ct10 (j := 8) (ji := 8) dX11_count_86 q11 rfl rfl (by decide) w_315 rfl (fun c11 => ?_)
    have c11 : in32 _ := c11
    cases hf
    exact r_jret C hr dX11_count_89 c11
  rcases ite_s hf with ⟨n12, hf⟩ | ⟨n12, hf⟩
  · refine r_tsw C dX11_count_1 (tgt := 90) cv1 n12 rfl rfl (by decide) ?_
    refine r_aload_n C dX11_count_90 rfl ?_
    obtain ⟨q13, hf⟩ := gf_s hf
    refine r_gf C ct11 (j := 0) (ji := 0) dX11_count_91 q13 rfl rfl (by decide) w_440 rfl (fun c13 => ?_)
    obtain ⟨q14, hf⟩ := gf_s hf
    refine r_gf C ct10 (j := 9) (ji := 9) dX11_count_94 q14 rfl rfl (by decide) w_317 rfl (fun c14 => ?_)
    have c14 : in32 _ := c14
    cases hf
    exact r_jret C hr dX11_count_97 c14
  rcases ite_s hf with ⟨n15, hf⟩ | ⟨n15, hf⟩
  · refine r_tsw C dX11_count_1 (tgt := 98) cv1 n15 rfl rfl (by decide) ?_
    refine r_aload_n C dX11_count_98 rfl ?_
    obtain ⟨q16, hf⟩ := gf_s hf
    refine r_gf C ct11 (j := 0) (ji := 0) dX11_count_99 q16 rfl rfl (by decide) w_440 rfl (fun c16 => ?_)
    obtain ⟨q17, hf⟩ := gf_s hf
    refine r_gf C ct10 (j := 7) (ji := 7) dX11_count_102 q17 rfl rfl (by decide) w_313 rfl (fun c17 => ?_)
    have c17 : in32 _ := c17
    cases hf
    exact r_jret C hr dX11_count_105 c17
  rcases ite_s hf with ⟨n18, hf⟩ | ⟨n18, hf⟩
  · refine r_tsw C dX11_count_1 (tgt := 106) cv1 n18 rfl rfl (by decide) ?_
    refine r_aload_n C dX11_count_106 rfl ?_
    obtain ⟨q19, hf⟩ := gf_s hf
    refine r_gf C ct11 (j := 0) (ji := 0) dX11_count_107 q19 rfl rfl (by decide) w_440 rfl (fun c19 => ?_)
    obtain ⟨q20, hf⟩ := gf_s hf
    refine r_gf C ct10 (j := 10) (ji := 10) dX11_count_110 q20 rfl rfl (by decide) w_319 rfl (fun c20 => ?_)
    have c20 : in32 _ := c20
    cases hf
    exact r_jret C hr dX11_count_113 c20
  rcases ite_s hf with ⟨n21, hf⟩ | ⟨n21, hf⟩
  · refine r_tsw C dX11_count_1 (tgt := 114) cv1 n21 rfl rfl (by decide) ?_
    refine r_aload_n C dX11_count_114 rfl ?_
    obtain ⟨q22, hf⟩ := gf_s hf
    refine r_gf C ct11 (j := 0) (ji := 0) dX11_count_115 q22 rfl rfl (by decide) w_440 rfl (fun c22 => ?_)
    obtain ⟨q23, hf⟩ := gf_s hf
    refine r_gf C ct10 (j := 1) (ji := 1) dX11_count_118 q23 rfl rfl (by decide) w_302 rfl (fun c23 => ?_)
    obtain ⟨p24, hf⟩ := gk_s hf
    obtain ⟨r24, h24, hq24, hf⟩ := bd_s hf
    refine r_cV0 C (am_X5_granted (gl g) n) cm_X5_granted w_1005 dX11_count_121 ⟨Nat.le_of_ble_eq_true rfl, Nat.le_of_ble_eq_true rfl⟩ p24 rfl  rfl (Nat.le_of_ble_eq_true rfl) hq24 (by decide) (fun c24 => ?_)
    have c24 : in32 _ := c24
    cases hf
    exact r_jret C hr dX11_count_124 c24
  rcases ite_s hf with ⟨n25, hf⟩ | ⟨n25, hf⟩
  · refine r_tsw C dX11_count_1 (tgt := 125) cv1 n25 rfl rfl (by decide) ?_
    refine r_aload_n C dX11_count_125 rfl ?_
    obtain ⟨q26, hf⟩ := gf_s hf
    refine r_gf C ct11 (j := 0) (ji := 0) dX11_count_126 q26 rfl rfl (by decide) w_440 rfl (fun c26 => ?_)
    obtain ⟨q27, hf⟩ := gf_s hf
    refine r_gf C ct10 (j := 1) (ji := 1) dX11_count_129 q27 rfl rfl (by decide) w_302 rfl (fun c27 => ?_)
    obtain ⟨p28, hf⟩ := gk_s hf
    obtain ⟨r28, h28, hq28, hf⟩ := bd_s hf
    refine r_cV0 C (am_X5_finished (gl g) n) cm_X5_finished w_1389 dX11_count_132 ⟨Nat.le_of_ble_eq_true rfl, Nat.le_of_ble_eq_true rfl⟩ p28 rfl  rfl (Nat.le_of_ble_eq_true rfl) hq28 (by decide) (fun c28 => ?_)
    have c28 : in32 _ := c28
    cases hf
    exact r_jret C hr dX11_count_135 c28
  rcases ite_s hf with ⟨n29, hf⟩ | ⟨n29, hf⟩
  · refine r_tsw C dX11_count_1 (tgt := 136) cv1 n29 rfl rfl (by decide) ?_
    refine r_aload_n C dX11_count_136 rfl ?_
    obtain ⟨q30, hf⟩ := gf_s hf
    refine r_gf C ct11 (j := 0) (ji := 0) dX11_count_137 q30 rfl rfl (by decide) w_440 rfl (fun c30 => ?_)
    obtain ⟨q31, hf⟩ := gf_s hf
    refine r_gf C ct10 (j := 3) (ji := 3) dX11_count_140 q31 rfl rfl (by decide) w_306 rfl (fun c31 => ?_)
    obtain ⟨q32, hf⟩ := gf_s hf
    refine r_gf C ct6 (j := 2) (ji := 2) dX11_count_143 q32 rfl rfl (by decide) w_256 rfl (fun c32 => ?_)
    have c32 : in32 _ := c32
    cases hf
    exact r_jret C hr dX11_count_146 c32
  rcases ite_s hf with ⟨n33, hf⟩ | ⟨n33, hf⟩
  · refine r_tsw C dX11_count_1 (tgt := 147) cv1 n33 rfl rfl (by decide) ?_
    refine r_aload_n C dX11_count_147 rfl ?_
    obtain ⟨q34, hf⟩ := gf_s hf
    refine r_gf C ct11 (j := 0) (ji := 0) dX11_count_148 q34 rfl rfl (by decide) w_440 rfl (fun c34 => ?_)
    obtain ⟨q35, hf⟩ := gf_s hf
    refine r_gf C ct10 (j := 2) (ji := 2) dX11_count_151 q35 rfl rfl (by decide) w_304 rfl (fun c35 => ?_)
    obtain ⟨q36, hf⟩ := gf_s hf
    refine r_gf C ct8 (j := 8) (ji := 8) dX11_count_154 q36 rfl rfl (by decide) w_227 rfl (fun c36 => ?_)
    have c36 : in32 _ := c36
    cases hf
    exact r_jret C hr dX11_count_157 c36
  rcases ite_s hf with ⟨n37, hf⟩ | ⟨n37, hf⟩
  · refine r_tsw C dX11_count_1 (tgt := 158) cv1 n37 rfl rfl (by decide) ?_
    refine r_aload_n C dX11_count_158 rfl ?_
    obtain ⟨q38, hf⟩ := gf_s hf
    refine r_gf C ct11 (j := 0) (ji := 0) dX11_count_159 q38 rfl rfl (by decide) w_440 rfl (fun c38 => ?_)
    obtain ⟨q39, hf⟩ := gf_s hf
    refine r_gf C ct10 (j := 1) (ji := 1) dX11_count_162 q39 rfl rfl (by decide) w_302 rfl (fun c39 => ?_)
    obtain ⟨q40, hf⟩ := gf_s hf
    refine r_gf C ct5 (j := 9) (ji := 9) dX11_count_165 q40 rfl rfl (by decide) w_185 rfl (fun c40 => ?_)
    have c40 : in32 _ := c40
    cases hf
    exact r_jret C hr dX11_count_168 c40
  refine r_tswd C dX11_count_1 (tgt := 169) cv1 (by omega) (by decide) ?_
  refine r_iconst C dX11_count_169 ?_
  cases hf
  exact r_jret C hr dX11_count_170 (in32_of rfl)
set_option maxRecDepth 20000 in
theorem am_X11_count (l : Launch) (n : Nat) : AM l yX11_count cX11_count 2 (some .int) 5 110 [2, 0] 0 (un2 (f_X11_count n)) := by
  refine AM.intro (by decide) (fun xs hx => ?_) (fun g xs h Z hl C hr hx hf => ?_)
  · obtain ⟨a0, a1, rfl, c0, c1⟩ := canL_2 hx
    exact Nat.le_of_ble_eq_true rfl
  · obtain ⟨a0, a1, rfl, c0, c1⟩ := canL_2 hx
    have hf := (un2_e _ a0 a1 _).symm.trans hf
    exact e_X11_count (n := n) C hr c0 c1 hf
/-! LinesPromised$Sheet.clear(II)V -/
theorem dX9_clear_0 : decode cX9_clear 0 = .ok (.aload_n 0, 1) := by decide +kernel
theorem dX9_clear_1 : decode cX9_clear 1 = .ok (.getfield 9, 3) := by decide +kernel
theorem dX9_clear_4 : decode cX9_clear 4 = .ok (.iconst 0, 1) := by decide +kernel
theorem dX9_clear_5 : decode cX9_clear 5 = .ok (.invokestatic 28, 3) := by decide +kernel
theorem dX9_clear_8 : decode cX9_clear 8 = .ok (.aload_n 0, 1) := by decide +kernel
theorem dX9_clear_9 : decode cX9_clear 9 = .ok (.iload_n 1, 1) := by decide +kernel
theorem dX9_clear_10 : decode cX9_clear 10 = .ok (.putfield 15, 3) := by decide +kernel
theorem dX9_clear_13 : decode cX9_clear 13 = .ok (.aload_n 0, 1) := by decide +kernel
theorem dX9_clear_14 : decode cX9_clear 14 = .ok (.iload_n 2, 1) := by decide +kernel
theorem dX9_clear_15 : decode cX9_clear 15 = .ok (.putfield 25, 3) := by decide +kernel
theorem dX9_clear_18 : decode cX9_clear 18 = .ok (.return_, 1) := by decide +kernel
theorem cm_X9_clear : CM yX9_clear cX9_clear 3 none 2 9 := ⟨w_1398, w_1399, w_1400, w_93, ⟨by decide +kernel, by decide +kernel, by decide +kernel⟩, ⟨_, _, rfl⟩, by decide⟩
noncomputable def f_X9_clear (n : Nat) (v0 v1 v2 : Int) (h : MM) : RR :=
  gf h v0 9 0 fun r1 =>
  bd (f_J7_fill_53178 n r1 0 h) fun r2 h2 =>
  pf h2 v0 9 1 v1 fun h3 =>
  pf h3 v0 9 2 v2 fun h4 =>
  some (0, h4)
set_option maxRecDepth 20000 in
theorem e_X9_clear {g : GT} {Z : Int × MM} {n : Nat} (C : Cx g cX9_clear 3 yX9_clear 1 23) (hr : Rt g none 3 Z) {v0 v1 v2 : Int} (cv0 : cK 2 v0) (cv1 : cK 0 v1) (cv2 : cK 0 v2) {h : MM} (hf : f_X9_clear n v0 v1 v2 h = some Z) : G g 0 [(2, v0), (0, v1), (0, v2)] [] h := by
  have cv1 : in32 v1 := cv1
  have cv2 : in32 v2 := cv2
  unfold f_X9_clear at hf
  refine r_aload_n C dX9_clear_0 rfl ?_
  obtain ⟨q1, hf⟩ := gf_s hf
  refine r_gf C ct9 (j := 0) (ji := 0) dX9_clear_1 q1 rfl rfl (by decide) w_280 rfl (fun c1 => ?_)
  refine r_iconst C dX9_clear_4 ?_
  obtain ⟨r2, h2, hq2, hf⟩ := bd_s hf
  refine r_cS2v C (am_J7_fill_53178 (gl g) n) cm_J7_fill_53178 w_1401 dX9_clear_5 ⟨Nat.le_of_ble_eq_true rfl, Nat.le_of_ble_eq_true rfl⟩ trivial (in32_of rfl) rfl (Nat.le_of_ble_eq_true rfl) hq2 ?_
  refine r_aload_n C dX9_clear_8 rfl ?_
  refine r_iload_n C dX9_clear_9 rfl ?_
  obtain ⟨q3, hf⟩ := pf_s hf
  refine r_pf C ct9 (j := 1) (ji := 1) dX9_clear_10 q3 rfl rfl (by decide) w_284 rfl (Or.inl rfl) nar_int cv1 ?_
  refine r_aload_n C dX9_clear_13 rfl ?_
  refine r_iload_n C dX9_clear_14 rfl ?_
  obtain ⟨q4, hf⟩ := pf_s hf
  refine r_pf C ct9 (j := 2) (ji := 2) dX9_clear_15 q4 rfl rfl (by decide) w_287 rfl (Or.inl rfl) nar_int cv2 ?_
  cases hf
  exact r_vret C hr dX9_clear_18
set_option maxRecDepth 20000 in
theorem am_X9_clear (l : Launch) (n : Nat) : AM l yX9_clear cX9_clear 3 none 1 23 [2, 0, 0] 3 (un3 (f_X9_clear n)) := by
  refine AM.intro (by decide) (fun xs hx => ?_) (fun g xs h Z hl C hr hx hf => ?_)
  · obtain ⟨a0, a1, a2, rfl, c0, c1, c2⟩ := canL_3 hx
    exact Nat.le_of_ble_eq_true rfl
  · obtain ⟨a0, a1, a2, rfl, c0, c1, c2⟩ := canL_3 hx
    have hf := (un3_e _ a0 a1 a2 _).symm.trans hf
    exact e_X9_clear (n := n) C hr c0 c1 c2 hf
/-! LinesPromised.sheet(III)I -/
theorem dX11_sheet_0 : decode cX11_sheet 0 = .ok (.iload_n 1, 1) := by decide +kernel
theorem dX11_sheet_1 : decode cX11_sheet 1 = .ok (.invokestatic 176, 3) := by decide +kernel
theorem dX11_sheet_4 : decode cX11_sheet 4 = .ok (.ifCond .ne 5, 3) := by decide +kernel
theorem dX11_sheet_7 : decode cX11_sheet 7 = .ok (.iconst (-1), 1) := by decide +kernel
theorem dX11_sheet_8 : decode cX11_sheet 8 = .ok (.ireturn, 1) := by decide +kernel
theorem dX11_sheet_9 : decode cX11_sheet 9 = .ok (.iload_n 2, 1) := by decide +kernel
theorem dX11_sheet_10 : decode cX11_sheet 10 = .ok (.i2l, 1) := by decide +kernel
theorem dX11_sheet_11 : decode cX11_sheet 11 = .ok (.iconst (-1), 1) := by decide +kernel
theorem dX11_sheet_12 : decode cX11_sheet 12 = .ok (.iconst 2, 1) := by decide +kernel
theorem dX11_sheet_13 : decode cX11_sheet 13 = .ok (.invokestatic 46, 3) := by decide +kernel
theorem dX11_sheet_16 : decode cX11_sheet 16 = .ok (.ifCond .eq 14, 3) := by decide +kernel
theorem dX11_sheet_19 : decode cX11_sheet 19 = .ok (.iload_n 2, 1) := by decide +kernel
theorem dX11_sheet_20 : decode cX11_sheet 20 = .ok (.iconst (-1), 1) := by decide +kernel
theorem dX11_sheet_21 : decode cX11_sheet 21 = .ok (.if_icmp .eq 12, 3) := by decide +kernel
theorem dX11_sheet_24 : decode cX11_sheet 24 = .ok (.iload_n 3, 1) := by decide +kernel
theorem dX11_sheet_25 : decode cX11_sheet 25 = .ok (.bipush 40, 2) := by decide +kernel
theorem dX11_sheet_27 : decode cX11_sheet 27 = .ok (.if_icmp .le 6, 3) := by decide +kernel
theorem dX11_sheet_30 : decode cX11_sheet 30 = .ok (.bipush (-2), 2) := by decide +kernel
theorem dX11_sheet_32 : decode cX11_sheet 32 = .ok (.ireturn, 1) := by decide +kernel
theorem dX11_sheet_33 : decode cX11_sheet 33 = .ok (.iload_n 2, 1) := by decide +kernel
theorem dX11_sheet_34 : decode cX11_sheet 34 = .ok (.iconst (-1), 1) := by decide +kernel
theorem dX11_sheet_35 : decode cX11_sheet 35 = .ok (.if_icmp .eq 10, 3) := by decide +kernel
theorem dX11_sheet_38 : decode cX11_sheet 38 = .ok (.iload_n 3, 1) := by decide +kernel
theorem dX11_sheet_39 : decode cX11_sheet 39 = .ok (.ifCond .ge 6, 3) := by decide +kernel
theorem dX11_sheet_42 : decode cX11_sheet 42 = .ok (.bipush (-14), 2) := by decide +kernel
theorem dX11_sheet_44 : decode cX11_sheet 44 = .ok (.ireturn, 1) := by decide +kernel
theorem dX11_sheet_45 : decode cX11_sheet 45 = .ok (.aload_n 0, 1) := by decide +kernel
theorem dX11_sheet_46 : decode cX11_sheet 46 = .ok (.getfield 10, 3) := by decide +kernel
theorem dX11_sheet_49 : decode cX11_sheet 49 = .ok (.getfield 179, 3) := by decide +kernel
theorem dX11_sheet_52 : decode cX11_sheet 52 = .ok (.iload_n 1, 1) := by decide +kernel
theorem dX11_sheet_53 : decode cX11_sheet 53 = .ok (.aaload, 1) := by decide +kernel
theorem dX11_sheet_54 : decode cX11_sheet 54 = .ok (.iload_n 2, 1) := by decide +kernel
theorem dX11_sheet_55 : decode cX11_sheet 55 = .ok (.iload_n 2, 1) := by decide +kernel
theorem dX11_sheet_56 : decode cX11_sheet 56 = .ok (.iconst (-1), 1) := by decide +kernel
theorem dX11_sheet_57 : decode cX11_sheet 57 = .ok (.if_icmp .ne 7, 3) := by decide +kernel
theorem dX11_sheet_60 : decode cX11_sheet 60 = .ok (.iconst 0, 1) := by decide +kernel
theorem dX11_sheet_61 : decode cX11_sheet 61 = .ok (.goto 4, 3) := by decide +kernel
theorem dX11_sheet_64 : decode cX11_sheet 64 = .ok (.iload_n 3, 1) := by decide +kernel
theorem dX11_sheet_65 : decode cX11_sheet 65 = .ok (.invokevirtual 414, 3) := by decide +kernel
theorem dX11_sheet_68 : decode cX11_sheet 68 = .ok (.iconst 1, 1) := by decide +kernel
theorem dX11_sheet_69 : decode cX11_sheet 69 = .ok (.ireturn, 1) := by decide +kernel
theorem cm_X11_sheet : CM yX11_sheet cX11_sheet 4 (some .int) 3 11 := ⟨w_1394, w_1395, w_1396, w_87, ⟨by decide +kernel, by decide +kernel, by decide +kernel⟩, ⟨_, _, rfl⟩, by decide⟩
noncomputable def f_X11_sheet_30 (n : Nat)  (h : MM) : RR :=
  some ((-2), h)
noncomputable def f_X11_sheet_65 (n : Nat)  (s0 s1 s2 : Int) (h : MM) : RR :=
  gk h s0 9 <|
  bd (f_X9_clear n s0 s1 s2 h) fun r1 h1 =>
  some (1, h1)
noncomputable def f_X11_sheet_45 (n : Nat)  (v0 v1 v2 v3 : Int) (h : MM) : RR :=
  gf h v0 11 0 fun r1 =>
  gf h r1 10 4 fun r2 =>
  rd h r2 106 v1 fun r3 =>
  if v2 = (-1) then
    f_X11_sheet_65 n r3 v2 0 h
  else
  f_X11_sheet_65 n r3 v2 v3 h
noncomputable def f_X11_sheet_33 (n : Nat)  (v0 v1 v2 v3 : Int) (h : MM) : RR :=
  if v2 = (-1) then
    f_X11_sheet_45 n v0 v1 v2 v3 h
  else
  if 0 ≤ v3 then
    f_X11_sheet_45 n v0 v1 v2 v3 h
  else
  some ((-14), h)
noncomputable def f_X11_sheet (n : Nat) (v0 v1 v2 v3 : Int) (h : MM) : RR :=
  bd (f_X11_isSheet n v1 h) fun r1 h1 =>
  if r1 = 0 then
    some ((-1), h1)
  else
  bd (f_X11_within n v2 ((-1)) 2 h1) fun r3 h3 =>
  if r3 = 0 then
    f_X11_sheet_30 n h3
  else
  if v2 = (-1) then
    f_X11_sheet_33 n v0 v1 v2 v3 h3
  else
  if v3 ≤ 40 then
    f_X11_sheet_33 n v0 v1 v2 v3 h3
  else
  f_X11_sheet_30 n h3
set_option maxRecDepth 20000 in
theorem b_X11_sheet_30 {g : GT} {Z : Int × MM} {n : Nat} (C : Cx g cX11_sheet 4 yX11_sheet 2 45) (hr : Rt g (some .int) 0 Z)     {h : MM} (hf : f_X11_sheet_30 n   h = some Z) : G g 30 [(3, 0), (3, 0), (3, 0), (3, 0)] [] h := by
  unfold f_X11_sheet_30 at hf
  refine r_bipush C dX11_sheet_30 rfl ?_
  cases hf
  exact r_jret C hr dX11_sheet_32 (in32_of rfl)
set_option maxRecDepth 20000 in
theorem b_X11_sheet_65 {g : GT} {Z : Int × MM} {n : Nat} (C : Cx g cX11_sheet 4 yX11_sheet 2 45) (hr : Rt g (some .int) 0 Z) {s0 s1 s2 : Int}    (cs1 : in32 s1) (cs2 : in32 s2) {h : MM} (hf : f_X11_sheet_65 n  s0 s1 s2 h = some Z) : G g 65 [(3, 0), (3, 0), (3, 0), (3, 0)] [(0, s2), (0, s1), (2, s0)] h := by
  unfold f_X11_sheet_65 at hf
  obtain ⟨p1, hf⟩ := gk_s hf
  obtain ⟨r1, h1, hq1, hf⟩ := bd_s hf
  refine r_cV2v C (am_X9_clear (gl g) n) cm_X9_clear w_1397 dX11_sheet_65 ⟨Nat.le_of_ble_eq_true rfl, Nat.le_of_ble_eq_true rfl⟩ p1 rfl cs1 cs2 rfl (Nat.le_of_ble_eq_true rfl) hq1 ?_
  refine r_iconst C dX11_sheet_68 ?_
  cases hf
  exact r_jret C hr dX11_sheet_69 (in32_of rfl)
set_option maxRecDepth 20000 in
theorem b_X11_sheet_45 {g : GT} {Z : Int × MM} {n : Nat} (C : Cx g cX11_sheet 4 yX11_sheet 2 45) (hr : Rt g (some .int) 0 Z) {v0 v1 v2 v3 : Int}    (cv1 : in32 v1) (cv2 : in32 v2) (cv3 : in32 v3) {h : MM} (hf : f_X11_sheet_45 n  v0 v1 v2 v3 h = some Z) : G g 45 [(2, v0), (0, v1), (0, v2), (0, v3)] [] h := by
  unfold f_X11_sheet_45 at hf
  refine r_aload_n C dX11_sheet_45 rfl ?_
  obtain ⟨q1, hf⟩ := gf_s hf
  refine r_gf C ct11 (j := 0) (ji := 0) dX11_sheet_46 q1 rfl rfl (by decide) w_440 rfl (fun c1 => ?_)
  obtain ⟨q2, hf⟩ := gf_s hf
  refine r_gf C ct10 (j := 4) (ji := 4) dX11_sheet_49 q2 rfl rfl (by decide) w_308 rfl (fun c2 => ?_)
  refine r_iload_n C dX11_sheet_52 rfl ?_
  obtain ⟨q3, hf⟩ := rd_s hf
  refine r_aald C dX11_sheet_53 q3 (tn := 106) rfl (by decide) ?_
  refine r_iload_n C dX11_sheet_54 rfl ?_
  refine r_iload_n C dX11_sheet_55 rfl ?_
  refine r_iconst C dX11_sheet_56 ?_
  refine r_icmp_ne C dX11_sheet_57 (tgt := 64) (by decide) cv2 (in32_of rfl) (fun n4 => ?_) (fun n4 => ?_)
  · have hf := ite_n n4 hf
    refine r_iload_n C dX11_sheet_64 rfl ?_
    exact G.mask [false, false, false, false] rfl rfl (b_X11_sheet_65 C hr  cv2 cv3 hf)
  · have hf := ite_p n4 hf
    refine r_iconst C dX11_sheet_60 ?_
    refine r_goto C dX11_sheet_61 (tgt := 65) (by decide) ?_
    exact G.mask [false, false, false, false] rfl rfl (b_X11_sheet_65 C hr  cv2 (in32_of rfl) hf)
set_option maxRecDepth 20000 in
theorem b_X11_sheet_33 {g : GT} {Z : Int × MM} {n : Nat} (C : Cx g cX11_sheet 4 yX11_sheet 2 45) (hr : Rt g (some .int) 0 Z) {v0 v1 v2 v3 : Int}    (cv1 : in32 v1) (cv2 : in32 v2) (cv3 : in32 v3) {h : MM} (hf : f_X11_sheet_33 n  v0 v1 v2 v3 h = some Z) : G g 33 [(2, v0), (0, v1), (0, v2), (0, v3)] [] h := by
  unfold f_X11_sheet_33 at hf
  refine r_iload_n C dX11_sheet_33 rfl ?_
  refine r_iconst C dX11_sheet_34 ?_
  refine r_icmp_eq C dX11_sheet_35 (tgt := 45) (by decide) cv2 (in32_of rfl) (fun n1 => ?_) (fun n1 => ?_)
  · have hf := ite_p n1 hf
    exact G.mask [true, true, true, true] rfl rfl (b_X11_sheet_45 C hr  cv1 cv2 cv3 hf)
  · have hf := ite_n n1 hf
    refine r_iload_n C dX11_sheet_38 rfl ?_
    refine r_if_ge C dX11_sheet_39 (tgt := 45) (by decide) cv3 (fun n2 => ?_) (fun n2 => ?_)
    · have hf := ite_p n2 hf
      exact G.mask [true, true, true, true] rfl rfl (b_X11_sheet_45 C hr  cv1 cv2 cv3 hf)
    · have hf := ite_n n2 hf
      refine r_bipush C dX11_sheet_42 rfl ?_
      cases hf
      exact r_jret C hr dX11_sheet_44 (in32_of rfl)
set_option maxRecDepth 20000 in
theorem e_X11_sheet {g : GT} {Z : Int × MM} {n : Nat} (C : Cx g cX11_sheet 4 yX11_sheet 2 45) (hr : Rt g (some .int) 0 Z) {v0 v1 v2 v3 : Int} (cv0 : cK 2 v0) (cv1 : cK 0 v1) (cv2 : cK 0 v2) (cv3 : cK 0 v3) {h : MM} (hf : f_X11_sheet n v0 v1 v2 v3 h = some Z) : G g 0 [(2, v0), (0, v1), (0, v2), (0, v3)] [] h := by
  have cv1 : in32 v1 := cv1
  have cv2 : in32 v2 := cv2
  have cv3 : in32 v3 := cv3
  unfold f_X11_sheet at hf
  refine r_iload_n C dX11_sheet_0 rfl ?_
  obtain ⟨r1, h1, hq1, hf⟩ := bd_s hf
  refine r_cS1 C (am_X11_isSheet (gl g) n) cm_X11_isSheet w_807 dX11_sheet_1 ⟨Nat.le_of_ble_eq_true rfl, Nat.le_of_ble_eq_true rfl⟩ cv1 rfl (Nat.le_of_ble_eq_true rfl) hq1 (by decide) (fun c1 => ?_)
  have c1 : in32 _ := c1
  refine r_if_ne C dX11_sheet_4 (tgt := 9) (by decide) c1 (fun n2 => ?_) (fun n2 => ?_)
  · have hf := ite_n n2 hf
    refine r_iload_n C dX11_sheet_9 rfl ?_
    refine r_i2l C dX11_sheet_10 cv2 ?_
    refine r_iconst C dX11_sheet_11 ?_
    refine r_iconst C dX11_sheet_12 ?_
    obtain ⟨r3, h3, hq3, hf⟩ := bd_s hf
    refine r_cS3 C (am_X11_within (gl g) n) cm_X11_within w_466 dX11_sheet_13 ⟨Nat.le_of_ble_eq_true rfl, Nat.le_of_ble_eq_true rfl⟩ (in64_i cv2) (in32_of rfl) (in32_of rfl) rfl (Nat.le_of_ble_eq_true rfl) hq3 (by decide) (fun c3 => ?_)
    have c3 : in32 _ := c3
    refine r_if_eq C dX11_sheet_16 (tgt := 30) (by decide) c3 (fun n4 => ?_) (fun n4 => ?_)
    · have hf := ite_p n4 hf
      exact G.mask [false, false, false, false] rfl rfl (b_X11_sheet_30 C hr   hf)
    · have hf := ite_n n4 hf
      refine r_iload_n C dX11_sheet_19 rfl ?_
      refine r_iconst C dX11_sheet_20 ?_
      refine r_icmp_eq C dX11_sheet_21 (tgt := 33) (by decide) cv2 (in32_of rfl) (fun n5 => ?_) (fun n5 => ?_)
      · have hf := ite_p n5 hf
        exact G.mask [true, true, true, true] rfl rfl (b_X11_sheet_33 C hr  cv1 cv2 cv3 hf)
      · have hf := ite_n n5 hf
        refine r_iload_n C dX11_sheet_24 rfl ?_
        refine r_bipush C dX11_sheet_25 rfl ?_
        refine r_icmp_le C dX11_sheet_27 (tgt := 33) (by decide) cv3 (in32_of rfl) (fun n6 => ?_) (fun n6 => ?_)
        · have hf := ite_p n6 hf
          exact G.mask [true, true, true, true] rfl rfl (b_X11_sheet_33 C hr  cv1 cv2 cv3 hf)
        · have hf := ite_n n6 hf
          exact G.mask [false, false, false, false] rfl rfl (b_X11_sheet_30 C hr   hf)
  · have hf := ite_p n2 hf
    refine r_iconst C dX11_sheet_7 ?_
    cases hf
    exact r_jret C hr dX11_sheet_8 (in32_of rfl)
set_option maxRecDepth 20000 in
theorem am_X11_sheet (l : Launch) (n : Nat) : AM l yX11_sheet cX11_sheet 4 (some .int) 2 45 [2, 0, 0, 0] 0 (un4 (f_X11_sheet n)) := by
  refine AM.intro (by decide) (fun xs hx => ?_) (fun g xs h Z hl C hr hx hf => ?_)
  · obtain ⟨a0, a1, a2, a3, rfl, c0, c1, c2, c3⟩ := canL_4 hx
    exact Nat.le_of_ble_eq_true rfl
  · obtain ⟨a0, a1, a2, a3, rfl, c0, c1, c2, c3⟩ := canL_4 hx
    have hf := (un4_e _ a0 a1 a2 a3 _).symm.trans hf
    exact e_X11_sheet (n := n) C hr c0 c1 c2 c3 hf
/-! LinesPromised$Sheet.put(II)V -/
theorem dX9_put_0 : decode cX9_put 0 = .ok (.aload_n 0, 1) := by decide +kernel
theorem dX9_put_1 : decode cX9_put 1 = .ok (.getfield 9, 3) := by decide +kernel
theorem dX9_put_4 : decode cX9_put 4 = .ok (.iload_n 1, 1) := by decide +kernel
theorem dX9_put_5 : decode cX9_put 5 = .ok (.aload_n 0, 1) := by decide +kernel
theorem dX9_put_6 : decode cX9_put 6 = .ok (.getfield 15, 3) := by decide +kernel
theorem dX9_put_9 : decode cX9_put 9 = .ok (.ifCond .ne 8, 3) := by decide +kernel
theorem dX9_put_12 : decode cX9_put 12 = .ok (.iload_n 2, 1) := by decide +kernel
theorem dX9_put_13 : decode cX9_put 13 = .ok (.i2b, 1) := by decide +kernel
theorem dX9_put_14 : decode cX9_put 14 = .ok (.goto 17, 3) := by decide +kernel
theorem dX9_put_17 : decode cX9_put 17 = .ok (.aload_n 0, 1) := by decide +kernel
theorem dX9_put_18 : decode cX9_put 18 = .ok (.getfield 15, 3) := by decide +kernel
theorem dX9_put_21 : decode cX9_put 21 = .ok (.iconst 1, 1) := by decide +kernel
theorem dX9_put_22 : decode cX9_put 22 = .ok (.if_icmp .ne 8, 3) := by decide +kernel
theorem dX9_put_25 : decode cX9_put 25 = .ok (.iload_n 2, 1) := by decide +kernel
theorem dX9_put_26 : decode cX9_put 26 = .ok (.i2s, 1) := by decide +kernel
theorem dX9_put_27 : decode cX9_put 27 = .ok (.goto 4, 3) := by decide +kernel
theorem dX9_put_30 : decode cX9_put 30 = .ok (.iload_n 2, 1) := by decide +kernel
theorem dX9_put_31 : decode cX9_put 31 = .ok (.iastore, 1) := by decide +kernel
theorem dX9_put_32 : decode cX9_put 32 = .ok (.return_, 1) := by decide +kernel
theorem cm_X9_put : CM yX9_put cX9_put 3 none 2 9 := ⟨w_1407, w_1408, w_1409, w_93, ⟨by decide +kernel, by decide +kernel, by decide +kernel⟩, ⟨_, _, rfl⟩, by decide⟩
noncomputable def f_X9_put_31 (n : Nat)  (s0 s1 s2 : Int) (h : MM) : RR :=
  wt h s0 100 s1 s2 fun h1 =>
  some (0, h1)
noncomputable def f_X9_put (n : Nat) (v0 v1 v2 : Int) (h : MM) : RR :=
  gf h v0 9 0 fun r1 =>
  gf h v0 9 1 fun r2 =>
  if r2 = 0 then
    f_X9_put_31 n r1 v1 (b8 v2) h
  else
  gf h v0 9 1 fun r4 =>
  if r4 = 1 then
    f_X9_put_31 n r1 v1 (b16 v2) h
  else
  f_X9_put_31 n r1 v1 v2 h
set_option maxRecDepth 20000 in
theorem b_X9_put_31 {g : GT} {Z : Int × MM} {n : Nat} (C : Cx g cX9_put 3 yX9_put 0 0) (hr : Rt g none 3 Z) {s0 s1 s2 : Int}    (cs1 : in32 s1) (cs2 : in32 s2) {h : MM} (hf : f_X9_put_31 n  s0 s1 s2 h = some Z) : G g 31 [(3, 0), (3, 0), (3, 0)] [(0, s2), (0, s1), (2, s0)] h := by
  unfold f_X9_put_31 at hf
  obtain ⟨q1, hf⟩ := wt_s hf
  refine r_iast C dX9_put_31 q1 rfl cs2 ?_
  cases hf
  exact r_vret C hr dX9_put_32
set_option maxRecDepth 20000 in
theorem e_X9_put {g : GT} {Z : Int × MM} {n : Nat} (C : Cx g cX9_put 3 yX9_put 0 0) (hr : Rt g none 3 Z) {v0 v1 v2 : Int} (cv0 : cK 2 v0) (cv1 : cK 0 v1) (cv2 : cK 0 v2) {h : MM} (hf : f_X9_put n v0 v1 v2 h = some Z) : G g 0 [(2, v0), (0, v1), (0, v2)] [] h := by
  have cv1 : in32 v1 := cv1
  have cv2 : in32 v2 := cv2
  unfold f_X9_put at hf
  refine r_aload_n C dX9_put_0 rfl ?_
  obtain ⟨q1, hf⟩ := gf_s hf
  refine r_gf C ct9 (j := 0) (ji := 0) dX9_put_1 q1 rfl rfl (by decide) w_280 rfl (fun c1 => ?_)
  refine r_iload_n C dX9_put_4 rfl ?_
  refine r_aload_n C dX9_put_5 rfl ?_
  obtain ⟨q2, hf⟩ := gf_s hf
  refine r_gf C ct9 (j := 1) (ji := 1) dX9_put_6 q2 rfl rfl (by decide) w_284 rfl (fun c2 => ?_)
  have c2 : in32 _ := c2
  refine r_if_ne C dX9_put_9 (tgt := 17) (by decide) c2 (fun n3 => ?_) (fun n3 => ?_)
  · have hf := ite_n n3 hf
    refine r_aload_n C dX9_put_17 rfl ?_
    obtain ⟨q4, hf⟩ := gf_s hf
    refine r_gf C ct9 (j := 1) (ji := 1) dX9_put_18 q4 rfl rfl (by decide) w_284 rfl (fun c4 => ?_)
    have c4 : in32 _ := c4
    refine r_iconst C dX9_put_21 ?_
    refine r_icmp_ne C dX9_put_22 (tgt := 30) (by decide) c4 (in32_of rfl) (fun n5 => ?_) (fun n5 => ?_)
    · have hf := ite_n n5 hf
      refine r_iload_n C dX9_put_30 rfl ?_
      exact G.mask [false, false, false] rfl rfl (b_X9_put_31 C hr  cv1 cv2 hf)
    · have hf := ite_p n5 hf
      refine r_iload_n C dX9_put_25 rfl ?_
      refine r_i2s C dX9_put_26 ?_
      refine r_goto C dX9_put_27 (tgt := 31) (by decide) ?_
      exact G.mask [false, false, false] rfl rfl (b_X9_put_31 C hr  cv1 (in32_t _) hf)
  · have hf := ite_p n3 hf
    refine r_iload_n C dX9_put_12 rfl ?_
    refine r_i2b C dX9_put_13 ?_
    refine r_goto C dX9_put_14 (tgt := 31) (by decide) ?_
    exact G.mask [false, false, false] rfl rfl (b_X9_put_31 C hr  cv1 (in32_t _) hf)
set_option maxRecDepth 20000 in
theorem am_X9_put (l : Launch) (n : Nat) : AM l yX9_put cX9_put 3 none 0 0 [2, 0, 0] 3 (un3 (f_X9_put n)) := by
  refine AM.intro (by decide) (fun xs hx => ?_) (fun g xs h Z hl C hr hx hf => ?_)
  · obtain ⟨a0, a1, a2, rfl, c0, c1, c2⟩ := canL_3 hx
    exact Nat.le_of_ble_eq_true rfl
  · obtain ⟨a0, a1, a2, rfl, c0, c1, c2⟩ := canL_3 hx
    have hf := (un3_e _ a0 a1 a2 _).symm.trans hf
    exact e_X9_put (n := n) C hr c0 c1 c2 hf
/-! LinesPromised.item(III)I -/
theorem dX11_item_0 : decode cX11_item 0 = .ok (.iload_n 1, 1) := by decide +kernel
theorem dX11_item_1 : decode cX11_item 1 = .ok (.invokestatic 176, 3) := by decide +kernel
theorem dX11_item_4 : decode cX11_item 4 = .ok (.ifCond .ne 5, 3) := by decide +kernel
theorem dX11_item_7 : decode cX11_item 7 = .ok (.iconst (-1), 1) := by decide +kernel
theorem dX11_item_8 : decode cX11_item 8 = .ok (.ireturn, 1) := by decide +kernel
theorem dX11_item_9 : decode cX11_item 9 = .ok (.aload_n 0, 1) := by decide +kernel
theorem dX11_item_10 : decode cX11_item 10 = .ok (.getfield 10, 3) := by decide +kernel
theorem dX11_item_13 : decode cX11_item 13 = .ok (.getfield 179, 3) := by decide +kernel
theorem dX11_item_16 : decode cX11_item 16 = .ok (.iload_n 1, 1) := by decide +kernel
theorem dX11_item_17 : decode cX11_item 17 = .ok (.aaload, 1) := by decide +kernel
theorem dX11_item_18 : decode cX11_item 18 = .ok (.astore 4, 2) := by decide +kernel
theorem dX11_item_20 : decode cX11_item 20 = .ok (.aload 4, 2) := by decide +kernel
theorem dX11_item_22 : decode cX11_item 22 = .ok (.getfield 183, 3) := by decide +kernel
theorem dX11_item_25 : decode cX11_item 25 = .ok (.iconst (-1), 1) := by decide +kernel
theorem dX11_item_26 : decode cX11_item 26 = .ok (.if_icmp .ne 6, 3) := by decide +kernel
theorem dX11_item_29 : decode cX11_item 29 = .ok (.bipush (-11), 2) := by decide +kernel
theorem dX11_item_31 : decode cX11_item 31 = .ok (.ireturn, 1) := by decide +kernel
theorem dX11_item_32 : decode cX11_item 32 = .ok (.iload_n 2, 1) := by decide +kernel
theorem dX11_item_33 : decode cX11_item 33 = .ok (.i2l, 1) := by decide +kernel
theorem dX11_item_34 : decode cX11_item 34 = .ok (.iconst 0, 1) := by decide +kernel
theorem dX11_item_35 : decode cX11_item 35 = .ok (.aload 4, 2) := by decide +kernel
theorem dX11_item_37 : decode cX11_item 37 = .ok (.getfield 417, 3) := by decide +kernel
theorem dX11_item_40 : decode cX11_item 40 = .ok (.iconst 1, 1) := by decide +kernel
theorem dX11_item_41 : decode cX11_item 41 = .ok (.isub, 1) := by decide +kernel
theorem dX11_item_42 : decode cX11_item 42 = .ok (.invokestatic 46, 3) := by decide +kernel
theorem dX11_item_45 : decode cX11_item 45 = .ok (.ifCond .ne 6, 3) := by decide +kernel
theorem dX11_item_48 : decode cX11_item 48 = .ok (.bipush (-12), 2) := by decide +kernel
theorem dX11_item_50 : decode cX11_item 50 = .ok (.ireturn, 1) := by decide +kernel
theorem dX11_item_51 : decode cX11_item 51 = .ok (.aload 4, 2) := by decide +kernel
theorem dX11_item_53 : decode cX11_item 53 = .ok (.iload_n 2, 1) := by decide +kernel
theorem dX11_item_54 : decode cX11_item 54 = .ok (.iload_n 3, 1) := by decide +kernel
theorem dX11_item_55 : decode cX11_item 55 = .ok (.invokevirtual 418, 3) := by decide +kernel
theorem dX11_item_58 : decode cX11_item 58 = .ok (.iconst 1, 1) := by decide +kernel
theorem dX11_item_59 : decode cX11_item 59 = .ok (.ireturn, 1) := by decide +kernel
theorem cm_X11_item : CM yX11_item cX11_item 5 (some .int) 3 11 := ⟨w_1403, w_1404, w_1405, w_87, ⟨by decide +kernel, by decide +kernel, by decide +kernel⟩, ⟨_, _, rfl⟩, by decide⟩
noncomputable def f_X11_item (n : Nat) (v0 v1 v2 v3 : Int) (h : MM) : RR :=
  bd (f_X11_isSheet n v1 h) fun r1 h1 =>
  if r1 = 0 then
    some ((-1), h1)
  else
  gf h1 v0 11 0 fun r3 =>
  gf h1 r3 10 4 fun r4 =>
  rd h1 r4 106 v1 fun r5 =>
  gf h1 r5 9 1 fun r6 =>
  if r6 = (-1) then
    some ((-11), h1)
  else
  gf h1 r5 9 2 fun r8 =>
  bd (f_X11_within n v2 0 (wr (r8 - 1)) h1) fun r9 h9 =>
  if r9 = 0 then
    some ((-12), h9)
  else
  gk h9 r5 9 <|
  bd (f_X9_put n r5 v2 v3 h9) fun r11 h11 =>
  some (1, h11)
set_option maxRecDepth 20000 in
theorem e_X11_item {g : GT} {Z : Int × MM} {n : Nat} (C : Cx g cX11_item 5 yX11_item 2 43) (hr : Rt g (some .int) 0 Z) {v0 v1 v2 v3 : Int} (cv0 : cK 2 v0) (cv1 : cK 0 v1) (cv2 : cK 0 v2) (cv3 : cK 0 v3) {h : MM} (hf : f_X11_item n v0 v1 v2 v3 h = some Z) : G g 0 [(2, v0), (0, v1), (0, v2), (0, v3), (3, 0)] [] h := by
  have cv1 : in32 v1 := cv1
  have cv2 : in32 v2 := cv2
  have cv3 : in32 v3 := cv3
  unfold f_X11_item at hf
  refine r_iload_n C dX11_item_0 rfl ?_
  obtain ⟨r1, h1, hq1, hf⟩ := bd_s hf
  refine r_cS1 C (am_X11_isSheet (gl g) n) cm_X11_isSheet w_807 dX11_item_1 ⟨Nat.le_of_ble_eq_true rfl, Nat.le_of_ble_eq_true rfl⟩ cv1 rfl (Nat.le_of_ble_eq_true rfl) hq1 (by decide) (fun c1 => ?_)
  have c1 : in32 _ := c1
  refine r_if_ne C dX11_item_4 (tgt := 9) (by decide) c1 (fun n2 => ?_) (fun n2 => ?_)
  · have hf := ite_n n2 hf
    refine r_aload_n C dX11_item_9 rfl ?_
    obtain ⟨q3, hf⟩ := gf_s hf
    refine r_gf C ct11 (j := 0) (ji := 0) dX11_item_10 q3 rfl rfl (by decide) w_440 rfl (fun c3 => ?_)
    obtain ⟨q4, hf⟩ := gf_s hf
    refine r_gf C ct10 (j := 4) (ji := 4) dX11_item_13 q4 rfl rfl (by decide) w_308 rfl (fun c4 => ?_)
    refine r_iload_n C dX11_item_16 rfl ?_
    obtain ⟨q5, hf⟩ := rd_s hf
    refine r_aald C dX11_item_17 q5 (tn := 106) rfl (by decide) ?_
    refine r_astore C dX11_item_18 (Nat.le_of_ble_eq_true rfl) rfl ?_
    refine r_aload C dX11_item_20 rfl ?_
    obtain ⟨q6, hf⟩ := gf_s hf
    refine r_gf C ct9 (j := 1) (ji := 1) dX11_item_22 q6 rfl rfl (by decide) w_286 rfl (fun c6 => ?_)
    have c6 : in32 _ := c6
    refine r_iconst C dX11_item_25 ?_
    refine r_icmp_ne C dX11_item_26 (tgt := 32) (by decide) c6 (in32_of rfl) (fun n7 => ?_) (fun n7 => ?_)
    · have hf := ite_n n7 hf
      refine r_iload_n C dX11_item_32 rfl ?_
      refine r_i2l C dX11_item_33 cv2 ?_
      refine r_iconst C dX11_item_34 ?_
      refine r_aload C dX11_item_35 rfl ?_
      obtain ⟨q8, hf⟩ := gf_s hf
      refine r_gf C ct9 (j := 2) (ji := 2) dX11_item_37 q8 rfl rfl (by decide) w_289 rfl (fun c8 => ?_)
      have c8 : in32 _ := c8
      refine r_iconst C dX11_item_40 ?_
      refine r_isub C dX11_item_41 ?_
      obtain ⟨r9, h9, hq9, hf⟩ := bd_s hf
      refine r_cS3 C (am_X11_within (gl g) n) cm_X11_within w_466 dX11_item_42 ⟨Nat.le_of_ble_eq_true rfl, Nat.le_of_ble_eq_true rfl⟩ (in64_i cv2) (in32_of rfl) (in32_t _) rfl (Nat.le_of_ble_eq_true rfl) hq9 (by decide) (fun c9 => ?_)
      have c9 : in32 _ := c9
      refine r_if_ne C dX11_item_45 (tgt := 51) (by decide) c9 (fun n10 => ?_) (fun n10 => ?_)
      · have hf := ite_n n10 hf
        refine r_aload C dX11_item_51 rfl ?_
        refine r_iload_n C dX11_item_53 rfl ?_
        refine r_iload_n C dX11_item_54 rfl ?_
        obtain ⟨p11, hf⟩ := gk_s hf
        obtain ⟨r11, h11, hq11, hf⟩ := bd_s hf
        refine r_cV2v C (am_X9_put (gl g) n) cm_X9_put w_1406 dX11_item_55 ⟨Nat.le_of_ble_eq_true rfl, Nat.le_of_ble_eq_true rfl⟩ p11 rfl cv2 cv3 rfl (Nat.le_of_ble_eq_true rfl) hq11 ?_
        refine r_iconst C dX11_item_58 ?_
        cases hf
        exact r_jret C hr dX11_item_59 (in32_of rfl)
      · have hf := ite_p n10 hf
        refine r_bipush C dX11_item_48 rfl ?_
        cases hf
        exact r_jret C hr dX11_item_50 (in32_of rfl)
    · have hf := ite_p n7 hf
      refine r_bipush C dX11_item_29 rfl ?_
      cases hf
      exact r_jret C hr dX11_item_31 (in32_of rfl)
  · have hf := ite_p n2 hf
    refine r_iconst C dX11_item_7 ?_
    cases hf
    exact r_jret C hr dX11_item_8 (in32_of rfl)
set_option maxRecDepth 20000 in
theorem am_X11_item (l : Launch) (n : Nat) : AM l yX11_item cX11_item 5 (some .int) 2 43 [2, 0, 0, 0] 0 (un4 (f_X11_item n)) := by
  refine AM.intro (by decide) (fun xs hx => ?_) (fun g xs h Z hl C hr hx hf => ?_)
  · obtain ⟨a0, a1, a2, a3, rfl, c0, c1, c2, c3⟩ := canL_4 hx
    exact Nat.le_of_ble_eq_true rfl
  · obtain ⟨a0, a1, a2, a3, rfl, c0, c1, c2, c3⟩ := canL_4 hx
    have hf := (un4_e _ a0 a1 a2 a3 _).symm.trans hf
    exact e_X11_item (n := n) C hr c0 c1 c2 c3 hf
/-! LinesPromised$Sheet.has(II)Z -/
theorem dX9_has_0 : decode cX9_has 0 = .ok (.iload_n 1, 1) := by decide +kernel
theorem dX9_has_1 : decode cX9_has 1 = .ok (.ifCond .lt 29, 3) := by decide +kernel
theorem dX9_has_4 : decode cX9_has 4 = .ok (.iload_n 2, 1) := by decide +kernel
theorem dX9_has_5 : decode cX9_has 5 = .ok (.ifCond .lt 25, 3) := by decide +kernel
theorem dX9_has_8 : decode cX9_has 8 = .ok (.iload_n 2, 1) := by decide +kernel
theorem dX9_has_9 : decode cX9_has 9 = .ok (.aload_n 0, 1) := by decide +kernel
theorem dX9_has_10 : decode cX9_has 10 = .ok (.getfield 25, 3) := by decide +kernel
theorem dX9_has_13 : decode cX9_has 13 = .ok (.if_icmp .gt 17, 3) := by decide +kernel
theorem dX9_has_16 : decode cX9_has 16 = .ok (.iload_n 1, 1) := by decide +kernel
theorem dX9_has_17 : decode cX9_has 17 = .ok (.aload_n 0, 1) := by decide +kernel
theorem dX9_has_18 : decode cX9_has 18 = .ok (.getfield 25, 3) := by decide +kernel
theorem dX9_has_21 : decode cX9_has 21 = .ok (.iload_n 2, 1) := by decide +kernel
theorem dX9_has_22 : decode cX9_has 22 = .ok (.isub, 1) := by decide +kernel
theorem dX9_has_23 : decode cX9_has 23 = .ok (.if_icmp .gt 7, 3) := by decide +kernel
theorem dX9_has_26 : decode cX9_has 26 = .ok (.iconst 1, 1) := by decide +kernel
theorem dX9_has_27 : decode cX9_has 27 = .ok (.goto 4, 3) := by decide +kernel
theorem dX9_has_30 : decode cX9_has 30 = .ok (.iconst 0, 1) := by decide +kernel
theorem dX9_has_31 : decode cX9_has 31 = .ok (.ireturn, 1) := by decide +kernel
theorem cm_X9_has : CM yX9_has cX9_has 3 (some .boolean) 2 9 := ⟨w_1415, w_1416, w_1417, w_93, ⟨by decide +kernel, by decide +kernel, by decide +kernel⟩, ⟨_, _, rfl⟩, by decide⟩
noncomputable def f_X9_has_31 (n : Nat)  (s0 : Int) (h : MM) : RR :=
  ck (isb s0) <|
  some (s0, h)
noncomputable def f_X9_has_30 (n : Nat)  (h : MM) : RR :=
  f_X9_has_31 n 0 h
noncomputable def f_X9_has (n : Nat) (v0 v1 v2 : Int) (h : MM) : RR :=
  if v1 < 0 then
    f_X9_has_30 n h
  else
  if v2 < 0 then
    f_X9_has_30 n h
  else
  gf h v0 9 2 fun r3 =>
  if r3 < v2 then
    f_X9_has_30 n h
  else
  gf h v0 9 2 fun r5 =>
  if wr (r5 - v2) < v1 then
    f_X9_has_30 n h
  else
  f_X9_has_31 n 1 h
set_option maxRecDepth 20000 in
theorem b_X9_has_31 {g : GT} {Z : Int × MM} {n : Nat} (C : Cx g cX9_has 3 yX9_has 0 0) (hr : Rt g (some .boolean) 0 Z) {s0 : Int}    (cs0 : in32 s0) {h : MM} (hf : f_X9_has_31 n  s0 h = some Z) : G g 31 [(3, 0), (3, 0), (3, 0)] [(0, s0)] h := by
  unfold f_X9_has_31 at hf
  obtain ⟨b1, hf⟩ := ck_s hf
  cases hf
  exact r_zret C hr dX9_has_31 b1
set_option maxRecDepth 20000 in
theorem b_X9_has_30 {g : GT} {Z : Int × MM} {n : Nat} (C : Cx g cX9_has 3 yX9_has 0 0) (hr : Rt g (some .boolean) 0 Z)     {h : MM} (hf : f_X9_has_30 n   h = some Z) : G g 30 [(3, 0), (3, 0), (3, 0)] [] h := by
  unfold f_X9_has_30 at hf
  refine r_iconst C dX9_has_30 ?_
  exact G.mask [false, false, false] rfl rfl (b_X9_has_31 C hr  (in32_of rfl) hf)
set_option maxRecDepth 20000 in
theorem e_X9_has {g : GT} {Z : Int × MM} {n : Nat} (C : Cx g cX9_has 3 yX9_has 0 0) (hr : Rt g (some .boolean) 0 Z) {v0 v1 v2 : Int} (cv0 : cK 2 v0) (cv1 : cK 0 v1) (cv2 : cK 0 v2) {h : MM} (hf : f_X9_has n v0 v1 v2 h = some Z) : G g 0 [(2, v0), (0, v1), (0, v2)] [] h := by
  have cv1 : in32 v1 := cv1
  have cv2 : in32 v2 := cv2
  unfold f_X9_has at hf
  refine r_iload_n C dX9_has_0 rfl ?_
  refine r_if_lt C dX9_has_1 (tgt := 30) (by decide) cv1 (fun n1 => ?_) (fun n1 => ?_)
  · have hf := ite_p n1 hf
    exact G.mask [false, false, false] rfl rfl (b_X9_has_30 C hr   hf)
  · have hf := ite_n n1 hf
    refine r_iload_n C dX9_has_4 rfl ?_
    refine r_if_lt C dX9_has_5 (tgt := 30) (by decide) cv2 (fun n2 => ?_) (fun n2 => ?_)
    · have hf := ite_p n2 hf
      exact G.mask [false, false, false] rfl rfl (b_X9_has_30 C hr   hf)
    · have hf := ite_n n2 hf
      refine r_iload_n C dX9_has_8 rfl ?_
      refine r_aload_n C dX9_has_9 rfl ?_
      obtain ⟨q3, hf⟩ := gf_s hf
      refine r_gf C ct9 (j := 2) (ji := 2) dX9_has_10 q3 rfl rfl (by decide) w_287 rfl (fun c3 => ?_)
      have c3 : in32 _ := c3
      refine r_icmp_gt C dX9_has_13 (tgt := 30) (by decide) cv2 c3 (fun n4 => ?_) (fun n4 => ?_)
      · have hf := ite_p n4 hf
        exact G.mask [false, false, false] rfl rfl (b_X9_has_30 C hr   hf)
      · have hf := ite_n n4 hf
        refine r_iload_n C dX9_has_16 rfl ?_
        refine r_aload_n C dX9_has_17 rfl ?_
        obtain ⟨q5, hf⟩ := gf_s hf
        refine r_gf C ct9 (j := 2) (ji := 2) dX9_has_18 q5 rfl rfl (by decide) w_287 rfl (fun c5 => ?_)
        have c5 : in32 _ := c5
        refine r_iload_n C dX9_has_21 rfl ?_
        refine r_isub C dX9_has_22 ?_
        refine r_icmp_gt C dX9_has_23 (tgt := 30) (by decide) cv1 (in32_t _) (fun n6 => ?_) (fun n6 => ?_)
        · have hf := ite_p n6 hf
          exact G.mask [false, false, false] rfl rfl (b_X9_has_30 C hr   hf)
        · have hf := ite_n n6 hf
          refine r_iconst C dX9_has_26 ?_
          refine r_goto C dX9_has_27 (tgt := 31) (by decide) ?_
          exact G.mask [false, false, false] rfl rfl (b_X9_has_31 C hr  (in32_of rfl) hf)
set_option maxRecDepth 20000 in
theorem am_X9_has (l : Launch) (n : Nat) : AM l yX9_has cX9_has 3 (some .boolean) 0 0 [2, 0, 0] 0 (un3 (f_X9_has n)) := by
  refine AM.intro (by decide) (fun xs hx => ?_) (fun g xs h Z hl C hr hx hf => ?_)
  · obtain ⟨a0, a1, a2, rfl, c0, c1, c2⟩ := canL_3 hx
    exact Nat.le_of_ble_eq_true rfl
  · obtain ⟨a0, a1, a2, rfl, c0, c1, c2⟩ := canL_3 hx
    have hf := (un3_e _ a0 a1 a2 _).symm.trans hf
    exact e_X9_has (n := n) C hr c0 c1 c2 hf
/-! LinesPromised.copy(IIIII)I -/
theorem dX11_copy_0 : decode cX11_copy 0 = .ok (.iload_n 1, 1) := by decide +kernel
theorem dX11_copy_1 : decode cX11_copy 1 = .ok (.invokestatic 176, 3) := by decide +kernel
theorem dX11_copy_4 : decode cX11_copy 4 = .ok (.ifCond .eq 10, 3) := by decide +kernel
theorem dX11_copy_7 : decode cX11_copy 7 = .ok (.iload_n 3, 1) := by decide +kernel
theorem dX11_copy_8 : decode cX11_copy 8 = .ok (.invokestatic 176, 3) := by decide +kernel
theorem dX11_copy_11 : decode cX11_copy 11 = .ok (.ifCond .ne 5, 3) := by decide +kernel
theorem dX11_copy_14 : decode cX11_copy 14 = .ok (.iconst (-1), 1) := by decide +kernel
theorem dX11_copy_15 : decode cX11_copy 15 = .ok (.ireturn, 1) := by decide +kernel
theorem dX11_copy_16 : decode cX11_copy 16 = .ok (.aload_n 0, 1) := by decide +kernel
theorem dX11_copy_17 : decode cX11_copy 17 = .ok (.getfield 10, 3) := by decide +kernel
theorem dX11_copy_20 : decode cX11_copy 20 = .ok (.getfield 179, 3) := by decide +kernel
theorem dX11_copy_23 : decode cX11_copy 23 = .ok (.iload_n 1, 1) := by decide +kernel
theorem dX11_copy_24 : decode cX11_copy 24 = .ok (.aaload, 1) := by decide +kernel
theorem dX11_copy_25 : decode cX11_copy 25 = .ok (.astore 6, 2) := by decide +kernel
theorem dX11_copy_27 : decode cX11_copy 27 = .ok (.aload_n 0, 1) := by decide +kernel
theorem dX11_copy_28 : decode cX11_copy 28 = .ok (.getfield 10, 3) := by decide +kernel
theorem dX11_copy_31 : decode cX11_copy 31 = .ok (.getfield 179, 3) := by decide +kernel
theorem dX11_copy_34 : decode cX11_copy 34 = .ok (.iload_n 3, 1) := by decide +kernel
theorem dX11_copy_35 : decode cX11_copy 35 = .ok (.aaload, 1) := by decide +kernel
theorem dX11_copy_36 : decode cX11_copy 36 = .ok (.astore 7, 2) := by decide +kernel
theorem dX11_copy_38 : decode cX11_copy 38 = .ok (.aload 6, 2) := by decide +kernel
theorem dX11_copy_40 : decode cX11_copy 40 = .ok (.getfield 183, 3) := by decide +kernel
theorem dX11_copy_43 : decode cX11_copy 43 = .ok (.iconst (-1), 1) := by decide +kernel
theorem dX11_copy_44 : decode cX11_copy 44 = .ok (.if_icmp .eq 12, 3) := by decide +kernel
theorem dX11_copy_47 : decode cX11_copy 47 = .ok (.aload 7, 2) := by decide +kernel
theorem dX11_copy_49 : decode cX11_copy 49 = .ok (.getfield 183, 3) := by decide +kernel
theorem dX11_copy_52 : decode cX11_copy 52 = .ok (.iconst (-1), 1) := by decide +kernel
theorem dX11_copy_53 : decode cX11_copy 53 = .ok (.if_icmp .ne 6, 3) := by decide +kernel
theorem dX11_copy_56 : decode cX11_copy 56 = .ok (.bipush (-11), 2) := by decide +kernel
theorem dX11_copy_58 : decode cX11_copy 58 = .ok (.ireturn, 1) := by decide +kernel
theorem dX11_copy_59 : decode cX11_copy 59 = .ok (.aload 6, 2) := by decide +kernel
theorem dX11_copy_61 : decode cX11_copy 61 = .ok (.getfield 183, 3) := by decide +kernel
theorem dX11_copy_64 : decode cX11_copy 64 = .ok (.aload 7, 2) := by decide +kernel
theorem dX11_copy_66 : decode cX11_copy 66 = .ok (.getfield 183, 3) := by decide +kernel
theorem dX11_copy_69 : decode cX11_copy 69 = .ok (.if_icmp .eq 6, 3) := by decide +kernel
theorem dX11_copy_72 : decode cX11_copy 72 = .ok (.bipush (-13), 2) := by decide +kernel
theorem dX11_copy_74 : decode cX11_copy 74 = .ok (.ireturn, 1) := by decide +kernel
theorem dX11_copy_75 : decode cX11_copy 75 = .ok (.aload 6, 2) := by decide +kernel
theorem dX11_copy_77 : decode cX11_copy 77 = .ok (.iload_n 2, 1) := by decide +kernel
theorem dX11_copy_78 : decode cX11_copy 78 = .ok (.iload 5, 2) := by decide +kernel
theorem dX11_copy_80 : decode cX11_copy 80 = .ok (.invokevirtual 421, 3) := by decide +kernel
theorem dX11_copy_83 : decode cX11_copy 83 = .ok (.ifCond .eq 15, 3) := by decide +kernel
theorem dX11_copy_86 : decode cX11_copy 86 = .ok (.aload 7, 2) := by decide +kernel
theorem dX11_copy_88 : decode cX11_copy 88 = .ok (.iload 4, 2) := by decide +kernel
theorem dX11_copy_90 : decode cX11_copy 90 = .ok (.iload 5, 2) := by decide +kernel
theorem dX11_copy_92 : decode cX11_copy 92 = .ok (.invokevirtual 421, 3) := by decide +kernel
theorem dX11_copy_95 : decode cX11_copy 95 = .ok (.ifCond .ne 6, 3) := by decide +kernel
theorem dX11_copy_98 : decode cX11_copy 98 = .ok (.bipush (-12), 2) := by decide +kernel
theorem dX11_copy_100 : decode cX11_copy 100 = .ok (.ireturn, 1) := by decide +kernel
theorem dX11_copy_101 : decode cX11_copy 101 = .ok (.aload 6, 2) := by decide +kernel
theorem dX11_copy_103 : decode cX11_copy 103 = .ok (.getfield 424, 3) := by decide +kernel
theorem dX11_copy_106 : decode cX11_copy 106 = .ok (.iload_n 2, 1) := by decide +kernel
theorem dX11_copy_107 : decode cX11_copy 107 = .ok (.aload 7, 2) := by decide +kernel
theorem dX11_copy_109 : decode cX11_copy 109 = .ok (.getfield 424, 3) := by decide +kernel
theorem dX11_copy_112 : decode cX11_copy 112 = .ok (.iload 4, 2) := by decide +kernel
theorem dX11_copy_114 : decode cX11_copy 114 = .ok (.iload 5, 2) := by decide +kernel
theorem dX11_copy_116 : decode cX11_copy 116 = .ok (.invokestatic 425, 3) := by decide +kernel
theorem dX11_copy_119 : decode cX11_copy 119 = .ok (.iload 5, 2) := by decide +kernel
theorem dX11_copy_121 : decode cX11_copy 121 = .ok (.ireturn, 1) := by decide +kernel
theorem cm_X11_copy : CM yX11_copy cX11_copy 8 (some .int) 5 11 := ⟨w_1411, w_1412, w_1413, w_87, ⟨by decide +kernel, by decide +kernel, by decide +kernel⟩, ⟨_, _, rfl⟩, by decide⟩
noncomputable def f_X11_copy_14 (n : Nat)  (h : MM) : RR :=
  some ((-1), h)
noncomputable def f_X11_copy_56 (n : Nat)  (h : MM) : RR :=
  some ((-11), h)
noncomputable def f_X11_copy_98 (n : Nat)  (h : MM) : RR :=
  some ((-12), h)
noncomputable def f_X11_copy (n : Nat) (v0 v1 v2 v3 v4 v5 : Int) (h : MM) : RR :=
  bd (f_X11_isSheet n v1 h) fun r1 h1 =>
  if r1 = 0 then
    f_X11_copy_14 n h1
  else
  bd (f_X11_isSheet n v3 h1) fun r3 h3 =>
  if r3 = 0 then
    f_X11_copy_14 n h3
  else
  gf h3 v0 11 0 fun r5 =>
  gf h3 r5 10 4 fun r6 =>
  rd h3 r6 106 v1 fun r7 =>
  gf h3 v0 11 0 fun r8 =>
  gf h3 r8 10 4 fun r9 =>
  rd h3 r9 106 v3 fun r10 =>
  gf h3 r7 9 1 fun r11 =>
  if r11 = (-1) then
    f_X11_copy_56 n h3
  else
  gf h3 r10 9 1 fun r13 =>
  if r13 = (-1) then
    f_X11_copy_56 n h3
  else
  gf h3 r7 9 1 fun r15 =>
  gf h3 r10 9 1 fun r16 =>
  if r15 = r16 then
    gk h3 r7 9 <|
    bd (f_X9_has n r7 v2 v5 h3) fun r18 h18 =>
    if r18 = 0 then
      f_X11_copy_98 n h18
    else
    gk h18 r10 9 <|
    bd (f_X9_has n r10 v4 v5 h18) fun r20 h20 =>
    if r20 = 0 then
      f_X11_copy_98 n h20
    else
    gf h20 r7 9 0 fun r22 =>
    gf h20 r10 9 0 fun r23 =>
    ac h20 100 r22 v2 r23 v4 v5 fun h24 =>
    some (v5, h24)
  else
  some ((-13), h3)
set_option maxRecDepth 20000 in
theorem b_X11_copy_14 {g : GT} {Z : Int × MM} {n : Nat} (C : Cx g cX11_copy 8 yX11_copy 2 60) (hr : Rt g (some .int) 0 Z)     {h : MM} (hf : f_X11_copy_14 n   h = some Z) : G g 14 [(3, 0), (3, 0), (3, 0), (3, 0), (3, 0), (3, 0), (3, 0), (3, 0)] [] h := by
  unfold f_X11_copy_14 at hf
  refine r_iconst C dX11_copy_14 ?_
  cases hf
  exact r_jret C hr dX11_copy_15 (in32_of rfl)
set_option maxRecDepth 20000 in
theorem b_X11_copy_56 {g : GT} {Z : Int × MM} {n : Nat} (C : Cx g cX11_copy 8 yX11_copy 2 60) (hr : Rt g (some .int) 0 Z)     {h : MM} (hf : f_X11_copy_56 n   h = some Z) : G g 56 [(3, 0), (3, 0), (3, 0), (3, 0), (3, 0), (3, 0), (3, 0), (3, 0)] [] h := by
  unfold f_X11_copy_56 at hf
  refine r_bipush C dX11_copy_56 rfl ?_
  cases hf
  exact r_jret C hr dX11_copy_58 (in32_of rfl)
set_option maxRecDepth 20000 in
theorem b_X11_copy_98 {g : GT} {Z : Int × MM} {n : Nat} (C : Cx g cX11_copy 8 yX11_copy 2 60) (hr : Rt g (some .int) 0 Z)     {h : MM} (hf : f_X11_copy_98 n   h = some Z) : G g 98 [(3, 0), (3, 0), (3, 0), (3, 0), (3, 0), (3, 0), (3, 0), (3, 0)] [] h := by
  unfold f_X11_copy_98 at hf
  refine r_bipush C dX11_copy_98 rfl ?_
  cases hf
  exact r_jret C hr dX11_copy_100 (in32_of rfl)
set_option maxRecDepth 20000 in
theorem e_X11_copy {g : GT} {Z : Int × MM} {n : Nat} (C : Cx g cX11_copy 8 yX11_copy 2 60) (hr : Rt g (some .int) 0 Z) {v0 v1 v2 v3 v4 v5 : Int} (cv0 : cK 2 v0) (cv1 : cK 0 v1) (cv2 : cK 0 v2) (cv3 : cK 0 v3) (cv4 : cK 0 v4) (cv5 : cK 0 v5) {h : MM} (hf : f_X11_copy n v0 v1 v2 v3 v4 v5 h = some Z) : G g 0 [(2, v0), (0, v1), (0, v2), (0, v3), (0, v4), (0, v5), (3, 0), (3, 0)] [] h := by
  have cv1 : in32 v1 := cv1
  have cv2 : in32 v2 := cv2
  have cv3 : in32 v3 := cv3
  have cv4 : in32 v4 := cv4
  have cv5 : in32 v5 := cv5
  unfold f_X11_copy at hf
  refine r_iload_n C dX11_copy_0 rfl ?_
  obtain ⟨r1, h1, hq1, hf⟩ := bd_s hf
  refine r_cS1 C (am_X11_isSheet (gl g) n) cm_X11_isSheet w_807 dX11_copy_1 ⟨Nat.le_of_ble_eq_true rfl, Nat.le_of_ble_eq_true rfl⟩ cv1 rfl (Nat.le_of_ble_eq_true rfl) hq1 (by decide) (fun c1 => ?_)
  have c1 : in32 _ := c1
  refine r_if_eq C dX11_copy_4 (tgt := 14) (by decide) c1 (fun n2 => ?_) (fun n2 => ?_)
  · have hf := ite_p n2 hf
    exact G.mask [false, false, false, false, false, false, false, false] rfl rfl (b_X11_copy_14 C hr   hf)
  · have hf := ite_n n2 hf
    refine r_iload_n C dX11_copy_7 rfl ?_
    obtain ⟨r3, h3, hq3, hf⟩ := bd_s hf
    refine r_cS1 C (am_X11_isSheet (gl g) n) cm_X11_isSheet w_807 dX11_copy_8 ⟨Nat.le_of_ble_eq_true rfl, Nat.le_of_ble_eq_true rfl⟩ cv3 rfl (Nat.le_of_ble_eq_true rfl) hq3 (by decide) (fun c3 => ?_)
    have c3 : in32 _ := c3
    refine r_if_ne C dX11_copy_11 (tgt := 16) (by decide) c3 (fun n4 => ?_) (fun n4 => ?_)
    · have hf := ite_n n4 hf
      refine r_aload_n C dX11_copy_16 rfl ?_
      obtain ⟨q5, hf⟩ := gf_s hf
      refine r_gf C ct11 (j := 0) (ji := 0) dX11_copy_17 q5 rfl rfl (by decide) w_440 rfl (fun c5 => ?_)
      obtain ⟨q6, hf⟩ := gf_s hf
      refine r_gf C ct10 (j := 4) (ji := 4) dX11_copy_20 q6 rfl rfl (by decide) w_308 rfl (fun c6 => ?_)
      refine r_iload_n C dX11_copy_23 rfl ?_
      obtain ⟨q7, hf⟩ := rd_s hf
      refine r_aald C dX11_copy_24 q7 (tn := 106) rfl (by decide) ?_
      refine r_astore C dX11_copy_25 (Nat.le_of_ble_eq_true rfl) rfl ?_
      refine r_aload_n C dX11_copy_27 rfl ?_
      obtain ⟨q8, hf⟩ := gf_s hf
      refine r_gf C ct11 (j := 0) (ji := 0) dX11_copy_28 q8 rfl rfl (by decide) w_440 rfl (fun c8 => ?_)
      obtain ⟨q9, hf⟩ := gf_s hf
      refine r_gf C ct10 (j := 4) (ji := 4) dX11_copy_31 q9 rfl rfl (by decide) w_308 rfl (fun c9 => ?_)
      refine r_iload_n C dX11_copy_34 rfl ?_
      obtain ⟨q10, hf⟩ := rd_s hf
      refine r_aald C dX11_copy_35 q10 (tn := 106) rfl (by decide) ?_
      refine r_astore C dX11_copy_36 (Nat.le_of_ble_eq_true rfl) rfl ?_
      refine r_aload C dX11_copy_38 rfl ?_
      obtain ⟨q11, hf⟩ := gf_s hf
      refine r_gf C ct9 (j := 1) (ji := 1) dX11_copy_40 q11 rfl rfl (by decide) w_286 rfl (fun c11 => ?_)
      have c11 : in32 _ := c11
      refine r_iconst C dX11_copy_43 ?_
      refine r_icmp_eq C dX11_copy_44 (tgt := 56) (by decide) c11 (in32_of rfl) (fun n12 => ?_) (fun n12 => ?_)
      · have hf := ite_p n12 hf
        exact G.mask [false, false, false, false, false, false, false, false] rfl rfl (b_X11_copy_56 C hr   hf)
      · have hf := ite_n n12 hf
        refine r_aload C dX11_copy_47 rfl ?_
        obtain ⟨q13, hf⟩ := gf_s hf
        refine r_gf C ct9 (j := 1) (ji := 1) dX11_copy_49 q13 rfl rfl (by decide) w_286 rfl (fun c13 => ?_)
        have c13 : in32 _ := c13
        refine r_iconst C dX11_copy_52 ?_
        refine r_icmp_ne C dX11_copy_53 (tgt := 59) (by decide) c13 (in32_of rfl) (fun n14 => ?_) (fun n14 => ?_)
        · have hf := ite_n n14 hf
          refine r_aload C dX11_copy_59 rfl ?_
          obtain ⟨q15, hf⟩ := gf_s hf
          refine r_gf C ct9 (j := 1) (ji := 1) dX11_copy_61 q15 rfl rfl (by decide) w_286 rfl (fun c15 => ?_)
          have c15 : in32 _ := c15
          refine r_aload C dX11_copy_64 rfl ?_
          obtain ⟨q16, hf⟩ := gf_s hf
          refine r_gf C ct9 (j := 1) (ji := 1) dX11_copy_66 q16 rfl rfl (by decide) w_286 rfl (fun c16 => ?_)
          have c16 : in32 _ := c16
          refine r_icmp_eq C dX11_copy_69 (tgt := 75) (by decide) c15 c16 (fun n17 => ?_) (fun n17 => ?_)
          · have hf := ite_p n17 hf
            refine r_aload C dX11_copy_75 rfl ?_
            refine r_iload_n C dX11_copy_77 rfl ?_
            refine r_iload C dX11_copy_78 rfl ?_
            obtain ⟨p18, hf⟩ := gk_s hf
            obtain ⟨r18, h18, hq18, hf⟩ := bd_s hf
            refine r_cV2 C (am_X9_has (gl g) n) cm_X9_has w_1414 dX11_copy_80 ⟨Nat.le_of_ble_eq_true rfl, Nat.le_of_ble_eq_true rfl⟩ p18 rfl cv2 cv5 rfl (Nat.le_of_ble_eq_true rfl) hq18 (by decide) (fun c18 => ?_)
            have c18 : in32 _ := c18
            refine r_if_eq C dX11_copy_83 (tgt := 98) (by decide) c18 (fun n19 => ?_) (fun n19 => ?_)
            · have hf := ite_p n19 hf
              exact G.mask [false, false, false, false, false, false, false, false] rfl rfl (b_X11_copy_98 C hr   hf)
            · have hf := ite_n n19 hf
              refine r_aload C dX11_copy_86 rfl ?_
              refine r_iload C dX11_copy_88 rfl ?_
              refine r_iload C dX11_copy_90 rfl ?_
              obtain ⟨p20, hf⟩ := gk_s hf
              obtain ⟨r20, h20, hq20, hf⟩ := bd_s hf
              refine r_cV2 C (am_X9_has (gl g) n) cm_X9_has w_1414 dX11_copy_92 ⟨Nat.le_of_ble_eq_true rfl, Nat.le_of_ble_eq_true rfl⟩ p20 rfl cv4 cv5 rfl (Nat.le_of_ble_eq_true rfl) hq20 (by decide) (fun c20 => ?_)
              have c20 : in32 _ := c20
              refine r_if_ne C dX11_copy_95 (tgt := 101) (by decide) c20 (fun n21 => ?_) (fun n21 => ?_)
              · have hf := ite_n n21 hf
                refine r_aload C dX11_copy_101 rfl ?_
                obtain ⟨q22, hf⟩ := gf_s hf
                refine r_gf C ct9 (j := 0) (ji := 0) dX11_copy_103 q22 rfl rfl (by decide) w_283 rfl (fun c22 => ?_)
                refine r_iload_n C dX11_copy_106 rfl ?_
                refine r_aload C dX11_copy_107 rfl ?_
                obtain ⟨q23, hf⟩ := gf_s hf
                refine r_gf C ct9 (j := 0) (ji := 0) dX11_copy_109 q23 rfl rfl (by decide) w_283 rfl (fun c23 => ?_)
                refine r_iload C dX11_copy_112 rfl ?_
                refine r_iload C dX11_copy_114 rfl ?_
                obtain ⟨q24, hf⟩ := ac_s hf
                refine r_acopy C (t := 100) dX11_copy_116 q24 rfl (by decide) (by decide) w_1418 wa1 wa2 wa3 ⟨Nat.le_of_ble_eq_true rfl, by decide⟩ rfl ?_
                refine r_iload C dX11_copy_119 rfl ?_
                cases hf
                exact r_jret C hr dX11_copy_121 cv5
              · have hf := ite_p n21 hf
                exact G.mask [false, false, false, false, false, false, false, false] rfl rfl (b_X11_copy_98 C hr   hf)
          · have hf := ite_n n17 hf
            refine r_bipush C dX11_copy_72 rfl ?_
            cases hf
            exact r_jret C hr dX11_copy_74 (in32_of rfl)
        · have hf := ite_p n14 hf
          exact G.mask [false, false, false, false, false, false, false, false] rfl rfl (b_X11_copy_56 C hr   hf)
    · have hf := ite_p n4 hf
      exact G.mask [false, false, false, false, false, false, false, false] rfl rfl (b_X11_copy_14 C hr   hf)
set_option maxRecDepth 20000 in
theorem am_X11_copy (l : Launch) (n : Nat) : AM l yX11_copy cX11_copy 8 (some .int) 2 60 [2, 0, 0, 0, 0, 0] 0 (un6 (f_X11_copy n)) := by
  refine AM.intro (by decide) (fun xs hx => ?_) (fun g xs h Z hl C hr hx hf => ?_)
  · obtain ⟨a0, a1, a2, a3, a4, a5, rfl, c0, c1, c2, c3, c4, c5⟩ := canL_6 hx
    exact Nat.le_of_ble_eq_true rfl
  · obtain ⟨a0, a1, a2, a3, a4, a5, rfl, c0, c1, c2, c3, c4, c5⟩ := canL_6 hx
    have hf := (un6_e _ a0 a1 a2 a3 a4 a5 _).symm.trans hf
    exact e_X11_copy (n := n) C hr c0 c1 c2 c3 c4 c5 hf
/-! LinesPromisedModel.in(III)Z -/
theorem dX12_in_0 : decode cX12_in 0 = .ok (.iload_n 0, 1) := by decide +kernel
theorem dX12_in_1 : decode cX12_in 1 = .ok (.iload_n 1, 1) := by decide +kernel
theorem dX12_in_2 : decode cX12_in 2 = .ok (.if_icmp .lt 12, 3) := by decide +kernel
theorem dX12_in_5 : decode cX12_in 5 = .ok (.iload_n 0, 1) := by decide +kernel
theorem dX12_in_6 : decode cX12_in 6 = .ok (.iload_n 2, 1) := by decide +kernel
theorem dX12_in_7 : decode cX12_in 7 = .ok (.if_icmp .gt 7, 3) := by decide +kernel
theorem dX12_in_10 : decode cX12_in 10 = .ok (.iconst 1, 1) := by decide +kernel
theorem dX12_in_11 : decode cX12_in 11 = .ok (.goto 4, 3) := by decide +kernel
theorem dX12_in_14 : decode cX12_in 14 = .ok (.iconst 0, 1) := by decide +kernel
theorem dX12_in_15 : decode cX12_in 15 = .ok (.ireturn, 1) := by decide +kernel
theorem cm_X12_in : CMs yX12_in cX12_in 3 (some .boolean) 3 := ⟨w_1497, w_1498, w_97, ⟨by decide +kernel, by decide +kernel, by decide +kernel⟩⟩
noncomputable def f_X12_in_15 (n : Nat)  (s0 : Int) (h : MM) : RR :=
  ck (isb s0) <|
  some (s0, h)
noncomputable def f_X12_in_14 (n : Nat)  (h : MM) : RR :=
  f_X12_in_15 n 0 h
noncomputable def f_X12_in (n : Nat) (v0 v1 v2 : Int) (h : MM) : RR :=
  if v0 < v1 then
    f_X12_in_14 n h
  else
  if v2 < v0 then
    f_X12_in_14 n h
  else
  f_X12_in_15 n 1 h
set_option maxRecDepth 20000 in
theorem b_X12_in_15 {g : GT} {Z : Int × MM} {n : Nat} (C : Cx g cX12_in 3 yX12_in 0 0) (hr : Rt g (some .boolean) 0 Z) {s0 : Int}    (cs0 : in32 s0) {h : MM} (hf : f_X12_in_15 n  s0 h = some Z) : G g 15 [(3, 0), (3, 0), (3, 0)] [(0, s0)] h := by
  unfold f_X12_in_15 at hf
  obtain ⟨b1, hf⟩ := ck_s hf
  cases hf
  exact r_zret C hr dX12_in_15 b1
set_option maxRecDepth 20000 in
theorem b_X12_in_14 {g : GT} {Z : Int × MM} {n : Nat} (C : Cx g cX12_in 3 yX12_in 0 0) (hr : Rt g (some .boolean) 0 Z)     {h : MM} (hf : f_X12_in_14 n   h = some Z) : G g 14 [(3, 0), (3, 0), (3, 0)] [] h := by
  unfold f_X12_in_14 at hf
  refine r_iconst C dX12_in_14 ?_
  exact G.mask [false, false, false] rfl rfl (b_X12_in_15 C hr  (in32_of rfl) hf)
set_option maxRecDepth 20000 in
theorem e_X12_in {g : GT} {Z : Int × MM} {n : Nat} (C : Cx g cX12_in 3 yX12_in 0 0) (hr : Rt g (some .boolean) 0 Z) {v0 v1 v2 : Int} (cv0 : cK 0 v0) (cv1 : cK 0 v1) (cv2 : cK 0 v2) {h : MM} (hf : f_X12_in n v0 v1 v2 h = some Z) : G g 0 [(0, v0), (0, v1), (0, v2)] [] h := by
  have cv0 : in32 v0 := cv0
  have cv1 : in32 v1 := cv1
  have cv2 : in32 v2 := cv2
  unfold f_X12_in at hf
  refine r_iload_n C dX12_in_0 rfl ?_
  refine r_iload_n C dX12_in_1 rfl ?_
  refine r_icmp_lt C dX12_in_2 (tgt := 14) (by decide) cv0 cv1 (fun n1 => ?_) (fun n1 => ?_)
  · have hf := ite_p n1 hf
    exact G.mask [false, false, false] rfl rfl (b_X12_in_14 C hr   hf)
  · have hf := ite_n n1 hf
    refine r_iload_n C dX12_in_5 rfl ?_
    refine r_iload_n C dX12_in_6 rfl ?_
    refine r_icmp_gt C dX12_in_7 (tgt := 14) (by decide) cv0 cv2 (fun n2 => ?_) (fun n2 => ?_)
    · have hf := ite_p n2 hf
      exact G.mask [false, false, false] rfl rfl (b_X12_in_14 C hr   hf)
    · have hf := ite_n n2 hf
      refine r_iconst C dX12_in_10 ?_
      refine r_goto C dX12_in_11 (tgt := 15) (by decide) ?_
      exact G.mask [false, false, false] rfl rfl (b_X12_in_15 C hr  (in32_of rfl) hf)
set_option maxRecDepth 20000 in
theorem am_X12_in (l : Launch) (n : Nat) : AM l yX12_in cX12_in 3 (some .boolean) 0 0 [0, 0, 0] 0 (un3 (f_X12_in n)) := by
  refine AM.intro (by decide) (fun xs hx => ?_) (fun g xs h Z hl C hr hx hf => ?_)
  · obtain ⟨a0, a1, a2, rfl, c0, c1, c2⟩ := canL_3 hx
    exact Nat.le_of_ble_eq_true rfl
  · obtain ⟨a0, a1, a2, rfl, c0, c1, c2⟩ := canL_3 hx
    have hf := (un3_e _ a0 a1 a2 _).symm.trans hf
    exact e_X12_in (n := n) C hr c0 c1 c2 hf
/-! LinesPromisedModel.isCell(I)Z -/
theorem dX12_isCell_0 : decode cX12_isCell 0 = .ok (.iload_n 0, 1) := by decide +kernel
theorem dX12_isCell_1 : decode cX12_isCell 1 = .ok (.iconst 0, 1) := by decide +kernel
theorem dX12_isCell_2 : decode cX12_isCell 2 = .ok (.bipush 79, 2) := by decide +kernel
theorem dX12_isCell_4 : decode cX12_isCell 4 = .ok (.invokestatic 58, 3) := by decide +kernel
theorem dX12_isCell_7 : decode cX12_isCell 7 = .ok (.ireturn, 1) := by decide +kernel
theorem cm_X12_isCell : CMs yX12_isCell cX12_isCell 1 (some .boolean) 1 := ⟨w_1494, w_1495, w_97, ⟨by decide +kernel, by decide +kernel, by decide +kernel⟩⟩
noncomputable def f_X12_isCell (n : Nat) (v0 : Int) (h : MM) : RR :=
  bd (f_X12_in n v0 0 79 h) fun r1 h1 =>
  ck (isb r1) <|
  some (r1, h1)
set_option maxRecDepth 20000 in
theorem e_X12_isCell {g : GT} {Z : Int × MM} {n : Nat} (C : Cx g cX12_isCell 1 yX12_isCell 1 22) (hr : Rt g (some .boolean) 0 Z) {v0 : Int} (cv0 : cK 0 v0) {h : MM} (hf : f_X12_isCell n v0 h = some Z) : G g 0 [(0, v0)] [] h := by
  have cv0 : in32 v0 := cv0
  unfold f_X12_isCell at hf
  refine r_iload_n C dX12_isCell_0 rfl ?_
  refine r_iconst C dX12_isCell_1 ?_
  refine r_bipush C dX12_isCell_2 rfl ?_
  obtain ⟨r1, h1, hq1, hf⟩ := bd_s hf
  refine r_cS3 C (am_X12_in (gl g) n) cm_X12_in w_1496 dX12_isCell_4 ⟨Nat.le_of_ble_eq_true rfl, Nat.le_of_ble_eq_true rfl⟩ cv0 (in32_of rfl) (in32_of rfl) rfl (Nat.le_of_ble_eq_true rfl) hq1 (by decide) (fun c1 => ?_)
  have c1 : in32 _ := c1
  obtain ⟨b2, hf⟩ := ck_s hf
  cases hf
  exact r_zret C hr dX12_isCell_7 b2
set_option maxRecDepth 20000 in
theorem am_X12_isCell (l : Launch) (n : Nat) : AM l yX12_isCell cX12_isCell 1 (some .boolean) 1 22 [0] 0 (un1 (f_X12_isCell n)) := by
  refine AM.intro (by decide) (fun xs hx => ?_) (fun g xs h Z hl C hr hx hf => ?_)
  · obtain ⟨a0, rfl, c0⟩ := canL_1 hx
    exact Nat.le_of_ble_eq_true rfl
  · obtain ⟨a0, rfl, c0⟩ := canL_1 hx
    have hf := (un1_e _ a0 _).symm.trans hf
    exact e_X12_isCell (n := n) C hr c0 hf
/-! LinesPromisedModel.land(III)I -/
theorem dX12_land_0 : decode cX12_land 0 = .ok (.iload_n 1, 1) := by decide +kernel
theorem dX12_land_1 : decode cX12_land 1 = .ok (.invokestatic 66, 3) := by decide +kernel
theorem dX12_land_4 : decode cX12_land 4 = .ok (.ifCond .eq 12, 3) := by decide +kernel
theorem dX12_land_7 : decode cX12_land 7 = .ok (.iload_n 2, 1) := by decide +kernel
theorem dX12_land_8 : decode cX12_land 8 = .ok (.iconst 0, 1) := by decide +kernel
theorem dX12_land_9 : decode cX12_land 9 = .ok (.iconst 1, 1) := by decide +kernel
theorem dX12_land_10 : decode cX12_land 10 = .ok (.invokestatic 58, 3) := by decide +kernel
theorem dX12_land_13 : decode cX12_land 13 = .ok (.ifCond .ne 5, 3) := by decide +kernel
theorem dX12_land_16 : decode cX12_land 16 = .ok (.iconst (-1), 1) := by decide +kernel
theorem dX12_land_17 : decode cX12_land 17 = .ok (.ireturn, 1) := by decide +kernel
theorem dX12_land_18 : decode cX12_land 18 = .ok (.iload_n 3, 1) := by decide +kernel
theorem dX12_land_19 : decode cX12_land 19 = .ok (.iconst 0, 1) := by decide +kernel
theorem dX12_land_20 : decode cX12_land 20 = .ok (.iload_n 2, 1) := by decide +kernel
theorem dX12_land_21 : decode cX12_land 21 = .ok (.ifCond .ne 8, 3) := by decide +kernel
theorem dX12_land_24 : decode cX12_land 24 = .ok (.bipush 99, 2) := by decide +kernel
theorem dX12_land_26 : decode cX12_land 26 = .ok (.goto 4, 3) := by decide +kernel
theorem dX12_land_29 : decode cX12_land 29 = .ok (.iconst 2, 1) := by decide +kernel
theorem dX12_land_30 : decode cX12_land 30 = .ok (.invokestatic 58, 3) := by decide +kernel
theorem dX12_land_33 : decode cX12_land 33 = .ok (.ifCond .ne 6, 3) := by decide +kernel
theorem dX12_land_36 : decode cX12_land 36 = .ok (.bipush (-2), 2) := by decide +kernel
theorem dX12_land_38 : decode cX12_land 38 = .ok (.ireturn, 1) := by decide +kernel
theorem dX12_land_39 : decode cX12_land 39 = .ok (.iload_n 2, 1) := by decide +kernel
theorem dX12_land_40 : decode cX12_land 40 = .ok (.ifCond .ne 10, 3) := by decide +kernel
theorem dX12_land_43 : decode cX12_land 43 = .ok (.bipush 20, 2) := by decide +kernel
theorem dX12_land_45 : decode cX12_land 45 = .ok (.iload_n 1, 1) := by decide +kernel
theorem dX12_land_46 : decode cX12_land 46 = .ok (.iadd, 1) := by decide +kernel
theorem dX12_land_47 : decode cX12_land 47 = .ok (.goto 7, 3) := by decide +kernel
theorem dX12_land_50 : decode cX12_land 50 = .ok (.bipush 100, 2) := by decide +kernel
theorem dX12_land_52 : decode cX12_land 52 = .ok (.iload_n 1, 1) := by decide +kernel
theorem dX12_land_53 : decode cX12_land 53 = .ok (.iadd, 1) := by decide +kernel
theorem dX12_land_54 : decode cX12_land 54 = .ok (.istore 4, 2) := by decide +kernel
theorem dX12_land_56 : decode cX12_land 56 = .ok (.aload_n 0, 1) := by decide +kernel
theorem dX12_land_57 : decode cX12_land 57 = .ok (.getfield 8, 3) := by decide +kernel
theorem dX12_land_60 : decode cX12_land 60 = .ok (.iload 4, 2) := by decide +kernel
theorem dX12_land_62 : decode cX12_land 62 = .ok (.iaload, 1) := by decide +kernel
theorem dX12_land_63 : decode cX12_land 63 = .ok (.istore 5, 2) := by decide +kernel
theorem dX12_land_65 : decode cX12_land 65 = .ok (.aload_n 0, 1) := by decide +kernel
theorem dX12_land_66 : decode cX12_land 66 = .ok (.getfield 8, 3) := by decide +kernel
theorem dX12_land_69 : decode cX12_land 69 = .ok (.iload 4, 2) := by decide +kernel
theorem dX12_land_71 : decode cX12_land 71 = .ok (.iload_n 3, 1) := by decide +kernel
theorem dX12_land_72 : decode cX12_land 72 = .ok (.iastore, 1) := by decide +kernel
theorem dX12_land_73 : decode cX12_land 73 = .ok (.iload 5, 2) := by decide +kernel
theorem dX12_land_75 : decode cX12_land 75 = .ok (.ireturn, 1) := by decide +kernel
theorem cm_X12_land : CM yX12_land cX12_land 6 (some .int) 3 12 := ⟨w_1490, w_1491, w_1492, w_97, ⟨by decide +kernel, by decide +kernel, by decide +kernel⟩, ⟨_, _, rfl⟩, by decide⟩
noncomputable def f_X12_land_16 (n : Nat)  (h : MM) : RR :=
  some ((-1), h)
noncomputable def f_X12_land_54 (n : Nat)  (v0 v3 s0 : Int) (h : MM) : RR :=
  gf h v0 12 1 fun r1 =>
  rd h r1 100 s0 fun r2 =>
  gf h v0 12 1 fun r3 =>
  wt h r3 100 s0 v3 fun h4 =>
  some (r2, h4)
noncomputable def f_X12_land_30 (n : Nat)  (v0 v1 v2 v3 s0 s1 s2 : Int) (h : MM) : RR :=
  bd (f_X12_in n s0 s1 s2 h) fun r1 h1 =>
  if r1 = 0 then
    some ((-2), h1)
  else
  if v2 = 0 then
    f_X12_land_54 n v0 v3 (wr (20 + v1)) h1
  else
  f_X12_land_54 n v0 v3 (wr (100 + v1)) h1
noncomputable def f_X12_land (n : Nat) (v0 v1 v2 v3 : Int) (h : MM) : RR :=
  bd (f_X12_isCell n v1 h) fun r1 h1 =>
  if r1 = 0 then
    f_X12_land_16 n h1
  else
  bd (f_X12_in n v2 0 1 h1) fun r3 h3 =>
  if r3 = 0 then
    f_X12_land_16 n h3
  else
  if v2 = 0 then
    f_X12_land_30 n v0 v1 v2 v3 v3 0 99 h3
  else
  f_X12_land_30 n v0 v1 v2 v3 v3 0 2 h3
set_option maxRecDepth 20000 in
theorem b_X12_land_16 {g : GT} {Z : Int × MM} {n : Nat} (C : Cx g cX12_land 6 yX12_land 2 42) (hr : Rt g (some .int) 0 Z)     {h : MM} (hf : f_X12_land_16 n   h = some Z) : G g 16 [(3, 0), (3, 0), (3, 0), (3, 0), (3, 0), (3, 0)] [] h := by
  unfold f_X12_land_16 at hf
  refine r_iconst C dX12_land_16 ?_
  cases hf
  exact r_jret C hr dX12_land_17 (in32_of rfl)
set_option maxRecDepth 20000 in
theorem b_X12_land_54 {g : GT} {Z : Int × MM} {n : Nat} (C : Cx g cX12_land 6 yX12_land 2 42) (hr : Rt g (some .int) 0 Z) {v0 v3 s0 : Int}    (cv3 : in32 v3) (cs0 : in32 s0) {h : MM} (hf : f_X12_land_54 n  v0 v3 s0 h = some Z) : G g 54 [(2, v0), (3, 0), (3, 0), (0, v3), (3, 0), (3, 0)] [(0, s0)] h := by
  unfold f_X12_land_54 at hf
  refine r_istore C dX12_land_54 (Nat.le_of_ble_eq_true rfl) rfl ?_
  refine r_aload_n C dX12_land_56 rfl ?_
  obtain ⟨q1, hf⟩ := gf_s hf
  refine r_gf C ct12 (j := 1) (ji := 1) dX12_land_57 q1 rfl rfl (by decide) w_1426 rfl (fun c1 => ?_)
  refine r_iload C dX12_land_60 rfl ?_
  obtain ⟨q2, hf⟩ := rd_s hf
  refine r_iald C dX12_land_62 q2 rfl (fun c2 => ?_)
  refine r_istore C dX12_land_63 (Nat.le_of_ble_eq_true rfl) rfl ?_
  refine r_aload_n C dX12_land_65 rfl ?_
  obtain ⟨q3, hf⟩ := gf_s hf
  refine r_gf C ct12 (j := 1) (ji := 1) dX12_land_66 q3 rfl rfl (by decide) w_1426 rfl (fun c3 => ?_)
  refine r_iload C dX12_land_69 rfl ?_
  refine r_iload_n C dX12_land_71 rfl ?_
  obtain ⟨q4, hf⟩ := wt_s hf
  refine r_iast C dX12_land_72 q4 rfl cv3 ?_
  refine r_iload C dX12_land_73 rfl ?_
  cases hf
  exact r_jret C hr dX12_land_75 c2
set_option maxRecDepth 20000 in
theorem b_X12_land_30 {g : GT} {Z : Int × MM} {n : Nat} (C : Cx g cX12_land 6 yX12_land 2 42) (hr : Rt g (some .int) 0 Z) {v0 v1 v2 v3 s0 s1 s2 : Int}    (cv1 : in32 v1) (cv2 : in32 v2) (cv3 : in32 v3) (cs0 : in32 s0) (cs1 : in32 s1) (cs2 : in32 s2) {h : MM} (hf : f_X12_land_30 n  v0 v1 v2 v3 s0 s1 s2 h = some Z) : G g 30 [(2, v0), (0, v1), (0, v2), (0, v3), (3, 0), (3, 0)] [(0, s2), (0, s1), (0, s0)] h := by
  unfold f_X12_land_30 at hf
  obtain ⟨r1, h1, hq1, hf⟩ := bd_s hf
  refine r_cS3 C (am_X12_in (gl g) n) cm_X12_in w_1496 dX12_land_30 ⟨Nat.le_of_ble_eq_true rfl, Nat.le_of_ble_eq_true rfl⟩ cs0 cs1 cs2 rfl (Nat.le_of_ble_eq_true rfl) hq1 (by decide) (fun c1 => ?_)
  have c1 : in32 _ := c1
  refine r_if_ne C dX12_land_33 (tgt := 39) (by decide) c1 (fun n2 => ?_) (fun n2 => ?_)
  · have hf := ite_n n2 hf
    refine r_iload_n C dX12_land_39 rfl ?_
    refine r_if_ne C dX12_land_40 (tgt := 50) (by decide) cv2 (fun n3 => ?_) (fun n3 => ?_)
    · have hf := ite_n n3 hf
      refine r_bipush C dX12_land_50 rfl ?_
      refine r_iload_n C dX12_land_52 rfl ?_
      refine r_iadd C dX12_land_53 ?_
      exact G.mask [true, false, false, true, false, false] rfl rfl (b_X12_land_54 C hr  cv3 (in32_t _) hf)
    · have hf := ite_p n3 hf
      refine r_bipush C dX12_land_43 rfl ?_
      refine r_iload_n C dX12_land_45 rfl ?_
      refine r_iadd C dX12_land_46 ?_
      refine r_goto C dX12_land_47 (tgt := 54) (by decide) ?_
      exact G.mask [true, false, false, true, false, false] rfl rfl (b_X12_land_54 C hr  cv3 (in32_t _) hf)
  · have hf := ite_p n2 hf
    refine r_bipush C dX12_land_36 rfl ?_
    cases hf
    exact r_jret C hr dX12_land_38 (in32_of rfl)
set_option maxRecDepth 20000 in
theorem e_X12_land {g : GT} {Z : Int × MM} {n : Nat} (C : Cx g cX12_land 6 yX12_land 2 42) (hr : Rt g (some .int) 0 Z) {v0 v1 v2 v3 : Int} (cv0 : cK 2 v0) (cv1 : cK 0 v1) (cv2 : cK 0 v2) (cv3 : cK 0 v3) {h : MM} (hf : f_X12_land n v0 v1 v2 v3 h = some Z) : G g 0 [(2, v0), (0, v1), (0, v2), (0, v3), (3, 0), (3, 0)] [] h := by
  have cv1 : in32 v1 := cv1
  have cv2 : in32 v2 := cv2
  have cv3 : in32 v3 := cv3
  unfold f_X12_land at hf
  refine r_iload_n C dX12_land_0 rfl ?_
  obtain ⟨r1, h1, hq1, hf⟩ := bd_s hf
  refine r_cS1 C (am_X12_isCell (gl g) n) cm_X12_isCell w_1493 dX12_land_1 ⟨Nat.le_of_ble_eq_true rfl, Nat.le_of_ble_eq_true rfl⟩ cv1 rfl (Nat.le_of_ble_eq_true rfl) hq1 (by decide) (fun c1 => ?_)
  have c1 : in32 _ := c1
  refine r_if_eq C dX12_land_4 (tgt := 16) (by decide) c1 (fun n2 => ?_) (fun n2 => ?_)
  · have hf := ite_p n2 hf
    exact G.mask [false, false, false, false, false, false] rfl rfl (b_X12_land_16 C hr   hf)
  · have hf := ite_n n2 hf
    refine r_iload_n C dX12_land_7 rfl ?_
    refine r_iconst C dX12_land_8 ?_
    refine r_iconst C dX12_land_9 ?_
    obtain ⟨r3, h3, hq3, hf⟩ := bd_s hf
    refine r_cS3 C (am_X12_in (gl g) n) cm_X12_in w_1496 dX12_land_10 ⟨Nat.le_of_ble_eq_true rfl, Nat.le_of_ble_eq_true rfl⟩ cv2 (in32_of rfl) (in32_of rfl) rfl (Nat.le_of_ble_eq_true rfl) hq3 (by decide) (fun c3 => ?_)
    have c3 : in32 _ := c3
    refine r_if_ne C dX12_land_13 (tgt := 18) (by decide) c3 (fun n4 => ?_) (fun n4 => ?_)
    · have hf := ite_n n4 hf
      refine r_iload_n C dX12_land_18 rfl ?_
      refine r_iconst C dX12_land_19 ?_
      refine r_iload_n C dX12_land_20 rfl ?_
      refine r_if_ne C dX12_land_21 (tgt := 29) (by decide) cv2 (fun n5 => ?_) (fun n5 => ?_)
      · have hf := ite_n n5 hf
        refine r_iconst C dX12_land_29 ?_
        exact G.mask [true, true, true, true, false, false] rfl rfl (b_X12_land_30 C hr  cv1 cv2 cv3 cv3 (in32_of rfl) (in32_of rfl) hf)
      · have hf := ite_p n5 hf
        refine r_bipush C dX12_land_24 rfl ?_
        refine r_goto C dX12_land_26 (tgt := 30) (by decide) ?_
        exact G.mask [true, true, true, true, false, false] rfl rfl (b_X12_land_30 C hr  cv1 cv2 cv3 cv3 (in32_of rfl) (in32_of rfl) hf)
    · have hf := ite_p n4 hf
      exact G.mask [false, false, false, false, false, false] rfl rfl (b_X12_land_16 C hr   hf)
set_option maxRecDepth 20000 in
theorem am_X12_land (l : Launch) (n : Nat) : AM l yX12_land cX12_land 6 (some .int) 2 42 [2, 0, 0, 0] 0 (un4 (f_X12_land n)) := by
  refine AM.intro (by decide) (fun xs hx => ?_) (fun g xs h Z hl C hr hx hf => ?_)
  · obtain ⟨a0, a1, a2, a3, rfl, c0, c1, c2, c3⟩ := canL_4 hx
    exact Nat.le_of_ble_eq_true rfl
  · obtain ⟨a0, a1, a2, a3, rfl, c0, c1, c2, c3⟩ := canL_4 hx
    have hf := (un4_e _ a0 a1 a2 a3 _).symm.trans hf
    exact e_X12_land (n := n) C hr c0 c1 c2 c3 hf
/-! LinesPromisedModel.town(II)I -/
theorem dX12_town_0 : decode cX12_town 0 = .ok (.iload_n 1, 1) := by decide +kernel
theorem dX12_town_1 : decode cX12_town 1 = .ok (.invokestatic 66, 3) := by decide +kernel
theorem dX12_town_4 : decode cX12_town 4 = .ok (.ifCond .ne 5, 3) := by decide +kernel
theorem dX12_town_7 : decode cX12_town 7 = .ok (.iconst (-1), 1) := by decide +kernel
theorem dX12_town_8 : decode cX12_town 8 = .ok (.ireturn, 1) := by decide +kernel
theorem dX12_town_9 : decode cX12_town 9 = .ok (.iload_n 2, 1) := by decide +kernel
theorem dX12_town_10 : decode cX12_town 10 = .ok (.iconst 0, 1) := by decide +kernel
theorem dX12_town_11 : decode cX12_town 11 = .ok (.bipush 99, 2) := by decide +kernel
theorem dX12_town_13 : decode cX12_town 13 = .ok (.invokestatic 58, 3) := by decide +kernel
theorem dX12_town_16 : decode cX12_town 16 = .ok (.ifCond .ne 6, 3) := by decide +kernel
theorem dX12_town_19 : decode cX12_town 19 = .ok (.bipush (-2), 2) := by decide +kernel
theorem dX12_town_21 : decode cX12_town 21 = .ok (.ireturn, 1) := by decide +kernel
theorem dX12_town_22 : decode cX12_town 22 = .ok (.iconst 0, 1) := by decide +kernel
theorem dX12_town_23 : decode cX12_town 23 = .ok (.istore_n 3, 1) := by decide +kernel
theorem dX12_town_24 : decode cX12_town 24 = .ok (.iload_n 3, 1) := by decide +kernel
theorem dX12_town_25 : decode cX12_town 25 = .ok (.aload_n 0, 1) := by decide +kernel
theorem dX12_town_26 : decode cX12_town 26 = .ok (.getfield 8, 3) := by decide +kernel
theorem dX12_town_29 : decode cX12_town 29 = .ok (.iconst 1, 1) := by decide +kernel
theorem dX12_town_30 : decode cX12_town 30 = .ok (.iaload, 1) := by decide +kernel
theorem dX12_town_31 : decode cX12_town 31 = .ok (.if_icmp .ge 26, 3) := by decide +kernel
theorem dX12_town_34 : decode cX12_town 34 = .ok (.aload_n 0, 1) := by decide +kernel
theorem dX12_town_35 : decode cX12_town 35 = .ok (.getfield 8, 3) := by decide +kernel
theorem dX12_town_38 : decode cX12_town 38 = .ok (.sipush 180, 3) := by decide +kernel
theorem dX12_town_41 : decode cX12_town 41 = .ok (.iload_n 3, 1) := by decide +kernel
theorem dX12_town_42 : decode cX12_town 42 = .ok (.iadd, 1) := by decide +kernel
theorem dX12_town_43 : decode cX12_town 43 = .ok (.iaload, 1) := by decide +kernel
theorem dX12_town_44 : decode cX12_town 44 = .ok (.iload_n 1, 1) := by decide +kernel
theorem dX12_town_45 : decode cX12_town 45 = .ok (.if_icmp .ne 6, 3) := by decide +kernel
theorem dX12_town_48 : decode cX12_town 48 = .ok (.bipush (-3), 2) := by decide +kernel
theorem dX12_town_50 : decode cX12_town 50 = .ok (.ireturn, 1) := by decide +kernel
theorem dX12_town_51 : decode cX12_town 51 = .ok (.iinc 3 1, 3) := by decide +kernel
theorem dX12_town_54 : decode cX12_town 54 = .ok (.goto (-30), 3) := by decide +kernel
theorem dX12_town_57 : decode cX12_town 57 = .ok (.aload_n 0, 1) := by decide +kernel
theorem dX12_town_58 : decode cX12_town 58 = .ok (.getfield 8, 3) := by decide +kernel
theorem dX12_town_61 : decode cX12_town 61 = .ok (.iconst 1, 1) := by decide +kernel
theorem dX12_town_62 : decode cX12_town 62 = .ok (.iaload, 1) := by decide +kernel
theorem dX12_town_63 : decode cX12_town 63 = .ok (.bipush 6, 2) := by decide +kernel
theorem dX12_town_65 : decode cX12_town 65 = .ok (.if_icmp .ne 6, 3) := by decide +kernel
theorem dX12_town_68 : decode cX12_town 68 = .ok (.bipush (-4), 2) := by decide +kernel
theorem dX12_town_70 : decode cX12_town 70 = .ok (.ireturn, 1) := by decide +kernel
theorem dX12_town_71 : decode cX12_town 71 = .ok (.aload_n 0, 1) := by decide +kernel
theorem dX12_town_72 : decode cX12_town 72 = .ok (.getfield 8, 3) := by decide +kernel
theorem dX12_town_75 : decode cX12_town 75 = .ok (.sipush 180, 3) := by decide +kernel
theorem dX12_town_78 : decode cX12_town 78 = .ok (.aload_n 0, 1) := by decide +kernel
theorem dX12_town_79 : decode cX12_town 79 = .ok (.getfield 8, 3) := by decide +kernel
theorem dX12_town_82 : decode cX12_town 82 = .ok (.iconst 1, 1) := by decide +kernel
theorem dX12_town_83 : decode cX12_town 83 = .ok (.iaload, 1) := by decide +kernel
theorem dX12_town_84 : decode cX12_town 84 = .ok (.iadd, 1) := by decide +kernel
theorem dX12_town_85 : decode cX12_town 85 = .ok (.iload_n 1, 1) := by decide +kernel
theorem dX12_town_86 : decode cX12_town 86 = .ok (.iastore, 1) := by decide +kernel
theorem dX12_town_87 : decode cX12_town 87 = .ok (.aload_n 0, 1) := by decide +kernel
theorem dX12_town_88 : decode cX12_town 88 = .ok (.getfield 8, 3) := by decide +kernel
theorem dX12_town_91 : decode cX12_town 91 = .ok (.sipush 186, 3) := by decide +kernel
theorem dX12_town_94 : decode cX12_town 94 = .ok (.aload_n 0, 1) := by decide +kernel
theorem dX12_town_95 : decode cX12_town 95 = .ok (.getfield 8, 3) := by decide +kernel
theorem dX12_town_98 : decode cX12_town 98 = .ok (.iconst 1, 1) := by decide +kernel
theorem dX12_town_99 : decode cX12_town 99 = .ok (.iaload, 1) := by decide +kernel
theorem dX12_town_100 : decode cX12_town 100 = .ok (.iadd, 1) := by decide +kernel
theorem dX12_town_101 : decode cX12_town 101 = .ok (.iload_n 2, 1) := by decide +kernel
theorem dX12_town_102 : decode cX12_town 102 = .ok (.iastore, 1) := by decide +kernel
theorem dX12_town_103 : decode cX12_town 103 = .ok (.aload_n 0, 1) := by decide +kernel
theorem dX12_town_104 : decode cX12_town 104 = .ok (.getfield 8, 3) := by decide +kernel
theorem dX12_town_107 : decode cX12_town 107 = .ok (.iconst 1, 1) := by decide +kernel
theorem dX12_town_108 : decode cX12_town 108 = .ok (.dup2, 1) := by decide +kernel
theorem dX12_town_109 : decode cX12_town 109 = .ok (.iaload, 1) := by decide +kernel
theorem dX12_town_110 : decode cX12_town 110 = .ok (.iconst 1, 1) := by decide +kernel
theorem dX12_town_111 : decode cX12_town 111 = .ok (.iadd, 1) := by decide +kernel
theorem dX12_town_112 : decode cX12_town 112 = .ok (.iastore, 1) := by decide +kernel
theorem dX12_town_113 : decode cX12_town 113 = .ok (.aload_n 0, 1) := by decide +kernel
theorem dX12_town_114 : decode cX12_town 114 = .ok (.getfield 8, 3) := by decide +kernel
theorem dX12_town_117 : decode cX12_town 117 = .ok (.iconst 1, 1) := by decide +kernel
theorem dX12_town_118 : decode cX12_town 118 = .ok (.iaload, 1) := by decide +kernel
theorem dX12_town_119 : decode cX12_town 119 = .ok (.iconst 1, 1) := by decide +kernel
theorem dX12_town_120 : decode cX12_town 120 = .ok (.isub, 1) := by decide +kernel
theorem dX12_town_121 : decode cX12_town 121 = .ok (.ireturn, 1) := by decide +kernel
theorem cm_X12_town : CM yX12_town cX12_town 4 (some .int) 2 12 := ⟨w_1500, w_1501, w_1502, w_97, ⟨by decide +kernel, by decide +kernel, by decide +kernel⟩, ⟨_, _, rfl⟩, by decide⟩
noncomputable def f_X12_town_24b (n : Nat) (rec24 : Int → MM → RR) (v0 v1 v2 v3 : Int) (h : MM) : RR :=
  gf h v0 12 1 fun r1 =>
  rd h r1 100 1 fun r2 =>
  if r2 ≤ v3 then
    gf h v0 12 1 fun r4 =>
    rd h r4 100 1 fun r5 =>
    if r5 = 6 then
      some ((-4), h)
    else
    gf h v0 12 1 fun r7 =>
    gf h v0 12 1 fun r8 =>
    rd h r8 100 1 fun r9 =>
    wt h r7 100 (wr (180 + r9)) v1 fun h10 =>
    gf h10 v0 12 1 fun r11 =>
    gf h10 v0 12 1 fun r12 =>
    rd h10 r12 100 1 fun r13 =>
    wt h10 r11 100 (wr (186 + r13)) v2 fun h14 =>
    gf h14 v0 12 1 fun r15 =>
    rd h14 r15 100 1 fun r16 =>
    wt h14 r15 100 1 (wr (r16 + 1)) fun h17 =>
    gf h17 v0 12 1 fun r18 =>
    rd h17 r18 100 1 fun r19 =>
    some (wr (r19 - 1), h17)
  else
  gf h v0 12 1 fun r20 =>
  rd h r20 100 (wr (180 + v3)) fun r21 =>
  if r21 = v1 then
    some ((-3), h)
  else
  lb (wr (v3 + 1)) fun x23 =>
  rec24 x23 h
noncomputable def f_X12_town_24 (n : Nat)  (v0 v1 v2 : Int) : Nat → Int → MM → RR
  | 0, _, _ => none
  | k + 1, v3, h => f_X12_town_24b n  (f_X12_town_24 n  v0 v1 v2 k) v0 v1 v2 v3 h
noncomputable def f_X12_town (n : Nat) (v0 v1 v2 : Int) (h : MM) : RR :=
  bd (f_X12_isCell n v1 h) fun r1 h1 =>
  if r1 = 0 then
    some ((-1), h1)
  else
  bd (f_X12_in n v2 0 99 h1) fun r3 h3 =>
  if r3 = 0 then
    some ((-2), h3)
  else
  f_X12_town_24 n v0 v1 v2 n 0 h3
set_option maxRecDepth 20000 in
theorem b_X12_town_24b {g : GT} {Z : Int × MM} {n : Nat} (C : Cx g cX12_town 4 yX12_town 2 42) (hr : Rt g (some .int) 0 Z) {v0 v1 v2 v3 : Int}  {rec24 : Int → MM → RR} (L24 : ∀ (u3 : Int) (h : MM), in32 u3 → rec24 u3 h = some Z → G g 24 [(2, v0), (0, v1), (0, v2), (0, u3)] [] h) (cv1 : in32 v1) (cv2 : in32 v2) (cv3 : in32 v3) {h : MM} (hf : f_X12_town_24b n rec24 v0 v1 v2 v3 h = some Z) : G g 24 [(2, v0), (0, v1), (0, v2), (0, v3)] [] h := by
  unfold f_X12_town_24b at hf
  refine r_iload_n C dX12_town_24 rfl ?_
  refine r_aload_n C dX12_town_25 rfl ?_
  obtain ⟨q1, hf⟩ := gf_s hf
  refine r_gf C ct12 (j := 1) (ji := 1) dX12_town_26 q1 rfl rfl (by decide) w_1426 rfl (fun c1 => ?_)
  refine r_iconst C dX12_town_29 ?_
  obtain ⟨q2, hf⟩ := rd_s hf
  refine r_iald C dX12_town_30 q2 rfl (fun c2 => ?_)
  refine r_icmp_ge C dX12_town_31 (tgt := 57) (by decide) cv3 c2 (fun n3 => ?_) (fun n3 => ?_)
  · have hf := ite_p n3 hf
    refine r_aload_n C dX12_town_57 rfl ?_
    obtain ⟨q4, hf⟩ := gf_s hf
    refine r_gf C ct12 (j := 1) (ji := 1) dX12_town_58 q4 rfl rfl (by decide) w_1426 rfl (fun c4 => ?_)
    refine r_iconst C dX12_town_61 ?_
    obtain ⟨q5, hf⟩ := rd_s hf
    refine r_iald C dX12_town_62 q5 rfl (fun c5 => ?_)
    refine r_bipush C dX12_town_63 rfl ?_
    refine r_icmp_ne C dX12_town_65 (tgt := 71) (by decide) c5 (in32_of rfl) (fun n6 => ?_) (fun n6 => ?_)
    · have hf := ite_n n6 hf
      refine r_aload_n C dX12_town_71 rfl ?_
      obtain ⟨q7, hf⟩ := gf_s hf
      refine r_gf C ct12 (j := 1) (ji := 1) dX12_town_72 q7 rfl rfl (by decide) w_1426 rfl (fun c7 => ?_)
      refine r_sipush C dX12_town_75 rfl ?_
      refine r_aload_n C dX12_town_78 rfl ?_
      obtain ⟨q8, hf⟩ := gf_s hf
      refine r_gf C ct12 (j := 1) (ji := 1) dX12_town_79 q8 rfl rfl (by decide) w_1426 rfl (fun c8 => ?_)
      refine r_iconst C dX12_town_82 ?_
      obtain ⟨q9, hf⟩ := rd_s hf
      refine r_iald C dX12_town_83 q9 rfl (fun c9 => ?_)
      refine r_iadd C dX12_town_84 ?_
      refine r_iload_n C dX12_town_85 rfl ?_
      obtain ⟨q10, hf⟩ := wt_s hf
      refine r_iast C dX12_town_86 q10 rfl cv1 ?_
      refine r_aload_n C dX12_town_87 rfl ?_
      obtain ⟨q11, hf⟩ := gf_s hf
      refine r_gf C ct12 (j := 1) (ji := 1) dX12_town_88 q11 rfl rfl (by decide) w_1426 rfl (fun c11 => ?_)
      refine r_sipush C dX12_town_91 rfl ?_
      refine r_aload_n C dX12_town_94 rfl ?_
      obtain ⟨q12, hf⟩ := gf_s hf
      refine r_gf C ct12 (j := 1) (ji := 1) dX12_town_95 q12 rfl rfl (by decide) w_1426 rfl (fun c12 => ?_)
      refine r_iconst C dX12_town_98 ?_
      obtain ⟨q13, hf⟩ := rd_s hf
      refine r_iald C dX12_town_99 q13 rfl (fun c13 => ?_)
      refine r_iadd C dX12_town_100 ?_
      refine r_iload_n C dX12_town_101 rfl ?_
      obtain ⟨q14, hf⟩ := wt_s hf
      refine r_iast C dX12_town_102 q14 rfl cv2 ?_
      refine r_aload_n C dX12_town_103 rfl ?_
      obtain ⟨q15, hf⟩ := gf_s hf
      refine r_gf C ct12 (j := 1) (ji := 1) dX12_town_104 q15 rfl rfl (by decide) w_1426 rfl (fun c15 => ?_)
      refine r_iconst C dX12_town_107 ?_
      refine r_dup2 C dX12_town_108 (by decide) (by decide) ?_
      obtain ⟨q16, hf⟩ := rd_s hf
      refine r_iald C dX12_town_109 q16 rfl (fun c16 => ?_)
      refine r_iconst C dX12_town_110 ?_
      refine r_iadd C dX12_town_111 ?_
      obtain ⟨q17, hf⟩ := wt_s hf
      refine r_iast C dX12_town_112 q17 rfl (in32_t _) ?_
      refine r_aload_n C dX12_town_113 rfl ?_
      obtain ⟨q18, hf⟩ := gf_s hf
      refine r_gf C ct12 (j := 1) (ji := 1) dX12_town_114 q18 rfl rfl (by decide) w_1426 rfl (fun c18 => ?_)
      refine r_iconst C dX12_town_117 ?_
      obtain ⟨q19, hf⟩ := rd_s hf
      refine r_iald C dX12_town_118 q19 rfl (fun c19 => ?_)
      refine r_iconst C dX12_town_119 ?_
      refine r_isub C dX12_town_120 ?_
      cases hf
      exact r_jret C hr dX12_town_121 (in32_t _)
    · have hf := ite_p n6 hf
      refine r_bipush C dX12_town_68 rfl ?_
      cases hf
      exact r_jret C hr dX12_town_70 (in32_of rfl)
  · have hf := ite_n n3 hf
    refine r_aload_n C dX12_town_34 rfl ?_
    obtain ⟨q20, hf⟩ := gf_s hf
    refine r_gf C ct12 (j := 1) (ji := 1) dX12_town_35 q20 rfl rfl (by decide) w_1426 rfl (fun c20 => ?_)
    refine r_sipush C dX12_town_38 rfl ?_
    refine r_iload_n C dX12_town_41 rfl ?_
    refine r_iadd C dX12_town_42 ?_
    obtain ⟨q21, hf⟩ := rd_s hf
    refine r_iald C dX12_town_43 q21 rfl (fun c21 => ?_)
    refine r_iload_n C dX12_town_44 rfl ?_
    refine r_icmp_ne C dX12_town_45 (tgt := 51) (by decide) c21 cv1 (fun n22 => ?_) (fun n22 => ?_)
    · have hf := ite_n n22 hf
      obtain ⟨x23, e23, hf⟩ := lb_s hf
      have c23 : in32 x23 := by rw [e23]; exact (in32_t _)
      refine r_iincL C dX12_town_51 rfl e23 (Nat.le_of_ble_eq_true rfl) rfl ?_
      refine r_goto C dX12_town_54 (tgt := 24) (by decide) ?_
      exact G.mask [true, true, true, true] rfl rfl (L24 _ _ c23 hf)
    · have hf := ite_p n22 hf
      refine r_bipush C dX12_town_48 rfl ?_
      cases hf
      exact r_jret C hr dX12_town_50 (in32_of rfl)
set_option maxRecDepth 20000 in
theorem l_X12_town_24 {g : GT} {Z : Int × MM} {n : Nat} (C : Cx g cX12_town 4 yX12_town 2 42) (hr : Rt g (some .int) 0 Z) {v0 v1 v2 : Int}   (cv1 : in32 v1) (cv2 : in32 v2) : ∀ (k : Nat) (v3 : Int) (h : MM), in32 v3 → f_X12_town_24 n  v0 v1 v2 k v3 h = some Z → G g 24 [(2, v0), (0, v1), (0, v2), (0, v3)] [] h := by
  intro k
  induction k with
  | zero => intro v3 h cv3 hf; exact absurd hf (by intro z; cases z)
  | succ k ih => intro v3 h cv3 hf; exact b_X12_town_24b C hr (rec24 := f_X12_town_24 n  v0 v1 v2 k)  ih cv1 cv2 cv3 (show f_X12_town_24b n  (f_X12_town_24 n  v0 v1 v2 k) v0 v1 v2 v3 h = some Z from hf)
set_option maxRecDepth 20000 in
theorem e_X12_town {g : GT} {Z : Int × MM} {n : Nat} (C : Cx g cX12_town 4 yX12_town 2 42) (hr : Rt g (some .int) 0 Z) {v0 v1 v2 : Int} (cv0 : cK 2 v0) (cv1 : cK 0 v1) (cv2 : cK 0 v2) {h : MM} (hf : f_X12_town n v0 v1 v2 h = some Z) : G g 0 [(2, v0), (0, v1), (0, v2), (3, 0)] [] h := by
  have cv1 : in32 v1 := cv1
  have cv2 : in32 v2 := cv2
  unfold f_X12_town at hf
  refine r_iload_n C dX12_town_0 rfl ?_
  obtain ⟨r1, h1, hq1, hf⟩ := bd_s hf
  refine r_cS1 C (am_X12_isCell (gl g) n) cm_X12_isCell w_1493 dX12_town_1 ⟨Nat.le_of_ble_eq_true rfl, Nat.le_of_ble_eq_true rfl⟩ cv1 rfl (Nat.le_of_ble_eq_true rfl) hq1 (by decide) (fun c1 => ?_)
  have c1 : in32 _ := c1
  refine r_if_ne C dX12_town_4 (tgt := 9) (by decide) c1 (fun n2 => ?_) (fun n2 => ?_)
  · have hf := ite_n n2 hf
    refine r_iload_n C dX12_town_9 rfl ?_
    refine r_iconst C dX12_town_10 ?_
    refine r_bipush C dX12_town_11 rfl ?_
    obtain ⟨r3, h3, hq3, hf⟩ := bd_s hf
    refine r_cS3 C (am_X12_in (gl g) n) cm_X12_in w_1496 dX12_town_13 ⟨Nat.le_of_ble_eq_true rfl, Nat.le_of_ble_eq_true rfl⟩ cv2 (in32_of rfl) (in32_of rfl) rfl (Nat.le_of_ble_eq_true rfl) hq3 (by decide) (fun c3 => ?_)
    have c3 : in32 _ := c3
    refine r_if_ne C dX12_town_16 (tgt := 22) (by decide) c3 (fun n4 => ?_) (fun n4 => ?_)
    · have hf := ite_n n4 hf
      refine r_iconst C dX12_town_22 ?_
      refine r_istore_n C dX12_town_23 (Nat.le_of_ble_eq_true rfl) rfl ?_
      exact G.mask [true, true, true, true] rfl rfl (l_X12_town_24 C hr  cv1 cv2 _ _ _ (in32_of rfl) hf)
    · have hf := ite_p n4 hf
      refine r_bipush C dX12_town_19 rfl ?_
      cases hf
      exact r_jret C hr dX12_town_21 (in32_of rfl)
  · have hf := ite_p n2 hf
    refine r_iconst C dX12_town_7 ?_
    cases hf
    exact r_jret C hr dX12_town_8 (in32_of rfl)
set_option maxRecDepth 20000 in
theorem am_X12_town (l : Launch) (n : Nat) : AM l yX12_town cX12_town 4 (some .int) 2 42 [2, 0, 0] 0 (un3 (f_X12_town n)) := by
  refine AM.intro (by decide) (fun xs hx => ?_) (fun g xs h Z hl C hr hx hf => ?_)
  · obtain ⟨a0, a1, a2, rfl, c0, c1, c2⟩ := canL_3 hx
    exact Nat.le_of_ble_eq_true rfl
  · obtain ⟨a0, a1, a2, rfl, c0, c1, c2⟩ := canL_3 hx
    have hf := (un3_e _ a0 a1 a2 _).symm.trans hf
    exact e_X12_town (n := n) C hr c0 c1 c2 hf
/-! LinesPromisedModel.isHolder(I)Z -/
theorem dX12_isHolder_0 : decode cX12_isHolder 0 = .ok (.iload_n 0, 1) := by decide +kernel
theorem dX12_isHolder_1 : decode cX12_isHolder 1 = .ok (.iconst 0, 1) := by decide +kernel
theorem dX12_isHolder_2 : decode cX12_isHolder 2 = .ok (.bipush 7, 2) := by decide +kernel
theorem dX12_isHolder_4 : decode cX12_isHolder 4 = .ok (.invokestatic 58, 3) := by decide +kernel
theorem dX12_isHolder_7 : decode cX12_isHolder 7 = .ok (.ireturn, 1) := by decide +kernel
theorem cm_X12_isHolder : CMs yX12_isHolder cX12_isHolder 1 (some .boolean) 1 := ⟨w_1508, w_1509, w_97, ⟨by decide +kernel, by decide +kernel, by decide +kernel⟩⟩
noncomputable def f_X12_isHolder (n : Nat) (v0 : Int) (h : MM) : RR :=
  bd (f_X12_in n v0 0 7 h) fun r1 h1 =>
  ck (isb r1) <|
  some (r1, h1)
set_option maxRecDepth 20000 in
theorem e_X12_isHolder {g : GT} {Z : Int × MM} {n : Nat} (C : Cx g cX12_isHolder 1 yX12_isHolder 1 22) (hr : Rt g (some .boolean) 0 Z) {v0 : Int} (cv0 : cK 0 v0) {h : MM} (hf : f_X12_isHolder n v0 h = some Z) : G g 0 [(0, v0)] [] h := by
  have cv0 : in32 v0 := cv0
  unfold f_X12_isHolder at hf
  refine r_iload_n C dX12_isHolder_0 rfl ?_
  refine r_iconst C dX12_isHolder_1 ?_
  refine r_bipush C dX12_isHolder_2 rfl ?_
  obtain ⟨r1, h1, hq1, hf⟩ := bd_s hf
  refine r_cS3 C (am_X12_in (gl g) n) cm_X12_in w_1496 dX12_isHolder_4 ⟨Nat.le_of_ble_eq_true rfl, Nat.le_of_ble_eq_true rfl⟩ cv0 (in32_of rfl) (in32_of rfl) rfl (Nat.le_of_ble_eq_true rfl) hq1 (by decide) (fun c1 => ?_)
  have c1 : in32 _ := c1
  obtain ⟨b2, hf⟩ := ck_s hf
  cases hf
  exact r_zret C hr dX12_isHolder_7 b2
set_option maxRecDepth 20000 in
theorem am_X12_isHolder (l : Launch) (n : Nat) : AM l yX12_isHolder cX12_isHolder 1 (some .boolean) 1 22 [0] 0 (un1 (f_X12_isHolder n)) := by
  refine AM.intro (by decide) (fun xs hx => ?_) (fun g xs h Z hl C hr hx hf => ?_)
  · obtain ⟨a0, rfl, c0⟩ := canL_1 hx
    exact Nat.le_of_ble_eq_true rfl
  · obtain ⟨a0, rfl, c0⟩ := canL_1 hx
    have hf := (un1_e _ a0 _).symm.trans hf
    exact e_X12_isHolder (n := n) C hr c0 hf
/-! LinesPromisedModel.coin(II)I -/
theorem dX12_coin_0 : decode cX12_coin 0 = .ok (.iload_n 1, 1) := by decide +kernel
theorem dX12_coin_1 : decode cX12_coin 1 = .ok (.invokestatic 69, 3) := by decide +kernel
theorem dX12_coin_4 : decode cX12_coin 4 = .ok (.ifCond .ne 5, 3) := by decide +kernel
theorem dX12_coin_7 : decode cX12_coin 7 = .ok (.iconst (-1), 1) := by decide +kernel
theorem dX12_coin_8 : decode cX12_coin 8 = .ok (.ireturn, 1) := by decide +kernel
theorem dX12_coin_9 : decode cX12_coin 9 = .ok (.iload_n 2, 1) := by decide +kernel
theorem dX12_coin_10 : decode cX12_coin 10 = .ok (.iconst 0, 1) := by decide +kernel
theorem dX12_coin_11 : decode cX12_coin 11 = .ok (.ldc 72, 2) := by decide +kernel
theorem dX12_coin_13 : decode cX12_coin 13 = .ok (.invokestatic 58, 3) := by decide +kernel
theorem dX12_coin_16 : decode cX12_coin 16 = .ok (.ifCond .ne 6, 3) := by decide +kernel
theorem dX12_coin_19 : decode cX12_coin 19 = .ok (.bipush (-2), 2) := by decide +kernel
theorem dX12_coin_21 : decode cX12_coin 21 = .ok (.ireturn, 1) := by decide +kernel
theorem dX12_coin_22 : decode cX12_coin 22 = .ok (.aload_n 0, 1) := by decide +kernel
theorem dX12_coin_23 : decode cX12_coin 23 = .ok (.getfield 8, 3) := by decide +kernel
theorem dX12_coin_26 : decode cX12_coin 26 = .ok (.sipush 192, 3) := by decide +kernel
theorem dX12_coin_29 : decode cX12_coin 29 = .ok (.iload_n 1, 1) := by decide +kernel
theorem dX12_coin_30 : decode cX12_coin 30 = .ok (.iadd, 1) := by decide +kernel
theorem dX12_coin_31 : decode cX12_coin 31 = .ok (.iaload, 1) := by decide +kernel
theorem dX12_coin_32 : decode cX12_coin 32 = .ok (.istore_n 3, 1) := by decide +kernel
theorem dX12_coin_33 : decode cX12_coin 33 = .ok (.aload_n 0, 1) := by decide +kernel
theorem dX12_coin_34 : decode cX12_coin 34 = .ok (.getfield 8, 3) := by decide +kernel
theorem dX12_coin_37 : decode cX12_coin 37 = .ok (.sipush 192, 3) := by decide +kernel
theorem dX12_coin_40 : decode cX12_coin 40 = .ok (.iload_n 1, 1) := by decide +kernel
theorem dX12_coin_41 : decode cX12_coin 41 = .ok (.iadd, 1) := by decide +kernel
theorem dX12_coin_42 : decode cX12_coin 42 = .ok (.iload_n 2, 1) := by decide +kernel
theorem dX12_coin_43 : decode cX12_coin 43 = .ok (.iastore, 1) := by decide +kernel
theorem dX12_coin_44 : decode cX12_coin 44 = .ok (.iload_n 3, 1) := by decide +kernel
theorem dX12_coin_45 : decode cX12_coin 45 = .ok (.ireturn, 1) := by decide +kernel
theorem cm_X12_coin : CM yX12_coin cX12_coin 4 (some .int) 2 12 := ⟨w_1504, w_1505, w_1506, w_97, ⟨by decide +kernel, by decide +kernel, by decide +kernel⟩, ⟨_, _, rfl⟩, by decide⟩
noncomputable def f_X12_coin (n : Nat) (v0 v1 v2 : Int) (h : MM) : RR :=
  bd (f_X12_isHolder n v1 h) fun r1 h1 =>
  if r1 = 0 then
    some ((-1), h1)
  else
  bd (f_X12_in n v2 0 99999 h1) fun r3 h3 =>
  if r3 = 0 then
    some ((-2), h3)
  else
  gf h3 v0 12 1 fun r5 =>
  rd h3 r5 100 (wr (192 + v1)) fun r6 =>
  gf h3 v0 12 1 fun r7 =>
  wt h3 r7 100 (wr (192 + v1)) v2 fun h8 =>
  some (r6, h8)
set_option maxRecDepth 20000 in
theorem e_X12_coin {g : GT} {Z : Int × MM} {n : Nat} (C : Cx g cX12_coin 4 yX12_coin 2 42) (hr : Rt g (some .int) 0 Z) {v0 v1 v2 : Int} (cv0 : cK 2 v0) (cv1 : cK 0 v1) (cv2 : cK 0 v2) {h : MM} (hf : f_X12_coin n v0 v1 v2 h = some Z) : G g 0 [(2, v0), (0, v1), (0, v2), (3, 0)] [] h := by
  have cv1 : in32 v1 := cv1
  have cv2 : in32 v2 := cv2
  unfold f_X12_coin at hf
  refine r_iload_n C dX12_coin_0 rfl ?_
  obtain ⟨r1, h1, hq1, hf⟩ := bd_s hf
  refine r_cS1 C (am_X12_isHolder (gl g) n) cm_X12_isHolder w_1507 dX12_coin_1 ⟨Nat.le_of_ble_eq_true rfl, Nat.le_of_ble_eq_true rfl⟩ cv1 rfl (Nat.le_of_ble_eq_true rfl) hq1 (by decide) (fun c1 => ?_)
  have c1 : in32 _ := c1
  refine r_if_ne C dX12_coin_4 (tgt := 9) (by decide) c1 (fun n2 => ?_) (fun n2 => ?_)
  · have hf := ite_n n2 hf
    refine r_iload_n C dX12_coin_9 rfl ?_
    refine r_iconst C dX12_coin_10 ?_
    refine r_ldc C (v := 99999) dX12_coin_11 w_1510 ?_
    obtain ⟨r3, h3, hq3, hf⟩ := bd_s hf
    refine r_cS3 C (am_X12_in (gl g) n) cm_X12_in w_1496 dX12_coin_13 ⟨Nat.le_of_ble_eq_true rfl, Nat.le_of_ble_eq_true rfl⟩ cv2 (in32_of rfl) (in32_of rfl) rfl (Nat.le_of_ble_eq_true rfl) hq3 (by decide) (fun c3 => ?_)
    have c3 : in32 _ := c3
    refine r_if_ne C dX12_coin_16 (tgt := 22) (by decide) c3 (fun n4 => ?_) (fun n4 => ?_)
    · have hf := ite_n n4 hf
      refine r_aload_n C dX12_coin_22 rfl ?_
      obtain ⟨q5, hf⟩ := gf_s hf
      refine r_gf C ct12 (j := 1) (ji := 1) dX12_coin_23 q5 rfl rfl (by decide) w_1426 rfl (fun c5 => ?_)
      refine r_sipush C dX12_coin_26 rfl ?_
      refine r_iload_n C dX12_coin_29 rfl ?_
      refine r_iadd C dX12_coin_30 ?_
      obtain ⟨q6, hf⟩ := rd_s hf
      refine r_iald C dX12_coin_31 q6 rfl (fun c6 => ?_)
      refine r_istore_n C dX12_coin_32 (Nat.le_of_ble_eq_true rfl) rfl ?_
      refine r_aload_n C dX12_coin_33 rfl ?_
      obtain ⟨q7, hf⟩ := gf_s hf
      refine r_gf C ct12 (j := 1) (ji := 1) dX12_coin_34 q7 rfl rfl (by decide) w_1426 rfl (fun c7 => ?_)
      refine r_sipush C dX12_coin_37 rfl ?_
      refine r_iload_n C dX12_coin_40 rfl ?_
      refine r_iadd C dX12_coin_41 ?_
      refine r_iload_n C dX12_coin_42 rfl ?_
      obtain ⟨q8, hf⟩ := wt_s hf
      refine r_iast C dX12_coin_43 q8 rfl cv2 ?_
      refine r_iload_n C dX12_coin_44 rfl ?_
      cases hf
      exact r_jret C hr dX12_coin_45 c6
    · have hf := ite_p n4 hf
      refine r_bipush C dX12_coin_19 rfl ?_
      cases hf
      exact r_jret C hr dX12_coin_21 (in32_of rfl)
  · have hf := ite_p n2 hf
    refine r_iconst C dX12_coin_7 ?_
    cases hf
    exact r_jret C hr dX12_coin_8 (in32_of rfl)
set_option maxRecDepth 20000 in
theorem am_X12_coin (l : Launch) (n : Nat) : AM l yX12_coin cX12_coin 4 (some .int) 2 42 [2, 0, 0] 0 (un3 (f_X12_coin n)) := by
  refine AM.intro (by decide) (fun xs hx => ?_) (fun g xs h Z hl C hr hx hf => ?_)
  · obtain ⟨a0, a1, a2, rfl, c0, c1, c2⟩ := canL_3 hx
    exact Nat.le_of_ble_eq_true rfl
  · obtain ⟨a0, a1, a2, rfl, c0, c1, c2⟩ := canL_3 hx
    have hf := (un3_e _ a0 a1 a2 _).symm.trans hf
    exact e_X12_coin (n := n) C hr c0 c1 c2 hf
