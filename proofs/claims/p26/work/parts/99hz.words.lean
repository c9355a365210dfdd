/-! WORDS OF THE LAW -/
theorem w123 : (Cond.classLink "ClockhouseLaw" (8 : Nat) "Clockhouse") ∈ lw_gw := am_w 123 (by decide +kernel) rfl
theorem w124 : (Cond.instantiable "Clockhouse" (13 : Nat)) ∈ lw_gw := am_w 124 (by decide +kernel) rfl
theorem w125 : (Cond.methodLink "ClockhouseLaw" (178 : Nat) ({ cls := "Clockhouse", name := "<init>", desc := "()V" } : MethodName)) ∈ lw_gw := am_w 125 (by decide +kernel) rfl
theorem w126 : (Cond.instanceMethod ({ cls := "Clockhouse", name := "<init>", desc := "()V" } : MethodName)) ∈ lw_gw := am_w 126 (by decide +kernel) rfl
theorem w393 : (Cond.methodLink "ClockhouseLaw" (239 : Nat) ({ cls := "Clockhouse", name := "knock", desc := "()I" } : MethodName)) ∈ lw_gw := am_w 393 (by decide +kernel) rfl
theorem w394 : (Cond.instanceMethod ({ cls := "Clockhouse", name := "knock", desc := "()I" } : MethodName)) ∈ lw_gw := am_w 394 (by decide +kernel) rfl
theorem w395 : (Cond.selects "Clockhouse" ({ cls := "Clockhouse", name := "knock", desc := "()I" } : MethodName) ({ cls := "Clockhouse", name := "knock", desc := "()I" } : MethodName)) ∈ lw_gw := am_w 395 (by decide +kernel) rfl
theorem w397 : (Cond.methodLink "ClockhouseLaw" (262 : Nat) ({ cls := "Clockhouse", name := "size", desc := "()I" } : MethodName)) ∈ lw_gw := am_w 397 (by decide +kernel) rfl
theorem w398 : (Cond.instanceMethod ({ cls := "Clockhouse", name := "size", desc := "()I" } : MethodName)) ∈ lw_gw := am_w 398 (by decide +kernel) rfl
theorem w399 : (Cond.selects "Clockhouse" ({ cls := "Clockhouse", name := "size", desc := "()I" } : MethodName) ({ cls := "Clockhouse", name := "size", desc := "()I" } : MethodName)) ∈ lw_gw := am_w 399 (by decide +kernel) rfl
theorem w401 : (Cond.methodLink "ClockhouseLaw" (284 : Nat) ({ cls := "Clockhouse", name := "units", desc := "()I" } : MethodName)) ∈ lw_gw := am_w 401 (by decide +kernel) rfl
theorem w415 : (Cond.methodLink "ClockhouseLaw" (309 : Nat) ({ cls := "Clockhouse", name := "isPrime", desc := "()Z" } : MethodName)) ∈ lw_gw := am_w 415 (by decide +kernel) rfl
theorem w422 : (Cond.methodLink "ClockhouseLaw" (320 : Nat) ({ cls := "Clockhouse", name := "rows", desc := "()I" } : MethodName)) ∈ lw_gw := am_w 422 (by decide +kernel) rfl
theorem w423 : (Cond.instanceMethod ({ cls := "Clockhouse", name := "rows", desc := "()I" } : MethodName)) ∈ lw_gw := am_w 423 (by decide +kernel) rfl
theorem w424 : (Cond.selects "Clockhouse" ({ cls := "Clockhouse", name := "rows", desc := "()I" } : MethodName) ({ cls := "Clockhouse", name := "rows", desc := "()I" } : MethodName)) ∈ lw_gw := am_w 424 (by decide +kernel) rfl
theorem w426 : (Cond.methodLink "ClockhouseLaw" (330 : Nat) ({ cls := "Clockhouse", name := "isJoined", desc := "()Z" } : MethodName)) ∈ lw_gw := am_w 426 (by decide +kernel) rfl
theorem w427 : (Cond.instanceMethod ({ cls := "Clockhouse", name := "isJoined", desc := "()Z" } : MethodName)) ∈ lw_gw := am_w 427 (by decide +kernel) rfl
theorem w428 : (Cond.selects "Clockhouse" ({ cls := "Clockhouse", name := "isJoined", desc := "()Z" } : MethodName) ({ cls := "Clockhouse", name := "isJoined", desc := "()Z" } : MethodName)) ∈ lw_gw := am_w 428 (by decide +kernel) rfl
theorem w453 : (Cond.methodLink "ClockhouseLaw" (337 : Nat) ({ cls := "Clockhouse", name := "answer", desc := "()Ljava/lang/String;" } : MethodName)) ∈ lw_gw := am_w 453 (by decide +kernel) rfl
theorem w454 : (Cond.instanceMethod ({ cls := "Clockhouse", name := "answer", desc := "()Ljava/lang/String;" } : MethodName)) ∈ lw_gw := am_w 454 (by decide +kernel) rfl
theorem w455 : (Cond.selects "Clockhouse" ({ cls := "Clockhouse", name := "answer", desc := "()Ljava/lang/String;" } : MethodName) ({ cls := "Clockhouse", name := "answer", desc := "()Ljava/lang/String;" } : MethodName)) ∈ lw_gw := am_w 455 (by decide +kernel) rfl
theorem w856 : (Cond.methodLink "ClockhouseLaw" (342 : Nat) ({ cls := "Clockhouse", name := "answerDial", desc := "()Ljava/lang/String;" } : MethodName)) ∈ lw_gw := am_w 856 (by decide +kernel) rfl
theorem w857 : (Cond.instanceMethod ({ cls := "Clockhouse", name := "answerDial", desc := "()Ljava/lang/String;" } : MethodName)) ∈ lw_gw := am_w 857 (by decide +kernel) rfl
theorem w858 : (Cond.selects "Clockhouse" ({ cls := "Clockhouse", name := "answerDial", desc := "()Ljava/lang/String;" } : MethodName) ({ cls := "Clockhouse", name := "answerDial", desc := "()Ljava/lang/String;" } : MethodName)) ∈ lw_gw := am_w 858 (by decide +kernel) rfl
theorem w860 : (Cond.methodLink "ClockhouseLaw" (352 : Nat) ({ cls := "Clockhouse", name := "bases", desc := "()I" } : MethodName)) ∈ lw_gw := am_w 860 (by decide +kernel) rfl
theorem w861 : (Cond.instanceMethod ({ cls := "Clockhouse", name := "bases", desc := "()I" } : MethodName)) ∈ lw_gw := am_w 861 (by decide +kernel) rfl
theorem w862 : (Cond.selects "Clockhouse" ({ cls := "Clockhouse", name := "bases", desc := "()I" } : MethodName) ({ cls := "Clockhouse", name := "bases", desc := "()I" } : MethodName)) ∈ lw_gw := am_w 862 (by decide +kernel) rfl
theorem w864 : (Cond.methodLink "ClockhouseLaw" (356 : Nat) ({ cls := "Clockhouse", name := "span", desc := "()Ljava/lang/String;" } : MethodName)) ∈ lw_gw := am_w 864 (by decide +kernel) rfl
theorem w865 : (Cond.instanceMethod ({ cls := "Clockhouse", name := "span", desc := "()Ljava/lang/String;" } : MethodName)) ∈ lw_gw := am_w 865 (by decide +kernel) rfl
theorem w866 : (Cond.selects "Clockhouse" ({ cls := "Clockhouse", name := "span", desc := "()Ljava/lang/String;" } : MethodName) ({ cls := "Clockhouse", name := "span", desc := "()Ljava/lang/String;" } : MethodName)) ∈ lw_gw := am_w 866 (by decide +kernel) rfl
theorem w872 : (Cond.methodLink "ClockhouseLaw" (375 : Nat) ({ cls := "Clockhouse", name := "isSound", desc := "()Z" } : MethodName)) ∈ lw_gw := am_w 872 (by decide +kernel) rfl
theorem w1027 : (Cond.methodLink "ClockhouseLaw" (379 : Nat) ({ cls := "Clockhouse", name := "digest", desc := "()J" } : MethodName)) ∈ lw_gw := am_w 1027 (by decide +kernel) rfl
theorem w1028 : (Cond.instanceMethod ({ cls := "Clockhouse", name := "digest", desc := "()J" } : MethodName)) ∈ lw_gw := am_w 1028 (by decide +kernel) rfl
theorem w1029 : (Cond.selects "Clockhouse" ({ cls := "Clockhouse", name := "digest", desc := "()J" } : MethodName) ({ cls := "Clockhouse", name := "digest", desc := "()J" } : MethodName)) ∈ lw_gw := am_w 1029 (by decide +kernel) rfl
theorem w1200 : (Cond.classLink "ClockhouseLaw" (14 : Nat) "ClockhouseLaw$Out") ∈ lw_gw := am_w 1200 (by decide +kernel) rfl
theorem w1201 : (Cond.instantiable "ClockhouseLaw$Out" (2 : Nat)) ∈ lw_gw := am_w 1201 (by decide +kernel) rfl
theorem w1202 : (Cond.methodLinkNest "ClockhouseLaw" (182 : Nat) ({ cls := "ClockhouseLaw$Out", name := "<init>", desc := "()V" } : MethodName) "ClockhouseLaw") ∈ lw_ng := am_ng 1202 (by decide +kernel) rfl
theorem w1203 : (Cond.instanceMethod ({ cls := "ClockhouseLaw$Out", name := "<init>", desc := "()V" } : MethodName)) ∈ lw_gw := am_w 1203 (by decide +kernel) rfl
theorem w1213 : (Cond.methodLink "ClockhouseLaw" (183 : Nat) ({ cls := "ClockhouseLaw", name := "dial", desc := "(LClockhouse;ILClockhouseLaw$Out;)I" } : MethodName)) ∈ lw_gw := am_w 1213 (by decide +kernel) rfl
theorem w1214 : (Cond.static ({ cls := "ClockhouseLaw", name := "dial", desc := "(LClockhouse;ILClockhouseLaw$Out;)I" } : MethodName)) ∈ lw_gw := am_w 1214 (by decide +kernel) rfl
theorem w1232 : (Cond.methodLink "ClockhouseLaw" (189 : Nat) ({ cls := "ClockhouseLaw", name := "set", desc := "(LClockhouse;IILClockhouseLaw$Out;)I" } : MethodName)) ∈ lw_gw := am_w 1232 (by decide +kernel) rfl
theorem w1233 : (Cond.static ({ cls := "ClockhouseLaw", name := "set", desc := "(LClockhouse;IILClockhouseLaw$Out;)I" } : MethodName)) ∈ lw_gw := am_w 1233 (by decide +kernel) rfl
theorem w1240 : (Cond.methodLink "ClockhouseLaw" (193 : Nat) ({ cls := "ClockhouseLaw", name := "lengthen", desc := "(LClockhouse;IILClockhouseLaw$Out;)I" } : MethodName)) ∈ lw_gw := am_w 1240 (by decide +kernel) rfl
theorem w1241 : (Cond.static ({ cls := "ClockhouseLaw", name := "lengthen", desc := "(LClockhouse;IILClockhouseLaw$Out;)I" } : MethodName)) ∈ lw_gw := am_w 1241 (by decide +kernel) rfl
theorem w1272 : (Cond.methodLink "ClockhouseLaw" (196 : Nat) ({ cls := "ClockhouseLaw", name := "plus", desc := "(LClockhouse;IILClockhouseLaw$Out;)I" } : MethodName)) ∈ lw_gw := am_w 1272 (by decide +kernel) rfl
theorem w1273 : (Cond.static ({ cls := "ClockhouseLaw", name := "plus", desc := "(LClockhouse;IILClockhouseLaw$Out;)I" } : MethodName)) ∈ lw_gw := am_w 1273 (by decide +kernel) rfl
theorem w1279 : (Cond.methodLink "ClockhouseLaw" (199 : Nat) ({ cls := "ClockhouseLaw", name := "times", desc := "(LClockhouse;IILClockhouseLaw$Out;)I" } : MethodName)) ∈ lw_gw := am_w 1279 (by decide +kernel) rfl
theorem w1280 : (Cond.static ({ cls := "ClockhouseLaw", name := "times", desc := "(LClockhouse;IILClockhouseLaw$Out;)I" } : MethodName)) ∈ lw_gw := am_w 1280 (by decide +kernel) rfl
theorem w1286 : (Cond.methodLink "ClockhouseLaw" (202 : Nat) ({ cls := "ClockhouseLaw", name := "negate", desc := "(LClockhouse;ILClockhouseLaw$Out;)I" } : MethodName)) ∈ lw_gw := am_w 1286 (by decide +kernel) rfl
theorem w1287 : (Cond.static ({ cls := "ClockhouseLaw", name := "negate", desc := "(LClockhouse;ILClockhouseLaw$Out;)I" } : MethodName)) ∈ lw_gw := am_w 1287 (by decide +kernel) rfl
theorem w1293 : (Cond.methodLink "ClockhouseLaw" (205 : Nat) ({ cls := "ClockhouseLaw", name := "reduce", desc := "(LClockhouse;ILClockhouseLaw$Out;)I" } : MethodName)) ∈ lw_gw := am_w 1293 (by decide +kernel) rfl
theorem w1294 : (Cond.static ({ cls := "ClockhouseLaw", name := "reduce", desc := "(LClockhouse;ILClockhouseLaw$Out;)I" } : MethodName)) ∈ lw_gw := am_w 1294 (by decide +kernel) rfl
theorem w1304 : (Cond.methodLink "ClockhouseLaw" (208 : Nat) ({ cls := "ClockhouseLaw", name := "roundPlus", desc := "(LClockhouse;IILClockhouseLaw$Out;)I" } : MethodName)) ∈ lw_gw := am_w 1304 (by decide +kernel) rfl
theorem w1305 : (Cond.static ({ cls := "ClockhouseLaw", name := "roundPlus", desc := "(LClockhouse;IILClockhouseLaw$Out;)I" } : MethodName)) ∈ lw_gw := am_w 1305 (by decide +kernel) rfl
theorem w1311 : (Cond.methodLink "ClockhouseLaw" (211 : Nat) ({ cls := "ClockhouseLaw", name := "roundTimes", desc := "(LClockhouse;IILClockhouseLaw$Out;)I" } : MethodName)) ∈ lw_gw := am_w 1311 (by decide +kernel) rfl
theorem w1312 : (Cond.static ({ cls := "ClockhouseLaw", name := "roundTimes", desc := "(LClockhouse;IILClockhouseLaw$Out;)I" } : MethodName)) ∈ lw_gw := am_w 1312 (by decide +kernel) rfl
theorem w1318 : (Cond.methodLink "ClockhouseLaw" (214 : Nat) ({ cls := "ClockhouseLaw", name := "roundPower", desc := "(LClockhouse;IILClockhouseLaw$Out;)I" } : MethodName)) ∈ lw_gw := am_w 1318 (by decide +kernel) rfl
theorem w1319 : (Cond.static ({ cls := "ClockhouseLaw", name := "roundPower", desc := "(LClockhouse;IILClockhouseLaw$Out;)I" } : MethodName)) ∈ lw_gw := am_w 1319 (by decide +kernel) rfl
theorem w1325 : (Cond.methodLink "ClockhouseLaw" (217 : Nat) ({ cls := "ClockhouseLaw", name := "roundInverse", desc := "(LClockhouse;ILClockhouseLaw$Out;)I" } : MethodName)) ∈ lw_gw := am_w 1325 (by decide +kernel) rfl
theorem w1326 : (Cond.static ({ cls := "ClockhouseLaw", name := "roundInverse", desc := "(LClockhouse;ILClockhouseLaw$Out;)I" } : MethodName)) ∈ lw_gw := am_w 1326 (by decide +kernel) rfl
theorem w1332 : (Cond.methodLink "ClockhouseLaw" (220 : Nat) ({ cls := "ClockhouseLaw", name := "tell", desc := "(LClockhouse;IILClockhouseLaw$Out;)I" } : MethodName)) ∈ lw_gw := am_w 1332 (by decide +kernel) rfl
theorem w1333 : (Cond.static ({ cls := "ClockhouseLaw", name := "tell", desc := "(LClockhouse;IILClockhouseLaw$Out;)I" } : MethodName)) ∈ lw_gw := am_w 1333 (by decide +kernel) rfl
theorem w1358 : (Cond.methodLink "ClockhouseLaw" (223 : Nat) ({ cls := "ClockhouseLaw", name := "tellIf", desc := "(LClockhouse;IILClockhouseLaw$Out;)I" } : MethodName)) ∈ lw_gw := am_w 1358 (by decide +kernel) rfl
theorem w1359 : (Cond.static ({ cls := "ClockhouseLaw", name := "tellIf", desc := "(LClockhouse;IILClockhouseLaw$Out;)I" } : MethodName)) ∈ lw_gw := am_w 1359 (by decide +kernel) rfl
theorem w1366 : (Cond.methodLink "ClockhouseLaw" (226 : Nat) ({ cls := "ClockhouseLaw", name := "drop", desc := "(LClockhouse;ILClockhouseLaw$Out;)I" } : MethodName)) ∈ lw_gw := am_w 1366 (by decide +kernel) rfl
theorem w1367 : (Cond.static ({ cls := "ClockhouseLaw", name := "drop", desc := "(LClockhouse;ILClockhouseLaw$Out;)I" } : MethodName)) ∈ lw_gw := am_w 1367 (by decide +kernel) rfl
theorem w1382 : (Cond.methodLink "ClockhouseLaw" (229 : Nat) ({ cls := "ClockhouseLaw", name := "base", desc := "(LClockhouse;ILClockhouseLaw$Out;)I" } : MethodName)) ∈ lw_gw := am_w 1382 (by decide +kernel) rfl
theorem w1383 : (Cond.static ({ cls := "ClockhouseLaw", name := "base", desc := "(LClockhouse;ILClockhouseLaw$Out;)I" } : MethodName)) ∈ lw_gw := am_w 1383 (by decide +kernel) rfl
theorem w1399 : (Cond.methodLink "ClockhouseLaw" (232 : Nat) ({ cls := "ClockhouseLaw", name := "unbase", desc := "(LClockhouse;LClockhouseLaw$Out;)I" } : MethodName)) ∈ lw_gw := am_w 1399 (by decide +kernel) rfl
theorem w1400 : (Cond.static ({ cls := "ClockhouseLaw", name := "unbase", desc := "(LClockhouse;LClockhouseLaw$Out;)I" } : MethodName)) ∈ lw_gw := am_w 1400 (by decide +kernel) rfl
theorem w1411 : (Cond.methodLink "ClockhouseLaw" (236 : Nat) ({ cls := "ClockhouseLaw", name := "undo", desc := "(LClockhouse;LClockhouseLaw$Out;)I" } : MethodName)) ∈ lw_gw := am_w 1411 (by decide +kernel) rfl
theorem w1412 : (Cond.static ({ cls := "ClockhouseLaw", name := "undo", desc := "(LClockhouse;LClockhouseLaw$Out;)I" } : MethodName)) ∈ lw_gw := am_w 1412 (by decide +kernel) rfl
theorem w1423 : (Cond.methodLink "ClockhouseLaw" (243 : Nat) ({ cls := "ClockhouseLaw", name := "number", desc := "(LClockhouse;ILClockhouseLaw$Out;)I" } : MethodName)) ∈ lw_gw := am_w 1423 (by decide +kernel) rfl
theorem w1424 : (Cond.static ({ cls := "ClockhouseLaw", name := "number", desc := "(LClockhouse;ILClockhouseLaw$Out;)I" } : MethodName)) ∈ lw_gw := am_w 1424 (by decide +kernel) rfl
theorem w1430 : (Cond.methodLink "ClockhouseLaw" (246 : Nat) ({ cls := "ClockhouseLaw", name := "digits", desc := "(LClockhouse;ILClockhouseLaw$Out;)I" } : MethodName)) ∈ lw_gw := am_w 1430 (by decide +kernel) rfl
theorem w1431 : (Cond.static ({ cls := "ClockhouseLaw", name := "digits", desc := "(LClockhouse;ILClockhouseLaw$Out;)I" } : MethodName)) ∈ lw_gw := am_w 1431 (by decide +kernel) rfl
theorem w1437 : (Cond.methodLink "ClockhouseLaw" (249 : Nat) ({ cls := "ClockhouseLaw", name := "bigGcd", desc := "(LClockhouse;IILClockhouseLaw$Out;)I" } : MethodName)) ∈ lw_gw := am_w 1437 (by decide +kernel) rfl
theorem w1438 : (Cond.static ({ cls := "ClockhouseLaw", name := "bigGcd", desc := "(LClockhouse;IILClockhouseLaw$Out;)I" } : MethodName)) ∈ lw_gw := am_w 1438 (by decide +kernel) rfl
theorem w1449 : (Cond.methodLink "ClockhouseLaw" (252 : Nat) ({ cls := "ClockhouseLaw", name := "bigMod", desc := "(LClockhouse;IILClockhouseLaw$Out;)I" } : MethodName)) ∈ lw_gw := am_w 1449 (by decide +kernel) rfl
theorem w1450 : (Cond.static ({ cls := "ClockhouseLaw", name := "bigMod", desc := "(LClockhouse;IILClockhouseLaw$Out;)I" } : MethodName)) ∈ lw_gw := am_w 1450 (by decide +kernel) rfl
theorem w1457 : (Cond.methodLink "ClockhouseLaw" (255 : Nat) ({ cls := "ClockhouseLaw", name := "bigInverse", desc := "(LClockhouse;IILClockhouseLaw$Out;)I" } : MethodName)) ∈ lw_gw := am_w 1457 (by decide +kernel) rfl
theorem w1458 : (Cond.static ({ cls := "ClockhouseLaw", name := "bigInverse", desc := "(LClockhouse;IILClockhouseLaw$Out;)I" } : MethodName)) ∈ lw_gw := am_w 1458 (by decide +kernel) rfl
theorem w1473 : (Cond.methodLink "ClockhouseLaw" (258 : Nat) ({ cls := "ClockhouseLaw", name := "bigPower", desc := "(LClockhouse;IIILClockhouseLaw$Out;)I" } : MethodName)) ∈ lw_gw := am_w 1473 (by decide +kernel) rfl
theorem w1474 : (Cond.static ({ cls := "ClockhouseLaw", name := "bigPower", desc := "(LClockhouse;IIILClockhouseLaw$Out;)I" } : MethodName)) ∈ lw_gw := am_w 1474 (by decide +kernel) rfl
theorem w1490 : (Cond.methodLink "ClockhouseLaw" (266 : Nat) ({ cls := "ClockhouseLaw", name := "mod", desc := "(LClockhouse;ILClockhouseLaw$Out;)I" } : MethodName)) ∈ lw_gw := am_w 1490 (by decide +kernel) rfl
theorem w1491 : (Cond.static ({ cls := "ClockhouseLaw", name := "mod", desc := "(LClockhouse;ILClockhouseLaw$Out;)I" } : MethodName)) ∈ lw_gw := am_w 1491 (by decide +kernel) rfl
theorem w1494 : (Cond.methodLink "ClockhouseLaw" (269 : Nat) ({ cls := "ClockhouseLaw", name := "gcd", desc := "(LClockhouse;ILClockhouseLaw$Out;)I" } : MethodName)) ∈ lw_gw := am_w 1494 (by decide +kernel) rfl
theorem w1495 : (Cond.static ({ cls := "ClockhouseLaw", name := "gcd", desc := "(LClockhouse;ILClockhouseLaw$Out;)I" } : MethodName)) ∈ lw_gw := am_w 1495 (by decide +kernel) rfl
theorem w1498 : (Cond.methodLink "ClockhouseLaw" (272 : Nat) ({ cls := "ClockhouseLaw", name := "power", desc := "(LClockhouse;IILClockhouseLaw$Out;)I" } : MethodName)) ∈ lw_gw := am_w 1498 (by decide +kernel) rfl
theorem w1499 : (Cond.static ({ cls := "ClockhouseLaw", name := "power", desc := "(LClockhouse;IILClockhouseLaw$Out;)I" } : MethodName)) ∈ lw_gw := am_w 1499 (by decide +kernel) rfl
theorem w1502 : (Cond.methodLink "ClockhouseLaw" (275 : Nat) ({ cls := "ClockhouseLaw", name := "inverse", desc := "(LClockhouse;ILClockhouseLaw$Out;)I" } : MethodName)) ∈ lw_gw := am_w 1502 (by decide +kernel) rfl
theorem w1503 : (Cond.static ({ cls := "ClockhouseLaw", name := "inverse", desc := "(LClockhouse;ILClockhouseLaw$Out;)I" } : MethodName)) ∈ lw_gw := am_w 1503 (by decide +kernel) rfl
theorem w1506 : (Cond.methodLink "ClockhouseLaw" (278 : Nat) ({ cls := "ClockhouseLaw", name := "solutions", desc := "(LClockhouse;IILClockhouseLaw$Out;)I" } : MethodName)) ∈ lw_gw := am_w 1506 (by decide +kernel) rfl
theorem w1507 : (Cond.static ({ cls := "ClockhouseLaw", name := "solutions", desc := "(LClockhouse;IILClockhouseLaw$Out;)I" } : MethodName)) ∈ lw_gw := am_w 1507 (by decide +kernel) rfl
theorem w1510 : (Cond.methodLink "ClockhouseLaw" (281 : Nat) ({ cls := "ClockhouseLaw", name := "solution", desc := "(LClockhouse;IIILClockhouseLaw$Out;)I" } : MethodName)) ∈ lw_gw := am_w 1510 (by decide +kernel) rfl
theorem w1511 : (Cond.static ({ cls := "ClockhouseLaw", name := "solution", desc := "(LClockhouse;IIILClockhouseLaw$Out;)I" } : MethodName)) ∈ lw_gw := am_w 1511 (by decide +kernel) rfl
theorem w1518 : (Cond.methodLink "ClockhouseLaw" (288 : Nat) ({ cls := "ClockhouseLaw", name := "order", desc := "(LClockhouse;ILClockhouseLaw$Out;)I" } : MethodName)) ∈ lw_gw := am_w 1518 (by decide +kernel) rfl
theorem w1519 : (Cond.static ({ cls := "ClockhouseLaw", name := "order", desc := "(LClockhouse;ILClockhouseLaw$Out;)I" } : MethodName)) ∈ lw_gw := am_w 1519 (by decide +kernel) rfl
theorem w1522 : (Cond.methodLink "ClockhouseLaw" (291 : Nat) ({ cls := "ClockhouseLaw", name := "generator", desc := "(LClockhouse;ILClockhouseLaw$Out;)I" } : MethodName)) ∈ lw_gw := am_w 1522 (by decide +kernel) rfl
theorem w1523 : (Cond.static ({ cls := "ClockhouseLaw", name := "generator", desc := "(LClockhouse;ILClockhouseLaw$Out;)I" } : MethodName)) ∈ lw_gw := am_w 1523 (by decide +kernel) rfl
theorem w1526 : (Cond.methodLink "ClockhouseLaw" (294 : Nat) ({ cls := "ClockhouseLaw", name := "isGenerator", desc := "(LClockhouse;ILClockhouseLaw$Out;)I" } : MethodName)) ∈ lw_gw := am_w 1526 (by decide +kernel) rfl
theorem w1527 : (Cond.static ({ cls := "ClockhouseLaw", name := "isGenerator", desc := "(LClockhouse;ILClockhouseLaw$Out;)I" } : MethodName)) ∈ lw_gw := am_w 1527 (by decide +kernel) rfl
theorem w1534 : (Cond.methodLink "ClockhouseLaw" (297 : Nat) ({ cls := "ClockhouseLaw", name := "powers", desc := "(LClockhouse;ILClockhouseLaw$Out;)I" } : MethodName)) ∈ lw_gw := am_w 1534 (by decide +kernel) rfl
theorem w1535 : (Cond.static ({ cls := "ClockhouseLaw", name := "powers", desc := "(LClockhouse;ILClockhouseLaw$Out;)I" } : MethodName)) ∈ lw_gw := am_w 1535 (by decide +kernel) rfl
theorem w1547 : (Cond.methodLink "ClockhouseLaw" (300 : Nat) ({ cls := "ClockhouseLaw", name := "ofPowers", desc := "(LClockhouse;IILClockhouseLaw$Out;)I" } : MethodName)) ∈ lw_gw := am_w 1547 (by decide +kernel) rfl
theorem w1548 : (Cond.static ({ cls := "ClockhouseLaw", name := "ofPowers", desc := "(LClockhouse;IILClockhouseLaw$Out;)I" } : MethodName)) ∈ lw_gw := am_w 1548 (by decide +kernel) rfl
theorem w1551 : (Cond.methodLink "ClockhouseLaw" (303 : Nat) ({ cls := "ClockhouseLaw", name := "roots", desc := "(LClockhouse;ILClockhouseLaw$Out;)I" } : MethodName)) ∈ lw_gw := am_w 1551 (by decide +kernel) rfl
theorem w1552 : (Cond.static ({ cls := "ClockhouseLaw", name := "roots", desc := "(LClockhouse;ILClockhouseLaw$Out;)I" } : MethodName)) ∈ lw_gw := am_w 1552 (by decide +kernel) rfl
theorem w1555 : (Cond.methodLink "ClockhouseLaw" (306 : Nat) ({ cls := "ClockhouseLaw", name := "root", desc := "(LClockhouse;IILClockhouseLaw$Out;)I" } : MethodName)) ∈ lw_gw := am_w 1555 (by decide +kernel) rfl
theorem w1556 : (Cond.static ({ cls := "ClockhouseLaw", name := "root", desc := "(LClockhouse;IILClockhouseLaw$Out;)I" } : MethodName)) ∈ lw_gw := am_w 1556 (by decide +kernel) rfl
theorem w1563 : (Cond.methodLink "ClockhouseLaw" (314 : Nat) ({ cls := "ClockhouseLaw", name := "legendre", desc := "(LClockhouse;ILClockhouseLaw$Out;)I" } : MethodName)) ∈ lw_gw := am_w 1563 (by decide +kernel) rfl
theorem w1564 : (Cond.static ({ cls := "ClockhouseLaw", name := "legendre", desc := "(LClockhouse;ILClockhouseLaw$Out;)I" } : MethodName)) ∈ lw_gw := am_w 1564 (by decide +kernel) rfl
theorem w1567 : (Cond.methodLink "ClockhouseLaw" (317 : Nat) ({ cls := "ClockhouseLaw", name := "jacobi", desc := "(LClockhouse;ILClockhouseLaw$Out;)I" } : MethodName)) ∈ lw_gw := am_w 1567 (by decide +kernel) rfl
theorem w1568 : (Cond.static ({ cls := "ClockhouseLaw", name := "jacobi", desc := "(LClockhouse;ILClockhouseLaw$Out;)I" } : MethodName)) ∈ lw_gw := am_w 1568 (by decide +kernel) rfl
theorem w1571 : (Cond.methodLink "ClockhouseLaw" (324 : Nat) ({ cls := "ClockhouseLaw", name := "ofRow", desc := "(LClockhouse;IILClockhouseLaw$Out;)I" } : MethodName)) ∈ lw_gw := am_w 1571 (by decide +kernel) rfl
theorem w1572 : (Cond.static ({ cls := "ClockhouseLaw", name := "ofRow", desc := "(LClockhouse;IILClockhouseLaw$Out;)I" } : MethodName)) ∈ lw_gw := am_w 1572 (by decide +kernel) rfl
theorem w1579 : (Cond.methodLink "ClockhouseLaw" (327 : Nat) ({ cls := "ClockhouseLaw", name := "agree", desc := "(LClockhouse;IILClockhouseLaw$Out;)I" } : MethodName)) ∈ lw_gw := am_w 1579 (by decide +kernel) rfl
theorem w1580 : (Cond.static ({ cls := "ClockhouseLaw", name := "agree", desc := "(LClockhouse;IILClockhouseLaw$Out;)I" } : MethodName)) ∈ lw_gw := am_w 1580 (by decide +kernel) rfl
theorem w1586 : (Cond.methodLink "ClockhouseLaw" (334 : Nat) ({ cls := "ClockhouseLaw", name := "wouldJoin", desc := "(LClockhouse;IILClockhouseLaw$Out;)I" } : MethodName)) ∈ lw_gw := am_w 1586 (by decide +kernel) rfl
theorem w1587 : (Cond.static ({ cls := "ClockhouseLaw", name := "wouldJoin", desc := "(LClockhouse;IILClockhouseLaw$Out;)I" } : MethodName)) ∈ lw_gw := am_w 1587 (by decide +kernel) rfl
theorem w1593 : (Cond.methodLink "ClockhouseLaw" (346 : Nat) ({ cls := "ClockhouseLaw", name := "clash", desc := "(LClockhouse;ILClockhouseLaw$Out;)I" } : MethodName)) ∈ lw_gw := am_w 1593 (by decide +kernel) rfl
theorem w1594 : (Cond.static ({ cls := "ClockhouseLaw", name := "clash", desc := "(LClockhouse;ILClockhouseLaw$Out;)I" } : MethodName)) ∈ lw_gw := am_w 1594 (by decide +kernel) rfl
theorem w1600 : (Cond.methodLink "ClockhouseLaw" (349 : Nat) ({ cls := "ClockhouseLaw", name := "broken", desc := "(LClockhouse;ILClockhouseLaw$Out;)I" } : MethodName)) ∈ lw_gw := am_w 1600 (by decide +kernel) rfl
theorem w1601 : (Cond.static ({ cls := "ClockhouseLaw", name := "broken", desc := "(LClockhouse;ILClockhouseLaw$Out;)I" } : MethodName)) ∈ lw_gw := am_w 1601 (by decide +kernel) rfl
theorem w1604 : (Cond.methodLink "ClockhouseLaw" (360 : Nat) ({ cls := "ClockhouseLaw", name := "residues", desc := "(LClockhouse;ILClockhouseLaw$Out;)I" } : MethodName)) ∈ lw_gw := am_w 1604 (by decide +kernel) rfl
theorem w1605 : (Cond.static ({ cls := "ClockhouseLaw", name := "residues", desc := "(LClockhouse;ILClockhouseLaw$Out;)I" } : MethodName)) ∈ lw_gw := am_w 1605 (by decide +kernel) rfl
theorem w1611 : (Cond.methodLink "ClockhouseLaw" (363 : Nat) ({ cls := "ClockhouseLaw", name := "back", desc := "(LClockhouse;ILClockhouseLaw$Out;)I" } : MethodName)) ∈ lw_gw := am_w 1611 (by decide +kernel) rfl
theorem w1612 : (Cond.static ({ cls := "ClockhouseLaw", name := "back", desc := "(LClockhouse;ILClockhouseLaw$Out;)I" } : MethodName)) ∈ lw_gw := am_w 1612 (by decide +kernel) rfl
theorem w1618 : (Cond.methodLink "ClockhouseLaw" (366 : Nat) ({ cls := "ClockhouseLaw", name := "sumBack", desc := "(LClockhouse;IILClockhouseLaw$Out;)I" } : MethodName)) ∈ lw_gw := am_w 1618 (by decide +kernel) rfl
theorem w1619 : (Cond.static ({ cls := "ClockhouseLaw", name := "sumBack", desc := "(LClockhouse;IILClockhouseLaw$Out;)I" } : MethodName)) ∈ lw_gw := am_w 1619 (by decide +kernel) rfl
theorem w1625 : (Cond.methodLink "ClockhouseLaw" (369 : Nat) ({ cls := "ClockhouseLaw", name := "productBack", desc := "(LClockhouse;IILClockhouseLaw$Out;)I" } : MethodName)) ∈ lw_gw := am_w 1625 (by decide +kernel) rfl
theorem w1626 : (Cond.static ({ cls := "ClockhouseLaw", name := "productBack", desc := "(LClockhouse;IILClockhouseLaw$Out;)I" } : MethodName)) ∈ lw_gw := am_w 1626 (by decide +kernel) rfl
theorem w1632 : (Cond.methodLink "ClockhouseLaw" (372 : Nat) ({ cls := "ClockhouseLaw", name := "books", desc := "(LClockhouse;ILClockhouseLaw$Out;)I" } : MethodName)) ∈ lw_gw := am_w 1632 (by decide +kernel) rfl
theorem w1633 : (Cond.static ({ cls := "ClockhouseLaw", name := "books", desc := "(LClockhouse;ILClockhouseLaw$Out;)I" } : MethodName)) ∈ lw_gw := am_w 1633 (by decide +kernel) rfl
theorem w1636 : (Cond.classLink "ClockhouseLaw" (179 : Nat) "ClockhouseModel") ∈ lw_gw := am_w 1636 (by decide +kernel) rfl
theorem w1637 : (Cond.instantiable "ClockhouseModel" (6 : Nat)) ∈ lw_gw := am_w 1637 (by decide +kernel) rfl
theorem w1638 : (Cond.methodLink "ClockhouseLaw" (181 : Nat) ({ cls := "ClockhouseModel", name := "<init>", desc := "()V" } : MethodName)) ∈ lw_gw := am_w 1638 (by decide +kernel) rfl
theorem w1639 : (Cond.instanceMethod ({ cls := "ClockhouseModel", name := "<init>", desc := "()V" } : MethodName)) ∈ lw_gw := am_w 1639 (by decide +kernel) rfl
theorem w1736 : (Cond.methodLink "ClockhouseLaw" (188 : Nat) ({ cls := "ClockhouseModel", name := "dial", desc := "(I)I" } : MethodName)) ∈ lw_gw := am_w 1736 (by decide +kernel) rfl
theorem w1737 : (Cond.instanceMethod ({ cls := "ClockhouseModel", name := "dial", desc := "(I)I" } : MethodName)) ∈ lw_gw := am_w 1737 (by decide +kernel) rfl
theorem w1738 : (Cond.selects "ClockhouseModel" ({ cls := "ClockhouseModel", name := "dial", desc := "(I)I" } : MethodName) ({ cls := "ClockhouseModel", name := "dial", desc := "(I)I" } : MethodName)) ∈ lw_gw := am_w 1738 (by decide +kernel) rfl
theorem w1911 : (Cond.methodLink "ClockhouseLaw" (192 : Nat) ({ cls := "ClockhouseModel", name := "set", desc := "(II)I" } : MethodName)) ∈ lw_gw := am_w 1911 (by decide +kernel) rfl
theorem w1912 : (Cond.instanceMethod ({ cls := "ClockhouseModel", name := "set", desc := "(II)I" } : MethodName)) ∈ lw_gw := am_w 1912 (by decide +kernel) rfl
theorem w1913 : (Cond.selects "ClockhouseModel" ({ cls := "ClockhouseModel", name := "set", desc := "(II)I" } : MethodName) ({ cls := "ClockhouseModel", name := "set", desc := "(II)I" } : MethodName)) ∈ lw_gw := am_w 1913 (by decide +kernel) rfl
theorem w1930 : (Cond.methodLink "ClockhouseLaw" (195 : Nat) ({ cls := "ClockhouseModel", name := "lengthen", desc := "(II)I" } : MethodName)) ∈ lw_gw := am_w 1930 (by decide +kernel) rfl
theorem w1931 : (Cond.instanceMethod ({ cls := "ClockhouseModel", name := "lengthen", desc := "(II)I" } : MethodName)) ∈ lw_gw := am_w 1931 (by decide +kernel) rfl
theorem w1932 : (Cond.selects "ClockhouseModel" ({ cls := "ClockhouseModel", name := "lengthen", desc := "(II)I" } : MethodName) ({ cls := "ClockhouseModel", name := "lengthen", desc := "(II)I" } : MethodName)) ∈ lw_gw := am_w 1932 (by decide +kernel) rfl
theorem w1951 : (Cond.methodLink "ClockhouseLaw" (198 : Nat) ({ cls := "ClockhouseModel", name := "plus", desc := "(II)I" } : MethodName)) ∈ lw_gw := am_w 1951 (by decide +kernel) rfl
theorem w1952 : (Cond.instanceMethod ({ cls := "ClockhouseModel", name := "plus", desc := "(II)I" } : MethodName)) ∈ lw_gw := am_w 1952 (by decide +kernel) rfl
theorem w1953 : (Cond.selects "ClockhouseModel" ({ cls := "ClockhouseModel", name := "plus", desc := "(II)I" } : MethodName) ({ cls := "ClockhouseModel", name := "plus", desc := "(II)I" } : MethodName)) ∈ lw_gw := am_w 1953 (by decide +kernel) rfl
theorem w1955 : (Cond.methodLink "ClockhouseLaw" (201 : Nat) ({ cls := "ClockhouseModel", name := "times", desc := "(II)I" } : MethodName)) ∈ lw_gw := am_w 1955 (by decide +kernel) rfl
theorem w1956 : (Cond.instanceMethod ({ cls := "ClockhouseModel", name := "times", desc := "(II)I" } : MethodName)) ∈ lw_gw := am_w 1956 (by decide +kernel) rfl
theorem w1957 : (Cond.selects "ClockhouseModel" ({ cls := "ClockhouseModel", name := "times", desc := "(II)I" } : MethodName) ({ cls := "ClockhouseModel", name := "times", desc := "(II)I" } : MethodName)) ∈ lw_gw := am_w 1957 (by decide +kernel) rfl
theorem w1959 : (Cond.methodLink "ClockhouseLaw" (204 : Nat) ({ cls := "ClockhouseModel", name := "negate", desc := "(I)I" } : MethodName)) ∈ lw_gw := am_w 1959 (by decide +kernel) rfl
theorem w1960 : (Cond.instanceMethod ({ cls := "ClockhouseModel", name := "negate", desc := "(I)I" } : MethodName)) ∈ lw_gw := am_w 1960 (by decide +kernel) rfl
theorem w1961 : (Cond.selects "ClockhouseModel" ({ cls := "ClockhouseModel", name := "negate", desc := "(I)I" } : MethodName) ({ cls := "ClockhouseModel", name := "negate", desc := "(I)I" } : MethodName)) ∈ lw_gw := am_w 1961 (by decide +kernel) rfl
theorem w1971 : (Cond.methodLink "ClockhouseLaw" (207 : Nat) ({ cls := "ClockhouseModel", name := "reduce", desc := "(I)I" } : MethodName)) ∈ lw_gw := am_w 1971 (by decide +kernel) rfl
theorem w1972 : (Cond.instanceMethod ({ cls := "ClockhouseModel", name := "reduce", desc := "(I)I" } : MethodName)) ∈ lw_gw := am_w 1972 (by decide +kernel) rfl
theorem w1973 : (Cond.selects "ClockhouseModel" ({ cls := "ClockhouseModel", name := "reduce", desc := "(I)I" } : MethodName) ({ cls := "ClockhouseModel", name := "reduce", desc := "(I)I" } : MethodName)) ∈ lw_gw := am_w 1973 (by decide +kernel) rfl
theorem w1991 : (Cond.methodLink "ClockhouseLaw" (210 : Nat) ({ cls := "ClockhouseModel", name := "roundPlus", desc := "(II)I" } : MethodName)) ∈ lw_gw := am_w 1991 (by decide +kernel) rfl
theorem w1992 : (Cond.instanceMethod ({ cls := "ClockhouseModel", name := "roundPlus", desc := "(II)I" } : MethodName)) ∈ lw_gw := am_w 1992 (by decide +kernel) rfl
theorem w1993 : (Cond.selects "ClockhouseModel" ({ cls := "ClockhouseModel", name := "roundPlus", desc := "(II)I" } : MethodName) ({ cls := "ClockhouseModel", name := "roundPlus", desc := "(II)I" } : MethodName)) ∈ lw_gw := am_w 1993 (by decide +kernel) rfl
theorem w1995 : (Cond.methodLink "ClockhouseLaw" (213 : Nat) ({ cls := "ClockhouseModel", name := "roundTimes", desc := "(II)I" } : MethodName)) ∈ lw_gw := am_w 1995 (by decide +kernel) rfl
theorem w1996 : (Cond.instanceMethod ({ cls := "ClockhouseModel", name := "roundTimes", desc := "(II)I" } : MethodName)) ∈ lw_gw := am_w 1996 (by decide +kernel) rfl
theorem w1997 : (Cond.selects "ClockhouseModel" ({ cls := "ClockhouseModel", name := "roundTimes", desc := "(II)I" } : MethodName) ({ cls := "ClockhouseModel", name := "roundTimes", desc := "(II)I" } : MethodName)) ∈ lw_gw := am_w 1997 (by decide +kernel) rfl
theorem w1999 : (Cond.methodLink "ClockhouseLaw" (216 : Nat) ({ cls := "ClockhouseModel", name := "roundPower", desc := "(II)I" } : MethodName)) ∈ lw_gw := am_w 1999 (by decide +kernel) rfl
theorem w2000 : (Cond.instanceMethod ({ cls := "ClockhouseModel", name := "roundPower", desc := "(II)I" } : MethodName)) ∈ lw_gw := am_w 2000 (by decide +kernel) rfl
theorem w2001 : (Cond.selects "ClockhouseModel" ({ cls := "ClockhouseModel", name := "roundPower", desc := "(II)I" } : MethodName) ({ cls := "ClockhouseModel", name := "roundPower", desc := "(II)I" } : MethodName)) ∈ lw_gw := am_w 2001 (by decide +kernel) rfl
theorem w2011 : (Cond.methodLink "ClockhouseLaw" (219 : Nat) ({ cls := "ClockhouseModel", name := "roundInverse", desc := "(I)I" } : MethodName)) ∈ lw_gw := am_w 2011 (by decide +kernel) rfl
theorem w2012 : (Cond.instanceMethod ({ cls := "ClockhouseModel", name := "roundInverse", desc := "(I)I" } : MethodName)) ∈ lw_gw := am_w 2012 (by decide +kernel) rfl
theorem w2013 : (Cond.selects "ClockhouseModel" ({ cls := "ClockhouseModel", name := "roundInverse", desc := "(I)I" } : MethodName) ({ cls := "ClockhouseModel", name := "roundInverse", desc := "(I)I" } : MethodName)) ∈ lw_gw := am_w 2013 (by decide +kernel) rfl
theorem w2015 : (Cond.methodLink "ClockhouseLaw" (222 : Nat) ({ cls := "ClockhouseModel", name := "tell", desc := "(II)I" } : MethodName)) ∈ lw_gw := am_w 2015 (by decide +kernel) rfl
theorem w2016 : (Cond.instanceMethod ({ cls := "ClockhouseModel", name := "tell", desc := "(II)I" } : MethodName)) ∈ lw_gw := am_w 2016 (by decide +kernel) rfl
theorem w2017 : (Cond.selects "ClockhouseModel" ({ cls := "ClockhouseModel", name := "tell", desc := "(II)I" } : MethodName) ({ cls := "ClockhouseModel", name := "tell", desc := "(II)I" } : MethodName)) ∈ lw_gw := am_w 2017 (by decide +kernel) rfl
theorem w2029 : (Cond.methodLink "ClockhouseLaw" (225 : Nat) ({ cls := "ClockhouseModel", name := "tellIf", desc := "(II)Z" } : MethodName)) ∈ lw_gw := am_w 2029 (by decide +kernel) rfl
theorem w2030 : (Cond.instanceMethod ({ cls := "ClockhouseModel", name := "tellIf", desc := "(II)Z" } : MethodName)) ∈ lw_gw := am_w 2030 (by decide +kernel) rfl
theorem w2031 : (Cond.selects "ClockhouseModel" ({ cls := "ClockhouseModel", name := "tellIf", desc := "(II)Z" } : MethodName) ({ cls := "ClockhouseModel", name := "tellIf", desc := "(II)Z" } : MethodName)) ∈ lw_gw := am_w 2031 (by decide +kernel) rfl
theorem w2056 : (Cond.methodLink "ClockhouseLaw" (228 : Nat) ({ cls := "ClockhouseModel", name := "drop", desc := "(I)I" } : MethodName)) ∈ lw_gw := am_w 2056 (by decide +kernel) rfl
theorem w2057 : (Cond.instanceMethod ({ cls := "ClockhouseModel", name := "drop", desc := "(I)I" } : MethodName)) ∈ lw_gw := am_w 2057 (by decide +kernel) rfl
theorem w2058 : (Cond.selects "ClockhouseModel" ({ cls := "ClockhouseModel", name := "drop", desc := "(I)I" } : MethodName) ({ cls := "ClockhouseModel", name := "drop", desc := "(I)I" } : MethodName)) ∈ lw_gw := am_w 2058 (by decide +kernel) rfl
theorem w2064 : (Cond.methodLink "ClockhouseLaw" (231 : Nat) ({ cls := "ClockhouseModel", name := "base", desc := "(I)I" } : MethodName)) ∈ lw_gw := am_w 2064 (by decide +kernel) rfl
theorem w2065 : (Cond.instanceMethod ({ cls := "ClockhouseModel", name := "base", desc := "(I)I" } : MethodName)) ∈ lw_gw := am_w 2065 (by decide +kernel) rfl
theorem w2066 : (Cond.selects "ClockhouseModel" ({ cls := "ClockhouseModel", name := "base", desc := "(I)I" } : MethodName) ({ cls := "ClockhouseModel", name := "base", desc := "(I)I" } : MethodName)) ∈ lw_gw := am_w 2066 (by decide +kernel) rfl
theorem w2071 : (Cond.methodLink "ClockhouseLaw" (235 : Nat) ({ cls := "ClockhouseModel", name := "unbase", desc := "()I" } : MethodName)) ∈ lw_gw := am_w 2071 (by decide +kernel) rfl
theorem w2072 : (Cond.instanceMethod ({ cls := "ClockhouseModel", name := "unbase", desc := "()I" } : MethodName)) ∈ lw_gw := am_w 2072 (by decide +kernel) rfl
theorem w2073 : (Cond.selects "ClockhouseModel" ({ cls := "ClockhouseModel", name := "unbase", desc := "()I" } : MethodName) ({ cls := "ClockhouseModel", name := "unbase", desc := "()I" } : MethodName)) ∈ lw_gw := am_w 2073 (by decide +kernel) rfl
theorem w2079 : (Cond.methodLink "ClockhouseLaw" (238 : Nat) ({ cls := "ClockhouseModel", name := "undo", desc := "()I" } : MethodName)) ∈ lw_gw := am_w 2079 (by decide +kernel) rfl
theorem w2080 : (Cond.instanceMethod ({ cls := "ClockhouseModel", name := "undo", desc := "()I" } : MethodName)) ∈ lw_gw := am_w 2080 (by decide +kernel) rfl
theorem w2081 : (Cond.selects "ClockhouseModel" ({ cls := "ClockhouseModel", name := "undo", desc := "()I" } : MethodName) ({ cls := "ClockhouseModel", name := "undo", desc := "()I" } : MethodName)) ∈ lw_gw := am_w 2081 (by decide +kernel) rfl
theorem w2083 : (Cond.methodLink "ClockhouseLaw" (242 : Nat) ({ cls := "ClockhouseModel", name := "knock", desc := "()I" } : MethodName)) ∈ lw_gw := am_w 2083 (by decide +kernel) rfl
theorem w2084 : (Cond.instanceMethod ({ cls := "ClockhouseModel", name := "knock", desc := "()I" } : MethodName)) ∈ lw_gw := am_w 2084 (by decide +kernel) rfl
theorem w2085 : (Cond.selects "ClockhouseModel" ({ cls := "ClockhouseModel", name := "knock", desc := "()I" } : MethodName) ({ cls := "ClockhouseModel", name := "knock", desc := "()I" } : MethodName)) ∈ lw_gw := am_w 2085 (by decide +kernel) rfl
theorem w2087 : (Cond.methodLink "ClockhouseLaw" (245 : Nat) ({ cls := "ClockhouseModel", name := "number", desc := "(I)Ljava/lang/String;" } : MethodName)) ∈ lw_gw := am_w 2087 (by decide +kernel) rfl
theorem w2088 : (Cond.instanceMethod ({ cls := "ClockhouseModel", name := "number", desc := "(I)Ljava/lang/String;" } : MethodName)) ∈ lw_gw := am_w 2088 (by decide +kernel) rfl
theorem w2089 : (Cond.selects "ClockhouseModel" ({ cls := "ClockhouseModel", name := "number", desc := "(I)Ljava/lang/String;" } : MethodName) ({ cls := "ClockhouseModel", name := "number", desc := "(I)Ljava/lang/String;" } : MethodName)) ∈ lw_gw := am_w 2089 (by decide +kernel) rfl
theorem w2103 : (Cond.methodLink "ClockhouseLaw" (248 : Nat) ({ cls := "ClockhouseModel", name := "digits", desc := "(I)I" } : MethodName)) ∈ lw_gw := am_w 2103 (by decide +kernel) rfl
theorem w2104 : (Cond.instanceMethod ({ cls := "ClockhouseModel", name := "digits", desc := "(I)I" } : MethodName)) ∈ lw_gw := am_w 2104 (by decide +kernel) rfl
theorem w2105 : (Cond.selects "ClockhouseModel" ({ cls := "ClockhouseModel", name := "digits", desc := "(I)I" } : MethodName) ({ cls := "ClockhouseModel", name := "digits", desc := "(I)I" } : MethodName)) ∈ lw_gw := am_w 2105 (by decide +kernel) rfl
theorem w2107 : (Cond.methodLink "ClockhouseLaw" (251 : Nat) ({ cls := "ClockhouseModel", name := "bigGcd", desc := "(II)Ljava/lang/String;" } : MethodName)) ∈ lw_gw := am_w 2107 (by decide +kernel) rfl
theorem w2108 : (Cond.instanceMethod ({ cls := "ClockhouseModel", name := "bigGcd", desc := "(II)Ljava/lang/String;" } : MethodName)) ∈ lw_gw := am_w 2108 (by decide +kernel) rfl
theorem w2109 : (Cond.selects "ClockhouseModel" ({ cls := "ClockhouseModel", name := "bigGcd", desc := "(II)Ljava/lang/String;" } : MethodName) ({ cls := "ClockhouseModel", name := "bigGcd", desc := "(II)Ljava/lang/String;" } : MethodName)) ∈ lw_gw := am_w 2109 (by decide +kernel) rfl
theorem w2133 : (Cond.methodLink "ClockhouseLaw" (254 : Nat) ({ cls := "ClockhouseModel", name := "bigMod", desc := "(II)Ljava/lang/String;" } : MethodName)) ∈ lw_gw := am_w 2133 (by decide +kernel) rfl
theorem w2134 : (Cond.instanceMethod ({ cls := "ClockhouseModel", name := "bigMod", desc := "(II)Ljava/lang/String;" } : MethodName)) ∈ lw_gw := am_w 2134 (by decide +kernel) rfl
theorem w2135 : (Cond.selects "ClockhouseModel" ({ cls := "ClockhouseModel", name := "bigMod", desc := "(II)Ljava/lang/String;" } : MethodName) ({ cls := "ClockhouseModel", name := "bigMod", desc := "(II)Ljava/lang/String;" } : MethodName)) ∈ lw_gw := am_w 2135 (by decide +kernel) rfl
theorem w2153 : (Cond.methodLink "ClockhouseLaw" (257 : Nat) ({ cls := "ClockhouseModel", name := "bigInverse", desc := "(II)Ljava/lang/String;" } : MethodName)) ∈ lw_gw := am_w 2153 (by decide +kernel) rfl
theorem w2154 : (Cond.instanceMethod ({ cls := "ClockhouseModel", name := "bigInverse", desc := "(II)Ljava/lang/String;" } : MethodName)) ∈ lw_gw := am_w 2154 (by decide +kernel) rfl
theorem w2155 : (Cond.selects "ClockhouseModel" ({ cls := "ClockhouseModel", name := "bigInverse", desc := "(II)Ljava/lang/String;" } : MethodName) ({ cls := "ClockhouseModel", name := "bigInverse", desc := "(II)Ljava/lang/String;" } : MethodName)) ∈ lw_gw := am_w 2155 (by decide +kernel) rfl
theorem w2169 : (Cond.methodLink "ClockhouseLaw" (261 : Nat) ({ cls := "ClockhouseModel", name := "bigPower", desc := "(III)Ljava/lang/String;" } : MethodName)) ∈ lw_gw := am_w 2169 (by decide +kernel) rfl
theorem w2170 : (Cond.instanceMethod ({ cls := "ClockhouseModel", name := "bigPower", desc := "(III)Ljava/lang/String;" } : MethodName)) ∈ lw_gw := am_w 2170 (by decide +kernel) rfl
theorem w2171 : (Cond.selects "ClockhouseModel" ({ cls := "ClockhouseModel", name := "bigPower", desc := "(III)Ljava/lang/String;" } : MethodName) ({ cls := "ClockhouseModel", name := "bigPower", desc := "(III)Ljava/lang/String;" } : MethodName)) ∈ lw_gw := am_w 2171 (by decide +kernel) rfl
theorem w2181 : (Cond.methodLink "ClockhouseLaw" (265 : Nat) ({ cls := "ClockhouseModel", name := "size", desc := "()I" } : MethodName)) ∈ lw_gw := am_w 2181 (by decide +kernel) rfl
theorem w2182 : (Cond.instanceMethod ({ cls := "ClockhouseModel", name := "size", desc := "()I" } : MethodName)) ∈ lw_gw := am_w 2182 (by decide +kernel) rfl
theorem w2183 : (Cond.selects "ClockhouseModel" ({ cls := "ClockhouseModel", name := "size", desc := "()I" } : MethodName) ({ cls := "ClockhouseModel", name := "size", desc := "()I" } : MethodName)) ∈ lw_gw := am_w 2183 (by decide +kernel) rfl
theorem w2185 : (Cond.methodLink "ClockhouseLaw" (268 : Nat) ({ cls := "ClockhouseModel", name := "mod", desc := "(I)I" } : MethodName)) ∈ lw_gw := am_w 2185 (by decide +kernel) rfl
theorem w2186 : (Cond.instanceMethod ({ cls := "ClockhouseModel", name := "mod", desc := "(I)I" } : MethodName)) ∈ lw_gw := am_w 2186 (by decide +kernel) rfl
theorem w2187 : (Cond.selects "ClockhouseModel" ({ cls := "ClockhouseModel", name := "mod", desc := "(I)I" } : MethodName) ({ cls := "ClockhouseModel", name := "mod", desc := "(I)I" } : MethodName)) ∈ lw_gw := am_w 2187 (by decide +kernel) rfl
theorem w2189 : (Cond.methodLink "ClockhouseLaw" (271 : Nat) ({ cls := "ClockhouseModel", name := "gcd", desc := "(I)I" } : MethodName)) ∈ lw_gw := am_w 2189 (by decide +kernel) rfl
theorem w2190 : (Cond.instanceMethod ({ cls := "ClockhouseModel", name := "gcd", desc := "(I)I" } : MethodName)) ∈ lw_gw := am_w 2190 (by decide +kernel) rfl
theorem w2191 : (Cond.selects "ClockhouseModel" ({ cls := "ClockhouseModel", name := "gcd", desc := "(I)I" } : MethodName) ({ cls := "ClockhouseModel", name := "gcd", desc := "(I)I" } : MethodName)) ∈ lw_gw := am_w 2191 (by decide +kernel) rfl
theorem w2197 : (Cond.methodLink "ClockhouseLaw" (274 : Nat) ({ cls := "ClockhouseModel", name := "power", desc := "(II)I" } : MethodName)) ∈ lw_gw := am_w 2197 (by decide +kernel) rfl
theorem w2198 : (Cond.instanceMethod ({ cls := "ClockhouseModel", name := "power", desc := "(II)I" } : MethodName)) ∈ lw_gw := am_w 2198 (by decide +kernel) rfl
theorem w2199 : (Cond.selects "ClockhouseModel" ({ cls := "ClockhouseModel", name := "power", desc := "(II)I" } : MethodName) ({ cls := "ClockhouseModel", name := "power", desc := "(II)I" } : MethodName)) ∈ lw_gw := am_w 2199 (by decide +kernel) rfl
theorem w2201 : (Cond.methodLink "ClockhouseLaw" (277 : Nat) ({ cls := "ClockhouseModel", name := "inverse", desc := "(I)I" } : MethodName)) ∈ lw_gw := am_w 2201 (by decide +kernel) rfl
theorem w2202 : (Cond.instanceMethod ({ cls := "ClockhouseModel", name := "inverse", desc := "(I)I" } : MethodName)) ∈ lw_gw := am_w 2202 (by decide +kernel) rfl
theorem w2203 : (Cond.selects "ClockhouseModel" ({ cls := "ClockhouseModel", name := "inverse", desc := "(I)I" } : MethodName) ({ cls := "ClockhouseModel", name := "inverse", desc := "(I)I" } : MethodName)) ∈ lw_gw := am_w 2203 (by decide +kernel) rfl
theorem w2205 : (Cond.methodLink "ClockhouseLaw" (280 : Nat) ({ cls := "ClockhouseModel", name := "solutions", desc := "(II)I" } : MethodName)) ∈ lw_gw := am_w 2205 (by decide +kernel) rfl
theorem w2206 : (Cond.instanceMethod ({ cls := "ClockhouseModel", name := "solutions", desc := "(II)I" } : MethodName)) ∈ lw_gw := am_w 2206 (by decide +kernel) rfl
theorem w2207 : (Cond.selects "ClockhouseModel" ({ cls := "ClockhouseModel", name := "solutions", desc := "(II)I" } : MethodName) ({ cls := "ClockhouseModel", name := "solutions", desc := "(II)I" } : MethodName)) ∈ lw_gw := am_w 2207 (by decide +kernel) rfl
theorem w2217 : (Cond.methodLink "ClockhouseLaw" (283 : Nat) ({ cls := "ClockhouseModel", name := "solution", desc := "(III)I" } : MethodName)) ∈ lw_gw := am_w 2217 (by decide +kernel) rfl
theorem w2218 : (Cond.instanceMethod ({ cls := "ClockhouseModel", name := "solution", desc := "(III)I" } : MethodName)) ∈ lw_gw := am_w 2218 (by decide +kernel) rfl
theorem w2219 : (Cond.selects "ClockhouseModel" ({ cls := "ClockhouseModel", name := "solution", desc := "(III)I" } : MethodName) ({ cls := "ClockhouseModel", name := "solution", desc := "(III)I" } : MethodName)) ∈ lw_gw := am_w 2219 (by decide +kernel) rfl
theorem w2225 : (Cond.methodLink "ClockhouseLaw" (287 : Nat) ({ cls := "ClockhouseModel", name := "units", desc := "()I" } : MethodName)) ∈ lw_gw := am_w 2225 (by decide +kernel) rfl
theorem w2226 : (Cond.instanceMethod ({ cls := "ClockhouseModel", name := "units", desc := "()I" } : MethodName)) ∈ lw_gw := am_w 2226 (by decide +kernel) rfl
theorem w2227 : (Cond.selects "ClockhouseModel" ({ cls := "ClockhouseModel", name := "units", desc := "()I" } : MethodName) ({ cls := "ClockhouseModel", name := "units", desc := "()I" } : MethodName)) ∈ lw_gw := am_w 2227 (by decide +kernel) rfl
theorem w2233 : (Cond.methodLink "ClockhouseLaw" (290 : Nat) ({ cls := "ClockhouseModel", name := "order", desc := "(I)I" } : MethodName)) ∈ lw_gw := am_w 2233 (by decide +kernel) rfl
theorem w2234 : (Cond.instanceMethod ({ cls := "ClockhouseModel", name := "order", desc := "(I)I" } : MethodName)) ∈ lw_gw := am_w 2234 (by decide +kernel) rfl
theorem w2235 : (Cond.selects "ClockhouseModel" ({ cls := "ClockhouseModel", name := "order", desc := "(I)I" } : MethodName) ({ cls := "ClockhouseModel", name := "order", desc := "(I)I" } : MethodName)) ∈ lw_gw := am_w 2235 (by decide +kernel) rfl
theorem w2241 : (Cond.methodLink "ClockhouseLaw" (293 : Nat) ({ cls := "ClockhouseModel", name := "generator", desc := "(I)I" } : MethodName)) ∈ lw_gw := am_w 2241 (by decide +kernel) rfl
theorem w2242 : (Cond.instanceMethod ({ cls := "ClockhouseModel", name := "generator", desc := "(I)I" } : MethodName)) ∈ lw_gw := am_w 2242 (by decide +kernel) rfl
theorem w2243 : (Cond.selects "ClockhouseModel" ({ cls := "ClockhouseModel", name := "generator", desc := "(I)I" } : MethodName) ({ cls := "ClockhouseModel", name := "generator", desc := "(I)I" } : MethodName)) ∈ lw_gw := am_w 2243 (by decide +kernel) rfl
theorem w2249 : (Cond.methodLink "ClockhouseLaw" (296 : Nat) ({ cls := "ClockhouseModel", name := "isGenerator", desc := "(I)Z" } : MethodName)) ∈ lw_gw := am_w 2249 (by decide +kernel) rfl
theorem w2250 : (Cond.instanceMethod ({ cls := "ClockhouseModel", name := "isGenerator", desc := "(I)Z" } : MethodName)) ∈ lw_gw := am_w 2250 (by decide +kernel) rfl
theorem w2251 : (Cond.selects "ClockhouseModel" ({ cls := "ClockhouseModel", name := "isGenerator", desc := "(I)Z" } : MethodName) ({ cls := "ClockhouseModel", name := "isGenerator", desc := "(I)Z" } : MethodName)) ∈ lw_gw := am_w 2251 (by decide +kernel) rfl
theorem w2253 : (Cond.methodLink "ClockhouseLaw" (299 : Nat) ({ cls := "ClockhouseModel", name := "powers", desc := "(I)Ljava/lang/String;" } : MethodName)) ∈ lw_gw := am_w 2253 (by decide +kernel) rfl
theorem w2254 : (Cond.instanceMethod ({ cls := "ClockhouseModel", name := "powers", desc := "(I)Ljava/lang/String;" } : MethodName)) ∈ lw_gw := am_w 2254 (by decide +kernel) rfl
theorem w2255 : (Cond.selects "ClockhouseModel" ({ cls := "ClockhouseModel", name := "powers", desc := "(I)Ljava/lang/String;" } : MethodName) ({ cls := "ClockhouseModel", name := "powers", desc := "(I)Ljava/lang/String;" } : MethodName)) ∈ lw_gw := am_w 2255 (by decide +kernel) rfl
theorem w2266 : (Cond.methodLink "ClockhouseLaw" (302 : Nat) ({ cls := "ClockhouseModel", name := "ofPowers", desc := "(II)I" } : MethodName)) ∈ lw_gw := am_w 2266 (by decide +kernel) rfl
theorem w2267 : (Cond.instanceMethod ({ cls := "ClockhouseModel", name := "ofPowers", desc := "(II)I" } : MethodName)) ∈ lw_gw := am_w 2267 (by decide +kernel) rfl
theorem w2268 : (Cond.selects "ClockhouseModel" ({ cls := "ClockhouseModel", name := "ofPowers", desc := "(II)I" } : MethodName) ({ cls := "ClockhouseModel", name := "ofPowers", desc := "(II)I" } : MethodName)) ∈ lw_gw := am_w 2268 (by decide +kernel) rfl
theorem w2274 : (Cond.methodLink "ClockhouseLaw" (305 : Nat) ({ cls := "ClockhouseModel", name := "roots", desc := "(I)I" } : MethodName)) ∈ lw_gw := am_w 2274 (by decide +kernel) rfl
theorem w2275 : (Cond.instanceMethod ({ cls := "ClockhouseModel", name := "roots", desc := "(I)I" } : MethodName)) ∈ lw_gw := am_w 2275 (by decide +kernel) rfl
theorem w2276 : (Cond.selects "ClockhouseModel" ({ cls := "ClockhouseModel", name := "roots", desc := "(I)I" } : MethodName) ({ cls := "ClockhouseModel", name := "roots", desc := "(I)I" } : MethodName)) ∈ lw_gw := am_w 2276 (by decide +kernel) rfl
theorem w2285 : (Cond.methodLink "ClockhouseLaw" (308 : Nat) ({ cls := "ClockhouseModel", name := "root", desc := "(II)I" } : MethodName)) ∈ lw_gw := am_w 2285 (by decide +kernel) rfl
theorem w2286 : (Cond.instanceMethod ({ cls := "ClockhouseModel", name := "root", desc := "(II)I" } : MethodName)) ∈ lw_gw := am_w 2286 (by decide +kernel) rfl
theorem w2287 : (Cond.selects "ClockhouseModel" ({ cls := "ClockhouseModel", name := "root", desc := "(II)I" } : MethodName) ({ cls := "ClockhouseModel", name := "root", desc := "(II)I" } : MethodName)) ∈ lw_gw := am_w 2287 (by decide +kernel) rfl
theorem w2293 : (Cond.methodLink "ClockhouseLaw" (313 : Nat) ({ cls := "ClockhouseModel", name := "isPrime", desc := "()Z" } : MethodName)) ∈ lw_gw := am_w 2293 (by decide +kernel) rfl
theorem w2294 : (Cond.instanceMethod ({ cls := "ClockhouseModel", name := "isPrime", desc := "()Z" } : MethodName)) ∈ lw_gw := am_w 2294 (by decide +kernel) rfl
theorem w2295 : (Cond.selects "ClockhouseModel" ({ cls := "ClockhouseModel", name := "isPrime", desc := "()Z" } : MethodName) ({ cls := "ClockhouseModel", name := "isPrime", desc := "()Z" } : MethodName)) ∈ lw_gw := am_w 2295 (by decide +kernel) rfl
theorem w2300 : (Cond.methodLink "ClockhouseLaw" (316 : Nat) ({ cls := "ClockhouseModel", name := "legendre", desc := "(I)I" } : MethodName)) ∈ lw_gw := am_w 2300 (by decide +kernel) rfl
theorem w2301 : (Cond.instanceMethod ({ cls := "ClockhouseModel", name := "legendre", desc := "(I)I" } : MethodName)) ∈ lw_gw := am_w 2301 (by decide +kernel) rfl
theorem w2302 : (Cond.selects "ClockhouseModel" ({ cls := "ClockhouseModel", name := "legendre", desc := "(I)I" } : MethodName) ({ cls := "ClockhouseModel", name := "legendre", desc := "(I)I" } : MethodName)) ∈ lw_gw := am_w 2302 (by decide +kernel) rfl
theorem w2311 : (Cond.methodLink "ClockhouseLaw" (319 : Nat) ({ cls := "ClockhouseModel", name := "jacobi", desc := "(I)I" } : MethodName)) ∈ lw_gw := am_w 2311 (by decide +kernel) rfl
theorem w2312 : (Cond.instanceMethod ({ cls := "ClockhouseModel", name := "jacobi", desc := "(I)I" } : MethodName)) ∈ lw_gw := am_w 2312 (by decide +kernel) rfl
theorem w2313 : (Cond.selects "ClockhouseModel" ({ cls := "ClockhouseModel", name := "jacobi", desc := "(I)I" } : MethodName) ({ cls := "ClockhouseModel", name := "jacobi", desc := "(I)I" } : MethodName)) ∈ lw_gw := am_w 2313 (by decide +kernel) rfl
theorem w2319 : (Cond.methodLink "ClockhouseLaw" (323 : Nat) ({ cls := "ClockhouseModel", name := "rows", desc := "()I" } : MethodName)) ∈ lw_gw := am_w 2319 (by decide +kernel) rfl
theorem w2320 : (Cond.instanceMethod ({ cls := "ClockhouseModel", name := "rows", desc := "()I" } : MethodName)) ∈ lw_gw := am_w 2320 (by decide +kernel) rfl
theorem w2321 : (Cond.selects "ClockhouseModel" ({ cls := "ClockhouseModel", name := "rows", desc := "()I" } : MethodName) ({ cls := "ClockhouseModel", name := "rows", desc := "()I" } : MethodName)) ∈ lw_gw := am_w 2321 (by decide +kernel) rfl
theorem w2323 : (Cond.methodLink "ClockhouseLaw" (326 : Nat) ({ cls := "ClockhouseModel", name := "ofRow", desc := "(II)I" } : MethodName)) ∈ lw_gw := am_w 2323 (by decide +kernel) rfl
theorem w2324 : (Cond.instanceMethod ({ cls := "ClockhouseModel", name := "ofRow", desc := "(II)I" } : MethodName)) ∈ lw_gw := am_w 2324 (by decide +kernel) rfl
theorem w2325 : (Cond.selects "ClockhouseModel" ({ cls := "ClockhouseModel", name := "ofRow", desc := "(II)I" } : MethodName) ({ cls := "ClockhouseModel", name := "ofRow", desc := "(II)I" } : MethodName)) ∈ lw_gw := am_w 2325 (by decide +kernel) rfl
theorem w2335 : (Cond.methodLink "ClockhouseLaw" (329 : Nat) ({ cls := "ClockhouseModel", name := "agree", desc := "(II)Z" } : MethodName)) ∈ lw_gw := am_w 2335 (by decide +kernel) rfl
theorem w2336 : (Cond.instanceMethod ({ cls := "ClockhouseModel", name := "agree", desc := "(II)Z" } : MethodName)) ∈ lw_gw := am_w 2336 (by decide +kernel) rfl
theorem w2337 : (Cond.selects "ClockhouseModel" ({ cls := "ClockhouseModel", name := "agree", desc := "(II)Z" } : MethodName) ({ cls := "ClockhouseModel", name := "agree", desc := "(II)Z" } : MethodName)) ∈ lw_gw := am_w 2337 (by decide +kernel) rfl
theorem w2343 : (Cond.methodLink "ClockhouseLaw" (333 : Nat) ({ cls := "ClockhouseModel", name := "isJoined", desc := "()Z" } : MethodName)) ∈ lw_gw := am_w 2343 (by decide +kernel) rfl
theorem w2344 : (Cond.instanceMethod ({ cls := "ClockhouseModel", name := "isJoined", desc := "()Z" } : MethodName)) ∈ lw_gw := am_w 2344 (by decide +kernel) rfl
theorem w2345 : (Cond.selects "ClockhouseModel" ({ cls := "ClockhouseModel", name := "isJoined", desc := "()Z" } : MethodName) ({ cls := "ClockhouseModel", name := "isJoined", desc := "()Z" } : MethodName)) ∈ lw_gw := am_w 2345 (by decide +kernel) rfl
theorem w2347 : (Cond.methodLink "ClockhouseLaw" (336 : Nat) ({ cls := "ClockhouseModel", name := "wouldJoin", desc := "(II)Z" } : MethodName)) ∈ lw_gw := am_w 2347 (by decide +kernel) rfl
theorem w2348 : (Cond.instanceMethod ({ cls := "ClockhouseModel", name := "wouldJoin", desc := "(II)Z" } : MethodName)) ∈ lw_gw := am_w 2348 (by decide +kernel) rfl
theorem w2349 : (Cond.selects "ClockhouseModel" ({ cls := "ClockhouseModel", name := "wouldJoin", desc := "(II)Z" } : MethodName) ({ cls := "ClockhouseModel", name := "wouldJoin", desc := "(II)Z" } : MethodName)) ∈ lw_gw := am_w 2349 (by decide +kernel) rfl
theorem w2351 : (Cond.methodLink "ClockhouseLaw" (341 : Nat) ({ cls := "ClockhouseModel", name := "answer", desc := "()Ljava/lang/String;" } : MethodName)) ∈ lw_gw := am_w 2351 (by decide +kernel) rfl
theorem w2352 : (Cond.instanceMethod ({ cls := "ClockhouseModel", name := "answer", desc := "()Ljava/lang/String;" } : MethodName)) ∈ lw_gw := am_w 2352 (by decide +kernel) rfl
theorem w2353 : (Cond.selects "ClockhouseModel" ({ cls := "ClockhouseModel", name := "answer", desc := "()Ljava/lang/String;" } : MethodName) ({ cls := "ClockhouseModel", name := "answer", desc := "()Ljava/lang/String;" } : MethodName)) ∈ lw_gw := am_w 2353 (by decide +kernel) rfl
theorem w2389 : (Cond.methodLink "ClockhouseLaw" (345 : Nat) ({ cls := "ClockhouseModel", name := "answerDial", desc := "()Ljava/lang/String;" } : MethodName)) ∈ lw_gw := am_w 2389 (by decide +kernel) rfl
theorem w2390 : (Cond.instanceMethod ({ cls := "ClockhouseModel", name := "answerDial", desc := "()Ljava/lang/String;" } : MethodName)) ∈ lw_gw := am_w 2390 (by decide +kernel) rfl
theorem w2391 : (Cond.selects "ClockhouseModel" ({ cls := "ClockhouseModel", name := "answerDial", desc := "()Ljava/lang/String;" } : MethodName) ({ cls := "ClockhouseModel", name := "answerDial", desc := "()Ljava/lang/String;" } : MethodName)) ∈ lw_gw := am_w 2391 (by decide +kernel) rfl
theorem w2397 : (Cond.methodLink "ClockhouseLaw" (348 : Nat) ({ cls := "ClockhouseModel", name := "clash", desc := "(I)I" } : MethodName)) ∈ lw_gw := am_w 2397 (by decide +kernel) rfl
theorem w2398 : (Cond.instanceMethod ({ cls := "ClockhouseModel", name := "clash", desc := "(I)I" } : MethodName)) ∈ lw_gw := am_w 2398 (by decide +kernel) rfl
theorem w2399 : (Cond.selects "ClockhouseModel" ({ cls := "ClockhouseModel", name := "clash", desc := "(I)I" } : MethodName) ({ cls := "ClockhouseModel", name := "clash", desc := "(I)I" } : MethodName)) ∈ lw_gw := am_w 2399 (by decide +kernel) rfl
theorem w2405 : (Cond.methodLink "ClockhouseLaw" (351 : Nat) ({ cls := "ClockhouseModel", name := "broken", desc := "(I)I" } : MethodName)) ∈ lw_gw := am_w 2405 (by decide +kernel) rfl
theorem w2406 : (Cond.instanceMethod ({ cls := "ClockhouseModel", name := "broken", desc := "(I)I" } : MethodName)) ∈ lw_gw := am_w 2406 (by decide +kernel) rfl
theorem w2407 : (Cond.selects "ClockhouseModel" ({ cls := "ClockhouseModel", name := "broken", desc := "(I)I" } : MethodName) ({ cls := "ClockhouseModel", name := "broken", desc := "(I)I" } : MethodName)) ∈ lw_gw := am_w 2407 (by decide +kernel) rfl
theorem w2413 : (Cond.methodLink "ClockhouseLaw" (355 : Nat) ({ cls := "ClockhouseModel", name := "bases", desc := "()I" } : MethodName)) ∈ lw_gw := am_w 2413 (by decide +kernel) rfl
theorem w2414 : (Cond.instanceMethod ({ cls := "ClockhouseModel", name := "bases", desc := "()I" } : MethodName)) ∈ lw_gw := am_w 2414 (by decide +kernel) rfl
theorem w2415 : (Cond.selects "ClockhouseModel" ({ cls := "ClockhouseModel", name := "bases", desc := "()I" } : MethodName) ({ cls := "ClockhouseModel", name := "bases", desc := "()I" } : MethodName)) ∈ lw_gw := am_w 2415 (by decide +kernel) rfl
theorem w2417 : (Cond.methodLink "ClockhouseLaw" (359 : Nat) ({ cls := "ClockhouseModel", name := "span", desc := "()Ljava/lang/String;" } : MethodName)) ∈ lw_gw := am_w 2417 (by decide +kernel) rfl
theorem w2418 : (Cond.instanceMethod ({ cls := "ClockhouseModel", name := "span", desc := "()Ljava/lang/String;" } : MethodName)) ∈ lw_gw := am_w 2418 (by decide +kernel) rfl
theorem w2419 : (Cond.selects "ClockhouseModel" ({ cls := "ClockhouseModel", name := "span", desc := "()Ljava/lang/String;" } : MethodName) ({ cls := "ClockhouseModel", name := "span", desc := "()Ljava/lang/String;" } : MethodName)) ∈ lw_gw := am_w 2419 (by decide +kernel) rfl
theorem w2425 : (Cond.methodLink "ClockhouseLaw" (362 : Nat) ({ cls := "ClockhouseModel", name := "residues", desc := "(I)Ljava/lang/String;" } : MethodName)) ∈ lw_gw := am_w 2425 (by decide +kernel) rfl
theorem w2426 : (Cond.instanceMethod ({ cls := "ClockhouseModel", name := "residues", desc := "(I)Ljava/lang/String;" } : MethodName)) ∈ lw_gw := am_w 2426 (by decide +kernel) rfl
theorem w2427 : (Cond.selects "ClockhouseModel" ({ cls := "ClockhouseModel", name := "residues", desc := "(I)Ljava/lang/String;" } : MethodName) ({ cls := "ClockhouseModel", name := "residues", desc := "(I)Ljava/lang/String;" } : MethodName)) ∈ lw_gw := am_w 2427 (by decide +kernel) rfl
theorem w2438 : (Cond.methodLink "ClockhouseLaw" (365 : Nat) ({ cls := "ClockhouseModel", name := "back", desc := "(I)Ljava/lang/String;" } : MethodName)) ∈ lw_gw := am_w 2438 (by decide +kernel) rfl
theorem w2439 : (Cond.instanceMethod ({ cls := "ClockhouseModel", name := "back", desc := "(I)Ljava/lang/String;" } : MethodName)) ∈ lw_gw := am_w 2439 (by decide +kernel) rfl
theorem w2440 : (Cond.selects "ClockhouseModel" ({ cls := "ClockhouseModel", name := "back", desc := "(I)Ljava/lang/String;" } : MethodName) ({ cls := "ClockhouseModel", name := "back", desc := "(I)Ljava/lang/String;" } : MethodName)) ∈ lw_gw := am_w 2440 (by decide +kernel) rfl
theorem w2446 : (Cond.methodLink "ClockhouseLaw" (368 : Nat) ({ cls := "ClockhouseModel", name := "sumBack", desc := "(II)Ljava/lang/String;" } : MethodName)) ∈ lw_gw := am_w 2446 (by decide +kernel) rfl
theorem w2447 : (Cond.instanceMethod ({ cls := "ClockhouseModel", name := "sumBack", desc := "(II)Ljava/lang/String;" } : MethodName)) ∈ lw_gw := am_w 2447 (by decide +kernel) rfl
theorem w2448 : (Cond.selects "ClockhouseModel" ({ cls := "ClockhouseModel", name := "sumBack", desc := "(II)Ljava/lang/String;" } : MethodName) ({ cls := "ClockhouseModel", name := "sumBack", desc := "(II)Ljava/lang/String;" } : MethodName)) ∈ lw_gw := am_w 2448 (by decide +kernel) rfl
theorem w2450 : (Cond.methodLink "ClockhouseLaw" (371 : Nat) ({ cls := "ClockhouseModel", name := "productBack", desc := "(II)Ljava/lang/String;" } : MethodName)) ∈ lw_gw := am_w 2450 (by decide +kernel) rfl
theorem w2451 : (Cond.instanceMethod ({ cls := "ClockhouseModel", name := "productBack", desc := "(II)Ljava/lang/String;" } : MethodName)) ∈ lw_gw := am_w 2451 (by decide +kernel) rfl
theorem w2452 : (Cond.selects "ClockhouseModel" ({ cls := "ClockhouseModel", name := "productBack", desc := "(II)Ljava/lang/String;" } : MethodName) ({ cls := "ClockhouseModel", name := "productBack", desc := "(II)Ljava/lang/String;" } : MethodName)) ∈ lw_gw := am_w 2452 (by decide +kernel) rfl
theorem w2454 : (Cond.methodLink "ClockhouseLaw" (374 : Nat) ({ cls := "ClockhouseModel", name := "books", desc := "(I)I" } : MethodName)) ∈ lw_gw := am_w 2454 (by decide +kernel) rfl
theorem w2455 : (Cond.instanceMethod ({ cls := "ClockhouseModel", name := "books", desc := "(I)I" } : MethodName)) ∈ lw_gw := am_w 2455 (by decide +kernel) rfl
theorem w2456 : (Cond.selects "ClockhouseModel" ({ cls := "ClockhouseModel", name := "books", desc := "(I)I" } : MethodName) ({ cls := "ClockhouseModel", name := "books", desc := "(I)I" } : MethodName)) ∈ lw_gw := am_w 2456 (by decide +kernel) rfl
theorem w2462 : (Cond.methodLink "ClockhouseLaw" (378 : Nat) ({ cls := "ClockhouseModel", name := "isSound", desc := "()Z" } : MethodName)) ∈ lw_gw := am_w 2462 (by decide +kernel) rfl
theorem w2463 : (Cond.instanceMethod ({ cls := "ClockhouseModel", name := "isSound", desc := "()Z" } : MethodName)) ∈ lw_gw := am_w 2463 (by decide +kernel) rfl
theorem w2464 : (Cond.selects "ClockhouseModel" ({ cls := "ClockhouseModel", name := "isSound", desc := "()Z" } : MethodName) ({ cls := "ClockhouseModel", name := "isSound", desc := "()Z" } : MethodName)) ∈ lw_gw := am_w 2464 (by decide +kernel) rfl
theorem w2470 : (Cond.methodLink "ClockhouseLaw" (383 : Nat) ({ cls := "ClockhouseModel", name := "digest", desc := "()J" } : MethodName)) ∈ lw_gw := am_w 2470 (by decide +kernel) rfl
theorem w2471 : (Cond.instanceMethod ({ cls := "ClockhouseModel", name := "digest", desc := "()J" } : MethodName)) ∈ lw_gw := am_w 2471 (by decide +kernel) rfl
theorem w2472 : (Cond.selects "ClockhouseModel" ({ cls := "ClockhouseModel", name := "digest", desc := "()J" } : MethodName) ({ cls := "ClockhouseModel", name := "digest", desc := "()J" } : MethodName)) ∈ lw_gw := am_w 2472 (by decide +kernel) rfl
