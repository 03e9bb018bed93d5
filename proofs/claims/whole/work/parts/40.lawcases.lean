/-! The law: its body as a plain function (printed by program). -/
theorem c1_d {G : sf_G} {env : List (Option Value)} {j : Nat} {x : UInt64} (h : env[j]? = some (some (.double x))) : sf_c1 G env (j + 1) := c1_v h pk_d
/-- the script: L ints xs, at an old place -/
def sf_Scr (X : sf_X) (L : Nat) (xs : Nat → Int32) : Prop := ∃ b : Nat, (sf_XG X).2.2.2.2.2 60 = .ref b ∧ va_X b L xs (sf_Xs X) (sf_Xs X).heap ∧ b < (sf_Xs X).heap.size ∧ b < sf_sz (sf_XG X)
def sf_scr (L : Nat) (xs : Nat → Int32) (i : Int32) : sf_M Int32 := fun σ => if (decide (0 ≤ i.toInt) && decide (i.toInt < L)) = true then some (xs (sf_ix i), σ) else none
theorem gr_scr {L : Nat} {xs : Nat → Int32} {i : Int32} : sf_Gr (sf_scr L xs i) := sf_Gr.same fun σ r σ' h => by
  unfold sf_scr at h; split at h <;> cases h; rfl
section FSC
variable {X : sf_X} {Z : sf_Z} {env : List (Option Value)} {stk : List Value} {pc : Nat} {ρ : Type} {land : ρ → sf_L} {L : Nat} {xs : Nat → Int32}
theorem fp_scrlen {f : sf_M ρ} (hS : sf_Scr X L xs) (hd : decode Z.2.1 pc = .ok (.arraylength, 1)) (k : sf_Fr X Z (sf_p (pc + 1) env (.int (Int32.ofNat L) :: stk)) f land) : sf_Fr X Z (sf_p pc env (.double 60 :: stk)) f land := fr_st (L' := sf_p (pc + 1) env (.int (Int32.ofNat L) :: stk)) (fun C σ k H locs ls hH hl => by
  obtain ⟨b, e1, e2, e3, e4⟩ := hS
  have e : sf_cv (sf_XG X) (.double 60) = .ref b := by
    show (match (sf_XG X).2.2.2.2.2 60 with | .ref a => Value.ref a | _ => .null) = _
    rw [e1]
  show sf_W X H locs _ _ (F0 (sf_Xm X) pc ls (sf_cv (sf_XG X) (.double 60) :: stk.map (sf_cv (sf_XG X))))
  rw [e]
  exact va_slen C.1 C.2.1 e2 e3 (by omega : ¬ sf_sz (sf_XG X) ≤ b) (sf_S C.2.2.2.2.2.2.1 C hH) hd (k H locs ls hH hl)) k
theorem fr_scr {g : Int32 → sf_M ρ} {i : Int32} (hS : sf_Scr X L xs) (hd : decode Z.2.1 pc = .ok (.iaload, 1)) (kk : ∀ v, sf_Fr X Z (sf_p (pc + 1) env (.int v :: stk)) (g v) land) : sf_Fr X Z (sf_p pc env (.int i :: .double 60 :: stk)) (sf_bnd (sf_scr L xs i) g) land := by
  refine fr_ef gr_scr (fun C σ v σ' e _ kt H locs ls hH hL => ?_) kk
  unfold sf_scr at e
  split at e
  next ho =>
    cases e
    simp only [Bool.and_eq_true, decide_eq_true_eq] at ho
    obtain ⟨b, e1, e2, e3, e4⟩ := hS
    have e : sf_cv (sf_XG X) (.double 60) = .ref b := by
      show (match (sf_XG X).2.2.2.2.2 60 with | .ref a => Value.ref a | _ => .null) = _
      rw [e1]
    show sf_W X H locs _ _ (F0 (sf_Xm X) pc ls (.int i :: sf_cv (sf_XG X) (.double 60) :: stk.map (sf_cv (sf_XG X))))
    rw [e]
    exact va_sld C.1 C.2.1 e2 e3 (by omega : ¬ sf_sz (sf_XG X) ≤ b) (sf_S C.2.2.2.2.2.2.1 C hH) (sf_in_of ho.1 ho.2).1 hd (kt H locs ls hH hL)
  next => cases e
end FSC
theorem fr_land {X : sf_X} {Z : sf_Z} {ρ : Type} {L : sf_L} {f : sf_M ρ} {l1 land : ρ → sf_L} (h : ∀ r, l1 r = land r) (k : sf_Fr X Z L f l1) : sf_Fr X Z L f land := ⟨k.1, fun C σ r σ' e hb q => k.2 C σ r σ' e hb (by rw [h]; exact q)⟩
abbrev sf_ZL : sf_Z := ("SplitFaresLaw", code, 215, x.name, ret, 4)
theorem dd_Law_law_0 : decode code 0 = .ok (.new 7, 3) := by decide +kernel
theorem dd_Law_law_3 : decode code 3 = .ok (.dup, 1) := by decide +kernel
theorem dd_Law_law_4 : decode code 4 = .ok (.invokespecial 9, 3) := by decide +kernel
theorem dd_Law_law_7 : decode code 7 = .ok (.astore_n 1, 1) := by decide +kernel
theorem dd_Law_law_8 : decode code 8 = .ok (.new 10, 3) := by decide +kernel
theorem dd_Law_law_11 : decode code 11 = .ok (.dup, 1) := by decide +kernel
theorem dd_Law_law_12 : decode code 12 = .ok (.invokespecial 12, 3) := by decide +kernel
theorem dd_Law_law_15 : decode code 15 = .ok (.astore_n 2, 1) := by decide +kernel
theorem dd_Law_law_16 : decode code 16 = .ok (.iconst 0, 1) := by decide +kernel
theorem dd_Law_law_17 : decode code 17 = .ok (.istore_n 3, 1) := by decide +kernel
theorem dd_Law_law_18 : decode code 18 = .ok (.iload_n 3, 1) := by decide +kernel
theorem dd_Law_law_19 : decode code 19 = .ok (.aload_n 0, 1) := by decide +kernel
theorem dd_Law_law_20 : decode code 20 = .ok (.arraylength, 1) := by decide +kernel
theorem dd_Law_law_21 : decode code 21 = .ok (.bipush 6, 2) := by decide +kernel
theorem dd_Law_law_23 : decode code 23 = .ok (.isub, 1) := by decide +kernel
theorem dd_Law_law_24 : decode code 24 = .ok (.if_icmp .gt 1465, 3) := by decide +kernel
theorem dd_Law_law_27 : decode code 27 = .ok (.aload_n 0, 1) := by decide +kernel
theorem dd_Law_law_28 : decode code 28 = .ok (.iload_n 3, 1) := by decide +kernel
theorem dd_Law_law_29 : decode code 29 = .ok (.iaload, 1) := by decide +kernel
theorem dd_Law_law_30 : decode code 30 = .ok (.bipush 63, 2) := by decide +kernel
theorem dd_Law_law_32 : decode code 32 = .ok (.iand, 1) := by decide +kernel
theorem dd_Law_law_33 : decode code 33 = .ok (.tableswitch 1450 0 41 #[183, 226, 259, 302, 355, 398, 431, 494, 517, 530, 543, 556, 569, 582, 595, 618, 661, 694, 717, 730, 743, 796, 849, 892, 935, 988, 1031, 1064, 1097, 1110, 1153, 1186, 1199, 1212, 1235, 1269, 1312, 1345, 1368, 1391, 1414, 1437], 183) := by decide +kernel
theorem dd_Law_law_1470 : decode code 1470 = .ok (.aload_n 1, 1) := by decide +kernel
theorem dd_Law_law_1471 : decode code 1471 = .ok (.invokevirtual 184, 3) := by decide +kernel
theorem dd_Law_law_1474 : decode code 1474 = .ok (.aload_n 2, 1) := by decide +kernel
theorem dd_Law_law_1475 : decode code 1475 = .ok (.invokevirtual 187, 3) := by decide +kernel
theorem dd_Law_law_1478 : decode code 1478 = .ok (.if_icmp .eq 5, 3) := by decide +kernel
theorem dd_Law_law_1481 : decode code 1481 = .ok (.iconst 0, 1) := by decide +kernel
theorem dd_Law_law_1482 : decode code 1482 = .ok (.ireturn, 1) := by decide +kernel
theorem dd_Law_law_1447 : decode code 1447 = .ok (.aload_n 1, 1) := by decide +kernel
theorem dd_Law_law_1448 : decode code 1448 = .ok (.aload_n 0, 1) := by decide +kernel
theorem dd_Law_law_1449 : decode code 1449 = .ok (.iload_n 3, 1) := by decide +kernel
theorem dd_Law_law_1450 : decode code 1450 = .ok (.iconst 1, 1) := by decide +kernel
theorem dd_Law_law_1451 : decode code 1451 = .ok (.iadd, 1) := by decide +kernel
theorem dd_Law_law_1452 : decode code 1452 = .ok (.iaload, 1) := by decide +kernel
theorem dd_Law_law_1453 : decode code 1453 = .ok (.invokevirtual 180, 3) := by decide +kernel
theorem dd_Law_law_1456 : decode code 1456 = .ok (.aload_n 2, 1) := by decide +kernel
theorem dd_Law_law_1457 : decode code 1457 = .ok (.aload_n 0, 1) := by decide +kernel
theorem dd_Law_law_1458 : decode code 1458 = .ok (.iload_n 3, 1) := by decide +kernel
theorem dd_Law_law_1459 : decode code 1459 = .ok (.iconst 1, 1) := by decide +kernel
theorem dd_Law_law_1460 : decode code 1460 = .ok (.iadd, 1) := by decide +kernel
theorem dd_Law_law_1461 : decode code 1461 = .ok (.iaload, 1) := by decide +kernel
theorem dd_Law_law_1462 : decode code 1462 = .ok (.invokevirtual 183, 3) := by decide +kernel
theorem dd_Law_law_1465 : decode code 1465 = .ok (.if_icmp .eq 18, 3) := by decide +kernel
theorem dd_Law_law_1468 : decode code 1468 = .ok (.iconst 0, 1) := by decide +kernel
theorem dd_Law_law_1469 : decode code 1469 = .ok (.ireturn, 1) := by decide +kernel
theorem dd_Law_law_1424 : decode code 1424 = .ok (.aload_n 1, 1) := by decide +kernel
theorem dd_Law_law_1425 : decode code 1425 = .ok (.aload_n 0, 1) := by decide +kernel
theorem dd_Law_law_1426 : decode code 1426 = .ok (.iload_n 3, 1) := by decide +kernel
theorem dd_Law_law_1427 : decode code 1427 = .ok (.iconst 1, 1) := by decide +kernel
theorem dd_Law_law_1428 : decode code 1428 = .ok (.iadd, 1) := by decide +kernel
theorem dd_Law_law_1429 : decode code 1429 = .ok (.iaload, 1) := by decide +kernel
theorem dd_Law_law_1430 : decode code 1430 = .ok (.invokevirtual 176, 3) := by decide +kernel
theorem dd_Law_law_1433 : decode code 1433 = .ok (.aload_n 2, 1) := by decide +kernel
theorem dd_Law_law_1434 : decode code 1434 = .ok (.aload_n 0, 1) := by decide +kernel
theorem dd_Law_law_1435 : decode code 1435 = .ok (.iload_n 3, 1) := by decide +kernel
theorem dd_Law_law_1436 : decode code 1436 = .ok (.iconst 1, 1) := by decide +kernel
theorem dd_Law_law_1437 : decode code 1437 = .ok (.iadd, 1) := by decide +kernel
theorem dd_Law_law_1438 : decode code 1438 = .ok (.iaload, 1) := by decide +kernel
theorem dd_Law_law_1439 : decode code 1439 = .ok (.invokevirtual 179, 3) := by decide +kernel
theorem dd_Law_law_1442 : decode code 1442 = .ok (.if_icmp .eq 41, 3) := by decide +kernel
theorem dd_Law_law_1445 : decode code 1445 = .ok (.iconst 0, 1) := by decide +kernel
theorem dd_Law_law_1446 : decode code 1446 = .ok (.ireturn, 1) := by decide +kernel
theorem dd_Law_law_1401 : decode code 1401 = .ok (.aload_n 1, 1) := by decide +kernel
theorem dd_Law_law_1402 : decode code 1402 = .ok (.aload_n 0, 1) := by decide +kernel
theorem dd_Law_law_1403 : decode code 1403 = .ok (.iload_n 3, 1) := by decide +kernel
theorem dd_Law_law_1404 : decode code 1404 = .ok (.iconst 1, 1) := by decide +kernel
theorem dd_Law_law_1405 : decode code 1405 = .ok (.iadd, 1) := by decide +kernel
theorem dd_Law_law_1406 : decode code 1406 = .ok (.iaload, 1) := by decide +kernel
theorem dd_Law_law_1407 : decode code 1407 = .ok (.invokevirtual 172, 3) := by decide +kernel
theorem dd_Law_law_1410 : decode code 1410 = .ok (.aload_n 2, 1) := by decide +kernel
theorem dd_Law_law_1411 : decode code 1411 = .ok (.aload_n 0, 1) := by decide +kernel
theorem dd_Law_law_1412 : decode code 1412 = .ok (.iload_n 3, 1) := by decide +kernel
theorem dd_Law_law_1413 : decode code 1413 = .ok (.iconst 1, 1) := by decide +kernel
theorem dd_Law_law_1414 : decode code 1414 = .ok (.iadd, 1) := by decide +kernel
theorem dd_Law_law_1415 : decode code 1415 = .ok (.iaload, 1) := by decide +kernel
theorem dd_Law_law_1416 : decode code 1416 = .ok (.invokevirtual 175, 3) := by decide +kernel
theorem dd_Law_law_1419 : decode code 1419 = .ok (.if_icmp .eq 64, 3) := by decide +kernel
theorem dd_Law_law_1422 : decode code 1422 = .ok (.iconst 0, 1) := by decide +kernel
theorem dd_Law_law_1423 : decode code 1423 = .ok (.ireturn, 1) := by decide +kernel
theorem dd_Law_law_1378 : decode code 1378 = .ok (.aload_n 1, 1) := by decide +kernel
theorem dd_Law_law_1379 : decode code 1379 = .ok (.aload_n 0, 1) := by decide +kernel
theorem dd_Law_law_1380 : decode code 1380 = .ok (.iload_n 3, 1) := by decide +kernel
theorem dd_Law_law_1381 : decode code 1381 = .ok (.iconst 1, 1) := by decide +kernel
theorem dd_Law_law_1382 : decode code 1382 = .ok (.iadd, 1) := by decide +kernel
theorem dd_Law_law_1383 : decode code 1383 = .ok (.iaload, 1) := by decide +kernel
theorem dd_Law_law_1384 : decode code 1384 = .ok (.invokevirtual 168, 3) := by decide +kernel
theorem dd_Law_law_1387 : decode code 1387 = .ok (.aload_n 2, 1) := by decide +kernel
theorem dd_Law_law_1388 : decode code 1388 = .ok (.aload_n 0, 1) := by decide +kernel
theorem dd_Law_law_1389 : decode code 1389 = .ok (.iload_n 3, 1) := by decide +kernel
theorem dd_Law_law_1390 : decode code 1390 = .ok (.iconst 1, 1) := by decide +kernel
theorem dd_Law_law_1391 : decode code 1391 = .ok (.iadd, 1) := by decide +kernel
theorem dd_Law_law_1392 : decode code 1392 = .ok (.iaload, 1) := by decide +kernel
theorem dd_Law_law_1393 : decode code 1393 = .ok (.invokevirtual 171, 3) := by decide +kernel
theorem dd_Law_law_1396 : decode code 1396 = .ok (.if_icmp .eq 87, 3) := by decide +kernel
theorem dd_Law_law_1399 : decode code 1399 = .ok (.iconst 0, 1) := by decide +kernel
theorem dd_Law_law_1400 : decode code 1400 = .ok (.ireturn, 1) := by decide +kernel
theorem dd_Law_law_1345 : decode code 1345 = .ok (.aload_n 1, 1) := by decide +kernel
theorem dd_Law_law_1346 : decode code 1346 = .ok (.aload_n 0, 1) := by decide +kernel
theorem dd_Law_law_1347 : decode code 1347 = .ok (.iload_n 3, 1) := by decide +kernel
theorem dd_Law_law_1348 : decode code 1348 = .ok (.iconst 1, 1) := by decide +kernel
theorem dd_Law_law_1349 : decode code 1349 = .ok (.iadd, 1) := by decide +kernel
theorem dd_Law_law_1350 : decode code 1350 = .ok (.iaload, 1) := by decide +kernel
theorem dd_Law_law_1351 : decode code 1351 = .ok (.aload_n 0, 1) := by decide +kernel
theorem dd_Law_law_1352 : decode code 1352 = .ok (.iload_n 3, 1) := by decide +kernel
theorem dd_Law_law_1353 : decode code 1353 = .ok (.iconst 2, 1) := by decide +kernel
theorem dd_Law_law_1354 : decode code 1354 = .ok (.iadd, 1) := by decide +kernel
theorem dd_Law_law_1355 : decode code 1355 = .ok (.iaload, 1) := by decide +kernel
theorem dd_Law_law_1356 : decode code 1356 = .ok (.invokevirtual 164, 3) := by decide +kernel
theorem dd_Law_law_1359 : decode code 1359 = .ok (.aload_n 2, 1) := by decide +kernel
theorem dd_Law_law_1360 : decode code 1360 = .ok (.aload_n 0, 1) := by decide +kernel
theorem dd_Law_law_1361 : decode code 1361 = .ok (.iload_n 3, 1) := by decide +kernel
theorem dd_Law_law_1362 : decode code 1362 = .ok (.iconst 1, 1) := by decide +kernel
theorem dd_Law_law_1363 : decode code 1363 = .ok (.iadd, 1) := by decide +kernel
theorem dd_Law_law_1364 : decode code 1364 = .ok (.iaload, 1) := by decide +kernel
theorem dd_Law_law_1365 : decode code 1365 = .ok (.aload_n 0, 1) := by decide +kernel
theorem dd_Law_law_1366 : decode code 1366 = .ok (.iload_n 3, 1) := by decide +kernel
theorem dd_Law_law_1367 : decode code 1367 = .ok (.iconst 2, 1) := by decide +kernel
theorem dd_Law_law_1368 : decode code 1368 = .ok (.iadd, 1) := by decide +kernel
theorem dd_Law_law_1369 : decode code 1369 = .ok (.iaload, 1) := by decide +kernel
theorem dd_Law_law_1370 : decode code 1370 = .ok (.invokevirtual 167, 3) := by decide +kernel
theorem dd_Law_law_1373 : decode code 1373 = .ok (.if_icmp .eq 110, 3) := by decide +kernel
theorem dd_Law_law_1376 : decode code 1376 = .ok (.iconst 0, 1) := by decide +kernel
theorem dd_Law_law_1377 : decode code 1377 = .ok (.ireturn, 1) := by decide +kernel
theorem dd_Law_law_1302 : decode code 1302 = .ok (.aload_n 1, 1) := by decide +kernel
theorem dd_Law_law_1303 : decode code 1303 = .ok (.aload_n 0, 1) := by decide +kernel
theorem dd_Law_law_1304 : decode code 1304 = .ok (.iload_n 3, 1) := by decide +kernel
theorem dd_Law_law_1305 : decode code 1305 = .ok (.iconst 1, 1) := by decide +kernel
theorem dd_Law_law_1306 : decode code 1306 = .ok (.iadd, 1) := by decide +kernel
theorem dd_Law_law_1307 : decode code 1307 = .ok (.iaload, 1) := by decide +kernel
theorem dd_Law_law_1308 : decode code 1308 = .ok (.aload_n 0, 1) := by decide +kernel
theorem dd_Law_law_1309 : decode code 1309 = .ok (.iload_n 3, 1) := by decide +kernel
theorem dd_Law_law_1310 : decode code 1310 = .ok (.iconst 2, 1) := by decide +kernel
theorem dd_Law_law_1311 : decode code 1311 = .ok (.iadd, 1) := by decide +kernel
theorem dd_Law_law_1312 : decode code 1312 = .ok (.iaload, 1) := by decide +kernel
theorem dd_Law_law_1313 : decode code 1313 = .ok (.aload_n 0, 1) := by decide +kernel
theorem dd_Law_law_1314 : decode code 1314 = .ok (.iload_n 3, 1) := by decide +kernel
theorem dd_Law_law_1315 : decode code 1315 = .ok (.iconst 3, 1) := by decide +kernel
theorem dd_Law_law_1316 : decode code 1316 = .ok (.iadd, 1) := by decide +kernel
theorem dd_Law_law_1317 : decode code 1317 = .ok (.iaload, 1) := by decide +kernel
theorem dd_Law_law_1318 : decode code 1318 = .ok (.invokevirtual 160, 3) := by decide +kernel
theorem dd_Law_law_1321 : decode code 1321 = .ok (.aload_n 2, 1) := by decide +kernel
theorem dd_Law_law_1322 : decode code 1322 = .ok (.aload_n 0, 1) := by decide +kernel
theorem dd_Law_law_1323 : decode code 1323 = .ok (.iload_n 3, 1) := by decide +kernel
theorem dd_Law_law_1324 : decode code 1324 = .ok (.iconst 1, 1) := by decide +kernel
theorem dd_Law_law_1325 : decode code 1325 = .ok (.iadd, 1) := by decide +kernel
theorem dd_Law_law_1326 : decode code 1326 = .ok (.iaload, 1) := by decide +kernel
theorem dd_Law_law_1327 : decode code 1327 = .ok (.aload_n 0, 1) := by decide +kernel
theorem dd_Law_law_1328 : decode code 1328 = .ok (.iload_n 3, 1) := by decide +kernel
theorem dd_Law_law_1329 : decode code 1329 = .ok (.iconst 2, 1) := by decide +kernel
theorem dd_Law_law_1330 : decode code 1330 = .ok (.iadd, 1) := by decide +kernel
theorem dd_Law_law_1331 : decode code 1331 = .ok (.iaload, 1) := by decide +kernel
theorem dd_Law_law_1332 : decode code 1332 = .ok (.aload_n 0, 1) := by decide +kernel
theorem dd_Law_law_1333 : decode code 1333 = .ok (.iload_n 3, 1) := by decide +kernel
theorem dd_Law_law_1334 : decode code 1334 = .ok (.iconst 3, 1) := by decide +kernel
theorem dd_Law_law_1335 : decode code 1335 = .ok (.iadd, 1) := by decide +kernel
theorem dd_Law_law_1336 : decode code 1336 = .ok (.iaload, 1) := by decide +kernel
theorem dd_Law_law_1337 : decode code 1337 = .ok (.invokevirtual 163, 3) := by decide +kernel
theorem dd_Law_law_1340 : decode code 1340 = .ok (.if_icmp .eq 143, 3) := by decide +kernel
theorem dd_Law_law_1343 : decode code 1343 = .ok (.iconst 0, 1) := by decide +kernel
theorem dd_Law_law_1344 : decode code 1344 = .ok (.ireturn, 1) := by decide +kernel
theorem dd_Law_law_1268 : decode code 1268 = .ok (.aload_n 1, 1) := by decide +kernel
theorem dd_Law_law_1269 : decode code 1269 = .ok (.aload_n 0, 1) := by decide +kernel
theorem dd_Law_law_1270 : decode code 1270 = .ok (.iload_n 3, 1) := by decide +kernel
theorem dd_Law_law_1271 : decode code 1271 = .ok (.iconst 1, 1) := by decide +kernel
theorem dd_Law_law_1272 : decode code 1272 = .ok (.iadd, 1) := by decide +kernel
theorem dd_Law_law_1273 : decode code 1273 = .ok (.iaload, 1) := by decide +kernel
theorem dd_Law_law_1274 : decode code 1274 = .ok (.aload_n 0, 1) := by decide +kernel
theorem dd_Law_law_1275 : decode code 1275 = .ok (.iload_n 3, 1) := by decide +kernel
theorem dd_Law_law_1276 : decode code 1276 = .ok (.iconst 2, 1) := by decide +kernel
theorem dd_Law_law_1277 : decode code 1277 = .ok (.iadd, 1) := by decide +kernel
theorem dd_Law_law_1278 : decode code 1278 = .ok (.iaload, 1) := by decide +kernel
theorem dd_Law_law_1279 : decode code 1279 = .ok (.invokevirtual 155, 3) := by decide +kernel
theorem dd_Law_law_1282 : decode code 1282 = .ok (.aload_n 2, 1) := by decide +kernel
theorem dd_Law_law_1283 : decode code 1283 = .ok (.aload_n 0, 1) := by decide +kernel
theorem dd_Law_law_1284 : decode code 1284 = .ok (.iload_n 3, 1) := by decide +kernel
theorem dd_Law_law_1285 : decode code 1285 = .ok (.iconst 1, 1) := by decide +kernel
theorem dd_Law_law_1286 : decode code 1286 = .ok (.iadd, 1) := by decide +kernel
theorem dd_Law_law_1287 : decode code 1287 = .ok (.iaload, 1) := by decide +kernel
theorem dd_Law_law_1288 : decode code 1288 = .ok (.aload_n 0, 1) := by decide +kernel
theorem dd_Law_law_1289 : decode code 1289 = .ok (.iload_n 3, 1) := by decide +kernel
theorem dd_Law_law_1290 : decode code 1290 = .ok (.iconst 2, 1) := by decide +kernel
theorem dd_Law_law_1291 : decode code 1291 = .ok (.iadd, 1) := by decide +kernel
theorem dd_Law_law_1292 : decode code 1292 = .ok (.iaload, 1) := by decide +kernel
theorem dd_Law_law_1293 : decode code 1293 = .ok (.invokevirtual 159, 3) := by decide +kernel
theorem dd_Law_law_1296 : decode code 1296 = .ok (.lcmp, 1) := by decide +kernel
theorem dd_Law_law_1297 : decode code 1297 = .ok (.ifCond .eq 186, 3) := by decide +kernel
theorem dd_Law_law_1300 : decode code 1300 = .ok (.iconst 0, 1) := by decide +kernel
theorem dd_Law_law_1301 : decode code 1301 = .ok (.ireturn, 1) := by decide +kernel
theorem dd_Law_law_1245 : decode code 1245 = .ok (.aload_n 1, 1) := by decide +kernel
theorem dd_Law_law_1246 : decode code 1246 = .ok (.aload_n 0, 1) := by decide +kernel
theorem dd_Law_law_1247 : decode code 1247 = .ok (.iload_n 3, 1) := by decide +kernel
theorem dd_Law_law_1248 : decode code 1248 = .ok (.iconst 1, 1) := by decide +kernel
theorem dd_Law_law_1249 : decode code 1249 = .ok (.iadd, 1) := by decide +kernel
theorem dd_Law_law_1250 : decode code 1250 = .ok (.iaload, 1) := by decide +kernel
theorem dd_Law_law_1251 : decode code 1251 = .ok (.invokevirtual 151, 3) := by decide +kernel
theorem dd_Law_law_1254 : decode code 1254 = .ok (.aload_n 2, 1) := by decide +kernel
theorem dd_Law_law_1255 : decode code 1255 = .ok (.aload_n 0, 1) := by decide +kernel
theorem dd_Law_law_1256 : decode code 1256 = .ok (.iload_n 3, 1) := by decide +kernel
theorem dd_Law_law_1257 : decode code 1257 = .ok (.iconst 1, 1) := by decide +kernel
theorem dd_Law_law_1258 : decode code 1258 = .ok (.iadd, 1) := by decide +kernel
theorem dd_Law_law_1259 : decode code 1259 = .ok (.iaload, 1) := by decide +kernel
theorem dd_Law_law_1260 : decode code 1260 = .ok (.invokevirtual 154, 3) := by decide +kernel
theorem dd_Law_law_1263 : decode code 1263 = .ok (.if_icmp .eq 220, 3) := by decide +kernel
theorem dd_Law_law_1266 : decode code 1266 = .ok (.iconst 0, 1) := by decide +kernel
theorem dd_Law_law_1267 : decode code 1267 = .ok (.ireturn, 1) := by decide +kernel
theorem dd_Law_law_1232 : decode code 1232 = .ok (.aload_n 1, 1) := by decide +kernel
theorem dd_Law_law_1233 : decode code 1233 = .ok (.invokevirtual 147, 3) := by decide +kernel
theorem dd_Law_law_1236 : decode code 1236 = .ok (.aload_n 2, 1) := by decide +kernel
theorem dd_Law_law_1237 : decode code 1237 = .ok (.invokevirtual 150, 3) := by decide +kernel
theorem dd_Law_law_1240 : decode code 1240 = .ok (.if_icmp .eq 243, 3) := by decide +kernel
theorem dd_Law_law_1243 : decode code 1243 = .ok (.iconst 0, 1) := by decide +kernel
theorem dd_Law_law_1244 : decode code 1244 = .ok (.ireturn, 1) := by decide +kernel
theorem dd_Law_law_1219 : decode code 1219 = .ok (.aload_n 1, 1) := by decide +kernel
theorem dd_Law_law_1220 : decode code 1220 = .ok (.invokevirtual 143, 3) := by decide +kernel
theorem dd_Law_law_1223 : decode code 1223 = .ok (.aload_n 2, 1) := by decide +kernel
theorem dd_Law_law_1224 : decode code 1224 = .ok (.invokevirtual 146, 3) := by decide +kernel
theorem dd_Law_law_1227 : decode code 1227 = .ok (.if_icmp .eq 256, 3) := by decide +kernel
theorem dd_Law_law_1230 : decode code 1230 = .ok (.iconst 0, 1) := by decide +kernel
theorem dd_Law_law_1231 : decode code 1231 = .ok (.ireturn, 1) := by decide +kernel
theorem dd_Law_law_1186 : decode code 1186 = .ok (.aload_n 1, 1) := by decide +kernel
theorem dd_Law_law_1187 : decode code 1187 = .ok (.aload_n 0, 1) := by decide +kernel
theorem dd_Law_law_1188 : decode code 1188 = .ok (.iload_n 3, 1) := by decide +kernel
theorem dd_Law_law_1189 : decode code 1189 = .ok (.iconst 1, 1) := by decide +kernel
theorem dd_Law_law_1190 : decode code 1190 = .ok (.iadd, 1) := by decide +kernel
theorem dd_Law_law_1191 : decode code 1191 = .ok (.iaload, 1) := by decide +kernel
theorem dd_Law_law_1192 : decode code 1192 = .ok (.aload_n 0, 1) := by decide +kernel
theorem dd_Law_law_1193 : decode code 1193 = .ok (.iload_n 3, 1) := by decide +kernel
theorem dd_Law_law_1194 : decode code 1194 = .ok (.iconst 2, 1) := by decide +kernel
theorem dd_Law_law_1195 : decode code 1195 = .ok (.iadd, 1) := by decide +kernel
theorem dd_Law_law_1196 : decode code 1196 = .ok (.iaload, 1) := by decide +kernel
theorem dd_Law_law_1197 : decode code 1197 = .ok (.invokevirtual 139, 3) := by decide +kernel
theorem dd_Law_law_1200 : decode code 1200 = .ok (.aload_n 2, 1) := by decide +kernel
theorem dd_Law_law_1201 : decode code 1201 = .ok (.aload_n 0, 1) := by decide +kernel
theorem dd_Law_law_1202 : decode code 1202 = .ok (.iload_n 3, 1) := by decide +kernel
theorem dd_Law_law_1203 : decode code 1203 = .ok (.iconst 1, 1) := by decide +kernel
theorem dd_Law_law_1204 : decode code 1204 = .ok (.iadd, 1) := by decide +kernel
theorem dd_Law_law_1205 : decode code 1205 = .ok (.iaload, 1) := by decide +kernel
theorem dd_Law_law_1206 : decode code 1206 = .ok (.aload_n 0, 1) := by decide +kernel
theorem dd_Law_law_1207 : decode code 1207 = .ok (.iload_n 3, 1) := by decide +kernel
theorem dd_Law_law_1208 : decode code 1208 = .ok (.iconst 2, 1) := by decide +kernel
theorem dd_Law_law_1209 : decode code 1209 = .ok (.iadd, 1) := by decide +kernel
theorem dd_Law_law_1210 : decode code 1210 = .ok (.iaload, 1) := by decide +kernel
theorem dd_Law_law_1211 : decode code 1211 = .ok (.invokevirtual 142, 3) := by decide +kernel
theorem dd_Law_law_1214 : decode code 1214 = .ok (.if_icmp .eq 269, 3) := by decide +kernel
theorem dd_Law_law_1217 : decode code 1217 = .ok (.iconst 0, 1) := by decide +kernel
theorem dd_Law_law_1218 : decode code 1218 = .ok (.ireturn, 1) := by decide +kernel
theorem dd_Law_law_1143 : decode code 1143 = .ok (.aload_n 1, 1) := by decide +kernel
theorem dd_Law_law_1144 : decode code 1144 = .ok (.aload_n 0, 1) := by decide +kernel
theorem dd_Law_law_1145 : decode code 1145 = .ok (.iload_n 3, 1) := by decide +kernel
theorem dd_Law_law_1146 : decode code 1146 = .ok (.iconst 1, 1) := by decide +kernel
theorem dd_Law_law_1147 : decode code 1147 = .ok (.iadd, 1) := by decide +kernel
theorem dd_Law_law_1148 : decode code 1148 = .ok (.iaload, 1) := by decide +kernel
theorem dd_Law_law_1149 : decode code 1149 = .ok (.aload_n 0, 1) := by decide +kernel
theorem dd_Law_law_1150 : decode code 1150 = .ok (.iload_n 3, 1) := by decide +kernel
theorem dd_Law_law_1151 : decode code 1151 = .ok (.iconst 2, 1) := by decide +kernel
theorem dd_Law_law_1152 : decode code 1152 = .ok (.iadd, 1) := by decide +kernel
theorem dd_Law_law_1153 : decode code 1153 = .ok (.iaload, 1) := by decide +kernel
theorem dd_Law_law_1154 : decode code 1154 = .ok (.aload_n 0, 1) := by decide +kernel
theorem dd_Law_law_1155 : decode code 1155 = .ok (.iload_n 3, 1) := by decide +kernel
theorem dd_Law_law_1156 : decode code 1156 = .ok (.iconst 3, 1) := by decide +kernel
theorem dd_Law_law_1157 : decode code 1157 = .ok (.iadd, 1) := by decide +kernel
theorem dd_Law_law_1158 : decode code 1158 = .ok (.iaload, 1) := by decide +kernel
theorem dd_Law_law_1159 : decode code 1159 = .ok (.invokevirtual 135, 3) := by decide +kernel
theorem dd_Law_law_1162 : decode code 1162 = .ok (.aload_n 2, 1) := by decide +kernel
theorem dd_Law_law_1163 : decode code 1163 = .ok (.aload_n 0, 1) := by decide +kernel
theorem dd_Law_law_1164 : decode code 1164 = .ok (.iload_n 3, 1) := by decide +kernel
theorem dd_Law_law_1165 : decode code 1165 = .ok (.iconst 1, 1) := by decide +kernel
theorem dd_Law_law_1166 : decode code 1166 = .ok (.iadd, 1) := by decide +kernel
theorem dd_Law_law_1167 : decode code 1167 = .ok (.iaload, 1) := by decide +kernel
theorem dd_Law_law_1168 : decode code 1168 = .ok (.aload_n 0, 1) := by decide +kernel
theorem dd_Law_law_1169 : decode code 1169 = .ok (.iload_n 3, 1) := by decide +kernel
theorem dd_Law_law_1170 : decode code 1170 = .ok (.iconst 2, 1) := by decide +kernel
theorem dd_Law_law_1171 : decode code 1171 = .ok (.iadd, 1) := by decide +kernel
theorem dd_Law_law_1172 : decode code 1172 = .ok (.iaload, 1) := by decide +kernel
theorem dd_Law_law_1173 : decode code 1173 = .ok (.aload_n 0, 1) := by decide +kernel
theorem dd_Law_law_1174 : decode code 1174 = .ok (.iload_n 3, 1) := by decide +kernel
theorem dd_Law_law_1175 : decode code 1175 = .ok (.iconst 3, 1) := by decide +kernel
theorem dd_Law_law_1176 : decode code 1176 = .ok (.iadd, 1) := by decide +kernel
theorem dd_Law_law_1177 : decode code 1177 = .ok (.iaload, 1) := by decide +kernel
theorem dd_Law_law_1178 : decode code 1178 = .ok (.invokevirtual 138, 3) := by decide +kernel
theorem dd_Law_law_1181 : decode code 1181 = .ok (.if_icmp .eq 302, 3) := by decide +kernel
theorem dd_Law_law_1184 : decode code 1184 = .ok (.iconst 0, 1) := by decide +kernel
theorem dd_Law_law_1185 : decode code 1185 = .ok (.ireturn, 1) := by decide +kernel
theorem dd_Law_law_1130 : decode code 1130 = .ok (.aload_n 1, 1) := by decide +kernel
theorem dd_Law_law_1131 : decode code 1131 = .ok (.invokevirtual 131, 3) := by decide +kernel
theorem dd_Law_law_1134 : decode code 1134 = .ok (.aload_n 2, 1) := by decide +kernel
theorem dd_Law_law_1135 : decode code 1135 = .ok (.invokevirtual 134, 3) := by decide +kernel
theorem dd_Law_law_1138 : decode code 1138 = .ok (.if_icmp .eq 345, 3) := by decide +kernel
theorem dd_Law_law_1141 : decode code 1141 = .ok (.iconst 0, 1) := by decide +kernel
theorem dd_Law_law_1142 : decode code 1142 = .ok (.ireturn, 1) := by decide +kernel
theorem dd_Law_law_1097 : decode code 1097 = .ok (.aload_n 1, 1) := by decide +kernel
theorem dd_Law_law_1098 : decode code 1098 = .ok (.aload_n 0, 1) := by decide +kernel
theorem dd_Law_law_1099 : decode code 1099 = .ok (.iload_n 3, 1) := by decide +kernel
theorem dd_Law_law_1100 : decode code 1100 = .ok (.iconst 1, 1) := by decide +kernel
theorem dd_Law_law_1101 : decode code 1101 = .ok (.iadd, 1) := by decide +kernel
theorem dd_Law_law_1102 : decode code 1102 = .ok (.iaload, 1) := by decide +kernel
theorem dd_Law_law_1103 : decode code 1103 = .ok (.aload_n 0, 1) := by decide +kernel
theorem dd_Law_law_1104 : decode code 1104 = .ok (.iload_n 3, 1) := by decide +kernel
theorem dd_Law_law_1105 : decode code 1105 = .ok (.iconst 2, 1) := by decide +kernel
theorem dd_Law_law_1106 : decode code 1106 = .ok (.iadd, 1) := by decide +kernel
theorem dd_Law_law_1107 : decode code 1107 = .ok (.iaload, 1) := by decide +kernel
theorem dd_Law_law_1108 : decode code 1108 = .ok (.invokevirtual 127, 3) := by decide +kernel
theorem dd_Law_law_1111 : decode code 1111 = .ok (.aload_n 2, 1) := by decide +kernel
theorem dd_Law_law_1112 : decode code 1112 = .ok (.aload_n 0, 1) := by decide +kernel
theorem dd_Law_law_1113 : decode code 1113 = .ok (.iload_n 3, 1) := by decide +kernel
theorem dd_Law_law_1114 : decode code 1114 = .ok (.iconst 1, 1) := by decide +kernel
theorem dd_Law_law_1115 : decode code 1115 = .ok (.iadd, 1) := by decide +kernel
theorem dd_Law_law_1116 : decode code 1116 = .ok (.iaload, 1) := by decide +kernel
theorem dd_Law_law_1117 : decode code 1117 = .ok (.aload_n 0, 1) := by decide +kernel
theorem dd_Law_law_1118 : decode code 1118 = .ok (.iload_n 3, 1) := by decide +kernel
theorem dd_Law_law_1119 : decode code 1119 = .ok (.iconst 2, 1) := by decide +kernel
theorem dd_Law_law_1120 : decode code 1120 = .ok (.iadd, 1) := by decide +kernel
theorem dd_Law_law_1121 : decode code 1121 = .ok (.iaload, 1) := by decide +kernel
theorem dd_Law_law_1122 : decode code 1122 = .ok (.invokevirtual 130, 3) := by decide +kernel
theorem dd_Law_law_1125 : decode code 1125 = .ok (.if_icmp .eq 358, 3) := by decide +kernel
theorem dd_Law_law_1128 : decode code 1128 = .ok (.iconst 0, 1) := by decide +kernel
theorem dd_Law_law_1129 : decode code 1129 = .ok (.ireturn, 1) := by decide +kernel
theorem dd_Law_law_1064 : decode code 1064 = .ok (.aload_n 1, 1) := by decide +kernel
theorem dd_Law_law_1065 : decode code 1065 = .ok (.aload_n 0, 1) := by decide +kernel
theorem dd_Law_law_1066 : decode code 1066 = .ok (.iload_n 3, 1) := by decide +kernel
theorem dd_Law_law_1067 : decode code 1067 = .ok (.iconst 1, 1) := by decide +kernel
theorem dd_Law_law_1068 : decode code 1068 = .ok (.iadd, 1) := by decide +kernel
theorem dd_Law_law_1069 : decode code 1069 = .ok (.iaload, 1) := by decide +kernel
theorem dd_Law_law_1070 : decode code 1070 = .ok (.aload_n 0, 1) := by decide +kernel
theorem dd_Law_law_1071 : decode code 1071 = .ok (.iload_n 3, 1) := by decide +kernel
theorem dd_Law_law_1072 : decode code 1072 = .ok (.iconst 2, 1) := by decide +kernel
theorem dd_Law_law_1073 : decode code 1073 = .ok (.iadd, 1) := by decide +kernel
theorem dd_Law_law_1074 : decode code 1074 = .ok (.iaload, 1) := by decide +kernel
theorem dd_Law_law_1075 : decode code 1075 = .ok (.invokevirtual 123, 3) := by decide +kernel
theorem dd_Law_law_1078 : decode code 1078 = .ok (.aload_n 2, 1) := by decide +kernel
theorem dd_Law_law_1079 : decode code 1079 = .ok (.aload_n 0, 1) := by decide +kernel
theorem dd_Law_law_1080 : decode code 1080 = .ok (.iload_n 3, 1) := by decide +kernel
theorem dd_Law_law_1081 : decode code 1081 = .ok (.iconst 1, 1) := by decide +kernel
theorem dd_Law_law_1082 : decode code 1082 = .ok (.iadd, 1) := by decide +kernel
theorem dd_Law_law_1083 : decode code 1083 = .ok (.iaload, 1) := by decide +kernel
theorem dd_Law_law_1084 : decode code 1084 = .ok (.aload_n 0, 1) := by decide +kernel
theorem dd_Law_law_1085 : decode code 1085 = .ok (.iload_n 3, 1) := by decide +kernel
theorem dd_Law_law_1086 : decode code 1086 = .ok (.iconst 2, 1) := by decide +kernel
theorem dd_Law_law_1087 : decode code 1087 = .ok (.iadd, 1) := by decide +kernel
theorem dd_Law_law_1088 : decode code 1088 = .ok (.iaload, 1) := by decide +kernel
theorem dd_Law_law_1089 : decode code 1089 = .ok (.invokevirtual 126, 3) := by decide +kernel
theorem dd_Law_law_1092 : decode code 1092 = .ok (.if_icmp .eq 391, 3) := by decide +kernel
theorem dd_Law_law_1095 : decode code 1095 = .ok (.iconst 0, 1) := by decide +kernel
theorem dd_Law_law_1096 : decode code 1096 = .ok (.ireturn, 1) := by decide +kernel
theorem dd_Law_law_1021 : decode code 1021 = .ok (.aload_n 1, 1) := by decide +kernel
theorem dd_Law_law_1022 : decode code 1022 = .ok (.aload_n 0, 1) := by decide +kernel
theorem dd_Law_law_1023 : decode code 1023 = .ok (.iload_n 3, 1) := by decide +kernel
theorem dd_Law_law_1024 : decode code 1024 = .ok (.iconst 1, 1) := by decide +kernel
theorem dd_Law_law_1025 : decode code 1025 = .ok (.iadd, 1) := by decide +kernel
theorem dd_Law_law_1026 : decode code 1026 = .ok (.iaload, 1) := by decide +kernel
theorem dd_Law_law_1027 : decode code 1027 = .ok (.aload_n 0, 1) := by decide +kernel
theorem dd_Law_law_1028 : decode code 1028 = .ok (.iload_n 3, 1) := by decide +kernel
theorem dd_Law_law_1029 : decode code 1029 = .ok (.iconst 2, 1) := by decide +kernel
theorem dd_Law_law_1030 : decode code 1030 = .ok (.iadd, 1) := by decide +kernel
theorem dd_Law_law_1031 : decode code 1031 = .ok (.iaload, 1) := by decide +kernel
theorem dd_Law_law_1032 : decode code 1032 = .ok (.aload_n 0, 1) := by decide +kernel
theorem dd_Law_law_1033 : decode code 1033 = .ok (.iload_n 3, 1) := by decide +kernel
theorem dd_Law_law_1034 : decode code 1034 = .ok (.iconst 3, 1) := by decide +kernel
theorem dd_Law_law_1035 : decode code 1035 = .ok (.iadd, 1) := by decide +kernel
theorem dd_Law_law_1036 : decode code 1036 = .ok (.iaload, 1) := by decide +kernel
theorem dd_Law_law_1037 : decode code 1037 = .ok (.invokevirtual 119, 3) := by decide +kernel
theorem dd_Law_law_1040 : decode code 1040 = .ok (.aload_n 2, 1) := by decide +kernel
theorem dd_Law_law_1041 : decode code 1041 = .ok (.aload_n 0, 1) := by decide +kernel
theorem dd_Law_law_1042 : decode code 1042 = .ok (.iload_n 3, 1) := by decide +kernel
theorem dd_Law_law_1043 : decode code 1043 = .ok (.iconst 1, 1) := by decide +kernel
theorem dd_Law_law_1044 : decode code 1044 = .ok (.iadd, 1) := by decide +kernel
theorem dd_Law_law_1045 : decode code 1045 = .ok (.iaload, 1) := by decide +kernel
theorem dd_Law_law_1046 : decode code 1046 = .ok (.aload_n 0, 1) := by decide +kernel
theorem dd_Law_law_1047 : decode code 1047 = .ok (.iload_n 3, 1) := by decide +kernel
theorem dd_Law_law_1048 : decode code 1048 = .ok (.iconst 2, 1) := by decide +kernel
theorem dd_Law_law_1049 : decode code 1049 = .ok (.iadd, 1) := by decide +kernel
theorem dd_Law_law_1050 : decode code 1050 = .ok (.iaload, 1) := by decide +kernel
theorem dd_Law_law_1051 : decode code 1051 = .ok (.aload_n 0, 1) := by decide +kernel
theorem dd_Law_law_1052 : decode code 1052 = .ok (.iload_n 3, 1) := by decide +kernel
theorem dd_Law_law_1053 : decode code 1053 = .ok (.iconst 3, 1) := by decide +kernel
theorem dd_Law_law_1054 : decode code 1054 = .ok (.iadd, 1) := by decide +kernel
theorem dd_Law_law_1055 : decode code 1055 = .ok (.iaload, 1) := by decide +kernel
theorem dd_Law_law_1056 : decode code 1056 = .ok (.invokevirtual 122, 3) := by decide +kernel
theorem dd_Law_law_1059 : decode code 1059 = .ok (.if_icmp .eq 424, 3) := by decide +kernel
theorem dd_Law_law_1062 : decode code 1062 = .ok (.iconst 0, 1) := by decide +kernel
theorem dd_Law_law_1063 : decode code 1063 = .ok (.ireturn, 1) := by decide +kernel
theorem dd_Law_law_968 : decode code 968 = .ok (.aload_n 1, 1) := by decide +kernel
theorem dd_Law_law_969 : decode code 969 = .ok (.aload_n 0, 1) := by decide +kernel
theorem dd_Law_law_970 : decode code 970 = .ok (.iload_n 3, 1) := by decide +kernel
theorem dd_Law_law_971 : decode code 971 = .ok (.iconst 1, 1) := by decide +kernel
theorem dd_Law_law_972 : decode code 972 = .ok (.iadd, 1) := by decide +kernel
theorem dd_Law_law_973 : decode code 973 = .ok (.iaload, 1) := by decide +kernel
theorem dd_Law_law_974 : decode code 974 = .ok (.aload_n 0, 1) := by decide +kernel
theorem dd_Law_law_975 : decode code 975 = .ok (.iload_n 3, 1) := by decide +kernel
theorem dd_Law_law_976 : decode code 976 = .ok (.iconst 2, 1) := by decide +kernel
theorem dd_Law_law_977 : decode code 977 = .ok (.iadd, 1) := by decide +kernel
theorem dd_Law_law_978 : decode code 978 = .ok (.iaload, 1) := by decide +kernel
theorem dd_Law_law_979 : decode code 979 = .ok (.aload_n 0, 1) := by decide +kernel
theorem dd_Law_law_980 : decode code 980 = .ok (.iload_n 3, 1) := by decide +kernel
theorem dd_Law_law_981 : decode code 981 = .ok (.iconst 3, 1) := by decide +kernel
theorem dd_Law_law_982 : decode code 982 = .ok (.iadd, 1) := by decide +kernel
theorem dd_Law_law_983 : decode code 983 = .ok (.iaload, 1) := by decide +kernel
theorem dd_Law_law_984 : decode code 984 = .ok (.aload_n 0, 1) := by decide +kernel
theorem dd_Law_law_985 : decode code 985 = .ok (.iload_n 3, 1) := by decide +kernel
theorem dd_Law_law_986 : decode code 986 = .ok (.iconst 4, 1) := by decide +kernel
theorem dd_Law_law_987 : decode code 987 = .ok (.iadd, 1) := by decide +kernel
theorem dd_Law_law_988 : decode code 988 = .ok (.iaload, 1) := by decide +kernel
theorem dd_Law_law_989 : decode code 989 = .ok (.invokevirtual 115, 3) := by decide +kernel
theorem dd_Law_law_992 : decode code 992 = .ok (.aload_n 2, 1) := by decide +kernel
theorem dd_Law_law_993 : decode code 993 = .ok (.aload_n 0, 1) := by decide +kernel
theorem dd_Law_law_994 : decode code 994 = .ok (.iload_n 3, 1) := by decide +kernel
theorem dd_Law_law_995 : decode code 995 = .ok (.iconst 1, 1) := by decide +kernel
theorem dd_Law_law_996 : decode code 996 = .ok (.iadd, 1) := by decide +kernel
theorem dd_Law_law_997 : decode code 997 = .ok (.iaload, 1) := by decide +kernel
theorem dd_Law_law_998 : decode code 998 = .ok (.aload_n 0, 1) := by decide +kernel
theorem dd_Law_law_999 : decode code 999 = .ok (.iload_n 3, 1) := by decide +kernel
theorem dd_Law_law_1000 : decode code 1000 = .ok (.iconst 2, 1) := by decide +kernel
theorem dd_Law_law_1001 : decode code 1001 = .ok (.iadd, 1) := by decide +kernel
theorem dd_Law_law_1002 : decode code 1002 = .ok (.iaload, 1) := by decide +kernel
theorem dd_Law_law_1003 : decode code 1003 = .ok (.aload_n 0, 1) := by decide +kernel
theorem dd_Law_law_1004 : decode code 1004 = .ok (.iload_n 3, 1) := by decide +kernel
theorem dd_Law_law_1005 : decode code 1005 = .ok (.iconst 3, 1) := by decide +kernel
theorem dd_Law_law_1006 : decode code 1006 = .ok (.iadd, 1) := by decide +kernel
theorem dd_Law_law_1007 : decode code 1007 = .ok (.iaload, 1) := by decide +kernel
theorem dd_Law_law_1008 : decode code 1008 = .ok (.aload_n 0, 1) := by decide +kernel
theorem dd_Law_law_1009 : decode code 1009 = .ok (.iload_n 3, 1) := by decide +kernel
theorem dd_Law_law_1010 : decode code 1010 = .ok (.iconst 4, 1) := by decide +kernel
theorem dd_Law_law_1011 : decode code 1011 = .ok (.iadd, 1) := by decide +kernel
theorem dd_Law_law_1012 : decode code 1012 = .ok (.iaload, 1) := by decide +kernel
theorem dd_Law_law_1013 : decode code 1013 = .ok (.invokevirtual 118, 3) := by decide +kernel
theorem dd_Law_law_1016 : decode code 1016 = .ok (.if_icmp .eq 467, 3) := by decide +kernel
theorem dd_Law_law_1019 : decode code 1019 = .ok (.iconst 0, 1) := by decide +kernel
theorem dd_Law_law_1020 : decode code 1020 = .ok (.ireturn, 1) := by decide +kernel
theorem dd_Law_law_925 : decode code 925 = .ok (.aload_n 1, 1) := by decide +kernel
theorem dd_Law_law_926 : decode code 926 = .ok (.aload_n 0, 1) := by decide +kernel
theorem dd_Law_law_927 : decode code 927 = .ok (.iload_n 3, 1) := by decide +kernel
theorem dd_Law_law_928 : decode code 928 = .ok (.iconst 1, 1) := by decide +kernel
theorem dd_Law_law_929 : decode code 929 = .ok (.iadd, 1) := by decide +kernel
theorem dd_Law_law_930 : decode code 930 = .ok (.iaload, 1) := by decide +kernel
theorem dd_Law_law_931 : decode code 931 = .ok (.aload_n 0, 1) := by decide +kernel
theorem dd_Law_law_932 : decode code 932 = .ok (.iload_n 3, 1) := by decide +kernel
theorem dd_Law_law_933 : decode code 933 = .ok (.iconst 2, 1) := by decide +kernel
theorem dd_Law_law_934 : decode code 934 = .ok (.iadd, 1) := by decide +kernel
theorem dd_Law_law_935 : decode code 935 = .ok (.iaload, 1) := by decide +kernel
theorem dd_Law_law_936 : decode code 936 = .ok (.aload_n 0, 1) := by decide +kernel
theorem dd_Law_law_937 : decode code 937 = .ok (.iload_n 3, 1) := by decide +kernel
theorem dd_Law_law_938 : decode code 938 = .ok (.iconst 3, 1) := by decide +kernel
theorem dd_Law_law_939 : decode code 939 = .ok (.iadd, 1) := by decide +kernel
theorem dd_Law_law_940 : decode code 940 = .ok (.iaload, 1) := by decide +kernel
theorem dd_Law_law_941 : decode code 941 = .ok (.invokevirtual 111, 3) := by decide +kernel
theorem dd_Law_law_944 : decode code 944 = .ok (.aload_n 2, 1) := by decide +kernel
theorem dd_Law_law_945 : decode code 945 = .ok (.aload_n 0, 1) := by decide +kernel
theorem dd_Law_law_946 : decode code 946 = .ok (.iload_n 3, 1) := by decide +kernel
theorem dd_Law_law_947 : decode code 947 = .ok (.iconst 1, 1) := by decide +kernel
theorem dd_Law_law_948 : decode code 948 = .ok (.iadd, 1) := by decide +kernel
theorem dd_Law_law_949 : decode code 949 = .ok (.iaload, 1) := by decide +kernel
theorem dd_Law_law_950 : decode code 950 = .ok (.aload_n 0, 1) := by decide +kernel
theorem dd_Law_law_951 : decode code 951 = .ok (.iload_n 3, 1) := by decide +kernel
theorem dd_Law_law_952 : decode code 952 = .ok (.iconst 2, 1) := by decide +kernel
theorem dd_Law_law_953 : decode code 953 = .ok (.iadd, 1) := by decide +kernel
theorem dd_Law_law_954 : decode code 954 = .ok (.iaload, 1) := by decide +kernel
theorem dd_Law_law_955 : decode code 955 = .ok (.aload_n 0, 1) := by decide +kernel
theorem dd_Law_law_956 : decode code 956 = .ok (.iload_n 3, 1) := by decide +kernel
theorem dd_Law_law_957 : decode code 957 = .ok (.iconst 3, 1) := by decide +kernel
theorem dd_Law_law_958 : decode code 958 = .ok (.iadd, 1) := by decide +kernel
theorem dd_Law_law_959 : decode code 959 = .ok (.iaload, 1) := by decide +kernel
theorem dd_Law_law_960 : decode code 960 = .ok (.invokevirtual 114, 3) := by decide +kernel
theorem dd_Law_law_963 : decode code 963 = .ok (.if_icmp .eq 520, 3) := by decide +kernel
theorem dd_Law_law_966 : decode code 966 = .ok (.iconst 0, 1) := by decide +kernel
theorem dd_Law_law_967 : decode code 967 = .ok (.ireturn, 1) := by decide +kernel
theorem dd_Law_law_882 : decode code 882 = .ok (.aload_n 1, 1) := by decide +kernel
theorem dd_Law_law_883 : decode code 883 = .ok (.aload_n 0, 1) := by decide +kernel
theorem dd_Law_law_884 : decode code 884 = .ok (.iload_n 3, 1) := by decide +kernel
theorem dd_Law_law_885 : decode code 885 = .ok (.iconst 1, 1) := by decide +kernel
theorem dd_Law_law_886 : decode code 886 = .ok (.iadd, 1) := by decide +kernel
theorem dd_Law_law_887 : decode code 887 = .ok (.iaload, 1) := by decide +kernel
theorem dd_Law_law_888 : decode code 888 = .ok (.aload_n 0, 1) := by decide +kernel
theorem dd_Law_law_889 : decode code 889 = .ok (.iload_n 3, 1) := by decide +kernel
theorem dd_Law_law_890 : decode code 890 = .ok (.iconst 2, 1) := by decide +kernel
theorem dd_Law_law_891 : decode code 891 = .ok (.iadd, 1) := by decide +kernel
theorem dd_Law_law_892 : decode code 892 = .ok (.iaload, 1) := by decide +kernel
theorem dd_Law_law_893 : decode code 893 = .ok (.aload_n 0, 1) := by decide +kernel
theorem dd_Law_law_894 : decode code 894 = .ok (.iload_n 3, 1) := by decide +kernel
theorem dd_Law_law_895 : decode code 895 = .ok (.iconst 3, 1) := by decide +kernel
theorem dd_Law_law_896 : decode code 896 = .ok (.iadd, 1) := by decide +kernel
theorem dd_Law_law_897 : decode code 897 = .ok (.iaload, 1) := by decide +kernel
theorem dd_Law_law_898 : decode code 898 = .ok (.invokevirtual 107, 3) := by decide +kernel
theorem dd_Law_law_901 : decode code 901 = .ok (.aload_n 2, 1) := by decide +kernel
theorem dd_Law_law_902 : decode code 902 = .ok (.aload_n 0, 1) := by decide +kernel
theorem dd_Law_law_903 : decode code 903 = .ok (.iload_n 3, 1) := by decide +kernel
theorem dd_Law_law_904 : decode code 904 = .ok (.iconst 1, 1) := by decide +kernel
theorem dd_Law_law_905 : decode code 905 = .ok (.iadd, 1) := by decide +kernel
theorem dd_Law_law_906 : decode code 906 = .ok (.iaload, 1) := by decide +kernel
theorem dd_Law_law_907 : decode code 907 = .ok (.aload_n 0, 1) := by decide +kernel
theorem dd_Law_law_908 : decode code 908 = .ok (.iload_n 3, 1) := by decide +kernel
theorem dd_Law_law_909 : decode code 909 = .ok (.iconst 2, 1) := by decide +kernel
theorem dd_Law_law_910 : decode code 910 = .ok (.iadd, 1) := by decide +kernel
theorem dd_Law_law_911 : decode code 911 = .ok (.iaload, 1) := by decide +kernel
theorem dd_Law_law_912 : decode code 912 = .ok (.aload_n 0, 1) := by decide +kernel
theorem dd_Law_law_913 : decode code 913 = .ok (.iload_n 3, 1) := by decide +kernel
theorem dd_Law_law_914 : decode code 914 = .ok (.iconst 3, 1) := by decide +kernel
theorem dd_Law_law_915 : decode code 915 = .ok (.iadd, 1) := by decide +kernel
theorem dd_Law_law_916 : decode code 916 = .ok (.iaload, 1) := by decide +kernel
theorem dd_Law_law_917 : decode code 917 = .ok (.invokevirtual 110, 3) := by decide +kernel
theorem dd_Law_law_920 : decode code 920 = .ok (.if_icmp .eq 563, 3) := by decide +kernel
theorem dd_Law_law_923 : decode code 923 = .ok (.iconst 0, 1) := by decide +kernel
theorem dd_Law_law_924 : decode code 924 = .ok (.ireturn, 1) := by decide +kernel
theorem dd_Law_law_829 : decode code 829 = .ok (.aload_n 1, 1) := by decide +kernel
theorem dd_Law_law_830 : decode code 830 = .ok (.aload_n 0, 1) := by decide +kernel
theorem dd_Law_law_831 : decode code 831 = .ok (.iload_n 3, 1) := by decide +kernel
theorem dd_Law_law_832 : decode code 832 = .ok (.iconst 1, 1) := by decide +kernel
theorem dd_Law_law_833 : decode code 833 = .ok (.iadd, 1) := by decide +kernel
theorem dd_Law_law_834 : decode code 834 = .ok (.iaload, 1) := by decide +kernel
theorem dd_Law_law_835 : decode code 835 = .ok (.aload_n 0, 1) := by decide +kernel
theorem dd_Law_law_836 : decode code 836 = .ok (.iload_n 3, 1) := by decide +kernel
theorem dd_Law_law_837 : decode code 837 = .ok (.iconst 2, 1) := by decide +kernel
theorem dd_Law_law_838 : decode code 838 = .ok (.iadd, 1) := by decide +kernel
theorem dd_Law_law_839 : decode code 839 = .ok (.iaload, 1) := by decide +kernel
theorem dd_Law_law_840 : decode code 840 = .ok (.aload_n 0, 1) := by decide +kernel
theorem dd_Law_law_841 : decode code 841 = .ok (.iload_n 3, 1) := by decide +kernel
theorem dd_Law_law_842 : decode code 842 = .ok (.iconst 3, 1) := by decide +kernel
theorem dd_Law_law_843 : decode code 843 = .ok (.iadd, 1) := by decide +kernel
theorem dd_Law_law_844 : decode code 844 = .ok (.iaload, 1) := by decide +kernel
theorem dd_Law_law_845 : decode code 845 = .ok (.aload_n 0, 1) := by decide +kernel
theorem dd_Law_law_846 : decode code 846 = .ok (.iload_n 3, 1) := by decide +kernel
theorem dd_Law_law_847 : decode code 847 = .ok (.iconst 4, 1) := by decide +kernel
theorem dd_Law_law_848 : decode code 848 = .ok (.iadd, 1) := by decide +kernel
theorem dd_Law_law_849 : decode code 849 = .ok (.iaload, 1) := by decide +kernel
theorem dd_Law_law_850 : decode code 850 = .ok (.invokevirtual 103, 3) := by decide +kernel
theorem dd_Law_law_853 : decode code 853 = .ok (.aload_n 2, 1) := by decide +kernel
theorem dd_Law_law_854 : decode code 854 = .ok (.aload_n 0, 1) := by decide +kernel
theorem dd_Law_law_855 : decode code 855 = .ok (.iload_n 3, 1) := by decide +kernel
theorem dd_Law_law_856 : decode code 856 = .ok (.iconst 1, 1) := by decide +kernel
theorem dd_Law_law_857 : decode code 857 = .ok (.iadd, 1) := by decide +kernel
theorem dd_Law_law_858 : decode code 858 = .ok (.iaload, 1) := by decide +kernel
theorem dd_Law_law_859 : decode code 859 = .ok (.aload_n 0, 1) := by decide +kernel
theorem dd_Law_law_860 : decode code 860 = .ok (.iload_n 3, 1) := by decide +kernel
theorem dd_Law_law_861 : decode code 861 = .ok (.iconst 2, 1) := by decide +kernel
theorem dd_Law_law_862 : decode code 862 = .ok (.iadd, 1) := by decide +kernel
theorem dd_Law_law_863 : decode code 863 = .ok (.iaload, 1) := by decide +kernel
theorem dd_Law_law_864 : decode code 864 = .ok (.aload_n 0, 1) := by decide +kernel
theorem dd_Law_law_865 : decode code 865 = .ok (.iload_n 3, 1) := by decide +kernel
theorem dd_Law_law_866 : decode code 866 = .ok (.iconst 3, 1) := by decide +kernel
theorem dd_Law_law_867 : decode code 867 = .ok (.iadd, 1) := by decide +kernel
theorem dd_Law_law_868 : decode code 868 = .ok (.iaload, 1) := by decide +kernel
theorem dd_Law_law_869 : decode code 869 = .ok (.aload_n 0, 1) := by decide +kernel
theorem dd_Law_law_870 : decode code 870 = .ok (.iload_n 3, 1) := by decide +kernel
theorem dd_Law_law_871 : decode code 871 = .ok (.iconst 4, 1) := by decide +kernel
theorem dd_Law_law_872 : decode code 872 = .ok (.iadd, 1) := by decide +kernel
theorem dd_Law_law_873 : decode code 873 = .ok (.iaload, 1) := by decide +kernel
theorem dd_Law_law_874 : decode code 874 = .ok (.invokevirtual 106, 3) := by decide +kernel
theorem dd_Law_law_877 : decode code 877 = .ok (.if_icmp .eq 606, 3) := by decide +kernel
theorem dd_Law_law_880 : decode code 880 = .ok (.iconst 0, 1) := by decide +kernel
theorem dd_Law_law_881 : decode code 881 = .ok (.ireturn, 1) := by decide +kernel
theorem dd_Law_law_776 : decode code 776 = .ok (.aload_n 1, 1) := by decide +kernel
theorem dd_Law_law_777 : decode code 777 = .ok (.aload_n 0, 1) := by decide +kernel
theorem dd_Law_law_778 : decode code 778 = .ok (.iload_n 3, 1) := by decide +kernel
theorem dd_Law_law_779 : decode code 779 = .ok (.iconst 1, 1) := by decide +kernel
theorem dd_Law_law_780 : decode code 780 = .ok (.iadd, 1) := by decide +kernel
theorem dd_Law_law_781 : decode code 781 = .ok (.iaload, 1) := by decide +kernel
theorem dd_Law_law_782 : decode code 782 = .ok (.aload_n 0, 1) := by decide +kernel
theorem dd_Law_law_783 : decode code 783 = .ok (.iload_n 3, 1) := by decide +kernel
theorem dd_Law_law_784 : decode code 784 = .ok (.iconst 2, 1) := by decide +kernel
theorem dd_Law_law_785 : decode code 785 = .ok (.iadd, 1) := by decide +kernel
theorem dd_Law_law_786 : decode code 786 = .ok (.iaload, 1) := by decide +kernel
theorem dd_Law_law_787 : decode code 787 = .ok (.aload_n 0, 1) := by decide +kernel
theorem dd_Law_law_788 : decode code 788 = .ok (.iload_n 3, 1) := by decide +kernel
theorem dd_Law_law_789 : decode code 789 = .ok (.iconst 3, 1) := by decide +kernel
theorem dd_Law_law_790 : decode code 790 = .ok (.iadd, 1) := by decide +kernel
theorem dd_Law_law_791 : decode code 791 = .ok (.iaload, 1) := by decide +kernel
theorem dd_Law_law_792 : decode code 792 = .ok (.aload_n 0, 1) := by decide +kernel
theorem dd_Law_law_793 : decode code 793 = .ok (.iload_n 3, 1) := by decide +kernel
theorem dd_Law_law_794 : decode code 794 = .ok (.iconst 4, 1) := by decide +kernel
theorem dd_Law_law_795 : decode code 795 = .ok (.iadd, 1) := by decide +kernel
theorem dd_Law_law_796 : decode code 796 = .ok (.iaload, 1) := by decide +kernel
theorem dd_Law_law_797 : decode code 797 = .ok (.invokevirtual 99, 3) := by decide +kernel
theorem dd_Law_law_800 : decode code 800 = .ok (.aload_n 2, 1) := by decide +kernel
theorem dd_Law_law_801 : decode code 801 = .ok (.aload_n 0, 1) := by decide +kernel
theorem dd_Law_law_802 : decode code 802 = .ok (.iload_n 3, 1) := by decide +kernel
theorem dd_Law_law_803 : decode code 803 = .ok (.iconst 1, 1) := by decide +kernel
theorem dd_Law_law_804 : decode code 804 = .ok (.iadd, 1) := by decide +kernel
theorem dd_Law_law_805 : decode code 805 = .ok (.iaload, 1) := by decide +kernel
theorem dd_Law_law_806 : decode code 806 = .ok (.aload_n 0, 1) := by decide +kernel
theorem dd_Law_law_807 : decode code 807 = .ok (.iload_n 3, 1) := by decide +kernel
theorem dd_Law_law_808 : decode code 808 = .ok (.iconst 2, 1) := by decide +kernel
theorem dd_Law_law_809 : decode code 809 = .ok (.iadd, 1) := by decide +kernel
theorem dd_Law_law_810 : decode code 810 = .ok (.iaload, 1) := by decide +kernel
theorem dd_Law_law_811 : decode code 811 = .ok (.aload_n 0, 1) := by decide +kernel
theorem dd_Law_law_812 : decode code 812 = .ok (.iload_n 3, 1) := by decide +kernel
theorem dd_Law_law_813 : decode code 813 = .ok (.iconst 3, 1) := by decide +kernel
theorem dd_Law_law_814 : decode code 814 = .ok (.iadd, 1) := by decide +kernel
theorem dd_Law_law_815 : decode code 815 = .ok (.iaload, 1) := by decide +kernel
theorem dd_Law_law_816 : decode code 816 = .ok (.aload_n 0, 1) := by decide +kernel
theorem dd_Law_law_817 : decode code 817 = .ok (.iload_n 3, 1) := by decide +kernel
theorem dd_Law_law_818 : decode code 818 = .ok (.iconst 4, 1) := by decide +kernel
theorem dd_Law_law_819 : decode code 819 = .ok (.iadd, 1) := by decide +kernel
theorem dd_Law_law_820 : decode code 820 = .ok (.iaload, 1) := by decide +kernel
theorem dd_Law_law_821 : decode code 821 = .ok (.invokevirtual 102, 3) := by decide +kernel
theorem dd_Law_law_824 : decode code 824 = .ok (.if_icmp .eq 659, 3) := by decide +kernel
theorem dd_Law_law_827 : decode code 827 = .ok (.iconst 0, 1) := by decide +kernel
theorem dd_Law_law_828 : decode code 828 = .ok (.ireturn, 1) := by decide +kernel
theorem dd_Law_law_763 : decode code 763 = .ok (.aload_n 1, 1) := by decide +kernel
theorem dd_Law_law_764 : decode code 764 = .ok (.invokevirtual 95, 3) := by decide +kernel
theorem dd_Law_law_767 : decode code 767 = .ok (.aload_n 2, 1) := by decide +kernel
theorem dd_Law_law_768 : decode code 768 = .ok (.invokevirtual 98, 3) := by decide +kernel
theorem dd_Law_law_771 : decode code 771 = .ok (.if_icmp .eq 712, 3) := by decide +kernel
theorem dd_Law_law_774 : decode code 774 = .ok (.iconst 0, 1) := by decide +kernel
theorem dd_Law_law_775 : decode code 775 = .ok (.ireturn, 1) := by decide +kernel
theorem dd_Law_law_750 : decode code 750 = .ok (.aload_n 1, 1) := by decide +kernel
theorem dd_Law_law_751 : decode code 751 = .ok (.invokevirtual 91, 3) := by decide +kernel
theorem dd_Law_law_754 : decode code 754 = .ok (.aload_n 2, 1) := by decide +kernel
theorem dd_Law_law_755 : decode code 755 = .ok (.invokevirtual 94, 3) := by decide +kernel
theorem dd_Law_law_758 : decode code 758 = .ok (.if_icmp .eq 725, 3) := by decide +kernel
theorem dd_Law_law_761 : decode code 761 = .ok (.iconst 0, 1) := by decide +kernel
theorem dd_Law_law_762 : decode code 762 = .ok (.ireturn, 1) := by decide +kernel
theorem dd_Law_law_727 : decode code 727 = .ok (.aload_n 1, 1) := by decide +kernel
theorem dd_Law_law_728 : decode code 728 = .ok (.aload_n 0, 1) := by decide +kernel
theorem dd_Law_law_729 : decode code 729 = .ok (.iload_n 3, 1) := by decide +kernel
theorem dd_Law_law_730 : decode code 730 = .ok (.iconst 1, 1) := by decide +kernel
theorem dd_Law_law_731 : decode code 731 = .ok (.iadd, 1) := by decide +kernel
theorem dd_Law_law_732 : decode code 732 = .ok (.iaload, 1) := by decide +kernel
theorem dd_Law_law_733 : decode code 733 = .ok (.invokevirtual 87, 3) := by decide +kernel
theorem dd_Law_law_736 : decode code 736 = .ok (.aload_n 2, 1) := by decide +kernel
theorem dd_Law_law_737 : decode code 737 = .ok (.aload_n 0, 1) := by decide +kernel
theorem dd_Law_law_738 : decode code 738 = .ok (.iload_n 3, 1) := by decide +kernel
theorem dd_Law_law_739 : decode code 739 = .ok (.iconst 1, 1) := by decide +kernel
theorem dd_Law_law_740 : decode code 740 = .ok (.iadd, 1) := by decide +kernel
theorem dd_Law_law_741 : decode code 741 = .ok (.iaload, 1) := by decide +kernel
theorem dd_Law_law_742 : decode code 742 = .ok (.invokevirtual 90, 3) := by decide +kernel
theorem dd_Law_law_745 : decode code 745 = .ok (.if_icmp .eq 738, 3) := by decide +kernel
theorem dd_Law_law_748 : decode code 748 = .ok (.iconst 0, 1) := by decide +kernel
theorem dd_Law_law_749 : decode code 749 = .ok (.ireturn, 1) := by decide +kernel
theorem dd_Law_law_694 : decode code 694 = .ok (.aload_n 1, 1) := by decide +kernel
theorem dd_Law_law_695 : decode code 695 = .ok (.aload_n 0, 1) := by decide +kernel
theorem dd_Law_law_696 : decode code 696 = .ok (.iload_n 3, 1) := by decide +kernel
theorem dd_Law_law_697 : decode code 697 = .ok (.iconst 1, 1) := by decide +kernel
theorem dd_Law_law_698 : decode code 698 = .ok (.iadd, 1) := by decide +kernel
theorem dd_Law_law_699 : decode code 699 = .ok (.iaload, 1) := by decide +kernel
theorem dd_Law_law_700 : decode code 700 = .ok (.aload_n 0, 1) := by decide +kernel
theorem dd_Law_law_701 : decode code 701 = .ok (.iload_n 3, 1) := by decide +kernel
theorem dd_Law_law_702 : decode code 702 = .ok (.iconst 2, 1) := by decide +kernel
theorem dd_Law_law_703 : decode code 703 = .ok (.iadd, 1) := by decide +kernel
theorem dd_Law_law_704 : decode code 704 = .ok (.iaload, 1) := by decide +kernel
theorem dd_Law_law_705 : decode code 705 = .ok (.invokevirtual 83, 3) := by decide +kernel
theorem dd_Law_law_708 : decode code 708 = .ok (.aload_n 2, 1) := by decide +kernel
theorem dd_Law_law_709 : decode code 709 = .ok (.aload_n 0, 1) := by decide +kernel
theorem dd_Law_law_710 : decode code 710 = .ok (.iload_n 3, 1) := by decide +kernel
theorem dd_Law_law_711 : decode code 711 = .ok (.iconst 1, 1) := by decide +kernel
theorem dd_Law_law_712 : decode code 712 = .ok (.iadd, 1) := by decide +kernel
theorem dd_Law_law_713 : decode code 713 = .ok (.iaload, 1) := by decide +kernel
theorem dd_Law_law_714 : decode code 714 = .ok (.aload_n 0, 1) := by decide +kernel
theorem dd_Law_law_715 : decode code 715 = .ok (.iload_n 3, 1) := by decide +kernel
theorem dd_Law_law_716 : decode code 716 = .ok (.iconst 2, 1) := by decide +kernel
theorem dd_Law_law_717 : decode code 717 = .ok (.iadd, 1) := by decide +kernel
theorem dd_Law_law_718 : decode code 718 = .ok (.iaload, 1) := by decide +kernel
theorem dd_Law_law_719 : decode code 719 = .ok (.invokevirtual 86, 3) := by decide +kernel
theorem dd_Law_law_722 : decode code 722 = .ok (.if_icmp .eq 761, 3) := by decide +kernel
theorem dd_Law_law_725 : decode code 725 = .ok (.iconst 0, 1) := by decide +kernel
theorem dd_Law_law_726 : decode code 726 = .ok (.ireturn, 1) := by decide +kernel
theorem dd_Law_law_651 : decode code 651 = .ok (.aload_n 1, 1) := by decide +kernel
theorem dd_Law_law_652 : decode code 652 = .ok (.aload_n 0, 1) := by decide +kernel
theorem dd_Law_law_653 : decode code 653 = .ok (.iload_n 3, 1) := by decide +kernel
theorem dd_Law_law_654 : decode code 654 = .ok (.iconst 1, 1) := by decide +kernel
theorem dd_Law_law_655 : decode code 655 = .ok (.iadd, 1) := by decide +kernel
theorem dd_Law_law_656 : decode code 656 = .ok (.iaload, 1) := by decide +kernel
theorem dd_Law_law_657 : decode code 657 = .ok (.aload_n 0, 1) := by decide +kernel
theorem dd_Law_law_658 : decode code 658 = .ok (.iload_n 3, 1) := by decide +kernel
theorem dd_Law_law_659 : decode code 659 = .ok (.iconst 2, 1) := by decide +kernel
theorem dd_Law_law_660 : decode code 660 = .ok (.iadd, 1) := by decide +kernel
theorem dd_Law_law_661 : decode code 661 = .ok (.iaload, 1) := by decide +kernel
theorem dd_Law_law_662 : decode code 662 = .ok (.aload_n 0, 1) := by decide +kernel
theorem dd_Law_law_663 : decode code 663 = .ok (.iload_n 3, 1) := by decide +kernel
theorem dd_Law_law_664 : decode code 664 = .ok (.iconst 3, 1) := by decide +kernel
theorem dd_Law_law_665 : decode code 665 = .ok (.iadd, 1) := by decide +kernel
theorem dd_Law_law_666 : decode code 666 = .ok (.iaload, 1) := by decide +kernel
theorem dd_Law_law_667 : decode code 667 = .ok (.invokevirtual 79, 3) := by decide +kernel
theorem dd_Law_law_670 : decode code 670 = .ok (.aload_n 2, 1) := by decide +kernel
theorem dd_Law_law_671 : decode code 671 = .ok (.aload_n 0, 1) := by decide +kernel
theorem dd_Law_law_672 : decode code 672 = .ok (.iload_n 3, 1) := by decide +kernel
theorem dd_Law_law_673 : decode code 673 = .ok (.iconst 1, 1) := by decide +kernel
theorem dd_Law_law_674 : decode code 674 = .ok (.iadd, 1) := by decide +kernel
theorem dd_Law_law_675 : decode code 675 = .ok (.iaload, 1) := by decide +kernel
theorem dd_Law_law_676 : decode code 676 = .ok (.aload_n 0, 1) := by decide +kernel
theorem dd_Law_law_677 : decode code 677 = .ok (.iload_n 3, 1) := by decide +kernel
theorem dd_Law_law_678 : decode code 678 = .ok (.iconst 2, 1) := by decide +kernel
theorem dd_Law_law_679 : decode code 679 = .ok (.iadd, 1) := by decide +kernel
theorem dd_Law_law_680 : decode code 680 = .ok (.iaload, 1) := by decide +kernel
theorem dd_Law_law_681 : decode code 681 = .ok (.aload_n 0, 1) := by decide +kernel
theorem dd_Law_law_682 : decode code 682 = .ok (.iload_n 3, 1) := by decide +kernel
theorem dd_Law_law_683 : decode code 683 = .ok (.iconst 3, 1) := by decide +kernel
theorem dd_Law_law_684 : decode code 684 = .ok (.iadd, 1) := by decide +kernel
theorem dd_Law_law_685 : decode code 685 = .ok (.iaload, 1) := by decide +kernel
theorem dd_Law_law_686 : decode code 686 = .ok (.invokevirtual 82, 3) := by decide +kernel
theorem dd_Law_law_689 : decode code 689 = .ok (.if_icmp .eq 794, 3) := by decide +kernel
theorem dd_Law_law_692 : decode code 692 = .ok (.iconst 0, 1) := by decide +kernel
theorem dd_Law_law_693 : decode code 693 = .ok (.ireturn, 1) := by decide +kernel
theorem dd_Law_law_628 : decode code 628 = .ok (.aload_n 1, 1) := by decide +kernel
theorem dd_Law_law_629 : decode code 629 = .ok (.aload_n 0, 1) := by decide +kernel
theorem dd_Law_law_630 : decode code 630 = .ok (.iload_n 3, 1) := by decide +kernel
theorem dd_Law_law_631 : decode code 631 = .ok (.iconst 1, 1) := by decide +kernel
theorem dd_Law_law_632 : decode code 632 = .ok (.iadd, 1) := by decide +kernel
theorem dd_Law_law_633 : decode code 633 = .ok (.iaload, 1) := by decide +kernel
theorem dd_Law_law_634 : decode code 634 = .ok (.invokevirtual 75, 3) := by decide +kernel
theorem dd_Law_law_637 : decode code 637 = .ok (.aload_n 2, 1) := by decide +kernel
theorem dd_Law_law_638 : decode code 638 = .ok (.aload_n 0, 1) := by decide +kernel
theorem dd_Law_law_639 : decode code 639 = .ok (.iload_n 3, 1) := by decide +kernel
theorem dd_Law_law_640 : decode code 640 = .ok (.iconst 1, 1) := by decide +kernel
theorem dd_Law_law_641 : decode code 641 = .ok (.iadd, 1) := by decide +kernel
theorem dd_Law_law_642 : decode code 642 = .ok (.iaload, 1) := by decide +kernel
theorem dd_Law_law_643 : decode code 643 = .ok (.invokevirtual 78, 3) := by decide +kernel
theorem dd_Law_law_646 : decode code 646 = .ok (.if_icmp .eq 837, 3) := by decide +kernel
theorem dd_Law_law_649 : decode code 649 = .ok (.iconst 0, 1) := by decide +kernel
theorem dd_Law_law_650 : decode code 650 = .ok (.ireturn, 1) := by decide +kernel
theorem dd_Law_law_615 : decode code 615 = .ok (.aload_n 1, 1) := by decide +kernel
theorem dd_Law_law_616 : decode code 616 = .ok (.invokevirtual 71, 3) := by decide +kernel
theorem dd_Law_law_619 : decode code 619 = .ok (.aload_n 2, 1) := by decide +kernel
theorem dd_Law_law_620 : decode code 620 = .ok (.invokevirtual 74, 3) := by decide +kernel
theorem dd_Law_law_623 : decode code 623 = .ok (.if_icmp .eq 860, 3) := by decide +kernel
theorem dd_Law_law_626 : decode code 626 = .ok (.iconst 0, 1) := by decide +kernel
theorem dd_Law_law_627 : decode code 627 = .ok (.ireturn, 1) := by decide +kernel
theorem dd_Law_law_602 : decode code 602 = .ok (.aload_n 1, 1) := by decide +kernel
theorem dd_Law_law_603 : decode code 603 = .ok (.invokevirtual 67, 3) := by decide +kernel
theorem dd_Law_law_606 : decode code 606 = .ok (.aload_n 2, 1) := by decide +kernel
theorem dd_Law_law_607 : decode code 607 = .ok (.invokevirtual 70, 3) := by decide +kernel
theorem dd_Law_law_610 : decode code 610 = .ok (.if_icmp .eq 873, 3) := by decide +kernel
theorem dd_Law_law_613 : decode code 613 = .ok (.iconst 0, 1) := by decide +kernel
theorem dd_Law_law_614 : decode code 614 = .ok (.ireturn, 1) := by decide +kernel
theorem dd_Law_law_589 : decode code 589 = .ok (.aload_n 1, 1) := by decide +kernel
theorem dd_Law_law_590 : decode code 590 = .ok (.invokevirtual 63, 3) := by decide +kernel
theorem dd_Law_law_593 : decode code 593 = .ok (.aload_n 2, 1) := by decide +kernel
theorem dd_Law_law_594 : decode code 594 = .ok (.invokevirtual 66, 3) := by decide +kernel
theorem dd_Law_law_597 : decode code 597 = .ok (.if_icmp .eq 886, 3) := by decide +kernel
theorem dd_Law_law_600 : decode code 600 = .ok (.iconst 0, 1) := by decide +kernel
theorem dd_Law_law_601 : decode code 601 = .ok (.ireturn, 1) := by decide +kernel
theorem dd_Law_law_576 : decode code 576 = .ok (.aload_n 1, 1) := by decide +kernel
theorem dd_Law_law_577 : decode code 577 = .ok (.invokevirtual 59, 3) := by decide +kernel
theorem dd_Law_law_580 : decode code 580 = .ok (.aload_n 2, 1) := by decide +kernel
theorem dd_Law_law_581 : decode code 581 = .ok (.invokevirtual 62, 3) := by decide +kernel
theorem dd_Law_law_584 : decode code 584 = .ok (.if_icmp .eq 899, 3) := by decide +kernel
theorem dd_Law_law_587 : decode code 587 = .ok (.iconst 0, 1) := by decide +kernel
theorem dd_Law_law_588 : decode code 588 = .ok (.ireturn, 1) := by decide +kernel
theorem dd_Law_law_563 : decode code 563 = .ok (.aload_n 1, 1) := by decide +kernel
theorem dd_Law_law_564 : decode code 564 = .ok (.invokevirtual 55, 3) := by decide +kernel
theorem dd_Law_law_567 : decode code 567 = .ok (.aload_n 2, 1) := by decide +kernel
theorem dd_Law_law_568 : decode code 568 = .ok (.invokevirtual 58, 3) := by decide +kernel
theorem dd_Law_law_571 : decode code 571 = .ok (.if_icmp .eq 912, 3) := by decide +kernel
theorem dd_Law_law_574 : decode code 574 = .ok (.iconst 0, 1) := by decide +kernel
theorem dd_Law_law_575 : decode code 575 = .ok (.ireturn, 1) := by decide +kernel
theorem dd_Law_law_550 : decode code 550 = .ok (.aload_n 1, 1) := by decide +kernel
theorem dd_Law_law_551 : decode code 551 = .ok (.invokevirtual 50, 3) := by decide +kernel
theorem dd_Law_law_554 : decode code 554 = .ok (.aload_n 2, 1) := by decide +kernel
theorem dd_Law_law_555 : decode code 555 = .ok (.invokevirtual 54, 3) := by decide +kernel
theorem dd_Law_law_558 : decode code 558 = .ok (.if_icmp .eq 925, 3) := by decide +kernel
theorem dd_Law_law_561 : decode code 561 = .ok (.iconst 0, 1) := by decide +kernel
theorem dd_Law_law_562 : decode code 562 = .ok (.ireturn, 1) := by decide +kernel
theorem dd_Law_law_527 : decode code 527 = .ok (.aload_n 1, 1) := by decide +kernel
theorem dd_Law_law_528 : decode code 528 = .ok (.aload_n 0, 1) := by decide +kernel
theorem dd_Law_law_529 : decode code 529 = .ok (.iload_n 3, 1) := by decide +kernel
theorem dd_Law_law_530 : decode code 530 = .ok (.iconst 1, 1) := by decide +kernel
theorem dd_Law_law_531 : decode code 531 = .ok (.iadd, 1) := by decide +kernel
theorem dd_Law_law_532 : decode code 532 = .ok (.iaload, 1) := by decide +kernel
theorem dd_Law_law_533 : decode code 533 = .ok (.invokevirtual 45, 3) := by decide +kernel
theorem dd_Law_law_536 : decode code 536 = .ok (.aload_n 2, 1) := by decide +kernel
theorem dd_Law_law_537 : decode code 537 = .ok (.aload_n 0, 1) := by decide +kernel
theorem dd_Law_law_538 : decode code 538 = .ok (.iload_n 3, 1) := by decide +kernel
theorem dd_Law_law_539 : decode code 539 = .ok (.iconst 1, 1) := by decide +kernel
theorem dd_Law_law_540 : decode code 540 = .ok (.iadd, 1) := by decide +kernel
theorem dd_Law_law_541 : decode code 541 = .ok (.iaload, 1) := by decide +kernel
theorem dd_Law_law_542 : decode code 542 = .ok (.invokevirtual 49, 3) := by decide +kernel
theorem dd_Law_law_545 : decode code 545 = .ok (.if_icmp .eq 938, 3) := by decide +kernel
theorem dd_Law_law_548 : decode code 548 = .ok (.iconst 0, 1) := by decide +kernel
theorem dd_Law_law_549 : decode code 549 = .ok (.ireturn, 1) := by decide +kernel
theorem dd_Law_law_464 : decode code 464 = .ok (.aload_n 1, 1) := by decide +kernel
theorem dd_Law_law_465 : decode code 465 = .ok (.aload_n 0, 1) := by decide +kernel
theorem dd_Law_law_466 : decode code 466 = .ok (.iload_n 3, 1) := by decide +kernel
theorem dd_Law_law_467 : decode code 467 = .ok (.iconst 1, 1) := by decide +kernel
theorem dd_Law_law_468 : decode code 468 = .ok (.iadd, 1) := by decide +kernel
theorem dd_Law_law_469 : decode code 469 = .ok (.iaload, 1) := by decide +kernel
theorem dd_Law_law_470 : decode code 470 = .ok (.aload_n 0, 1) := by decide +kernel
theorem dd_Law_law_471 : decode code 471 = .ok (.iload_n 3, 1) := by decide +kernel
theorem dd_Law_law_472 : decode code 472 = .ok (.iconst 2, 1) := by decide +kernel
theorem dd_Law_law_473 : decode code 473 = .ok (.iadd, 1) := by decide +kernel
theorem dd_Law_law_474 : decode code 474 = .ok (.iaload, 1) := by decide +kernel
theorem dd_Law_law_475 : decode code 475 = .ok (.aload_n 0, 1) := by decide +kernel
theorem dd_Law_law_476 : decode code 476 = .ok (.iload_n 3, 1) := by decide +kernel
theorem dd_Law_law_477 : decode code 477 = .ok (.iconst 3, 1) := by decide +kernel
theorem dd_Law_law_478 : decode code 478 = .ok (.iadd, 1) := by decide +kernel
theorem dd_Law_law_479 : decode code 479 = .ok (.iaload, 1) := by decide +kernel
theorem dd_Law_law_480 : decode code 480 = .ok (.aload_n 0, 1) := by decide +kernel
theorem dd_Law_law_481 : decode code 481 = .ok (.iload_n 3, 1) := by decide +kernel
theorem dd_Law_law_482 : decode code 482 = .ok (.iconst 4, 1) := by decide +kernel
theorem dd_Law_law_483 : decode code 483 = .ok (.iadd, 1) := by decide +kernel
theorem dd_Law_law_484 : decode code 484 = .ok (.iaload, 1) := by decide +kernel
theorem dd_Law_law_485 : decode code 485 = .ok (.aload_n 0, 1) := by decide +kernel
theorem dd_Law_law_486 : decode code 486 = .ok (.iload_n 3, 1) := by decide +kernel
theorem dd_Law_law_487 : decode code 487 = .ok (.iconst 5, 1) := by decide +kernel
theorem dd_Law_law_488 : decode code 488 = .ok (.iadd, 1) := by decide +kernel
theorem dd_Law_law_489 : decode code 489 = .ok (.iaload, 1) := by decide +kernel
theorem dd_Law_law_490 : decode code 490 = .ok (.invokevirtual 40, 3) := by decide +kernel
theorem dd_Law_law_493 : decode code 493 = .ok (.aload_n 2, 1) := by decide +kernel
theorem dd_Law_law_494 : decode code 494 = .ok (.aload_n 0, 1) := by decide +kernel
theorem dd_Law_law_495 : decode code 495 = .ok (.iload_n 3, 1) := by decide +kernel
theorem dd_Law_law_496 : decode code 496 = .ok (.iconst 1, 1) := by decide +kernel
theorem dd_Law_law_497 : decode code 497 = .ok (.iadd, 1) := by decide +kernel
theorem dd_Law_law_498 : decode code 498 = .ok (.iaload, 1) := by decide +kernel
theorem dd_Law_law_499 : decode code 499 = .ok (.aload_n 0, 1) := by decide +kernel
theorem dd_Law_law_500 : decode code 500 = .ok (.iload_n 3, 1) := by decide +kernel
theorem dd_Law_law_501 : decode code 501 = .ok (.iconst 2, 1) := by decide +kernel
theorem dd_Law_law_502 : decode code 502 = .ok (.iadd, 1) := by decide +kernel
theorem dd_Law_law_503 : decode code 503 = .ok (.iaload, 1) := by decide +kernel
theorem dd_Law_law_504 : decode code 504 = .ok (.aload_n 0, 1) := by decide +kernel
theorem dd_Law_law_505 : decode code 505 = .ok (.iload_n 3, 1) := by decide +kernel
theorem dd_Law_law_506 : decode code 506 = .ok (.iconst 3, 1) := by decide +kernel
theorem dd_Law_law_507 : decode code 507 = .ok (.iadd, 1) := by decide +kernel
theorem dd_Law_law_508 : decode code 508 = .ok (.iaload, 1) := by decide +kernel
theorem dd_Law_law_509 : decode code 509 = .ok (.aload_n 0, 1) := by decide +kernel
theorem dd_Law_law_510 : decode code 510 = .ok (.iload_n 3, 1) := by decide +kernel
theorem dd_Law_law_511 : decode code 511 = .ok (.iconst 4, 1) := by decide +kernel
theorem dd_Law_law_512 : decode code 512 = .ok (.iadd, 1) := by decide +kernel
theorem dd_Law_law_513 : decode code 513 = .ok (.iaload, 1) := by decide +kernel
theorem dd_Law_law_514 : decode code 514 = .ok (.aload_n 0, 1) := by decide +kernel
theorem dd_Law_law_515 : decode code 515 = .ok (.iload_n 3, 1) := by decide +kernel
theorem dd_Law_law_516 : decode code 516 = .ok (.iconst 5, 1) := by decide +kernel
theorem dd_Law_law_517 : decode code 517 = .ok (.iadd, 1) := by decide +kernel
theorem dd_Law_law_518 : decode code 518 = .ok (.iaload, 1) := by decide +kernel
theorem dd_Law_law_519 : decode code 519 = .ok (.invokevirtual 44, 3) := by decide +kernel
theorem dd_Law_law_522 : decode code 522 = .ok (.if_icmp .eq 961, 3) := by decide +kernel
theorem dd_Law_law_525 : decode code 525 = .ok (.iconst 0, 1) := by decide +kernel
theorem dd_Law_law_526 : decode code 526 = .ok (.ireturn, 1) := by decide +kernel
theorem dd_Law_law_431 : decode code 431 = .ok (.aload_n 1, 1) := by decide +kernel
theorem dd_Law_law_432 : decode code 432 = .ok (.aload_n 0, 1) := by decide +kernel
theorem dd_Law_law_433 : decode code 433 = .ok (.iload_n 3, 1) := by decide +kernel
theorem dd_Law_law_434 : decode code 434 = .ok (.iconst 1, 1) := by decide +kernel
theorem dd_Law_law_435 : decode code 435 = .ok (.iadd, 1) := by decide +kernel
theorem dd_Law_law_436 : decode code 436 = .ok (.iaload, 1) := by decide +kernel
theorem dd_Law_law_437 : decode code 437 = .ok (.aload_n 0, 1) := by decide +kernel
theorem dd_Law_law_438 : decode code 438 = .ok (.iload_n 3, 1) := by decide +kernel
theorem dd_Law_law_439 : decode code 439 = .ok (.iconst 2, 1) := by decide +kernel
theorem dd_Law_law_440 : decode code 440 = .ok (.iadd, 1) := by decide +kernel
theorem dd_Law_law_441 : decode code 441 = .ok (.iaload, 1) := by decide +kernel
theorem dd_Law_law_442 : decode code 442 = .ok (.invokevirtual 36, 3) := by decide +kernel
theorem dd_Law_law_445 : decode code 445 = .ok (.aload_n 2, 1) := by decide +kernel
theorem dd_Law_law_446 : decode code 446 = .ok (.aload_n 0, 1) := by decide +kernel
theorem dd_Law_law_447 : decode code 447 = .ok (.iload_n 3, 1) := by decide +kernel
theorem dd_Law_law_448 : decode code 448 = .ok (.iconst 1, 1) := by decide +kernel
theorem dd_Law_law_449 : decode code 449 = .ok (.iadd, 1) := by decide +kernel
theorem dd_Law_law_450 : decode code 450 = .ok (.iaload, 1) := by decide +kernel
theorem dd_Law_law_451 : decode code 451 = .ok (.aload_n 0, 1) := by decide +kernel
theorem dd_Law_law_452 : decode code 452 = .ok (.iload_n 3, 1) := by decide +kernel
theorem dd_Law_law_453 : decode code 453 = .ok (.iconst 2, 1) := by decide +kernel
theorem dd_Law_law_454 : decode code 454 = .ok (.iadd, 1) := by decide +kernel
theorem dd_Law_law_455 : decode code 455 = .ok (.iaload, 1) := by decide +kernel
theorem dd_Law_law_456 : decode code 456 = .ok (.invokevirtual 39, 3) := by decide +kernel
theorem dd_Law_law_459 : decode code 459 = .ok (.if_icmp .eq 1024, 3) := by decide +kernel
theorem dd_Law_law_462 : decode code 462 = .ok (.iconst 0, 1) := by decide +kernel
theorem dd_Law_law_463 : decode code 463 = .ok (.ireturn, 1) := by decide +kernel
theorem dd_Law_law_388 : decode code 388 = .ok (.aload_n 1, 1) := by decide +kernel
theorem dd_Law_law_389 : decode code 389 = .ok (.aload_n 0, 1) := by decide +kernel
theorem dd_Law_law_390 : decode code 390 = .ok (.iload_n 3, 1) := by decide +kernel
theorem dd_Law_law_391 : decode code 391 = .ok (.iconst 1, 1) := by decide +kernel
theorem dd_Law_law_392 : decode code 392 = .ok (.iadd, 1) := by decide +kernel
theorem dd_Law_law_393 : decode code 393 = .ok (.iaload, 1) := by decide +kernel
theorem dd_Law_law_394 : decode code 394 = .ok (.aload_n 0, 1) := by decide +kernel
theorem dd_Law_law_395 : decode code 395 = .ok (.iload_n 3, 1) := by decide +kernel
theorem dd_Law_law_396 : decode code 396 = .ok (.iconst 2, 1) := by decide +kernel
theorem dd_Law_law_397 : decode code 397 = .ok (.iadd, 1) := by decide +kernel
theorem dd_Law_law_398 : decode code 398 = .ok (.iaload, 1) := by decide +kernel
theorem dd_Law_law_399 : decode code 399 = .ok (.aload_n 0, 1) := by decide +kernel
theorem dd_Law_law_400 : decode code 400 = .ok (.iload_n 3, 1) := by decide +kernel
theorem dd_Law_law_401 : decode code 401 = .ok (.iconst 3, 1) := by decide +kernel
theorem dd_Law_law_402 : decode code 402 = .ok (.iadd, 1) := by decide +kernel
theorem dd_Law_law_403 : decode code 403 = .ok (.iaload, 1) := by decide +kernel
theorem dd_Law_law_404 : decode code 404 = .ok (.invokevirtual 32, 3) := by decide +kernel
theorem dd_Law_law_407 : decode code 407 = .ok (.aload_n 2, 1) := by decide +kernel
theorem dd_Law_law_408 : decode code 408 = .ok (.aload_n 0, 1) := by decide +kernel
theorem dd_Law_law_409 : decode code 409 = .ok (.iload_n 3, 1) := by decide +kernel
theorem dd_Law_law_410 : decode code 410 = .ok (.iconst 1, 1) := by decide +kernel
theorem dd_Law_law_411 : decode code 411 = .ok (.iadd, 1) := by decide +kernel
theorem dd_Law_law_412 : decode code 412 = .ok (.iaload, 1) := by decide +kernel
theorem dd_Law_law_413 : decode code 413 = .ok (.aload_n 0, 1) := by decide +kernel
theorem dd_Law_law_414 : decode code 414 = .ok (.iload_n 3, 1) := by decide +kernel
theorem dd_Law_law_415 : decode code 415 = .ok (.iconst 2, 1) := by decide +kernel
theorem dd_Law_law_416 : decode code 416 = .ok (.iadd, 1) := by decide +kernel
theorem dd_Law_law_417 : decode code 417 = .ok (.iaload, 1) := by decide +kernel
theorem dd_Law_law_418 : decode code 418 = .ok (.aload_n 0, 1) := by decide +kernel
theorem dd_Law_law_419 : decode code 419 = .ok (.iload_n 3, 1) := by decide +kernel
theorem dd_Law_law_420 : decode code 420 = .ok (.iconst 3, 1) := by decide +kernel
theorem dd_Law_law_421 : decode code 421 = .ok (.iadd, 1) := by decide +kernel
theorem dd_Law_law_422 : decode code 422 = .ok (.iaload, 1) := by decide +kernel
theorem dd_Law_law_423 : decode code 423 = .ok (.invokevirtual 35, 3) := by decide +kernel
theorem dd_Law_law_426 : decode code 426 = .ok (.if_icmp .eq 1057, 3) := by decide +kernel
theorem dd_Law_law_429 : decode code 429 = .ok (.iconst 0, 1) := by decide +kernel
theorem dd_Law_law_430 : decode code 430 = .ok (.ireturn, 1) := by decide +kernel
theorem dd_Law_law_335 : decode code 335 = .ok (.aload_n 1, 1) := by decide +kernel
theorem dd_Law_law_336 : decode code 336 = .ok (.aload_n 0, 1) := by decide +kernel
theorem dd_Law_law_337 : decode code 337 = .ok (.iload_n 3, 1) := by decide +kernel
theorem dd_Law_law_338 : decode code 338 = .ok (.iconst 1, 1) := by decide +kernel
theorem dd_Law_law_339 : decode code 339 = .ok (.iadd, 1) := by decide +kernel
theorem dd_Law_law_340 : decode code 340 = .ok (.iaload, 1) := by decide +kernel
theorem dd_Law_law_341 : decode code 341 = .ok (.aload_n 0, 1) := by decide +kernel
theorem dd_Law_law_342 : decode code 342 = .ok (.iload_n 3, 1) := by decide +kernel
theorem dd_Law_law_343 : decode code 343 = .ok (.iconst 2, 1) := by decide +kernel
theorem dd_Law_law_344 : decode code 344 = .ok (.iadd, 1) := by decide +kernel
theorem dd_Law_law_345 : decode code 345 = .ok (.iaload, 1) := by decide +kernel
theorem dd_Law_law_346 : decode code 346 = .ok (.aload_n 0, 1) := by decide +kernel
theorem dd_Law_law_347 : decode code 347 = .ok (.iload_n 3, 1) := by decide +kernel
theorem dd_Law_law_348 : decode code 348 = .ok (.iconst 3, 1) := by decide +kernel
theorem dd_Law_law_349 : decode code 349 = .ok (.iadd, 1) := by decide +kernel
theorem dd_Law_law_350 : decode code 350 = .ok (.iaload, 1) := by decide +kernel
theorem dd_Law_law_351 : decode code 351 = .ok (.aload_n 0, 1) := by decide +kernel
theorem dd_Law_law_352 : decode code 352 = .ok (.iload_n 3, 1) := by decide +kernel
theorem dd_Law_law_353 : decode code 353 = .ok (.iconst 4, 1) := by decide +kernel
theorem dd_Law_law_354 : decode code 354 = .ok (.iadd, 1) := by decide +kernel
theorem dd_Law_law_355 : decode code 355 = .ok (.iaload, 1) := by decide +kernel
theorem dd_Law_law_356 : decode code 356 = .ok (.invokevirtual 27, 3) := by decide +kernel
theorem dd_Law_law_359 : decode code 359 = .ok (.aload_n 2, 1) := by decide +kernel
theorem dd_Law_law_360 : decode code 360 = .ok (.aload_n 0, 1) := by decide +kernel
theorem dd_Law_law_361 : decode code 361 = .ok (.iload_n 3, 1) := by decide +kernel
theorem dd_Law_law_362 : decode code 362 = .ok (.iconst 1, 1) := by decide +kernel
theorem dd_Law_law_363 : decode code 363 = .ok (.iadd, 1) := by decide +kernel
theorem dd_Law_law_364 : decode code 364 = .ok (.iaload, 1) := by decide +kernel
theorem dd_Law_law_365 : decode code 365 = .ok (.aload_n 0, 1) := by decide +kernel
theorem dd_Law_law_366 : decode code 366 = .ok (.iload_n 3, 1) := by decide +kernel
theorem dd_Law_law_367 : decode code 367 = .ok (.iconst 2, 1) := by decide +kernel
theorem dd_Law_law_368 : decode code 368 = .ok (.iadd, 1) := by decide +kernel
theorem dd_Law_law_369 : decode code 369 = .ok (.iaload, 1) := by decide +kernel
theorem dd_Law_law_370 : decode code 370 = .ok (.aload_n 0, 1) := by decide +kernel
theorem dd_Law_law_371 : decode code 371 = .ok (.iload_n 3, 1) := by decide +kernel
theorem dd_Law_law_372 : decode code 372 = .ok (.iconst 3, 1) := by decide +kernel
theorem dd_Law_law_373 : decode code 373 = .ok (.iadd, 1) := by decide +kernel
theorem dd_Law_law_374 : decode code 374 = .ok (.iaload, 1) := by decide +kernel
theorem dd_Law_law_375 : decode code 375 = .ok (.aload_n 0, 1) := by decide +kernel
theorem dd_Law_law_376 : decode code 376 = .ok (.iload_n 3, 1) := by decide +kernel
theorem dd_Law_law_377 : decode code 377 = .ok (.iconst 4, 1) := by decide +kernel
theorem dd_Law_law_378 : decode code 378 = .ok (.iadd, 1) := by decide +kernel
theorem dd_Law_law_379 : decode code 379 = .ok (.iaload, 1) := by decide +kernel
theorem dd_Law_law_380 : decode code 380 = .ok (.invokevirtual 31, 3) := by decide +kernel
theorem dd_Law_law_383 : decode code 383 = .ok (.if_icmp .eq 1100, 3) := by decide +kernel
theorem dd_Law_law_386 : decode code 386 = .ok (.iconst 0, 1) := by decide +kernel
theorem dd_Law_law_387 : decode code 387 = .ok (.ireturn, 1) := by decide +kernel
theorem dd_Law_law_292 : decode code 292 = .ok (.aload_n 1, 1) := by decide +kernel
theorem dd_Law_law_293 : decode code 293 = .ok (.aload_n 0, 1) := by decide +kernel
theorem dd_Law_law_294 : decode code 294 = .ok (.iload_n 3, 1) := by decide +kernel
theorem dd_Law_law_295 : decode code 295 = .ok (.iconst 1, 1) := by decide +kernel
theorem dd_Law_law_296 : decode code 296 = .ok (.iadd, 1) := by decide +kernel
theorem dd_Law_law_297 : decode code 297 = .ok (.iaload, 1) := by decide +kernel
theorem dd_Law_law_298 : decode code 298 = .ok (.aload_n 0, 1) := by decide +kernel
theorem dd_Law_law_299 : decode code 299 = .ok (.iload_n 3, 1) := by decide +kernel
theorem dd_Law_law_300 : decode code 300 = .ok (.iconst 2, 1) := by decide +kernel
theorem dd_Law_law_301 : decode code 301 = .ok (.iadd, 1) := by decide +kernel
theorem dd_Law_law_302 : decode code 302 = .ok (.iaload, 1) := by decide +kernel
theorem dd_Law_law_303 : decode code 303 = .ok (.aload_n 0, 1) := by decide +kernel
theorem dd_Law_law_304 : decode code 304 = .ok (.iload_n 3, 1) := by decide +kernel
theorem dd_Law_law_305 : decode code 305 = .ok (.iconst 3, 1) := by decide +kernel
theorem dd_Law_law_306 : decode code 306 = .ok (.iadd, 1) := by decide +kernel
theorem dd_Law_law_307 : decode code 307 = .ok (.iaload, 1) := by decide +kernel
theorem dd_Law_law_308 : decode code 308 = .ok (.invokevirtual 23, 3) := by decide +kernel
theorem dd_Law_law_311 : decode code 311 = .ok (.aload_n 2, 1) := by decide +kernel
theorem dd_Law_law_312 : decode code 312 = .ok (.aload_n 0, 1) := by decide +kernel
theorem dd_Law_law_313 : decode code 313 = .ok (.iload_n 3, 1) := by decide +kernel
theorem dd_Law_law_314 : decode code 314 = .ok (.iconst 1, 1) := by decide +kernel
theorem dd_Law_law_315 : decode code 315 = .ok (.iadd, 1) := by decide +kernel
theorem dd_Law_law_316 : decode code 316 = .ok (.iaload, 1) := by decide +kernel
theorem dd_Law_law_317 : decode code 317 = .ok (.aload_n 0, 1) := by decide +kernel
theorem dd_Law_law_318 : decode code 318 = .ok (.iload_n 3, 1) := by decide +kernel
theorem dd_Law_law_319 : decode code 319 = .ok (.iconst 2, 1) := by decide +kernel
theorem dd_Law_law_320 : decode code 320 = .ok (.iadd, 1) := by decide +kernel
theorem dd_Law_law_321 : decode code 321 = .ok (.iaload, 1) := by decide +kernel
theorem dd_Law_law_322 : decode code 322 = .ok (.aload_n 0, 1) := by decide +kernel
theorem dd_Law_law_323 : decode code 323 = .ok (.iload_n 3, 1) := by decide +kernel
theorem dd_Law_law_324 : decode code 324 = .ok (.iconst 3, 1) := by decide +kernel
theorem dd_Law_law_325 : decode code 325 = .ok (.iadd, 1) := by decide +kernel
theorem dd_Law_law_326 : decode code 326 = .ok (.iaload, 1) := by decide +kernel
theorem dd_Law_law_327 : decode code 327 = .ok (.invokevirtual 26, 3) := by decide +kernel
theorem dd_Law_law_330 : decode code 330 = .ok (.if_icmp .eq 1153, 3) := by decide +kernel
theorem dd_Law_law_333 : decode code 333 = .ok (.iconst 0, 1) := by decide +kernel
theorem dd_Law_law_334 : decode code 334 = .ok (.ireturn, 1) := by decide +kernel
theorem dd_Law_law_259 : decode code 259 = .ok (.aload_n 1, 1) := by decide +kernel
theorem dd_Law_law_260 : decode code 260 = .ok (.aload_n 0, 1) := by decide +kernel
theorem dd_Law_law_261 : decode code 261 = .ok (.iload_n 3, 1) := by decide +kernel
theorem dd_Law_law_262 : decode code 262 = .ok (.iconst 1, 1) := by decide +kernel
theorem dd_Law_law_263 : decode code 263 = .ok (.iadd, 1) := by decide +kernel
theorem dd_Law_law_264 : decode code 264 = .ok (.iaload, 1) := by decide +kernel
theorem dd_Law_law_265 : decode code 265 = .ok (.aload_n 0, 1) := by decide +kernel
theorem dd_Law_law_266 : decode code 266 = .ok (.iload_n 3, 1) := by decide +kernel
theorem dd_Law_law_267 : decode code 267 = .ok (.iconst 2, 1) := by decide +kernel
theorem dd_Law_law_268 : decode code 268 = .ok (.iadd, 1) := by decide +kernel
theorem dd_Law_law_269 : decode code 269 = .ok (.iaload, 1) := by decide +kernel
theorem dd_Law_law_270 : decode code 270 = .ok (.invokevirtual 18, 3) := by decide +kernel
theorem dd_Law_law_273 : decode code 273 = .ok (.aload_n 2, 1) := by decide +kernel
theorem dd_Law_law_274 : decode code 274 = .ok (.aload_n 0, 1) := by decide +kernel
theorem dd_Law_law_275 : decode code 275 = .ok (.iload_n 3, 1) := by decide +kernel
theorem dd_Law_law_276 : decode code 276 = .ok (.iconst 1, 1) := by decide +kernel
theorem dd_Law_law_277 : decode code 277 = .ok (.iadd, 1) := by decide +kernel
theorem dd_Law_law_278 : decode code 278 = .ok (.iaload, 1) := by decide +kernel
theorem dd_Law_law_279 : decode code 279 = .ok (.aload_n 0, 1) := by decide +kernel
theorem dd_Law_law_280 : decode code 280 = .ok (.iload_n 3, 1) := by decide +kernel
theorem dd_Law_law_281 : decode code 281 = .ok (.iconst 2, 1) := by decide +kernel
theorem dd_Law_law_282 : decode code 282 = .ok (.iadd, 1) := by decide +kernel
theorem dd_Law_law_283 : decode code 283 = .ok (.iaload, 1) := by decide +kernel
theorem dd_Law_law_284 : decode code 284 = .ok (.invokevirtual 22, 3) := by decide +kernel
theorem dd_Law_law_287 : decode code 287 = .ok (.if_icmp .eq 1196, 3) := by decide +kernel
theorem dd_Law_law_290 : decode code 290 = .ok (.iconst 0, 1) := by decide +kernel
theorem dd_Law_law_291 : decode code 291 = .ok (.ireturn, 1) := by decide +kernel
theorem dd_Law_law_216 : decode code 216 = .ok (.aload_n 1, 1) := by decide +kernel
theorem dd_Law_law_217 : decode code 217 = .ok (.aload_n 0, 1) := by decide +kernel
theorem dd_Law_law_218 : decode code 218 = .ok (.iload_n 3, 1) := by decide +kernel
theorem dd_Law_law_219 : decode code 219 = .ok (.iconst 1, 1) := by decide +kernel
theorem dd_Law_law_220 : decode code 220 = .ok (.iadd, 1) := by decide +kernel
theorem dd_Law_law_221 : decode code 221 = .ok (.iaload, 1) := by decide +kernel
theorem dd_Law_law_222 : decode code 222 = .ok (.aload_n 0, 1) := by decide +kernel
theorem dd_Law_law_223 : decode code 223 = .ok (.iload_n 3, 1) := by decide +kernel
theorem dd_Law_law_224 : decode code 224 = .ok (.iconst 2, 1) := by decide +kernel
theorem dd_Law_law_225 : decode code 225 = .ok (.iadd, 1) := by decide +kernel
theorem dd_Law_law_226 : decode code 226 = .ok (.iaload, 1) := by decide +kernel
theorem dd_Law_law_227 : decode code 227 = .ok (.aload_n 0, 1) := by decide +kernel
theorem dd_Law_law_228 : decode code 228 = .ok (.iload_n 3, 1) := by decide +kernel
theorem dd_Law_law_229 : decode code 229 = .ok (.iconst 3, 1) := by decide +kernel
theorem dd_Law_law_230 : decode code 230 = .ok (.iadd, 1) := by decide +kernel
theorem dd_Law_law_231 : decode code 231 = .ok (.iaload, 1) := by decide +kernel
theorem dd_Law_law_232 : decode code 232 = .ok (.invokevirtual 13, 3) := by decide +kernel
theorem dd_Law_law_235 : decode code 235 = .ok (.aload_n 2, 1) := by decide +kernel
theorem dd_Law_law_236 : decode code 236 = .ok (.aload_n 0, 1) := by decide +kernel
theorem dd_Law_law_237 : decode code 237 = .ok (.iload_n 3, 1) := by decide +kernel
theorem dd_Law_law_238 : decode code 238 = .ok (.iconst 1, 1) := by decide +kernel
theorem dd_Law_law_239 : decode code 239 = .ok (.iadd, 1) := by decide +kernel
theorem dd_Law_law_240 : decode code 240 = .ok (.iaload, 1) := by decide +kernel
theorem dd_Law_law_241 : decode code 241 = .ok (.aload_n 0, 1) := by decide +kernel
theorem dd_Law_law_242 : decode code 242 = .ok (.iload_n 3, 1) := by decide +kernel
theorem dd_Law_law_243 : decode code 243 = .ok (.iconst 2, 1) := by decide +kernel
theorem dd_Law_law_244 : decode code 244 = .ok (.iadd, 1) := by decide +kernel
theorem dd_Law_law_245 : decode code 245 = .ok (.iaload, 1) := by decide +kernel
theorem dd_Law_law_246 : decode code 246 = .ok (.aload_n 0, 1) := by decide +kernel
theorem dd_Law_law_247 : decode code 247 = .ok (.iload_n 3, 1) := by decide +kernel
theorem dd_Law_law_248 : decode code 248 = .ok (.iconst 3, 1) := by decide +kernel
theorem dd_Law_law_249 : decode code 249 = .ok (.iadd, 1) := by decide +kernel
theorem dd_Law_law_250 : decode code 250 = .ok (.iaload, 1) := by decide +kernel
theorem dd_Law_law_251 : decode code 251 = .ok (.invokevirtual 17, 3) := by decide +kernel
theorem dd_Law_law_254 : decode code 254 = .ok (.if_icmp .eq 1229, 3) := by decide +kernel
theorem dd_Law_law_257 : decode code 257 = .ok (.iconst 0, 1) := by decide +kernel
theorem dd_Law_law_258 : decode code 258 = .ok (.ireturn, 1) := by decide +kernel
theorem dd_Law_law_1483 : decode code 1483 = .ok (.iinc 3 6, 3) := by decide +kernel
theorem dd_Law_law_1486 : decode code 1486 = .ok (.goto (-1468), 3) := by decide +kernel
theorem dd_Law_law_1489 : decode code 1489 = .ok (.iconst 1, 1) := by decide +kernel
theorem dd_Law_law_1490 : decode code 1490 = .ok (.ireturn, 1) := by decide +kernel
def jl_0 (L : Nat) (xs : Nat → Int32) (i : Int32) (x m : Option Nat) : sf_M ((Int32) ⊕ (Int32 ⊕ (Unit))) :=
  sf_bnd (sf_scr L xs (i + (1 : Int32))) fun x1 =>
  sf_bnd (sf_scr L xs (i + (2 : Int32))) fun x2 =>
  sf_bnd (sf_scr L xs (i + (3 : Int32))) fun x3 =>
  sf_bnd (sf_rc 0 x (jx_SF_train x x1 x2 x3)) fun x4 =>
  sf_bnd (sf_scr L xs (i + (1 : Int32))) fun x5 =>
  sf_bnd (sf_scr L xs (i + (2 : Int32))) fun x6 =>
  sf_bnd (sf_scr L xs (i + (3 : Int32))) fun x7 =>
  sf_bnd (sf_rc 11 m (jx_Mo_train m x5 x6 x7)) fun x8 =>
  if x4 = x8 then (
  sf_bnd (sf_ret (i + (6 : Int32))) fun y10 =>
  sf_ret (.inl y10)
  ) else (
  sf_ret (.inr (.inl (0 : Int32)))
  )
set_option maxRecDepth 20000 in
set_option maxHeartbeats 4000000 in
theorem fl_0 (X : sf_X) (L : Nat) (xs : Nat → Int32) (hS : sf_Scr X L xs) (i : Int32) (x m : Option Nat) : sf_Fr X sf_ZL (sf_p 216 [some (.double 60), some (sf_rv x), some (sf_rv m), some (.int i)] []) (jl_0 L xs i x m) (fun r => match r with
  | .inl b => sf_p 18 [some (.double 60), some (sf_rv x), some (sf_rv m), some (.int b)] []
  | .inr g => match g with
    | .inl a => .inr (some (.int a))
    | .inr _ => sf_p 1489 [some (.double 60), some (sf_rv x), some (sf_rv m), none] []) := by
  unfold jl_0
  refine fp_aload_n (i := 1) (r := x) dd_Law_law_216 rfl rfl (fr_pc (pc' := 217) rfl ?_)
  refine fp_aload_nd (i := 0) (x := 60) dd_Law_law_217 rfl rfl (fr_pc (pc' := 218) rfl ?_)
  refine fp_iload_n (i := 3) (x := i) dd_Law_law_218 rfl rfl (fr_pc (pc' := 219) rfl ?_)
  refine fp_iconst (v := (1 : Int32)) dd_Law_law_219 (by decide) (fr_pc (pc' := 220) rfl ?_)
  refine fp_iadd dd_Law_law_220 (fr_pc (pc' := 221) rfl ?_)
  refine fr_scr hS dd_Law_law_221 (fun x1 => fr_pc (pc' := 222) rfl ?_)
  refine fp_aload_nd (i := 0) (x := 60) dd_Law_law_222 rfl rfl (fr_pc (pc' := 223) rfl ?_)
  refine fp_iload_n (i := 3) (x := i) dd_Law_law_223 rfl rfl (fr_pc (pc' := 224) rfl ?_)
  refine fp_iconst (v := (2 : Int32)) dd_Law_law_224 (by decide) (fr_pc (pc' := 225) rfl ?_)
  refine fp_iadd dd_Law_law_225 (fr_pc (pc' := 226) rfl ?_)
  refine fr_scr hS dd_Law_law_226 (fun x2 => fr_pc (pc' := 227) rfl ?_)
  refine fp_aload_nd (i := 0) (x := 60) dd_Law_law_227 rfl rfl (fr_pc (pc' := 228) rfl ?_)
  refine fp_iload_n (i := 3) (x := i) dd_Law_law_228 rfl rfl (fr_pc (pc' := 229) rfl ?_)
  refine fp_iconst (v := (3 : Int32)) dd_Law_law_229 (by decide) (fr_pc (pc' := 230) rfl ?_)
  refine fp_iadd dd_Law_law_230 (fr_pc (pc' := 231) rfl ?_)
  refine fr_scr hS dd_Law_law_231 (fun x3 => fr_pc (pc' := 232) rfl ?_)
  refine fr_callV (stk := []) (As := [.int x1, .int x2, .int x3]) cl_0 (ok_SF_train x x1 x2 x3) mt_SF_train rfl rfl sw_356 sw_357 sw_358 (by decide) (Nat.le_of_ble_eq_true rfl) dd_Law_law_232 (fun x4 => fr_to (pc' := 235) (env' := [some (.double 60), some (sf_rv x), some (sf_rv m), some (.int i)]) (stk' := [.int x4]) rfl rfl rfl ?_)
  refine fp_aload_n (i := 2) (r := m) dd_Law_law_235 rfl rfl (fr_pc (pc' := 236) rfl ?_)
  refine fp_aload_nd (i := 0) (x := 60) dd_Law_law_236 rfl rfl (fr_pc (pc' := 237) rfl ?_)
  refine fp_iload_n (i := 3) (x := i) dd_Law_law_237 rfl rfl (fr_pc (pc' := 238) rfl ?_)
  refine fp_iconst (v := (1 : Int32)) dd_Law_law_238 (by decide) (fr_pc (pc' := 239) rfl ?_)
  refine fp_iadd dd_Law_law_239 (fr_pc (pc' := 240) rfl ?_)
  refine fr_scr hS dd_Law_law_240 (fun x5 => fr_pc (pc' := 241) rfl ?_)
  refine fp_aload_nd (i := 0) (x := 60) dd_Law_law_241 rfl rfl (fr_pc (pc' := 242) rfl ?_)
  refine fp_iload_n (i := 3) (x := i) dd_Law_law_242 rfl rfl (fr_pc (pc' := 243) rfl ?_)
  refine fp_iconst (v := (2 : Int32)) dd_Law_law_243 (by decide) (fr_pc (pc' := 244) rfl ?_)
  refine fp_iadd dd_Law_law_244 (fr_pc (pc' := 245) rfl ?_)
  refine fr_scr hS dd_Law_law_245 (fun x6 => fr_pc (pc' := 246) rfl ?_)
  refine fp_aload_nd (i := 0) (x := 60) dd_Law_law_246 rfl rfl (fr_pc (pc' := 247) rfl ?_)
  refine fp_iload_n (i := 3) (x := i) dd_Law_law_247 rfl rfl (fr_pc (pc' := 248) rfl ?_)
  refine fp_iconst (v := (3 : Int32)) dd_Law_law_248 (by decide) (fr_pc (pc' := 249) rfl ?_)
  refine fp_iadd dd_Law_law_249 (fr_pc (pc' := 250) rfl ?_)
  refine fr_scr hS dd_Law_law_250 (fun x7 => fr_pc (pc' := 251) rfl ?_)
  refine fr_callV (stk := [.int x4]) (As := [.int x5, .int x6, .int x7]) cl_11 (ok_Mo_train m x5 x6 x7) mt_Mo_train rfl rfl sw_1256 sw_1257 sw_1258 (by decide) (Nat.le_of_ble_eq_true rfl) dd_Law_law_251 (fun x8 => fr_to (pc' := 254) (env' := [some (.double 60), some (sf_rv x), some (sf_rv m), some (.int i)]) (stk' := [.int x8, .int x4]) rfl rfl rfl ?_)
  refine fr_icmp_eq (tgt := 1483) dd_Law_law_254 rfl (fun _ => ?_) (fun _ => ?_)
  · refine fr_niinc (i := 3) (x := i) (w := (6 : Int32)) dd_Law_law_1483 rfl (by decide) (Nat.le_of_ble_eq_true rfl) (fun _ => c1_r rfl) (fun y10 => fr_to (pc' := 1486) (env' := [some (.double 60), some (sf_rv x), some (sf_rv m), some (.int y10)]) (stk' := []) rfl rfl rfl ?_)
    refine fp_goto (tgt := 18) dd_Law_law_1486 rfl ?_
    exact fr_ret rfl
  · refine fr_pc (pc' := 257) rfl ?_
    refine fp_iconst (v := (0 : Int32)) dd_Law_law_257 (by decide) (fr_pc (pc' := 258) rfl ?_)
    exact fr_zret0 (v := (0 : Int32)) (Or.inl rfl) rfl rfl dd_Law_law_258
def jl_1 (L : Nat) (xs : Nat → Int32) (i : Int32) (x m : Option Nat) : sf_M ((Int32) ⊕ (Int32 ⊕ (Unit))) :=
  sf_bnd (sf_scr L xs (i + (1 : Int32))) fun x1 =>
  sf_bnd (sf_scr L xs (i + (2 : Int32))) fun x2 =>
  sf_bnd (sf_rc 0 x (jx_SF_of x x1 x2)) fun x3 =>
  sf_bnd (sf_scr L xs (i + (1 : Int32))) fun x4 =>
  sf_bnd (sf_scr L xs (i + (2 : Int32))) fun x5 =>
  sf_bnd (sf_rc 11 m (jx_Mo_of m x4 x5)) fun x6 =>
  if x3 = x6 then (
  sf_bnd (sf_ret (i + (6 : Int32))) fun y8 =>
  sf_ret (.inl y8)
  ) else (
  sf_ret (.inr (.inl (0 : Int32)))
  )
set_option maxRecDepth 20000 in
set_option maxHeartbeats 4000000 in
theorem fl_1 (X : sf_X) (L : Nat) (xs : Nat → Int32) (hS : sf_Scr X L xs) (i : Int32) (x m : Option Nat) : sf_Fr X sf_ZL (sf_p 259 [some (.double 60), some (sf_rv x), some (sf_rv m), some (.int i)] []) (jl_1 L xs i x m) (fun r => match r with
  | .inl b => sf_p 18 [some (.double 60), some (sf_rv x), some (sf_rv m), some (.int b)] []
  | .inr g => match g with
    | .inl a => .inr (some (.int a))
    | .inr _ => sf_p 1489 [some (.double 60), some (sf_rv x), some (sf_rv m), none] []) := by
  unfold jl_1
  refine fp_aload_n (i := 1) (r := x) dd_Law_law_259 rfl rfl (fr_pc (pc' := 260) rfl ?_)
  refine fp_aload_nd (i := 0) (x := 60) dd_Law_law_260 rfl rfl (fr_pc (pc' := 261) rfl ?_)
  refine fp_iload_n (i := 3) (x := i) dd_Law_law_261 rfl rfl (fr_pc (pc' := 262) rfl ?_)
  refine fp_iconst (v := (1 : Int32)) dd_Law_law_262 (by decide) (fr_pc (pc' := 263) rfl ?_)
  refine fp_iadd dd_Law_law_263 (fr_pc (pc' := 264) rfl ?_)
  refine fr_scr hS dd_Law_law_264 (fun x1 => fr_pc (pc' := 265) rfl ?_)
  refine fp_aload_nd (i := 0) (x := 60) dd_Law_law_265 rfl rfl (fr_pc (pc' := 266) rfl ?_)
  refine fp_iload_n (i := 3) (x := i) dd_Law_law_266 rfl rfl (fr_pc (pc' := 267) rfl ?_)
  refine fp_iconst (v := (2 : Int32)) dd_Law_law_267 (by decide) (fr_pc (pc' := 268) rfl ?_)
  refine fp_iadd dd_Law_law_268 (fr_pc (pc' := 269) rfl ?_)
  refine fr_scr hS dd_Law_law_269 (fun x2 => fr_pc (pc' := 270) rfl ?_)
  refine fr_callV (stk := []) (As := [.int x1, .int x2]) cl_0 (ok_SF_of x x1 x2) mt_SF_of rfl rfl sw_382 sw_383 sw_384 (by decide) (Nat.le_of_ble_eq_true rfl) dd_Law_law_270 (fun x3 => fr_to (pc' := 273) (env' := [some (.double 60), some (sf_rv x), some (sf_rv m), some (.int i)]) (stk' := [.int x3]) rfl rfl rfl ?_)
  refine fp_aload_n (i := 2) (r := m) dd_Law_law_273 rfl rfl (fr_pc (pc' := 274) rfl ?_)
  refine fp_aload_nd (i := 0) (x := 60) dd_Law_law_274 rfl rfl (fr_pc (pc' := 275) rfl ?_)
  refine fp_iload_n (i := 3) (x := i) dd_Law_law_275 rfl rfl (fr_pc (pc' := 276) rfl ?_)
  refine fp_iconst (v := (1 : Int32)) dd_Law_law_276 (by decide) (fr_pc (pc' := 277) rfl ?_)
  refine fp_iadd dd_Law_law_277 (fr_pc (pc' := 278) rfl ?_)
  refine fr_scr hS dd_Law_law_278 (fun x4 => fr_pc (pc' := 279) rfl ?_)
  refine fp_aload_nd (i := 0) (x := 60) dd_Law_law_279 rfl rfl (fr_pc (pc' := 280) rfl ?_)
  refine fp_iload_n (i := 3) (x := i) dd_Law_law_280 rfl rfl (fr_pc (pc' := 281) rfl ?_)
  refine fp_iconst (v := (2 : Int32)) dd_Law_law_281 (by decide) (fr_pc (pc' := 282) rfl ?_)
  refine fp_iadd dd_Law_law_282 (fr_pc (pc' := 283) rfl ?_)
  refine fr_scr hS dd_Law_law_283 (fun x5 => fr_pc (pc' := 284) rfl ?_)
  refine fr_callV (stk := [.int x3]) (As := [.int x4, .int x5]) cl_11 (ok_Mo_of m x4 x5) mt_Mo_of rfl rfl sw_1270 sw_1271 sw_1272 (by decide) (Nat.le_of_ble_eq_true rfl) dd_Law_law_284 (fun x6 => fr_to (pc' := 287) (env' := [some (.double 60), some (sf_rv x), some (sf_rv m), some (.int i)]) (stk' := [.int x6, .int x3]) rfl rfl rfl ?_)
  refine fr_icmp_eq (tgt := 1483) dd_Law_law_287 rfl (fun _ => ?_) (fun _ => ?_)
  · refine fr_niinc (i := 3) (x := i) (w := (6 : Int32)) dd_Law_law_1483 rfl (by decide) (Nat.le_of_ble_eq_true rfl) (fun _ => c1_r rfl) (fun y8 => fr_to (pc' := 1486) (env' := [some (.double 60), some (sf_rv x), some (sf_rv m), some (.int y8)]) (stk' := []) rfl rfl rfl ?_)
    refine fp_goto (tgt := 18) dd_Law_law_1486 rfl ?_
    exact fr_ret rfl
  · refine fr_pc (pc' := 290) rfl ?_
    refine fp_iconst (v := (0 : Int32)) dd_Law_law_290 (by decide) (fr_pc (pc' := 291) rfl ?_)
    exact fr_zret0 (v := (0 : Int32)) (Or.inl rfl) rfl rfl dd_Law_law_291
def jl_2 (L : Nat) (xs : Nat → Int32) (i : Int32) (x m : Option Nat) : sf_M ((Int32) ⊕ (Int32 ⊕ (Unit))) :=
  sf_bnd (sf_scr L xs (i + (1 : Int32))) fun x1 =>
  sf_bnd (sf_scr L xs (i + (2 : Int32))) fun x2 =>
  sf_bnd (sf_scr L xs (i + (3 : Int32))) fun x3 =>
  sf_bnd (sf_rc 0 x (jx_SF_price x x1 x2 x3)) fun x4 =>
  sf_bnd (sf_scr L xs (i + (1 : Int32))) fun x5 =>
  sf_bnd (sf_scr L xs (i + (2 : Int32))) fun x6 =>
  sf_bnd (sf_scr L xs (i + (3 : Int32))) fun x7 =>
  sf_bnd (sf_rc 11 m (jx_Mo_price m x5 x6 x7)) fun x8 =>
  if x4 = x8 then (
  sf_bnd (sf_ret (i + (6 : Int32))) fun y10 =>
  sf_ret (.inl y10)
  ) else (
  sf_ret (.inr (.inl (0 : Int32)))
  )
set_option maxRecDepth 20000 in
set_option maxHeartbeats 4000000 in
theorem fl_2 (X : sf_X) (L : Nat) (xs : Nat → Int32) (hS : sf_Scr X L xs) (i : Int32) (x m : Option Nat) : sf_Fr X sf_ZL (sf_p 292 [some (.double 60), some (sf_rv x), some (sf_rv m), some (.int i)] []) (jl_2 L xs i x m) (fun r => match r with
  | .inl b => sf_p 18 [some (.double 60), some (sf_rv x), some (sf_rv m), some (.int b)] []
  | .inr g => match g with
    | .inl a => .inr (some (.int a))
    | .inr _ => sf_p 1489 [some (.double 60), some (sf_rv x), some (sf_rv m), none] []) := by
  unfold jl_2
  refine fp_aload_n (i := 1) (r := x) dd_Law_law_292 rfl rfl (fr_pc (pc' := 293) rfl ?_)
  refine fp_aload_nd (i := 0) (x := 60) dd_Law_law_293 rfl rfl (fr_pc (pc' := 294) rfl ?_)
  refine fp_iload_n (i := 3) (x := i) dd_Law_law_294 rfl rfl (fr_pc (pc' := 295) rfl ?_)
  refine fp_iconst (v := (1 : Int32)) dd_Law_law_295 (by decide) (fr_pc (pc' := 296) rfl ?_)
  refine fp_iadd dd_Law_law_296 (fr_pc (pc' := 297) rfl ?_)
  refine fr_scr hS dd_Law_law_297 (fun x1 => fr_pc (pc' := 298) rfl ?_)
  refine fp_aload_nd (i := 0) (x := 60) dd_Law_law_298 rfl rfl (fr_pc (pc' := 299) rfl ?_)
  refine fp_iload_n (i := 3) (x := i) dd_Law_law_299 rfl rfl (fr_pc (pc' := 300) rfl ?_)
  refine fp_iconst (v := (2 : Int32)) dd_Law_law_300 (by decide) (fr_pc (pc' := 301) rfl ?_)
  refine fp_iadd dd_Law_law_301 (fr_pc (pc' := 302) rfl ?_)
  refine fr_scr hS dd_Law_law_302 (fun x2 => fr_pc (pc' := 303) rfl ?_)
  refine fp_aload_nd (i := 0) (x := 60) dd_Law_law_303 rfl rfl (fr_pc (pc' := 304) rfl ?_)
  refine fp_iload_n (i := 3) (x := i) dd_Law_law_304 rfl rfl (fr_pc (pc' := 305) rfl ?_)
  refine fp_iconst (v := (3 : Int32)) dd_Law_law_305 (by decide) (fr_pc (pc' := 306) rfl ?_)
  refine fp_iadd dd_Law_law_306 (fr_pc (pc' := 307) rfl ?_)
  refine fr_scr hS dd_Law_law_307 (fun x3 => fr_pc (pc' := 308) rfl ?_)
  refine fr_callV (stk := []) (As := [.int x1, .int x2, .int x3]) cl_0 (ok_SF_price x x1 x2 x3) mt_SF_price rfl rfl sw_390 sw_391 sw_392 (by decide) (Nat.le_of_ble_eq_true rfl) dd_Law_law_308 (fun x4 => fr_to (pc' := 311) (env' := [some (.double 60), some (sf_rv x), some (sf_rv m), some (.int i)]) (stk' := [.int x4]) rfl rfl rfl ?_)
  refine fp_aload_n (i := 2) (r := m) dd_Law_law_311 rfl rfl (fr_pc (pc' := 312) rfl ?_)
  refine fp_aload_nd (i := 0) (x := 60) dd_Law_law_312 rfl rfl (fr_pc (pc' := 313) rfl ?_)
  refine fp_iload_n (i := 3) (x := i) dd_Law_law_313 rfl rfl (fr_pc (pc' := 314) rfl ?_)
  refine fp_iconst (v := (1 : Int32)) dd_Law_law_314 (by decide) (fr_pc (pc' := 315) rfl ?_)
  refine fp_iadd dd_Law_law_315 (fr_pc (pc' := 316) rfl ?_)
  refine fr_scr hS dd_Law_law_316 (fun x5 => fr_pc (pc' := 317) rfl ?_)
  refine fp_aload_nd (i := 0) (x := 60) dd_Law_law_317 rfl rfl (fr_pc (pc' := 318) rfl ?_)
  refine fp_iload_n (i := 3) (x := i) dd_Law_law_318 rfl rfl (fr_pc (pc' := 319) rfl ?_)
  refine fp_iconst (v := (2 : Int32)) dd_Law_law_319 (by decide) (fr_pc (pc' := 320) rfl ?_)
  refine fp_iadd dd_Law_law_320 (fr_pc (pc' := 321) rfl ?_)
  refine fr_scr hS dd_Law_law_321 (fun x6 => fr_pc (pc' := 322) rfl ?_)
  refine fp_aload_nd (i := 0) (x := 60) dd_Law_law_322 rfl rfl (fr_pc (pc' := 323) rfl ?_)
  refine fp_iload_n (i := 3) (x := i) dd_Law_law_323 rfl rfl (fr_pc (pc' := 324) rfl ?_)
  refine fp_iconst (v := (3 : Int32)) dd_Law_law_324 (by decide) (fr_pc (pc' := 325) rfl ?_)
  refine fp_iadd dd_Law_law_325 (fr_pc (pc' := 326) rfl ?_)
  refine fr_scr hS dd_Law_law_326 (fun x7 => fr_pc (pc' := 327) rfl ?_)
  refine fr_callV (stk := [.int x4]) (As := [.int x5, .int x6, .int x7]) cl_11 (ok_Mo_price m x5 x6 x7) mt_Mo_price rfl rfl sw_1426 sw_1427 sw_1428 (by decide) (Nat.le_of_ble_eq_true rfl) dd_Law_law_327 (fun x8 => fr_to (pc' := 330) (env' := [some (.double 60), some (sf_rv x), some (sf_rv m), some (.int i)]) (stk' := [.int x8, .int x4]) rfl rfl rfl ?_)
  refine fr_icmp_eq (tgt := 1483) dd_Law_law_330 rfl (fun _ => ?_) (fun _ => ?_)
  · refine fr_niinc (i := 3) (x := i) (w := (6 : Int32)) dd_Law_law_1483 rfl (by decide) (Nat.le_of_ble_eq_true rfl) (fun _ => c1_r rfl) (fun y10 => fr_to (pc' := 1486) (env' := [some (.double 60), some (sf_rv x), some (sf_rv m), some (.int y10)]) (stk' := []) rfl rfl rfl ?_)
    refine fp_goto (tgt := 18) dd_Law_law_1486 rfl ?_
    exact fr_ret rfl
  · refine fr_pc (pc' := 333) rfl ?_
    refine fp_iconst (v := (0 : Int32)) dd_Law_law_333 (by decide) (fr_pc (pc' := 334) rfl ?_)
    exact fr_zret0 (v := (0 : Int32)) (Or.inl rfl) rfl rfl dd_Law_law_334
def jl_3 (L : Nat) (xs : Nat → Int32) (i : Int32) (x m : Option Nat) : sf_M ((Int32) ⊕ (Int32 ⊕ (Unit))) :=
  sf_bnd (sf_scr L xs (i + (1 : Int32))) fun x1 =>
  sf_bnd (sf_scr L xs (i + (2 : Int32))) fun x2 =>
  sf_bnd (sf_scr L xs (i + (3 : Int32))) fun x3 =>
  sf_bnd (sf_scr L xs (i + (4 : Int32))) fun x4 =>
  sf_bnd (sf_rc 0 x (jx_SF_isBarred x x1 x2 x3 x4)) fun x5 =>
  sf_bnd (sf_scr L xs (i + (1 : Int32))) fun x6 =>
  sf_bnd (sf_scr L xs (i + (2 : Int32))) fun x7 =>
  sf_bnd (sf_scr L xs (i + (3 : Int32))) fun x8 =>
  sf_bnd (sf_scr L xs (i + (4 : Int32))) fun x9 =>
  sf_bnd (sf_rc 11 m (jx_Mo_isBarred m x6 x7 x8 x9)) fun x10 =>
  if x5 = x10 then (
  sf_bnd (sf_ret (i + (6 : Int32))) fun y12 =>
  sf_ret (.inl y12)
  ) else (
  sf_ret (.inr (.inl (0 : Int32)))
  )
set_option maxRecDepth 20000 in
set_option maxHeartbeats 4000000 in
theorem fl_3 (X : sf_X) (L : Nat) (xs : Nat → Int32) (hS : sf_Scr X L xs) (i : Int32) (x m : Option Nat) : sf_Fr X sf_ZL (sf_p 335 [some (.double 60), some (sf_rv x), some (sf_rv m), some (.int i)] []) (jl_3 L xs i x m) (fun r => match r with
  | .inl b => sf_p 18 [some (.double 60), some (sf_rv x), some (sf_rv m), some (.int b)] []
  | .inr g => match g with
    | .inl a => .inr (some (.int a))
    | .inr _ => sf_p 1489 [some (.double 60), some (sf_rv x), some (sf_rv m), none] []) := by
  unfold jl_3
  refine fp_aload_n (i := 1) (r := x) dd_Law_law_335 rfl rfl (fr_pc (pc' := 336) rfl ?_)
  refine fp_aload_nd (i := 0) (x := 60) dd_Law_law_336 rfl rfl (fr_pc (pc' := 337) rfl ?_)
  refine fp_iload_n (i := 3) (x := i) dd_Law_law_337 rfl rfl (fr_pc (pc' := 338) rfl ?_)
  refine fp_iconst (v := (1 : Int32)) dd_Law_law_338 (by decide) (fr_pc (pc' := 339) rfl ?_)
  refine fp_iadd dd_Law_law_339 (fr_pc (pc' := 340) rfl ?_)
  refine fr_scr hS dd_Law_law_340 (fun x1 => fr_pc (pc' := 341) rfl ?_)
  refine fp_aload_nd (i := 0) (x := 60) dd_Law_law_341 rfl rfl (fr_pc (pc' := 342) rfl ?_)
  refine fp_iload_n (i := 3) (x := i) dd_Law_law_342 rfl rfl (fr_pc (pc' := 343) rfl ?_)
  refine fp_iconst (v := (2 : Int32)) dd_Law_law_343 (by decide) (fr_pc (pc' := 344) rfl ?_)
  refine fp_iadd dd_Law_law_344 (fr_pc (pc' := 345) rfl ?_)
  refine fr_scr hS dd_Law_law_345 (fun x2 => fr_pc (pc' := 346) rfl ?_)
  refine fp_aload_nd (i := 0) (x := 60) dd_Law_law_346 rfl rfl (fr_pc (pc' := 347) rfl ?_)
  refine fp_iload_n (i := 3) (x := i) dd_Law_law_347 rfl rfl (fr_pc (pc' := 348) rfl ?_)
  refine fp_iconst (v := (3 : Int32)) dd_Law_law_348 (by decide) (fr_pc (pc' := 349) rfl ?_)
  refine fp_iadd dd_Law_law_349 (fr_pc (pc' := 350) rfl ?_)
  refine fr_scr hS dd_Law_law_350 (fun x3 => fr_pc (pc' := 351) rfl ?_)
  refine fp_aload_nd (i := 0) (x := 60) dd_Law_law_351 rfl rfl (fr_pc (pc' := 352) rfl ?_)
  refine fp_iload_n (i := 3) (x := i) dd_Law_law_352 rfl rfl (fr_pc (pc' := 353) rfl ?_)
  refine fp_iconst (v := (4 : Int32)) dd_Law_law_353 (by decide) (fr_pc (pc' := 354) rfl ?_)
  refine fp_iadd dd_Law_law_354 (fr_pc (pc' := 355) rfl ?_)
  refine fr_scr hS dd_Law_law_355 (fun x4 => fr_pc (pc' := 356) rfl ?_)
  refine fr_callV (stk := []) (As := [.int x1, .int x2, .int x3, .int x4]) cl_0 (ok_SF_isBarred x x1 x2 x3 x4) mt_SF_isBarred rfl rfl sw_459 sw_460 sw_461 (by decide) (Nat.le_of_ble_eq_true rfl) dd_Law_law_356 (fun x5 => fr_to (pc' := 359) (env' := [some (.double 60), some (sf_rv x), some (sf_rv m), some (.int i)]) (stk' := [.int x5]) rfl rfl rfl ?_)
  refine fp_aload_n (i := 2) (r := m) dd_Law_law_359 rfl rfl (fr_pc (pc' := 360) rfl ?_)
  refine fp_aload_nd (i := 0) (x := 60) dd_Law_law_360 rfl rfl (fr_pc (pc' := 361) rfl ?_)
  refine fp_iload_n (i := 3) (x := i) dd_Law_law_361 rfl rfl (fr_pc (pc' := 362) rfl ?_)
  refine fp_iconst (v := (1 : Int32)) dd_Law_law_362 (by decide) (fr_pc (pc' := 363) rfl ?_)
  refine fp_iadd dd_Law_law_363 (fr_pc (pc' := 364) rfl ?_)
  refine fr_scr hS dd_Law_law_364 (fun x6 => fr_pc (pc' := 365) rfl ?_)
  refine fp_aload_nd (i := 0) (x := 60) dd_Law_law_365 rfl rfl (fr_pc (pc' := 366) rfl ?_)
  refine fp_iload_n (i := 3) (x := i) dd_Law_law_366 rfl rfl (fr_pc (pc' := 367) rfl ?_)
  refine fp_iconst (v := (2 : Int32)) dd_Law_law_367 (by decide) (fr_pc (pc' := 368) rfl ?_)
  refine fp_iadd dd_Law_law_368 (fr_pc (pc' := 369) rfl ?_)
  refine fr_scr hS dd_Law_law_369 (fun x7 => fr_pc (pc' := 370) rfl ?_)
  refine fp_aload_nd (i := 0) (x := 60) dd_Law_law_370 rfl rfl (fr_pc (pc' := 371) rfl ?_)
  refine fp_iload_n (i := 3) (x := i) dd_Law_law_371 rfl rfl (fr_pc (pc' := 372) rfl ?_)
  refine fp_iconst (v := (3 : Int32)) dd_Law_law_372 (by decide) (fr_pc (pc' := 373) rfl ?_)
  refine fp_iadd dd_Law_law_373 (fr_pc (pc' := 374) rfl ?_)
  refine fr_scr hS dd_Law_law_374 (fun x8 => fr_pc (pc' := 375) rfl ?_)
  refine fp_aload_nd (i := 0) (x := 60) dd_Law_law_375 rfl rfl (fr_pc (pc' := 376) rfl ?_)
  refine fp_iload_n (i := 3) (x := i) dd_Law_law_376 rfl rfl (fr_pc (pc' := 377) rfl ?_)
  refine fp_iconst (v := (4 : Int32)) dd_Law_law_377 (by decide) (fr_pc (pc' := 378) rfl ?_)
  refine fp_iadd dd_Law_law_378 (fr_pc (pc' := 379) rfl ?_)
  refine fr_scr hS dd_Law_law_379 (fun x9 => fr_pc (pc' := 380) rfl ?_)
  refine fr_callV (stk := [.int x5]) (As := [.int x6, .int x7, .int x8, .int x9]) cl_11 (ok_Mo_isBarred m x6 x7 x8 x9) mt_Mo_isBarred rfl rfl sw_1500 sw_1501 sw_1502 (by decide) (Nat.le_of_ble_eq_true rfl) dd_Law_law_380 (fun x10 => fr_to (pc' := 383) (env' := [some (.double 60), some (sf_rv x), some (sf_rv m), some (.int i)]) (stk' := [.int x10, .int x5]) rfl rfl rfl ?_)
  refine fr_icmp_eq (tgt := 1483) dd_Law_law_383 rfl (fun _ => ?_) (fun _ => ?_)
  · refine fr_niinc (i := 3) (x := i) (w := (6 : Int32)) dd_Law_law_1483 rfl (by decide) (Nat.le_of_ble_eq_true rfl) (fun _ => c1_r rfl) (fun y12 => fr_to (pc' := 1486) (env' := [some (.double 60), some (sf_rv x), some (sf_rv m), some (.int y12)]) (stk' := []) rfl rfl rfl ?_)
    refine fp_goto (tgt := 18) dd_Law_law_1486 rfl ?_
    exact fr_ret rfl
  · refine fr_pc (pc' := 386) rfl ?_
    refine fp_iconst (v := (0 : Int32)) dd_Law_law_386 (by decide) (fr_pc (pc' := 387) rfl ?_)
    exact fr_zret0 (v := (0 : Int32)) (Or.inl rfl) rfl rfl dd_Law_law_387
def jl_4 (L : Nat) (xs : Nat → Int32) (i : Int32) (x m : Option Nat) : sf_M ((Int32) ⊕ (Int32 ⊕ (Unit))) :=
  sf_bnd (sf_scr L xs (i + (1 : Int32))) fun x1 =>
  sf_bnd (sf_scr L xs (i + (2 : Int32))) fun x2 =>
  sf_bnd (sf_scr L xs (i + (3 : Int32))) fun x3 =>
  sf_bnd (sf_rc 0 x (jx_SF_held x x1 x2 x3)) fun x4 =>
  sf_bnd (sf_scr L xs (i + (1 : Int32))) fun x5 =>
  sf_bnd (sf_scr L xs (i + (2 : Int32))) fun x6 =>
  sf_bnd (sf_scr L xs (i + (3 : Int32))) fun x7 =>
  sf_bnd (sf_rc 11 m (jx_Mo_held m x5 x6 x7)) fun x8 =>
  if x4 = x8 then (
  sf_bnd (sf_ret (i + (6 : Int32))) fun y10 =>
  sf_ret (.inl y10)
  ) else (
  sf_ret (.inr (.inl (0 : Int32)))
  )
set_option maxRecDepth 20000 in
set_option maxHeartbeats 4000000 in
theorem fl_4 (X : sf_X) (L : Nat) (xs : Nat → Int32) (hS : sf_Scr X L xs) (i : Int32) (x m : Option Nat) : sf_Fr X sf_ZL (sf_p 388 [some (.double 60), some (sf_rv x), some (sf_rv m), some (.int i)] []) (jl_4 L xs i x m) (fun r => match r with
  | .inl b => sf_p 18 [some (.double 60), some (sf_rv x), some (sf_rv m), some (.int b)] []
  | .inr g => match g with
    | .inl a => .inr (some (.int a))
    | .inr _ => sf_p 1489 [some (.double 60), some (sf_rv x), some (sf_rv m), none] []) := by
  unfold jl_4
  refine fp_aload_n (i := 1) (r := x) dd_Law_law_388 rfl rfl (fr_pc (pc' := 389) rfl ?_)
  refine fp_aload_nd (i := 0) (x := 60) dd_Law_law_389 rfl rfl (fr_pc (pc' := 390) rfl ?_)
  refine fp_iload_n (i := 3) (x := i) dd_Law_law_390 rfl rfl (fr_pc (pc' := 391) rfl ?_)
  refine fp_iconst (v := (1 : Int32)) dd_Law_law_391 (by decide) (fr_pc (pc' := 392) rfl ?_)
  refine fp_iadd dd_Law_law_392 (fr_pc (pc' := 393) rfl ?_)
  refine fr_scr hS dd_Law_law_393 (fun x1 => fr_pc (pc' := 394) rfl ?_)
  refine fp_aload_nd (i := 0) (x := 60) dd_Law_law_394 rfl rfl (fr_pc (pc' := 395) rfl ?_)
  refine fp_iload_n (i := 3) (x := i) dd_Law_law_395 rfl rfl (fr_pc (pc' := 396) rfl ?_)
  refine fp_iconst (v := (2 : Int32)) dd_Law_law_396 (by decide) (fr_pc (pc' := 397) rfl ?_)
  refine fp_iadd dd_Law_law_397 (fr_pc (pc' := 398) rfl ?_)
  refine fr_scr hS dd_Law_law_398 (fun x2 => fr_pc (pc' := 399) rfl ?_)
  refine fp_aload_nd (i := 0) (x := 60) dd_Law_law_399 rfl rfl (fr_pc (pc' := 400) rfl ?_)
  refine fp_iload_n (i := 3) (x := i) dd_Law_law_400 rfl rfl (fr_pc (pc' := 401) rfl ?_)
  refine fp_iconst (v := (3 : Int32)) dd_Law_law_401 (by decide) (fr_pc (pc' := 402) rfl ?_)
  refine fp_iadd dd_Law_law_402 (fr_pc (pc' := 403) rfl ?_)
  refine fr_scr hS dd_Law_law_403 (fun x3 => fr_pc (pc' := 404) rfl ?_)
  refine fr_callV (stk := []) (As := [.int x1, .int x2, .int x3]) cl_0 (ok_SF_held x x1 x2 x3) mt_SF_held rfl rfl sw_468 sw_469 sw_470 (by decide) (Nat.le_of_ble_eq_true rfl) dd_Law_law_404 (fun x4 => fr_to (pc' := 407) (env' := [some (.double 60), some (sf_rv x), some (sf_rv m), some (.int i)]) (stk' := [.int x4]) rfl rfl rfl ?_)
  refine fp_aload_n (i := 2) (r := m) dd_Law_law_407 rfl rfl (fr_pc (pc' := 408) rfl ?_)
  refine fp_aload_nd (i := 0) (x := 60) dd_Law_law_408 rfl rfl (fr_pc (pc' := 409) rfl ?_)
  refine fp_iload_n (i := 3) (x := i) dd_Law_law_409 rfl rfl (fr_pc (pc' := 410) rfl ?_)
  refine fp_iconst (v := (1 : Int32)) dd_Law_law_410 (by decide) (fr_pc (pc' := 411) rfl ?_)
  refine fp_iadd dd_Law_law_411 (fr_pc (pc' := 412) rfl ?_)
  refine fr_scr hS dd_Law_law_412 (fun x5 => fr_pc (pc' := 413) rfl ?_)
  refine fp_aload_nd (i := 0) (x := 60) dd_Law_law_413 rfl rfl (fr_pc (pc' := 414) rfl ?_)
  refine fp_iload_n (i := 3) (x := i) dd_Law_law_414 rfl rfl (fr_pc (pc' := 415) rfl ?_)
  refine fp_iconst (v := (2 : Int32)) dd_Law_law_415 (by decide) (fr_pc (pc' := 416) rfl ?_)
  refine fp_iadd dd_Law_law_416 (fr_pc (pc' := 417) rfl ?_)
  refine fr_scr hS dd_Law_law_417 (fun x6 => fr_pc (pc' := 418) rfl ?_)
  refine fp_aload_nd (i := 0) (x := 60) dd_Law_law_418 rfl rfl (fr_pc (pc' := 419) rfl ?_)
  refine fp_iload_n (i := 3) (x := i) dd_Law_law_419 rfl rfl (fr_pc (pc' := 420) rfl ?_)
  refine fp_iconst (v := (3 : Int32)) dd_Law_law_420 (by decide) (fr_pc (pc' := 421) rfl ?_)
  refine fp_iadd dd_Law_law_421 (fr_pc (pc' := 422) rfl ?_)
  refine fr_scr hS dd_Law_law_422 (fun x7 => fr_pc (pc' := 423) rfl ?_)
  refine fr_callV (stk := [.int x4]) (As := [.int x5, .int x6, .int x7]) cl_11 (ok_Mo_held m x5 x6 x7) mt_Mo_held rfl rfl sw_1278 sw_1279 sw_1280 (by decide) (Nat.le_of_ble_eq_true rfl) dd_Law_law_423 (fun x8 => fr_to (pc' := 426) (env' := [some (.double 60), some (sf_rv x), some (sf_rv m), some (.int i)]) (stk' := [.int x8, .int x4]) rfl rfl rfl ?_)
  refine fr_icmp_eq (tgt := 1483) dd_Law_law_426 rfl (fun _ => ?_) (fun _ => ?_)
  · refine fr_niinc (i := 3) (x := i) (w := (6 : Int32)) dd_Law_law_1483 rfl (by decide) (Nat.le_of_ble_eq_true rfl) (fun _ => c1_r rfl) (fun y10 => fr_to (pc' := 1486) (env' := [some (.double 60), some (sf_rv x), some (sf_rv m), some (.int y10)]) (stk' := []) rfl rfl rfl ?_)
    refine fp_goto (tgt := 18) dd_Law_law_1486 rfl ?_
    exact fr_ret rfl
  · refine fr_pc (pc' := 429) rfl ?_
    refine fp_iconst (v := (0 : Int32)) dd_Law_law_429 (by decide) (fr_pc (pc' := 430) rfl ?_)
    exact fr_zret0 (v := (0 : Int32)) (Or.inl rfl) rfl rfl dd_Law_law_430
def jl_5 (L : Nat) (xs : Nat → Int32) (i : Int32) (x m : Option Nat) : sf_M ((Int32) ⊕ (Int32 ⊕ (Unit))) :=
  sf_bnd (sf_scr L xs (i + (1 : Int32))) fun x1 =>
  sf_bnd (sf_scr L xs (i + (2 : Int32))) fun x2 =>
  sf_bnd (sf_rc 0 x (jx_SF_terms x x1 x2)) fun x3 =>
  sf_bnd (sf_scr L xs (i + (1 : Int32))) fun x4 =>
  sf_bnd (sf_scr L xs (i + (2 : Int32))) fun x5 =>
  sf_bnd (sf_rc 11 m (jx_Mo_terms m x4 x5)) fun x6 =>
  if x3 = x6 then (
  sf_bnd (sf_ret (i + (6 : Int32))) fun y8 =>
  sf_ret (.inl y8)
  ) else (
  sf_ret (.inr (.inl (0 : Int32)))
  )
set_option maxRecDepth 20000 in
set_option maxHeartbeats 4000000 in
theorem fl_5 (X : sf_X) (L : Nat) (xs : Nat → Int32) (hS : sf_Scr X L xs) (i : Int32) (x m : Option Nat) : sf_Fr X sf_ZL (sf_p 431 [some (.double 60), some (sf_rv x), some (sf_rv m), some (.int i)] []) (jl_5 L xs i x m) (fun r => match r with
  | .inl b => sf_p 18 [some (.double 60), some (sf_rv x), some (sf_rv m), some (.int b)] []
  | .inr g => match g with
    | .inl a => .inr (some (.int a))
    | .inr _ => sf_p 1489 [some (.double 60), some (sf_rv x), some (sf_rv m), none] []) := by
  unfold jl_5
  refine fp_aload_n (i := 1) (r := x) dd_Law_law_431 rfl rfl (fr_pc (pc' := 432) rfl ?_)
  refine fp_aload_nd (i := 0) (x := 60) dd_Law_law_432 rfl rfl (fr_pc (pc' := 433) rfl ?_)
  refine fp_iload_n (i := 3) (x := i) dd_Law_law_433 rfl rfl (fr_pc (pc' := 434) rfl ?_)
  refine fp_iconst (v := (1 : Int32)) dd_Law_law_434 (by decide) (fr_pc (pc' := 435) rfl ?_)
  refine fp_iadd dd_Law_law_435 (fr_pc (pc' := 436) rfl ?_)
  refine fr_scr hS dd_Law_law_436 (fun x1 => fr_pc (pc' := 437) rfl ?_)
  refine fp_aload_nd (i := 0) (x := 60) dd_Law_law_437 rfl rfl (fr_pc (pc' := 438) rfl ?_)
  refine fp_iload_n (i := 3) (x := i) dd_Law_law_438 rfl rfl (fr_pc (pc' := 439) rfl ?_)
  refine fp_iconst (v := (2 : Int32)) dd_Law_law_439 (by decide) (fr_pc (pc' := 440) rfl ?_)
  refine fp_iadd dd_Law_law_440 (fr_pc (pc' := 441) rfl ?_)
  refine fr_scr hS dd_Law_law_441 (fun x2 => fr_pc (pc' := 442) rfl ?_)
  refine fr_callV (stk := []) (As := [.int x1, .int x2]) cl_0 (ok_SF_terms x x1 x2) mt_SF_terms rfl rfl sw_476 sw_477 sw_478 (by decide) (Nat.le_of_ble_eq_true rfl) dd_Law_law_442 (fun x3 => fr_to (pc' := 445) (env' := [some (.double 60), some (sf_rv x), some (sf_rv m), some (.int i)]) (stk' := [.int x3]) rfl rfl rfl ?_)
  refine fp_aload_n (i := 2) (r := m) dd_Law_law_445 rfl rfl (fr_pc (pc' := 446) rfl ?_)
  refine fp_aload_nd (i := 0) (x := 60) dd_Law_law_446 rfl rfl (fr_pc (pc' := 447) rfl ?_)
  refine fp_iload_n (i := 3) (x := i) dd_Law_law_447 rfl rfl (fr_pc (pc' := 448) rfl ?_)
  refine fp_iconst (v := (1 : Int32)) dd_Law_law_448 (by decide) (fr_pc (pc' := 449) rfl ?_)
  refine fp_iadd dd_Law_law_449 (fr_pc (pc' := 450) rfl ?_)
  refine fr_scr hS dd_Law_law_450 (fun x4 => fr_pc (pc' := 451) rfl ?_)
  refine fp_aload_nd (i := 0) (x := 60) dd_Law_law_451 rfl rfl (fr_pc (pc' := 452) rfl ?_)
  refine fp_iload_n (i := 3) (x := i) dd_Law_law_452 rfl rfl (fr_pc (pc' := 453) rfl ?_)
  refine fp_iconst (v := (2 : Int32)) dd_Law_law_453 (by decide) (fr_pc (pc' := 454) rfl ?_)
  refine fp_iadd dd_Law_law_454 (fr_pc (pc' := 455) rfl ?_)
  refine fr_scr hS dd_Law_law_455 (fun x5 => fr_pc (pc' := 456) rfl ?_)
  refine fr_callV (stk := [.int x3]) (As := [.int x4, .int x5]) cl_11 (ok_Mo_terms m x4 x5) mt_Mo_terms rfl rfl sw_1294 sw_1295 sw_1296 (by decide) (Nat.le_of_ble_eq_true rfl) dd_Law_law_456 (fun x6 => fr_to (pc' := 459) (env' := [some (.double 60), some (sf_rv x), some (sf_rv m), some (.int i)]) (stk' := [.int x6, .int x3]) rfl rfl rfl ?_)
  refine fr_icmp_eq (tgt := 1483) dd_Law_law_459 rfl (fun _ => ?_) (fun _ => ?_)
  · refine fr_niinc (i := 3) (x := i) (w := (6 : Int32)) dd_Law_law_1483 rfl (by decide) (Nat.le_of_ble_eq_true rfl) (fun _ => c1_r rfl) (fun y8 => fr_to (pc' := 1486) (env' := [some (.double 60), some (sf_rv x), some (sf_rv m), some (.int y8)]) (stk' := []) rfl rfl rfl ?_)
    refine fp_goto (tgt := 18) dd_Law_law_1486 rfl ?_
    exact fr_ret rfl
  · refine fr_pc (pc' := 462) rfl ?_
    refine fp_iconst (v := (0 : Int32)) dd_Law_law_462 (by decide) (fr_pc (pc' := 463) rfl ?_)
    exact fr_zret0 (v := (0 : Int32)) (Or.inl rfl) rfl rfl dd_Law_law_463
def jl_6 (L : Nat) (xs : Nat → Int32) (i : Int32) (x m : Option Nat) : sf_M ((Int32) ⊕ (Int32 ⊕ (Unit))) :=
  sf_bnd (sf_scr L xs (i + (1 : Int32))) fun x1 =>
  sf_bnd (sf_scr L xs (i + (2 : Int32))) fun x2 =>
  sf_bnd (sf_scr L xs (i + (3 : Int32))) fun x3 =>
  sf_bnd (sf_scr L xs (i + (4 : Int32))) fun x4 =>
  sf_bnd (sf_scr L xs (i + (5 : Int32))) fun x5 =>
  sf_bnd (sf_rc 0 x (jx_SF_feed x x1 x2 x3 x4 x5)) fun x6 =>
  sf_bnd (sf_scr L xs (i + (1 : Int32))) fun x7 =>
  sf_bnd (sf_scr L xs (i + (2 : Int32))) fun x8 =>
  sf_bnd (sf_scr L xs (i + (3 : Int32))) fun x9 =>
  sf_bnd (sf_scr L xs (i + (4 : Int32))) fun x10 =>
  sf_bnd (sf_scr L xs (i + (5 : Int32))) fun x11 =>
  sf_bnd (sf_rc 11 m (jx_Mo_feed m x7 x8 x9 x10 x11)) fun x12 =>
  if x6 = x12 then (
  sf_bnd (sf_ret (i + (6 : Int32))) fun y14 =>
  sf_ret (.inl y14)
  ) else (
  sf_ret (.inr (.inl (0 : Int32)))
  )
set_option maxRecDepth 20000 in
set_option maxHeartbeats 4000000 in
theorem fl_6 (X : sf_X) (L : Nat) (xs : Nat → Int32) (hS : sf_Scr X L xs) (i : Int32) (x m : Option Nat) : sf_Fr X sf_ZL (sf_p 464 [some (.double 60), some (sf_rv x), some (sf_rv m), some (.int i)] []) (jl_6 L xs i x m) (fun r => match r with
  | .inl b => sf_p 18 [some (.double 60), some (sf_rv x), some (sf_rv m), some (.int b)] []
  | .inr g => match g with
    | .inl a => .inr (some (.int a))
    | .inr _ => sf_p 1489 [some (.double 60), some (sf_rv x), some (sf_rv m), none] []) := by
  unfold jl_6
  refine fp_aload_n (i := 1) (r := x) dd_Law_law_464 rfl rfl (fr_pc (pc' := 465) rfl ?_)
  refine fp_aload_nd (i := 0) (x := 60) dd_Law_law_465 rfl rfl (fr_pc (pc' := 466) rfl ?_)
  refine fp_iload_n (i := 3) (x := i) dd_Law_law_466 rfl rfl (fr_pc (pc' := 467) rfl ?_)
  refine fp_iconst (v := (1 : Int32)) dd_Law_law_467 (by decide) (fr_pc (pc' := 468) rfl ?_)
  refine fp_iadd dd_Law_law_468 (fr_pc (pc' := 469) rfl ?_)
  refine fr_scr hS dd_Law_law_469 (fun x1 => fr_pc (pc' := 470) rfl ?_)
  refine fp_aload_nd (i := 0) (x := 60) dd_Law_law_470 rfl rfl (fr_pc (pc' := 471) rfl ?_)
  refine fp_iload_n (i := 3) (x := i) dd_Law_law_471 rfl rfl (fr_pc (pc' := 472) rfl ?_)
  refine fp_iconst (v := (2 : Int32)) dd_Law_law_472 (by decide) (fr_pc (pc' := 473) rfl ?_)
  refine fp_iadd dd_Law_law_473 (fr_pc (pc' := 474) rfl ?_)
  refine fr_scr hS dd_Law_law_474 (fun x2 => fr_pc (pc' := 475) rfl ?_)
  refine fp_aload_nd (i := 0) (x := 60) dd_Law_law_475 rfl rfl (fr_pc (pc' := 476) rfl ?_)
  refine fp_iload_n (i := 3) (x := i) dd_Law_law_476 rfl rfl (fr_pc (pc' := 477) rfl ?_)
  refine fp_iconst (v := (3 : Int32)) dd_Law_law_477 (by decide) (fr_pc (pc' := 478) rfl ?_)
  refine fp_iadd dd_Law_law_478 (fr_pc (pc' := 479) rfl ?_)
  refine fr_scr hS dd_Law_law_479 (fun x3 => fr_pc (pc' := 480) rfl ?_)
  refine fp_aload_nd (i := 0) (x := 60) dd_Law_law_480 rfl rfl (fr_pc (pc' := 481) rfl ?_)
  refine fp_iload_n (i := 3) (x := i) dd_Law_law_481 rfl rfl (fr_pc (pc' := 482) rfl ?_)
  refine fp_iconst (v := (4 : Int32)) dd_Law_law_482 (by decide) (fr_pc (pc' := 483) rfl ?_)
  refine fp_iadd dd_Law_law_483 (fr_pc (pc' := 484) rfl ?_)
  refine fr_scr hS dd_Law_law_484 (fun x4 => fr_pc (pc' := 485) rfl ?_)
  refine fp_aload_nd (i := 0) (x := 60) dd_Law_law_485 rfl rfl (fr_pc (pc' := 486) rfl ?_)
  refine fp_iload_n (i := 3) (x := i) dd_Law_law_486 rfl rfl (fr_pc (pc' := 487) rfl ?_)
  refine fp_iconst (v := (5 : Int32)) dd_Law_law_487 (by decide) (fr_pc (pc' := 488) rfl ?_)
  refine fp_iadd dd_Law_law_488 (fr_pc (pc' := 489) rfl ?_)
  refine fr_scr hS dd_Law_law_489 (fun x5 => fr_pc (pc' := 490) rfl ?_)
  refine fr_callV (stk := []) (As := [.int x1, .int x2, .int x3, .int x4, .int x5]) cl_0 (ok_SF_feed x x1 x2 x3 x4 x5) mt_SF_feed rfl rfl sw_494 sw_495 sw_496 (by decide) (Nat.le_of_ble_eq_true rfl) dd_Law_law_490 (fun x6 => fr_to (pc' := 493) (env' := [some (.double 60), some (sf_rv x), some (sf_rv m), some (.int i)]) (stk' := [.int x6]) rfl rfl rfl ?_)
  refine fp_aload_n (i := 2) (r := m) dd_Law_law_493 rfl rfl (fr_pc (pc' := 494) rfl ?_)
  refine fp_aload_nd (i := 0) (x := 60) dd_Law_law_494 rfl rfl (fr_pc (pc' := 495) rfl ?_)
  refine fp_iload_n (i := 3) (x := i) dd_Law_law_495 rfl rfl (fr_pc (pc' := 496) rfl ?_)
  refine fp_iconst (v := (1 : Int32)) dd_Law_law_496 (by decide) (fr_pc (pc' := 497) rfl ?_)
  refine fp_iadd dd_Law_law_497 (fr_pc (pc' := 498) rfl ?_)
  refine fr_scr hS dd_Law_law_498 (fun x7 => fr_pc (pc' := 499) rfl ?_)
  refine fp_aload_nd (i := 0) (x := 60) dd_Law_law_499 rfl rfl (fr_pc (pc' := 500) rfl ?_)
  refine fp_iload_n (i := 3) (x := i) dd_Law_law_500 rfl rfl (fr_pc (pc' := 501) rfl ?_)
  refine fp_iconst (v := (2 : Int32)) dd_Law_law_501 (by decide) (fr_pc (pc' := 502) rfl ?_)
  refine fp_iadd dd_Law_law_502 (fr_pc (pc' := 503) rfl ?_)
  refine fr_scr hS dd_Law_law_503 (fun x8 => fr_pc (pc' := 504) rfl ?_)
  refine fp_aload_nd (i := 0) (x := 60) dd_Law_law_504 rfl rfl (fr_pc (pc' := 505) rfl ?_)
  refine fp_iload_n (i := 3) (x := i) dd_Law_law_505 rfl rfl (fr_pc (pc' := 506) rfl ?_)
  refine fp_iconst (v := (3 : Int32)) dd_Law_law_506 (by decide) (fr_pc (pc' := 507) rfl ?_)
  refine fp_iadd dd_Law_law_507 (fr_pc (pc' := 508) rfl ?_)
  refine fr_scr hS dd_Law_law_508 (fun x9 => fr_pc (pc' := 509) rfl ?_)
  refine fp_aload_nd (i := 0) (x := 60) dd_Law_law_509 rfl rfl (fr_pc (pc' := 510) rfl ?_)
  refine fp_iload_n (i := 3) (x := i) dd_Law_law_510 rfl rfl (fr_pc (pc' := 511) rfl ?_)
  refine fp_iconst (v := (4 : Int32)) dd_Law_law_511 (by decide) (fr_pc (pc' := 512) rfl ?_)
  refine fp_iadd dd_Law_law_512 (fr_pc (pc' := 513) rfl ?_)
  refine fr_scr hS dd_Law_law_513 (fun x10 => fr_pc (pc' := 514) rfl ?_)
  refine fp_aload_nd (i := 0) (x := 60) dd_Law_law_514 rfl rfl (fr_pc (pc' := 515) rfl ?_)
  refine fp_iload_n (i := 3) (x := i) dd_Law_law_515 rfl rfl (fr_pc (pc' := 516) rfl ?_)
  refine fp_iconst (v := (5 : Int32)) dd_Law_law_516 (by decide) (fr_pc (pc' := 517) rfl ?_)
  refine fp_iadd dd_Law_law_517 (fr_pc (pc' := 518) rfl ?_)
  refine fr_scr hS dd_Law_law_518 (fun x11 => fr_pc (pc' := 519) rfl ?_)
  refine fr_callV (stk := [.int x6]) (As := [.int x7, .int x8, .int x9, .int x10, .int x11]) cl_11 (ok_Mo_feed m x7 x8 x9 x10 x11) mt_Mo_feed rfl rfl sw_1312 sw_1313 sw_1314 (by decide) (Nat.le_of_ble_eq_true rfl) dd_Law_law_519 (fun x12 => fr_to (pc' := 522) (env' := [some (.double 60), some (sf_rv x), some (sf_rv m), some (.int i)]) (stk' := [.int x12, .int x6]) rfl rfl rfl ?_)
  refine fr_icmp_eq (tgt := 1483) dd_Law_law_522 rfl (fun _ => ?_) (fun _ => ?_)
  · refine fr_niinc (i := 3) (x := i) (w := (6 : Int32)) dd_Law_law_1483 rfl (by decide) (Nat.le_of_ble_eq_true rfl) (fun _ => c1_r rfl) (fun y14 => fr_to (pc' := 1486) (env' := [some (.double 60), some (sf_rv x), some (sf_rv m), some (.int y14)]) (stk' := []) rfl rfl rfl ?_)
    refine fp_goto (tgt := 18) dd_Law_law_1486 rfl ?_
    exact fr_ret rfl
  · refine fr_pc (pc' := 525) rfl ?_
    refine fp_iconst (v := (0 : Int32)) dd_Law_law_525 (by decide) (fr_pc (pc' := 526) rfl ?_)
    exact fr_zret0 (v := (0 : Int32)) (Or.inl rfl) rfl rfl dd_Law_law_526
def jl_7 (L : Nat) (xs : Nat → Int32) (i : Int32) (x m : Option Nat) : sf_M ((Int32) ⊕ (Int32 ⊕ (Unit))) :=
  sf_bnd (sf_scr L xs (i + (1 : Int32))) fun x1 =>
  sf_bnd (sf_rc 0 x (jx_SF_end x x1)) fun x2 =>
  sf_bnd (sf_scr L xs (i + (1 : Int32))) fun x3 =>
  sf_bnd (sf_rc 11 m (jx_Mo_end m x3)) fun x4 =>
  if x2 = x4 then (
  sf_bnd (sf_ret (i + (6 : Int32))) fun y6 =>
  sf_ret (.inl y6)
  ) else (
  sf_ret (.inr (.inl (0 : Int32)))
  )
set_option maxRecDepth 20000 in
set_option maxHeartbeats 4000000 in
theorem fl_7 (X : sf_X) (L : Nat) (xs : Nat → Int32) (hS : sf_Scr X L xs) (i : Int32) (x m : Option Nat) : sf_Fr X sf_ZL (sf_p 527 [some (.double 60), some (sf_rv x), some (sf_rv m), some (.int i)] []) (jl_7 L xs i x m) (fun r => match r with
  | .inl b => sf_p 18 [some (.double 60), some (sf_rv x), some (sf_rv m), some (.int b)] []
  | .inr g => match g with
    | .inl a => .inr (some (.int a))
    | .inr _ => sf_p 1489 [some (.double 60), some (sf_rv x), some (sf_rv m), none] []) := by
  unfold jl_7
  refine fp_aload_n (i := 1) (r := x) dd_Law_law_527 rfl rfl (fr_pc (pc' := 528) rfl ?_)
  refine fp_aload_nd (i := 0) (x := 60) dd_Law_law_528 rfl rfl (fr_pc (pc' := 529) rfl ?_)
  refine fp_iload_n (i := 3) (x := i) dd_Law_law_529 rfl rfl (fr_pc (pc' := 530) rfl ?_)
  refine fp_iconst (v := (1 : Int32)) dd_Law_law_530 (by decide) (fr_pc (pc' := 531) rfl ?_)
  refine fp_iadd dd_Law_law_531 (fr_pc (pc' := 532) rfl ?_)
  refine fr_scr hS dd_Law_law_532 (fun x1 => fr_pc (pc' := 533) rfl ?_)
  refine fr_callV (stk := []) (As := [.int x1]) cl_0 (ok_SF_end x x1) mt_SF_end rfl rfl sw_502 sw_503 sw_504 (by decide) (Nat.le_of_ble_eq_true rfl) dd_Law_law_533 (fun x2 => fr_to (pc' := 536) (env' := [some (.double 60), some (sf_rv x), some (sf_rv m), some (.int i)]) (stk' := [.int x2]) rfl rfl rfl ?_)
  refine fp_aload_n (i := 2) (r := m) dd_Law_law_536 rfl rfl (fr_pc (pc' := 537) rfl ?_)
  refine fp_aload_nd (i := 0) (x := 60) dd_Law_law_537 rfl rfl (fr_pc (pc' := 538) rfl ?_)
  refine fp_iload_n (i := 3) (x := i) dd_Law_law_538 rfl rfl (fr_pc (pc' := 539) rfl ?_)
  refine fp_iconst (v := (1 : Int32)) dd_Law_law_539 (by decide) (fr_pc (pc' := 540) rfl ?_)
  refine fp_iadd dd_Law_law_540 (fr_pc (pc' := 541) rfl ?_)
  refine fr_scr hS dd_Law_law_541 (fun x3 => fr_pc (pc' := 542) rfl ?_)
  refine fr_callV (stk := [.int x2]) (As := [.int x3]) cl_11 (ok_Mo_end m x3) mt_Mo_end rfl rfl sw_1316 sw_1317 sw_1318 (by decide) (Nat.le_of_ble_eq_true rfl) dd_Law_law_542 (fun x4 => fr_to (pc' := 545) (env' := [some (.double 60), some (sf_rv x), some (sf_rv m), some (.int i)]) (stk' := [.int x4, .int x2]) rfl rfl rfl ?_)
  refine fr_icmp_eq (tgt := 1483) dd_Law_law_545 rfl (fun _ => ?_) (fun _ => ?_)
  · refine fr_niinc (i := 3) (x := i) (w := (6 : Int32)) dd_Law_law_1483 rfl (by decide) (Nat.le_of_ble_eq_true rfl) (fun _ => c1_r rfl) (fun y6 => fr_to (pc' := 1486) (env' := [some (.double 60), some (sf_rv x), some (sf_rv m), some (.int y6)]) (stk' := []) rfl rfl rfl ?_)
    refine fp_goto (tgt := 18) dd_Law_law_1486 rfl ?_
    exact fr_ret rfl
  · refine fr_pc (pc' := 548) rfl ?_
    refine fp_iconst (v := (0 : Int32)) dd_Law_law_548 (by decide) (fr_pc (pc' := 549) rfl ?_)
    exact fr_zret0 (v := (0 : Int32)) (Or.inl rfl) rfl rfl dd_Law_law_549
def jl_8 (L : Nat) (xs : Nat → Int32) (i : Int32) (x m : Option Nat) : sf_M ((Int32) ⊕ (Int32 ⊕ (Unit))) :=
  sf_bnd (sf_rc 0 x (jx_SF_row x)) fun x1 =>
  sf_bnd (sf_rc 11 m (jx_Mo_row m)) fun x2 =>
  if x1 = x2 then (
  sf_bnd (sf_ret (i + (6 : Int32))) fun y4 =>
  sf_ret (.inl y4)
  ) else (
  sf_ret (.inr (.inl (0 : Int32)))
  )
set_option maxRecDepth 20000 in
set_option maxHeartbeats 4000000 in
theorem fl_8 (X : sf_X) (L : Nat) (xs : Nat → Int32) (hS : sf_Scr X L xs) (i : Int32) (x m : Option Nat) : sf_Fr X sf_ZL (sf_p 550 [some (.double 60), some (sf_rv x), some (sf_rv m), some (.int i)] []) (jl_8 L xs i x m) (fun r => match r with
  | .inl b => sf_p 18 [some (.double 60), some (sf_rv x), some (sf_rv m), some (.int b)] []
  | .inr g => match g with
    | .inl a => .inr (some (.int a))
    | .inr _ => sf_p 1489 [some (.double 60), some (sf_rv x), some (sf_rv m), none] []) := by
  unfold jl_8
  refine fp_aload_n (i := 1) (r := x) dd_Law_law_550 rfl rfl (fr_pc (pc' := 551) rfl ?_)
  refine fr_callV (stk := []) (As := []) cl_0 (ok_SF_row x) mt_SF_row rfl rfl sw_506 sw_507 sw_508 (by decide) (Nat.le_of_ble_eq_true rfl) dd_Law_law_551 (fun x1 => fr_to (pc' := 554) (env' := [some (.double 60), some (sf_rv x), some (sf_rv m), some (.int i)]) (stk' := [.int x1]) rfl rfl rfl ?_)
  refine fp_aload_n (i := 2) (r := m) dd_Law_law_554 rfl rfl (fr_pc (pc' := 555) rfl ?_)
  refine fr_callV (stk := [.int x1]) (As := []) cl_11 (ok_Mo_row m) mt_Mo_row rfl rfl sw_1304 sw_1305 sw_1306 (by decide) (Nat.le_of_ble_eq_true rfl) dd_Law_law_555 (fun x2 => fr_to (pc' := 558) (env' := [some (.double 60), some (sf_rv x), some (sf_rv m), some (.int i)]) (stk' := [.int x2, .int x1]) rfl rfl rfl ?_)
  refine fr_icmp_eq (tgt := 1483) dd_Law_law_558 rfl (fun _ => ?_) (fun _ => ?_)
  · refine fr_niinc (i := 3) (x := i) (w := (6 : Int32)) dd_Law_law_1483 rfl (by decide) (Nat.le_of_ble_eq_true rfl) (fun _ => c1_r rfl) (fun y4 => fr_to (pc' := 1486) (env' := [some (.double 60), some (sf_rv x), some (sf_rv m), some (.int y4)]) (stk' := []) rfl rfl rfl ?_)
    refine fp_goto (tgt := 18) dd_Law_law_1486 rfl ?_
    exact fr_ret rfl
  · refine fr_pc (pc' := 561) rfl ?_
    refine fp_iconst (v := (0 : Int32)) dd_Law_law_561 (by decide) (fr_pc (pc' := 562) rfl ?_)
    exact fr_zret0 (v := (0 : Int32)) (Or.inl rfl) rfl rfl dd_Law_law_562
def jl_9 (L : Nat) (xs : Nat → Int32) (i : Int32) (x m : Option Nat) : sf_M ((Int32) ⊕ (Int32 ⊕ (Unit))) :=
  sf_bnd (sf_rc 0 x (jx_SF_delays x)) fun x1 =>
  sf_bnd (sf_rc 11 m (jx_Mo_delays m)) fun x2 =>
  if x1 = x2 then (
  sf_bnd (sf_ret (i + (6 : Int32))) fun y4 =>
  sf_ret (.inl y4)
  ) else (
  sf_ret (.inr (.inl (0 : Int32)))
  )
set_option maxRecDepth 20000 in
set_option maxHeartbeats 4000000 in
theorem fl_9 (X : sf_X) (L : Nat) (xs : Nat → Int32) (hS : sf_Scr X L xs) (i : Int32) (x m : Option Nat) : sf_Fr X sf_ZL (sf_p 563 [some (.double 60), some (sf_rv x), some (sf_rv m), some (.int i)] []) (jl_9 L xs i x m) (fun r => match r with
  | .inl b => sf_p 18 [some (.double 60), some (sf_rv x), some (sf_rv m), some (.int b)] []
  | .inr g => match g with
    | .inl a => .inr (some (.int a))
    | .inr _ => sf_p 1489 [some (.double 60), some (sf_rv x), some (sf_rv m), none] []) := by
  unfold jl_9
  refine fp_aload_n (i := 1) (r := x) dd_Law_law_563 rfl rfl (fr_pc (pc' := 564) rfl ?_)
  refine fr_callV (stk := []) (As := []) cl_0 (ok_SF_delays x) mt_SF_delays rfl rfl sw_514 sw_515 sw_516 (by decide) (Nat.le_of_ble_eq_true rfl) dd_Law_law_564 (fun x1 => fr_to (pc' := 567) (env' := [some (.double 60), some (sf_rv x), some (sf_rv m), some (.int i)]) (stk' := [.int x1]) rfl rfl rfl ?_)
  refine fp_aload_n (i := 2) (r := m) dd_Law_law_567 rfl rfl (fr_pc (pc' := 568) rfl ?_)
  refine fr_callV (stk := [.int x1]) (As := []) cl_11 (ok_Mo_delays m) mt_Mo_delays rfl rfl sw_1308 sw_1309 sw_1310 (by decide) (Nat.le_of_ble_eq_true rfl) dd_Law_law_568 (fun x2 => fr_to (pc' := 571) (env' := [some (.double 60), some (sf_rv x), some (sf_rv m), some (.int i)]) (stk' := [.int x2, .int x1]) rfl rfl rfl ?_)
  refine fr_icmp_eq (tgt := 1483) dd_Law_law_571 rfl (fun _ => ?_) (fun _ => ?_)
  · refine fr_niinc (i := 3) (x := i) (w := (6 : Int32)) dd_Law_law_1483 rfl (by decide) (Nat.le_of_ble_eq_true rfl) (fun _ => c1_r rfl) (fun y4 => fr_to (pc' := 1486) (env' := [some (.double 60), some (sf_rv x), some (sf_rv m), some (.int y4)]) (stk' := []) rfl rfl rfl ?_)
    refine fp_goto (tgt := 18) dd_Law_law_1486 rfl ?_
    exact fr_ret rfl
  · refine fr_pc (pc' := 574) rfl ?_
    refine fp_iconst (v := (0 : Int32)) dd_Law_law_574 (by decide) (fr_pc (pc' := 575) rfl ?_)
    exact fr_zret0 (v := (0 : Int32)) (Or.inl rfl) rfl rfl dd_Law_law_575
def jl_10 (L : Nat) (xs : Nat → Int32) (i : Int32) (x m : Option Nat) : sf_M ((Int32) ⊕ (Int32 ⊕ (Unit))) :=
  sf_bnd (sf_rc 0 x (jx_SF_law x)) fun x1 =>
  sf_bnd (sf_rc 11 m (jx_Mo_law m)) fun x2 =>
  if x1 = x2 then (
  sf_bnd (sf_ret (i + (6 : Int32))) fun y4 =>
  sf_ret (.inl y4)
  ) else (
  sf_ret (.inr (.inl (0 : Int32)))
  )
set_option maxRecDepth 20000 in
set_option maxHeartbeats 4000000 in
theorem fl_10 (X : sf_X) (L : Nat) (xs : Nat → Int32) (hS : sf_Scr X L xs) (i : Int32) (x m : Option Nat) : sf_Fr X sf_ZL (sf_p 576 [some (.double 60), some (sf_rv x), some (sf_rv m), some (.int i)] []) (jl_10 L xs i x m) (fun r => match r with
  | .inl b => sf_p 18 [some (.double 60), some (sf_rv x), some (sf_rv m), some (.int b)] []
  | .inr g => match g with
    | .inl a => .inr (some (.int a))
    | .inr _ => sf_p 1489 [some (.double 60), some (sf_rv x), some (sf_rv m), none] []) := by
  unfold jl_10
  refine fp_aload_n (i := 1) (r := x) dd_Law_law_576 rfl rfl (fr_pc (pc' := 577) rfl ?_)
  refine fr_callV (stk := []) (As := []) cl_0 (ok_SF_law x) mt_SF_law rfl rfl sw_518 sw_519 sw_520 (by decide) (Nat.le_of_ble_eq_true rfl) dd_Law_law_577 (fun x1 => fr_to (pc' := 580) (env' := [some (.double 60), some (sf_rv x), some (sf_rv m), some (.int i)]) (stk' := [.int x1]) rfl rfl rfl ?_)
  refine fp_aload_n (i := 2) (r := m) dd_Law_law_580 rfl rfl (fr_pc (pc' := 581) rfl ?_)
  refine fr_callV (stk := [.int x1]) (As := []) cl_11 (ok_Mo_law m) mt_Mo_law rfl rfl sw_1320 sw_1321 sw_1322 (by decide) (Nat.le_of_ble_eq_true rfl) dd_Law_law_581 (fun x2 => fr_to (pc' := 584) (env' := [some (.double 60), some (sf_rv x), some (sf_rv m), some (.int i)]) (stk' := [.int x2, .int x1]) rfl rfl rfl ?_)
  refine fr_icmp_eq (tgt := 1483) dd_Law_law_584 rfl (fun _ => ?_) (fun _ => ?_)
  · refine fr_niinc (i := 3) (x := i) (w := (6 : Int32)) dd_Law_law_1483 rfl (by decide) (Nat.le_of_ble_eq_true rfl) (fun _ => c1_r rfl) (fun y4 => fr_to (pc' := 1486) (env' := [some (.double 60), some (sf_rv x), some (sf_rv m), some (.int y4)]) (stk' := []) rfl rfl rfl ?_)
    refine fp_goto (tgt := 18) dd_Law_law_1486 rfl ?_
    exact fr_ret rfl
  · refine fr_pc (pc' := 587) rfl ?_
    refine fp_iconst (v := (0 : Int32)) dd_Law_law_587 (by decide) (fr_pc (pc' := 588) rfl ?_)
    exact fr_zret0 (v := (0 : Int32)) (Or.inl rfl) rfl rfl dd_Law_law_588
def jl_11 (L : Nat) (xs : Nat → Int32) (i : Int32) (x m : Option Nat) : sf_M ((Int32) ⊕ (Int32 ⊕ (Unit))) :=
  sf_bnd (sf_rc 0 x (jx_SF_orders x)) fun x1 =>
  sf_bnd (sf_rc 11 m (jx_Mo_orders m)) fun x2 =>
  if x1 = x2 then (
  sf_bnd (sf_ret (i + (6 : Int32))) fun y4 =>
  sf_ret (.inl y4)
  ) else (
  sf_ret (.inr (.inl (0 : Int32)))
  )
set_option maxRecDepth 20000 in
set_option maxHeartbeats 4000000 in
theorem fl_11 (X : sf_X) (L : Nat) (xs : Nat → Int32) (hS : sf_Scr X L xs) (i : Int32) (x m : Option Nat) : sf_Fr X sf_ZL (sf_p 589 [some (.double 60), some (sf_rv x), some (sf_rv m), some (.int i)] []) (jl_11 L xs i x m) (fun r => match r with
  | .inl b => sf_p 18 [some (.double 60), some (sf_rv x), some (sf_rv m), some (.int b)] []
  | .inr g => match g with
    | .inl a => .inr (some (.int a))
    | .inr _ => sf_p 1489 [some (.double 60), some (sf_rv x), some (sf_rv m), none] []) := by
  unfold jl_11
  refine fp_aload_n (i := 1) (r := x) dd_Law_law_589 rfl rfl (fr_pc (pc' := 590) rfl ?_)
  refine fr_callV (stk := []) (As := []) cl_0 (ok_SF_orders x) mt_SF_orders rfl rfl sw_738 sw_739 sw_740 (by decide) (Nat.le_of_ble_eq_true rfl) dd_Law_law_590 (fun x1 => fr_to (pc' := 593) (env' := [some (.double 60), some (sf_rv x), some (sf_rv m), some (.int i)]) (stk' := [.int x1]) rfl rfl rfl ?_)
  refine fp_aload_n (i := 2) (r := m) dd_Law_law_593 rfl rfl (fr_pc (pc' := 594) rfl ?_)
  refine fr_callV (stk := [.int x1]) (As := []) cl_11 (ok_Mo_orders m) mt_Mo_orders rfl rfl sw_1741 sw_1742 sw_1743 (by decide) (Nat.le_of_ble_eq_true rfl) dd_Law_law_594 (fun x2 => fr_to (pc' := 597) (env' := [some (.double 60), some (sf_rv x), some (sf_rv m), some (.int i)]) (stk' := [.int x2, .int x1]) rfl rfl rfl ?_)
  refine fr_icmp_eq (tgt := 1483) dd_Law_law_597 rfl (fun _ => ?_) (fun _ => ?_)
  · refine fr_niinc (i := 3) (x := i) (w := (6 : Int32)) dd_Law_law_1483 rfl (by decide) (Nat.le_of_ble_eq_true rfl) (fun _ => c1_r rfl) (fun y4 => fr_to (pc' := 1486) (env' := [some (.double 60), some (sf_rv x), some (sf_rv m), some (.int y4)]) (stk' := []) rfl rfl rfl ?_)
    refine fp_goto (tgt := 18) dd_Law_law_1486 rfl ?_
    exact fr_ret rfl
  · refine fr_pc (pc' := 600) rfl ?_
    refine fp_iconst (v := (0 : Int32)) dd_Law_law_600 (by decide) (fr_pc (pc' := 601) rfl ?_)
    exact fr_zret0 (v := (0 : Int32)) (Or.inl rfl) rfl rfl dd_Law_law_601
def jl_12 (L : Nat) (xs : Nat → Int32) (i : Int32) (x m : Option Nat) : sf_M ((Int32) ⊕ (Int32 ⊕ (Unit))) :=
  sf_bnd (sf_rc 0 x (jx_SF_fault x)) fun x1 =>
  sf_bnd (sf_rc 11 m (jx_Mo_fault m)) fun x2 =>
  if x1 = x2 then (
  sf_bnd (sf_ret (i + (6 : Int32))) fun y4 =>
  sf_ret (.inl y4)
  ) else (
  sf_ret (.inr (.inl (0 : Int32)))
  )
set_option maxRecDepth 20000 in
set_option maxHeartbeats 4000000 in
theorem fl_12 (X : sf_X) (L : Nat) (xs : Nat → Int32) (hS : sf_Scr X L xs) (i : Int32) (x m : Option Nat) : sf_Fr X sf_ZL (sf_p 602 [some (.double 60), some (sf_rv x), some (sf_rv m), some (.int i)] []) (jl_12 L xs i x m) (fun r => match r with
  | .inl b => sf_p 18 [some (.double 60), some (sf_rv x), some (sf_rv m), some (.int b)] []
  | .inr g => match g with
    | .inl a => .inr (some (.int a))
    | .inr _ => sf_p 1489 [some (.double 60), some (sf_rv x), some (sf_rv m), none] []) := by
  unfold jl_12
  refine fp_aload_n (i := 1) (r := x) dd_Law_law_602 rfl rfl (fr_pc (pc' := 603) rfl ?_)
  refine fr_callV (stk := []) (As := []) cl_0 (ok_SF_fault x) mt_SF_fault rfl rfl sw_853 sw_854 sw_855 (by decide) (Nat.le_of_ble_eq_true rfl) dd_Law_law_603 (fun x1 => fr_to (pc' := 606) (env' := [some (.double 60), some (sf_rv x), some (sf_rv m), some (.int i)]) (stk' := [.int x1]) rfl rfl rfl ?_)
  refine fp_aload_n (i := 2) (r := m) dd_Law_law_606 rfl rfl (fr_pc (pc' := 607) rfl ?_)
  refine fr_callV (stk := [.int x1]) (As := []) cl_11 (ok_Mo_fault m) mt_Mo_fault rfl rfl sw_1414 sw_1415 sw_1416 (by decide) (Nat.le_of_ble_eq_true rfl) dd_Law_law_607 (fun x2 => fr_to (pc' := 610) (env' := [some (.double 60), some (sf_rv x), some (sf_rv m), some (.int i)]) (stk' := [.int x2, .int x1]) rfl rfl rfl ?_)
  refine fr_icmp_eq (tgt := 1483) dd_Law_law_610 rfl (fun _ => ?_) (fun _ => ?_)
  · refine fr_niinc (i := 3) (x := i) (w := (6 : Int32)) dd_Law_law_1483 rfl (by decide) (Nat.le_of_ble_eq_true rfl) (fun _ => c1_r rfl) (fun y4 => fr_to (pc' := 1486) (env' := [some (.double 60), some (sf_rv x), some (sf_rv m), some (.int y4)]) (stk' := []) rfl rfl rfl ?_)
    refine fp_goto (tgt := 18) dd_Law_law_1486 rfl ?_
    exact fr_ret rfl
  · refine fr_pc (pc' := 613) rfl ?_
    refine fp_iconst (v := (0 : Int32)) dd_Law_law_613 (by decide) (fr_pc (pc' := 614) rfl ?_)
    exact fr_zret0 (v := (0 : Int32)) (Or.inl rfl) rfl rfl dd_Law_law_614
def jl_13 (L : Nat) (xs : Nat → Int32) (i : Int32) (x m : Option Nat) : sf_M ((Int32) ⊕ (Int32 ⊕ (Unit))) :=
  sf_bnd (sf_rc 0 x (jx_SF_stopped x)) fun x1 =>
  sf_bnd (sf_rc 11 m (jx_Mo_stopped m)) fun x2 =>
  if x1 = x2 then (
  sf_bnd (sf_ret (i + (6 : Int32))) fun y4 =>
  sf_ret (.inl y4)
  ) else (
  sf_ret (.inr (.inl (0 : Int32)))
  )
set_option maxRecDepth 20000 in
set_option maxHeartbeats 4000000 in
theorem fl_13 (X : sf_X) (L : Nat) (xs : Nat → Int32) (hS : sf_Scr X L xs) (i : Int32) (x m : Option Nat) : sf_Fr X sf_ZL (sf_p 615 [some (.double 60), some (sf_rv x), some (sf_rv m), some (.int i)] []) (jl_13 L xs i x m) (fun r => match r with
  | .inl b => sf_p 18 [some (.double 60), some (sf_rv x), some (sf_rv m), some (.int b)] []
  | .inr g => match g with
    | .inl a => .inr (some (.int a))
    | .inr _ => sf_p 1489 [some (.double 60), some (sf_rv x), some (sf_rv m), none] []) := by
  unfold jl_13
  refine fp_aload_n (i := 1) (r := x) dd_Law_law_615 rfl rfl (fr_pc (pc' := 616) rfl ?_)
  refine fr_callV (stk := []) (As := []) cl_0 (ok_SF_stopped x) mt_SF_stopped rfl rfl sw_857 sw_858 sw_859 (by decide) (Nat.le_of_ble_eq_true rfl) dd_Law_law_616 (fun x1 => fr_to (pc' := 619) (env' := [some (.double 60), some (sf_rv x), some (sf_rv m), some (.int i)]) (stk' := [.int x1]) rfl rfl rfl ?_)
  refine fp_aload_n (i := 2) (r := m) dd_Law_law_619 rfl rfl (fr_pc (pc' := 620) rfl ?_)
  refine fr_callV (stk := [.int x1]) (As := []) cl_11 (ok_Mo_stopped m) mt_Mo_stopped rfl rfl sw_1737 sw_1738 sw_1739 (by decide) (Nat.le_of_ble_eq_true rfl) dd_Law_law_620 (fun x2 => fr_to (pc' := 623) (env' := [some (.double 60), some (sf_rv x), some (sf_rv m), some (.int i)]) (stk' := [.int x2, .int x1]) rfl rfl rfl ?_)
  refine fr_icmp_eq (tgt := 1483) dd_Law_law_623 rfl (fun _ => ?_) (fun _ => ?_)
  · refine fr_niinc (i := 3) (x := i) (w := (6 : Int32)) dd_Law_law_1483 rfl (by decide) (Nat.le_of_ble_eq_true rfl) (fun _ => c1_r rfl) (fun y4 => fr_to (pc' := 1486) (env' := [some (.double 60), some (sf_rv x), some (sf_rv m), some (.int y4)]) (stk' := []) rfl rfl rfl ?_)
    refine fp_goto (tgt := 18) dd_Law_law_1486 rfl ?_
    exact fr_ret rfl
  · refine fr_pc (pc' := 626) rfl ?_
    refine fp_iconst (v := (0 : Int32)) dd_Law_law_626 (by decide) (fr_pc (pc' := 627) rfl ?_)
    exact fr_zret0 (v := (0 : Int32)) (Or.inl rfl) rfl rfl dd_Law_law_627
def jl_14 (L : Nat) (xs : Nat → Int32) (i : Int32) (x m : Option Nat) : sf_M ((Int32) ⊕ (Int32 ⊕ (Unit))) :=
  sf_bnd (sf_scr L xs (i + (1 : Int32))) fun x1 =>
  sf_bnd (sf_rc 0 x (jx_SF_force x x1)) fun x2 =>
  sf_bnd (sf_scr L xs (i + (1 : Int32))) fun x3 =>
  sf_bnd (sf_rc 11 m (jx_Mo_force m x3)) fun x4 =>
  if x2 = x4 then (
  sf_bnd (sf_ret (i + (6 : Int32))) fun y6 =>
  sf_ret (.inl y6)
  ) else (
  sf_ret (.inr (.inl (0 : Int32)))
  )
set_option maxRecDepth 20000 in
set_option maxHeartbeats 4000000 in
theorem fl_14 (X : sf_X) (L : Nat) (xs : Nat → Int32) (hS : sf_Scr X L xs) (i : Int32) (x m : Option Nat) : sf_Fr X sf_ZL (sf_p 628 [some (.double 60), some (sf_rv x), some (sf_rv m), some (.int i)] []) (jl_14 L xs i x m) (fun r => match r with
  | .inl b => sf_p 18 [some (.double 60), some (sf_rv x), some (sf_rv m), some (.int b)] []
  | .inr g => match g with
    | .inl a => .inr (some (.int a))
    | .inr _ => sf_p 1489 [some (.double 60), some (sf_rv x), some (sf_rv m), none] []) := by
  unfold jl_14
  refine fp_aload_n (i := 1) (r := x) dd_Law_law_628 rfl rfl (fr_pc (pc' := 629) rfl ?_)
  refine fp_aload_nd (i := 0) (x := 60) dd_Law_law_629 rfl rfl (fr_pc (pc' := 630) rfl ?_)
  refine fp_iload_n (i := 3) (x := i) dd_Law_law_630 rfl rfl (fr_pc (pc' := 631) rfl ?_)
  refine fp_iconst (v := (1 : Int32)) dd_Law_law_631 (by decide) (fr_pc (pc' := 632) rfl ?_)
  refine fp_iadd dd_Law_law_632 (fr_pc (pc' := 633) rfl ?_)
  refine fr_scr hS dd_Law_law_633 (fun x1 => fr_pc (pc' := 634) rfl ?_)
  refine fr_callV (stk := []) (As := [.int x1]) cl_0 (ok_SF_force x x1) mt_SF_force rfl rfl sw_861 sw_862 sw_863 (by decide) (Nat.le_of_ble_eq_true rfl) dd_Law_law_634 (fun x2 => fr_to (pc' := 637) (env' := [some (.double 60), some (sf_rv x), some (sf_rv m), some (.int i)]) (stk' := [.int x2]) rfl rfl rfl ?_)
  refine fp_aload_n (i := 2) (r := m) dd_Law_law_637 rfl rfl (fr_pc (pc' := 638) rfl ?_)
  refine fp_aload_nd (i := 0) (x := 60) dd_Law_law_638 rfl rfl (fr_pc (pc' := 639) rfl ?_)
  refine fp_iload_n (i := 3) (x := i) dd_Law_law_639 rfl rfl (fr_pc (pc' := 640) rfl ?_)
  refine fp_iconst (v := (1 : Int32)) dd_Law_law_640 (by decide) (fr_pc (pc' := 641) rfl ?_)
  refine fp_iadd dd_Law_law_641 (fr_pc (pc' := 642) rfl ?_)
  refine fr_scr hS dd_Law_law_642 (fun x3 => fr_pc (pc' := 643) rfl ?_)
  refine fr_callV (stk := [.int x2]) (As := [.int x3]) cl_11 (ok_Mo_force m x3) mt_Mo_force rfl rfl sw_1418 sw_1419 sw_1420 (by decide) (Nat.le_of_ble_eq_true rfl) dd_Law_law_643 (fun x4 => fr_to (pc' := 646) (env' := [some (.double 60), some (sf_rv x), some (sf_rv m), some (.int i)]) (stk' := [.int x4, .int x2]) rfl rfl rfl ?_)
  refine fr_icmp_eq (tgt := 1483) dd_Law_law_646 rfl (fun _ => ?_) (fun _ => ?_)
  · refine fr_niinc (i := 3) (x := i) (w := (6 : Int32)) dd_Law_law_1483 rfl (by decide) (Nat.le_of_ble_eq_true rfl) (fun _ => c1_r rfl) (fun y6 => fr_to (pc' := 1486) (env' := [some (.double 60), some (sf_rv x), some (sf_rv m), some (.int y6)]) (stk' := []) rfl rfl rfl ?_)
    refine fp_goto (tgt := 18) dd_Law_law_1486 rfl ?_
    exact fr_ret rfl
  · refine fr_pc (pc' := 649) rfl ?_
    refine fp_iconst (v := (0 : Int32)) dd_Law_law_649 (by decide) (fr_pc (pc' := 650) rfl ?_)
    exact fr_zret0 (v := (0 : Int32)) (Or.inl rfl) rfl rfl dd_Law_law_650
def jl_15 (L : Nat) (xs : Nat → Int32) (i : Int32) (x m : Option Nat) : sf_M ((Int32) ⊕ (Int32 ⊕ (Unit))) :=
  sf_bnd (sf_scr L xs (i + (1 : Int32))) fun x1 =>
  sf_bnd (sf_scr L xs (i + (2 : Int32))) fun x2 =>
  sf_bnd (sf_scr L xs (i + (3 : Int32))) fun x3 =>
  sf_bnd (sf_rc 0 x (jx_SF_buy x x1 x2 x3)) fun x4 =>
  sf_bnd (sf_scr L xs (i + (1 : Int32))) fun x5 =>
  sf_bnd (sf_scr L xs (i + (2 : Int32))) fun x6 =>
  sf_bnd (sf_scr L xs (i + (3 : Int32))) fun x7 =>
  sf_bnd (sf_rc 11 m (jx_Mo_buy m x5 x6 x7)) fun x8 =>
  if x4 = x8 then (
  sf_bnd (sf_ret (i + (6 : Int32))) fun y10 =>
  sf_ret (.inl y10)
  ) else (
  sf_ret (.inr (.inl (0 : Int32)))
  )
set_option maxRecDepth 20000 in
set_option maxHeartbeats 4000000 in
theorem fl_15 (X : sf_X) (L : Nat) (xs : Nat → Int32) (hS : sf_Scr X L xs) (i : Int32) (x m : Option Nat) : sf_Fr X sf_ZL (sf_p 651 [some (.double 60), some (sf_rv x), some (sf_rv m), some (.int i)] []) (jl_15 L xs i x m) (fun r => match r with
  | .inl b => sf_p 18 [some (.double 60), some (sf_rv x), some (sf_rv m), some (.int b)] []
  | .inr g => match g with
    | .inl a => .inr (some (.int a))
    | .inr _ => sf_p 1489 [some (.double 60), some (sf_rv x), some (sf_rv m), none] []) := by
  unfold jl_15
  refine fp_aload_n (i := 1) (r := x) dd_Law_law_651 rfl rfl (fr_pc (pc' := 652) rfl ?_)
  refine fp_aload_nd (i := 0) (x := 60) dd_Law_law_652 rfl rfl (fr_pc (pc' := 653) rfl ?_)
  refine fp_iload_n (i := 3) (x := i) dd_Law_law_653 rfl rfl (fr_pc (pc' := 654) rfl ?_)
  refine fp_iconst (v := (1 : Int32)) dd_Law_law_654 (by decide) (fr_pc (pc' := 655) rfl ?_)
  refine fp_iadd dd_Law_law_655 (fr_pc (pc' := 656) rfl ?_)
  refine fr_scr hS dd_Law_law_656 (fun x1 => fr_pc (pc' := 657) rfl ?_)
  refine fp_aload_nd (i := 0) (x := 60) dd_Law_law_657 rfl rfl (fr_pc (pc' := 658) rfl ?_)
  refine fp_iload_n (i := 3) (x := i) dd_Law_law_658 rfl rfl (fr_pc (pc' := 659) rfl ?_)
  refine fp_iconst (v := (2 : Int32)) dd_Law_law_659 (by decide) (fr_pc (pc' := 660) rfl ?_)
  refine fp_iadd dd_Law_law_660 (fr_pc (pc' := 661) rfl ?_)
  refine fr_scr hS dd_Law_law_661 (fun x2 => fr_pc (pc' := 662) rfl ?_)
  refine fp_aload_nd (i := 0) (x := 60) dd_Law_law_662 rfl rfl (fr_pc (pc' := 663) rfl ?_)
  refine fp_iload_n (i := 3) (x := i) dd_Law_law_663 rfl rfl (fr_pc (pc' := 664) rfl ?_)
  refine fp_iconst (v := (3 : Int32)) dd_Law_law_664 (by decide) (fr_pc (pc' := 665) rfl ?_)
  refine fp_iadd dd_Law_law_665 (fr_pc (pc' := 666) rfl ?_)
  refine fr_scr hS dd_Law_law_666 (fun x3 => fr_pc (pc' := 667) rfl ?_)
  refine fr_callV (stk := []) (As := [.int x1, .int x2, .int x3]) cl_0 (ok_SF_buy x x1 x2 x3) mt_SF_buy rfl rfl sw_866 sw_867 sw_868 (by decide) (Nat.le_of_ble_eq_true rfl) dd_Law_law_667 (fun x4 => fr_to (pc' := 670) (env' := [some (.double 60), some (sf_rv x), some (sf_rv m), some (.int i)]) (stk' := [.int x4]) rfl rfl rfl ?_)
  refine fp_aload_n (i := 2) (r := m) dd_Law_law_670 rfl rfl (fr_pc (pc' := 671) rfl ?_)
  refine fp_aload_nd (i := 0) (x := 60) dd_Law_law_671 rfl rfl (fr_pc (pc' := 672) rfl ?_)
  refine fp_iload_n (i := 3) (x := i) dd_Law_law_672 rfl rfl (fr_pc (pc' := 673) rfl ?_)
  refine fp_iconst (v := (1 : Int32)) dd_Law_law_673 (by decide) (fr_pc (pc' := 674) rfl ?_)
  refine fp_iadd dd_Law_law_674 (fr_pc (pc' := 675) rfl ?_)
  refine fr_scr hS dd_Law_law_675 (fun x5 => fr_pc (pc' := 676) rfl ?_)
  refine fp_aload_nd (i := 0) (x := 60) dd_Law_law_676 rfl rfl (fr_pc (pc' := 677) rfl ?_)
  refine fp_iload_n (i := 3) (x := i) dd_Law_law_677 rfl rfl (fr_pc (pc' := 678) rfl ?_)
  refine fp_iconst (v := (2 : Int32)) dd_Law_law_678 (by decide) (fr_pc (pc' := 679) rfl ?_)
  refine fp_iadd dd_Law_law_679 (fr_pc (pc' := 680) rfl ?_)
  refine fr_scr hS dd_Law_law_680 (fun x6 => fr_pc (pc' := 681) rfl ?_)
  refine fp_aload_nd (i := 0) (x := 60) dd_Law_law_681 rfl rfl (fr_pc (pc' := 682) rfl ?_)
  refine fp_iload_n (i := 3) (x := i) dd_Law_law_682 rfl rfl (fr_pc (pc' := 683) rfl ?_)
  refine fp_iconst (v := (3 : Int32)) dd_Law_law_683 (by decide) (fr_pc (pc' := 684) rfl ?_)
  refine fp_iadd dd_Law_law_684 (fr_pc (pc' := 685) rfl ?_)
  refine fr_scr hS dd_Law_law_685 (fun x7 => fr_pc (pc' := 686) rfl ?_)
  refine fr_callV (stk := [.int x4]) (As := [.int x5, .int x6, .int x7]) cl_11 (ok_Mo_buy m x5 x6 x7) mt_Mo_buy rfl rfl sw_1616 sw_1617 sw_1618 (by decide) (Nat.le_of_ble_eq_true rfl) dd_Law_law_686 (fun x8 => fr_to (pc' := 689) (env' := [some (.double 60), some (sf_rv x), some (sf_rv m), some (.int i)]) (stk' := [.int x8, .int x4]) rfl rfl rfl ?_)
  refine fr_icmp_eq (tgt := 1483) dd_Law_law_689 rfl (fun _ => ?_) (fun _ => ?_)
  · refine fr_niinc (i := 3) (x := i) (w := (6 : Int32)) dd_Law_law_1483 rfl (by decide) (Nat.le_of_ble_eq_true rfl) (fun _ => c1_r rfl) (fun y10 => fr_to (pc' := 1486) (env' := [some (.double 60), some (sf_rv x), some (sf_rv m), some (.int y10)]) (stk' := []) rfl rfl rfl ?_)
    refine fp_goto (tgt := 18) dd_Law_law_1486 rfl ?_
    exact fr_ret rfl
  · refine fr_pc (pc' := 692) rfl ?_
    refine fp_iconst (v := (0 : Int32)) dd_Law_law_692 (by decide) (fr_pc (pc' := 693) rfl ?_)
    exact fr_zret0 (v := (0 : Int32)) (Or.inl rfl) rfl rfl dd_Law_law_693
def jl_16 (L : Nat) (xs : Nat → Int32) (i : Int32) (x m : Option Nat) : sf_M ((Int32) ⊕ (Int32 ⊕ (Unit))) :=
  sf_bnd (sf_scr L xs (i + (1 : Int32))) fun x1 =>
  sf_bnd (sf_scr L xs (i + (2 : Int32))) fun x2 =>
  sf_bnd (sf_rc 0 x (jx_SF_ride x x1 x2)) fun x3 =>
  sf_bnd (sf_scr L xs (i + (1 : Int32))) fun x4 =>
  sf_bnd (sf_scr L xs (i + (2 : Int32))) fun x5 =>
  sf_bnd (sf_rc 11 m (jx_Mo_ride m x4 x5)) fun x6 =>
  if x3 = x6 then (
  sf_bnd (sf_ret (i + (6 : Int32))) fun y8 =>
  sf_ret (.inl y8)
  ) else (
  sf_ret (.inr (.inl (0 : Int32)))
  )
set_option maxRecDepth 20000 in
set_option maxHeartbeats 4000000 in
theorem fl_16 (X : sf_X) (L : Nat) (xs : Nat → Int32) (hS : sf_Scr X L xs) (i : Int32) (x m : Option Nat) : sf_Fr X sf_ZL (sf_p 694 [some (.double 60), some (sf_rv x), some (sf_rv m), some (.int i)] []) (jl_16 L xs i x m) (fun r => match r with
  | .inl b => sf_p 18 [some (.double 60), some (sf_rv x), some (sf_rv m), some (.int b)] []
  | .inr g => match g with
    | .inl a => .inr (some (.int a))
    | .inr _ => sf_p 1489 [some (.double 60), some (sf_rv x), some (sf_rv m), none] []) := by
  unfold jl_16
  refine fp_aload_n (i := 1) (r := x) dd_Law_law_694 rfl rfl (fr_pc (pc' := 695) rfl ?_)
  refine fp_aload_nd (i := 0) (x := 60) dd_Law_law_695 rfl rfl (fr_pc (pc' := 696) rfl ?_)
  refine fp_iload_n (i := 3) (x := i) dd_Law_law_696 rfl rfl (fr_pc (pc' := 697) rfl ?_)
  refine fp_iconst (v := (1 : Int32)) dd_Law_law_697 (by decide) (fr_pc (pc' := 698) rfl ?_)
  refine fp_iadd dd_Law_law_698 (fr_pc (pc' := 699) rfl ?_)
  refine fr_scr hS dd_Law_law_699 (fun x1 => fr_pc (pc' := 700) rfl ?_)
  refine fp_aload_nd (i := 0) (x := 60) dd_Law_law_700 rfl rfl (fr_pc (pc' := 701) rfl ?_)
  refine fp_iload_n (i := 3) (x := i) dd_Law_law_701 rfl rfl (fr_pc (pc' := 702) rfl ?_)
  refine fp_iconst (v := (2 : Int32)) dd_Law_law_702 (by decide) (fr_pc (pc' := 703) rfl ?_)
  refine fp_iadd dd_Law_law_703 (fr_pc (pc' := 704) rfl ?_)
  refine fr_scr hS dd_Law_law_704 (fun x2 => fr_pc (pc' := 705) rfl ?_)
  refine fr_callV (stk := []) (As := [.int x1, .int x2]) cl_0 (ok_SF_ride x x1 x2) mt_SF_ride rfl rfl sw_871 sw_872 sw_873 (by decide) (Nat.le_of_ble_eq_true rfl) dd_Law_law_705 (fun x3 => fr_to (pc' := 708) (env' := [some (.double 60), some (sf_rv x), some (sf_rv m), some (.int i)]) (stk' := [.int x3]) rfl rfl rfl ?_)
  refine fp_aload_n (i := 2) (r := m) dd_Law_law_708 rfl rfl (fr_pc (pc' := 709) rfl ?_)
  refine fp_aload_nd (i := 0) (x := 60) dd_Law_law_709 rfl rfl (fr_pc (pc' := 710) rfl ?_)
  refine fp_iload_n (i := 3) (x := i) dd_Law_law_710 rfl rfl (fr_pc (pc' := 711) rfl ?_)
  refine fp_iconst (v := (1 : Int32)) dd_Law_law_711 (by decide) (fr_pc (pc' := 712) rfl ?_)
  refine fp_iadd dd_Law_law_712 (fr_pc (pc' := 713) rfl ?_)
  refine fr_scr hS dd_Law_law_713 (fun x4 => fr_pc (pc' := 714) rfl ?_)
  refine fp_aload_nd (i := 0) (x := 60) dd_Law_law_714 rfl rfl (fr_pc (pc' := 715) rfl ?_)
  refine fp_iload_n (i := 3) (x := i) dd_Law_law_715 rfl rfl (fr_pc (pc' := 716) rfl ?_)
  refine fp_iconst (v := (2 : Int32)) dd_Law_law_716 (by decide) (fr_pc (pc' := 717) rfl ?_)
  refine fp_iadd dd_Law_law_717 (fr_pc (pc' := 718) rfl ?_)
  refine fr_scr hS dd_Law_law_718 (fun x5 => fr_pc (pc' := 719) rfl ?_)
  refine fr_callV (stk := [.int x3]) (As := [.int x4, .int x5]) cl_11 (ok_Mo_ride m x4 x5) mt_Mo_ride rfl rfl sw_1640 sw_1641 sw_1642 (by decide) (Nat.le_of_ble_eq_true rfl) dd_Law_law_719 (fun x6 => fr_to (pc' := 722) (env' := [some (.double 60), some (sf_rv x), some (sf_rv m), some (.int i)]) (stk' := [.int x6, .int x3]) rfl rfl rfl ?_)
  refine fr_icmp_eq (tgt := 1483) dd_Law_law_722 rfl (fun _ => ?_) (fun _ => ?_)
  · refine fr_niinc (i := 3) (x := i) (w := (6 : Int32)) dd_Law_law_1483 rfl (by decide) (Nat.le_of_ble_eq_true rfl) (fun _ => c1_r rfl) (fun y8 => fr_to (pc' := 1486) (env' := [some (.double 60), some (sf_rv x), some (sf_rv m), some (.int y8)]) (stk' := []) rfl rfl rfl ?_)
    refine fp_goto (tgt := 18) dd_Law_law_1486 rfl ?_
    exact fr_ret rfl
  · refine fr_pc (pc' := 725) rfl ?_
    refine fp_iconst (v := (0 : Int32)) dd_Law_law_725 (by decide) (fr_pc (pc' := 726) rfl ?_)
    exact fr_zret0 (v := (0 : Int32)) (Or.inl rfl) rfl rfl dd_Law_law_726
def jl_17 (L : Nat) (xs : Nat → Int32) (i : Int32) (x m : Option Nat) : sf_M ((Int32) ⊕ (Int32 ⊕ (Unit))) :=
  sf_bnd (sf_scr L xs (i + (1 : Int32))) fun x1 =>
  sf_bnd (sf_rc 0 x (jx_SF_save x x1)) fun x2 =>
  sf_bnd (sf_scr L xs (i + (1 : Int32))) fun x3 =>
  sf_bnd (sf_rc 11 m (jx_Mo_save m x3)) fun x4 =>
  if x2 = x4 then (
  sf_bnd (sf_ret (i + (6 : Int32))) fun y6 =>
  sf_ret (.inl y6)
  ) else (
  sf_ret (.inr (.inl (0 : Int32)))
  )
set_option maxRecDepth 20000 in
set_option maxHeartbeats 4000000 in
theorem fl_17 (X : sf_X) (L : Nat) (xs : Nat → Int32) (hS : sf_Scr X L xs) (i : Int32) (x m : Option Nat) : sf_Fr X sf_ZL (sf_p 727 [some (.double 60), some (sf_rv x), some (sf_rv m), some (.int i)] []) (jl_17 L xs i x m) (fun r => match r with
  | .inl b => sf_p 18 [some (.double 60), some (sf_rv x), some (sf_rv m), some (.int b)] []
  | .inr g => match g with
    | .inl a => .inr (some (.int a))
    | .inr _ => sf_p 1489 [some (.double 60), some (sf_rv x), some (sf_rv m), none] []) := by
  unfold jl_17
  refine fp_aload_n (i := 1) (r := x) dd_Law_law_727 rfl rfl (fr_pc (pc' := 728) rfl ?_)
  refine fp_aload_nd (i := 0) (x := 60) dd_Law_law_728 rfl rfl (fr_pc (pc' := 729) rfl ?_)
  refine fp_iload_n (i := 3) (x := i) dd_Law_law_729 rfl rfl (fr_pc (pc' := 730) rfl ?_)
  refine fp_iconst (v := (1 : Int32)) dd_Law_law_730 (by decide) (fr_pc (pc' := 731) rfl ?_)
  refine fp_iadd dd_Law_law_731 (fr_pc (pc' := 732) rfl ?_)
  refine fr_scr hS dd_Law_law_732 (fun x1 => fr_pc (pc' := 733) rfl ?_)
  refine fr_callV (stk := []) (As := [.int x1]) cl_0 (ok_SF_save x x1) mt_SF_save rfl rfl sw_876 sw_877 sw_878 (by decide) (Nat.le_of_ble_eq_true rfl) dd_Law_law_733 (fun x2 => fr_to (pc' := 736) (env' := [some (.double 60), some (sf_rv x), some (sf_rv m), some (.int i)]) (stk' := [.int x2]) rfl rfl rfl ?_)
  refine fp_aload_n (i := 2) (r := m) dd_Law_law_736 rfl rfl (fr_pc (pc' := 737) rfl ?_)
  refine fp_aload_nd (i := 0) (x := 60) dd_Law_law_737 rfl rfl (fr_pc (pc' := 738) rfl ?_)
  refine fp_iload_n (i := 3) (x := i) dd_Law_law_738 rfl rfl (fr_pc (pc' := 739) rfl ?_)
  refine fp_iconst (v := (1 : Int32)) dd_Law_law_739 (by decide) (fr_pc (pc' := 740) rfl ?_)
  refine fp_iadd dd_Law_law_740 (fr_pc (pc' := 741) rfl ?_)
  refine fr_scr hS dd_Law_law_741 (fun x3 => fr_pc (pc' := 742) rfl ?_)
  refine fr_callV (stk := [.int x2]) (As := [.int x3]) cl_11 (ok_Mo_save m x3) mt_Mo_save rfl rfl sw_1672 sw_1673 sw_1674 (by decide) (Nat.le_of_ble_eq_true rfl) dd_Law_law_742 (fun x4 => fr_to (pc' := 745) (env' := [some (.double 60), some (sf_rv x), some (sf_rv m), some (.int i)]) (stk' := [.int x4, .int x2]) rfl rfl rfl ?_)
  refine fr_icmp_eq (tgt := 1483) dd_Law_law_745 rfl (fun _ => ?_) (fun _ => ?_)
  · refine fr_niinc (i := 3) (x := i) (w := (6 : Int32)) dd_Law_law_1483 rfl (by decide) (Nat.le_of_ble_eq_true rfl) (fun _ => c1_r rfl) (fun y6 => fr_to (pc' := 1486) (env' := [some (.double 60), some (sf_rv x), some (sf_rv m), some (.int y6)]) (stk' := []) rfl rfl rfl ?_)
    refine fp_goto (tgt := 18) dd_Law_law_1486 rfl ?_
    exact fr_ret rfl
  · refine fr_pc (pc' := 748) rfl ?_
    refine fp_iconst (v := (0 : Int32)) dd_Law_law_748 (by decide) (fr_pc (pc' := 749) rfl ?_)
    exact fr_zret0 (v := (0 : Int32)) (Or.inl rfl) rfl rfl dd_Law_law_749
def jl_18 (L : Nat) (xs : Nat → Int32) (i : Int32) (x m : Option Nat) : sf_M ((Int32) ⊕ (Int32 ⊕ (Unit))) :=
  sf_bnd (sf_rc 0 x (jx_SF_pass x)) fun x1 =>
  sf_bnd (sf_rc 11 m (jx_Mo_pass m)) fun x2 =>
  if x1 = x2 then (
  sf_bnd (sf_ret (i + (6 : Int32))) fun y4 =>
  sf_ret (.inl y4)
  ) else (
  sf_ret (.inr (.inl (0 : Int32)))
  )
set_option maxRecDepth 20000 in
set_option maxHeartbeats 4000000 in
theorem fl_18 (X : sf_X) (L : Nat) (xs : Nat → Int32) (hS : sf_Scr X L xs) (i : Int32) (x m : Option Nat) : sf_Fr X sf_ZL (sf_p 750 [some (.double 60), some (sf_rv x), some (sf_rv m), some (.int i)] []) (jl_18 L xs i x m) (fun r => match r with
  | .inl b => sf_p 18 [some (.double 60), some (sf_rv x), some (sf_rv m), some (.int b)] []
  | .inr g => match g with
    | .inl a => .inr (some (.int a))
    | .inr _ => sf_p 1489 [some (.double 60), some (sf_rv x), some (sf_rv m), none] []) := by
  unfold jl_18
  refine fp_aload_n (i := 1) (r := x) dd_Law_law_750 rfl rfl (fr_pc (pc' := 751) rfl ?_)
  refine fr_callV (stk := []) (As := []) cl_0 (ok_SF_pass x) mt_SF_pass rfl rfl sw_881 sw_882 sw_883 (by decide) (Nat.le_of_ble_eq_true rfl) dd_Law_law_751 (fun x1 => fr_to (pc' := 754) (env' := [some (.double 60), some (sf_rv x), some (sf_rv m), some (.int i)]) (stk' := [.int x1]) rfl rfl rfl ?_)
  refine fp_aload_n (i := 2) (r := m) dd_Law_law_754 rfl rfl (fr_pc (pc' := 755) rfl ?_)
  refine fr_callV (stk := [.int x1]) (As := []) cl_11 (ok_Mo_pass m) mt_Mo_pass rfl rfl sw_1681 sw_1682 sw_1683 (by decide) (Nat.le_of_ble_eq_true rfl) dd_Law_law_755 (fun x2 => fr_to (pc' := 758) (env' := [some (.double 60), some (sf_rv x), some (sf_rv m), some (.int i)]) (stk' := [.int x2, .int x1]) rfl rfl rfl ?_)
  refine fr_icmp_eq (tgt := 1483) dd_Law_law_758 rfl (fun _ => ?_) (fun _ => ?_)
  · refine fr_niinc (i := 3) (x := i) (w := (6 : Int32)) dd_Law_law_1483 rfl (by decide) (Nat.le_of_ble_eq_true rfl) (fun _ => c1_r rfl) (fun y4 => fr_to (pc' := 1486) (env' := [some (.double 60), some (sf_rv x), some (sf_rv m), some (.int y4)]) (stk' := []) rfl rfl rfl ?_)
    refine fp_goto (tgt := 18) dd_Law_law_1486 rfl ?_
    exact fr_ret rfl
  · refine fr_pc (pc' := 761) rfl ?_
    refine fp_iconst (v := (0 : Int32)) dd_Law_law_761 (by decide) (fr_pc (pc' := 762) rfl ?_)
    exact fr_zret0 (v := (0 : Int32)) (Or.inl rfl) rfl rfl dd_Law_law_762
def jl_19 (L : Nat) (xs : Nat → Int32) (i : Int32) (x m : Option Nat) : sf_M ((Int32) ⊕ (Int32 ⊕ (Unit))) :=
  sf_bnd (sf_rc 0 x (jx_SF_undo x)) fun x1 =>
  sf_bnd (sf_rc 11 m (jx_Mo_undo m)) fun x2 =>
  if x1 = x2 then (
  sf_bnd (sf_ret (i + (6 : Int32))) fun y4 =>
  sf_ret (.inl y4)
  ) else (
  sf_ret (.inr (.inl (0 : Int32)))
  )
set_option maxRecDepth 20000 in
set_option maxHeartbeats 4000000 in
theorem fl_19 (X : sf_X) (L : Nat) (xs : Nat → Int32) (hS : sf_Scr X L xs) (i : Int32) (x m : Option Nat) : sf_Fr X sf_ZL (sf_p 763 [some (.double 60), some (sf_rv x), some (sf_rv m), some (.int i)] []) (jl_19 L xs i x m) (fun r => match r with
  | .inl b => sf_p 18 [some (.double 60), some (sf_rv x), some (sf_rv m), some (.int b)] []
  | .inr g => match g with
    | .inl a => .inr (some (.int a))
    | .inr _ => sf_p 1489 [some (.double 60), some (sf_rv x), some (sf_rv m), none] []) := by
  unfold jl_19
  refine fp_aload_n (i := 1) (r := x) dd_Law_law_763 rfl rfl (fr_pc (pc' := 764) rfl ?_)
  refine fr_callV (stk := []) (As := []) cl_0 (ok_SF_undo x) mt_SF_undo rfl rfl sw_886 sw_887 sw_888 (by decide) (Nat.le_of_ble_eq_true rfl) dd_Law_law_764 (fun x1 => fr_to (pc' := 767) (env' := [some (.double 60), some (sf_rv x), some (sf_rv m), some (.int i)]) (stk' := [.int x1]) rfl rfl rfl ?_)
  refine fp_aload_n (i := 2) (r := m) dd_Law_law_767 rfl rfl (fr_pc (pc' := 768) rfl ?_)
  refine fr_callV (stk := [.int x1]) (As := []) cl_11 (ok_Mo_undo m) mt_Mo_undo rfl rfl sw_1612 sw_1613 sw_1614 (by decide) (Nat.le_of_ble_eq_true rfl) dd_Law_law_768 (fun x2 => fr_to (pc' := 771) (env' := [some (.double 60), some (sf_rv x), some (sf_rv m), some (.int i)]) (stk' := [.int x2, .int x1]) rfl rfl rfl ?_)
  refine fr_icmp_eq (tgt := 1483) dd_Law_law_771 rfl (fun _ => ?_) (fun _ => ?_)
  · refine fr_niinc (i := 3) (x := i) (w := (6 : Int32)) dd_Law_law_1483 rfl (by decide) (Nat.le_of_ble_eq_true rfl) (fun _ => c1_r rfl) (fun y4 => fr_to (pc' := 1486) (env' := [some (.double 60), some (sf_rv x), some (sf_rv m), some (.int y4)]) (stk' := []) rfl rfl rfl ?_)
    refine fp_goto (tgt := 18) dd_Law_law_1486 rfl ?_
    exact fr_ret rfl
  · refine fr_pc (pc' := 774) rfl ?_
    refine fp_iconst (v := (0 : Int32)) dd_Law_law_774 (by decide) (fr_pc (pc' := 775) rfl ?_)
    exact fr_zret0 (v := (0 : Int32)) (Or.inl rfl) rfl rfl dd_Law_law_775
def jl_20 (L : Nat) (xs : Nat → Int32) (i : Int32) (x m : Option Nat) : sf_M ((Int32) ⊕ (Int32 ⊕ (Unit))) :=
  sf_bnd (sf_scr L xs (i + (1 : Int32))) fun x1 =>
  sf_bnd (sf_scr L xs (i + (2 : Int32))) fun x2 =>
  sf_bnd (sf_scr L xs (i + (3 : Int32))) fun x3 =>
  sf_bnd (sf_scr L xs (i + (4 : Int32))) fun x4 =>
  sf_bnd (sf_rc 0 x (jx_SF_cheapest x x1 x2 x3 x4)) fun x5 =>
  sf_bnd (sf_scr L xs (i + (1 : Int32))) fun x6 =>
  sf_bnd (sf_scr L xs (i + (2 : Int32))) fun x7 =>
  sf_bnd (sf_scr L xs (i + (3 : Int32))) fun x8 =>
  sf_bnd (sf_scr L xs (i + (4 : Int32))) fun x9 =>
  sf_bnd (sf_rc 11 m (jx_Mo_cheapest m x6 x7 x8 x9)) fun x10 =>
  if x5 = x10 then (
  sf_bnd (sf_ret (i + (6 : Int32))) fun y12 =>
  sf_ret (.inl y12)
  ) else (
  sf_ret (.inr (.inl (0 : Int32)))
  )
set_option maxRecDepth 20000 in
set_option maxHeartbeats 4000000 in
theorem fl_20 (X : sf_X) (L : Nat) (xs : Nat → Int32) (hS : sf_Scr X L xs) (i : Int32) (x m : Option Nat) : sf_Fr X sf_ZL (sf_p 776 [some (.double 60), some (sf_rv x), some (sf_rv m), some (.int i)] []) (jl_20 L xs i x m) (fun r => match r with
  | .inl b => sf_p 18 [some (.double 60), some (sf_rv x), some (sf_rv m), some (.int b)] []
  | .inr g => match g with
    | .inl a => .inr (some (.int a))
    | .inr _ => sf_p 1489 [some (.double 60), some (sf_rv x), some (sf_rv m), none] []) := by
  unfold jl_20
  refine fp_aload_n (i := 1) (r := x) dd_Law_law_776 rfl rfl (fr_pc (pc' := 777) rfl ?_)
  refine fp_aload_nd (i := 0) (x := 60) dd_Law_law_777 rfl rfl (fr_pc (pc' := 778) rfl ?_)
  refine fp_iload_n (i := 3) (x := i) dd_Law_law_778 rfl rfl (fr_pc (pc' := 779) rfl ?_)
  refine fp_iconst (v := (1 : Int32)) dd_Law_law_779 (by decide) (fr_pc (pc' := 780) rfl ?_)
  refine fp_iadd dd_Law_law_780 (fr_pc (pc' := 781) rfl ?_)
  refine fr_scr hS dd_Law_law_781 (fun x1 => fr_pc (pc' := 782) rfl ?_)
  refine fp_aload_nd (i := 0) (x := 60) dd_Law_law_782 rfl rfl (fr_pc (pc' := 783) rfl ?_)
  refine fp_iload_n (i := 3) (x := i) dd_Law_law_783 rfl rfl (fr_pc (pc' := 784) rfl ?_)
  refine fp_iconst (v := (2 : Int32)) dd_Law_law_784 (by decide) (fr_pc (pc' := 785) rfl ?_)
  refine fp_iadd dd_Law_law_785 (fr_pc (pc' := 786) rfl ?_)
  refine fr_scr hS dd_Law_law_786 (fun x2 => fr_pc (pc' := 787) rfl ?_)
  refine fp_aload_nd (i := 0) (x := 60) dd_Law_law_787 rfl rfl (fr_pc (pc' := 788) rfl ?_)
  refine fp_iload_n (i := 3) (x := i) dd_Law_law_788 rfl rfl (fr_pc (pc' := 789) rfl ?_)
  refine fp_iconst (v := (3 : Int32)) dd_Law_law_789 (by decide) (fr_pc (pc' := 790) rfl ?_)
  refine fp_iadd dd_Law_law_790 (fr_pc (pc' := 791) rfl ?_)
  refine fr_scr hS dd_Law_law_791 (fun x3 => fr_pc (pc' := 792) rfl ?_)
  refine fp_aload_nd (i := 0) (x := 60) dd_Law_law_792 rfl rfl (fr_pc (pc' := 793) rfl ?_)
  refine fp_iload_n (i := 3) (x := i) dd_Law_law_793 rfl rfl (fr_pc (pc' := 794) rfl ?_)
  refine fp_iconst (v := (4 : Int32)) dd_Law_law_794 (by decide) (fr_pc (pc' := 795) rfl ?_)
  refine fp_iadd dd_Law_law_795 (fr_pc (pc' := 796) rfl ?_)
  refine fr_scr hS dd_Law_law_796 (fun x4 => fr_pc (pc' := 797) rfl ?_)
  refine fr_callV (stk := []) (As := [.int x1, .int x2, .int x3, .int x4]) cl_0 (ok_SF_cheapest x x1 x2 x3 x4) mt_SF_cheapest rfl rfl sw_894 sw_895 sw_896 (by decide) (Nat.le_of_ble_eq_true rfl) dd_Law_law_797 (fun x5 => fr_to (pc' := 800) (env' := [some (.double 60), some (sf_rv x), some (sf_rv m), some (.int i)]) (stk' := [.int x5]) rfl rfl rfl ?_)
  refine fp_aload_n (i := 2) (r := m) dd_Law_law_800 rfl rfl (fr_pc (pc' := 801) rfl ?_)
  refine fp_aload_nd (i := 0) (x := 60) dd_Law_law_801 rfl rfl (fr_pc (pc' := 802) rfl ?_)
  refine fp_iload_n (i := 3) (x := i) dd_Law_law_802 rfl rfl (fr_pc (pc' := 803) rfl ?_)
  refine fp_iconst (v := (1 : Int32)) dd_Law_law_803 (by decide) (fr_pc (pc' := 804) rfl ?_)
  refine fp_iadd dd_Law_law_804 (fr_pc (pc' := 805) rfl ?_)
  refine fr_scr hS dd_Law_law_805 (fun x6 => fr_pc (pc' := 806) rfl ?_)
  refine fp_aload_nd (i := 0) (x := 60) dd_Law_law_806 rfl rfl (fr_pc (pc' := 807) rfl ?_)
  refine fp_iload_n (i := 3) (x := i) dd_Law_law_807 rfl rfl (fr_pc (pc' := 808) rfl ?_)
  refine fp_iconst (v := (2 : Int32)) dd_Law_law_808 (by decide) (fr_pc (pc' := 809) rfl ?_)
  refine fp_iadd dd_Law_law_809 (fr_pc (pc' := 810) rfl ?_)
  refine fr_scr hS dd_Law_law_810 (fun x7 => fr_pc (pc' := 811) rfl ?_)
  refine fp_aload_nd (i := 0) (x := 60) dd_Law_law_811 rfl rfl (fr_pc (pc' := 812) rfl ?_)
  refine fp_iload_n (i := 3) (x := i) dd_Law_law_812 rfl rfl (fr_pc (pc' := 813) rfl ?_)
  refine fp_iconst (v := (3 : Int32)) dd_Law_law_813 (by decide) (fr_pc (pc' := 814) rfl ?_)
  refine fp_iadd dd_Law_law_814 (fr_pc (pc' := 815) rfl ?_)
  refine fr_scr hS dd_Law_law_815 (fun x8 => fr_pc (pc' := 816) rfl ?_)
  refine fp_aload_nd (i := 0) (x := 60) dd_Law_law_816 rfl rfl (fr_pc (pc' := 817) rfl ?_)
  refine fp_iload_n (i := 3) (x := i) dd_Law_law_817 rfl rfl (fr_pc (pc' := 818) rfl ?_)
  refine fp_iconst (v := (4 : Int32)) dd_Law_law_818 (by decide) (fr_pc (pc' := 819) rfl ?_)
  refine fp_iadd dd_Law_law_819 (fr_pc (pc' := 820) rfl ?_)
  refine fr_scr hS dd_Law_law_820 (fun x9 => fr_pc (pc' := 821) rfl ?_)
  refine fr_callV (stk := [.int x5]) (As := [.int x6, .int x7, .int x8, .int x9]) cl_11 (ok_Mo_cheapest m x6 x7 x8 x9) mt_Mo_cheapest rfl rfl sw_1508 sw_1509 sw_1510 (by decide) (Nat.le_of_ble_eq_true rfl) dd_Law_law_821 (fun x10 => fr_to (pc' := 824) (env' := [some (.double 60), some (sf_rv x), some (sf_rv m), some (.int i)]) (stk' := [.int x10, .int x5]) rfl rfl rfl ?_)
  refine fr_icmp_eq (tgt := 1483) dd_Law_law_824 rfl (fun _ => ?_) (fun _ => ?_)
  · refine fr_niinc (i := 3) (x := i) (w := (6 : Int32)) dd_Law_law_1483 rfl (by decide) (Nat.le_of_ble_eq_true rfl) (fun _ => c1_r rfl) (fun y12 => fr_to (pc' := 1486) (env' := [some (.double 60), some (sf_rv x), some (sf_rv m), some (.int y12)]) (stk' := []) rfl rfl rfl ?_)
    refine fp_goto (tgt := 18) dd_Law_law_1486 rfl ?_
    exact fr_ret rfl
  · refine fr_pc (pc' := 827) rfl ?_
    refine fp_iconst (v := (0 : Int32)) dd_Law_law_827 (by decide) (fr_pc (pc' := 828) rfl ?_)
    exact fr_zret0 (v := (0 : Int32)) (Or.inl rfl) rfl rfl dd_Law_law_828
def jl_21 (L : Nat) (xs : Nat → Int32) (i : Int32) (x m : Option Nat) : sf_M ((Int32) ⊕ (Int32 ⊕ (Unit))) :=
  sf_bnd (sf_scr L xs (i + (1 : Int32))) fun x1 =>
  sf_bnd (sf_scr L xs (i + (2 : Int32))) fun x2 =>
  sf_bnd (sf_scr L xs (i + (3 : Int32))) fun x3 =>
  sf_bnd (sf_scr L xs (i + (4 : Int32))) fun x4 =>
  sf_bnd (sf_rc 0 x (jx_SF_byAtMost x x1 x2 x3 x4)) fun x5 =>
  sf_bnd (sf_scr L xs (i + (1 : Int32))) fun x6 =>
  sf_bnd (sf_scr L xs (i + (2 : Int32))) fun x7 =>
  sf_bnd (sf_scr L xs (i + (3 : Int32))) fun x8 =>
  sf_bnd (sf_scr L xs (i + (4 : Int32))) fun x9 =>
  sf_bnd (sf_rc 11 m (jx_Mo_byAtMost m x6 x7 x8 x9)) fun x10 =>
  if x5 = x10 then (
  sf_bnd (sf_ret (i + (6 : Int32))) fun y12 =>
  sf_ret (.inl y12)
  ) else (
  sf_ret (.inr (.inl (0 : Int32)))
  )
set_option maxRecDepth 20000 in
set_option maxHeartbeats 4000000 in
theorem fl_21 (X : sf_X) (L : Nat) (xs : Nat → Int32) (hS : sf_Scr X L xs) (i : Int32) (x m : Option Nat) : sf_Fr X sf_ZL (sf_p 829 [some (.double 60), some (sf_rv x), some (sf_rv m), some (.int i)] []) (jl_21 L xs i x m) (fun r => match r with
  | .inl b => sf_p 18 [some (.double 60), some (sf_rv x), some (sf_rv m), some (.int b)] []
  | .inr g => match g with
    | .inl a => .inr (some (.int a))
    | .inr _ => sf_p 1489 [some (.double 60), some (sf_rv x), some (sf_rv m), none] []) := by
  unfold jl_21
  refine fp_aload_n (i := 1) (r := x) dd_Law_law_829 rfl rfl (fr_pc (pc' := 830) rfl ?_)
  refine fp_aload_nd (i := 0) (x := 60) dd_Law_law_830 rfl rfl (fr_pc (pc' := 831) rfl ?_)
  refine fp_iload_n (i := 3) (x := i) dd_Law_law_831 rfl rfl (fr_pc (pc' := 832) rfl ?_)
  refine fp_iconst (v := (1 : Int32)) dd_Law_law_832 (by decide) (fr_pc (pc' := 833) rfl ?_)
  refine fp_iadd dd_Law_law_833 (fr_pc (pc' := 834) rfl ?_)
  refine fr_scr hS dd_Law_law_834 (fun x1 => fr_pc (pc' := 835) rfl ?_)
  refine fp_aload_nd (i := 0) (x := 60) dd_Law_law_835 rfl rfl (fr_pc (pc' := 836) rfl ?_)
  refine fp_iload_n (i := 3) (x := i) dd_Law_law_836 rfl rfl (fr_pc (pc' := 837) rfl ?_)
  refine fp_iconst (v := (2 : Int32)) dd_Law_law_837 (by decide) (fr_pc (pc' := 838) rfl ?_)
  refine fp_iadd dd_Law_law_838 (fr_pc (pc' := 839) rfl ?_)
  refine fr_scr hS dd_Law_law_839 (fun x2 => fr_pc (pc' := 840) rfl ?_)
  refine fp_aload_nd (i := 0) (x := 60) dd_Law_law_840 rfl rfl (fr_pc (pc' := 841) rfl ?_)
  refine fp_iload_n (i := 3) (x := i) dd_Law_law_841 rfl rfl (fr_pc (pc' := 842) rfl ?_)
  refine fp_iconst (v := (3 : Int32)) dd_Law_law_842 (by decide) (fr_pc (pc' := 843) rfl ?_)
  refine fp_iadd dd_Law_law_843 (fr_pc (pc' := 844) rfl ?_)
  refine fr_scr hS dd_Law_law_844 (fun x3 => fr_pc (pc' := 845) rfl ?_)
  refine fp_aload_nd (i := 0) (x := 60) dd_Law_law_845 rfl rfl (fr_pc (pc' := 846) rfl ?_)
  refine fp_iload_n (i := 3) (x := i) dd_Law_law_846 rfl rfl (fr_pc (pc' := 847) rfl ?_)
  refine fp_iconst (v := (4 : Int32)) dd_Law_law_847 (by decide) (fr_pc (pc' := 848) rfl ?_)
  refine fp_iadd dd_Law_law_848 (fr_pc (pc' := 849) rfl ?_)
  refine fr_scr hS dd_Law_law_849 (fun x4 => fr_pc (pc' := 850) rfl ?_)
  refine fr_callV (stk := []) (As := [.int x1, .int x2, .int x3, .int x4]) cl_0 (ok_SF_byAtMost x x1 x2 x3 x4) mt_SF_byAtMost rfl rfl sw_913 sw_914 sw_915 (by decide) (Nat.le_of_ble_eq_true rfl) dd_Law_law_850 (fun x5 => fr_to (pc' := 853) (env' := [some (.double 60), some (sf_rv x), some (sf_rv m), some (.int i)]) (stk' := [.int x5]) rfl rfl rfl ?_)
  refine fp_aload_n (i := 2) (r := m) dd_Law_law_853 rfl rfl (fr_pc (pc' := 854) rfl ?_)
  refine fp_aload_nd (i := 0) (x := 60) dd_Law_law_854 rfl rfl (fr_pc (pc' := 855) rfl ?_)
  refine fp_iload_n (i := 3) (x := i) dd_Law_law_855 rfl rfl (fr_pc (pc' := 856) rfl ?_)
  refine fp_iconst (v := (1 : Int32)) dd_Law_law_856 (by decide) (fr_pc (pc' := 857) rfl ?_)
  refine fp_iadd dd_Law_law_857 (fr_pc (pc' := 858) rfl ?_)
  refine fr_scr hS dd_Law_law_858 (fun x6 => fr_pc (pc' := 859) rfl ?_)
  refine fp_aload_nd (i := 0) (x := 60) dd_Law_law_859 rfl rfl (fr_pc (pc' := 860) rfl ?_)
  refine fp_iload_n (i := 3) (x := i) dd_Law_law_860 rfl rfl (fr_pc (pc' := 861) rfl ?_)
  refine fp_iconst (v := (2 : Int32)) dd_Law_law_861 (by decide) (fr_pc (pc' := 862) rfl ?_)
  refine fp_iadd dd_Law_law_862 (fr_pc (pc' := 863) rfl ?_)
  refine fr_scr hS dd_Law_law_863 (fun x7 => fr_pc (pc' := 864) rfl ?_)
  refine fp_aload_nd (i := 0) (x := 60) dd_Law_law_864 rfl rfl (fr_pc (pc' := 865) rfl ?_)
  refine fp_iload_n (i := 3) (x := i) dd_Law_law_865 rfl rfl (fr_pc (pc' := 866) rfl ?_)
  refine fp_iconst (v := (3 : Int32)) dd_Law_law_866 (by decide) (fr_pc (pc' := 867) rfl ?_)
  refine fp_iadd dd_Law_law_867 (fr_pc (pc' := 868) rfl ?_)
  refine fr_scr hS dd_Law_law_868 (fun x8 => fr_pc (pc' := 869) rfl ?_)
  refine fp_aload_nd (i := 0) (x := 60) dd_Law_law_869 rfl rfl (fr_pc (pc' := 870) rfl ?_)
  refine fp_iload_n (i := 3) (x := i) dd_Law_law_870 rfl rfl (fr_pc (pc' := 871) rfl ?_)
  refine fp_iconst (v := (4 : Int32)) dd_Law_law_871 (by decide) (fr_pc (pc' := 872) rfl ?_)
  refine fp_iadd dd_Law_law_872 (fr_pc (pc' := 873) rfl ?_)
  refine fr_scr hS dd_Law_law_873 (fun x9 => fr_pc (pc' := 874) rfl ?_)
  refine fr_callV (stk := [.int x5]) (As := [.int x6, .int x7, .int x8, .int x9]) cl_11 (ok_Mo_byAtMost m x6 x7 x8 x9) mt_Mo_byAtMost rfl rfl sw_1555 sw_1556 sw_1557 (by decide) (Nat.le_of_ble_eq_true rfl) dd_Law_law_874 (fun x10 => fr_to (pc' := 877) (env' := [some (.double 60), some (sf_rv x), some (sf_rv m), some (.int i)]) (stk' := [.int x10, .int x5]) rfl rfl rfl ?_)
  refine fr_icmp_eq (tgt := 1483) dd_Law_law_877 rfl (fun _ => ?_) (fun _ => ?_)
  · refine fr_niinc (i := 3) (x := i) (w := (6 : Int32)) dd_Law_law_1483 rfl (by decide) (Nat.le_of_ble_eq_true rfl) (fun _ => c1_r rfl) (fun y12 => fr_to (pc' := 1486) (env' := [some (.double 60), some (sf_rv x), some (sf_rv m), some (.int y12)]) (stk' := []) rfl rfl rfl ?_)
    refine fp_goto (tgt := 18) dd_Law_law_1486 rfl ?_
    exact fr_ret rfl
  · refine fr_pc (pc' := 880) rfl ?_
    refine fp_iconst (v := (0 : Int32)) dd_Law_law_880 (by decide) (fr_pc (pc' := 881) rfl ?_)
    exact fr_zret0 (v := (0 : Int32)) (Or.inl rfl) rfl rfl dd_Law_law_881
def jl_22 (L : Nat) (xs : Nat → Int32) (i : Int32) (x m : Option Nat) : sf_M ((Int32) ⊕ (Int32 ⊕ (Unit))) :=
  sf_bnd (sf_scr L xs (i + (1 : Int32))) fun x1 =>
  sf_bnd (sf_scr L xs (i + (2 : Int32))) fun x2 =>
  sf_bnd (sf_scr L xs (i + (3 : Int32))) fun x3 =>
  sf_bnd (sf_rc 0 x (jx_SF_fewest x x1 x2 x3)) fun x4 =>
  sf_bnd (sf_scr L xs (i + (1 : Int32))) fun x5 =>
  sf_bnd (sf_scr L xs (i + (2 : Int32))) fun x6 =>
  sf_bnd (sf_scr L xs (i + (3 : Int32))) fun x7 =>
  sf_bnd (sf_rc 11 m (jx_Mo_fewest m x5 x6 x7)) fun x8 =>
  if x4 = x8 then (
  sf_bnd (sf_ret (i + (6 : Int32))) fun y10 =>
  sf_ret (.inl y10)
  ) else (
  sf_ret (.inr (.inl (0 : Int32)))
  )
set_option maxRecDepth 20000 in
set_option maxHeartbeats 4000000 in
theorem fl_22 (X : sf_X) (L : Nat) (xs : Nat → Int32) (hS : sf_Scr X L xs) (i : Int32) (x m : Option Nat) : sf_Fr X sf_ZL (sf_p 882 [some (.double 60), some (sf_rv x), some (sf_rv m), some (.int i)] []) (jl_22 L xs i x m) (fun r => match r with
  | .inl b => sf_p 18 [some (.double 60), some (sf_rv x), some (sf_rv m), some (.int b)] []
  | .inr g => match g with
    | .inl a => .inr (some (.int a))
    | .inr _ => sf_p 1489 [some (.double 60), some (sf_rv x), some (sf_rv m), none] []) := by
  unfold jl_22
  refine fp_aload_n (i := 1) (r := x) dd_Law_law_882 rfl rfl (fr_pc (pc' := 883) rfl ?_)
  refine fp_aload_nd (i := 0) (x := 60) dd_Law_law_883 rfl rfl (fr_pc (pc' := 884) rfl ?_)
  refine fp_iload_n (i := 3) (x := i) dd_Law_law_884 rfl rfl (fr_pc (pc' := 885) rfl ?_)
  refine fp_iconst (v := (1 : Int32)) dd_Law_law_885 (by decide) (fr_pc (pc' := 886) rfl ?_)
  refine fp_iadd dd_Law_law_886 (fr_pc (pc' := 887) rfl ?_)
  refine fr_scr hS dd_Law_law_887 (fun x1 => fr_pc (pc' := 888) rfl ?_)
  refine fp_aload_nd (i := 0) (x := 60) dd_Law_law_888 rfl rfl (fr_pc (pc' := 889) rfl ?_)
  refine fp_iload_n (i := 3) (x := i) dd_Law_law_889 rfl rfl (fr_pc (pc' := 890) rfl ?_)
  refine fp_iconst (v := (2 : Int32)) dd_Law_law_890 (by decide) (fr_pc (pc' := 891) rfl ?_)
  refine fp_iadd dd_Law_law_891 (fr_pc (pc' := 892) rfl ?_)
  refine fr_scr hS dd_Law_law_892 (fun x2 => fr_pc (pc' := 893) rfl ?_)
  refine fp_aload_nd (i := 0) (x := 60) dd_Law_law_893 rfl rfl (fr_pc (pc' := 894) rfl ?_)
  refine fp_iload_n (i := 3) (x := i) dd_Law_law_894 rfl rfl (fr_pc (pc' := 895) rfl ?_)
  refine fp_iconst (v := (3 : Int32)) dd_Law_law_895 (by decide) (fr_pc (pc' := 896) rfl ?_)
  refine fp_iadd dd_Law_law_896 (fr_pc (pc' := 897) rfl ?_)
  refine fr_scr hS dd_Law_law_897 (fun x3 => fr_pc (pc' := 898) rfl ?_)
  refine fr_callV (stk := []) (As := [.int x1, .int x2, .int x3]) cl_0 (ok_SF_fewest x x1 x2 x3) mt_SF_fewest rfl rfl sw_917 sw_918 sw_919 (by decide) (Nat.le_of_ble_eq_true rfl) dd_Law_law_898 (fun x4 => fr_to (pc' := 901) (env' := [some (.double 60), some (sf_rv x), some (sf_rv m), some (.int i)]) (stk' := [.int x4]) rfl rfl rfl ?_)
  refine fp_aload_n (i := 2) (r := m) dd_Law_law_901 rfl rfl (fr_pc (pc' := 902) rfl ?_)
  refine fp_aload_nd (i := 0) (x := 60) dd_Law_law_902 rfl rfl (fr_pc (pc' := 903) rfl ?_)
  refine fp_iload_n (i := 3) (x := i) dd_Law_law_903 rfl rfl (fr_pc (pc' := 904) rfl ?_)
  refine fp_iconst (v := (1 : Int32)) dd_Law_law_904 (by decide) (fr_pc (pc' := 905) rfl ?_)
  refine fp_iadd dd_Law_law_905 (fr_pc (pc' := 906) rfl ?_)
  refine fr_scr hS dd_Law_law_906 (fun x5 => fr_pc (pc' := 907) rfl ?_)
  refine fp_aload_nd (i := 0) (x := 60) dd_Law_law_907 rfl rfl (fr_pc (pc' := 908) rfl ?_)
  refine fp_iload_n (i := 3) (x := i) dd_Law_law_908 rfl rfl (fr_pc (pc' := 909) rfl ?_)
  refine fp_iconst (v := (2 : Int32)) dd_Law_law_909 (by decide) (fr_pc (pc' := 910) rfl ?_)
  refine fp_iadd dd_Law_law_910 (fr_pc (pc' := 911) rfl ?_)
  refine fr_scr hS dd_Law_law_911 (fun x6 => fr_pc (pc' := 912) rfl ?_)
  refine fp_aload_nd (i := 0) (x := 60) dd_Law_law_912 rfl rfl (fr_pc (pc' := 913) rfl ?_)
  refine fp_iload_n (i := 3) (x := i) dd_Law_law_913 rfl rfl (fr_pc (pc' := 914) rfl ?_)
  refine fp_iconst (v := (3 : Int32)) dd_Law_law_914 (by decide) (fr_pc (pc' := 915) rfl ?_)
  refine fp_iadd dd_Law_law_915 (fr_pc (pc' := 916) rfl ?_)
  refine fr_scr hS dd_Law_law_916 (fun x7 => fr_pc (pc' := 917) rfl ?_)
  refine fr_callV (stk := [.int x4]) (As := [.int x5, .int x6, .int x7]) cl_11 (ok_Mo_fewest m x5 x6 x7) mt_Mo_fewest rfl rfl sw_1563 sw_1564 sw_1565 (by decide) (Nat.le_of_ble_eq_true rfl) dd_Law_law_917 (fun x8 => fr_to (pc' := 920) (env' := [some (.double 60), some (sf_rv x), some (sf_rv m), some (.int i)]) (stk' := [.int x8, .int x4]) rfl rfl rfl ?_)
  refine fr_icmp_eq (tgt := 1483) dd_Law_law_920 rfl (fun _ => ?_) (fun _ => ?_)
  · refine fr_niinc (i := 3) (x := i) (w := (6 : Int32)) dd_Law_law_1483 rfl (by decide) (Nat.le_of_ble_eq_true rfl) (fun _ => c1_r rfl) (fun y10 => fr_to (pc' := 1486) (env' := [some (.double 60), some (sf_rv x), some (sf_rv m), some (.int y10)]) (stk' := []) rfl rfl rfl ?_)
    refine fp_goto (tgt := 18) dd_Law_law_1486 rfl ?_
    exact fr_ret rfl
  · refine fr_pc (pc' := 923) rfl ?_
    refine fp_iconst (v := (0 : Int32)) dd_Law_law_923 (by decide) (fr_pc (pc' := 924) rfl ?_)
    exact fr_zret0 (v := (0 : Int32)) (Or.inl rfl) rfl rfl dd_Law_law_924
def jl_23 (L : Nat) (xs : Nat → Int32) (i : Int32) (x m : Option Nat) : sf_M ((Int32) ⊕ (Int32 ⊕ (Unit))) :=
  sf_bnd (sf_scr L xs (i + (1 : Int32))) fun x1 =>
  sf_bnd (sf_scr L xs (i + (2 : Int32))) fun x2 =>
  sf_bnd (sf_scr L xs (i + (3 : Int32))) fun x3 =>
  sf_bnd (sf_rc 0 x (jx_SF_ways x x1 x2 x3)) fun x4 =>
  sf_bnd (sf_scr L xs (i + (1 : Int32))) fun x5 =>
  sf_bnd (sf_scr L xs (i + (2 : Int32))) fun x6 =>
  sf_bnd (sf_scr L xs (i + (3 : Int32))) fun x7 =>
  sf_bnd (sf_rc 11 m (jx_Mo_ways m x5 x6 x7)) fun x8 =>
  if x4 = x8 then (
  sf_bnd (sf_ret (i + (6 : Int32))) fun y10 =>
  sf_ret (.inl y10)
  ) else (
  sf_ret (.inr (.inl (0 : Int32)))
  )
set_option maxRecDepth 20000 in
set_option maxHeartbeats 4000000 in
theorem fl_23 (X : sf_X) (L : Nat) (xs : Nat → Int32) (hS : sf_Scr X L xs) (i : Int32) (x m : Option Nat) : sf_Fr X sf_ZL (sf_p 925 [some (.double 60), some (sf_rv x), some (sf_rv m), some (.int i)] []) (jl_23 L xs i x m) (fun r => match r with
  | .inl b => sf_p 18 [some (.double 60), some (sf_rv x), some (sf_rv m), some (.int b)] []
  | .inr g => match g with
    | .inl a => .inr (some (.int a))
    | .inr _ => sf_p 1489 [some (.double 60), some (sf_rv x), some (sf_rv m), none] []) := by
  unfold jl_23
  refine fp_aload_n (i := 1) (r := x) dd_Law_law_925 rfl rfl (fr_pc (pc' := 926) rfl ?_)
  refine fp_aload_nd (i := 0) (x := 60) dd_Law_law_926 rfl rfl (fr_pc (pc' := 927) rfl ?_)
  refine fp_iload_n (i := 3) (x := i) dd_Law_law_927 rfl rfl (fr_pc (pc' := 928) rfl ?_)
  refine fp_iconst (v := (1 : Int32)) dd_Law_law_928 (by decide) (fr_pc (pc' := 929) rfl ?_)
  refine fp_iadd dd_Law_law_929 (fr_pc (pc' := 930) rfl ?_)
  refine fr_scr hS dd_Law_law_930 (fun x1 => fr_pc (pc' := 931) rfl ?_)
  refine fp_aload_nd (i := 0) (x := 60) dd_Law_law_931 rfl rfl (fr_pc (pc' := 932) rfl ?_)
  refine fp_iload_n (i := 3) (x := i) dd_Law_law_932 rfl rfl (fr_pc (pc' := 933) rfl ?_)
  refine fp_iconst (v := (2 : Int32)) dd_Law_law_933 (by decide) (fr_pc (pc' := 934) rfl ?_)
  refine fp_iadd dd_Law_law_934 (fr_pc (pc' := 935) rfl ?_)
  refine fr_scr hS dd_Law_law_935 (fun x2 => fr_pc (pc' := 936) rfl ?_)
  refine fp_aload_nd (i := 0) (x := 60) dd_Law_law_936 rfl rfl (fr_pc (pc' := 937) rfl ?_)
  refine fp_iload_n (i := 3) (x := i) dd_Law_law_937 rfl rfl (fr_pc (pc' := 938) rfl ?_)
  refine fp_iconst (v := (3 : Int32)) dd_Law_law_938 (by decide) (fr_pc (pc' := 939) rfl ?_)
  refine fp_iadd dd_Law_law_939 (fr_pc (pc' := 940) rfl ?_)
  refine fr_scr hS dd_Law_law_940 (fun x3 => fr_pc (pc' := 941) rfl ?_)
  refine fr_callV (stk := []) (As := [.int x1, .int x2, .int x3]) cl_0 (ok_SF_ways x x1 x2 x3) mt_SF_ways rfl rfl sw_921 sw_922 sw_923 (by decide) (Nat.le_of_ble_eq_true rfl) dd_Law_law_941 (fun x4 => fr_to (pc' := 944) (env' := [some (.double 60), some (sf_rv x), some (sf_rv m), some (.int i)]) (stk' := [.int x4]) rfl rfl rfl ?_)
  refine fp_aload_n (i := 2) (r := m) dd_Law_law_944 rfl rfl (fr_pc (pc' := 945) rfl ?_)
  refine fp_aload_nd (i := 0) (x := 60) dd_Law_law_945 rfl rfl (fr_pc (pc' := 946) rfl ?_)
  refine fp_iload_n (i := 3) (x := i) dd_Law_law_946 rfl rfl (fr_pc (pc' := 947) rfl ?_)
  refine fp_iconst (v := (1 : Int32)) dd_Law_law_947 (by decide) (fr_pc (pc' := 948) rfl ?_)
  refine fp_iadd dd_Law_law_948 (fr_pc (pc' := 949) rfl ?_)
  refine fr_scr hS dd_Law_law_949 (fun x5 => fr_pc (pc' := 950) rfl ?_)
  refine fp_aload_nd (i := 0) (x := 60) dd_Law_law_950 rfl rfl (fr_pc (pc' := 951) rfl ?_)
  refine fp_iload_n (i := 3) (x := i) dd_Law_law_951 rfl rfl (fr_pc (pc' := 952) rfl ?_)
  refine fp_iconst (v := (2 : Int32)) dd_Law_law_952 (by decide) (fr_pc (pc' := 953) rfl ?_)
  refine fp_iadd dd_Law_law_953 (fr_pc (pc' := 954) rfl ?_)
  refine fr_scr hS dd_Law_law_954 (fun x6 => fr_pc (pc' := 955) rfl ?_)
  refine fp_aload_nd (i := 0) (x := 60) dd_Law_law_955 rfl rfl (fr_pc (pc' := 956) rfl ?_)
  refine fp_iload_n (i := 3) (x := i) dd_Law_law_956 rfl rfl (fr_pc (pc' := 957) rfl ?_)
  refine fp_iconst (v := (3 : Int32)) dd_Law_law_957 (by decide) (fr_pc (pc' := 958) rfl ?_)
  refine fp_iadd dd_Law_law_958 (fr_pc (pc' := 959) rfl ?_)
  refine fr_scr hS dd_Law_law_959 (fun x7 => fr_pc (pc' := 960) rfl ?_)
  refine fr_callV (stk := [.int x4]) (As := [.int x5, .int x6, .int x7]) cl_11 (ok_Mo_ways m x5 x6 x7) mt_Mo_ways rfl rfl sw_1567 sw_1568 sw_1569 (by decide) (Nat.le_of_ble_eq_true rfl) dd_Law_law_960 (fun x8 => fr_to (pc' := 963) (env' := [some (.double 60), some (sf_rv x), some (sf_rv m), some (.int i)]) (stk' := [.int x8, .int x4]) rfl rfl rfl ?_)
  refine fr_icmp_eq (tgt := 1483) dd_Law_law_963 rfl (fun _ => ?_) (fun _ => ?_)
  · refine fr_niinc (i := 3) (x := i) (w := (6 : Int32)) dd_Law_law_1483 rfl (by decide) (Nat.le_of_ble_eq_true rfl) (fun _ => c1_r rfl) (fun y10 => fr_to (pc' := 1486) (env' := [some (.double 60), some (sf_rv x), some (sf_rv m), some (.int y10)]) (stk' := []) rfl rfl rfl ?_)
    refine fp_goto (tgt := 18) dd_Law_law_1486 rfl ?_
    exact fr_ret rfl
  · refine fr_pc (pc' := 966) rfl ?_
    refine fp_iconst (v := (0 : Int32)) dd_Law_law_966 (by decide) (fr_pc (pc' := 967) rfl ?_)
    exact fr_zret0 (v := (0 : Int32)) (Or.inl rfl) rfl rfl dd_Law_law_967
def jl_24 (L : Nat) (xs : Nat → Int32) (i : Int32) (x m : Option Nat) : sf_M ((Int32) ⊕ (Int32 ⊕ (Unit))) :=
  sf_bnd (sf_scr L xs (i + (1 : Int32))) fun x1 =>
  sf_bnd (sf_scr L xs (i + (2 : Int32))) fun x2 =>
  sf_bnd (sf_scr L xs (i + (3 : Int32))) fun x3 =>
  sf_bnd (sf_scr L xs (i + (4 : Int32))) fun x4 =>
  sf_bnd (sf_rc 0 x (jx_SF_thereAndBack x x1 x2 x3 x4)) fun x5 =>
  sf_bnd (sf_scr L xs (i + (1 : Int32))) fun x6 =>
  sf_bnd (sf_scr L xs (i + (2 : Int32))) fun x7 =>
  sf_bnd (sf_scr L xs (i + (3 : Int32))) fun x8 =>
  sf_bnd (sf_scr L xs (i + (4 : Int32))) fun x9 =>
  sf_bnd (sf_rc 11 m (jx_Mo_thereAndBack m x6 x7 x8 x9)) fun x10 =>
  if x5 = x10 then (
  sf_bnd (sf_ret (i + (6 : Int32))) fun y12 =>
  sf_ret (.inl y12)
  ) else (
  sf_ret (.inr (.inl (0 : Int32)))
  )
set_option maxRecDepth 20000 in
set_option maxHeartbeats 4000000 in
theorem fl_24 (X : sf_X) (L : Nat) (xs : Nat → Int32) (hS : sf_Scr X L xs) (i : Int32) (x m : Option Nat) : sf_Fr X sf_ZL (sf_p 968 [some (.double 60), some (sf_rv x), some (sf_rv m), some (.int i)] []) (jl_24 L xs i x m) (fun r => match r with
  | .inl b => sf_p 18 [some (.double 60), some (sf_rv x), some (sf_rv m), some (.int b)] []
  | .inr g => match g with
    | .inl a => .inr (some (.int a))
    | .inr _ => sf_p 1489 [some (.double 60), some (sf_rv x), some (sf_rv m), none] []) := by
  unfold jl_24
  refine fp_aload_n (i := 1) (r := x) dd_Law_law_968 rfl rfl (fr_pc (pc' := 969) rfl ?_)
  refine fp_aload_nd (i := 0) (x := 60) dd_Law_law_969 rfl rfl (fr_pc (pc' := 970) rfl ?_)
  refine fp_iload_n (i := 3) (x := i) dd_Law_law_970 rfl rfl (fr_pc (pc' := 971) rfl ?_)
  refine fp_iconst (v := (1 : Int32)) dd_Law_law_971 (by decide) (fr_pc (pc' := 972) rfl ?_)
  refine fp_iadd dd_Law_law_972 (fr_pc (pc' := 973) rfl ?_)
  refine fr_scr hS dd_Law_law_973 (fun x1 => fr_pc (pc' := 974) rfl ?_)
  refine fp_aload_nd (i := 0) (x := 60) dd_Law_law_974 rfl rfl (fr_pc (pc' := 975) rfl ?_)
  refine fp_iload_n (i := 3) (x := i) dd_Law_law_975 rfl rfl (fr_pc (pc' := 976) rfl ?_)
  refine fp_iconst (v := (2 : Int32)) dd_Law_law_976 (by decide) (fr_pc (pc' := 977) rfl ?_)
  refine fp_iadd dd_Law_law_977 (fr_pc (pc' := 978) rfl ?_)
  refine fr_scr hS dd_Law_law_978 (fun x2 => fr_pc (pc' := 979) rfl ?_)
  refine fp_aload_nd (i := 0) (x := 60) dd_Law_law_979 rfl rfl (fr_pc (pc' := 980) rfl ?_)
  refine fp_iload_n (i := 3) (x := i) dd_Law_law_980 rfl rfl (fr_pc (pc' := 981) rfl ?_)
  refine fp_iconst (v := (3 : Int32)) dd_Law_law_981 (by decide) (fr_pc (pc' := 982) rfl ?_)
  refine fp_iadd dd_Law_law_982 (fr_pc (pc' := 983) rfl ?_)
  refine fr_scr hS dd_Law_law_983 (fun x3 => fr_pc (pc' := 984) rfl ?_)
  refine fp_aload_nd (i := 0) (x := 60) dd_Law_law_984 rfl rfl (fr_pc (pc' := 985) rfl ?_)
  refine fp_iload_n (i := 3) (x := i) dd_Law_law_985 rfl rfl (fr_pc (pc' := 986) rfl ?_)
  refine fp_iconst (v := (4 : Int32)) dd_Law_law_986 (by decide) (fr_pc (pc' := 987) rfl ?_)
  refine fp_iadd dd_Law_law_987 (fr_pc (pc' := 988) rfl ?_)
  refine fr_scr hS dd_Law_law_988 (fun x4 => fr_pc (pc' := 989) rfl ?_)
  refine fr_callV (stk := []) (As := [.int x1, .int x2, .int x3, .int x4]) cl_0 (ok_SF_thereAndBack x x1 x2 x3 x4) mt_SF_thereAndBack rfl rfl sw_929 sw_930 sw_931 (by decide) (Nat.le_of_ble_eq_true rfl) dd_Law_law_989 (fun x5 => fr_to (pc' := 992) (env' := [some (.double 60), some (sf_rv x), some (sf_rv m), some (.int i)]) (stk' := [.int x5]) rfl rfl rfl ?_)
  refine fp_aload_n (i := 2) (r := m) dd_Law_law_992 rfl rfl (fr_pc (pc' := 993) rfl ?_)
  refine fp_aload_nd (i := 0) (x := 60) dd_Law_law_993 rfl rfl (fr_pc (pc' := 994) rfl ?_)
  refine fp_iload_n (i := 3) (x := i) dd_Law_law_994 rfl rfl (fr_pc (pc' := 995) rfl ?_)
  refine fp_iconst (v := (1 : Int32)) dd_Law_law_995 (by decide) (fr_pc (pc' := 996) rfl ?_)
  refine fp_iadd dd_Law_law_996 (fr_pc (pc' := 997) rfl ?_)
  refine fr_scr hS dd_Law_law_997 (fun x6 => fr_pc (pc' := 998) rfl ?_)
  refine fp_aload_nd (i := 0) (x := 60) dd_Law_law_998 rfl rfl (fr_pc (pc' := 999) rfl ?_)
  refine fp_iload_n (i := 3) (x := i) dd_Law_law_999 rfl rfl (fr_pc (pc' := 1000) rfl ?_)
  refine fp_iconst (v := (2 : Int32)) dd_Law_law_1000 (by decide) (fr_pc (pc' := 1001) rfl ?_)
  refine fp_iadd dd_Law_law_1001 (fr_pc (pc' := 1002) rfl ?_)
  refine fr_scr hS dd_Law_law_1002 (fun x7 => fr_pc (pc' := 1003) rfl ?_)
  refine fp_aload_nd (i := 0) (x := 60) dd_Law_law_1003 rfl rfl (fr_pc (pc' := 1004) rfl ?_)
  refine fp_iload_n (i := 3) (x := i) dd_Law_law_1004 rfl rfl (fr_pc (pc' := 1005) rfl ?_)
  refine fp_iconst (v := (3 : Int32)) dd_Law_law_1005 (by decide) (fr_pc (pc' := 1006) rfl ?_)
  refine fp_iadd dd_Law_law_1006 (fr_pc (pc' := 1007) rfl ?_)
  refine fr_scr hS dd_Law_law_1007 (fun x8 => fr_pc (pc' := 1008) rfl ?_)
  refine fp_aload_nd (i := 0) (x := 60) dd_Law_law_1008 rfl rfl (fr_pc (pc' := 1009) rfl ?_)
  refine fp_iload_n (i := 3) (x := i) dd_Law_law_1009 rfl rfl (fr_pc (pc' := 1010) rfl ?_)
  refine fp_iconst (v := (4 : Int32)) dd_Law_law_1010 (by decide) (fr_pc (pc' := 1011) rfl ?_)
  refine fp_iadd dd_Law_law_1011 (fr_pc (pc' := 1012) rfl ?_)
  refine fr_scr hS dd_Law_law_1012 (fun x9 => fr_pc (pc' := 1013) rfl ?_)
  refine fr_callV (stk := [.int x5]) (As := [.int x6, .int x7, .int x8, .int x9]) cl_11 (ok_Mo_thereAndBack m x6 x7 x8 x9) mt_Mo_thereAndBack rfl rfl sw_1571 sw_1572 sw_1573 (by decide) (Nat.le_of_ble_eq_true rfl) dd_Law_law_1013 (fun x10 => fr_to (pc' := 1016) (env' := [some (.double 60), some (sf_rv x), some (sf_rv m), some (.int i)]) (stk' := [.int x10, .int x5]) rfl rfl rfl ?_)
  refine fr_icmp_eq (tgt := 1483) dd_Law_law_1016 rfl (fun _ => ?_) (fun _ => ?_)
  · refine fr_niinc (i := 3) (x := i) (w := (6 : Int32)) dd_Law_law_1483 rfl (by decide) (Nat.le_of_ble_eq_true rfl) (fun _ => c1_r rfl) (fun y12 => fr_to (pc' := 1486) (env' := [some (.double 60), some (sf_rv x), some (sf_rv m), some (.int y12)]) (stk' := []) rfl rfl rfl ?_)
    refine fp_goto (tgt := 18) dd_Law_law_1486 rfl ?_
    exact fr_ret rfl
  · refine fr_pc (pc' := 1019) rfl ?_
    refine fp_iconst (v := (0 : Int32)) dd_Law_law_1019 (by decide) (fr_pc (pc' := 1020) rfl ?_)
    exact fr_zret0 (v := (0 : Int32)) (Or.inl rfl) rfl rfl dd_Law_law_1020
def jl_25 (L : Nat) (xs : Nat → Int32) (i : Int32) (x m : Option Nat) : sf_M ((Int32) ⊕ (Int32 ⊕ (Unit))) :=
  sf_bnd (sf_scr L xs (i + (1 : Int32))) fun x1 =>
  sf_bnd (sf_scr L xs (i + (2 : Int32))) fun x2 =>
  sf_bnd (sf_scr L xs (i + (3 : Int32))) fun x3 =>
  sf_bnd (sf_rc 0 x (jx_SF_saved x x1 x2 x3)) fun x4 =>
  sf_bnd (sf_scr L xs (i + (1 : Int32))) fun x5 =>
  sf_bnd (sf_scr L xs (i + (2 : Int32))) fun x6 =>
  sf_bnd (sf_scr L xs (i + (3 : Int32))) fun x7 =>
  sf_bnd (sf_rc 11 m (jx_Mo_saved m x5 x6 x7)) fun x8 =>
  if x4 = x8 then (
  sf_bnd (sf_ret (i + (6 : Int32))) fun y10 =>
  sf_ret (.inl y10)
  ) else (
  sf_ret (.inr (.inl (0 : Int32)))
  )
set_option maxRecDepth 20000 in
set_option maxHeartbeats 4000000 in
theorem fl_25 (X : sf_X) (L : Nat) (xs : Nat → Int32) (hS : sf_Scr X L xs) (i : Int32) (x m : Option Nat) : sf_Fr X sf_ZL (sf_p 1021 [some (.double 60), some (sf_rv x), some (sf_rv m), some (.int i)] []) (jl_25 L xs i x m) (fun r => match r with
  | .inl b => sf_p 18 [some (.double 60), some (sf_rv x), some (sf_rv m), some (.int b)] []
  | .inr g => match g with
    | .inl a => .inr (some (.int a))
    | .inr _ => sf_p 1489 [some (.double 60), some (sf_rv x), some (sf_rv m), none] []) := by
  unfold jl_25
  refine fp_aload_n (i := 1) (r := x) dd_Law_law_1021 rfl rfl (fr_pc (pc' := 1022) rfl ?_)
  refine fp_aload_nd (i := 0) (x := 60) dd_Law_law_1022 rfl rfl (fr_pc (pc' := 1023) rfl ?_)
  refine fp_iload_n (i := 3) (x := i) dd_Law_law_1023 rfl rfl (fr_pc (pc' := 1024) rfl ?_)
  refine fp_iconst (v := (1 : Int32)) dd_Law_law_1024 (by decide) (fr_pc (pc' := 1025) rfl ?_)
  refine fp_iadd dd_Law_law_1025 (fr_pc (pc' := 1026) rfl ?_)
  refine fr_scr hS dd_Law_law_1026 (fun x1 => fr_pc (pc' := 1027) rfl ?_)
  refine fp_aload_nd (i := 0) (x := 60) dd_Law_law_1027 rfl rfl (fr_pc (pc' := 1028) rfl ?_)
  refine fp_iload_n (i := 3) (x := i) dd_Law_law_1028 rfl rfl (fr_pc (pc' := 1029) rfl ?_)
  refine fp_iconst (v := (2 : Int32)) dd_Law_law_1029 (by decide) (fr_pc (pc' := 1030) rfl ?_)
  refine fp_iadd dd_Law_law_1030 (fr_pc (pc' := 1031) rfl ?_)
  refine fr_scr hS dd_Law_law_1031 (fun x2 => fr_pc (pc' := 1032) rfl ?_)
  refine fp_aload_nd (i := 0) (x := 60) dd_Law_law_1032 rfl rfl (fr_pc (pc' := 1033) rfl ?_)
  refine fp_iload_n (i := 3) (x := i) dd_Law_law_1033 rfl rfl (fr_pc (pc' := 1034) rfl ?_)
  refine fp_iconst (v := (3 : Int32)) dd_Law_law_1034 (by decide) (fr_pc (pc' := 1035) rfl ?_)
  refine fp_iadd dd_Law_law_1035 (fr_pc (pc' := 1036) rfl ?_)
  refine fr_scr hS dd_Law_law_1036 (fun x3 => fr_pc (pc' := 1037) rfl ?_)
  refine fr_callV (stk := []) (As := [.int x1, .int x2, .int x3]) cl_0 (ok_SF_saved x x1 x2 x3) mt_SF_saved rfl rfl sw_943 sw_944 sw_945 (by decide) (Nat.le_of_ble_eq_true rfl) dd_Law_law_1037 (fun x4 => fr_to (pc' := 1040) (env' := [some (.double 60), some (sf_rv x), some (sf_rv m), some (.int i)]) (stk' := [.int x4]) rfl rfl rfl ?_)
  refine fp_aload_n (i := 2) (r := m) dd_Law_law_1040 rfl rfl (fr_pc (pc' := 1041) rfl ?_)
  refine fp_aload_nd (i := 0) (x := 60) dd_Law_law_1041 rfl rfl (fr_pc (pc' := 1042) rfl ?_)
  refine fp_iload_n (i := 3) (x := i) dd_Law_law_1042 rfl rfl (fr_pc (pc' := 1043) rfl ?_)
  refine fp_iconst (v := (1 : Int32)) dd_Law_law_1043 (by decide) (fr_pc (pc' := 1044) rfl ?_)
  refine fp_iadd dd_Law_law_1044 (fr_pc (pc' := 1045) rfl ?_)
  refine fr_scr hS dd_Law_law_1045 (fun x5 => fr_pc (pc' := 1046) rfl ?_)
  refine fp_aload_nd (i := 0) (x := 60) dd_Law_law_1046 rfl rfl (fr_pc (pc' := 1047) rfl ?_)
  refine fp_iload_n (i := 3) (x := i) dd_Law_law_1047 rfl rfl (fr_pc (pc' := 1048) rfl ?_)
  refine fp_iconst (v := (2 : Int32)) dd_Law_law_1048 (by decide) (fr_pc (pc' := 1049) rfl ?_)
  refine fp_iadd dd_Law_law_1049 (fr_pc (pc' := 1050) rfl ?_)
  refine fr_scr hS dd_Law_law_1050 (fun x6 => fr_pc (pc' := 1051) rfl ?_)
  refine fp_aload_nd (i := 0) (x := 60) dd_Law_law_1051 rfl rfl (fr_pc (pc' := 1052) rfl ?_)
  refine fp_iload_n (i := 3) (x := i) dd_Law_law_1052 rfl rfl (fr_pc (pc' := 1053) rfl ?_)
  refine fp_iconst (v := (3 : Int32)) dd_Law_law_1053 (by decide) (fr_pc (pc' := 1054) rfl ?_)
  refine fp_iadd dd_Law_law_1054 (fr_pc (pc' := 1055) rfl ?_)
  refine fr_scr hS dd_Law_law_1055 (fun x7 => fr_pc (pc' := 1056) rfl ?_)
  refine fr_callV (stk := [.int x4]) (As := [.int x5, .int x6, .int x7]) cl_11 (ok_Mo_saved m x5 x6 x7) mt_Mo_saved rfl rfl sw_1592 sw_1593 sw_1594 (by decide) (Nat.le_of_ble_eq_true rfl) dd_Law_law_1056 (fun x8 => fr_to (pc' := 1059) (env' := [some (.double 60), some (sf_rv x), some (sf_rv m), some (.int i)]) (stk' := [.int x8, .int x4]) rfl rfl rfl ?_)
  refine fr_icmp_eq (tgt := 1483) dd_Law_law_1059 rfl (fun _ => ?_) (fun _ => ?_)
  · refine fr_niinc (i := 3) (x := i) (w := (6 : Int32)) dd_Law_law_1483 rfl (by decide) (Nat.le_of_ble_eq_true rfl) (fun _ => c1_r rfl) (fun y10 => fr_to (pc' := 1486) (env' := [some (.double 60), some (sf_rv x), some (sf_rv m), some (.int y10)]) (stk' := []) rfl rfl rfl ?_)
    refine fp_goto (tgt := 18) dd_Law_law_1486 rfl ?_
    exact fr_ret rfl
  · refine fr_pc (pc' := 1062) rfl ?_
    refine fp_iconst (v := (0 : Int32)) dd_Law_law_1062 (by decide) (fr_pc (pc' := 1063) rfl ?_)
    exact fr_zret0 (v := (0 : Int32)) (Or.inl rfl) rfl rfl dd_Law_law_1063
def jl_26 (L : Nat) (xs : Nat → Int32) (i : Int32) (x m : Option Nat) : sf_M ((Int32) ⊕ (Int32 ⊕ (Unit))) :=
  sf_bnd (sf_scr L xs (i + (1 : Int32))) fun x1 =>
  sf_bnd (sf_scr L xs (i + (2 : Int32))) fun x2 =>
  sf_bnd (sf_rc 0 x (jx_SF_bestTrain x x1 x2)) fun x3 =>
  sf_bnd (sf_scr L xs (i + (1 : Int32))) fun x4 =>
  sf_bnd (sf_scr L xs (i + (2 : Int32))) fun x5 =>
  sf_bnd (sf_rc 11 m (jx_Mo_bestTrain m x4 x5)) fun x6 =>
  if x3 = x6 then (
  sf_bnd (sf_ret (i + (6 : Int32))) fun y8 =>
  sf_ret (.inl y8)
  ) else (
  sf_ret (.inr (.inl (0 : Int32)))
  )
set_option maxRecDepth 20000 in
set_option maxHeartbeats 4000000 in
theorem fl_26 (X : sf_X) (L : Nat) (xs : Nat → Int32) (hS : sf_Scr X L xs) (i : Int32) (x m : Option Nat) : sf_Fr X sf_ZL (sf_p 1064 [some (.double 60), some (sf_rv x), some (sf_rv m), some (.int i)] []) (jl_26 L xs i x m) (fun r => match r with
  | .inl b => sf_p 18 [some (.double 60), some (sf_rv x), some (sf_rv m), some (.int b)] []
  | .inr g => match g with
    | .inl a => .inr (some (.int a))
    | .inr _ => sf_p 1489 [some (.double 60), some (sf_rv x), some (sf_rv m), none] []) := by
  unfold jl_26
  refine fp_aload_n (i := 1) (r := x) dd_Law_law_1064 rfl rfl (fr_pc (pc' := 1065) rfl ?_)
  refine fp_aload_nd (i := 0) (x := 60) dd_Law_law_1065 rfl rfl (fr_pc (pc' := 1066) rfl ?_)
  refine fp_iload_n (i := 3) (x := i) dd_Law_law_1066 rfl rfl (fr_pc (pc' := 1067) rfl ?_)
  refine fp_iconst (v := (1 : Int32)) dd_Law_law_1067 (by decide) (fr_pc (pc' := 1068) rfl ?_)
  refine fp_iadd dd_Law_law_1068 (fr_pc (pc' := 1069) rfl ?_)
  refine fr_scr hS dd_Law_law_1069 (fun x1 => fr_pc (pc' := 1070) rfl ?_)
  refine fp_aload_nd (i := 0) (x := 60) dd_Law_law_1070 rfl rfl (fr_pc (pc' := 1071) rfl ?_)
  refine fp_iload_n (i := 3) (x := i) dd_Law_law_1071 rfl rfl (fr_pc (pc' := 1072) rfl ?_)
  refine fp_iconst (v := (2 : Int32)) dd_Law_law_1072 (by decide) (fr_pc (pc' := 1073) rfl ?_)
  refine fp_iadd dd_Law_law_1073 (fr_pc (pc' := 1074) rfl ?_)
  refine fr_scr hS dd_Law_law_1074 (fun x2 => fr_pc (pc' := 1075) rfl ?_)
  refine fr_callV (stk := []) (As := [.int x1, .int x2]) cl_0 (ok_SF_bestTrain x x1 x2) mt_SF_bestTrain rfl rfl sw_951 sw_952 sw_953 (by decide) (Nat.le_of_ble_eq_true rfl) dd_Law_law_1075 (fun x3 => fr_to (pc' := 1078) (env' := [some (.double 60), some (sf_rv x), some (sf_rv m), some (.int i)]) (stk' := [.int x3]) rfl rfl rfl ?_)
  refine fp_aload_n (i := 2) (r := m) dd_Law_law_1078 rfl rfl (fr_pc (pc' := 1079) rfl ?_)
  refine fp_aload_nd (i := 0) (x := 60) dd_Law_law_1079 rfl rfl (fr_pc (pc' := 1080) rfl ?_)
  refine fp_iload_n (i := 3) (x := i) dd_Law_law_1080 rfl rfl (fr_pc (pc' := 1081) rfl ?_)
  refine fp_iconst (v := (1 : Int32)) dd_Law_law_1081 (by decide) (fr_pc (pc' := 1082) rfl ?_)
  refine fp_iadd dd_Law_law_1082 (fr_pc (pc' := 1083) rfl ?_)
  refine fr_scr hS dd_Law_law_1083 (fun x4 => fr_pc (pc' := 1084) rfl ?_)
  refine fp_aload_nd (i := 0) (x := 60) dd_Law_law_1084 rfl rfl (fr_pc (pc' := 1085) rfl ?_)
  refine fp_iload_n (i := 3) (x := i) dd_Law_law_1085 rfl rfl (fr_pc (pc' := 1086) rfl ?_)
  refine fp_iconst (v := (2 : Int32)) dd_Law_law_1086 (by decide) (fr_pc (pc' := 1087) rfl ?_)
  refine fp_iadd dd_Law_law_1087 (fr_pc (pc' := 1088) rfl ?_)
  refine fr_scr hS dd_Law_law_1088 (fun x5 => fr_pc (pc' := 1089) rfl ?_)
  refine fr_callV (stk := [.int x3]) (As := [.int x4, .int x5]) cl_11 (ok_Mo_bestTrain m x4 x5) mt_Mo_bestTrain rfl rfl sw_1600 sw_1601 sw_1602 (by decide) (Nat.le_of_ble_eq_true rfl) dd_Law_law_1089 (fun x6 => fr_to (pc' := 1092) (env' := [some (.double 60), some (sf_rv x), some (sf_rv m), some (.int i)]) (stk' := [.int x6, .int x3]) rfl rfl rfl ?_)
  refine fr_icmp_eq (tgt := 1483) dd_Law_law_1092 rfl (fun _ => ?_) (fun _ => ?_)
  · refine fr_niinc (i := 3) (x := i) (w := (6 : Int32)) dd_Law_law_1483 rfl (by decide) (Nat.le_of_ble_eq_true rfl) (fun _ => c1_r rfl) (fun y8 => fr_to (pc' := 1486) (env' := [some (.double 60), some (sf_rv x), some (sf_rv m), some (.int y8)]) (stk' := []) rfl rfl rfl ?_)
    refine fp_goto (tgt := 18) dd_Law_law_1486 rfl ?_
    exact fr_ret rfl
  · refine fr_pc (pc' := 1095) rfl ?_
    refine fp_iconst (v := (0 : Int32)) dd_Law_law_1095 (by decide) (fr_pc (pc' := 1096) rfl ?_)
    exact fr_zret0 (v := (0 : Int32)) (Or.inl rfl) rfl rfl dd_Law_law_1096
def jl_27 (L : Nat) (xs : Nat → Int32) (i : Int32) (x m : Option Nat) : sf_M ((Int32) ⊕ (Int32 ⊕ (Unit))) :=
  sf_bnd (sf_scr L xs (i + (1 : Int32))) fun x1 =>
  sf_bnd (sf_scr L xs (i + (2 : Int32))) fun x2 =>
  sf_bnd (sf_rc 0 x (jx_SF_mostSaved x x1 x2)) fun x3 =>
  sf_bnd (sf_scr L xs (i + (1 : Int32))) fun x4 =>
  sf_bnd (sf_scr L xs (i + (2 : Int32))) fun x5 =>
  sf_bnd (sf_rc 11 m (jx_Mo_mostSaved m x4 x5)) fun x6 =>
  if x3 = x6 then (
  sf_bnd (sf_ret (i + (6 : Int32))) fun y8 =>
  sf_ret (.inl y8)
  ) else (
  sf_ret (.inr (.inl (0 : Int32)))
  )
set_option maxRecDepth 20000 in
set_option maxHeartbeats 4000000 in
theorem fl_27 (X : sf_X) (L : Nat) (xs : Nat → Int32) (hS : sf_Scr X L xs) (i : Int32) (x m : Option Nat) : sf_Fr X sf_ZL (sf_p 1097 [some (.double 60), some (sf_rv x), some (sf_rv m), some (.int i)] []) (jl_27 L xs i x m) (fun r => match r with
  | .inl b => sf_p 18 [some (.double 60), some (sf_rv x), some (sf_rv m), some (.int b)] []
  | .inr g => match g with
    | .inl a => .inr (some (.int a))
    | .inr _ => sf_p 1489 [some (.double 60), some (sf_rv x), some (sf_rv m), none] []) := by
  unfold jl_27
  refine fp_aload_n (i := 1) (r := x) dd_Law_law_1097 rfl rfl (fr_pc (pc' := 1098) rfl ?_)
  refine fp_aload_nd (i := 0) (x := 60) dd_Law_law_1098 rfl rfl (fr_pc (pc' := 1099) rfl ?_)
  refine fp_iload_n (i := 3) (x := i) dd_Law_law_1099 rfl rfl (fr_pc (pc' := 1100) rfl ?_)
  refine fp_iconst (v := (1 : Int32)) dd_Law_law_1100 (by decide) (fr_pc (pc' := 1101) rfl ?_)
  refine fp_iadd dd_Law_law_1101 (fr_pc (pc' := 1102) rfl ?_)
  refine fr_scr hS dd_Law_law_1102 (fun x1 => fr_pc (pc' := 1103) rfl ?_)
  refine fp_aload_nd (i := 0) (x := 60) dd_Law_law_1103 rfl rfl (fr_pc (pc' := 1104) rfl ?_)
  refine fp_iload_n (i := 3) (x := i) dd_Law_law_1104 rfl rfl (fr_pc (pc' := 1105) rfl ?_)
  refine fp_iconst (v := (2 : Int32)) dd_Law_law_1105 (by decide) (fr_pc (pc' := 1106) rfl ?_)
  refine fp_iadd dd_Law_law_1106 (fr_pc (pc' := 1107) rfl ?_)
  refine fr_scr hS dd_Law_law_1107 (fun x2 => fr_pc (pc' := 1108) rfl ?_)
  refine fr_callV (stk := []) (As := [.int x1, .int x2]) cl_0 (ok_SF_mostSaved x x1 x2) mt_SF_mostSaved rfl rfl sw_955 sw_956 sw_957 (by decide) (Nat.le_of_ble_eq_true rfl) dd_Law_law_1108 (fun x3 => fr_to (pc' := 1111) (env' := [some (.double 60), some (sf_rv x), some (sf_rv m), some (.int i)]) (stk' := [.int x3]) rfl rfl rfl ?_)
  refine fp_aload_n (i := 2) (r := m) dd_Law_law_1111 rfl rfl (fr_pc (pc' := 1112) rfl ?_)
  refine fp_aload_nd (i := 0) (x := 60) dd_Law_law_1112 rfl rfl (fr_pc (pc' := 1113) rfl ?_)
  refine fp_iload_n (i := 3) (x := i) dd_Law_law_1113 rfl rfl (fr_pc (pc' := 1114) rfl ?_)
  refine fp_iconst (v := (1 : Int32)) dd_Law_law_1114 (by decide) (fr_pc (pc' := 1115) rfl ?_)
  refine fp_iadd dd_Law_law_1115 (fr_pc (pc' := 1116) rfl ?_)
  refine fr_scr hS dd_Law_law_1116 (fun x4 => fr_pc (pc' := 1117) rfl ?_)
  refine fp_aload_nd (i := 0) (x := 60) dd_Law_law_1117 rfl rfl (fr_pc (pc' := 1118) rfl ?_)
  refine fp_iload_n (i := 3) (x := i) dd_Law_law_1118 rfl rfl (fr_pc (pc' := 1119) rfl ?_)
  refine fp_iconst (v := (2 : Int32)) dd_Law_law_1119 (by decide) (fr_pc (pc' := 1120) rfl ?_)
  refine fp_iadd dd_Law_law_1120 (fr_pc (pc' := 1121) rfl ?_)
  refine fr_scr hS dd_Law_law_1121 (fun x5 => fr_pc (pc' := 1122) rfl ?_)
  refine fr_callV (stk := [.int x3]) (As := [.int x4, .int x5]) cl_11 (ok_Mo_mostSaved m x4 x5) mt_Mo_mostSaved rfl rfl sw_1604 sw_1605 sw_1606 (by decide) (Nat.le_of_ble_eq_true rfl) dd_Law_law_1122 (fun x6 => fr_to (pc' := 1125) (env' := [some (.double 60), some (sf_rv x), some (sf_rv m), some (.int i)]) (stk' := [.int x6, .int x3]) rfl rfl rfl ?_)
  refine fr_icmp_eq (tgt := 1483) dd_Law_law_1125 rfl (fun _ => ?_) (fun _ => ?_)
  · refine fr_niinc (i := 3) (x := i) (w := (6 : Int32)) dd_Law_law_1483 rfl (by decide) (Nat.le_of_ble_eq_true rfl) (fun _ => c1_r rfl) (fun y8 => fr_to (pc' := 1486) (env' := [some (.double 60), some (sf_rv x), some (sf_rv m), some (.int y8)]) (stk' := []) rfl rfl rfl ?_)
    refine fp_goto (tgt := 18) dd_Law_law_1486 rfl ?_
    exact fr_ret rfl
  · refine fr_pc (pc' := 1128) rfl ?_
    refine fp_iconst (v := (0 : Int32)) dd_Law_law_1128 (by decide) (fr_pc (pc' := 1129) rfl ?_)
    exact fr_zret0 (v := (0 : Int32)) (Or.inl rfl) rfl rfl dd_Law_law_1129
def jl_28 (L : Nat) (xs : Nat → Int32) (i : Int32) (x m : Option Nat) : sf_M ((Int32) ⊕ (Int32 ⊕ (Unit))) :=
  sf_bnd (sf_rc 0 x (jx_SF_purseEnd x)) fun x1 =>
  sf_bnd (sf_rc 11 m (jx_Mo_purseEnd m)) fun x2 =>
  if x1 = x2 then (
  sf_bnd (sf_ret (i + (6 : Int32))) fun y4 =>
  sf_ret (.inl y4)
  ) else (
  sf_ret (.inr (.inl (0 : Int32)))
  )
set_option maxRecDepth 20000 in
set_option maxHeartbeats 4000000 in
theorem fl_28 (X : sf_X) (L : Nat) (xs : Nat → Int32) (hS : sf_Scr X L xs) (i : Int32) (x m : Option Nat) : sf_Fr X sf_ZL (sf_p 1130 [some (.double 60), some (sf_rv x), some (sf_rv m), some (.int i)] []) (jl_28 L xs i x m) (fun r => match r with
  | .inl b => sf_p 18 [some (.double 60), some (sf_rv x), some (sf_rv m), some (.int b)] []
  | .inr g => match g with
    | .inl a => .inr (some (.int a))
    | .inr _ => sf_p 1489 [some (.double 60), some (sf_rv x), some (sf_rv m), none] []) := by
  unfold jl_28
  refine fp_aload_n (i := 1) (r := x) dd_Law_law_1130 rfl rfl (fr_pc (pc' := 1131) rfl ?_)
  refine fr_callV (stk := []) (As := []) cl_0 (ok_SF_purseEnd x) mt_SF_purseEnd rfl rfl sw_959 sw_960 sw_961 (by decide) (Nat.le_of_ble_eq_true rfl) dd_Law_law_1131 (fun x1 => fr_to (pc' := 1134) (env' := [some (.double 60), some (sf_rv x), some (sf_rv m), some (.int i)]) (stk' := [.int x1]) rfl rfl rfl ?_)
  refine fp_aload_n (i := 2) (r := m) dd_Law_law_1134 rfl rfl (fr_pc (pc' := 1135) rfl ?_)
  refine fr_callV (stk := [.int x1]) (As := []) cl_11 (ok_Mo_purseEnd m) mt_Mo_purseEnd rfl rfl sw_1608 sw_1609 sw_1610 (by decide) (Nat.le_of_ble_eq_true rfl) dd_Law_law_1135 (fun x2 => fr_to (pc' := 1138) (env' := [some (.double 60), some (sf_rv x), some (sf_rv m), some (.int i)]) (stk' := [.int x2, .int x1]) rfl rfl rfl ?_)
  refine fr_icmp_eq (tgt := 1483) dd_Law_law_1138 rfl (fun _ => ?_) (fun _ => ?_)
  · refine fr_niinc (i := 3) (x := i) (w := (6 : Int32)) dd_Law_law_1483 rfl (by decide) (Nat.le_of_ble_eq_true rfl) (fun _ => c1_r rfl) (fun y4 => fr_to (pc' := 1486) (env' := [some (.double 60), some (sf_rv x), some (sf_rv m), some (.int y4)]) (stk' := []) rfl rfl rfl ?_)
    refine fp_goto (tgt := 18) dd_Law_law_1486 rfl ?_
    exact fr_ret rfl
  · refine fr_pc (pc' := 1141) rfl ?_
    refine fp_iconst (v := (0 : Int32)) dd_Law_law_1141 (by decide) (fr_pc (pc' := 1142) rfl ?_)
    exact fr_zret0 (v := (0 : Int32)) (Or.inl rfl) rfl rfl dd_Law_law_1142
def jl_29 (L : Nat) (xs : Nat → Int32) (i : Int32) (x m : Option Nat) : sf_M ((Int32) ⊕ (Int32 ⊕ (Unit))) :=
  sf_bnd (sf_scr L xs (i + (1 : Int32))) fun x1 =>
  sf_bnd (sf_scr L xs (i + (2 : Int32))) fun x2 =>
  sf_bnd (sf_scr L xs (i + (3 : Int32))) fun x3 =>
  sf_bnd (sf_rc 0 x (jx_SF_used x x1 x2 x3)) fun x4 =>
  sf_bnd (sf_scr L xs (i + (1 : Int32))) fun x5 =>
  sf_bnd (sf_scr L xs (i + (2 : Int32))) fun x6 =>
  sf_bnd (sf_scr L xs (i + (3 : Int32))) fun x7 =>
  sf_bnd (sf_rc 11 m (jx_Mo_used m x5 x6 x7)) fun x8 =>
  if x4 = x8 then (
  sf_bnd (sf_ret (i + (6 : Int32))) fun y10 =>
  sf_ret (.inl y10)
  ) else (
  sf_ret (.inr (.inl (0 : Int32)))
  )
set_option maxRecDepth 20000 in
set_option maxHeartbeats 4000000 in
theorem fl_29 (X : sf_X) (L : Nat) (xs : Nat → Int32) (hS : sf_Scr X L xs) (i : Int32) (x m : Option Nat) : sf_Fr X sf_ZL (sf_p 1143 [some (.double 60), some (sf_rv x), some (sf_rv m), some (.int i)] []) (jl_29 L xs i x m) (fun r => match r with
  | .inl b => sf_p 18 [some (.double 60), some (sf_rv x), some (sf_rv m), some (.int b)] []
  | .inr g => match g with
    | .inl a => .inr (some (.int a))
    | .inr _ => sf_p 1489 [some (.double 60), some (sf_rv x), some (sf_rv m), none] []) := by
  unfold jl_29
  refine fp_aload_n (i := 1) (r := x) dd_Law_law_1143 rfl rfl (fr_pc (pc' := 1144) rfl ?_)
  refine fp_aload_nd (i := 0) (x := 60) dd_Law_law_1144 rfl rfl (fr_pc (pc' := 1145) rfl ?_)
  refine fp_iload_n (i := 3) (x := i) dd_Law_law_1145 rfl rfl (fr_pc (pc' := 1146) rfl ?_)
  refine fp_iconst (v := (1 : Int32)) dd_Law_law_1146 (by decide) (fr_pc (pc' := 1147) rfl ?_)
  refine fp_iadd dd_Law_law_1147 (fr_pc (pc' := 1148) rfl ?_)
  refine fr_scr hS dd_Law_law_1148 (fun x1 => fr_pc (pc' := 1149) rfl ?_)
  refine fp_aload_nd (i := 0) (x := 60) dd_Law_law_1149 rfl rfl (fr_pc (pc' := 1150) rfl ?_)
  refine fp_iload_n (i := 3) (x := i) dd_Law_law_1150 rfl rfl (fr_pc (pc' := 1151) rfl ?_)
  refine fp_iconst (v := (2 : Int32)) dd_Law_law_1151 (by decide) (fr_pc (pc' := 1152) rfl ?_)
  refine fp_iadd dd_Law_law_1152 (fr_pc (pc' := 1153) rfl ?_)
  refine fr_scr hS dd_Law_law_1153 (fun x2 => fr_pc (pc' := 1154) rfl ?_)
  refine fp_aload_nd (i := 0) (x := 60) dd_Law_law_1154 rfl rfl (fr_pc (pc' := 1155) rfl ?_)
  refine fp_iload_n (i := 3) (x := i) dd_Law_law_1155 rfl rfl (fr_pc (pc' := 1156) rfl ?_)
  refine fp_iconst (v := (3 : Int32)) dd_Law_law_1156 (by decide) (fr_pc (pc' := 1157) rfl ?_)
  refine fp_iadd dd_Law_law_1157 (fr_pc (pc' := 1158) rfl ?_)
  refine fr_scr hS dd_Law_law_1158 (fun x3 => fr_pc (pc' := 1159) rfl ?_)
  refine fr_callV (stk := []) (As := [.int x1, .int x2, .int x3]) cl_0 (ok_SF_used x x1 x2 x3) mt_SF_used rfl rfl sw_967 sw_968 sw_969 (by decide) (Nat.le_of_ble_eq_true rfl) dd_Law_law_1159 (fun x4 => fr_to (pc' := 1162) (env' := [some (.double 60), some (sf_rv x), some (sf_rv m), some (.int i)]) (stk' := [.int x4]) rfl rfl rfl ?_)
  refine fp_aload_n (i := 2) (r := m) dd_Law_law_1162 rfl rfl (fr_pc (pc' := 1163) rfl ?_)
  refine fp_aload_nd (i := 0) (x := 60) dd_Law_law_1163 rfl rfl (fr_pc (pc' := 1164) rfl ?_)
  refine fp_iload_n (i := 3) (x := i) dd_Law_law_1164 rfl rfl (fr_pc (pc' := 1165) rfl ?_)
  refine fp_iconst (v := (1 : Int32)) dd_Law_law_1165 (by decide) (fr_pc (pc' := 1166) rfl ?_)
  refine fp_iadd dd_Law_law_1166 (fr_pc (pc' := 1167) rfl ?_)
  refine fr_scr hS dd_Law_law_1167 (fun x5 => fr_pc (pc' := 1168) rfl ?_)
  refine fp_aload_nd (i := 0) (x := 60) dd_Law_law_1168 rfl rfl (fr_pc (pc' := 1169) rfl ?_)
  refine fp_iload_n (i := 3) (x := i) dd_Law_law_1169 rfl rfl (fr_pc (pc' := 1170) rfl ?_)
  refine fp_iconst (v := (2 : Int32)) dd_Law_law_1170 (by decide) (fr_pc (pc' := 1171) rfl ?_)
  refine fp_iadd dd_Law_law_1171 (fr_pc (pc' := 1172) rfl ?_)
  refine fr_scr hS dd_Law_law_1172 (fun x6 => fr_pc (pc' := 1173) rfl ?_)
  refine fp_aload_nd (i := 0) (x := 60) dd_Law_law_1173 rfl rfl (fr_pc (pc' := 1174) rfl ?_)
  refine fp_iload_n (i := 3) (x := i) dd_Law_law_1174 rfl rfl (fr_pc (pc' := 1175) rfl ?_)
  refine fp_iconst (v := (3 : Int32)) dd_Law_law_1175 (by decide) (fr_pc (pc' := 1176) rfl ?_)
  refine fp_iadd dd_Law_law_1176 (fr_pc (pc' := 1177) rfl ?_)
  refine fr_scr hS dd_Law_law_1177 (fun x7 => fr_pc (pc' := 1178) rfl ?_)
  refine fr_callV (stk := [.int x4]) (As := [.int x5, .int x6, .int x7]) cl_11 (ok_Mo_used m x5 x6 x7) mt_Mo_used rfl rfl sw_1693 sw_1694 sw_1695 (by decide) (Nat.le_of_ble_eq_true rfl) dd_Law_law_1178 (fun x8 => fr_to (pc' := 1181) (env' := [some (.double 60), some (sf_rv x), some (sf_rv m), some (.int i)]) (stk' := [.int x8, .int x4]) rfl rfl rfl ?_)
  refine fr_icmp_eq (tgt := 1483) dd_Law_law_1181 rfl (fun _ => ?_) (fun _ => ?_)
  · refine fr_niinc (i := 3) (x := i) (w := (6 : Int32)) dd_Law_law_1483 rfl (by decide) (Nat.le_of_ble_eq_true rfl) (fun _ => c1_r rfl) (fun y10 => fr_to (pc' := 1486) (env' := [some (.double 60), some (sf_rv x), some (sf_rv m), some (.int y10)]) (stk' := []) rfl rfl rfl ?_)
    refine fp_goto (tgt := 18) dd_Law_law_1486 rfl ?_
    exact fr_ret rfl
  · refine fr_pc (pc' := 1184) rfl ?_
    refine fp_iconst (v := (0 : Int32)) dd_Law_law_1184 (by decide) (fr_pc (pc' := 1185) rfl ?_)
    exact fr_zret0 (v := (0 : Int32)) (Or.inl rfl) rfl rfl dd_Law_law_1185
def jl_30 (L : Nat) (xs : Nat → Int32) (i : Int32) (x m : Option Nat) : sf_M ((Int32) ⊕ (Int32 ⊕ (Unit))) :=
  sf_bnd (sf_scr L xs (i + (1 : Int32))) fun x1 =>
  sf_bnd (sf_scr L xs (i + (2 : Int32))) fun x2 =>
  sf_bnd (sf_rc 0 x (jx_SF_told x x1 x2)) fun x3 =>
  sf_bnd (sf_scr L xs (i + (1 : Int32))) fun x4 =>
  sf_bnd (sf_scr L xs (i + (2 : Int32))) fun x5 =>
  sf_bnd (sf_rc 11 m (jx_Mo_told m x4 x5)) fun x6 =>
  if x3 = x6 then (
  sf_bnd (sf_ret (i + (6 : Int32))) fun y8 =>
  sf_ret (.inl y8)
  ) else (
  sf_ret (.inr (.inl (0 : Int32)))
  )
set_option maxRecDepth 20000 in
set_option maxHeartbeats 4000000 in
theorem fl_30 (X : sf_X) (L : Nat) (xs : Nat → Int32) (hS : sf_Scr X L xs) (i : Int32) (x m : Option Nat) : sf_Fr X sf_ZL (sf_p 1186 [some (.double 60), some (sf_rv x), some (sf_rv m), some (.int i)] []) (jl_30 L xs i x m) (fun r => match r with
  | .inl b => sf_p 18 [some (.double 60), some (sf_rv x), some (sf_rv m), some (.int b)] []
  | .inr g => match g with
    | .inl a => .inr (some (.int a))
    | .inr _ => sf_p 1489 [some (.double 60), some (sf_rv x), some (sf_rv m), none] []) := by
  unfold jl_30
  refine fp_aload_n (i := 1) (r := x) dd_Law_law_1186 rfl rfl (fr_pc (pc' := 1187) rfl ?_)
  refine fp_aload_nd (i := 0) (x := 60) dd_Law_law_1187 rfl rfl (fr_pc (pc' := 1188) rfl ?_)
  refine fp_iload_n (i := 3) (x := i) dd_Law_law_1188 rfl rfl (fr_pc (pc' := 1189) rfl ?_)
  refine fp_iconst (v := (1 : Int32)) dd_Law_law_1189 (by decide) (fr_pc (pc' := 1190) rfl ?_)
  refine fp_iadd dd_Law_law_1190 (fr_pc (pc' := 1191) rfl ?_)
  refine fr_scr hS dd_Law_law_1191 (fun x1 => fr_pc (pc' := 1192) rfl ?_)
  refine fp_aload_nd (i := 0) (x := 60) dd_Law_law_1192 rfl rfl (fr_pc (pc' := 1193) rfl ?_)
  refine fp_iload_n (i := 3) (x := i) dd_Law_law_1193 rfl rfl (fr_pc (pc' := 1194) rfl ?_)
  refine fp_iconst (v := (2 : Int32)) dd_Law_law_1194 (by decide) (fr_pc (pc' := 1195) rfl ?_)
  refine fp_iadd dd_Law_law_1195 (fr_pc (pc' := 1196) rfl ?_)
  refine fr_scr hS dd_Law_law_1196 (fun x2 => fr_pc (pc' := 1197) rfl ?_)
  refine fr_callV (stk := []) (As := [.int x1, .int x2]) cl_0 (ok_SF_told x x1 x2) mt_SF_told rfl rfl sw_972 sw_973 sw_974 (by decide) (Nat.le_of_ble_eq_true rfl) dd_Law_law_1197 (fun x3 => fr_to (pc' := 1200) (env' := [some (.double 60), some (sf_rv x), some (sf_rv m), some (.int i)]) (stk' := [.int x3]) rfl rfl rfl ?_)
  refine fp_aload_n (i := 2) (r := m) dd_Law_law_1200 rfl rfl (fr_pc (pc' := 1201) rfl ?_)
  refine fp_aload_nd (i := 0) (x := 60) dd_Law_law_1201 rfl rfl (fr_pc (pc' := 1202) rfl ?_)
  refine fp_iload_n (i := 3) (x := i) dd_Law_law_1202 rfl rfl (fr_pc (pc' := 1203) rfl ?_)
  refine fp_iconst (v := (1 : Int32)) dd_Law_law_1203 (by decide) (fr_pc (pc' := 1204) rfl ?_)
  refine fp_iadd dd_Law_law_1204 (fr_pc (pc' := 1205) rfl ?_)
  refine fr_scr hS dd_Law_law_1205 (fun x4 => fr_pc (pc' := 1206) rfl ?_)
  refine fp_aload_nd (i := 0) (x := 60) dd_Law_law_1206 rfl rfl (fr_pc (pc' := 1207) rfl ?_)
  refine fp_iload_n (i := 3) (x := i) dd_Law_law_1207 rfl rfl (fr_pc (pc' := 1208) rfl ?_)
  refine fp_iconst (v := (2 : Int32)) dd_Law_law_1208 (by decide) (fr_pc (pc' := 1209) rfl ?_)
  refine fp_iadd dd_Law_law_1209 (fr_pc (pc' := 1210) rfl ?_)
  refine fr_scr hS dd_Law_law_1210 (fun x5 => fr_pc (pc' := 1211) rfl ?_)
  refine fr_callV (stk := [.int x3]) (As := [.int x4, .int x5]) cl_11 (ok_Mo_told m x4 x5) mt_Mo_told rfl rfl sw_1697 sw_1698 sw_1699 (by decide) (Nat.le_of_ble_eq_true rfl) dd_Law_law_1211 (fun x6 => fr_to (pc' := 1214) (env' := [some (.double 60), some (sf_rv x), some (sf_rv m), some (.int i)]) (stk' := [.int x6, .int x3]) rfl rfl rfl ?_)
  refine fr_icmp_eq (tgt := 1483) dd_Law_law_1214 rfl (fun _ => ?_) (fun _ => ?_)
  · refine fr_niinc (i := 3) (x := i) (w := (6 : Int32)) dd_Law_law_1483 rfl (by decide) (Nat.le_of_ble_eq_true rfl) (fun _ => c1_r rfl) (fun y8 => fr_to (pc' := 1486) (env' := [some (.double 60), some (sf_rv x), some (sf_rv m), some (.int y8)]) (stk' := []) rfl rfl rfl ?_)
    refine fp_goto (tgt := 18) dd_Law_law_1486 rfl ?_
    exact fr_ret rfl
  · refine fr_pc (pc' := 1217) rfl ?_
    refine fp_iconst (v := (0 : Int32)) dd_Law_law_1217 (by decide) (fr_pc (pc' := 1218) rfl ?_)
    exact fr_zret0 (v := (0 : Int32)) (Or.inl rfl) rfl rfl dd_Law_law_1218
def jl_31 (L : Nat) (xs : Nat → Int32) (i : Int32) (x m : Option Nat) : sf_M ((Int32) ⊕ (Int32 ⊕ (Unit))) :=
  sf_bnd (sf_rc 0 x (jx_SF_forget x)) fun x1 =>
  sf_bnd (sf_rc 11 m (jx_Mo_forget m)) fun x2 =>
  if x1 = x2 then (
  sf_bnd (sf_ret (i + (6 : Int32))) fun y4 =>
  sf_ret (.inl y4)
  ) else (
  sf_ret (.inr (.inl (0 : Int32)))
  )
set_option maxRecDepth 20000 in
set_option maxHeartbeats 4000000 in
theorem fl_31 (X : sf_X) (L : Nat) (xs : Nat → Int32) (hS : sf_Scr X L xs) (i : Int32) (x m : Option Nat) : sf_Fr X sf_ZL (sf_p 1219 [some (.double 60), some (sf_rv x), some (sf_rv m), some (.int i)] []) (jl_31 L xs i x m) (fun r => match r with
  | .inl b => sf_p 18 [some (.double 60), some (sf_rv x), some (sf_rv m), some (.int b)] []
  | .inr g => match g with
    | .inl a => .inr (some (.int a))
    | .inr _ => sf_p 1489 [some (.double 60), some (sf_rv x), some (sf_rv m), none] []) := by
  unfold jl_31
  refine fp_aload_n (i := 1) (r := x) dd_Law_law_1219 rfl rfl (fr_pc (pc' := 1220) rfl ?_)
  refine fr_callV (stk := []) (As := []) cl_0 (ok_SF_forget x) mt_SF_forget rfl rfl sw_982 sw_983 sw_984 (by decide) (Nat.le_of_ble_eq_true rfl) dd_Law_law_1220 (fun x1 => fr_to (pc' := 1223) (env' := [some (.double 60), some (sf_rv x), some (sf_rv m), some (.int i)]) (stk' := [.int x1]) rfl rfl rfl ?_)
  refine fp_aload_n (i := 2) (r := m) dd_Law_law_1223 rfl rfl (fr_pc (pc' := 1224) rfl ?_)
  refine fr_callV (stk := [.int x1]) (As := []) cl_11 (ok_Mo_forget m) mt_Mo_forget rfl rfl sw_1701 sw_1702 sw_1703 (by decide) (Nat.le_of_ble_eq_true rfl) dd_Law_law_1224 (fun x2 => fr_to (pc' := 1227) (env' := [some (.double 60), some (sf_rv x), some (sf_rv m), some (.int i)]) (stk' := [.int x2, .int x1]) rfl rfl rfl ?_)
  refine fr_icmp_eq (tgt := 1483) dd_Law_law_1227 rfl (fun _ => ?_) (fun _ => ?_)
  · refine fr_niinc (i := 3) (x := i) (w := (6 : Int32)) dd_Law_law_1483 rfl (by decide) (Nat.le_of_ble_eq_true rfl) (fun _ => c1_r rfl) (fun y4 => fr_to (pc' := 1486) (env' := [some (.double 60), some (sf_rv x), some (sf_rv m), some (.int y4)]) (stk' := []) rfl rfl rfl ?_)
    refine fp_goto (tgt := 18) dd_Law_law_1486 rfl ?_
    exact fr_ret rfl
  · refine fr_pc (pc' := 1230) rfl ?_
    refine fp_iconst (v := (0 : Int32)) dd_Law_law_1230 (by decide) (fr_pc (pc' := 1231) rfl ?_)
    exact fr_zret0 (v := (0 : Int32)) (Or.inl rfl) rfl rfl dd_Law_law_1231
def jl_32 (L : Nat) (xs : Nat → Int32) (i : Int32) (x m : Option Nat) : sf_M ((Int32) ⊕ (Int32 ⊕ (Unit))) :=
  sf_bnd (sf_rc 0 x (jx_SF_canBe x)) fun x1 =>
  sf_bnd (sf_rc 11 m (jx_Mo_canBe m)) fun x2 =>
  if x1 = x2 then (
  sf_bnd (sf_ret (i + (6 : Int32))) fun y4 =>
  sf_ret (.inl y4)
  ) else (
  sf_ret (.inr (.inl (0 : Int32)))
  )
set_option maxRecDepth 20000 in
set_option maxHeartbeats 4000000 in
theorem fl_32 (X : sf_X) (L : Nat) (xs : Nat → Int32) (hS : sf_Scr X L xs) (i : Int32) (x m : Option Nat) : sf_Fr X sf_ZL (sf_p 1232 [some (.double 60), some (sf_rv x), some (sf_rv m), some (.int i)] []) (jl_32 L xs i x m) (fun r => match r with
  | .inl b => sf_p 18 [some (.double 60), some (sf_rv x), some (sf_rv m), some (.int b)] []
  | .inr g => match g with
    | .inl a => .inr (some (.int a))
    | .inr _ => sf_p 1489 [some (.double 60), some (sf_rv x), some (sf_rv m), none] []) := by
  unfold jl_32
  refine fp_aload_n (i := 1) (r := x) dd_Law_law_1232 rfl rfl (fr_pc (pc' := 1233) rfl ?_)
  refine fr_callV (stk := []) (As := []) cl_0 (ok_SF_canBe x) mt_SF_canBe rfl rfl sw_986 sw_987 sw_988 (by decide) (Nat.le_of_ble_eq_true rfl) dd_Law_law_1233 (fun x1 => fr_to (pc' := 1236) (env' := [some (.double 60), some (sf_rv x), some (sf_rv m), some (.int i)]) (stk' := [.int x1]) rfl rfl rfl ?_)
  refine fp_aload_n (i := 2) (r := m) dd_Law_law_1236 rfl rfl (fr_pc (pc' := 1237) rfl ?_)
  refine fr_callV (stk := [.int x1]) (As := []) cl_11 (ok_Mo_canBe m) mt_Mo_canBe rfl rfl sw_1705 sw_1706 sw_1707 (by decide) (Nat.le_of_ble_eq_true rfl) dd_Law_law_1237 (fun x2 => fr_to (pc' := 1240) (env' := [some (.double 60), some (sf_rv x), some (sf_rv m), some (.int i)]) (stk' := [.int x2, .int x1]) rfl rfl rfl ?_)
  refine fr_icmp_eq (tgt := 1483) dd_Law_law_1240 rfl (fun _ => ?_) (fun _ => ?_)
  · refine fr_niinc (i := 3) (x := i) (w := (6 : Int32)) dd_Law_law_1483 rfl (by decide) (Nat.le_of_ble_eq_true rfl) (fun _ => c1_r rfl) (fun y4 => fr_to (pc' := 1486) (env' := [some (.double 60), some (sf_rv x), some (sf_rv m), some (.int y4)]) (stk' := []) rfl rfl rfl ?_)
    refine fp_goto (tgt := 18) dd_Law_law_1486 rfl ?_
    exact fr_ret rfl
  · refine fr_pc (pc' := 1243) rfl ?_
    refine fp_iconst (v := (0 : Int32)) dd_Law_law_1243 (by decide) (fr_pc (pc' := 1244) rfl ?_)
    exact fr_zret0 (v := (0 : Int32)) (Or.inl rfl) rfl rfl dd_Law_law_1244
def jl_33 (L : Nat) (xs : Nat → Int32) (i : Int32) (x m : Option Nat) : sf_M ((Int32) ⊕ (Int32 ⊕ (Unit))) :=
  sf_bnd (sf_scr L xs (i + (1 : Int32))) fun x1 =>
  sf_bnd (sf_rc 0 x (jx_SF_ask x x1)) fun x2 =>
  sf_bnd (sf_scr L xs (i + (1 : Int32))) fun x3 =>
  sf_bnd (sf_rc 11 m (jx_Mo_ask m x3)) fun x4 =>
  if x2 = x4 then (
  sf_bnd (sf_ret (i + (6 : Int32))) fun y6 =>
  sf_ret (.inl y6)
  ) else (
  sf_ret (.inr (.inl (0 : Int32)))
  )
set_option maxRecDepth 20000 in
set_option maxHeartbeats 4000000 in
theorem fl_33 (X : sf_X) (L : Nat) (xs : Nat → Int32) (hS : sf_Scr X L xs) (i : Int32) (x m : Option Nat) : sf_Fr X sf_ZL (sf_p 1245 [some (.double 60), some (sf_rv x), some (sf_rv m), some (.int i)] []) (jl_33 L xs i x m) (fun r => match r with
  | .inl b => sf_p 18 [some (.double 60), some (sf_rv x), some (sf_rv m), some (.int b)] []
  | .inr g => match g with
    | .inl a => .inr (some (.int a))
    | .inr _ => sf_p 1489 [some (.double 60), some (sf_rv x), some (sf_rv m), none] []) := by
  unfold jl_33
  refine fp_aload_n (i := 1) (r := x) dd_Law_law_1245 rfl rfl (fr_pc (pc' := 1246) rfl ?_)
  refine fp_aload_nd (i := 0) (x := 60) dd_Law_law_1246 rfl rfl (fr_pc (pc' := 1247) rfl ?_)
  refine fp_iload_n (i := 3) (x := i) dd_Law_law_1247 rfl rfl (fr_pc (pc' := 1248) rfl ?_)
  refine fp_iconst (v := (1 : Int32)) dd_Law_law_1248 (by decide) (fr_pc (pc' := 1249) rfl ?_)
  refine fp_iadd dd_Law_law_1249 (fr_pc (pc' := 1250) rfl ?_)
  refine fr_scr hS dd_Law_law_1250 (fun x1 => fr_pc (pc' := 1251) rfl ?_)
  refine fr_callV (stk := []) (As := [.int x1]) cl_0 (ok_SF_ask x x1) mt_SF_ask rfl rfl sw_998 sw_999 sw_1000 (by decide) (Nat.le_of_ble_eq_true rfl) dd_Law_law_1251 (fun x2 => fr_to (pc' := 1254) (env' := [some (.double 60), some (sf_rv x), some (sf_rv m), some (.int i)]) (stk' := [.int x2]) rfl rfl rfl ?_)
  refine fp_aload_n (i := 2) (r := m) dd_Law_law_1254 rfl rfl (fr_pc (pc' := 1255) rfl ?_)
  refine fp_aload_nd (i := 0) (x := 60) dd_Law_law_1255 rfl rfl (fr_pc (pc' := 1256) rfl ?_)
  refine fp_iload_n (i := 3) (x := i) dd_Law_law_1256 rfl rfl (fr_pc (pc' := 1257) rfl ?_)
  refine fp_iconst (v := (1 : Int32)) dd_Law_law_1257 (by decide) (fr_pc (pc' := 1258) rfl ?_)
  refine fp_iadd dd_Law_law_1258 (fr_pc (pc' := 1259) rfl ?_)
  refine fr_scr hS dd_Law_law_1259 (fun x3 => fr_pc (pc' := 1260) rfl ?_)
  refine fr_callV (stk := [.int x2]) (As := [.int x3]) cl_11 (ok_Mo_ask m x3) mt_Mo_ask rfl rfl sw_1717 sw_1718 sw_1719 (by decide) (Nat.le_of_ble_eq_true rfl) dd_Law_law_1260 (fun x4 => fr_to (pc' := 1263) (env' := [some (.double 60), some (sf_rv x), some (sf_rv m), some (.int i)]) (stk' := [.int x4, .int x2]) rfl rfl rfl ?_)
  refine fr_icmp_eq (tgt := 1483) dd_Law_law_1263 rfl (fun _ => ?_) (fun _ => ?_)
  · refine fr_niinc (i := 3) (x := i) (w := (6 : Int32)) dd_Law_law_1483 rfl (by decide) (Nat.le_of_ble_eq_true rfl) (fun _ => c1_r rfl) (fun y6 => fr_to (pc' := 1486) (env' := [some (.double 60), some (sf_rv x), some (sf_rv m), some (.int y6)]) (stk' := []) rfl rfl rfl ?_)
    refine fp_goto (tgt := 18) dd_Law_law_1486 rfl ?_
    exact fr_ret rfl
  · refine fr_pc (pc' := 1266) rfl ?_
    refine fp_iconst (v := (0 : Int32)) dd_Law_law_1266 (by decide) (fr_pc (pc' := 1267) rfl ?_)
    exact fr_zret0 (v := (0 : Int32)) (Or.inl rfl) rfl rfl dd_Law_law_1267
def jl_34 (L : Nat) (xs : Nat → Int32) (i : Int32) (x m : Option Nat) : sf_M ((Int32) ⊕ (Int32 ⊕ (Unit))) :=
  sf_bnd (sf_scr L xs (i + (1 : Int32))) fun x1 =>
  sf_bnd (sf_scr L xs (i + (2 : Int32))) fun x2 =>
  sf_bnd (sf_rc 0 x (jx_SF_few x x1 x2)) fun x3 =>
  sf_bnd (sf_scr L xs (i + (1 : Int32))) fun x4 =>
  sf_bnd (sf_scr L xs (i + (2 : Int32))) fun x5 =>
  sf_bnd (sf_rc 11 m (jx_Mo_few m x4 x5)) fun x6 =>
  if (lg_cmp x3 x6) = 0 then (
  sf_bnd (sf_ret (i + (6 : Int32))) fun y8 =>
  sf_ret (.inl y8)
  ) else (
  sf_ret (.inr (.inl (0 : Int32)))
  )
set_option maxRecDepth 20000 in
set_option maxHeartbeats 4000000 in
theorem fl_34 (X : sf_X) (L : Nat) (xs : Nat → Int32) (hS : sf_Scr X L xs) (i : Int32) (x m : Option Nat) : sf_Fr X sf_ZL (sf_p 1268 [some (.double 60), some (sf_rv x), some (sf_rv m), some (.int i)] []) (jl_34 L xs i x m) (fun r => match r with
  | .inl b => sf_p 18 [some (.double 60), some (sf_rv x), some (sf_rv m), some (.int b)] []
  | .inr g => match g with
    | .inl a => .inr (some (.int a))
    | .inr _ => sf_p 1489 [some (.double 60), some (sf_rv x), some (sf_rv m), none] []) := by
  unfold jl_34
  refine fp_aload_n (i := 1) (r := x) dd_Law_law_1268 rfl rfl (fr_pc (pc' := 1269) rfl ?_)
  refine fp_aload_nd (i := 0) (x := 60) dd_Law_law_1269 rfl rfl (fr_pc (pc' := 1270) rfl ?_)
  refine fp_iload_n (i := 3) (x := i) dd_Law_law_1270 rfl rfl (fr_pc (pc' := 1271) rfl ?_)
  refine fp_iconst (v := (1 : Int32)) dd_Law_law_1271 (by decide) (fr_pc (pc' := 1272) rfl ?_)
  refine fp_iadd dd_Law_law_1272 (fr_pc (pc' := 1273) rfl ?_)
  refine fr_scr hS dd_Law_law_1273 (fun x1 => fr_pc (pc' := 1274) rfl ?_)
  refine fp_aload_nd (i := 0) (x := 60) dd_Law_law_1274 rfl rfl (fr_pc (pc' := 1275) rfl ?_)
  refine fp_iload_n (i := 3) (x := i) dd_Law_law_1275 rfl rfl (fr_pc (pc' := 1276) rfl ?_)
  refine fp_iconst (v := (2 : Int32)) dd_Law_law_1276 (by decide) (fr_pc (pc' := 1277) rfl ?_)
  refine fp_iadd dd_Law_law_1277 (fr_pc (pc' := 1278) rfl ?_)
  refine fr_scr hS dd_Law_law_1278 (fun x2 => fr_pc (pc' := 1279) rfl ?_)
  refine fr_callV (stk := []) (As := [.int x1, .int x2]) cl_0 (ok_SF_few x x1 x2) mt_SF_few rfl rfl sw_1007 sw_1008 sw_1009 (by decide) (Nat.le_of_ble_eq_true rfl) dd_Law_law_1279 (fun x3 => fr_to (pc' := 1282) (env' := [some (.double 60), some (sf_rv x), some (sf_rv m), some (.int i)]) (stk' := [.long x3]) rfl rfl rfl ?_)
  refine fp_aload_n (i := 2) (r := m) dd_Law_law_1282 rfl rfl (fr_pc (pc' := 1283) rfl ?_)
  refine fp_aload_nd (i := 0) (x := 60) dd_Law_law_1283 rfl rfl (fr_pc (pc' := 1284) rfl ?_)
  refine fp_iload_n (i := 3) (x := i) dd_Law_law_1284 rfl rfl (fr_pc (pc' := 1285) rfl ?_)
  refine fp_iconst (v := (1 : Int32)) dd_Law_law_1285 (by decide) (fr_pc (pc' := 1286) rfl ?_)
  refine fp_iadd dd_Law_law_1286 (fr_pc (pc' := 1287) rfl ?_)
  refine fr_scr hS dd_Law_law_1287 (fun x4 => fr_pc (pc' := 1288) rfl ?_)
  refine fp_aload_nd (i := 0) (x := 60) dd_Law_law_1288 rfl rfl (fr_pc (pc' := 1289) rfl ?_)
  refine fp_iload_n (i := 3) (x := i) dd_Law_law_1289 rfl rfl (fr_pc (pc' := 1290) rfl ?_)
  refine fp_iconst (v := (2 : Int32)) dd_Law_law_1290 (by decide) (fr_pc (pc' := 1291) rfl ?_)
  refine fp_iadd dd_Law_law_1291 (fr_pc (pc' := 1292) rfl ?_)
  refine fr_scr hS dd_Law_law_1292 (fun x5 => fr_pc (pc' := 1293) rfl ?_)
  refine fr_callV (stk := [.long x3]) (As := [.int x4, .int x5]) cl_11 (ok_Mo_few m x4 x5) mt_Mo_few rfl rfl sw_1730 sw_1731 sw_1732 (by decide) (Nat.le_of_ble_eq_true rfl) dd_Law_law_1293 (fun x6 => fr_to (pc' := 1296) (env' := [some (.double 60), some (sf_rv x), some (sf_rv m), some (.int i)]) (stk' := [.long x6, .long x3]) rfl rfl rfl ?_)
  refine fp_lcmp dd_Law_law_1296 (fr_pc (pc' := 1297) rfl ?_)
  refine fr_if_eq (tgt := 1483) dd_Law_law_1297 rfl (fun _ => ?_) (fun _ => ?_)
  · refine fr_niinc (i := 3) (x := i) (w := (6 : Int32)) dd_Law_law_1483 rfl (by decide) (Nat.le_of_ble_eq_true rfl) (fun _ => c1_r rfl) (fun y8 => fr_to (pc' := 1486) (env' := [some (.double 60), some (sf_rv x), some (sf_rv m), some (.int y8)]) (stk' := []) rfl rfl rfl ?_)
    refine fp_goto (tgt := 18) dd_Law_law_1486 rfl ?_
    exact fr_ret rfl
  · refine fr_pc (pc' := 1300) rfl ?_
    refine fp_iconst (v := (0 : Int32)) dd_Law_law_1300 (by decide) (fr_pc (pc' := 1301) rfl ?_)
    exact fr_zret0 (v := (0 : Int32)) (Or.inl rfl) rfl rfl dd_Law_law_1301
def jl_35 (L : Nat) (xs : Nat → Int32) (i : Int32) (x m : Option Nat) : sf_M ((Int32) ⊕ (Int32 ⊕ (Unit))) :=
  sf_bnd (sf_scr L xs (i + (1 : Int32))) fun x1 =>
  sf_bnd (sf_scr L xs (i + (2 : Int32))) fun x2 =>
  sf_bnd (sf_scr L xs (i + (3 : Int32))) fun x3 =>
  sf_bnd (sf_rc 0 x (jx_SF_compare x x1 x2 x3)) fun x4 =>
  sf_bnd (sf_scr L xs (i + (1 : Int32))) fun x5 =>
  sf_bnd (sf_scr L xs (i + (2 : Int32))) fun x6 =>
  sf_bnd (sf_scr L xs (i + (3 : Int32))) fun x7 =>
  sf_bnd (sf_rc 11 m (jx_Mo_compare m x5 x6 x7)) fun x8 =>
  if x4 = x8 then (
  sf_bnd (sf_ret (i + (6 : Int32))) fun y10 =>
  sf_ret (.inl y10)
  ) else (
  sf_ret (.inr (.inl (0 : Int32)))
  )
set_option maxRecDepth 20000 in
set_option maxHeartbeats 4000000 in
theorem fl_35 (X : sf_X) (L : Nat) (xs : Nat → Int32) (hS : sf_Scr X L xs) (i : Int32) (x m : Option Nat) : sf_Fr X sf_ZL (sf_p 1302 [some (.double 60), some (sf_rv x), some (sf_rv m), some (.int i)] []) (jl_35 L xs i x m) (fun r => match r with
  | .inl b => sf_p 18 [some (.double 60), some (sf_rv x), some (sf_rv m), some (.int b)] []
  | .inr g => match g with
    | .inl a => .inr (some (.int a))
    | .inr _ => sf_p 1489 [some (.double 60), some (sf_rv x), some (sf_rv m), none] []) := by
  unfold jl_35
  refine fp_aload_n (i := 1) (r := x) dd_Law_law_1302 rfl rfl (fr_pc (pc' := 1303) rfl ?_)
  refine fp_aload_nd (i := 0) (x := 60) dd_Law_law_1303 rfl rfl (fr_pc (pc' := 1304) rfl ?_)
  refine fp_iload_n (i := 3) (x := i) dd_Law_law_1304 rfl rfl (fr_pc (pc' := 1305) rfl ?_)
  refine fp_iconst (v := (1 : Int32)) dd_Law_law_1305 (by decide) (fr_pc (pc' := 1306) rfl ?_)
  refine fp_iadd dd_Law_law_1306 (fr_pc (pc' := 1307) rfl ?_)
  refine fr_scr hS dd_Law_law_1307 (fun x1 => fr_pc (pc' := 1308) rfl ?_)
  refine fp_aload_nd (i := 0) (x := 60) dd_Law_law_1308 rfl rfl (fr_pc (pc' := 1309) rfl ?_)
  refine fp_iload_n (i := 3) (x := i) dd_Law_law_1309 rfl rfl (fr_pc (pc' := 1310) rfl ?_)
  refine fp_iconst (v := (2 : Int32)) dd_Law_law_1310 (by decide) (fr_pc (pc' := 1311) rfl ?_)
  refine fp_iadd dd_Law_law_1311 (fr_pc (pc' := 1312) rfl ?_)
  refine fr_scr hS dd_Law_law_1312 (fun x2 => fr_pc (pc' := 1313) rfl ?_)
  refine fp_aload_nd (i := 0) (x := 60) dd_Law_law_1313 rfl rfl (fr_pc (pc' := 1314) rfl ?_)
  refine fp_iload_n (i := 3) (x := i) dd_Law_law_1314 rfl rfl (fr_pc (pc' := 1315) rfl ?_)
  refine fp_iconst (v := (3 : Int32)) dd_Law_law_1315 (by decide) (fr_pc (pc' := 1316) rfl ?_)
  refine fp_iadd dd_Law_law_1316 (fr_pc (pc' := 1317) rfl ?_)
  refine fr_scr hS dd_Law_law_1317 (fun x3 => fr_pc (pc' := 1318) rfl ?_)
  refine fr_callV (stk := []) (As := [.int x1, .int x2, .int x3]) cl_0 (ok_SF_compare x x1 x2 x3) mt_SF_compare rfl rfl sw_1017 sw_1018 sw_1019 (by decide) (Nat.le_of_ble_eq_true rfl) dd_Law_law_1318 (fun x4 => fr_to (pc' := 1321) (env' := [some (.double 60), some (sf_rv x), some (sf_rv m), some (.int i)]) (stk' := [.int x4]) rfl rfl rfl ?_)
  refine fp_aload_n (i := 2) (r := m) dd_Law_law_1321 rfl rfl (fr_pc (pc' := 1322) rfl ?_)
  refine fp_aload_nd (i := 0) (x := 60) dd_Law_law_1322 rfl rfl (fr_pc (pc' := 1323) rfl ?_)
  refine fp_iload_n (i := 3) (x := i) dd_Law_law_1323 rfl rfl (fr_pc (pc' := 1324) rfl ?_)
  refine fp_iconst (v := (1 : Int32)) dd_Law_law_1324 (by decide) (fr_pc (pc' := 1325) rfl ?_)
  refine fp_iadd dd_Law_law_1325 (fr_pc (pc' := 1326) rfl ?_)
  refine fr_scr hS dd_Law_law_1326 (fun x5 => fr_pc (pc' := 1327) rfl ?_)
  refine fp_aload_nd (i := 0) (x := 60) dd_Law_law_1327 rfl rfl (fr_pc (pc' := 1328) rfl ?_)
  refine fp_iload_n (i := 3) (x := i) dd_Law_law_1328 rfl rfl (fr_pc (pc' := 1329) rfl ?_)
  refine fp_iconst (v := (2 : Int32)) dd_Law_law_1329 (by decide) (fr_pc (pc' := 1330) rfl ?_)
  refine fp_iadd dd_Law_law_1330 (fr_pc (pc' := 1331) rfl ?_)
  refine fr_scr hS dd_Law_law_1331 (fun x6 => fr_pc (pc' := 1332) rfl ?_)
  refine fp_aload_nd (i := 0) (x := 60) dd_Law_law_1332 rfl rfl (fr_pc (pc' := 1333) rfl ?_)
  refine fp_iload_n (i := 3) (x := i) dd_Law_law_1333 rfl rfl (fr_pc (pc' := 1334) rfl ?_)
  refine fp_iconst (v := (3 : Int32)) dd_Law_law_1334 (by decide) (fr_pc (pc' := 1335) rfl ?_)
  refine fp_iadd dd_Law_law_1335 (fr_pc (pc' := 1336) rfl ?_)
  refine fr_scr hS dd_Law_law_1336 (fun x7 => fr_pc (pc' := 1337) rfl ?_)
  refine fr_callV (stk := [.int x4]) (As := [.int x5, .int x6, .int x7]) cl_11 (ok_Mo_compare m x5 x6 x7) mt_Mo_compare rfl rfl sw_1726 sw_1727 sw_1728 (by decide) (Nat.le_of_ble_eq_true rfl) dd_Law_law_1337 (fun x8 => fr_to (pc' := 1340) (env' := [some (.double 60), some (sf_rv x), some (sf_rv m), some (.int i)]) (stk' := [.int x8, .int x4]) rfl rfl rfl ?_)
  refine fr_icmp_eq (tgt := 1483) dd_Law_law_1340 rfl (fun _ => ?_) (fun _ => ?_)
  · refine fr_niinc (i := 3) (x := i) (w := (6 : Int32)) dd_Law_law_1483 rfl (by decide) (Nat.le_of_ble_eq_true rfl) (fun _ => c1_r rfl) (fun y10 => fr_to (pc' := 1486) (env' := [some (.double 60), some (sf_rv x), some (sf_rv m), some (.int y10)]) (stk' := []) rfl rfl rfl ?_)
    refine fp_goto (tgt := 18) dd_Law_law_1486 rfl ?_
    exact fr_ret rfl
  · refine fr_pc (pc' := 1343) rfl ?_
    refine fp_iconst (v := (0 : Int32)) dd_Law_law_1343 (by decide) (fr_pc (pc' := 1344) rfl ?_)
    exact fr_zret0 (v := (0 : Int32)) (Or.inl rfl) rfl rfl dd_Law_law_1344
def jl_36 (L : Nat) (xs : Nat → Int32) (i : Int32) (x m : Option Nat) : sf_M ((Int32) ⊕ (Int32 ⊕ (Unit))) :=
  sf_bnd (sf_scr L xs (i + (1 : Int32))) fun x1 =>
  sf_bnd (sf_scr L xs (i + (2 : Int32))) fun x2 =>
  sf_bnd (sf_rc 0 x (jx_SF_months x x1 x2)) fun x3 =>
  sf_bnd (sf_scr L xs (i + (1 : Int32))) fun x4 =>
  sf_bnd (sf_scr L xs (i + (2 : Int32))) fun x5 =>
  sf_bnd (sf_rc 11 m (jx_Mo_months m x4 x5)) fun x6 =>
  if x3 = x6 then (
  sf_bnd (sf_ret (i + (6 : Int32))) fun y8 =>
  sf_ret (.inl y8)
  ) else (
  sf_ret (.inr (.inl (0 : Int32)))
  )
set_option maxRecDepth 20000 in
set_option maxHeartbeats 4000000 in
theorem fl_36 (X : sf_X) (L : Nat) (xs : Nat → Int32) (hS : sf_Scr X L xs) (i : Int32) (x m : Option Nat) : sf_Fr X sf_ZL (sf_p 1345 [some (.double 60), some (sf_rv x), some (sf_rv m), some (.int i)] []) (jl_36 L xs i x m) (fun r => match r with
  | .inl b => sf_p 18 [some (.double 60), some (sf_rv x), some (sf_rv m), some (.int b)] []
  | .inr g => match g with
    | .inl a => .inr (some (.int a))
    | .inr _ => sf_p 1489 [some (.double 60), some (sf_rv x), some (sf_rv m), none] []) := by
  unfold jl_36
  refine fp_aload_n (i := 1) (r := x) dd_Law_law_1345 rfl rfl (fr_pc (pc' := 1346) rfl ?_)
  refine fp_aload_nd (i := 0) (x := 60) dd_Law_law_1346 rfl rfl (fr_pc (pc' := 1347) rfl ?_)
  refine fp_iload_n (i := 3) (x := i) dd_Law_law_1347 rfl rfl (fr_pc (pc' := 1348) rfl ?_)
  refine fp_iconst (v := (1 : Int32)) dd_Law_law_1348 (by decide) (fr_pc (pc' := 1349) rfl ?_)
  refine fp_iadd dd_Law_law_1349 (fr_pc (pc' := 1350) rfl ?_)
  refine fr_scr hS dd_Law_law_1350 (fun x1 => fr_pc (pc' := 1351) rfl ?_)
  refine fp_aload_nd (i := 0) (x := 60) dd_Law_law_1351 rfl rfl (fr_pc (pc' := 1352) rfl ?_)
  refine fp_iload_n (i := 3) (x := i) dd_Law_law_1352 rfl rfl (fr_pc (pc' := 1353) rfl ?_)
  refine fp_iconst (v := (2 : Int32)) dd_Law_law_1353 (by decide) (fr_pc (pc' := 1354) rfl ?_)
  refine fp_iadd dd_Law_law_1354 (fr_pc (pc' := 1355) rfl ?_)
  refine fr_scr hS dd_Law_law_1355 (fun x2 => fr_pc (pc' := 1356) rfl ?_)
  refine fr_callV (stk := []) (As := [.int x1, .int x2]) cl_0 (ok_SF_months x x1 x2) mt_SF_months rfl rfl sw_1022 sw_1023 sw_1024 (by decide) (Nat.le_of_ble_eq_true rfl) dd_Law_law_1356 (fun x3 => fr_to (pc' := 1359) (env' := [some (.double 60), some (sf_rv x), some (sf_rv m), some (.int i)]) (stk' := [.int x3]) rfl rfl rfl ?_)
  refine fp_aload_n (i := 2) (r := m) dd_Law_law_1359 rfl rfl (fr_pc (pc' := 1360) rfl ?_)
  refine fp_aload_nd (i := 0) (x := 60) dd_Law_law_1360 rfl rfl (fr_pc (pc' := 1361) rfl ?_)
  refine fp_iload_n (i := 3) (x := i) dd_Law_law_1361 rfl rfl (fr_pc (pc' := 1362) rfl ?_)
  refine fp_iconst (v := (1 : Int32)) dd_Law_law_1362 (by decide) (fr_pc (pc' := 1363) rfl ?_)
  refine fp_iadd dd_Law_law_1363 (fr_pc (pc' := 1364) rfl ?_)
  refine fr_scr hS dd_Law_law_1364 (fun x4 => fr_pc (pc' := 1365) rfl ?_)
  refine fp_aload_nd (i := 0) (x := 60) dd_Law_law_1365 rfl rfl (fr_pc (pc' := 1366) rfl ?_)
  refine fp_iload_n (i := 3) (x := i) dd_Law_law_1366 rfl rfl (fr_pc (pc' := 1367) rfl ?_)
  refine fp_iconst (v := (2 : Int32)) dd_Law_law_1367 (by decide) (fr_pc (pc' := 1368) rfl ?_)
  refine fp_iadd dd_Law_law_1368 (fr_pc (pc' := 1369) rfl ?_)
  refine fr_scr hS dd_Law_law_1369 (fun x5 => fr_pc (pc' := 1370) rfl ?_)
  refine fr_callV (stk := [.int x3]) (As := [.int x4, .int x5]) cl_11 (ok_Mo_months m x4 x5) mt_Mo_months rfl rfl sw_1769 sw_1770 sw_1771 (by decide) (Nat.le_of_ble_eq_true rfl) dd_Law_law_1370 (fun x6 => fr_to (pc' := 1373) (env' := [some (.double 60), some (sf_rv x), some (sf_rv m), some (.int i)]) (stk' := [.int x6, .int x3]) rfl rfl rfl ?_)
  refine fr_icmp_eq (tgt := 1483) dd_Law_law_1373 rfl (fun _ => ?_) (fun _ => ?_)
  · refine fr_niinc (i := 3) (x := i) (w := (6 : Int32)) dd_Law_law_1483 rfl (by decide) (Nat.le_of_ble_eq_true rfl) (fun _ => c1_r rfl) (fun y8 => fr_to (pc' := 1486) (env' := [some (.double 60), some (sf_rv x), some (sf_rv m), some (.int y8)]) (stk' := []) rfl rfl rfl ?_)
    refine fp_goto (tgt := 18) dd_Law_law_1486 rfl ?_
    exact fr_ret rfl
  · refine fr_pc (pc' := 1376) rfl ?_
    refine fp_iconst (v := (0 : Int32)) dd_Law_law_1376 (by decide) (fr_pc (pc' := 1377) rfl ?_)
    exact fr_zret0 (v := (0 : Int32)) (Or.inl rfl) rfl rfl dd_Law_law_1377
def jl_37 (L : Nat) (xs : Nat → Int32) (i : Int32) (x m : Option Nat) : sf_M ((Int32) ⊕ (Int32 ⊕ (Unit))) :=
  sf_bnd (sf_scr L xs (i + (1 : Int32))) fun x1 =>
  sf_bnd (sf_rc 0 x (jx_SF_drawn x x1)) fun x2 =>
  sf_bnd (sf_scr L xs (i + (1 : Int32))) fun x3 =>
  sf_bnd (sf_rc 11 m (jx_Mo_drawn m x3)) fun x4 =>
  if x2 = x4 then (
  sf_bnd (sf_ret (i + (6 : Int32))) fun y6 =>
  sf_ret (.inl y6)
  ) else (
  sf_ret (.inr (.inl (0 : Int32)))
  )
set_option maxRecDepth 20000 in
set_option maxHeartbeats 4000000 in
theorem fl_37 (X : sf_X) (L : Nat) (xs : Nat → Int32) (hS : sf_Scr X L xs) (i : Int32) (x m : Option Nat) : sf_Fr X sf_ZL (sf_p 1378 [some (.double 60), some (sf_rv x), some (sf_rv m), some (.int i)] []) (jl_37 L xs i x m) (fun r => match r with
  | .inl b => sf_p 18 [some (.double 60), some (sf_rv x), some (sf_rv m), some (.int b)] []
  | .inr g => match g with
    | .inl a => .inr (some (.int a))
    | .inr _ => sf_p 1489 [some (.double 60), some (sf_rv x), some (sf_rv m), none] []) := by
  unfold jl_37
  refine fp_aload_n (i := 1) (r := x) dd_Law_law_1378 rfl rfl (fr_pc (pc' := 1379) rfl ?_)
  refine fp_aload_nd (i := 0) (x := 60) dd_Law_law_1379 rfl rfl (fr_pc (pc' := 1380) rfl ?_)
  refine fp_iload_n (i := 3) (x := i) dd_Law_law_1380 rfl rfl (fr_pc (pc' := 1381) rfl ?_)
  refine fp_iconst (v := (1 : Int32)) dd_Law_law_1381 (by decide) (fr_pc (pc' := 1382) rfl ?_)
  refine fp_iadd dd_Law_law_1382 (fr_pc (pc' := 1383) rfl ?_)
  refine fr_scr hS dd_Law_law_1383 (fun x1 => fr_pc (pc' := 1384) rfl ?_)
  refine fr_callV (stk := []) (As := [.int x1]) cl_0 (ok_SF_drawn x x1) mt_SF_drawn rfl rfl sw_1037 sw_1038 sw_1039 (by decide) (Nat.le_of_ble_eq_true rfl) dd_Law_law_1384 (fun x2 => fr_to (pc' := 1387) (env' := [some (.double 60), some (sf_rv x), some (sf_rv m), some (.int i)]) (stk' := [.int x2]) rfl rfl rfl ?_)
  refine fp_aload_n (i := 2) (r := m) dd_Law_law_1387 rfl rfl (fr_pc (pc' := 1388) rfl ?_)
  refine fp_aload_nd (i := 0) (x := 60) dd_Law_law_1388 rfl rfl (fr_pc (pc' := 1389) rfl ?_)
  refine fp_iload_n (i := 3) (x := i) dd_Law_law_1389 rfl rfl (fr_pc (pc' := 1390) rfl ?_)
  refine fp_iconst (v := (1 : Int32)) dd_Law_law_1390 (by decide) (fr_pc (pc' := 1391) rfl ?_)
  refine fp_iadd dd_Law_law_1391 (fr_pc (pc' := 1392) rfl ?_)
  refine fr_scr hS dd_Law_law_1392 (fun x3 => fr_pc (pc' := 1393) rfl ?_)
  refine fr_callV (stk := [.int x2]) (As := [.int x3]) cl_11 (ok_Mo_drawn m x3) mt_Mo_drawn rfl rfl sw_1784 sw_1785 sw_1786 (by decide) (Nat.le_of_ble_eq_true rfl) dd_Law_law_1393 (fun x4 => fr_to (pc' := 1396) (env' := [some (.double 60), some (sf_rv x), some (sf_rv m), some (.int i)]) (stk' := [.int x4, .int x2]) rfl rfl rfl ?_)
  refine fr_icmp_eq (tgt := 1483) dd_Law_law_1396 rfl (fun _ => ?_) (fun _ => ?_)
  · refine fr_niinc (i := 3) (x := i) (w := (6 : Int32)) dd_Law_law_1483 rfl (by decide) (Nat.le_of_ble_eq_true rfl) (fun _ => c1_r rfl) (fun y6 => fr_to (pc' := 1486) (env' := [some (.double 60), some (sf_rv x), some (sf_rv m), some (.int y6)]) (stk' := []) rfl rfl rfl ?_)
    refine fp_goto (tgt := 18) dd_Law_law_1486 rfl ?_
    exact fr_ret rfl
  · refine fr_pc (pc' := 1399) rfl ?_
    refine fp_iconst (v := (0 : Int32)) dd_Law_law_1399 (by decide) (fr_pc (pc' := 1400) rfl ?_)
    exact fr_zret0 (v := (0 : Int32)) (Or.inl rfl) rfl rfl dd_Law_law_1400
def jl_38 (L : Nat) (xs : Nat → Int32) (i : Int32) (x m : Option Nat) : sf_M ((Int32) ⊕ (Int32 ⊕ (Unit))) :=
  sf_bnd (sf_scr L xs (i + (1 : Int32))) fun x1 =>
  sf_bnd (sf_rc 0 x (jx_SF_image x x1)) fun x2 =>
  sf_bnd (sf_scr L xs (i + (1 : Int32))) fun x3 =>
  sf_bnd (sf_rc 11 m (jx_Mo_image m x3)) fun x4 =>
  if x2 = x4 then (
  sf_bnd (sf_ret (i + (6 : Int32))) fun y6 =>
  sf_ret (.inl y6)
  ) else (
  sf_ret (.inr (.inl (0 : Int32)))
  )
set_option maxRecDepth 20000 in
set_option maxHeartbeats 4000000 in
theorem fl_38 (X : sf_X) (L : Nat) (xs : Nat → Int32) (hS : sf_Scr X L xs) (i : Int32) (x m : Option Nat) : sf_Fr X sf_ZL (sf_p 1401 [some (.double 60), some (sf_rv x), some (sf_rv m), some (.int i)] []) (jl_38 L xs i x m) (fun r => match r with
  | .inl b => sf_p 18 [some (.double 60), some (sf_rv x), some (sf_rv m), some (.int b)] []
  | .inr g => match g with
    | .inl a => .inr (some (.int a))
    | .inr _ => sf_p 1489 [some (.double 60), some (sf_rv x), some (sf_rv m), none] []) := by
  unfold jl_38
  refine fp_aload_n (i := 1) (r := x) dd_Law_law_1401 rfl rfl (fr_pc (pc' := 1402) rfl ?_)
  refine fp_aload_nd (i := 0) (x := 60) dd_Law_law_1402 rfl rfl (fr_pc (pc' := 1403) rfl ?_)
  refine fp_iload_n (i := 3) (x := i) dd_Law_law_1403 rfl rfl (fr_pc (pc' := 1404) rfl ?_)
  refine fp_iconst (v := (1 : Int32)) dd_Law_law_1404 (by decide) (fr_pc (pc' := 1405) rfl ?_)
  refine fp_iadd dd_Law_law_1405 (fr_pc (pc' := 1406) rfl ?_)
  refine fr_scr hS dd_Law_law_1406 (fun x1 => fr_pc (pc' := 1407) rfl ?_)
  refine fr_callV (stk := []) (As := [.int x1]) cl_0 (ok_SF_image x x1) mt_SF_image rfl rfl sw_1041 sw_1042 sw_1043 (by decide) (Nat.le_of_ble_eq_true rfl) dd_Law_law_1407 (fun x2 => fr_to (pc' := 1410) (env' := [some (.double 60), some (sf_rv x), some (sf_rv m), some (.int i)]) (stk' := [.int x2]) rfl rfl rfl ?_)
  refine fp_aload_n (i := 2) (r := m) dd_Law_law_1410 rfl rfl (fr_pc (pc' := 1411) rfl ?_)
  refine fp_aload_nd (i := 0) (x := 60) dd_Law_law_1411 rfl rfl (fr_pc (pc' := 1412) rfl ?_)
  refine fp_iload_n (i := 3) (x := i) dd_Law_law_1412 rfl rfl (fr_pc (pc' := 1413) rfl ?_)
  refine fp_iconst (v := (1 : Int32)) dd_Law_law_1413 (by decide) (fr_pc (pc' := 1414) rfl ?_)
  refine fp_iadd dd_Law_law_1414 (fr_pc (pc' := 1415) rfl ?_)
  refine fr_scr hS dd_Law_law_1415 (fun x3 => fr_pc (pc' := 1416) rfl ?_)
  refine fr_callV (stk := [.int x2]) (As := [.int x3]) cl_11 (ok_Mo_image m x3) mt_Mo_image rfl rfl sw_1233 sw_1234 sw_1235 (by decide) (Nat.le_of_ble_eq_true rfl) dd_Law_law_1416 (fun x4 => fr_to (pc' := 1419) (env' := [some (.double 60), some (sf_rv x), some (sf_rv m), some (.int i)]) (stk' := [.int x4, .int x2]) rfl rfl rfl ?_)
  refine fr_icmp_eq (tgt := 1483) dd_Law_law_1419 rfl (fun _ => ?_) (fun _ => ?_)
  · refine fr_niinc (i := 3) (x := i) (w := (6 : Int32)) dd_Law_law_1483 rfl (by decide) (Nat.le_of_ble_eq_true rfl) (fun _ => c1_r rfl) (fun y6 => fr_to (pc' := 1486) (env' := [some (.double 60), some (sf_rv x), some (sf_rv m), some (.int y6)]) (stk' := []) rfl rfl rfl ?_)
    refine fp_goto (tgt := 18) dd_Law_law_1486 rfl ?_
    exact fr_ret rfl
  · refine fr_pc (pc' := 1422) rfl ?_
    refine fp_iconst (v := (0 : Int32)) dd_Law_law_1422 (by decide) (fr_pc (pc' := 1423) rfl ?_)
    exact fr_zret0 (v := (0 : Int32)) (Or.inl rfl) rfl rfl dd_Law_law_1423
def jl_39 (L : Nat) (xs : Nat → Int32) (i : Int32) (x m : Option Nat) : sf_M ((Int32) ⊕ (Int32 ⊕ (Unit))) :=
  sf_bnd (sf_scr L xs (i + (1 : Int32))) fun x1 =>
  sf_bnd (sf_rc 0 x (jx_SF_back x x1)) fun x2 =>
  sf_bnd (sf_scr L xs (i + (1 : Int32))) fun x3 =>
  sf_bnd (sf_rc 11 m (jx_Mo_back m x3)) fun x4 =>
  if x2 = x4 then (
  sf_bnd (sf_ret (i + (6 : Int32))) fun y6 =>
  sf_ret (.inl y6)
  ) else (
  sf_ret (.inr (.inl (0 : Int32)))
  )
set_option maxRecDepth 20000 in
set_option maxHeartbeats 4000000 in
theorem fl_39 (X : sf_X) (L : Nat) (xs : Nat → Int32) (hS : sf_Scr X L xs) (i : Int32) (x m : Option Nat) : sf_Fr X sf_ZL (sf_p 1424 [some (.double 60), some (sf_rv x), some (sf_rv m), some (.int i)] []) (jl_39 L xs i x m) (fun r => match r with
  | .inl b => sf_p 18 [some (.double 60), some (sf_rv x), some (sf_rv m), some (.int b)] []
  | .inr g => match g with
    | .inl a => .inr (some (.int a))
    | .inr _ => sf_p 1489 [some (.double 60), some (sf_rv x), some (sf_rv m), none] []) := by
  unfold jl_39
  refine fp_aload_n (i := 1) (r := x) dd_Law_law_1424 rfl rfl (fr_pc (pc' := 1425) rfl ?_)
  refine fp_aload_nd (i := 0) (x := 60) dd_Law_law_1425 rfl rfl (fr_pc (pc' := 1426) rfl ?_)
  refine fp_iload_n (i := 3) (x := i) dd_Law_law_1426 rfl rfl (fr_pc (pc' := 1427) rfl ?_)
  refine fp_iconst (v := (1 : Int32)) dd_Law_law_1427 (by decide) (fr_pc (pc' := 1428) rfl ?_)
  refine fp_iadd dd_Law_law_1428 (fr_pc (pc' := 1429) rfl ?_)
  refine fr_scr hS dd_Law_law_1429 (fun x1 => fr_pc (pc' := 1430) rfl ?_)
  refine fr_callV (stk := []) (As := [.int x1]) cl_0 (ok_SF_back x x1) mt_SF_back rfl rfl sw_1052 sw_1053 sw_1054 (by decide) (Nat.le_of_ble_eq_true rfl) dd_Law_law_1430 (fun x2 => fr_to (pc' := 1433) (env' := [some (.double 60), some (sf_rv x), some (sf_rv m), some (.int i)]) (stk' := [.int x2]) rfl rfl rfl ?_)
  refine fp_aload_n (i := 2) (r := m) dd_Law_law_1433 rfl rfl (fr_pc (pc' := 1434) rfl ?_)
  refine fp_aload_nd (i := 0) (x := 60) dd_Law_law_1434 rfl rfl (fr_pc (pc' := 1435) rfl ?_)
  refine fp_iload_n (i := 3) (x := i) dd_Law_law_1435 rfl rfl (fr_pc (pc' := 1436) rfl ?_)
  refine fp_iconst (v := (1 : Int32)) dd_Law_law_1436 (by decide) (fr_pc (pc' := 1437) rfl ?_)
  refine fp_iadd dd_Law_law_1437 (fr_pc (pc' := 1438) rfl ?_)
  refine fr_scr hS dd_Law_law_1438 (fun x3 => fr_pc (pc' := 1439) rfl ?_)
  refine fr_callV (stk := [.int x2]) (As := [.int x3]) cl_11 (ok_Mo_back m x3) mt_Mo_back rfl rfl sw_1248 sw_1249 sw_1250 (by decide) (Nat.le_of_ble_eq_true rfl) dd_Law_law_1439 (fun x4 => fr_to (pc' := 1442) (env' := [some (.double 60), some (sf_rv x), some (sf_rv m), some (.int i)]) (stk' := [.int x4, .int x2]) rfl rfl rfl ?_)
  refine fr_icmp_eq (tgt := 1483) dd_Law_law_1442 rfl (fun _ => ?_) (fun _ => ?_)
  · refine fr_niinc (i := 3) (x := i) (w := (6 : Int32)) dd_Law_law_1483 rfl (by decide) (Nat.le_of_ble_eq_true rfl) (fun _ => c1_r rfl) (fun y6 => fr_to (pc' := 1486) (env' := [some (.double 60), some (sf_rv x), some (sf_rv m), some (.int y6)]) (stk' := []) rfl rfl rfl ?_)
    refine fp_goto (tgt := 18) dd_Law_law_1486 rfl ?_
    exact fr_ret rfl
  · refine fr_pc (pc' := 1445) rfl ?_
    refine fp_iconst (v := (0 : Int32)) dd_Law_law_1445 (by decide) (fr_pc (pc' := 1446) rfl ?_)
    exact fr_zret0 (v := (0 : Int32)) (Or.inl rfl) rfl rfl dd_Law_law_1446
def jl_40 (L : Nat) (xs : Nat → Int32) (i : Int32) (x m : Option Nat) : sf_M ((Int32) ⊕ (Int32 ⊕ (Unit))) :=
  sf_bnd (sf_scr L xs (i + (1 : Int32))) fun x1 =>
  sf_bnd (sf_rc 0 x (jx_SF_count x x1)) fun x2 =>
  sf_bnd (sf_scr L xs (i + (1 : Int32))) fun x3 =>
  sf_bnd (sf_rc 11 m (jx_Mo_count m x3)) fun x4 =>
  if x2 = x4 then (
  sf_bnd (sf_ret (i + (6 : Int32))) fun y6 =>
  sf_ret (.inl y6)
  ) else (
  sf_ret (.inr (.inl (0 : Int32)))
  )
set_option maxRecDepth 20000 in
set_option maxHeartbeats 4000000 in
theorem fl_40 (X : sf_X) (L : Nat) (xs : Nat → Int32) (hS : sf_Scr X L xs) (i : Int32) (x m : Option Nat) : sf_Fr X sf_ZL (sf_p 1447 [some (.double 60), some (sf_rv x), some (sf_rv m), some (.int i)] []) (jl_40 L xs i x m) (fun r => match r with
  | .inl b => sf_p 18 [some (.double 60), some (sf_rv x), some (sf_rv m), some (.int b)] []
  | .inr g => match g with
    | .inl a => .inr (some (.int a))
    | .inr _ => sf_p 1489 [some (.double 60), some (sf_rv x), some (sf_rv m), none] []) := by
  unfold jl_40
  refine fp_aload_n (i := 1) (r := x) dd_Law_law_1447 rfl rfl (fr_pc (pc' := 1448) rfl ?_)
  refine fp_aload_nd (i := 0) (x := 60) dd_Law_law_1448 rfl rfl (fr_pc (pc' := 1449) rfl ?_)
  refine fp_iload_n (i := 3) (x := i) dd_Law_law_1449 rfl rfl (fr_pc (pc' := 1450) rfl ?_)
  refine fp_iconst (v := (1 : Int32)) dd_Law_law_1450 (by decide) (fr_pc (pc' := 1451) rfl ?_)
  refine fp_iadd dd_Law_law_1451 (fr_pc (pc' := 1452) rfl ?_)
  refine fr_scr hS dd_Law_law_1452 (fun x1 => fr_pc (pc' := 1453) rfl ?_)
  refine fr_callV (stk := []) (As := [.int x1]) cl_0 (ok_SF_count x x1) mt_SF_count rfl rfl sw_1056 sw_1057 sw_1058 (by decide) (Nat.le_of_ble_eq_true rfl) dd_Law_law_1453 (fun x2 => fr_to (pc' := 1456) (env' := [some (.double 60), some (sf_rv x), some (sf_rv m), some (.int i)]) (stk' := [.int x2]) rfl rfl rfl ?_)
  refine fp_aload_n (i := 2) (r := m) dd_Law_law_1456 rfl rfl (fr_pc (pc' := 1457) rfl ?_)
  refine fp_aload_nd (i := 0) (x := 60) dd_Law_law_1457 rfl rfl (fr_pc (pc' := 1458) rfl ?_)
  refine fp_iload_n (i := 3) (x := i) dd_Law_law_1458 rfl rfl (fr_pc (pc' := 1459) rfl ?_)
  refine fp_iconst (v := (1 : Int32)) dd_Law_law_1459 (by decide) (fr_pc (pc' := 1460) rfl ?_)
  refine fp_iadd dd_Law_law_1460 (fr_pc (pc' := 1461) rfl ?_)
  refine fr_scr hS dd_Law_law_1461 (fun x3 => fr_pc (pc' := 1462) rfl ?_)
  refine fr_callV (stk := [.int x2]) (As := [.int x3]) cl_11 (ok_Mo_count m x3) mt_Mo_count rfl rfl sw_1788 sw_1789 sw_1790 (by decide) (Nat.le_of_ble_eq_true rfl) dd_Law_law_1462 (fun x4 => fr_to (pc' := 1465) (env' := [some (.double 60), some (sf_rv x), some (sf_rv m), some (.int i)]) (stk' := [.int x4, .int x2]) rfl rfl rfl ?_)
  refine fr_icmp_eq (tgt := 1483) dd_Law_law_1465 rfl (fun _ => ?_) (fun _ => ?_)
  · refine fr_niinc (i := 3) (x := i) (w := (6 : Int32)) dd_Law_law_1483 rfl (by decide) (Nat.le_of_ble_eq_true rfl) (fun _ => c1_r rfl) (fun y6 => fr_to (pc' := 1486) (env' := [some (.double 60), some (sf_rv x), some (sf_rv m), some (.int y6)]) (stk' := []) rfl rfl rfl ?_)
    refine fp_goto (tgt := 18) dd_Law_law_1486 rfl ?_
    exact fr_ret rfl
  · refine fr_pc (pc' := 1468) rfl ?_
    refine fp_iconst (v := (0 : Int32)) dd_Law_law_1468 (by decide) (fr_pc (pc' := 1469) rfl ?_)
    exact fr_zret0 (v := (0 : Int32)) (Or.inl rfl) rfl rfl dd_Law_law_1469
def jl_41 (L : Nat) (xs : Nat → Int32) (i : Int32) (x m : Option Nat) : sf_M ((Int32) ⊕ (Int32 ⊕ (Unit))) :=
  sf_bnd (sf_rc 0 x (jx_SF_status x)) fun x1 =>
  sf_bnd (sf_rc 11 m (jx_Mo_status m)) fun x2 =>
  if x1 = x2 then (
  sf_bnd (sf_ret (i + (6 : Int32))) fun y4 =>
  sf_ret (.inl y4)
  ) else (
  sf_ret (.inr (.inl (0 : Int32)))
  )
set_option maxRecDepth 20000 in
set_option maxHeartbeats 4000000 in
theorem fl_41 (X : sf_X) (L : Nat) (xs : Nat → Int32) (hS : sf_Scr X L xs) (i : Int32) (x m : Option Nat) : sf_Fr X sf_ZL (sf_p 1470 [some (.double 60), some (sf_rv x), some (sf_rv m), some (.int i)] []) (jl_41 L xs i x m) (fun r => match r with
  | .inl b => sf_p 18 [some (.double 60), some (sf_rv x), some (sf_rv m), some (.int b)] []
  | .inr g => match g with
    | .inl a => .inr (some (.int a))
    | .inr _ => sf_p 1489 [some (.double 60), some (sf_rv x), some (sf_rv m), none] []) := by
  unfold jl_41
  refine fp_aload_n (i := 1) (r := x) dd_Law_law_1470 rfl rfl (fr_pc (pc' := 1471) rfl ?_)
  refine fr_callV (stk := []) (As := []) cl_0 (ok_SF_status x) mt_SF_status rfl rfl sw_1062 sw_1063 sw_1064 (by decide) (Nat.le_of_ble_eq_true rfl) dd_Law_law_1471 (fun x1 => fr_to (pc' := 1474) (env' := [some (.double 60), some (sf_rv x), some (sf_rv m), some (.int i)]) (stk' := [.int x1]) rfl rfl rfl ?_)
  refine fp_aload_n (i := 2) (r := m) dd_Law_law_1474 rfl rfl (fr_pc (pc' := 1475) rfl ?_)
  refine fr_callV (stk := [.int x1]) (As := []) cl_11 (ok_Mo_status m) mt_Mo_status rfl rfl sw_1792 sw_1793 sw_1794 (by decide) (Nat.le_of_ble_eq_true rfl) dd_Law_law_1475 (fun x2 => fr_to (pc' := 1478) (env' := [some (.double 60), some (sf_rv x), some (sf_rv m), some (.int i)]) (stk' := [.int x2, .int x1]) rfl rfl rfl ?_)
  refine fr_icmp_eq (tgt := 1483) dd_Law_law_1478 rfl (fun _ => ?_) (fun _ => ?_)
  · refine fr_niinc (i := 3) (x := i) (w := (6 : Int32)) dd_Law_law_1483 rfl (by decide) (Nat.le_of_ble_eq_true rfl) (fun _ => c1_r rfl) (fun y4 => fr_to (pc' := 1486) (env' := [some (.double 60), some (sf_rv x), some (sf_rv m), some (.int y4)]) (stk' := []) rfl rfl rfl ?_)
    refine fp_goto (tgt := 18) dd_Law_law_1486 rfl ?_
    exact fr_ret rfl
  · refine fr_pc (pc' := 1481) rfl ?_
    refine fp_iconst (v := (0 : Int32)) dd_Law_law_1481 (by decide) (fr_pc (pc' := 1482) rfl ?_)
    exact fr_zret0 (v := (0 : Int32)) (Or.inl rfl) rfl rfl dd_Law_law_1482
