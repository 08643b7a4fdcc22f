/-! the law: calls that ask -/
set_option maxRecDepth 100000 in
theorem zW_credit {Δ : zD} {sh0 : zSh} {i k n : Nat} {w : zW} {U : zTo} (hL : zscn Δ ≤ 3072) (hi : 6 * i + 6 ≤ zscn Δ) (hC : zKC w U) (hk : zRb w k n i) (hN : zNext Δ sh0 i) : zJ Δ mL_law room_1 false sh0 zQL zQX k n 1227 (zL4 i) [] w := by
  have hi5 : i < 512 := by omega
  obtain ⟨k1, k2, k3, k4, k5, k6, k7, k8, k9⟩ := hC.2.2.2.2
  obtain ⟨e, fr, ln, e1, e2, e3, e4, e5, e6⟩ := k4
  obtain ⟨tb, G, t1, t2, t3, t4, t5, t6, t7⟩ := k5
  have hI : zI_cr w U tb e (fun g => zits (w.2.1 162) g 8) G fr ln := ⟨t7, t2, t1, t3, t4, e1, e2, fun r hr => ⟨(e4 r hr).1, (e4 r hr).2.2⟩, fun r i hr hi => (e5 r i hr hi).1, e6, t6⟩
  obtain ⟨mc, ms, hm, hc, hrb⟩ := zroom hC.1.lg hk hi5 (zb_cr U tb (zscv Δ (6 * i + 1)))
  refine zJ_aload_n dL_law_1227 rfl ?_
  refine zJ_scr (j := 1) dL_law_1228 dL_law_1229 dL_law_1231 (by decide) dL_law_1232 dL_law_1233 rfl rfl (by omega) hL ?_
  refine zJ_aload_n dL_law_1234 rfl ?_
  refine zJ_callW (As := [.ref 0, .int (zscv Δ (6 * i + 1)), .ref 190]) (st := []) dL_law_1235 pL_170 sL_170.2.1 sL_170.2.2 mfL_credit (zL_credit (zM.typed (zna_cr hC hI (zscv Δ (6 * i + 1)) mc ms hm)) hC.s0 hC.2.2.2.1.1 hC.2.2.2.1.2 (zqRi rfl) zqX2) rfl (zL4_ok hC.s0 hC.s100 hC.2.2.2.1.1) (Nat.le_of_ble_eq_true rfl) (by decide) hc (fun r d hq => ?_)
  obtain ⟨kv, rfl, hco, hhi, hlw, hres⟩ := zq2i hq
  refine zJ_istore (ls2 := fun y => (5, .int y) :: zL4 i) dL_law_1238 (by decide) (fun _ => rfl) (fun y ey => ?_)
  subst ey
  refine zJ_aload_n dL_law_1240 rfl ?_
  refine zJ_scr (j := 1) dL_law_1241 dL_law_1242 dL_law_1244 (by decide) dL_law_1245 dL_law_1246 rfl rfl (by omega) hL ?_
  have r62 : d.2.1 162 = w.2.1 162 := funext fun j => (hhi.2 162 j (by decide)).1
  have r63 : d.2.1 163 = w.2.1 163 := funext fun j => (hhi.2 163 j (by decide)).1
  have hNB := znb_cr (Δ := Δ) hco t3 (by rw [r62, r63]; exact t5) e1 ((hhi.2 100 56 (by decide)).1.trans e3) (fun r hr => ⟨(hhi.2 159 r (by decide)).1.trans (e4 r hr).2.1, (e4 r hr).2.2⟩) (fun r i hr hi => ⟨(hhi.2 158 _ (by decide)).1.trans (e5 r i hr hi).2.1, (e5 r i hr hi).2.2⟩) e6 (zscv Δ (6 * i + 1))
  rw [r62] at hNB
  refine zJ_eV1 dL_law_1247 sL_172 mfX9_credit (zM.typed (hNB)) hco.s100 rfl (Nat.le_of_ble_eq_true rfl) (by decide) hc (fun r2 c hq2 => ?_)
  obtain ⟨hty, hq3⟩ := hq2
  obtain ⟨b, rfl⟩ := hty.1 (Or.inl rfl)
  obtain ⟨hth, hval⟩ := zqBi (zex_cr (fun g => zits (w.2.1 162) g 8) (zog U G fr ln) e (zscv Δ (6 * i + 1))) hres hq3
  exact zLtI hN hq3.1 ((hrb d hlw).eq hq3.2.1.1) hc hth hval dL_law_1250 dL_law_1252 dL_law_1253 dL_law_1256 dL_law_1258 dL_law_1263 dL_law_1265 dL_law_1268 dL_law_1269 dL_law_1270 dL_law_1271 dL_law_1273 dL_law_1274 dL_law_1275 dL_law_1280 (by decide)
set_option maxRecDepth 100000 in
theorem zW_count {Δ : zD} {sh0 : zSh} {i k n : Nat} {w : zW} {U : zTo} (hL : zscn Δ ≤ 3072) (hi : 6 * i + 6 ≤ zscn Δ) (hC : zKC w U) (hk : zRb w k n i) (hN : zNext Δ sh0 i) : zJ Δ mL_law room_1 false sh0 zQL zQX k n 322 (zL4 i) [] w := by
  have hi5 : i < 512 := by omega
  obtain ⟨k1, k2, k3, k4, k5, k6, k7, k8, k9⟩ := hC.2.2.2.2
  obtain ⟨hc, hrb⟩ := zroom0 hC.1.lg hk hi5 (mc := 10) (ms := 60) (by decide)
  refine zJ_aload_n dL_law_322 rfl ?_
  refine zJ_scr (j := 1) dL_law_323 dL_law_324 dL_law_326 (by decide) dL_law_327 dL_law_328 rfl rfl (by omega) hL ?_
  refine zJ_aload_n dL_law_329 rfl ?_
  refine zJ_callW (As := [.ref 0, .int (zscv Δ (6 * i + 1)), .ref 190]) (st := []) dL_law_330 pL_119 sL_119.2.1 sL_119.2.2 mfL_count (zL_count (zM.typed (zna_co hC (zscv Δ (6 * i + 1)))) hC.s0 hC.2.2.2.1.1 hC.2.2.2.1.2 (zqRi rfl) zqX1) rfl (zL4_ok hC.s0 hC.s100 hC.2.2.2.1.1) (Nat.le_of_ble_eq_true rfl) (by decide) hc (fun r d hq => ?_)
  obtain ⟨kv, rfl, hco, hhi, hlw, hres⟩ := zq1i hq
  refine zJ_istore (ls2 := fun y => (5, .int y) :: zL4 i) dL_law_333 (by decide) (fun _ => rfl) (fun y ey => ?_)
  subst ey
  refine zJ_aload_n dL_law_335 rfl ?_
  refine zJ_scr (j := 1) dL_law_336 dL_law_337 dL_law_339 (by decide) dL_law_340 dL_law_341 rfl rfl (by omega) hL ?_
  refine zJ_eV1 dL_law_342 sL_121 mfX9_count (zM.typed (znb_co hC hco hhi (zscv Δ (6 * i + 1)))) hco.s100 rfl (Nat.le_of_ble_eq_true rfl) (by decide) hc (fun r2 c hq2 => ?_)
  obtain ⟨hty, hq3⟩ := hq2
  obtain ⟨b, rfl⟩ := hty.1 (Or.inl rfl)
  obtain ⟨hth, hval⟩ := zqBi (zex_co (zscv Δ (6 * i + 1))) hres hq3
  exact zLtI hN hq3.1 ((hrb d hlw).eq hq3.2.1.1) hc hth hval dL_law_345 dL_law_347 dL_law_348 dL_law_351 dL_law_353 dL_law_358 dL_law_360 dL_law_363 dL_law_364 dL_law_365 dL_law_366 dL_law_368 dL_law_369 dL_law_370 dL_law_375 (by decide)
set_option maxRecDepth 100000 in
theorem zW_person {Δ : zD} {sh0 : zSh} {i k n : Nat} {w : zW} {U : zTo} (hL : zscn Δ ≤ 3072) (hi : 6 * i + 6 ≤ zscn Δ) (hC : zKC w U) (hk : zRb w k n i) (hN : zNext Δ sh0 i) : zJ Δ mL_law room_1 false sh0 zQL zQX k n 378 (zL4 i) [] w := by
  have hi5 : i < 512 := by omega
  obtain ⟨k1, k2, k3, k4, k5, k6, k7, k8, k9⟩ := hC.2.2.2.2
  obtain ⟨hc, hrb⟩ := zroom0 hC.1.lg hk hi5 (mc := 10) (ms := 60) (by decide)
  refine zJ_aload_n dL_law_378 rfl ?_
  refine zJ_scr (j := 1) dL_law_379 dL_law_380 dL_law_382 (by decide) dL_law_383 dL_law_384 rfl rfl (by omega) hL ?_
  refine zJ_scr (j := 2) dL_law_385 dL_law_386 dL_law_388 (by decide) dL_law_389 dL_law_390 rfl rfl (by omega) hL ?_
  refine zJ_aload_n dL_law_391 rfl ?_
  refine zJ_callW (As := [.ref 0, .int (zscv Δ (6 * i + 1)), .int (zscv Δ (6 * i + 2)), .ref 190]) (st := []) dL_law_392 pL_122 sL_122.2.1 sL_122.2.2 mfL_person (zL_person (zM.typed (zna_pe hC (zscv Δ (6 * i + 1)) (zscv Δ (6 * i + 2)))) hC.s0 hC.2.2.2.1.1 hC.2.2.2.1.2 (zqRi rfl) zqX1) rfl (zL4_ok hC.s0 hC.s100 hC.2.2.2.1.1) (Nat.le_of_ble_eq_true rfl) (by decide) hc (fun r d hq => ?_)
  obtain ⟨kv, rfl, hco, hhi, hlw, hres⟩ := zq1i hq
  refine zJ_istore (ls2 := fun y => (5, .int y) :: zL4 i) dL_law_395 (by decide) (fun _ => rfl) (fun y ey => ?_)
  subst ey
  refine zJ_aload_n dL_law_397 rfl ?_
  refine zJ_scr (j := 1) dL_law_398 dL_law_399 dL_law_401 (by decide) dL_law_402 dL_law_403 rfl rfl (by omega) hL ?_
  refine zJ_scr (j := 2) dL_law_404 dL_law_405 dL_law_407 (by decide) dL_law_408 dL_law_409 rfl rfl (by omega) hL ?_
  refine zJ_eV2 dL_law_410 sL_125 mfX9_person (zM.typed (znb_pe hco (zscv Δ (6 * i + 1)) (zscv Δ (6 * i + 2)))) hco.s100 rfl (Nat.le_of_ble_eq_true rfl) (by decide) hc (fun r2 c hq2 => ?_)
  obtain ⟨hty, hq3⟩ := hq2
  obtain ⟨b, rfl⟩ := hty.1 (Or.inl rfl)
  obtain ⟨hth, hval⟩ := zqBi (zex_pe hC.tok (zscv Δ (6 * i + 1)) (zscv Δ (6 * i + 2))) hres hq3
  exact zLtI hN hq3.1 ((hrb d hlw).eq hq3.2.1.1) hc hth hval dL_law_413 dL_law_415 dL_law_416 dL_law_419 dL_law_421 dL_law_426 dL_law_428 dL_law_431 dL_law_432 dL_law_433 dL_law_434 dL_law_436 dL_law_437 dL_law_438 dL_law_443 (by decide)
set_option maxRecDepth 100000 in
theorem zW_weight {Δ : zD} {sh0 : zSh} {i k n : Nat} {w : zW} {U : zTo} (hL : zscn Δ ≤ 3072) (hi : 6 * i + 6 ≤ zscn Δ) (hC : zKC w U) (hk : zRb w k n i) (hN : zNext Δ sh0 i) : zJ Δ mL_law room_1 false sh0 zQL zQX k n 446 (zL4 i) [] w := by
  have hi5 : i < 512 := by omega
  obtain ⟨k1, k2, k3, k4, k5, k6, k7, k8, k9⟩ := hC.2.2.2.2
  obtain ⟨hc, hrb⟩ := zroom0 hC.1.lg hk hi5 (mc := 10) (ms := 60) (by decide)
  refine zJ_aload_n dL_law_446 rfl ?_
  refine zJ_scr (j := 1) dL_law_447 dL_law_448 dL_law_450 (by decide) dL_law_451 dL_law_452 rfl rfl (by omega) hL ?_
  refine zJ_scr (j := 2) dL_law_453 dL_law_454 dL_law_456 (by decide) dL_law_457 dL_law_458 rfl rfl (by omega) hL ?_
  refine zJ_aload_n dL_law_459 rfl ?_
  refine zJ_callW (As := [.ref 0, .int (zscv Δ (6 * i + 1)), .int (zscv Δ (6 * i + 2)), .ref 190]) (st := []) dL_law_460 pL_126 sL_126.2.1 sL_126.2.2 mfL_weight (zL_weight (zM.typed (zna_we hC (zscv Δ (6 * i + 1)) (zscv Δ (6 * i + 2)))) hC.s0 hC.2.2.2.1.1 hC.2.2.2.1.2 (zqRi rfl) zqX1) rfl (zL4_ok hC.s0 hC.s100 hC.2.2.2.1.1) (Nat.le_of_ble_eq_true rfl) (by decide) hc (fun r d hq => ?_)
  obtain ⟨kv, rfl, hco, hhi, hlw, hres⟩ := zq1i hq
  refine zJ_istore (ls2 := fun y => (5, .int y) :: zL4 i) dL_law_463 (by decide) (fun _ => rfl) (fun y ey => ?_)
  subst ey
  refine zJ_aload_n dL_law_465 rfl ?_
  refine zJ_scr (j := 1) dL_law_466 dL_law_467 dL_law_469 (by decide) dL_law_470 dL_law_471 rfl rfl (by omega) hL ?_
  refine zJ_scr (j := 2) dL_law_472 dL_law_473 dL_law_475 (by decide) dL_law_476 dL_law_477 rfl rfl (by omega) hL ?_
  refine zJ_eV2 dL_law_478 sL_128 mfX9_weight (zM.typed (znb_we hco (zscv Δ (6 * i + 1)) (zscv Δ (6 * i + 2)))) hco.s100 rfl (Nat.le_of_ble_eq_true rfl) (by decide) hc (fun r2 c hq2 => ?_)
  obtain ⟨hty, hq3⟩ := hq2
  obtain ⟨b, rfl⟩ := hty.1 (Or.inl rfl)
  obtain ⟨hth, hval⟩ := zqBi (zex_we hC.tok (zscv Δ (6 * i + 1)) (zscv Δ (6 * i + 2))) hres hq3
  exact zLtI hN hq3.1 ((hrb d hlw).eq hq3.2.1.1) hc hth hval dL_law_481 dL_law_483 dL_law_484 dL_law_487 dL_law_489 dL_law_494 dL_law_496 dL_law_499 dL_law_500 dL_law_501 dL_law_502 dL_law_504 dL_law_505 dL_law_506 dL_law_511 (by decide)
set_option maxRecDepth 100000 in
theorem zW_chained {Δ : zD} {sh0 : zSh} {i k n : Nat} {w : zW} {U : zTo} (hL : zscn Δ ≤ 3072) (hi : 6 * i + 6 ≤ zscn Δ) (hC : zKC w U) (hk : zRb w k n i) (hN : zNext Δ sh0 i) : zJ Δ mL_law room_1 false sh0 zQL zQX k n 1339 (zL4 i) [] w := by
  have hi5 : i < 512 := by omega
  obtain ⟨k1, k2, k3, k4, k5, k6, k7, k8, k9⟩ := hC.2.2.2.2
  obtain ⟨cd, ln, l1, l2, l3, l4, l5, l6⟩ := k7
  obtain ⟨hc, hrb⟩ := zroom0 hC.1.lg hk hi5 (mc := 10) (ms := 60) (by decide)
  refine zJ_aload_n dL_law_1339 rfl ?_
  refine zJ_scr (j := 1) dL_law_1340 dL_law_1341 dL_law_1343 (by decide) dL_law_1344 dL_law_1345 rfl rfl (by omega) hL ?_
  refine zJ_aload_n dL_law_1346 rfl ?_
  refine zJ_callW (As := [.ref 0, .int (zscv Δ (6 * i + 1)), .ref 190]) (st := []) dL_law_1347 pL_176 sL_176.2.1 sL_176.2.2 mfL_chained (zL_chained (zM.typed (zna_cd hC l1 l2 l3 l4 (zscv Δ (6 * i + 1)))) hC.s0 hC.2.2.2.1.1 hC.2.2.2.1.2 (zqRi rfl) zqX1) rfl (zL4_ok hC.s0 hC.s100 hC.2.2.2.1.1) (Nat.le_of_ble_eq_true rfl) (by decide) hc (fun r d hq => ?_)
  obtain ⟨kv, rfl, hco, hhi, hlw, hres⟩ := zq1i hq
  refine zJ_istore (ls2 := fun y => (5, .int y) :: zL4 i) dL_law_1350 (by decide) (fun _ => rfl) (fun y ey => ?_)
  subst ey
  refine zJ_aload_n dL_law_1352 rfl ?_
  refine zJ_scr (j := 1) dL_law_1353 dL_law_1354 dL_law_1356 (by decide) dL_law_1357 dL_law_1358 rfl rfl (by omega) hL ?_
  refine zJ_eV1 dL_law_1359 sL_178 mfX9_chained (zM.typed (znb_cd hco l1 ((hhi.2 100 66 (by decide)).1.trans l5) (fun i hi => (hhi.2 167 i (by decide)).1.trans (l6 i hi)) (zscv Δ (6 * i + 1)))) hco.s100 rfl (Nat.le_of_ble_eq_true rfl) (by decide) hc (fun r2 c hq2 => ?_)
  obtain ⟨hty, hq3⟩ := hq2
  obtain ⟨b, rfl⟩ := hty.1 (Or.inl rfl)
  obtain ⟨hth, hval⟩ := zqBi (zex_cd l1 (zscv Δ (6 * i + 1))) hres hq3
  exact zLtI hN hq3.1 ((hrb d hlw).eq hq3.2.1.1) hc hth hval dL_law_1362 dL_law_1364 dL_law_1365 dL_law_1368 dL_law_1370 dL_law_1375 dL_law_1377 dL_law_1380 dL_law_1381 dL_law_1382 dL_law_1383 dL_law_1385 dL_law_1386 dL_law_1387 dL_law_1392 (by decide)
set_option maxRecDepth 100000 in
theorem zW_thieves {Δ : zD} {sh0 : zSh} {i k n : Nat} {w : zW} {U : zTo} (hL : zscn Δ ≤ 3072) (hi : 6 * i + 6 ≤ zscn Δ) (hC : zKC w U) (hk : zRb w k n i) (hN : zNext Δ sh0 i) : zJ Δ mL_law room_1 false sh0 zQL zQX k n 1586 (zL4 i) [] w := by
  have hi5 : i < 512 := by omega
  obtain ⟨k1, k2, k3, k4, k5, k6, k7, k8, k9⟩ := hC.2.2.2.2
  obtain ⟨nn, thr, few, q1, q2, q3, q4, q5⟩ := k6
  obtain ⟨hc, hrb⟩ := zroom0 hC.1.lg hk hi5 (mc := 10) (ms := 60) (by decide)
  refine zJ_aload_n dL_law_1586 rfl ?_
  refine zJ_scr (j := 1) dL_law_1587 dL_law_1588 dL_law_1590 (by decide) dL_law_1591 dL_law_1592 rfl rfl (by omega) hL ?_
  refine zJ_aload_n dL_law_1593 rfl ?_
  refine zJ_callW (As := [.ref 0, .int (zscv Δ (6 * i + 1)), .ref 190]) (st := []) dL_law_1594 pL_188 sL_188.2.1 sL_188.2.2 mfL_thieves (zL_thieves (zM.typed (zna_th hC q1 q2 (fun k hk => (q4 k hk).1) (fun k hk => ⟨(q5 k hk).1.1, (q5 k hk).2⟩) (zscv Δ (6 * i + 1)))) hC.s0 hC.2.2.2.1.1 hC.2.2.2.1.2 (zqRi rfl) zqX1) rfl (zL4_ok hC.s0 hC.s100 hC.2.2.2.1.1) (Nat.le_of_ble_eq_true rfl) (by decide) hc (fun r d hq => ?_)
  obtain ⟨kv, rfl, hco, hhi, hlw, hres⟩ := zq1i hq
  refine zJ_istore (ls2 := fun y => (5, .int y) :: zL4 i) dL_law_1597 (by decide) (fun _ => rfl) (fun y ey => ?_)
  subst ey
  refine zJ_aload_n dL_law_1599 rfl ?_
  refine zJ_scr (j := 1) dL_law_1600 dL_law_1601 dL_law_1603 (by decide) dL_law_1604 dL_law_1605 rfl rfl (by omega) hL ?_
  refine zJ_eV1 dL_law_1606 sL_190 mfX9_thieves (zM.typed (znb_th hco q1 ((hhi.2 100 71 (by decide)).1.trans q3) (fun k hk => (hhi.2 172 k (by decide)).1.trans (q4 k hk).2) (fun k hk => ⟨(hhi.2 173 k (by decide)).1.trans (q5 k hk).1.2, (q5 k hk).2⟩) (zscv Δ (6 * i + 1)))) hco.s100 rfl (Nat.le_of_ble_eq_true rfl) (by decide) hc (fun r2 c hq2 => ?_)
  obtain ⟨hty, hq3⟩ := hq2
  obtain ⟨b, rfl⟩ := hty.1 (Or.inl rfl)
  obtain ⟨hth, hval⟩ := zqBi (zex_th (zscv Δ (6 * i + 1))) hres hq3
  exact zLtI hN hq3.1 ((hrb d hlw).eq hq3.2.1.1) hc hth hval dL_law_1609 dL_law_1611 dL_law_1612 dL_law_1615 dL_law_1617 dL_law_1622 dL_law_1624 dL_law_1627 dL_law_1628 dL_law_1629 dL_law_1630 dL_law_1632 dL_law_1633 dL_law_1634 dL_law_1639 (by decide)
set_option maxRecDepth 100000 in
theorem zW_luck {Δ : zD} {sh0 : zSh} {i k n : Nat} {w : zW} {U : zTo} (hL : zscn Δ ≤ 3072) (hi : 6 * i + 6 ≤ zscn Δ) (hC : zKC w U) (hk : zRb w k n i) (hN : zNext Δ sh0 i) : zJ Δ mL_law room_1 false sh0 zQL zQX k n 1642 (zL4 i) [] w := by
  have hi5 : i < 512 := by omega
  obtain ⟨k1, k2, k3, k4, k5, k6, k7, k8, k9⟩ := hC.2.2.2.2
  obtain ⟨hc, hrb⟩ := zroom0 hC.1.lg hk hi5 (mc := 10) (ms := 60) (by decide)
  refine zJ_aload_n dL_law_1642 rfl ?_
  refine zJ_scr (j := 1) dL_law_1643 dL_law_1644 dL_law_1646 (by decide) dL_law_1647 dL_law_1648 rfl rfl (by omega) hL ?_
  refine zJ_scr (j := 2) dL_law_1649 dL_law_1650 dL_law_1652 (by decide) dL_law_1653 dL_law_1654 rfl rfl (by omega) hL ?_
  refine zJ_scr (j := 3) dL_law_1655 dL_law_1656 dL_law_1658 (by decide) dL_law_1659 dL_law_1660 rfl rfl (by omega) hL ?_
  refine zJ_aload_n dL_law_1661 rfl ?_
  refine zJ_callW (As := [.ref 0, .int (zscv Δ (6 * i + 1)), .int (zscv Δ (6 * i + 2)), .int (zscv Δ (6 * i + 3)), .ref 190]) (st := []) dL_law_1662 pL_191 sL_191.2.1 sL_191.2.2 mfL_luck (zL_luck (zM.typed (zna_lu hC (zscv Δ (6 * i + 1)) (zscv Δ (6 * i + 2)) (zscv Δ (6 * i + 3)))) hC.s0 hC.2.2.2.1.1 hC.2.2.2.1.2 (zqRi rfl) zqX1) rfl (zL4_ok hC.s0 hC.s100 hC.2.2.2.1.1) (Nat.le_of_ble_eq_true rfl) (by decide) hc (fun r d hq => ?_)
  obtain ⟨kv, rfl, hco, hhi, hlw, hres⟩ := zq1i hq
  refine zJ_istore (ls2 := fun y => (5, .int y) :: zL4 i) dL_law_1665 (by decide) (fun _ => rfl) (fun y ey => ?_)
  subst ey
  refine zJ_aload_n dL_law_1667 rfl ?_
  refine zJ_scr (j := 1) dL_law_1668 dL_law_1669 dL_law_1671 (by decide) dL_law_1672 dL_law_1673 rfl rfl (by omega) hL ?_
  refine zJ_scr (j := 2) dL_law_1674 dL_law_1675 dL_law_1677 (by decide) dL_law_1678 dL_law_1679 rfl rfl (by omega) hL ?_
  refine zJ_scr (j := 3) dL_law_1680 dL_law_1681 dL_law_1683 (by decide) dL_law_1684 dL_law_1685 rfl rfl (by omega) hL ?_
  refine zJ_eV3 dL_law_1686 sL_194 mfX9_luck (zM.typed (znb_lu hco (zscv Δ (6 * i + 1)) (zscv Δ (6 * i + 2)) (zscv Δ (6 * i + 3)))) hco.s100 rfl (Nat.le_of_ble_eq_true rfl) (by decide) hc (fun r2 c hq2 => ?_)
  obtain ⟨hty, hq3⟩ := hq2
  obtain ⟨b, rfl⟩ := hty.1 (Or.inl rfl)
  obtain ⟨hth, hval⟩ := zqBi (zex_lu (zscv Δ (6 * i + 1)) (zscv Δ (6 * i + 2)) (zscv Δ (6 * i + 3))) hres hq3
  exact zLtI hN hq3.1 ((hrb d hlw).eq hq3.2.1.1) hc hth hval dL_law_1689 dL_law_1691 dL_law_1692 dL_law_1695 dL_law_1697 dL_law_1702 dL_law_1704 dL_law_1707 dL_law_1708 dL_law_1709 dL_law_1710 dL_law_1712 dL_law_1713 dL_law_1714 dL_law_1719 (by decide)
set_option maxRecDepth 100000 in
theorem zW_week {Δ : zD} {sh0 : zSh} {i k n : Nat} {w : zW} {U : zTo} (hL : zscn Δ ≤ 3072) (hi : 6 * i + 6 ≤ zscn Δ) (hC : zKC w U) (hk : zRb w k n i) (hN : zNext Δ sh0 i) : zJ Δ mL_law room_1 false sh0 zQL zQX k n 1826 (zL4 i) [] w := by
  have hi5 : i < 512 := by omega
  obtain ⟨k1, k2, k3, k4, k5, k6, k7, k8, k9⟩ := hC.2.2.2.2
  obtain ⟨bg, wo, nn, S, hw⟩ := k8.get
  have hn : nn ≤ 100 := by
    rcases hw with h | h
    · exact h.2.1.2.2.2.2.2.1
    · rw [h.2.1]; exact Nat.zero_le _
  obtain ⟨hc, hrb⟩ := zroom0 hC.1.lg hk hi5 (mc := 10) (ms := 60) (by decide)
  refine zJ_aload_n dL_law_1826 rfl ?_
  refine zJ_scr (j := 1) dL_law_1827 dL_law_1828 dL_law_1830 (by decide) dL_law_1831 dL_law_1832 rfl rfl (by omega) hL ?_
  refine zJ_scr (j := 2) dL_law_1833 dL_law_1834 dL_law_1836 (by decide) dL_law_1837 dL_law_1838 rfl rfl (by omega) hL ?_
  refine zJ_aload_n dL_law_1839 rfl ?_
  refine zJ_callW (As := [.ref 0, .int (zscv Δ (6 * i + 1)), .int (zscv Δ (6 * i + 2)), .ref 190]) (st := []) dL_law_1840 pL_202 sL_202.2.1 sL_202.2.2 mfL_week (zL_week (zM.typed (zna_wk hC (hw.imp (fun h => ⟨h.1, h.2.1⟩) (fun h => ⟨h.1, h.2.1, h.2.2.2.1⟩)) (zscv Δ (6 * i + 1)) (zscv Δ (6 * i + 2)))) hC.s0 hC.2.2.2.1.1 hC.2.2.2.1.2 (zqRi rfl) zqX1) rfl (zL4_ok hC.s0 hC.s100 hC.2.2.2.1.1) (Nat.le_of_ble_eq_true rfl) (by decide) hc (fun r d hq => ?_)
  obtain ⟨kv, rfl, hco, hhi, hlw, hres⟩ := zq1i hq
  refine zJ_istore (ls2 := fun y => (5, .int y) :: zL4 i) dL_law_1843 (by decide) (fun _ => rfl) (fun y ey => ?_)
  subst ey
  refine zJ_aload_n dL_law_1845 rfl ?_
  refine zJ_scr (j := 1) dL_law_1846 dL_law_1847 dL_law_1849 (by decide) dL_law_1850 dL_law_1851 rfl rfl (by omega) hL ?_
  refine zJ_scr (j := 2) dL_law_1852 dL_law_1853 dL_law_1855 (by decide) dL_law_1856 dL_law_1857 rfl rfl (by omega) hL ?_
  have hb9 : (bg ∧ d.2.1 100 76 = 1 ∧ zMwk d U wo nn S) ∨ (¬ bg ∧ d.2.1 100 76 = 0) := hw.imp (fun h => ⟨h.1, (hhi.2 100 76 (by decide)).1.trans h.2.2.1, h.2.2.2.1.ob (fun a j x y => (hhi.2 a j (by omega)).1)⟩) (fun h => ⟨h.1, (hhi.2 100 76 (by decide)).1.trans h.2.2.2.2⟩)
  refine zJ_eV2 dL_law_1858 sL_204 mfX9_week (zM.typed (znb_wk hco hn hb9 (zscv Δ (6 * i + 1)) (zscv Δ (6 * i + 2)))) hco.s100 rfl (Nat.le_of_ble_eq_true rfl) (by decide) hc (fun r2 c hq2 => ?_)
  obtain ⟨hty, hq3⟩ := hq2
  obtain ⟨b, rfl⟩ := hty.1 (Or.inl rfl)
  obtain ⟨hth, hval⟩ := zqBi (zex_wk hn (zscv Δ (6 * i + 1)) (zscv Δ (6 * i + 2))) hres hq3
  exact zLtI hN hq3.1 ((hrb d hlw).eq hq3.2.1.1) hc hth hval dL_law_1861 dL_law_1863 dL_law_1864 dL_law_1867 dL_law_1869 dL_law_1874 dL_law_1876 dL_law_1879 dL_law_1880 dL_law_1881 dL_law_1882 dL_law_1884 dL_law_1885 dL_law_1886 dL_law_1891 (by decide)
set_option maxRecDepth 100000 in
theorem zW_odds {Δ : zD} {sh0 : zSh} {i k n : Nat} {w : zW} {U : zTo} (hL : zscn Δ ≤ 3072) (hi : 6 * i + 6 ≤ zscn Δ) (hC : zKC w U) (hk : zRb w k n i) (hN : zNext Δ sh0 i) : zJ Δ mL_law room_1 false sh0 zQL zQX k n 1071 (zL4 i) [] w := by
  have hi5 : i < 512 := by omega
  obtain ⟨k1, k2, k3, k4, k5, k6, k7, k8, k9⟩ := hC.2.2.2.2
  obtain ⟨nn, f, q1, q2, q3, q4, q5⟩ := k3
  obtain ⟨mc, ms, hm, hc, hrb⟩ := zroom hC.1.lg hk hi5 (0 < U.1 0 ∧ ¬ zfit U 640)
  refine zJ_aload_n dL_law_1071 rfl ?_
  refine zJ_aload_n dL_law_1072 rfl ?_
  refine zJ_callW (As := [.ref 0, .ref 190]) (st := []) dL_law_1073 pL_159 sL_159.2.1 sL_159.2.2 mfL_odds (zL_odds (zz := 0) (zM.typed (zna_od hC q1 q2 (fun i hi => (q4 i hi).1) q5 mc ms hm)) hC.s0 hC.2.2.2.1.1 hC.2.2.2.1.2 (zqRi rfl) zqX1) rfl (zL4_ok hC.s0 hC.s100 hC.2.2.2.1.1) (Nat.le_of_ble_eq_true rfl) (by decide) hc (fun r d hq => ?_)
  obtain ⟨kv, rfl, hco, hhi, hlw, hres⟩ := zq1i hq
  refine zJ_istore (ls2 := fun y => (5, .int y) :: zL4 i) dL_law_1076 (by decide) (fun _ => rfl) (fun y ey => ?_)
  subst ey
  refine zJ_aload_n dL_law_1078 rfl ?_
  refine zJ_eV0 dL_law_1079 sL_162 mfX9_odds (zM.typed (znb_od hco ⟨(hhi.2 100 55 (by decide)).1.trans q3, q1, fun i hi => ⟨(hhi.2 157 i (by decide)).1.trans (q4 i hi).2.1, (q4 i hi).2.2⟩⟩)) hco.s100 rfl (Nat.le_of_ble_eq_true rfl) (by decide) hc (fun r2 c hq2 => ?_)
  obtain ⟨hty, hq3⟩ := hq2
  obtain ⟨b, rfl⟩ := hty.1 (Or.inl rfl)
  obtain ⟨hth, hval⟩ := zqBi (zex_od) hres hq3
  exact zLtI hN hq3.1 ((hrb d hlw).eq hq3.2.1.1) hc hth hval dL_law_1082 dL_law_1084 dL_law_1085 dL_law_1088 dL_law_1090 dL_law_1095 dL_law_1097 dL_law_1100 dL_law_1101 dL_law_1102 dL_law_1103 dL_law_1105 dL_law_1106 dL_law_1107 dL_law_1112 (by decide)
