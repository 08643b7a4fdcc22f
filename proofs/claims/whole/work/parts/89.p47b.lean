/-! the law: calls that ask -/
set_option maxRecDepth 100000 in
theorem zW_opened {Δ : zD} {sh0 : zSh} {i k n : Nat} {w : zW} {U : zTo} (hL : zscn Δ ≤ 3072) (hi : 6 * i + 6 ≤ zscn Δ) (hC : zKC w U) (hk : zRb w k n i) (hN : zNext Δ sh0 i) : zJ Δ mL_law room_1 false sh0 zQL zQX k n 514 (zL4 i) [] w := by
  have hi5 : i < 512 := by omega
  obtain ⟨k1, k2, k3, k4, k5, k6, k7, k8, k9⟩ := hC.2.2.2.2
  obtain ⟨mc, ms, hm, hc, hrb⟩ := zroom hC.1.lg hk hi5 (zv_op U (zscv Δ (6 * i + 1)) (zscv Δ (6 * i + 2)) ∧ ¬ zfit U 640)
  refine zJ_aload_n dL_law_514 rfl ?_
  refine zJ_scr (j := 1) dL_law_515 dL_law_516 dL_law_518 (by decide) dL_law_519 dL_law_520 rfl rfl (by omega) hL ?_
  refine zJ_scr (j := 2) dL_law_521 dL_law_522 dL_law_524 (by decide) dL_law_525 dL_law_526 rfl rfl (by omega) hL ?_
  refine zJ_aload_n dL_law_527 rfl ?_
  refine zJ_callW (As := [.ref 0, .int (zscv Δ (6 * i + 1)), .int (zscv Δ (6 * i + 2)), .ref 190]) (st := []) dL_law_528 pL_129 sL_129.2.1 sL_129.2.2 mfL_opened (zL_opened (zM.typed (zna_op hC (zscv Δ (6 * i + 1)) (zscv Δ (6 * i + 2)) mc ms hm)) hC.s0 hC.2.2.2.1.1 hC.2.2.2.1.2 (zqRi rfl) zqX2) rfl (zL4_ok hC.s0 hC.s100 hC.2.2.2.1.1) (Nat.le_of_ble_eq_true rfl) (by decide) hc (fun r d hq => ?_)
  obtain ⟨kv, rfl, hco, hhi, hlw, hres⟩ := zq2i hq
  refine zJ_istore (ls2 := fun y => (5, .int y) :: zL4 i) dL_law_531 (by decide) (fun _ => rfl) (fun y ey => ?_)
  subst ey
  refine zJ_aload_n dL_law_533 rfl ?_
  refine zJ_scr (j := 1) dL_law_534 dL_law_535 dL_law_537 (by decide) dL_law_538 dL_law_539 rfl rfl (by omega) hL ?_
  refine zJ_scr (j := 2) dL_law_540 dL_law_541 dL_law_543 (by decide) dL_law_544 dL_law_545 rfl rfl (by omega) hL ?_
  refine zJ_eV2 dL_law_546 sL_131 mfX9_opened (zM.typed (znb_op hco (zscv Δ (6 * i + 1)) (zscv Δ (6 * i + 2)))) hco.s100 rfl (Nat.le_of_ble_eq_true rfl) (by decide) hc (fun r2 c hq2 => ?_)
  obtain ⟨hty, hq3⟩ := hq2
  obtain ⟨b, rfl⟩ := hty.1 (Or.inl rfl)
  obtain ⟨hth, hval⟩ := zqBi (zex_op hC.tok (zscv Δ (6 * i + 1)) (zscv Δ (6 * i + 2))) hres hq3
  exact zLtI hN hq3.1 ((hrb d hlw).eq hq3.2.1.1) hc hth hval dL_law_549 dL_law_551 dL_law_552 dL_law_555 dL_law_557 dL_law_562 dL_law_564 dL_law_567 dL_law_568 dL_law_569 dL_law_570 dL_law_572 dL_law_573 dL_law_574 dL_law_579 (by decide)
set_option maxRecDepth 100000 in
theorem zW_goes {Δ : zD} {sh0 : zSh} {i k n : Nat} {w : zW} {U : zTo} (hL : zscn Δ ≤ 3072) (hi : 6 * i + 6 ≤ zscn Δ) (hC : zKC w U) (hk : zRb w k n i) (hN : zNext Δ sh0 i) : zJ Δ mL_law room_1 false sh0 zQL zQX k n 582 (zL4 i) [] w := by
  have hi5 : i < 512 := by omega
  obtain ⟨k1, k2, k3, k4, k5, k6, k7, k8, k9⟩ := hC.2.2.2.2
  obtain ⟨mc, ms, hm, hc, hrb⟩ := zroom hC.1.lg hk hi5 (zv_go U (zscv Δ (6 * i + 1)) ∧ ¬ zfit U 640)
  refine zJ_aload_n dL_law_582 rfl ?_
  refine zJ_scr (j := 1) dL_law_583 dL_law_584 dL_law_586 (by decide) dL_law_587 dL_law_588 rfl rfl (by omega) hL ?_
  refine zJ_aload_n dL_law_589 rfl ?_
  refine zJ_callW (As := [.ref 0, .int (zscv Δ (6 * i + 1)), .ref 190]) (st := []) dL_law_590 pL_132 sL_132.2.1 sL_132.2.2 mfL_goes (zL_goes (zM.typed (zna_go hC (zscv Δ (6 * i + 1)) mc ms hm)) hC.s0 hC.2.2.2.1.1 hC.2.2.2.1.2 (zqRl rfl) zqX2) rfl (zL4_ok hC.s0 hC.s100 hC.2.2.2.1.1) (Nat.le_of_ble_eq_true rfl) (by decide) hc (fun r d hq => ?_)
  obtain ⟨kv, rfl, hco, hhi, hlw, hres⟩ := zq2l hq
  refine zJ_istore (ls2 := fun y => (5, .int y) :: zL4 i) dL_law_593 (by decide) (fun _ => rfl) (fun y ey => ?_)
  subst ey
  refine zJ_aload_n dL_law_595 rfl ?_
  refine zJ_scr (j := 1) dL_law_596 dL_law_597 dL_law_599 (by decide) dL_law_600 dL_law_601 rfl rfl (by omega) hL ?_
  refine zJ_eV1 dL_law_602 sL_134 mfX9_goes (zM.typed (znb_go hco (zscv Δ (6 * i + 1)))) hco.s100 rfl (Nat.le_of_ble_eq_true rfl) (by decide) hc (fun r2 c hq2 => ?_)
  obtain ⟨hty, hq3⟩ := hq2
  obtain ⟨b, rfl⟩ := hty.2 rfl
  obtain ⟨hth, hval⟩ := zqBl (zex_go (zscv Δ (6 * i + 1))) hres hq3
  exact zLtL hN hq3.1 ((hrb d hlw).eq hq3.2.1.1) hc hth hval dL_law_605 dL_law_607 dL_law_608 dL_law_611 dL_law_613 dL_law_618 dL_law_620 dL_law_623 dL_law_624 dL_law_625 dL_law_626 dL_law_628 dL_law_629 dL_law_634 (by decide)
set_option maxRecDepth 100000 in
theorem zW_gets {Δ : zD} {sh0 : zSh} {i k n : Nat} {w : zW} {U : zTo} (hL : zscn Δ ≤ 3072) (hi : 6 * i + 6 ≤ zscn Δ) (hC : zKC w U) (hk : zRb w k n i) (hN : zNext Δ sh0 i) : zJ Δ mL_law room_1 false sh0 zQL zQX k n 637 (zL4 i) [] w := by
  have hi5 : i < 512 := by omega
  obtain ⟨k1, k2, k3, k4, k5, k6, k7, k8, k9⟩ := hC.2.2.2.2
  obtain ⟨mc, ms, hm, hc, hrb⟩ := zroom hC.1.lg hk hi5 (zv_ge U (zscv Δ (6 * i + 1)) ∧ ¬ zfit U 640)
  refine zJ_aload_n dL_law_637 rfl ?_
  refine zJ_scr (j := 1) dL_law_638 dL_law_639 dL_law_641 (by decide) dL_law_642 dL_law_643 rfl rfl (by omega) hL ?_
  refine zJ_aload_n dL_law_644 rfl ?_
  refine zJ_callW (As := [.ref 0, .int (zscv Δ (6 * i + 1)), .ref 190]) (st := []) dL_law_645 pL_135 sL_135.2.1 sL_135.2.2 mfL_gets (zL_gets (zM.typed (zna_ge hC (zscv Δ (6 * i + 1)) mc ms hm)) hC.s0 hC.2.2.2.1.1 hC.2.2.2.1.2 (zqRl rfl) zqX2) rfl (zL4_ok hC.s0 hC.s100 hC.2.2.2.1.1) (Nat.le_of_ble_eq_true rfl) (by decide) hc (fun r d hq => ?_)
  obtain ⟨kv, rfl, hco, hhi, hlw, hres⟩ := zq2l hq
  refine zJ_istore (ls2 := fun y => (5, .int y) :: zL4 i) dL_law_648 (by decide) (fun _ => rfl) (fun y ey => ?_)
  subst ey
  refine zJ_aload_n dL_law_650 rfl ?_
  refine zJ_scr (j := 1) dL_law_651 dL_law_652 dL_law_654 (by decide) dL_law_655 dL_law_656 rfl rfl (by omega) hL ?_
  refine zJ_eV1 dL_law_657 sL_137 mfX9_gets (zM.typed (znb_ge hco (zscv Δ (6 * i + 1)))) hco.s100 rfl (Nat.le_of_ble_eq_true rfl) (by decide) hc (fun r2 c hq2 => ?_)
  obtain ⟨hty, hq3⟩ := hq2
  obtain ⟨b, rfl⟩ := hty.2 rfl
  obtain ⟨hth, hval⟩ := zqBl (zex_ge hC.tok (zscv Δ (6 * i + 1))) hres hq3
  exact zLtL hN hq3.1 ((hrb d hlw).eq hq3.2.1.1) hc hth hval dL_law_660 dL_law_662 dL_law_663 dL_law_666 dL_law_668 dL_law_673 dL_law_675 dL_law_678 dL_law_679 dL_law_680 dL_law_681 dL_law_683 dL_law_684 dL_law_689 (by decide)
set_option maxRecDepth 100000 in
theorem zW_all {Δ : zD} {sh0 : zSh} {i k n : Nat} {w : zW} {U : zTo} (hL : zscn Δ ≤ 3072) (hi : 6 * i + 6 ≤ zscn Δ) (hC : zKC w U) (hk : zRb w k n i) (hN : zNext Δ sh0 i) : zJ Δ mL_law room_1 false sh0 zQL zQX k n 692 (zL4 i) [] w := by
  have hi5 : i < 512 := by omega
  obtain ⟨k1, k2, k3, k4, k5, k6, k7, k8, k9⟩ := hC.2.2.2.2
  obtain ⟨mc, ms, hm, hc, hrb⟩ := zroom hC.1.lg hk hi5 (zv_go U (zscv Δ (6 * i + 1)) ∧ ¬ zfit (zTal U) 640)
  refine zJ_aload_n dL_law_692 rfl ?_
  refine zJ_scr (j := 1) dL_law_693 dL_law_694 dL_law_696 (by decide) dL_law_697 dL_law_698 rfl rfl (by omega) hL ?_
  refine zJ_aload_n dL_law_699 rfl ?_
  refine zJ_callW (As := [.ref 0, .int (zscv Δ (6 * i + 1)), .ref 190]) (st := []) dL_law_700 pL_138 sL_138.2.1 sL_138.2.2 mfL_all (zL_all (zM.typed (zna_al hC (zscv Δ (6 * i + 1)) mc ms hm)) hC.s0 hC.2.2.2.1.1 hC.2.2.2.1.2 (zqRi rfl) zqX2) rfl (zL4_ok hC.s0 hC.s100 hC.2.2.2.1.1) (Nat.le_of_ble_eq_true rfl) (by decide) hc (fun r d hq => ?_)
  obtain ⟨kv, rfl, hco, hhi, hlw, hres⟩ := zq2i hq
  refine zJ_istore (ls2 := fun y => (5, .int y) :: zL4 i) dL_law_703 (by decide) (fun _ => rfl) (fun y ey => ?_)
  subst ey
  refine zJ_aload_n dL_law_705 rfl ?_
  refine zJ_scr (j := 1) dL_law_706 dL_law_707 dL_law_709 (by decide) dL_law_710 dL_law_711 rfl rfl (by omega) hL ?_
  refine zJ_eV1 dL_law_712 sL_140 mfX9_all (zM.typed (znb_al hco (zscv Δ (6 * i + 1)))) hco.s100 rfl (Nat.le_of_ble_eq_true rfl) (by decide) hc (fun r2 c hq2 => ?_)
  obtain ⟨hty, hq3⟩ := hq2
  obtain ⟨b, rfl⟩ := hty.1 (Or.inl rfl)
  obtain ⟨hth, hval⟩ := zqBi (zex_al (zscv Δ (6 * i + 1))) hres hq3
  exact zLtI hN hq3.1 ((hrb d hlw).eq hq3.2.1.1) hc hth hval dL_law_715 dL_law_717 dL_law_718 dL_law_721 dL_law_723 dL_law_728 dL_law_730 dL_law_733 dL_law_734 dL_law_735 dL_law_736 dL_law_738 dL_law_739 dL_law_740 dL_law_745 (by decide)
set_option maxRecDepth 100000 in
theorem zW_feeling {Δ : zD} {sh0 : zSh} {i k n : Nat} {w : zW} {U : zTo} (hL : zscn Δ ≤ 3072) (hi : 6 * i + 6 ≤ zscn Δ) (hC : zKC w U) (hk : zRb w k n i) (hN : zNext Δ sh0 i) : zJ Δ mL_law room_1 false sh0 zQL zQX k n 1463 (zL4 i) [] w := by
  have hi5 : i < 512 := by omega
  obtain ⟨k1, k2, k3, k4, k5, k6, k7, k8, k9⟩ := hC.2.2.2.2
  obtain ⟨mc, ms, hm, hc, hrb⟩ := zroom hC.1.lg hk hi5 (zb_fe U (zscv Δ (6 * i + 1)))
  refine zJ_aload_n dL_law_1463 rfl ?_
  refine zJ_scr (j := 1) dL_law_1464 dL_law_1465 dL_law_1467 (by decide) dL_law_1468 dL_law_1469 rfl rfl (by omega) hL ?_
  refine zJ_aload_n dL_law_1470 rfl ?_
  refine zJ_callW (As := [.ref 0, .int (zscv Δ (6 * i + 1)), .ref 190]) (st := []) dL_law_1471 pL_182 sL_182.2.1 sL_182.2.2 mfL_feeling (zL_feeling (zM.typed (zna_fe hC (zscv Δ (6 * i + 1)) mc ms hm)) hC.s0 hC.2.2.2.1.1 hC.2.2.2.1.2 (zqRl rfl) zqX2) rfl (zL4_ok hC.s0 hC.s100 hC.2.2.2.1.1) (Nat.le_of_ble_eq_true rfl) (by decide) hc (fun r d hq => ?_)
  obtain ⟨kv, rfl, hco, hhi, hlw, hres⟩ := zq2l hq
  refine zJ_istore (ls2 := fun y => (5, .int y) :: zL4 i) dL_law_1474 (by decide) (fun _ => rfl) (fun y ey => ?_)
  subst ey
  refine zJ_aload_n dL_law_1476 rfl ?_
  refine zJ_scr (j := 1) dL_law_1477 dL_law_1478 dL_law_1480 (by decide) dL_law_1481 dL_law_1482 rfl rfl (by omega) hL ?_
  refine zJ_eV1 dL_law_1483 sL_184 mfX9_feeling (zM.typed (znb_fe hco (zscv Δ (6 * i + 1)))) hco.s100 rfl (Nat.le_of_ble_eq_true rfl) (by decide) hc (fun r2 c hq2 => ?_)
  obtain ⟨hty, hq3⟩ := hq2
  obtain ⟨b, rfl⟩ := hty.2 rfl
  obtain ⟨hth, hval⟩ := zqBl (zex_fe (zscv Δ (6 * i + 1))) hres hq3
  exact zLtL hN hq3.1 ((hrb d hlw).eq hq3.2.1.1) hc hth hval dL_law_1486 dL_law_1488 dL_law_1489 dL_law_1492 dL_law_1494 dL_law_1499 dL_law_1501 dL_law_1504 dL_law_1505 dL_law_1506 dL_law_1507 dL_law_1509 dL_law_1510 dL_law_1515 (by decide)
set_option maxRecDepth 100000 in
theorem zW_named {Δ : zD} {sh0 : zSh} {i k n : Nat} {w : zW} {U : zTo} (hL : zscn Δ ≤ 3072) (hi : 6 * i + 6 ≤ zscn Δ) (hC : zKC w U) (hk : zRb w k n i) (hN : zNext Δ sh0 i) : zJ Δ mL_law room_1 false sh0 zQL zQX k n 947 (zL4 i) [] w := by
  have hi5 : i < 512 := by omega
  obtain ⟨k1, k2, k3, k4, k5, k6, k7, k8, k9⟩ := hC.2.2.2.2
  obtain ⟨mc, ms, hm, hc, hrb⟩ := zroom hC.1.lg hk hi5 (zb_nm U (zscv Δ (6 * i + 1)))
  refine zJ_aload_n dL_law_947 rfl ?_
  refine zJ_scr (j := 1) dL_law_948 dL_law_949 dL_law_951 (by decide) dL_law_952 dL_law_953 rfl rfl (by omega) hL ?_
  refine zJ_aload_n dL_law_954 rfl ?_
  refine zJ_callW (As := [.ref 0, .int (zscv Δ (6 * i + 1)), .ref 190]) (st := []) dL_law_955 pL_149 sL_149.2.1 sL_149.2.2 mfL_named (zL_named (zM.typed (zna_nm hC (zscv Δ (6 * i + 1)) mc ms hm)) hC.s0 hC.2.2.2.1.1 hC.2.2.2.1.2 (zqRl rfl) zqX2) rfl (zL4_ok hC.s0 hC.s100 hC.2.2.2.1.1) (Nat.le_of_ble_eq_true rfl) (by decide) hc (fun r d hq => ?_)
  obtain ⟨kv, rfl, hco, hhi, hlw, hres⟩ := zq2l hq
  refine zJ_istore (ls2 := fun y => (5, .int y) :: zL4 i) dL_law_958 (by decide) (fun _ => rfl) (fun y ey => ?_)
  subst ey
  refine zJ_aload_n dL_law_960 rfl ?_
  refine zJ_scr (j := 1) dL_law_961 dL_law_962 dL_law_964 (by decide) dL_law_965 dL_law_966 rfl rfl (by omega) hL ?_
  refine zJ_eV1 dL_law_967 sL_151 mfX9_named (zM.typed (znb_nm hco (zscv Δ (6 * i + 1)))) hco.s100 rfl (Nat.le_of_ble_eq_true rfl) (by decide) hc (fun r2 c hq2 => ?_)
  obtain ⟨hty, hq3⟩ := hq2
  obtain ⟨b, rfl⟩ := hty.2 rfl
  obtain ⟨hth, hval⟩ := zqBl (zex_nm hC.tok (zscv Δ (6 * i + 1))) hres hq3
  exact zLtL hN hq3.1 ((hrb d hlw).eq hq3.2.1.1) hc hth hval dL_law_970 dL_law_972 dL_law_973 dL_law_976 dL_law_978 dL_law_983 dL_law_985 dL_law_988 dL_law_989 dL_law_990 dL_law_991 dL_law_993 dL_law_994 dL_law_999 (by decide)
set_option maxRecDepth 100000 in
theorem zW_one {Δ : zD} {sh0 : zSh} {i k n : Nat} {w : zW} {U : zTo} (hL : zscn Δ ≤ 3072) (hi : 6 * i + 6 ≤ zscn Δ) (hC : zKC w U) (hk : zRb w k n i) (hN : zNext Δ sh0 i) : zJ Δ mL_law room_1 false sh0 zQL zQX k n 856 (zL4 i) [] w := by
  have hi5 : i < 512 := by omega
  obtain ⟨k1, k2, k3, k4, k5, k6, k7, k8, k9⟩ := hC.2.2.2.2
  obtain ⟨mc, ms, hm, hc, hrb⟩ := zroom hC.1.lg hk hi5 (zv_on U (zscv Δ (6 * i + 1)) (zscv Δ (6 * i + 4)) ∧ zu_on (zscv Δ (6 * i + 2)) (zscv Δ (6 * i + 3)) ∧ ¬ zfit U 640)
  refine zJ_aload_n dL_law_856 rfl ?_
  refine zJ_scr (j := 1) dL_law_857 dL_law_858 dL_law_860 (by decide) dL_law_861 dL_law_862 rfl rfl (by omega) hL ?_
  refine zJ_scr (j := 2) dL_law_863 dL_law_864 dL_law_866 (by decide) dL_law_867 dL_law_868 rfl rfl (by omega) hL ?_
  refine zJ_scr (j := 3) dL_law_869 dL_law_870 dL_law_872 (by decide) dL_law_873 dL_law_874 rfl rfl (by omega) hL ?_
  refine zJ_scr (j := 4) dL_law_875 dL_law_876 dL_law_878 (by decide) dL_law_879 dL_law_880 rfl rfl (by omega) hL ?_
  refine zJ_aload_n dL_law_881 rfl ?_
  refine zJ_callW (As := [.ref 0, .int (zscv Δ (6 * i + 1)), .int (zscv Δ (6 * i + 2)), .int (zscv Δ (6 * i + 3)), .int (zscv Δ (6 * i + 4)), .ref 190]) (st := []) dL_law_882 pL_145 sL_145.2.1 sL_145.2.2 mfL_one (zL_one (zM.typed (zna_on hC (zscv Δ (6 * i + 1)) (zscv Δ (6 * i + 2)) (zscv Δ (6 * i + 3)) (zscv Δ (6 * i + 4)) mc ms hm)) hC.s0 hC.2.2.2.1.1 hC.2.2.2.1.2 (zqRl rfl) zqX2) rfl (zL4_ok hC.s0 hC.s100 hC.2.2.2.1.1) (Nat.le_of_ble_eq_true rfl) (by decide) hc (fun r d hq => ?_)
  obtain ⟨kv, rfl, hco, hhi, hlw, hres⟩ := zq2l hq
  refine zJ_istore (ls2 := fun y => (5, .int y) :: zL4 i) dL_law_885 (by decide) (fun _ => rfl) (fun y ey => ?_)
  subst ey
  refine zJ_aload_n dL_law_887 rfl ?_
  refine zJ_scr (j := 1) dL_law_888 dL_law_889 dL_law_891 (by decide) dL_law_892 dL_law_893 rfl rfl (by omega) hL ?_
  refine zJ_scr (j := 2) dL_law_894 dL_law_895 dL_law_897 (by decide) dL_law_898 dL_law_899 rfl rfl (by omega) hL ?_
  refine zJ_scr (j := 3) dL_law_900 dL_law_901 dL_law_903 (by decide) dL_law_904 dL_law_905 rfl rfl (by omega) hL ?_
  refine zJ_scr (j := 4) dL_law_906 dL_law_907 dL_law_909 (by decide) dL_law_910 dL_law_911 rfl rfl (by omega) hL ?_
  refine zJ_eV4 dL_law_912 sL_148 mfX9_one (zM.typed (znb_on hco (zscv Δ (6 * i + 1)) (zscv Δ (6 * i + 2)) (zscv Δ (6 * i + 3)) (zscv Δ (6 * i + 4)))) hco.s100 rfl (Nat.le_of_ble_eq_true rfl) (by decide) hc (fun r2 c hq2 => ?_)
  obtain ⟨hty, hq3⟩ := hq2
  obtain ⟨b, rfl⟩ := hty.2 rfl
  obtain ⟨hth, hval⟩ := zqBl (zex_on hC.tok (zscv Δ (6 * i + 1)) (zscv Δ (6 * i + 2)) (zscv Δ (6 * i + 3)) (zscv Δ (6 * i + 4))) hres hq3
  exact zLtL hN hq3.1 ((hrb d hlw).eq hq3.2.1.1) hc hth hval dL_law_915 dL_law_917 dL_law_918 dL_law_921 dL_law_923 dL_law_928 dL_law_930 dL_law_933 dL_law_934 dL_law_935 dL_law_936 dL_law_938 dL_law_939 dL_law_944 (by decide)
set_option maxRecDepth 100000 in
theorem zW_least {Δ : zD} {sh0 : zSh} {i k n : Nat} {w : zW} {U : zTo} (hL : zscn Δ ≤ 3072) (hi : 6 * i + 6 ≤ zscn Δ) (hC : zKC w U) (hk : zRb w k n i) (hN : zNext Δ sh0 i) : zJ Δ mL_law room_1 false sh0 zQL zQX k n 748 (zL4 i) [] w := by
  have hi5 : i < 512 := by omega
  obtain ⟨k1, k2, k3, k4, k5, k6, k7, k8, k9⟩ := hC.2.2.2.2
  have hbI : (if zscv Δ (6 * i + 1) = 0 then (0 : Int32) else 1) = 0 ∨ (if zscv Δ (6 * i + 1) = 0 then (0 : Int32) else 1) = 1 := by
    by_cases h : zscv Δ (6 * i + 1) = 0
    · exact Or.inl (if_pos h)
    · exact Or.inr (if_neg h)
  obtain ⟨mc, ms, hm, hc, hrb⟩ := zroom hC.1.lg hk hi5 (zb_le U (if zscv Δ (6 * i + 1) = 0 then 0 else 1) (zscv Δ (6 * i + 2)) (zscv Δ (6 * i + 3)) (zscv Δ (6 * i + 4)))
  refine zJ_aload_n dL_law_748 rfl ?_
  refine zJ_scb (j := 1) dL_law_749 dL_law_750 dL_law_752 (by decide) dL_law_753 dL_law_754 dL_law_755 dL_law_758 dL_law_759 dL_law_762 rfl rfl (by omega) hL ?_
  refine zJ_scr (j := 2) dL_law_763 dL_law_764 dL_law_766 (by decide) dL_law_767 dL_law_768 rfl rfl (by omega) hL ?_
  refine zJ_scr (j := 3) dL_law_769 dL_law_770 dL_law_772 (by decide) dL_law_773 dL_law_774 rfl rfl (by omega) hL ?_
  refine zJ_scr (j := 4) dL_law_775 dL_law_776 dL_law_778 (by decide) dL_law_779 dL_law_780 rfl rfl (by omega) hL ?_
  refine zJ_aload_n dL_law_781 rfl ?_
  refine zJ_callW (As := [.ref 0, .int (if zscv Δ (6 * i + 1) = 0 then 0 else 1), .int (zscv Δ (6 * i + 2)), .int (zscv Δ (6 * i + 3)), .int (zscv Δ (6 * i + 4)), .ref 190]) (st := []) dL_law_782 pL_141 sL_141.2.1 sL_141.2.2 mfL_least (zL_least (zM.typed (zna_le hC (if zscv Δ (6 * i + 1) = 0 then 0 else 1) (zscv Δ (6 * i + 2)) (zscv Δ (6 * i + 3)) (zscv Δ (6 * i + 4)) hbI mc ms hm)) hC.s0 hC.2.2.2.1.1 hC.2.2.2.1.2 (zqRi rfl) zqX2) rfl (zL4_ok hC.s0 hC.s100 hC.2.2.2.1.1) (Nat.le_of_ble_eq_true rfl) (by decide) hc (fun r d hq => ?_)
  obtain ⟨kv, rfl, hco, hhi, hlw, hres⟩ := zq2i hq
  refine zJ_istore (ls2 := fun y => (5, .int y) :: zL4 i) dL_law_785 (by decide) (fun _ => rfl) (fun y ey => ?_)
  subst ey
  refine zJ_aload_n dL_law_787 rfl ?_
  refine zJ_scb (j := 1) dL_law_788 dL_law_789 dL_law_791 (by decide) dL_law_792 dL_law_793 dL_law_794 dL_law_797 dL_law_798 dL_law_801 rfl rfl (by omega) hL ?_
  refine zJ_scr (j := 2) dL_law_802 dL_law_803 dL_law_805 (by decide) dL_law_806 dL_law_807 rfl rfl (by omega) hL ?_
  refine zJ_scr (j := 3) dL_law_808 dL_law_809 dL_law_811 (by decide) dL_law_812 dL_law_813 rfl rfl (by omega) hL ?_
  refine zJ_scr (j := 4) dL_law_814 dL_law_815 dL_law_817 (by decide) dL_law_818 dL_law_819 rfl rfl (by omega) hL ?_
  refine zJ_eV4 dL_law_820 sL_144 mfX9_least (zM.typed (znb_le hco (if zscv Δ (6 * i + 1) = 0 then 0 else 1) (zscv Δ (6 * i + 2)) (zscv Δ (6 * i + 3)) (zscv Δ (6 * i + 4)) hbI)) hco.s100 rfl (Nat.le_of_ble_eq_true rfl) (by decide) hc (fun r2 c hq2 => ?_)
  obtain ⟨hty, hq3⟩ := hq2
  obtain ⟨b, rfl⟩ := hty.1 (Or.inl rfl)
  obtain ⟨hth, hval⟩ := zqBi (zex_le (if zscv Δ (6 * i + 1) = 0 then 0 else 1) (zscv Δ (6 * i + 2)) (zscv Δ (6 * i + 3)) (zscv Δ (6 * i + 4))) hres hq3
  exact zLtI hN hq3.1 ((hrb d hlw).eq hq3.2.1.1) hc hth hval dL_law_823 dL_law_825 dL_law_826 dL_law_829 dL_law_831 dL_law_836 dL_law_838 dL_law_841 dL_law_842 dL_law_843 dL_law_844 dL_law_846 dL_law_847 dL_law_848 dL_law_853 (by decide)
set_option maxRecDepth 100000 in
theorem zW_two {Δ : zD} {sh0 : zSh} {i k n : Nat} {w : zW} {U : zTo} (hL : zscn Δ ≤ 3072) (hi : 6 * i + 6 ≤ zscn Δ) (hC : zKC w U) (hk : zRb w k n i) (hN : zNext Δ sh0 i) : zJ Δ mL_law room_1 false sh0 zQL zQX k n 1395 (zL4 i) [] w := by
  have hi5 : i < 512 := by omega
  obtain ⟨k1, k2, k3, k4, k5, k6, k7, k8, k9⟩ := hC.2.2.2.2
  obtain ⟨mc, ms, hm, hc, hrb⟩ := zroom hC.1.lg hk hi5 (zb_tw U (zscv Δ (6 * i + 1)) (zscv Δ (6 * i + 2)))
  refine zJ_aload_n dL_law_1395 rfl ?_
  refine zJ_scr (j := 1) dL_law_1396 dL_law_1397 dL_law_1399 (by decide) dL_law_1400 dL_law_1401 rfl rfl (by omega) hL ?_
  refine zJ_scr (j := 2) dL_law_1402 dL_law_1403 dL_law_1405 (by decide) dL_law_1406 dL_law_1407 rfl rfl (by omega) hL ?_
  refine zJ_aload_n dL_law_1408 rfl ?_
  refine zJ_callW (As := [.ref 0, .int (zscv Δ (6 * i + 1)), .int (zscv Δ (6 * i + 2)), .ref 190]) (st := []) dL_law_1409 pL_179 sL_179.2.1 sL_179.2.2 mfL_two (zL_two (zM.typed (zna_tw hC (zscv Δ (6 * i + 1)) (zscv Δ (6 * i + 2)) mc ms hm)) hC.s0 hC.2.2.2.1.1 hC.2.2.2.1.2 (zqRi rfl) zqX2) rfl (zL4_ok hC.s0 hC.s100 hC.2.2.2.1.1) (Nat.le_of_ble_eq_true rfl) (by decide) hc (fun r d hq => ?_)
  obtain ⟨kv, rfl, hco, hhi, hlw, hres⟩ := zq2i hq
  refine zJ_istore (ls2 := fun y => (5, .int y) :: zL4 i) dL_law_1412 (by decide) (fun _ => rfl) (fun y ey => ?_)
  subst ey
  refine zJ_aload_n dL_law_1414 rfl ?_
  refine zJ_scr (j := 1) dL_law_1415 dL_law_1416 dL_law_1418 (by decide) dL_law_1419 dL_law_1420 rfl rfl (by omega) hL ?_
  refine zJ_scr (j := 2) dL_law_1421 dL_law_1422 dL_law_1424 (by decide) dL_law_1425 dL_law_1426 rfl rfl (by omega) hL ?_
  refine zJ_eV2 dL_law_1427 sL_181 mfX9_two (zM.typed (znb_tw hco (zscv Δ (6 * i + 1)) (zscv Δ (6 * i + 2)))) hco.s100 rfl (Nat.le_of_ble_eq_true rfl) (by decide) hc (fun r2 c hq2 => ?_)
  obtain ⟨hty, hq3⟩ := hq2
  obtain ⟨b, rfl⟩ := hty.1 (Or.inl rfl)
  obtain ⟨hth, hval⟩ := zqBi (zex_tw hC.tok (zscv Δ (6 * i + 1)) (zscv Δ (6 * i + 2))) hres hq3
  exact zLtI hN hq3.1 ((hrb d hlw).eq hq3.2.1.1) hc hth hval dL_law_1430 dL_law_1432 dL_law_1433 dL_law_1436 dL_law_1438 dL_law_1443 dL_law_1445 dL_law_1448 dL_law_1449 dL_law_1450 dL_law_1451 dL_law_1453 dL_law_1454 dL_law_1455 dL_law_1460 (by decide)
