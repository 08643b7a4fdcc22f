/-! the law: calls that change -/
set_option maxRecDepth 100000 in
theorem zW_hand {Δ : zD} {sh0 : zSh} {i k n : Nat} {w : zW} {U : zTo} (hL : zscn Δ ≤ 3072) (hi : 6 * i + 6 ≤ zscn Δ) (hC : zKC w U) (hk : zRb w k n i) (hN : zNext Δ sh0 i) : zJ Δ mL_law room_1 false sh0 zQL zQX k n 1002 (zL4 i) [] w := by
  have hi5 : i < 512 := by omega
  obtain ⟨k1, k2, k3, k4, k5, k6, k7, k8, k9⟩ := hC.2.2.2.2
  obtain ⟨nn, f, q1, q2, q3, q4, q5⟩ := k3
  obtain ⟨hc, hrb⟩ := zroom0 hC.1.lg hk hi5 (mc := 10) (ms := 60) (by decide)
  refine zJ_aload_n dL_law_1002 rfl ?_
  refine zJ_scr (j := 1) dL_law_1003 dL_law_1004 dL_law_1006 (by decide) dL_law_1007 dL_law_1008 rfl rfl (by omega) hL ?_
  refine zJ_aload_n dL_law_1009 rfl ?_
  refine zJ_callW (As := [.ref 0, .int (zscv Δ (6 * i + 1)), .ref 190]) (st := []) dL_law_1010 pL_152 sL_152.2.1 sL_152.2.2 mfL_hand (zL_hand (zM.typed (zna_ha hC q1 q2 (zscv Δ (6 * i + 1)))) hC.s0 hC.2.2.2.1.1 hC.2.2.2.1.2 (zuR hC rfl) zqX1) rfl (zL4_ok hC.s0 hC.s100 hC.2.2.2.1.1) (Nat.le_of_ble_eq_true rfl) (by decide) hc (fun r d hq => ?_)
  obtain ⟨kv, rfl, hhi, hlw, hres⟩ := zu1i hq
  refine zJ_istore (ls2 := fun y => (5, .int y) :: zL4 i) dL_law_1013 (by decide) (fun _ => rfl) (fun y ey => ?_)
  subst ey
  refine zJ_aload_n dL_law_1015 rfl ?_
  refine zJ_scr (j := 1) dL_law_1016 dL_law_1017 dL_law_1019 (by decide) dL_law_1020 dL_law_1021 rfl rfl (by omega) hL ?_
  refine zJ_eV1 dL_law_1022 sL_154 mfX9_hand (zM.typed (c_Mo_hand Δ d U (hC.2.1.hi hhi) hC.tok hC.u13 (zscv Δ (6 * i + 1)) nn q1 ((hhi.2 100 55 (by decide)).1.trans q3))) ((hhi.1 100 (by decide)).trans hC.s100) rfl (Nat.le_of_ble_eq_true rfl) (by decide) hc (fun r2 c hq2 => ?_)
  obtain ⟨hty, hq3⟩ := hq2
  obtain ⟨b, rfl⟩ := hty.1 (Or.inl rfl)
  obtain ⟨⟨hth, hval⟩, ⟨U2, hc2⟩, h8⟩ := zfin_ha hC q1 q2 hres hq3
  exact zLtI hN hc2 ((hrb d hlw).eq h8) hc hth hval dL_law_1025 dL_law_1027 dL_law_1028 dL_law_1031 dL_law_1033 dL_law_1038 dL_law_1040 dL_law_1043 dL_law_1044 dL_law_1045 dL_law_1046 dL_law_1048 dL_law_1049 dL_law_1050 dL_law_1055 (by decide)
set_option maxRecDepth 100000 in
theorem zW_theft {Δ : zD} {sh0 : zSh} {i k n : Nat} {w : zW} {U : zTo} (hL : zscn Δ ≤ 3072) (hi : 6 * i + 6 ≤ zscn Δ) (hC : zKC w U) (hk : zRb w k n i) (hN : zNext Δ sh0 i) : zJ Δ mL_law room_1 false sh0 zQL zQX k n 1518 (zL4 i) [] w := by
  have hi5 : i < 512 := by omega
  obtain ⟨k1, k2, k3, k4, k5, k6, k7, k8, k9⟩ := hC.2.2.2.2
  obtain ⟨nn, thr, few, q1, q2, q3, q4, q5⟩ := k6
  obtain ⟨hc, hrb⟩ := zroom0 hC.1.lg hk hi5 (mc := 10) (ms := 60) (by decide)
  refine zJ_aload_n dL_law_1518 rfl ?_
  refine zJ_scr (j := 1) dL_law_1519 dL_law_1520 dL_law_1522 (by decide) dL_law_1523 dL_law_1524 rfl rfl (by omega) hL ?_
  refine zJ_scr (j := 2) dL_law_1525 dL_law_1526 dL_law_1528 (by decide) dL_law_1529 dL_law_1530 rfl rfl (by omega) hL ?_
  refine zJ_aload_n dL_law_1531 rfl ?_
  refine zJ_callW (As := [.ref 0, .int (zscv Δ (6 * i + 1)), .int (zscv Δ (6 * i + 2)), .ref 190]) (st := []) dL_law_1532 pL_185 sL_185.2.1 sL_185.2.2 mfL_theft (zL_theft (zM.typed (zna_tf hC q1 q2 (zscv Δ (6 * i + 1)) (zscv Δ (6 * i + 2)))) hC.s0 hC.2.2.2.1.1 hC.2.2.2.1.2 (zuR hC rfl) zqX1) rfl (zL4_ok hC.s0 hC.s100 hC.2.2.2.1.1) (Nat.le_of_ble_eq_true rfl) (by decide) hc (fun r d hq => ?_)
  obtain ⟨kv, rfl, hhi, hlw, hres⟩ := zu1i hq
  refine zJ_istore (ls2 := fun y => (5, .int y) :: zL4 i) dL_law_1535 (by decide) (fun _ => rfl) (fun y ey => ?_)
  subst ey
  refine zJ_aload_n dL_law_1537 rfl ?_
  refine zJ_scr (j := 1) dL_law_1538 dL_law_1539 dL_law_1541 (by decide) dL_law_1542 dL_law_1543 rfl rfl (by omega) hL ?_
  refine zJ_scr (j := 2) dL_law_1544 dL_law_1545 dL_law_1547 (by decide) dL_law_1548 dL_law_1549 rfl rfl (by omega) hL ?_
  refine zJ_eV2 dL_law_1550 sL_187 mfX9_theft (zM.typed (c_Mo_theft Δ d U (hC.2.1.hi hhi) hC.tok hC.u13 (zscv Δ (6 * i + 1)) (zscv Δ (6 * i + 2)) nn q1 ((hhi.2 100 71 (by decide)).1.trans q3))) ((hhi.1 100 (by decide)).trans hC.s100) rfl (Nat.le_of_ble_eq_true rfl) (by decide) hc (fun r2 c hq2 => ?_)
  obtain ⟨hty, hq3⟩ := hq2
  obtain ⟨b, rfl⟩ := hty.1 (Or.inl rfl)
  obtain ⟨⟨hth, hval⟩, ⟨U2, hc2⟩, h8⟩ := zfin_tf hC q1 q2 hres hq3
  exact zLtI hN hc2 ((hrb d hlw).eq h8) hc hth hval dL_law_1553 dL_law_1555 dL_law_1556 dL_law_1559 dL_law_1561 dL_law_1566 dL_law_1568 dL_law_1571 dL_law_1572 dL_law_1573 dL_law_1574 dL_law_1576 dL_law_1577 dL_law_1578 dL_law_1583 (by decide)
set_option maxRecDepth 100000 in
theorem zW_chain {Δ : zD} {sh0 : zSh} {i k n : Nat} {w : zW} {U : zTo} (hL : zscn Δ ≤ 3072) (hi : 6 * i + 6 ≤ zscn Δ) (hC : zKC w U) (hk : zRb w k n i) (hN : zNext Δ sh0 i) : zJ Δ mL_law room_1 false sh0 zQL zQX k n 1283 (zL4 i) [] w := by
  have hi5 : i < 512 := by omega
  obtain ⟨k1, k2, k3, k4, k5, k6, k7, k8, k9⟩ := hC.2.2.2.2
  obtain ⟨mc, ms, hm, hc, hrb⟩ := zroom hC.1.lg hk hi5 (zb_ch U (zscv Δ (6 * i + 1)))
  refine zJ_aload_n dL_law_1283 rfl ?_
  refine zJ_scr (j := 1) dL_law_1284 dL_law_1285 dL_law_1287 (by decide) dL_law_1288 dL_law_1289 rfl rfl (by omega) hL ?_
  refine zJ_aload_n dL_law_1290 rfl ?_
  refine zJ_callW (As := [.ref 0, .int (zscv Δ (6 * i + 1)), .ref 190]) (st := []) dL_law_1291 pL_173 sL_173.2.1 sL_173.2.2 mfL_chain (zL_chain (zM.typed (zna_ch hC (zscv Δ (6 * i + 1)) mc ms hm)) hC.s0 hC.2.2.2.1.1 hC.2.2.2.1.2 (zuR hC rfl) zqX2) rfl (zL4_ok hC.s0 hC.s100 hC.2.2.2.1.1) (Nat.le_of_ble_eq_true rfl) (by decide) hc (fun r d hq => ?_)
  obtain ⟨kv, rfl, hhi, hlw, hres⟩ := zu2i hq
  refine zJ_istore (ls2 := fun y => (5, .int y) :: zL4 i) dL_law_1294 (by decide) (fun _ => rfl) (fun y ey => ?_)
  subst ey
  refine zJ_aload_n dL_law_1296 rfl ?_
  refine zJ_scr (j := 1) dL_law_1297 dL_law_1298 dL_law_1300 (by decide) dL_law_1301 dL_law_1302 rfl rfl (by omega) hL ?_
  refine zJ_eV1 dL_law_1303 sL_175 mfX9_chain (zM.typed (c_Mo_chain Δ d U (hC.2.1.hi hhi) hC.tok hC.u13 (zscv Δ (6 * i + 1)))) ((hhi.1 100 (by decide)).trans hC.s100) rfl (Nat.le_of_ble_eq_true rfl) (by decide) hc (fun r2 c hq2 => ?_)
  obtain ⟨hty, hq3⟩ := hq2
  obtain ⟨b, rfl⟩ := hty.1 (Or.inl rfl)
  obtain ⟨⟨hth, hval⟩, ⟨U2, hc2⟩, h8⟩ := zfin_ch (w := w) hC.tok hres hq3
  exact zLtI hN hc2 ((hrb d hlw).eq h8) hc hth hval dL_law_1306 dL_law_1308 dL_law_1309 dL_law_1312 dL_law_1314 dL_law_1319 dL_law_1321 dL_law_1324 dL_law_1325 dL_law_1326 dL_law_1327 dL_law_1329 dL_law_1330 dL_law_1331 dL_law_1336 (by decide)
set_option maxRecDepth 100000 in
theorem zW_on {Δ : zD} {sh0 : zSh} {i k n : Nat} {w : zW} {U : zTo} (hL : zscn Δ ≤ 3072) (hi : 6 * i + 6 ≤ zscn Δ) (hC : zKC w U) (hk : zRb w k n i) (hN : zNext Δ sh0 i) : zJ Δ mL_law room_1 false sh0 zQL zQX k n 1770 (zL4 i) [] w := by
  have hi5 : i < 512 := by omega
  obtain ⟨k1, k2, k3, k4, k5, k6, k7, k8, k9⟩ := hC.2.2.2.2
  obtain ⟨bg, wo, nn, S, hw⟩ := k8.get
  have hn : nn ≤ 100 := by
    rcases hw with h | h
    · exact h.2.1.2.2.2.2.2.1
    · rw [h.2.1]; exact Nat.zero_le _
  have hb2 : bg → w.2.1 100 76 = 1 ∧ 0 < U.1 0 := fun hb => by
    rcases hw with h | h
    · exact ⟨h.2.2.1, h.2.2.2.2⟩
    · exact (h.1 hb).elim
  obtain ⟨mc, ms, hm, hc, hrb⟩ := zroom hC.1.lg hk hi5 (zb_oo U bg nn (zscv Δ (6 * i + 1)))
  refine zJ_aload_n dL_law_1770 rfl ?_
  refine zJ_scr (j := 1) dL_law_1771 dL_law_1772 dL_law_1774 (by decide) dL_law_1775 dL_law_1776 rfl rfl (by omega) hL ?_
  refine zJ_aload_n dL_law_1777 rfl ?_
  refine zJ_callW (As := [.ref 0, .int (zscv Δ (6 * i + 1)), .ref 190]) (st := []) dL_law_1778 pL_199 sL_199.2.1 sL_199.2.2 mfL_on (zL_on (zM.typed (zna_oo hC (hw.imp (fun h => ⟨h.1, h.2.1⟩) (fun h => ⟨h.1, h.2.2.1⟩)) (zscv Δ (6 * i + 1)) mc ms hm)) hC.s0 hC.2.2.2.1.1 hC.2.2.2.1.2 (zuR hC rfl) zqX1) rfl (zL4_ok hC.s0 hC.s100 hC.2.2.2.1.1) (Nat.le_of_ble_eq_true rfl) (by decide) hc (fun r d hq => ?_)
  obtain ⟨kv, rfl, hhi, hlw, hres⟩ := zu1i hq
  refine zJ_istore (ls2 := fun y => (5, .int y) :: zL4 i) dL_law_1781 (by decide) (fun _ => rfl) (fun y ey => ?_)
  subst ey
  refine zJ_aload_n dL_law_1783 rfl ?_
  refine zJ_scr (j := 1) dL_law_1784 dL_law_1785 dL_law_1787 (by decide) dL_law_1788 dL_law_1789 rfl rfl (by omega) hL ?_
  refine zJ_eV1 dL_law_1790 sL_201 mfX9_on (zM.typed (c_Mo_on Δ d U (hC.2.1.hi hhi) hC.tok hC.u13 (zscv Δ (6 * i + 1)) bg wo nn S (hw.imp (fun h => ⟨h.1, (hhi.2 100 76 (by decide)).1.trans h.2.2.1, h.2.2.2.1.ob (fun a j x y => (hhi.2 a j (by omega)).1), h.2.2.2.2⟩) (fun h => ⟨h.1, (hhi.2 100 76 (by decide)).1.trans h.2.2.2.2⟩)))) ((hhi.1 100 (by decide)).trans hC.s100) rfl (Nat.le_of_ble_eq_true rfl) (by decide) hc (fun r2 c hq2 => ?_)
  obtain ⟨hty, hq3⟩ := hq2
  obtain ⟨b, rfl⟩ := hty.1 (Or.inl rfl)
  obtain ⟨⟨hth, hval⟩, ⟨U2, hc2⟩, h8⟩ := zfin_oo hC hn hb2 hres hq3
  exact zLtI hN hc2 ((hrb d hlw).eq h8) hc hth hval dL_law_1793 dL_law_1795 dL_law_1796 dL_law_1799 dL_law_1801 dL_law_1806 dL_law_1808 dL_law_1811 dL_law_1812 dL_law_1813 dL_law_1814 dL_law_1816 dL_law_1817 dL_law_1818 dL_law_1823 (by decide)
set_option maxRecDepth 100000 in
theorem zW_town {Δ : zD} {sh0 : zSh} {i k n : Nat} {w : zW} {U : zTo} (hL : zscn Δ ≤ 3072) (hi : 6 * i + 6 ≤ zscn Δ) (hC : zKC w U) (hk : zRb w k n i) (hN : zNext Δ sh0 i) : zJ Δ mL_law room_1 false sh0 zQL zQX k n 253 (zL4 i) [] w := by
  have hi5 : i < 512 := by omega
  obtain ⟨k1, k2, k3, k4, k5, k6, k7, k8, k9⟩ := hC.2.2.2.2
  obtain ⟨len, tx, t1, t2, t3, t4⟩ := k1
  obtain ⟨hc, hrb⟩ := zroom0 hC.1.lg hk hi5 (mc := 10) (ms := 60) (by decide)
  refine zJ_aload_n dL_law_253 rfl ?_
  refine zJ_scr (j := 1) dL_law_254 dL_law_255 dL_law_257 (by decide) dL_law_258 dL_law_259 rfl rfl (by omega) hL ?_
  refine zJ_aload_n dL_law_260 rfl ?_
  refine zJ_callW (As := [.ref 0, .int (zscv Δ (6 * i + 1)), .ref 190]) (st := []) dL_law_261 pL_106 sL_106.2.1 sL_106.2.2 mfL_town (zL_town (zM.typed (zna_to hC t1 t2 (fun i hi => ⟨(t4 i hi).1, (t4 i hi).2.2⟩) (zscv Δ (6 * i + 1)))) hC.s0 hC.2.2.2.1.1 hC.2.2.2.1.2 (zuR hC rfl) zqX1) rfl (zL4_ok hC.s0 hC.s100 hC.2.2.2.1.1) (Nat.le_of_ble_eq_true rfl) (by decide) hc (fun r d hq => ?_)
  obtain ⟨kv, rfl, hhi, hlw, hres⟩ := zu1i hq
  refine zJ_istore (ls2 := fun y => (5, .int y) :: zL4 i) dL_law_264 (by decide) (fun _ => rfl) (fun y ey => ?_)
  subst ey
  refine zJ_aload_n dL_law_266 rfl ?_
  refine zJ_scr (j := 1) dL_law_267 dL_law_268 dL_law_270 (by decide) dL_law_271 dL_law_272 rfl rfl (by omega) hL ?_
  refine zJ_eV1 dL_law_273 sL_111 mfX9_town (zM.typed (c_Mo_town Δ d (hC.2.1.1.hi hhi) tx len t1 ((hhi.2 100 14 (by decide)).1.trans t3) (fun i hi => ⟨(hhi.2 113 i (by decide)).1.trans (t4 i hi).2.1, (t4 i hi).2.2⟩) (zscv Δ (6 * i + 1)))) ((hhi.1 100 (by decide)).trans hC.s100) rfl (Nat.le_of_ble_eq_true rfl) (by decide) hc (fun r2 c hq2 => ?_)
  obtain ⟨hty, hq3⟩ := hq2
  obtain ⟨b, rfl⟩ := hty.1 (Or.inl rfl)
  obtain ⟨⟨hth, hval⟩, ⟨U2, hc2⟩, h8⟩ := zfin_to hC t1 hres t4 hq3
  exact zLtI hN hc2 ((hrb d hlw).eq h8) hc hth hval dL_law_276 dL_law_278 dL_law_279 dL_law_282 dL_law_284 dL_law_289 dL_law_291 dL_law_294 dL_law_295 dL_law_296 dL_law_297 dL_law_299 dL_law_300 dL_law_301 dL_law_306 (by decide)
set_option maxRecDepth 100000 in
theorem zW_guess {Δ : zD} {sh0 : zSh} {i k n : Nat} {w : zW} {U : zTo} (hL : zscn Δ ≤ 3072) (hi : 6 * i + 6 ≤ zscn Δ) (hC : zKC w U) (hk : zRb w k n i) (hN : zNext Δ sh0 i) : zJ Δ mL_law room_1 false sh0 zQL zQX k n 1128 (zL4 i) [] w := by
  have hi5 : i < 512 := by omega
  obtain ⟨k1, k2, k3, k4, k5, k6, k7, k8, k9⟩ := hC.2.2.2.2
  obtain ⟨tb, G, t1, t2, t3, t4, t5, t6, t7⟩ := k5
  obtain ⟨hc, hrb⟩ := zroom0 hC.1.lg hk hi5 (mc := 10) (ms := 60) (by decide)
  refine zJ_aload_n dL_law_1128 rfl ?_
  refine zJ_scr (j := 1) dL_law_1129 dL_law_1130 dL_law_1132 (by decide) dL_law_1133 dL_law_1134 rfl rfl (by omega) hL ?_
  refine zJ_scr (j := 2) dL_law_1135 dL_law_1136 dL_law_1138 (by decide) dL_law_1139 dL_law_1140 rfl rfl (by omega) hL ?_
  refine zJ_scr (j := 3) dL_law_1141 dL_law_1142 dL_law_1144 (by decide) dL_law_1145 dL_law_1146 rfl rfl (by omega) hL ?_
  refine zJ_scr (j := 4) dL_law_1147 dL_law_1148 dL_law_1150 (by decide) dL_law_1151 dL_law_1152 rfl rfl (by omega) hL ?_
  refine zJ_aload_n dL_law_1153 rfl ?_
  refine zJ_callW (As := [.ref 0, .int (zscv Δ (6 * i + 1)), .int (zscv Δ (6 * i + 2)), .int (zscv Δ (6 * i + 3)), .int (zscv Δ (6 * i + 4)), .ref 190]) (st := []) dL_law_1154 pL_167 sL_167.2.1 sL_167.2.2 mfL_guess (zL_guess (zM.typed (zna_gu hC t2 (zscv Δ (6 * i + 1)) (zscv Δ (6 * i + 2)) (zscv Δ (6 * i + 3)) (zscv Δ (6 * i + 4)))) hC.s0 hC.2.2.2.1.1 hC.2.2.2.1.2 (zuRz hC rfl) zqX1) rfl (zL4_ok hC.s0 hC.s100 hC.2.2.2.1.1) (Nat.le_of_ble_eq_true rfl) (by decide) hc (fun r d hq => ?_)
  obtain ⟨kv, rfl, hhi, hlw, hres⟩ := zu1z hq
  refine zJ_istore (ls2 := fun y => (5, .int y) :: zL4 i) dL_law_1157 (by decide) (fun _ => rfl) (fun y ey => ?_)
  subst ey
  refine zJ_aload_n dL_law_1159 rfl ?_
  refine zJ_scr (j := 1) dL_law_1160 dL_law_1161 dL_law_1163 (by decide) dL_law_1164 dL_law_1165 rfl rfl (by omega) hL ?_
  refine zJ_scr (j := 2) dL_law_1166 dL_law_1167 dL_law_1169 (by decide) dL_law_1170 dL_law_1171 rfl rfl (by omega) hL ?_
  refine zJ_scr (j := 3) dL_law_1172 dL_law_1173 dL_law_1175 (by decide) dL_law_1176 dL_law_1177 rfl rfl (by omega) hL ?_
  refine zJ_scr (j := 4) dL_law_1178 dL_law_1179 dL_law_1181 (by decide) dL_law_1182 dL_law_1183 rfl rfl (by omega) hL ?_
  refine zJ_eV4 dL_law_1184 sL_169 mfX9_guess (zM.typed (c_Mo_guess Δ d U (hC.2.1.hi hhi) hC.tok hC.u13 (zscv Δ (6 * i + 1)) (zscv Δ (6 * i + 2)) (zscv Δ (6 * i + 3)) (zscv Δ (6 * i + 4)))) ((hhi.1 100 (by decide)).trans hC.s100) rfl (Nat.le_of_ble_eq_true rfl) (by decide) hc (fun r2 c hq2 => ?_)
  obtain ⟨hty, hq3⟩ := hq2
  obtain ⟨b, rfl⟩ := hty.1 (Or.inr rfl)
  obtain ⟨⟨hth, hval⟩, ⟨U2, hc2⟩, h8⟩ := zfin_gu hC t2 t1 hres hq3
  exact zLtG hN hc2 ((hrb d hlw).eq h8) hc hth hval dL_law_1187 dL_law_1189 dL_law_1190 dL_law_1193 dL_law_1195 dL_law_1200 dL_law_1202 dL_law_1205 dL_law_1206 dL_law_1207 dL_law_1208 dL_law_1210 dL_law_1213 dL_law_1214 dL_law_1217 dL_law_1218 dL_law_1219 dL_law_1224 (by decide)
set_option maxRecDepth 100000 in
theorem zW_begin {Δ : zD} {sh0 : zSh} {i k n : Nat} {w : zW} {U : zTo} (hL : zscn Δ ≤ 3072) (hi : 6 * i + 6 ≤ zscn Δ) (hC : zKC w U) (hk : zRb w k n i) (hN : zNext Δ sh0 i) : zJ Δ mL_law room_1 false sh0 zQL zQX k n 1722 (zL4 i) [] w := by
  have hi5 : i < 512 := by omega
  obtain ⟨k1, k2, k3, k4, k5, k6, k7, k8, k9⟩ := hC.2.2.2.2
  obtain ⟨hc, hrb⟩ := zroom0 hC.1.lg hk hi5 (mc := 10) (ms := 60) (by decide)
  refine zJ_aload_n dL_law_1722 rfl ?_
  refine zJ_scr (j := 1) dL_law_1723 dL_law_1724 dL_law_1726 (by decide) dL_law_1727 dL_law_1728 rfl rfl (by omega) hL ?_
  refine zJ_scr (j := 2) dL_law_1729 dL_law_1730 dL_law_1732 (by decide) dL_law_1733 dL_law_1734 rfl rfl (by omega) hL ?_
  refine zJ_callW (As := [.ref 0, .int (zscv Δ (6 * i + 1)), .int (zscv Δ (6 * i + 2))]) (st := []) dL_law_1735 pL_195 sL_195.2.1 sL_195.2.2 mfL_begin (zL_begin (zM.typed (zna_be hC (zscv Δ (6 * i + 1)) (zscv Δ (6 * i + 2)))) hC.s0 hC.2.2.2.1.2 (fun r c h => h.2.2.1) zqX1) rfl (zL4_ok hC.s0 hC.s100 hC.2.2.2.1.1) (Nat.le_of_ble_eq_true rfl) (by decide) hc (fun r d hq => ?_)
  obtain ⟨kv, rfl, hhi, hlw, hres⟩ := zu1v hq
  refine zJ_istore (ls2 := fun y => (5, .int y) :: zL4 i) dL_law_1738 (by decide) (fun _ => rfl) (fun y ey => ?_)
  subst ey
  refine zJ_aload_n dL_law_1740 rfl ?_
  refine zJ_scr (j := 1) dL_law_1741 dL_law_1742 dL_law_1744 (by decide) dL_law_1745 dL_law_1746 rfl rfl (by omega) hL ?_
  refine zJ_scr (j := 2) dL_law_1747 dL_law_1748 dL_law_1750 (by decide) dL_law_1751 dL_law_1752 rfl rfl (by omega) hL ?_
  refine zJ_eV2 dL_law_1753 sL_198 mfX9_begin (zM.typed (c_Mo_begin Δ d U (hC.2.1.hi hhi) hC.tok hC.u13 (zscv Δ (6 * i + 1)) (zscv Δ (6 * i + 2)))) ((hhi.1 100 (by decide)).trans hC.s100) rfl (Nat.le_of_ble_eq_true rfl) (by decide) hc (fun r2 c hq2 => ?_)
  obtain ⟨hty, hq3⟩ := hq2
  obtain ⟨rfl, hq3⟩ := hq3
  obtain ⟨hth, ⟨U2, hc2⟩, h8⟩ := zfin_be hC hres hq3
  exact zLtV hN hc2 ((hrb d hlw).eq h8) hc hth dL_law_1756 dL_law_1757 dL_law_1760 dL_law_1762 dL_law_1767 (by decide)
