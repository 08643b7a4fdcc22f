set_option maxRecDepth 100000 in
theorem c_thieves (Δ : zD) (w : zW) (U : zTo) (hB : zB w U) (x : Int32) (n : Nat) (hn : n ≤ 30) (thr few : Nat → Nat) (h2 : w.2.1 47 2 = nI n) (h48 : ∀ k, k < n → w.2.1 48 k = nI (thr k)) (h49 : ∀ k, k < n → w.2.1 49 k = nI (few k) ∧ few k ≤ 8) : zM Δ 7 10 60 true yX8_thieves mX8_thieves [.ref 0, .int x] w (fun r d => ∃ q, q ≤ 4 ∧ x = nI q ∧ r = some (.int (if q = 0 then nI (if zcnt (fun s => zexp thr few s n) (2 ^ U.1 0) = 0 then 0 else zsu (fun s => zexp thr few s n) ((2 ^ U.1 0) - 1) (2 ^ U.1 0)) else if q = 1 then nI (zpo (fun s => zexp thr few s n) (2 ^ U.1 0)) else if q = 2 then nI (zcnt (fun s => zexp thr few s n) (2 ^ U.1 0)) else if q = 3 then zoi (zfw (fun s => zexp thr few s n) (2 ^ U.1 0)) else if zcnt (fun s => zexp thr few s n) (2 ^ U.1 0) = 0 then -1 else zoi (zwa (fun p => zwi (fun s => zexp thr few s n) p (2 ^ U.1 0)) (zcnt (fun s => zexp thr few s n) (2 ^ U.1 0)) (U.1 0)))) ∧ ∃ su po se fw wi, d = zthw w 47 su po se fw wi) (fun E d => E = zNS ∧ d = w ∧ ¬ ∃ q, q ≤ 4 ∧ x = nI q) := by
  refine zM.of mfX8_thieves (Nat.le_of_ble_eq_true rfl) ?_
  have hC := hB.1
  have hU := hB.2.2.1.1
  have hp0 := hB.2.1.2.1 0 (by decide) (by decide)
  have hp8 := hU.1
  have hk0 := hC.1 0 (by decide)
  have hTh : zTh w 47 := ⟨hC.1 _ (by decide), hC.2 _ _ rfl, hC.2 _ _ rfl, hC.2 _ _ rfl, hC.1 _ (by decide), hC.1 _ (by decide), hC.1 _ (by decide)⟩
  have h256 : 2 ^ U.1 0 ≤ 256 := Nat.pow_le_pow_right (n := 2) (by decide) hp8
  refine zJ_aload_n dX8_thieves_0 rfl ?_
  refine zJ_iload_n dX8_thieves_1 rfl ?_
  refine zJ_iconst (v := 4) dX8_thieves_2 (by decide) ?_
  refine zJ_xV2 dX8_thieves_3 sX8_161 pX8_161 mfX8_needWhat (c_needWhat Δ w hC x 4 (by decide)) rfl hk0 rfl (Nat.le_of_ble_eq_true rfl) ⟨Nat.le_of_ble_eq_true rfl, Nat.le_of_ble_eq_true rfl⟩ (by decide) (fun r c9 hP => ?_) (fun E c9 hX => ⟨hX.1, hX.2.1, hX.2.2⟩)
  obtain ⟨rfl, hw9, hP⟩ := hP
  obtain rfl := hw9.symm
  refine zJ_aload_n dX8_thieves_6 rfl ?_
  refine zJ_getr dX8_thieves_7 fX8_65 (by first | rfl | assumption | exact hC.1 _ (by decide)) rfl (by first | rfl | assumption | exact hC.2 _ _ rfl) ?_
  refine zJ_aload_n dX8_thieves_10 rfl ?_
  refine zJ_getr dX8_thieves_11 fX8_32 (by first | rfl | assumption | exact hC.1 _ (by decide)) rfl (by first | rfl | assumption | exact hC.2 _ _ rfl) ?_
  refine zJ_geti dX8_thieves_14 fX8_117 (by first | rfl | assumption | exact hC.1 _ (by decide)) rfl ?_
  rw [hp0]
  refine zJ_cV1 dX8_thieves_17 sX8_322 mfX4_weigh (c_Theft_weigh Δ w 47 n (U.1 0) thr few hTh h2 hn hp8 h48 h49) (by first | rfl | assumption | exact hC.1 _ (by decide)) rfl (Nat.le_of_ble_eq_true rfl) (by decide) (by decide) ?_
  refine zJ_iload_n dX8_thieves_20 rfl ?_
  obtain ⟨q, hq, rfl⟩ := hP
  have hg := zthw_get w 47 (nI (if zcnt (fun s => zexp thr few s n) (2 ^ U.1 0) = 0 then 0 else zsu (fun s => zexp thr few s n) ((2 ^ U.1 0) - 1) (2 ^ U.1 0))) (nI (zpo (fun s => zexp thr few s n) (2 ^ U.1 0))) (nI (zcnt (fun s => zexp thr few s n) (2 ^ U.1 0))) (zoi (zfw (fun s => zexp thr few s n) (2 ^ U.1 0))) (fun p => if p < 8 then nI (if p < U.1 0 then zwi (fun s => zexp thr few s n) p (2 ^ U.1 0) else 0) else w.2.1 (47 + 3) p)
  generalize hd9 : zthw w 47 (nI (if zcnt (fun s => zexp thr few s n) (2 ^ U.1 0) = 0 then 0 else zsu (fun s => zexp thr few s n) ((2 ^ U.1 0) - 1) (2 ^ U.1 0))) (nI (zpo (fun s => zexp thr few s n) (2 ^ U.1 0))) (nI (zcnt (fun s => zexp thr few s n) (2 ^ U.1 0))) (zoi (zfw (fun s => zexp thr few s n) (2 ^ U.1 0))) (fun p => if p < 8 then nI (if p < U.1 0 then zwi (fun s => zexp thr few s n) p (2 ^ U.1 0) else 0) else w.2.1 (47 + 3) p) = d at hg ⊢
  have hCd : zCs d := by rw [← hd9]; exact hC
  have hTd : zTh d 47 := by rw [← hd9]; exact hTh
  have hex : ∃ su po se fw wi, d = zthw w 47 su po se fw wi := ⟨_, _, _, _, _, hd9.symm⟩
  have hd90 : d.2.1 9 0 = nI (U.1 0) := by rw [← hd9]; simp [zthw, hp0]
  obtain ⟨g3, g4, g5, g6, g7⟩ := hg
  rcases (by omega : q = 0 ∨ q = 1 ∨ q = 2 ∨ q = 3 ∨ q = 4) with rfl | rfl | rfl | rfl | rfl
  · refine zJ_tabN (off := 31) (tgt := 52) dX8_thieves_21 (by decide) (by decide) rfl (by decide) ?_
    refine zJ_aload_n dX8_thieves_52 rfl ?_
    refine zJ_getr dX8_thieves_53 fX8_65 (by first | rfl | assumption | exact hCd.1 _ (by decide)) rfl (by first | rfl | assumption | exact hCd.2 _ _ rfl) ?_
    refine zJ_geti dX8_thieves_56 fX8_325 (by first | rfl | assumption | exact hCd.1 _ (by decide)) rfl ?_
    rw [g3]
    exact zJ_iret dX8_thieves_59 rfl (by decide) (by decide) ⟨0, by decide, rfl, rfl, hex⟩
  · refine zJ_tabN (off := 39) (tgt := 60) dX8_thieves_21 (by decide) (by decide) rfl (by decide) ?_
    refine zJ_aload_n dX8_thieves_60 rfl ?_
    refine zJ_getr dX8_thieves_61 fX8_65 (by first | rfl | assumption | exact hCd.1 _ (by decide)) rfl (by first | rfl | assumption | exact hCd.2 _ _ rfl) ?_
    refine zJ_geti dX8_thieves_64 fX8_328 (by first | rfl | assumption | exact hCd.1 _ (by decide)) rfl ?_
    rw [g4]
    exact zJ_iret dX8_thieves_67 rfl (by decide) (by decide) ⟨1, by decide, rfl, rfl, hex⟩
  · refine zJ_tabN (off := 47) (tgt := 68) dX8_thieves_21 (by decide) (by decide) rfl (by decide) ?_
    refine zJ_aload_n dX8_thieves_68 rfl ?_
    refine zJ_getr dX8_thieves_69 fX8_65 (by first | rfl | assumption | exact hCd.1 _ (by decide)) rfl (by first | rfl | assumption | exact hCd.2 _ _ rfl) ?_
    refine zJ_geti dX8_thieves_72 fX8_331 (by first | rfl | assumption | exact hCd.1 _ (by decide)) rfl ?_
    rw [g5]
    exact zJ_iret dX8_thieves_75 rfl (by decide) (by decide) ⟨2, by decide, rfl, rfl, hex⟩
  · refine zJ_tabN (off := 55) (tgt := 76) dX8_thieves_21 (by decide) (by decide) rfl (by decide) ?_
    refine zJ_aload_n dX8_thieves_76 rfl ?_
    refine zJ_getr dX8_thieves_77 fX8_65 (by first | rfl | assumption | exact hCd.1 _ (by decide)) rfl (by first | rfl | assumption | exact hCd.2 _ _ rfl) ?_
    refine zJ_geti dX8_thieves_80 fX8_334 (by first | rfl | assumption | exact hCd.1 _ (by decide)) rfl ?_
    rw [g6]
    exact zJ_iret dX8_thieves_83 rfl (by decide) (by decide) ⟨3, by decide, rfl, rfl, hex⟩
  · refine zJ_tableOut (tgt := 84) dX8_thieves_21 (Or.inr (by decide)) (by decide) ?_
    refine zJ_aload_n dX8_thieves_84 rfl ?_
    refine zJ_getr dX8_thieves_85 fX8_65 (by first | rfl | assumption | exact hCd.1 _ (by decide)) rfl (by first | rfl | assumption | exact hCd.2 _ _ rfl) ?_
    refine zJ_aload_n dX8_thieves_88 rfl ?_
    refine zJ_getr dX8_thieves_89 fX8_32 (by first | rfl | assumption | exact hCd.1 _ (by decide)) rfl (by first | rfl | assumption | exact hCd.2 _ _ rfl) ?_
    refine zJ_geti dX8_thieves_92 fX8_117 (by first | rfl | assumption | exact hCd.1 _ (by decide)) rfl ?_
    rw [hd90]
    refine zJ_cV1 dX8_thieves_95 sX8_337 mfX4_whomToAsk (c_Theft_whomToAsk Δ d 47 (U.1 0) (zcnt (fun s => zexp thr few s n) (2 ^ U.1 0)) (fun p => zwi (fun s => zexp thr few s n) p (2 ^ U.1 0)) hTd hp8 (Nat.le_trans (zcnt_le _ _) h256) (fun p _ => Nat.le_trans (zcnt_le _ _) h256) g5 (fun p hp => by rw [g7]; simp [hp, show p < 8 by omega])) (by first | rfl | assumption | exact hCd.1 _ (by decide)) rfl (Nat.le_of_ble_eq_true rfl) (by decide) (by decide) ?_
    exact zJ_iret dX8_thieves_98 rfl (by decide) (by decide) ⟨4, by decide, rfl, rfl, hex⟩
