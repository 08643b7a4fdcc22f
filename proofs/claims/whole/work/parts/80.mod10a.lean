/-! the model: all, stepTo, firstWrong, oddsNow, odds, judge, hand, ended -/
set_option maxRecDepth 100000 in
theorem c_Mo_all (Δ : zD) (w : zW) (U : zTo) (hMu : zMu w U) (hU : zTok U) (h13 : U.1 13 = 0) (x : Int32) : zMp Δ 6 yX9_all mX9_all [.ref 100, .int x] w (fun r c => zFM zScr w c ∧ ((¬ (0 < U.1 0 ∧ ∃ q, q ≤ 1 ∧ x = nI q) ∧ c.2.1 100 0 = 1) ∨ ((0 < U.1 0 ∧ ∃ q, q ≤ 1 ∧ x = nI q) ∧ ¬ zfit (zTal U) 20000 ∧ c.2.1 100 0 = 2) ∨ ((0 < U.1 0 ∧ ∃ q, q ≤ 1 ∧ x = nI q) ∧ zfit (zTal U) 20000 ∧ c.2.1 100 0 = 0 ∧ ∃ q, q ≤ 1 ∧ x = nI q ∧ r = some (.int (nI (if q = 0 then (zlst (zTal U) 11 (zfk (zTal U))).1 else (zlst (zTal U) 11 (zfk (zTal U))).2.1)))))) := by
  refine zMp.of mfX9_all (Nat.le_of_ble_eq_true rfl) (fun QR hQ => ?_)
  have hMu0 := hMu
  obtain ⟨hM, u1, u2, u3, u4, u5, u6, u7, u8, u9, uso, unu, uwt⟩ := hMu
  have hp8 := hU.1
  have hU0 := hU
  have M0 : zMs (zsi w 100 0 0) := hM
  have z0 : (zsi w 100 0 0).2.1 100 0 = 0 := by simp [zsi]
  have hMu1 : zMu (zsi w 100 0 0) U := hMu0.fm (zFM.i (l := [0]) (by decide)) (by decide)
  have hp1 : (zsi w 100 0 0).2.1 100 1 = nI (U.1 0) := hMu1.2.1
  by_cases hpos : 0 < U.1 0
  · by_cases hq : ∃ q, q ≤ 1 ∧ x = nI q
    · obtain ⟨q, hq1, rfl⟩ := hq
      rcases (by omega : q = 0 ∨ q = 1) with rfl | rfl
      · refine zJ_aload_n dX9_all_0 rfl ?_
        refine zJ_iconst (v := 0) dX9_all_1 (by decide) ?_
        refine zJ_puti dX9_all_2 fX9_170 (fun q h => by cases h; rfl) (by first | rfl | assumption | exact M0.at (by decide) (by decide) | exact Mc.at (by decide) (by decide)) rfl rfl rfl ?_
        refine zJ_aload_n dX9_all_5 rfl ?_
        refine zJ_iload_n dX9_all_6 rfl ?_
        refine zJ_if_eq (tgt := 15) dX9_all_7 (by decide) (fun _ => ?_) (fun h9 => False.elim (by revert h9; decide))
        refine zJ_aload_n dX9_all_15 rfl ?_
        refine zJ_geti dX9_all_16 fX9_298 (by first | rfl | assumption | exact M0.at (by decide) (by decide) | exact Mc.at (by decide) (by decide)) rfl ?_
        rw [hp1]
        refine zJ_if_le (tgt := 26) dX9_all_19 (by decide) (fun h9 => absurd h9 (fun h => absurd ((nI_leI (b := 0) (by omega) (by decide)).mp h) (by omega))) (fun h19 => ?_)
        refine zJ_iconst (v := 1) dX9_all_22 (by decide) ?_
        refine zJ_goto (tgt := 27) dX9_all_23 (by decide) ?_
        refine zJ_iconst (v := 1) dX9_all_27 (by decide) ?_
        refine zJ_cV2 dX9_all_28 sX9_291 mfX9_right (c_Mo_right1 Δ (zsi w 100 0 0) M0 z0 1) (by first | rfl | assumption | exact M0.at (by decide) (by decide) | exact Mc.at (by decide) (by decide)) rfl (Nat.le_of_ble_eq_true rfl) (by decide) (by decide) ?_
        refine zJ_if_ne (tgt := 36) dX9_all_31 (by decide) (fun _ => ?_) (fun h9 => False.elim (by revert h9; decide))
        refine zJ_aload_n dX9_all_36 rfl ?_
        refine zJ_eV0 dX9_all_37 sX9_429 mfX9_allReckon (c_Mo_allReckon Δ (zsi w 100 0 0) U hMu1 hU0 h13 hpos) (M0.at (by decide) (by decide)) rfl (Nat.le_of_ble_eq_true rfl) (by decide) (by decide) (fun r d hP => ?_)
        obtain ⟨hfd, hP⟩ := hP
        have Md : zMs d := M0.fm hfd
        have d0 : d.2.1 100 0 = 0 := (hfd.at (by decide)).trans z0
        rcases hP with ⟨rfl, hno⟩ | ⟨K, z, hKd, hz, hz2, rfl⟩
        · refine zJ_istore_n (ls2 := fun x40b => [(2, .int x40b), (0, .ref 100), (1, .int (nI 0))]) dX9_all_40 (by decide) (fun _ => rfl) (fun x40b ex40b => ?_)
          obtain rfl : x40b = (-1) := ex40b
          refine zJ_aload_n dX9_all_41 rfl ?_
          refine zJ_iload_n dX9_all_42 rfl ?_
          refine zJ_iconst (v := (-1)) dX9_all_43 (by decide) ?_
          refine zJ_icmp_eq (tgt := 51) dX9_all_44 (by decide) (fun _ => ?_) (fun h9 => False.elim (by revert h9; decide))
          refine zJ_iconst (v := 0) dX9_all_51 (by decide) ?_
          refine zJ_iconst (v := 2) dX9_all_52 (by decide) ?_
          refine zJ_cV2 dX9_all_53 sX9_291 mfX9_right (c_Mo_right0 Δ d Md d0 2 (by decide)) (by first | rfl | assumption | exact Md.at (by decide) (by decide)) rfl (Nat.le_of_ble_eq_true rfl) (by decide) (by decide) ?_
          refine zJ_if_ne (tgt := 61) dX9_all_56 (by decide) (fun h9 => False.elim (by revert h9; decide)) (fun _ => ?_)
          refine zJ_iconst (v := 0) dX9_all_59 (by decide) ?_
          exact zJ_iret dX9_all_60 rfl (by decide) (by decide) (hQ _ _ ⟨(zFM.t0.tr (hfd.mono (by decide))).tr zFM.t0, Or.inr (Or.inl ⟨⟨hpos, 0, by decide, rfl⟩, hno, by simp [zsi]⟩)⟩)
        · refine zJ_istore_n (ls2 := fun x40g => [(2, .int x40g), (0, .ref 100), (1, .int (nI 0))]) dX9_all_40 (by decide) (fun _ => rfl) (fun x40g ex40g => ?_)
          obtain rfl : x40g = (nI z) := ex40g
          refine zJ_aload_n dX9_all_41 rfl ?_
          refine zJ_iload_n dX9_all_42 rfl ?_
          refine zJ_iconst (v := (-1)) dX9_all_43 (by decide) ?_
          refine zJ_icmp_eq (tgt := 51) dX9_all_44 (by decide) (fun h9 => absurd h9 (nI_m1 (by omega))) (fun h44g => ?_)
          refine zJ_iconst (v := 1) dX9_all_47 (by decide) ?_
          refine zJ_goto (tgt := 52) dX9_all_48 (by decide) ?_
          refine zJ_iconst (v := 2) dX9_all_52 (by decide) ?_
          refine zJ_cV2 dX9_all_53 sX9_291 mfX9_right (c_Mo_right1 Δ d Md d0 2) (by first | rfl | assumption | exact Md.at (by decide) (by decide)) rfl (Nat.le_of_ble_eq_true rfl) (by decide) (by decide) ?_
          refine zJ_if_ne (tgt := 61) dX9_all_56 (by decide) (fun _ => ?_) (fun h9 => False.elim (by revert h9; decide))
          refine zJ_iload_n dX9_all_61 rfl ?_
          refine zJ_if_ne (tgt := 74) dX9_all_62 (by decide) (fun h9 => False.elim (by revert h9; decide)) (fun _ => ?_)
          refine zJ_aload_n dX9_all_65 rfl ?_
          refine zJ_getr (j := 139) dX9_all_66 fX9_50 (by first | rfl | assumption | exact Md.at (by decide) (by decide)) rfl (by first | rfl | assumption | exact Md.rf (by decide) rfl) ?_
          refine zJ_iload_n dX9_all_69 rfl ?_
          refine zJ_ialdN (i := z) (v := (nI (zlst (zTal U) 11 (zfk (zTal U))).1)) dX9_all_70 (by first | rfl | assumption | exact Md.at (by decide) (by decide)) rfl (by omega) (by decide) (hKd.2.1.1 z _ hz).1 ?_
          refine zJ_goto (tgt := 80) dX9_all_71 (by decide) ?_
          exact zJ_iret dX9_all_80 rfl (by decide) (by decide) (hQ _ _ ⟨zFM.t0.tr (hfd.mono (by decide)), Or.inr (Or.inr ⟨⟨hpos, 0, by decide, rfl⟩, ⟨K, hKd.2.2.1, hKd.2.1.2.2.1⟩, d0, 0, by decide, rfl, rfl⟩)⟩)
      · refine zJ_aload_n dX9_all_0 rfl ?_
        refine zJ_iconst (v := 0) dX9_all_1 (by decide) ?_
        refine zJ_puti dX9_all_2 fX9_170 (fun q h => by cases h; rfl) (by first | rfl | assumption | exact M0.at (by decide) (by decide) | exact Mc.at (by decide) (by decide)) rfl rfl rfl ?_
        refine zJ_aload_n dX9_all_5 rfl ?_
        refine zJ_iload_n dX9_all_6 rfl ?_
        refine zJ_if_eq (tgt := 15) dX9_all_7 (by decide) (fun h9 => False.elim (by revert h9; decide)) (fun _ => ?_)
        refine zJ_iload_n dX9_all_10 rfl ?_
        refine zJ_iconst (v := 1) dX9_all_11 (by decide) ?_
        refine zJ_icmp_ne (tgt := 26) dX9_all_12 (by decide) (fun h9 => False.elim (by revert h9; decide)) (fun _ => ?_)
        refine zJ_aload_n dX9_all_15 rfl ?_
        refine zJ_geti dX9_all_16 fX9_298 (by first | rfl | assumption | exact M0.at (by decide) (by decide) | exact Mc.at (by decide) (by decide)) rfl ?_
        rw [hp1]
        refine zJ_if_le (tgt := 26) dX9_all_19 (by decide) (fun h9 => absurd h9 (fun h => absurd ((nI_leI (b := 0) (by omega) (by decide)).mp h) (by omega))) (fun h19 => ?_)
        refine zJ_iconst (v := 1) dX9_all_22 (by decide) ?_
        refine zJ_goto (tgt := 27) dX9_all_23 (by decide) ?_
        refine zJ_iconst (v := 1) dX9_all_27 (by decide) ?_
        refine zJ_cV2 dX9_all_28 sX9_291 mfX9_right (c_Mo_right1 Δ (zsi w 100 0 0) M0 z0 1) (by first | rfl | assumption | exact M0.at (by decide) (by decide) | exact Mc.at (by decide) (by decide)) rfl (Nat.le_of_ble_eq_true rfl) (by decide) (by decide) ?_
        refine zJ_if_ne (tgt := 36) dX9_all_31 (by decide) (fun _ => ?_) (fun h9 => False.elim (by revert h9; decide))
        refine zJ_aload_n dX9_all_36 rfl ?_
        refine zJ_eV0 dX9_all_37 sX9_429 mfX9_allReckon (c_Mo_allReckon Δ (zsi w 100 0 0) U hMu1 hU0 h13 hpos) (M0.at (by decide) (by decide)) rfl (Nat.le_of_ble_eq_true rfl) (by decide) (by decide) (fun r d hP => ?_)
        obtain ⟨hfd, hP⟩ := hP
        have Md : zMs d := M0.fm hfd
        have d0 : d.2.1 100 0 = 0 := (hfd.at (by decide)).trans z0
        rcases hP with ⟨rfl, hno⟩ | ⟨K, z, hKd, hz, hz2, rfl⟩
        · refine zJ_istore_n (ls2 := fun x40b => [(2, .int x40b), (0, .ref 100), (1, .int (nI 1))]) dX9_all_40 (by decide) (fun _ => rfl) (fun x40b ex40b => ?_)
          obtain rfl : x40b = (-1) := ex40b
          refine zJ_aload_n dX9_all_41 rfl ?_
          refine zJ_iload_n dX9_all_42 rfl ?_
          refine zJ_iconst (v := (-1)) dX9_all_43 (by decide) ?_
          refine zJ_icmp_eq (tgt := 51) dX9_all_44 (by decide) (fun _ => ?_) (fun h9 => False.elim (by revert h9; decide))
          refine zJ_iconst (v := 0) dX9_all_51 (by decide) ?_
          refine zJ_iconst (v := 2) dX9_all_52 (by decide) ?_
          refine zJ_cV2 dX9_all_53 sX9_291 mfX9_right (c_Mo_right0 Δ d Md d0 2 (by decide)) (by first | rfl | assumption | exact Md.at (by decide) (by decide)) rfl (Nat.le_of_ble_eq_true rfl) (by decide) (by decide) ?_
          refine zJ_if_ne (tgt := 61) dX9_all_56 (by decide) (fun h9 => False.elim (by revert h9; decide)) (fun _ => ?_)
          refine zJ_iconst (v := 0) dX9_all_59 (by decide) ?_
          exact zJ_iret dX9_all_60 rfl (by decide) (by decide) (hQ _ _ ⟨(zFM.t0.tr (hfd.mono (by decide))).tr zFM.t0, Or.inr (Or.inl ⟨⟨hpos, 1, by decide, rfl⟩, hno, by simp [zsi]⟩)⟩)
        · refine zJ_istore_n (ls2 := fun x40g => [(2, .int x40g), (0, .ref 100), (1, .int (nI 1))]) dX9_all_40 (by decide) (fun _ => rfl) (fun x40g ex40g => ?_)
          obtain rfl : x40g = (nI z) := ex40g
          refine zJ_aload_n dX9_all_41 rfl ?_
          refine zJ_iload_n dX9_all_42 rfl ?_
          refine zJ_iconst (v := (-1)) dX9_all_43 (by decide) ?_
          refine zJ_icmp_eq (tgt := 51) dX9_all_44 (by decide) (fun h9 => absurd h9 (nI_m1 (by omega))) (fun h44g => ?_)
          refine zJ_iconst (v := 1) dX9_all_47 (by decide) ?_
          refine zJ_goto (tgt := 52) dX9_all_48 (by decide) ?_
          refine zJ_iconst (v := 2) dX9_all_52 (by decide) ?_
          refine zJ_cV2 dX9_all_53 sX9_291 mfX9_right (c_Mo_right1 Δ d Md d0 2) (by first | rfl | assumption | exact Md.at (by decide) (by decide)) rfl (Nat.le_of_ble_eq_true rfl) (by decide) (by decide) ?_
          refine zJ_if_ne (tgt := 61) dX9_all_56 (by decide) (fun _ => ?_) (fun h9 => False.elim (by revert h9; decide))
          refine zJ_iload_n dX9_all_61 rfl ?_
          refine zJ_if_ne (tgt := 74) dX9_all_62 (by decide) (fun _ => ?_) (fun h9 => False.elim (by revert h9; decide))
          refine zJ_aload_n dX9_all_74 rfl ?_
          refine zJ_getr (j := 140) dX9_all_75 fX9_53 (by first | rfl | assumption | exact Md.at (by decide) (by decide)) rfl (by first | rfl | assumption | exact Md.rf (by decide) rfl) ?_
          refine zJ_iload_n dX9_all_78 rfl ?_
          refine zJ_ialdN (i := z) (v := (nI (zlst (zTal U) 11 (zfk (zTal U))).2.1)) dX9_all_79 (by first | rfl | assumption | exact Md.at (by decide) (by decide)) rfl (by omega) (by decide) (hKd.2.1.1 z _ hz).2.1 ?_
          exact zJ_iret dX9_all_80 rfl (by decide) (by decide) (hQ _ _ ⟨zFM.t0.tr (hfd.mono (by decide)), Or.inr (Or.inr ⟨⟨hpos, 1, by decide, rfl⟩, ⟨K, hKd.2.2.1, hKd.2.1.2.2.1⟩, d0, 1, by decide, rfl, rfl⟩)⟩)
    · refine (fun hQ9 => ?_) (hQ (some (.int 0)) (zsi (zsi w 100 0 0) 100 0 1) ⟨zFM.t0.tr zFM.t0, Or.inl ⟨fun h => hq h.2, by simp [zsi]⟩⟩)
      refine zJ_aload_n dX9_all_0 rfl ?_
      refine zJ_iconst (v := 0) dX9_all_1 (by decide) ?_
      refine zJ_puti dX9_all_2 fX9_170 (fun q h => by cases h; rfl) (by first | rfl | assumption | exact M0.at (by decide) (by decide)) rfl rfl rfl ?_
      refine zJ_aload_n dX9_all_5 rfl ?_
      refine zJ_iload_n dX9_all_6 rfl ?_
      refine zJ_if_eq (tgt := 15) dX9_all_7 (by decide) (fun h9 => absurd h9 (fun h => hq ⟨0, by decide, h⟩)) (fun h7 => ?_)
      refine zJ_iload_n dX9_all_10 rfl ?_
      refine zJ_iconst (v := 1) dX9_all_11 (by decide) ?_
      refine zJ_icmp_ne (tgt := 26) dX9_all_12 (by decide) (fun h12 => ?_) (fun h9 => absurd h9 (fun h => hq ⟨1, by decide, h⟩))
      refine zJ_iconst (v := 0) dX9_all_26 (by decide) ?_
      refine zJ_iconst (v := 1) dX9_all_27 (by decide) ?_
      refine zJ_cV2 dX9_all_28 sX9_291 mfX9_right (c_Mo_right0 Δ (zsi w 100 0 0) M0 z0 1 (by decide)) (by first | rfl | assumption | exact M0.at (by decide) (by decide)) rfl (Nat.le_of_ble_eq_true rfl) (by decide) (by decide) ?_
      refine zJ_if_ne (tgt := 36) dX9_all_31 (by decide) (fun h9 => False.elim (by revert h9; decide)) (fun _ => ?_)
      refine zJ_iconst (v := 0) dX9_all_34 (by decide) ?_
      exact zJ_iret dX9_all_35 rfl (by decide) (by decide) hQ9
  · refine (fun hQ9 => ?_) (hQ (some (.int 0)) (zsi (zsi w 100 0 0) 100 0 1) ⟨zFM.t0.tr zFM.t0, Or.inl ⟨fun h => hpos h.1, by simp [zsi]⟩⟩)
    have hz0 : U.1 0 = 0 := by omega
    refine zJ_aload_n dX9_all_0 rfl ?_
    refine zJ_iconst (v := 0) dX9_all_1 (by decide) ?_
    refine zJ_puti dX9_all_2 fX9_170 (fun q h => by cases h; rfl) (by first | rfl | assumption | exact M0.at (by decide) (by decide)) rfl rfl rfl ?_
    refine zJ_aload_n dX9_all_5 rfl ?_
    refine zJ_iload_n dX9_all_6 rfl ?_
    refine zJ_if_eq (tgt := 15) dX9_all_7 (by decide) (fun h7 => ?_) (fun h7 => ?_)
    · refine zJ_aload_n dX9_all_15 rfl ?_
      refine zJ_geti dX9_all_16 fX9_298 (by first | rfl | assumption | exact M0.at (by decide) (by decide)) rfl ?_
      rw [hp1]
      refine zJ_if_le (tgt := 26) dX9_all_19 (by decide) (fun h19 => ?_) (fun h9 => absurd (show nI (U.1 0) ≤ 0 by rw [show U.1 0 = 0 by omega]; exact Int32.le_refl _) h9)
      refine zJ_iconst (v := 0) dX9_all_26 (by decide) ?_
      refine zJ_iconst (v := 1) dX9_all_27 (by decide) ?_
      refine zJ_cV2 dX9_all_28 sX9_291 mfX9_right (c_Mo_right0 Δ (zsi w 100 0 0) M0 z0 1 (by decide)) (by first | rfl | assumption | exact M0.at (by decide) (by decide)) rfl (Nat.le_of_ble_eq_true rfl) (by decide) (by decide) ?_
      refine zJ_if_ne (tgt := 36) dX9_all_31 (by decide) (fun h9 => False.elim (by revert h9; decide)) (fun _ => ?_)
      refine zJ_iconst (v := 0) dX9_all_34 (by decide) ?_
      exact zJ_iret dX9_all_35 rfl (by decide) (by decide) hQ9
    · refine zJ_iload_n dX9_all_10 rfl ?_
      refine zJ_iconst (v := 1) dX9_all_11 (by decide) ?_
      refine zJ_icmp_ne (tgt := 26) dX9_all_12 (by decide) (fun h12 => ?_) (fun h12 => ?_)
      · refine zJ_iconst (v := 0) dX9_all_26 (by decide) ?_
        refine zJ_iconst (v := 1) dX9_all_27 (by decide) ?_
        refine zJ_cV2 dX9_all_28 sX9_291 mfX9_right (c_Mo_right0 Δ (zsi w 100 0 0) M0 z0 1 (by decide)) (by first | rfl | assumption | exact M0.at (by decide) (by decide)) rfl (Nat.le_of_ble_eq_true rfl) (by decide) (by decide) ?_
        refine zJ_if_ne (tgt := 36) dX9_all_31 (by decide) (fun h9 => False.elim (by revert h9; decide)) (fun _ => ?_)
        refine zJ_iconst (v := 0) dX9_all_34 (by decide) ?_
        exact zJ_iret dX9_all_35 rfl (by decide) (by decide) hQ9
      · refine zJ_aload_n dX9_all_15 rfl ?_
        refine zJ_geti dX9_all_16 fX9_298 (by first | rfl | assumption | exact M0.at (by decide) (by decide)) rfl ?_
        rw [hp1]
        refine zJ_if_le (tgt := 26) dX9_all_19 (by decide) (fun h19 => ?_) (fun h9 => absurd (show nI (U.1 0) ≤ 0 by rw [show U.1 0 = 0 by omega]; exact Int32.le_refl _) h9)
        refine zJ_iconst (v := 0) dX9_all_26 (by decide) ?_
        refine zJ_iconst (v := 1) dX9_all_27 (by decide) ?_
        refine zJ_cV2 dX9_all_28 sX9_291 mfX9_right (c_Mo_right0 Δ (zsi w 100 0 0) M0 z0 1 (by decide)) (by first | rfl | assumption | exact M0.at (by decide) (by decide)) rfl (Nat.le_of_ble_eq_true rfl) (by decide) (by decide) ?_
        refine zJ_if_ne (tgt := 36) dX9_all_31 (by decide) (fun h9 => False.elim (by revert h9; decide)) (fun _ => ?_)
        refine zJ_iconst (v := 0) dX9_all_34 (by decide) ?_
        exact zJ_iret dX9_all_35 rfl (by decide) (by decide) hQ9
set_option maxRecDepth 100000 in
theorem c_Mo_sentOf (Δ : zD) (w : zW) (T : zTo) (K : List zKy) (hK : zMK w T K) (hT : zTok T) (x : Nat) (k : zKy) (hx : K[x]? = some k) (v : Nat) (hv : v ≤ 1000000000) (hmb : ¬ zmb T k = 0) (h3 : ¬ T.2.1 k.1 = 3) : zMd Δ 2 0 0 true yX9_sentOf mX9_sentOf [.ref 100, .int (nI x), .long (lN v)] w (some (.long (lN (v * (1000 - zsh T k (zcC T k)) / 1000)))) w := by
  refine zMd.of mfX9_sentOf (Nat.le_of_ble_eq_true rfl) (fun QR hQ => ?_)
  have hK0 := hK
  obtain ⟨hA, hN, hall, hch⟩ := hK
  have hA0 := hA
  obtain ⟨hM, m1, m3, m4, m5, m6, m7, m46, m9, m47, mso, mnu, mwt⟩ := hA
  have hT0 := hT
  obtain ⟨hp0, hp5, hp6, hp7, hp8, hp9, hp10, hp11, hp12, hp13, hpp, hpw⟩ := hT
  have hxK : x < K.length := (List.getElem?_eq_some_iff.mp hx).1
  have hKR := hN.2.2.1
  obtain ⟨hk, hkp⟩ := hN.2.2.2 k (List.mem_iff_getElem?.mpr ⟨x, hx⟩)
  obtain ⟨y1, y2, y3, y4⟩ := hN.1 x k hx
  have hk1 := hk.1
  have hk2 := hk.2.1
  have hso := (hpp k.1).1
  have all : zsh T k (zcC T k) = 0 → v * (1000 - zsh T k (zcC T k)) / 1000 = v := fun h => by rw [h]; omega
  have non : zsh T k (zcC T k) = 1000 → v * (1000 - zsh T k (zcC T k)) / 1000 = 0 := fun h => by rw [h]; simp
  refine zJ_aload_n dX9_sentOf_0 rfl ?_
  refine zJ_getr (j := 139) dX9_sentOf_1 fX9_50 (by first | rfl | assumption | exact hM.at (by decide) (by decide)) rfl (by first | rfl | assumption | exact hM.rf (by decide) rfl) ?_
  refine zJ_iload_n dX9_sentOf_4 rfl ?_
  refine zJ_ialdN (i := x) (v := (nI k.1)) dX9_sentOf_5 (by first | rfl | assumption | exact hM.at (by decide) (by decide)) rfl (by omega) (by decide) y1 ?_
  refine zJ_istore (ls2 := fun x6 => [(4, .int x6), (0, .ref 100), (1, .int (nI x)), (2, .long (lN v))]) dX9_sentOf_6 (by decide) (fun _ => rfl) (fun x6 ex6 => ?_)
  obtain rfl : x6 = (nI k.1) := ex6
  refine zJ_aload_n dX9_sentOf_8 rfl ?_
  refine zJ_getr (j := 148) dX9_sentOf_9 fX9_70 (by first | rfl | assumption | exact hM.at (by decide) (by decide)) rfl (by first | rfl | assumption | exact hM.rf (by decide) rfl) ?_
  refine zJ_iload dX9_sentOf_12 rfl ?_
  refine zJ_ialdN (i := k.1) (v := (nI (T.2.1 k.1))) dX9_sentOf_14 (by first | rfl | assumption | exact hM.at (by decide) (by decide)) rfl (by omega) (by decide) (mso k.1 hkp) ?_
  rcases (by omega : T.2.1 k.1 = 0 ∨ T.2.1 k.1 = 1 ∨ T.2.1 k.1 = 2) with hs | hs | hs
  · rw [hs]
    refine zJ_lookup (off := 25) (tgt := 40) dX9_sentOf_15 (by decide) (by decide) (by decide) ?_
    refine zJ_aload_n dX9_sentOf_40 rfl ?_
    refine zJ_iload dX9_sentOf_41 rfl ?_
    refine zJ_aload_n dX9_sentOf_43 rfl ?_
    refine zJ_getr (j := 140) dX9_sentOf_44 fX9_53 (by first | rfl | assumption | exact hM.at (by decide) (by decide)) rfl (by first | rfl | assumption | exact hM.rf (by decide) rfl) ?_
    refine zJ_iload_n dX9_sentOf_47 rfl ?_
    refine zJ_ialdN (i := x) (v := (nI k.2.1)) dX9_sentOf_48 (by first | rfl | assumption | exact hM.at (by decide) (by decide)) rfl (by omega) (by decide) y2 ?_
    refine zJ_cV2 dX9_sentOf_49 sX9_396 mfX9_isOpenedAt (c_Mo_isOpenedAt Δ w T hA0 hT0 k.1 k.2.1 hkp ⟨hk2.1, by omega⟩) (by first | rfl | assumption | exact hM.at (by decide) (by decide)) rfl (Nat.le_of_ble_eq_true rfl) (by decide) (by decide) ?_
    refine zJ_if_eq (tgt := 59) dX9_sentOf_52 (by decide) (fun h52a => ?_) (fun h52a => ?_)
    · have hnop : ¬ T.2.2.1 k.1 ≤ zfl T k.2.1 := fun h => by rw [if_pos h] at h52a; exact absurd h52a (by decide)
      refine zJ_lload_n dX9_sentOf_59 rfl ?_
      rw [all (by simp only [zsh, hmb, hs, if_false, if_true]; rw [if_neg hnop])] at hQ
      exact zJ_lret dX9_sentOf_60 rfl (by decide) (by decide) hQ
    · have hop : T.2.2.1 k.1 ≤ zfl T k.2.1 := Classical.byContradiction fun h => h52a (by rw [if_neg h])
      refine zJ_lconst (v := 0) dX9_sentOf_55 (by decide) ?_
      refine zJ_goto (tgt := 60) dX9_sentOf_56 (by decide) ?_
      rw [non (by simp only [zsh, hmb, hs, if_false, if_true]; rw [if_pos hop])] at hQ
      exact zJ_lret dX9_sentOf_60 rfl (by decide) (by decide) hQ
  · rw [hs]
    refine zJ_lookup (off := 46) (tgt := 61) dX9_sentOf_15 (by decide) (by decide) (by decide) ?_
    refine zJ_lload_n dX9_sentOf_61 rfl ?_
    rw [all (by simp only [zsh, hmb, hs, if_false]; rfl)] at hQ
    exact zJ_lret dX9_sentOf_62 rfl (by decide) (by decide) hQ
  · have hnu := (hpp k.1).2.2.1 hs
    rw [hs]
    refine zJ_lookup (off := 48) (tgt := 63) dX9_sentOf_15 (by decide) (by decide) (by decide) ?_
    refine zJ_lload_n dX9_sentOf_63 rfl ?_
    refine zJ_sipush (v := 1000) dX9_sentOf_64 (by decide) ?_
    refine zJ_aload_n dX9_sentOf_67 rfl ?_
    refine zJ_getr (j := 149) dX9_sentOf_68 fX9_73 (by first | rfl | assumption | exact hM.at (by decide) (by decide)) rfl (by first | rfl | assumption | exact hM.rf (by decide) rfl) ?_
    refine zJ_iload dX9_sentOf_71 rfl ?_
    refine zJ_ialdN (i := k.1) (v := (nI (T.2.2.1 k.1))) dX9_sentOf_73 (by first | rfl | assumption | exact hM.at (by decide) (by decide)) rfl (by omega) (by decide) (mnu k.1 hkp) ?_
    refine zJ_isub dX9_sentOf_74 ?_
    rw [show (1000 : Int32) - nI (T.2.2.1 k.1) = nI (1000 - T.2.2.1 k.1) from na_sub (by omega)]
    refine zJ_i2l dX9_sentOf_75 ?_
    rw [nI_l (show 1000 - T.2.2.1 k.1 < 2 ^ 31 by omega)]
    refine zJ_lmul dX9_sentOf_76 ?_
    rw [lN_mul]
    have hvn : v * (1000 - T.2.2.1 k.1) ≤ 1000000000 * 1000 := Nat.mul_le_mul hv (by omega)
    refine zJ_ldc2 dX9_sentOf_77 kX9_370 ?_
    refine zJ_ldiv dX9_sentOf_80 (by decide) ?_
    rw [show (1000 : Int64) = lN 1000 from rfl, lN_div (by omega) (by decide)]
    rw [show zsh T k (zcC T k) = T.2.2.1 k.1 by simp only [zsh, hmb, hs, if_false]; rfl] at hQ
    exact zJ_lret dX9_sentOf_81 rfl (by decide) (by decide) hQ
theorem zst1_no {T : zTo} {k : zKy} {v y : Nat} (h : (ztb T k (zcC T k)).testBit y = false) : zst1 T k v y = 0 := by
  simp only [zst1, h, Bool.false_eq_true, false_and, if_false]
set_option maxRecDepth 100000 in
theorem c_Mo_stepTo (Δ : zD) (w : zW) (T : zTo) (K : List zKy) (hK : zMK w T K) (hT : zTok T) (x : Nat) (k : zKy) (hx : K[x]? = some k) (hB : zBm w T K) (y v : Nat) (hy : y < 8) (hv : v ≤ 1000000000) : zMd Δ 3 0 0 true yX9_stepTo mX9_stepTo [.ref 100, .int (nI x), .int (nI y), .long (lN v)] w (some (.long (lN (zst1 T k v y)))) w := by
  refine zMd.of mfX9_stepTo (Nat.le_of_ble_eq_true rfl) (fun QR hQ => ?_)
  have hK0 := hK
  obtain ⟨hA, hN, hall, hch⟩ := hK
  have hA0 := hA
  obtain ⟨hM, m1, m3, m4, m5, m6, m7, m46, m9, m47, mso, mnu, mwt⟩ := hA
  have hT0 := hT
  obtain ⟨hp0, hp5, hp6, hp7, hp8, hp9, hp10, hp11, hp12, hp13, hpp, hpw⟩ := hT
  have hxK : x < K.length := (List.getElem?_eq_some_iff.mp hx).1
  have hKR := hN.2.2.1
  obtain ⟨hk, hkp⟩ := hN.2.2.2 k (List.mem_iff_getElem?.mpr ⟨x, hx⟩)
  obtain ⟨y1, y2, y3, y4⟩ := hN.1 x k hx
  have hk1 := hk.1
  have hk2 := hk.2.1
  have hso := (hpp k.1).1
  have hwb : zwS T k ≤ 8 * 99 := fb_sm_bound (fun y hy => by
    try simp only
    split
    · exact (hpw k.1 y hk1 (by omega)).1
    · omega)
  cases hmy : zmay T k y with
  | false =>
    rw [zst1_no (Bool.eq_false_iff.mpr fun h => by rw [ztb_may hy h] at hmy; cases hmy)] at hQ
    refine zJ_aload_n dX9_stepTo_0 rfl ?_
    refine zJ_getr (j := 143) dX9_stepTo_1 fX9_63 (by first | rfl | assumption | exact hM.at (by decide) (by decide)) rfl (by first | rfl | assumption | exact hM.rf (by decide) rfl) ?_
    refine zJ_bipush (v := 8) dX9_stepTo_4 (by decide) ?_
    refine zJ_iload_n dX9_stepTo_6 rfl ?_
    refine zJ_imul dX9_stepTo_7 ?_
    refine zJ_iload_n dX9_stepTo_8 rfl ?_
    refine zJ_iadd dX9_stepTo_9 ?_
    refine zJ_ialdN (i := (x * 8 + y)) (v := (-1)) dX9_stepTo_10 (by first | rfl | assumption | exact hM.at (by decide) (by decide)) (na_8 _ _) (by omega) (by decide) (hK0.n hx hy hmy) ?_
    refine zJ_istore (ls2 := fun x11f => [(5, .int x11f), (0, .ref 100), (1, .int (nI x)), (2, .int (nI y)), (3, .long (lN v))]) dX9_stepTo_11 (by decide) (fun _ => rfl) (fun x11f ex11f => ?_)
    obtain rfl : x11f = (-1) := ex11f
    refine zJ_iload dX9_stepTo_13 rfl ?_
    refine zJ_iconst (v := (-1)) dX9_stepTo_15 (by decide) ?_
    refine zJ_icmp_ne (tgt := 21) dX9_stepTo_16 (by decide) (fun h9 => False.elim (by revert h9; decide)) (fun _ => ?_)
    refine zJ_lconst (v := 0) dX9_stepTo_19 (by decide) ?_
    exact zJ_lret dX9_stepTo_20 rfl (by decide) (by decide) hQ
  | true =>
    obtain ⟨c9, hc1, hc2, hc3, hc4, hc5⟩ := hK0.c hx hy hmy
    have hmb : ¬ zmb T k = 0 := fun h => by
      rw [← zmb_tb T k hy, h] at hmy; simp at hmy
    have hyp : y < T.1 0 := Nat.lt_of_not_le fun h => by rw [zmay_no hT0 hk1 h hy] at hmy; cases hmy
    by_cases h3 : T.2.1 k.1 = 3
    · have h3i : nI (T.2.1 k.1) = 3 := by rw [h3]; rfl
      have hbx := hB x k hx h3
      cases hz : zcC T k with
      | none =>
        rw [hz] at hbx
        rw [zst1_no (by simp [ztb, h3, hz])] at hQ
        refine zJ_aload_n dX9_stepTo_0 rfl ?_
        refine zJ_getr (j := 143) dX9_stepTo_1 fX9_63 (by first | rfl | assumption | exact hM.at (by decide) (by decide)) rfl (by first | rfl | assumption | exact hM.rf (by decide) rfl) ?_
        refine zJ_bipush (v := 8) dX9_stepTo_4 (by decide) ?_
        refine zJ_iload_n dX9_stepTo_6 rfl ?_
        refine zJ_imul dX9_stepTo_7 ?_
        refine zJ_iload_n dX9_stepTo_8 rfl ?_
        refine zJ_iadd dX9_stepTo_9 ?_
        refine zJ_ialdN (i := (x * 8 + y)) (v := (nI c9)) dX9_stepTo_10 (by first | rfl | assumption | exact hM.at (by decide) (by decide)) (na_8 _ _) (by omega) (by decide) hc2 ?_
        refine zJ_istore (ls2 := fun x11a => [(5, .int x11a), (0, .ref 100), (1, .int (nI x)), (2, .int (nI y)), (3, .long (lN v))]) dX9_stepTo_11 (by decide) (fun _ => rfl) (fun x11a ex11a => ?_)
        obtain rfl : x11a = (nI c9) := ex11a
        refine zJ_iload dX9_stepTo_13 rfl ?_
        refine zJ_iconst (v := (-1)) dX9_stepTo_15 (by decide) ?_
        refine zJ_icmp_ne (tgt := 21) dX9_stepTo_16 (by decide) (fun h16a => ?_) (fun h9 => absurd h9 (nI_m1 (show c9 < 2 ^ 31 by omega)))
        refine zJ_aload_n dX9_stepTo_21 rfl ?_
        refine zJ_getr (j := 148) dX9_stepTo_22 fX9_70 (by first | rfl | assumption | exact hM.at (by decide) (by decide)) rfl (by first | rfl | assumption | exact hM.rf (by decide) rfl) ?_
        refine zJ_aload_n dX9_stepTo_25 rfl ?_
        refine zJ_getr (j := 139) dX9_stepTo_26 fX9_50 (by first | rfl | assumption | exact hM.at (by decide) (by decide)) rfl (by first | rfl | assumption | exact hM.rf (by decide) rfl) ?_
        refine zJ_iload_n dX9_stepTo_29 rfl ?_
        refine zJ_ialdN (i := x) (v := (nI k.1)) dX9_stepTo_30 (by first | rfl | assumption | exact hM.at (by decide) (by decide)) rfl (by omega) (by decide) y1 ?_
        refine zJ_ialdN (i := k.1) (v := (nI (T.2.1 k.1))) dX9_stepTo_31 (by first | rfl | assumption | exact hM.at (by decide) (by decide)) rfl (by omega) (by decide) (mso k.1 hkp) ?_
        refine zJ_iconst (v := 3) dX9_stepTo_32 (by decide) ?_
        refine zJ_icmp_ne (tgt := 52) dX9_stepTo_33 (by decide) (fun h9 => absurd h9 (fun h => h h3i)) (fun h33a => ?_)
        refine zJ_aload_n dX9_stepTo_36 rfl ?_
        refine zJ_getr (j := 152) dX9_stepTo_37 fX9_83 (by first | rfl | assumption | exact hM.at (by decide) (by decide)) rfl (by first | rfl | assumption | exact hM.rf (by decide) rfl) ?_
        refine zJ_iload_n dX9_stepTo_40 rfl ?_
        refine zJ_ialdN (i := x) (v := (-1)) dX9_stepTo_41 (by first | rfl | assumption | exact hM.at (by decide) (by decide)) rfl (by omega) (by decide) hbx ?_
        refine zJ_iload_n dX9_stepTo_42 rfl ?_
        refine zJ_icmp_ne (tgt := 50) dX9_stepTo_43 (by decide) (fun h43a => ?_) (fun h9 => absurd h9 (fun h => nI_m1 (show y < 2 ^ 31 by omega) h.symm))
        refine zJ_lconst (v := 0) dX9_stepTo_50 (by decide) ?_
        exact zJ_lret dX9_stepTo_51 rfl (by decide) (by decide) hQ
      | some q =>
        rw [hz] at hbx
        obtain ⟨hq8, hqm⟩ := zcC_may hz
        have hb2 : ztb T k (zcC T k) = 2 ^ q := by simp only [ztb, h3, if_true, hz]
        by_cases hqy : q = y
        · rw [show zst1 T k v y = v by
            have e1 : (2 ^ q).testBit y = true := by rw [hqy]; exact Nat.testBit_two_pow_self
            have e2 : zwt T k.1 (2 ^ q) 8 = 1 := by
              simp only [zwt, zwu, h3, if_true]
              rw [sm_one, if_pos hq8]
            have e3 : zsh T k (zcC T k) = 0 := by simp only [zsh, hmb, h3, hz, if_false]; rfl
            simp only [zst1, hb2, e1, e2, e3, true_and, zwu, h3, if_true]
            simp] at hQ
          refine zJ_aload_n dX9_stepTo_0 rfl ?_
          refine zJ_getr (j := 143) dX9_stepTo_1 fX9_63 (by first | rfl | assumption | exact hM.at (by decide) (by decide)) rfl (by first | rfl | assumption | exact hM.rf (by decide) rfl) ?_
          refine zJ_bipush (v := 8) dX9_stepTo_4 (by decide) ?_
          refine zJ_iload_n dX9_stepTo_6 rfl ?_
          refine zJ_imul dX9_stepTo_7 ?_
          refine zJ_iload_n dX9_stepTo_8 rfl ?_
          refine zJ_iadd dX9_stepTo_9 ?_
          refine zJ_ialdN (i := (x * 8 + y)) (v := (nI c9)) dX9_stepTo_10 (by first | rfl | assumption | exact hM.at (by decide) (by decide)) (na_8 _ _) (by omega) (by decide) hc2 ?_
          refine zJ_istore (ls2 := fun x11b => [(5, .int x11b), (0, .ref 100), (1, .int (nI x)), (2, .int (nI y)), (3, .long (lN v))]) dX9_stepTo_11 (by decide) (fun _ => rfl) (fun x11b ex11b => ?_)
          obtain rfl : x11b = (nI c9) := ex11b
          refine zJ_iload dX9_stepTo_13 rfl ?_
          refine zJ_iconst (v := (-1)) dX9_stepTo_15 (by decide) ?_
          refine zJ_icmp_ne (tgt := 21) dX9_stepTo_16 (by decide) (fun h16b => ?_) (fun h9 => absurd h9 (nI_m1 (show c9 < 2 ^ 31 by omega)))
          refine zJ_aload_n dX9_stepTo_21 rfl ?_
          refine zJ_getr (j := 148) dX9_stepTo_22 fX9_70 (by first | rfl | assumption | exact hM.at (by decide) (by decide)) rfl (by first | rfl | assumption | exact hM.rf (by decide) rfl) ?_
          refine zJ_aload_n dX9_stepTo_25 rfl ?_
          refine zJ_getr (j := 139) dX9_stepTo_26 fX9_50 (by first | rfl | assumption | exact hM.at (by decide) (by decide)) rfl (by first | rfl | assumption | exact hM.rf (by decide) rfl) ?_
          refine zJ_iload_n dX9_stepTo_29 rfl ?_
          refine zJ_ialdN (i := x) (v := (nI k.1)) dX9_stepTo_30 (by first | rfl | assumption | exact hM.at (by decide) (by decide)) rfl (by omega) (by decide) y1 ?_
          refine zJ_ialdN (i := k.1) (v := (nI (T.2.1 k.1))) dX9_stepTo_31 (by first | rfl | assumption | exact hM.at (by decide) (by decide)) rfl (by omega) (by decide) (mso k.1 hkp) ?_
          refine zJ_iconst (v := 3) dX9_stepTo_32 (by decide) ?_
          refine zJ_icmp_ne (tgt := 52) dX9_stepTo_33 (by decide) (fun h9 => absurd h9 (fun h => h h3i)) (fun h33b => ?_)
          refine zJ_aload_n dX9_stepTo_36 rfl ?_
          refine zJ_getr (j := 152) dX9_stepTo_37 fX9_83 (by first | rfl | assumption | exact hM.at (by decide) (by decide)) rfl (by first | rfl | assumption | exact hM.rf (by decide) rfl) ?_
          refine zJ_iload_n dX9_stepTo_40 rfl ?_
          refine zJ_ialdN (i := x) (v := (nI q)) dX9_stepTo_41 (by first | rfl | assumption | exact hM.at (by decide) (by decide)) rfl (by omega) (by decide) hbx ?_
          refine zJ_iload_n dX9_stepTo_42 rfl ?_
          refine zJ_icmp_ne (tgt := 50) dX9_stepTo_43 (by decide) (fun h9 => absurd h9 (fun h => h (by rw [hqy]))) (fun h43b => ?_)
          refine zJ_lload_n dX9_stepTo_46 rfl ?_
          refine zJ_goto (tgt := 51) dX9_stepTo_47 (by decide) ?_
          exact zJ_lret dX9_stepTo_51 rfl (by decide) (by decide) hQ
        · rw [zst1_no (by rw [hb2, Nat.testBit_two_pow]; exact decide_eq_false hqy)] at hQ
          refine zJ_aload_n dX9_stepTo_0 rfl ?_
          refine zJ_getr (j := 143) dX9_stepTo_1 fX9_63 (by first | rfl | assumption | exact hM.at (by decide) (by decide)) rfl (by first | rfl | assumption | exact hM.rf (by decide) rfl) ?_
          refine zJ_bipush (v := 8) dX9_stepTo_4 (by decide) ?_
          refine zJ_iload_n dX9_stepTo_6 rfl ?_
          refine zJ_imul dX9_stepTo_7 ?_
          refine zJ_iload_n dX9_stepTo_8 rfl ?_
          refine zJ_iadd dX9_stepTo_9 ?_
          refine zJ_ialdN (i := (x * 8 + y)) (v := (nI c9)) dX9_stepTo_10 (by first | rfl | assumption | exact hM.at (by decide) (by decide)) (na_8 _ _) (by omega) (by decide) hc2 ?_
          refine zJ_istore (ls2 := fun x11c => [(5, .int x11c), (0, .ref 100), (1, .int (nI x)), (2, .int (nI y)), (3, .long (lN v))]) dX9_stepTo_11 (by decide) (fun _ => rfl) (fun x11c ex11c => ?_)
          obtain rfl : x11c = (nI c9) := ex11c
          refine zJ_iload dX9_stepTo_13 rfl ?_
          refine zJ_iconst (v := (-1)) dX9_stepTo_15 (by decide) ?_
          refine zJ_icmp_ne (tgt := 21) dX9_stepTo_16 (by decide) (fun h16c => ?_) (fun h9 => absurd h9 (nI_m1 (show c9 < 2 ^ 31 by omega)))
          refine zJ_aload_n dX9_stepTo_21 rfl ?_
          refine zJ_getr (j := 148) dX9_stepTo_22 fX9_70 (by first | rfl | assumption | exact hM.at (by decide) (by decide)) rfl (by first | rfl | assumption | exact hM.rf (by decide) rfl) ?_
          refine zJ_aload_n dX9_stepTo_25 rfl ?_
          refine zJ_getr (j := 139) dX9_stepTo_26 fX9_50 (by first | rfl | assumption | exact hM.at (by decide) (by decide)) rfl (by first | rfl | assumption | exact hM.rf (by decide) rfl) ?_
          refine zJ_iload_n dX9_stepTo_29 rfl ?_
          refine zJ_ialdN (i := x) (v := (nI k.1)) dX9_stepTo_30 (by first | rfl | assumption | exact hM.at (by decide) (by decide)) rfl (by omega) (by decide) y1 ?_
          refine zJ_ialdN (i := k.1) (v := (nI (T.2.1 k.1))) dX9_stepTo_31 (by first | rfl | assumption | exact hM.at (by decide) (by decide)) rfl (by omega) (by decide) (mso k.1 hkp) ?_
          refine zJ_iconst (v := 3) dX9_stepTo_32 (by decide) ?_
          refine zJ_icmp_ne (tgt := 52) dX9_stepTo_33 (by decide) (fun h9 => absurd h9 (fun h => h h3i)) (fun h33c => ?_)
          refine zJ_aload_n dX9_stepTo_36 rfl ?_
          refine zJ_getr (j := 152) dX9_stepTo_37 fX9_83 (by first | rfl | assumption | exact hM.at (by decide) (by decide)) rfl (by first | rfl | assumption | exact hM.rf (by decide) rfl) ?_
          refine zJ_iload_n dX9_stepTo_40 rfl ?_
          refine zJ_ialdN (i := x) (v := (nI q)) dX9_stepTo_41 (by first | rfl | assumption | exact hM.at (by decide) (by decide)) rfl (by omega) (by decide) hbx ?_
          refine zJ_iload_n dX9_stepTo_42 rfl ?_
          refine zJ_icmp_ne (tgt := 50) dX9_stepTo_43 (by decide) (fun h43c => ?_) (fun h9 => absurd h9 (fun h => hqy ((nI_eq (by omega) (by omega)).mp h)))
          refine zJ_lconst (v := 0) dX9_stepTo_50 (by decide) ?_
          exact zJ_lret dX9_stepTo_51 rfl (by decide) (by decide) hQ
    · have h3i : ¬ nI (T.2.1 k.1) = 3 := fun h => h3 ((nI_eq (b := 3) (by omega) (by decide)).mp h)
      have hbt : ztb T k (zcC T k) = zmb T k := by simp only [ztb, h3, if_false]
      have hwp := zwS_pos hmb
      have hnz : ¬ lN (zwS T k) = 0 := fun e => by
        have := (fb_lN_inj (b := 0) (by omega) (by decide)).mp e
        omega
      have hle : v * (1000 - zsh T k (zcC T k)) / 1000 ≤ 1000000000 := by
        have : v * (1000 - zsh T k (zcC T k)) ≤ v * 1000 := Nat.mul_le_mul_left v (by omega)
        omega
      have hwy : T.2.2.2 (k.1 * 8 + y) ≤ 99 := (hpw k.1 y hk1 hy).1
      have hmw : v * (1000 - zsh T k (zcC T k)) / 1000 * T.2.2.2 (k.1 * 8 + y) ≤ 1000000000 * 99 := Nat.mul_le_mul hle hwy
      rw [show zst1 T k v y = v * (1000 - zsh T k (zcC T k)) / 1000 * T.2.2.2 (k.1 * 8 + y) / zwS T k by
        have e1 : (zmb T k).testBit y = true := by rw [zmb_tb T k hy]; exact hmy
        simp only [zst1, hbt, e1, zwt_mb h3, hwp, true_and, if_true, zwu, h3, if_false]] at hQ
      refine zJ_aload_n dX9_stepTo_0 rfl ?_
      refine zJ_getr (j := 143) dX9_stepTo_1 fX9_63 (by first | rfl | assumption | exact hM.at (by decide) (by decide)) rfl (by first | rfl | assumption | exact hM.rf (by decide) rfl) ?_
      refine zJ_bipush (v := 8) dX9_stepTo_4 (by decide) ?_
      refine zJ_iload_n dX9_stepTo_6 rfl ?_
      refine zJ_imul dX9_stepTo_7 ?_
      refine zJ_iload_n dX9_stepTo_8 rfl ?_
      refine zJ_iadd dX9_stepTo_9 ?_
      refine zJ_ialdN (i := (x * 8 + y)) (v := (nI c9)) dX9_stepTo_10 (by first | rfl | assumption | exact hM.at (by decide) (by decide)) (na_8 _ _) (by omega) (by decide) hc2 ?_
      refine zJ_istore (ls2 := fun x11d => [(5, .int x11d), (0, .ref 100), (1, .int (nI x)), (2, .int (nI y)), (3, .long (lN v))]) dX9_stepTo_11 (by decide) (fun _ => rfl) (fun x11d ex11d => ?_)
      obtain rfl : x11d = (nI c9) := ex11d
      refine zJ_iload dX9_stepTo_13 rfl ?_
      refine zJ_iconst (v := (-1)) dX9_stepTo_15 (by decide) ?_
      refine zJ_icmp_ne (tgt := 21) dX9_stepTo_16 (by decide) (fun h16d => ?_) (fun h9 => absurd h9 (nI_m1 (show c9 < 2 ^ 31 by omega)))
      refine zJ_aload_n dX9_stepTo_21 rfl ?_
      refine zJ_getr (j := 148) dX9_stepTo_22 fX9_70 (by first | rfl | assumption | exact hM.at (by decide) (by decide)) rfl (by first | rfl | assumption | exact hM.rf (by decide) rfl) ?_
      refine zJ_aload_n dX9_stepTo_25 rfl ?_
      refine zJ_getr (j := 139) dX9_stepTo_26 fX9_50 (by first | rfl | assumption | exact hM.at (by decide) (by decide)) rfl (by first | rfl | assumption | exact hM.rf (by decide) rfl) ?_
      refine zJ_iload_n dX9_stepTo_29 rfl ?_
      refine zJ_ialdN (i := x) (v := (nI k.1)) dX9_stepTo_30 (by first | rfl | assumption | exact hM.at (by decide) (by decide)) rfl (by omega) (by decide) y1 ?_
      refine zJ_ialdN (i := k.1) (v := (nI (T.2.1 k.1))) dX9_stepTo_31 (by first | rfl | assumption | exact hM.at (by decide) (by decide)) rfl (by omega) (by decide) (mso k.1 hkp) ?_
      refine zJ_iconst (v := 3) dX9_stepTo_32 (by decide) ?_
      refine zJ_icmp_ne (tgt := 52) dX9_stepTo_33 (by decide) (fun h33d => ?_) (fun h9 => absurd h9 h3i)
      refine zJ_aload_n dX9_stepTo_52 rfl ?_
      refine zJ_iload_n dX9_stepTo_53 rfl ?_
      refine zJ_lload_n dX9_stepTo_54 rfl ?_
      refine zJ_cV2 dX9_stepTo_55 sX9_444 mfX9_sentOf (c_Mo_sentOf Δ w T K hK0 hT0 x k hx v hv hmb h3) (by first | rfl | assumption | exact hM.at (by decide) (by decide)) rfl (Nat.le_of_ble_eq_true rfl) (by decide) (by decide) ?_
      refine zJ_aload_n dX9_stepTo_58 rfl ?_
      refine zJ_getr (j := 112) dX9_stepTo_59 fX9_29 (by first | rfl | assumption | exact hM.at (by decide) (by decide)) rfl (by first | rfl | assumption | exact hM.rf (by decide) rfl) ?_
      refine zJ_bipush (v := 8) dX9_stepTo_62 (by decide) ?_
      refine zJ_aload_n dX9_stepTo_64 rfl ?_
      refine zJ_getr (j := 139) dX9_stepTo_65 fX9_50 (by first | rfl | assumption | exact hM.at (by decide) (by decide)) rfl (by first | rfl | assumption | exact hM.rf (by decide) rfl) ?_
      refine zJ_iload_n dX9_stepTo_68 rfl ?_
      refine zJ_ialdN (i := x) (v := (nI k.1)) dX9_stepTo_69 (by first | rfl | assumption | exact hM.at (by decide) (by decide)) rfl (by omega) (by decide) y1 ?_
      refine zJ_imul dX9_stepTo_70 ?_
      refine zJ_iload_n dX9_stepTo_71 rfl ?_
      refine zJ_iadd dX9_stepTo_72 ?_
      refine zJ_ialdN (i := (k.1 * 8 + y)) (v := (nI (T.2.2.2 (k.1 * 8 + y)))) dX9_stepTo_73 (by first | rfl | assumption | exact hM.at (by decide) (by decide)) (na_8 _ _) (by omega) (by decide) (mwt k.1 y hkp hyp) ?_
      refine zJ_i2l dX9_stepTo_74 ?_
      rw [nI_l (show T.2.2.2 (k.1 * 8 + y) < 2 ^ 31 by omega)]
      refine zJ_lmul dX9_stepTo_75 ?_
      rw [lN_mul]
      refine zJ_aload_n dX9_stepTo_76 rfl ?_
      refine zJ_iload_n dX9_stepTo_77 rfl ?_
      refine zJ_cV1 dX9_stepTo_78 sX9_386 mfX9_weightsOf (c_Mo_weightsOf Δ w T K hK0 hT0 x k hx) (by first | rfl | assumption | exact hM.at (by decide) (by decide)) rfl (Nat.le_of_ble_eq_true rfl) (by decide) (by decide) ?_
      refine zJ_i2l dX9_stepTo_81 ?_
      rw [nI_l (show zwS T k < 2 ^ 31 by omega)]
      refine zJ_ldiv dX9_stepTo_82 hnz ?_
      rw [lN_div (by omega) (by omega)]
      exact zJ_lret dX9_stepTo_83 rfl (by decide) (by decide) hQ
