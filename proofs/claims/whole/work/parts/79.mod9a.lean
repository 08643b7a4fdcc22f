/-! the model: goes, gets, feeling, all -/
set_option maxRecDepth 100000 in
theorem c_Mo_goes (Δ : zD) (w : zW) (U : zTo) (hMu : zMu w U) (hU : zTok U) (h13 : U.1 13 = 0) (x : Int32) : zMp Δ 5 yX9_goes mX9_goes [.ref 100, .int x] w (fun r c => zFM zScr w c ∧ ((¬ (0 < U.1 0 ∧ ∃ q, q ≤ 1 ∧ x = nI q) ∧ c.2.1 100 0 = 1) ∨ ((0 < U.1 0 ∧ ∃ q, q ≤ 1 ∧ x = nI q) ∧ ¬ zfit U 20000 ∧ c.2.1 100 0 = 2) ∨ ((0 < U.1 0 ∧ ∃ q, q ≤ 1 ∧ x = nI q) ∧ zfit U 20000 ∧ c.2.1 100 0 = 0 ∧ ∃ q, q ≤ 1 ∧ x = nI q ∧ ∃ K, zall U K ∧ r = some (.long (lN (if q = 0 then zca (zcas U K) (U.1 7) 8 else zla (zcas U K) 12)))))) := by
  refine zMp.of mfX9_goes (Nat.le_of_ble_eq_true rfl) (fun QR hQ => ?_)
  have hMu0 := hMu
  obtain ⟨hM, u1, u2, u3, u4, u5, u6, u7, u8, u9, uso, unu, uwt⟩ := hMu
  have hp8 := hU.1
  have hU0 := hU
  have M0 : zMs (zsi w 100 0 0) := hM
  have z0 : (zsi w 100 0 0).2.1 100 0 = 0 := by simp [zsi]
  have hMu1 : zMu (zsi w 100 0 0) U := hMu0.fm (zFM.i (l := [0]) (by decide)) (by decide)
  have hp1 : (zsi w 100 0 0).2.1 100 1 = nI (U.1 0) := hMu1.2.1
  have h21 : (zsi w 100 0 0).2.1 100 2 = nI (U.1 12) := hMu1.2.2.1
  by_cases hpos : 0 < U.1 0
  · by_cases hq : ∃ q, q ≤ 1 ∧ x = nI q
    · obtain ⟨q, hq1, rfl⟩ := hq
      rcases (by omega : q = 0 ∨ q = 1) with rfl | rfl
      · refine zJ_aload_n dX9_goes_0 rfl ?_
        refine zJ_iconst (v := 0) dX9_goes_1 (by decide) ?_
        refine zJ_puti dX9_goes_2 fX9_170 (fun q h => by cases h; rfl) (by first | rfl | assumption | exact M0.at (by decide) (by decide) | exact Mc.at (by decide) (by decide)) rfl rfl rfl ?_
        refine zJ_aload_n dX9_goes_5 rfl ?_
        refine zJ_iload_n dX9_goes_6 rfl ?_
        refine zJ_if_eq (tgt := 15) dX9_goes_7 (by decide) (fun _ => ?_) (fun h9 => False.elim (by revert h9; decide))
        refine zJ_aload_n dX9_goes_15 rfl ?_
        refine zJ_geti dX9_goes_16 fX9_298 (by first | rfl | assumption | exact M0.at (by decide) (by decide) | exact Mc.at (by decide) (by decide)) rfl ?_
        rw [hp1]
        refine zJ_if_le (tgt := 26) dX9_goes_19 (by decide) (fun h9 => absurd h9 (fun h => absurd ((nI_leI (b := 0) (by omega) (by decide)).mp h) (by omega))) (fun h19 => ?_)
        refine zJ_iconst (v := 1) dX9_goes_22 (by decide) ?_
        refine zJ_goto (tgt := 27) dX9_goes_23 (by decide) ?_
        refine zJ_iconst (v := 1) dX9_goes_27 (by decide) ?_
        refine zJ_cV2 dX9_goes_28 sX9_291 mfX9_right (c_Mo_right1 Δ (zsi w 100 0 0) M0 z0 1) (by first | rfl | assumption | exact M0.at (by decide) (by decide) | exact Mc.at (by decide) (by decide)) rfl (Nat.le_of_ble_eq_true rfl) (by decide) (by decide) ?_
        refine zJ_if_ne (tgt := 36) dX9_goes_31 (by decide) (fun _ => ?_) (fun h9 => False.elim (by revert h9; decide))
        refine zJ_aload_n dX9_goes_36 rfl ?_
        refine zJ_eV0 dX9_goes_37 sX9_413 mfX9_asTold (c_Mo_asTold Δ (zsi w 100 0 0) U hMu1 hU0 h13) (M0.at (by decide) (by decide)) rfl (Nat.le_of_ble_eq_true rfl) (by decide) (by decide) (fun r c hP => ?_)
        obtain ⟨rfl, hfc, hAc⟩ := hP
        have Mc : zMs c := hAc.1
        have c0 : c.2.1 100 0 = 0 := (hfc.at (by decide)).trans z0
        refine zJ_aload_n dX9_goes_40 rfl ?_
        refine zJ_aload_n dX9_goes_41 rfl ?_
        refine zJ_aload_n dX9_goes_42 rfl ?_
        refine zJ_geti dX9_goes_43 fX9_301 (by first | rfl | assumption | exact M0.at (by decide) (by decide) | exact Mc.at (by decide) (by decide)) rfl ?_
        rw [(hfc.at (by decide)).trans h21]
        refine zJ_eV1 dX9_goes_46 sX9_416 mfX9_asks (c_Mo_asks Δ c U hAc hU0 hpos) (Mc.at (by decide) (by decide)) rfl (Nat.le_of_ble_eq_true rfl) (by decide) (by decide) (fun r d hP => ?_)
        obtain ⟨hfd, hP⟩ := hP
        have Md : zMs d := Mc.fm hfd
        have d0 : d.2.1 100 0 = 0 := (hfd.at (by decide)).trans c0
        rcases hP with ⟨rfl, K, hKd, hUd⟩ | ⟨rfl, hno⟩
        · refine zJ_iconst (v := 2) dX9_goes_49 (by decide) ?_
          refine zJ_cV2 dX9_goes_50 sX9_291 mfX9_right (c_Mo_right1 Δ d Md d0 2) (by first | rfl | assumption | exact Md.at (by decide) (by decide)) rfl (Nat.le_of_ble_eq_true rfl) (by decide) (by decide) ?_
          refine zJ_if_ne (tgt := 58) dX9_goes_53 (by decide) (fun _ => ?_) (fun h9 => False.elim (by revert h9; decide))
          refine zJ_aload_n dX9_goes_58 rfl ?_
          refine zJ_eV0 dX9_goes_59 sX9_419 mfX9_spreads (c_Mo_spreads Δ d U K hKd hU0 (hUd.bm hU0 hKd)) (Md.at (by decide) (by decide)) rfl (Nat.le_of_ble_eq_true rfl) (by decide) (by decide) (fun r e hP => ?_)
          obtain ⟨rfl, hfe, hCe⟩ := hP
          have Me : zMs e := Md.fm hfe
          have e0 : e.2.1 100 0 = 0 := (hfe.at (by decide)).trans d0
          have hAe : zMa e U := hKd.1.fm hfe (by decide)
          refine zJ_iload_n dX9_goes_62 rfl ?_
          refine zJ_if_ne (tgt := 73) dX9_goes_63 (by decide) (fun h9 => False.elim (by revert h9; decide)) (fun _ => ?_)
          refine zJ_aload_n dX9_goes_66 rfl ?_
          refine zJ_cV0 dX9_goes_67 sX9_422 mfX9_endAll (c_Mo_endAll Δ e U hAe hU0 (zcas U K) hCe) (by first | rfl | assumption | exact Me.at (by decide) (by decide)) rfl (Nat.le_of_ble_eq_true rfl) (by decide) (by decide) ?_
          refine zJ_goto (tgt := 77) dX9_goes_70 (by decide) ?_
          exact zJ_lret dX9_goes_77 rfl (by decide) (by decide) (hQ _ _ ⟨((zFM.t0.tr (hfc.mono (by decide))).tr (hfd.mono (by decide))).tr (hfe.mono (by decide)), Or.inr (Or.inr ⟨⟨hpos, 0, by decide, rfl⟩, ⟨K, hKd.2.2.1, hKd.2.1.2.2.1⟩, e0, 0, by decide, rfl, K, hKd.2.2.1, by rw [zca_pp hU0 hKd]; rfl⟩)⟩)
        · refine zJ_iconst (v := 2) dX9_goes_49 (by decide) ?_
          refine zJ_cV2 dX9_goes_50 sX9_291 mfX9_right (c_Mo_right0 Δ d Md d0 2 (by decide)) (by first | rfl | assumption | exact Md.at (by decide) (by decide)) rfl (Nat.le_of_ble_eq_true rfl) (by decide) (by decide) ?_
          refine zJ_if_ne (tgt := 58) dX9_goes_53 (by decide) (fun h9 => False.elim (by revert h9; decide)) (fun _ => ?_)
          refine zJ_lconst (v := 0) dX9_goes_56 (by decide) ?_
          exact zJ_lret dX9_goes_57 rfl (by decide) (by decide) (hQ _ _ ⟨((zFM.t0.tr (hfc.mono (by decide))).tr (hfd.mono (by decide))).tr zFM.t0, Or.inr (Or.inl ⟨⟨hpos, 0, by decide, rfl⟩, hno, by simp [zsi]⟩)⟩)
      · refine zJ_aload_n dX9_goes_0 rfl ?_
        refine zJ_iconst (v := 0) dX9_goes_1 (by decide) ?_
        refine zJ_puti dX9_goes_2 fX9_170 (fun q h => by cases h; rfl) (by first | rfl | assumption | exact M0.at (by decide) (by decide) | exact Mc.at (by decide) (by decide)) rfl rfl rfl ?_
        refine zJ_aload_n dX9_goes_5 rfl ?_
        refine zJ_iload_n dX9_goes_6 rfl ?_
        refine zJ_if_eq (tgt := 15) dX9_goes_7 (by decide) (fun h9 => False.elim (by revert h9; decide)) (fun _ => ?_)
        refine zJ_iload_n dX9_goes_10 rfl ?_
        refine zJ_iconst (v := 1) dX9_goes_11 (by decide) ?_
        refine zJ_icmp_ne (tgt := 26) dX9_goes_12 (by decide) (fun h9 => False.elim (by revert h9; decide)) (fun _ => ?_)
        refine zJ_aload_n dX9_goes_15 rfl ?_
        refine zJ_geti dX9_goes_16 fX9_298 (by first | rfl | assumption | exact M0.at (by decide) (by decide) | exact Mc.at (by decide) (by decide)) rfl ?_
        rw [hp1]
        refine zJ_if_le (tgt := 26) dX9_goes_19 (by decide) (fun h9 => absurd h9 (fun h => absurd ((nI_leI (b := 0) (by omega) (by decide)).mp h) (by omega))) (fun h19 => ?_)
        refine zJ_iconst (v := 1) dX9_goes_22 (by decide) ?_
        refine zJ_goto (tgt := 27) dX9_goes_23 (by decide) ?_
        refine zJ_iconst (v := 1) dX9_goes_27 (by decide) ?_
        refine zJ_cV2 dX9_goes_28 sX9_291 mfX9_right (c_Mo_right1 Δ (zsi w 100 0 0) M0 z0 1) (by first | rfl | assumption | exact M0.at (by decide) (by decide) | exact Mc.at (by decide) (by decide)) rfl (Nat.le_of_ble_eq_true rfl) (by decide) (by decide) ?_
        refine zJ_if_ne (tgt := 36) dX9_goes_31 (by decide) (fun _ => ?_) (fun h9 => False.elim (by revert h9; decide))
        refine zJ_aload_n dX9_goes_36 rfl ?_
        refine zJ_eV0 dX9_goes_37 sX9_413 mfX9_asTold (c_Mo_asTold Δ (zsi w 100 0 0) U hMu1 hU0 h13) (M0.at (by decide) (by decide)) rfl (Nat.le_of_ble_eq_true rfl) (by decide) (by decide) (fun r c hP => ?_)
        obtain ⟨rfl, hfc, hAc⟩ := hP
        have Mc : zMs c := hAc.1
        have c0 : c.2.1 100 0 = 0 := (hfc.at (by decide)).trans z0
        refine zJ_aload_n dX9_goes_40 rfl ?_
        refine zJ_aload_n dX9_goes_41 rfl ?_
        refine zJ_aload_n dX9_goes_42 rfl ?_
        refine zJ_geti dX9_goes_43 fX9_301 (by first | rfl | assumption | exact M0.at (by decide) (by decide) | exact Mc.at (by decide) (by decide)) rfl ?_
        rw [(hfc.at (by decide)).trans h21]
        refine zJ_eV1 dX9_goes_46 sX9_416 mfX9_asks (c_Mo_asks Δ c U hAc hU0 hpos) (Mc.at (by decide) (by decide)) rfl (Nat.le_of_ble_eq_true rfl) (by decide) (by decide) (fun r d hP => ?_)
        obtain ⟨hfd, hP⟩ := hP
        have Md : zMs d := Mc.fm hfd
        have d0 : d.2.1 100 0 = 0 := (hfd.at (by decide)).trans c0
        rcases hP with ⟨rfl, K, hKd, hUd⟩ | ⟨rfl, hno⟩
        · refine zJ_iconst (v := 2) dX9_goes_49 (by decide) ?_
          refine zJ_cV2 dX9_goes_50 sX9_291 mfX9_right (c_Mo_right1 Δ d Md d0 2) (by first | rfl | assumption | exact Md.at (by decide) (by decide)) rfl (Nat.le_of_ble_eq_true rfl) (by decide) (by decide) ?_
          refine zJ_if_ne (tgt := 58) dX9_goes_53 (by decide) (fun _ => ?_) (fun h9 => False.elim (by revert h9; decide))
          refine zJ_aload_n dX9_goes_58 rfl ?_
          refine zJ_eV0 dX9_goes_59 sX9_419 mfX9_spreads (c_Mo_spreads Δ d U K hKd hU0 (hUd.bm hU0 hKd)) (Md.at (by decide) (by decide)) rfl (Nat.le_of_ble_eq_true rfl) (by decide) (by decide) (fun r e hP => ?_)
          obtain ⟨rfl, hfe, hCe⟩ := hP
          have Me : zMs e := Md.fm hfe
          have e0 : e.2.1 100 0 = 0 := (hfe.at (by decide)).trans d0
          have hAe : zMa e U := hKd.1.fm hfe (by decide)
          refine zJ_iload_n dX9_goes_62 rfl ?_
          refine zJ_if_ne (tgt := 73) dX9_goes_63 (by decide) (fun _ => ?_) (fun h9 => False.elim (by revert h9; decide))
          refine zJ_aload_n dX9_goes_73 rfl ?_
          refine zJ_cV0 dX9_goes_74 sX9_426 mfX9_goesAll (c_Mo_goesAll Δ e U hAe hU0 (zcas U K) hCe) (by first | rfl | assumption | exact Me.at (by decide) (by decide)) rfl (Nat.le_of_ble_eq_true rfl) (by decide) (by decide) ?_
          exact zJ_lret dX9_goes_77 rfl (by decide) (by decide) (hQ _ _ ⟨((zFM.t0.tr (hfc.mono (by decide))).tr (hfd.mono (by decide))).tr (hfe.mono (by decide)), Or.inr (Or.inr ⟨⟨hpos, 1, by decide, rfl⟩, ⟨K, hKd.2.2.1, hKd.2.1.2.2.1⟩, e0, 1, by decide, rfl, K, hKd.2.2.1, by rw [zla_pp hU0 hKd]; rfl⟩)⟩)
        · refine zJ_iconst (v := 2) dX9_goes_49 (by decide) ?_
          refine zJ_cV2 dX9_goes_50 sX9_291 mfX9_right (c_Mo_right0 Δ d Md d0 2 (by decide)) (by first | rfl | assumption | exact Md.at (by decide) (by decide)) rfl (Nat.le_of_ble_eq_true rfl) (by decide) (by decide) ?_
          refine zJ_if_ne (tgt := 58) dX9_goes_53 (by decide) (fun h9 => False.elim (by revert h9; decide)) (fun _ => ?_)
          refine zJ_lconst (v := 0) dX9_goes_56 (by decide) ?_
          exact zJ_lret dX9_goes_57 rfl (by decide) (by decide) (hQ _ _ ⟨((zFM.t0.tr (hfc.mono (by decide))).tr (hfd.mono (by decide))).tr zFM.t0, Or.inr (Or.inl ⟨⟨hpos, 1, by decide, rfl⟩, hno, by simp [zsi]⟩)⟩)
    · refine (fun hQ9 => ?_) (hQ (some (.long 0)) (zsi (zsi w 100 0 0) 100 0 1) ⟨zFM.t0.tr zFM.t0, Or.inl ⟨fun h => hq h.2, by simp [zsi]⟩⟩)
      refine zJ_aload_n dX9_goes_0 rfl ?_
      refine zJ_iconst (v := 0) dX9_goes_1 (by decide) ?_
      refine zJ_puti dX9_goes_2 fX9_170 (fun q h => by cases h; rfl) (by first | rfl | assumption | exact M0.at (by decide) (by decide)) rfl rfl rfl ?_
      refine zJ_aload_n dX9_goes_5 rfl ?_
      refine zJ_iload_n dX9_goes_6 rfl ?_
      refine zJ_if_eq (tgt := 15) dX9_goes_7 (by decide) (fun h9 => absurd h9 (fun h => hq ⟨0, by decide, h⟩)) (fun h7 => ?_)
      refine zJ_iload_n dX9_goes_10 rfl ?_
      refine zJ_iconst (v := 1) dX9_goes_11 (by decide) ?_
      refine zJ_icmp_ne (tgt := 26) dX9_goes_12 (by decide) (fun h12 => ?_) (fun h9 => absurd h9 (fun h => hq ⟨1, by decide, h⟩))
      refine zJ_iconst (v := 0) dX9_goes_26 (by decide) ?_
      refine zJ_iconst (v := 1) dX9_goes_27 (by decide) ?_
      refine zJ_cV2 dX9_goes_28 sX9_291 mfX9_right (c_Mo_right0 Δ (zsi w 100 0 0) M0 z0 1 (by decide)) (by first | rfl | assumption | exact M0.at (by decide) (by decide)) rfl (Nat.le_of_ble_eq_true rfl) (by decide) (by decide) ?_
      refine zJ_if_ne (tgt := 36) dX9_goes_31 (by decide) (fun h9 => False.elim (by revert h9; decide)) (fun _ => ?_)
      refine zJ_lconst (v := 0) dX9_goes_34 (by decide) ?_
      exact zJ_lret dX9_goes_35 rfl (by decide) (by decide) hQ9
  · refine (fun hQ9 => ?_) (hQ (some (.long 0)) (zsi (zsi w 100 0 0) 100 0 1) ⟨zFM.t0.tr zFM.t0, Or.inl ⟨fun h => hpos h.1, by simp [zsi]⟩⟩)
    have hz0 : U.1 0 = 0 := by omega
    refine zJ_aload_n dX9_goes_0 rfl ?_
    refine zJ_iconst (v := 0) dX9_goes_1 (by decide) ?_
    refine zJ_puti dX9_goes_2 fX9_170 (fun q h => by cases h; rfl) (by first | rfl | assumption | exact M0.at (by decide) (by decide)) rfl rfl rfl ?_
    refine zJ_aload_n dX9_goes_5 rfl ?_
    refine zJ_iload_n dX9_goes_6 rfl ?_
    refine zJ_if_eq (tgt := 15) dX9_goes_7 (by decide) (fun h7 => ?_) (fun h7 => ?_)
    · refine zJ_aload_n dX9_goes_15 rfl ?_
      refine zJ_geti dX9_goes_16 fX9_298 (by first | rfl | assumption | exact M0.at (by decide) (by decide)) rfl ?_
      rw [hp1]
      refine zJ_if_le (tgt := 26) dX9_goes_19 (by decide) (fun h19 => ?_) (fun h9 => absurd (show nI (U.1 0) ≤ 0 by rw [show U.1 0 = 0 by omega]; exact Int32.le_refl _) h9)
      refine zJ_iconst (v := 0) dX9_goes_26 (by decide) ?_
      refine zJ_iconst (v := 1) dX9_goes_27 (by decide) ?_
      refine zJ_cV2 dX9_goes_28 sX9_291 mfX9_right (c_Mo_right0 Δ (zsi w 100 0 0) M0 z0 1 (by decide)) (by first | rfl | assumption | exact M0.at (by decide) (by decide)) rfl (Nat.le_of_ble_eq_true rfl) (by decide) (by decide) ?_
      refine zJ_if_ne (tgt := 36) dX9_goes_31 (by decide) (fun h9 => False.elim (by revert h9; decide)) (fun _ => ?_)
      refine zJ_lconst (v := 0) dX9_goes_34 (by decide) ?_
      exact zJ_lret dX9_goes_35 rfl (by decide) (by decide) hQ9
    · refine zJ_iload_n dX9_goes_10 rfl ?_
      refine zJ_iconst (v := 1) dX9_goes_11 (by decide) ?_
      refine zJ_icmp_ne (tgt := 26) dX9_goes_12 (by decide) (fun h12 => ?_) (fun h12 => ?_)
      · refine zJ_iconst (v := 0) dX9_goes_26 (by decide) ?_
        refine zJ_iconst (v := 1) dX9_goes_27 (by decide) ?_
        refine zJ_cV2 dX9_goes_28 sX9_291 mfX9_right (c_Mo_right0 Δ (zsi w 100 0 0) M0 z0 1 (by decide)) (by first | rfl | assumption | exact M0.at (by decide) (by decide)) rfl (Nat.le_of_ble_eq_true rfl) (by decide) (by decide) ?_
        refine zJ_if_ne (tgt := 36) dX9_goes_31 (by decide) (fun h9 => False.elim (by revert h9; decide)) (fun _ => ?_)
        refine zJ_lconst (v := 0) dX9_goes_34 (by decide) ?_
        exact zJ_lret dX9_goes_35 rfl (by decide) (by decide) hQ9
      · refine zJ_aload_n dX9_goes_15 rfl ?_
        refine zJ_geti dX9_goes_16 fX9_298 (by first | rfl | assumption | exact M0.at (by decide) (by decide)) rfl ?_
        rw [hp1]
        refine zJ_if_le (tgt := 26) dX9_goes_19 (by decide) (fun h19 => ?_) (fun h9 => absurd (show nI (U.1 0) ≤ 0 by rw [show U.1 0 = 0 by omega]; exact Int32.le_refl _) h9)
        refine zJ_iconst (v := 0) dX9_goes_26 (by decide) ?_
        refine zJ_iconst (v := 1) dX9_goes_27 (by decide) ?_
        refine zJ_cV2 dX9_goes_28 sX9_291 mfX9_right (c_Mo_right0 Δ (zsi w 100 0 0) M0 z0 1 (by decide)) (by first | rfl | assumption | exact M0.at (by decide) (by decide)) rfl (Nat.le_of_ble_eq_true rfl) (by decide) (by decide) ?_
        refine zJ_if_ne (tgt := 36) dX9_goes_31 (by decide) (fun h9 => False.elim (by revert h9; decide)) (fun _ => ?_)
        refine zJ_lconst (v := 0) dX9_goes_34 (by decide) ?_
        exact zJ_lret dX9_goes_35 rfl (by decide) (by decide) hQ9
set_option maxRecDepth 100000 in
theorem c_Mo_gets (Δ : zD) (w : zW) (U : zTo) (hMu : zMu w U) (hU : zTok U) (h13 : U.1 13 = 0) (x : Int32) : zMp Δ 5 yX9_gets mX9_gets [.ref 100, .int x] w (fun r c => zFM zScr w c ∧ ((¬ (∃ p, p < U.1 0 ∧ x = nI p) ∧ c.2.1 100 0 = 1) ∨ ((∃ p, p < U.1 0 ∧ x = nI p) ∧ ¬ zfit U 20000 ∧ c.2.1 100 0 = 2) ∨ ((∃ p, p < U.1 0 ∧ x = nI p) ∧ zfit U 20000 ∧ c.2.1 100 0 = 0 ∧ ∃ p, p < U.1 0 ∧ x = nI p ∧ r = some (.long (lZ ((zvl U (zfk U)).2.1 p)))))) := by
  refine zMp.of mfX9_gets (Nat.le_of_ble_eq_true rfl) (fun QR hQ => ?_)
  have hMu0 := hMu
  obtain ⟨hM, u1, u2, u3, u4, u5, u6, u7, u8, u9, uso, unu, uwt⟩ := hMu
  have hp8 := hU.1
  have hU0 := hU
  have M0 : zMs (zsi w 100 0 0) := hM
  have z0 : (zsi w 100 0 0).2.1 100 0 = 0 := by simp [zsi]
  have hMu1 : zMu (zsi w 100 0 0) U := hMu0.fm (zFM.i (l := [0]) (by decide)) (by decide)
  have hp1 : (zsi w 100 0 0).2.1 100 1 = nI (U.1 0) := hMu1.2.1
  have h21 : (zsi w 100 0 0).2.1 100 2 = nI (U.1 12) := hMu1.2.2.1
  by_cases hx : ∃ p, p < U.1 0 ∧ x = nI p
  · obtain ⟨p, hp, rfl⟩ := hx
    have hpos : 0 < U.1 0 := by omega
    refine zJ_aload_n dX9_gets_0 rfl ?_
    refine zJ_iconst (v := 0) dX9_gets_1 (by decide) ?_
    refine zJ_puti dX9_gets_2 fX9_170 (fun q h => by cases h; rfl) (by first | rfl | assumption | exact M0.at (by decide) (by decide) | exact Mc.at (by decide) (by decide)) rfl rfl rfl ?_
    refine zJ_aload_n dX9_gets_5 rfl ?_
    refine zJ_iload_n dX9_gets_6 rfl ?_
    refine zJ_cV1 dX9_gets_7 sX9_339 mfX9_isPerson ((c_Mo_isPerson Δ (zsi w 100 0 0) M0 z0 (nI p) (U.1 0) hp1 hp8).1 ⟨p, hp, rfl⟩) (by first | rfl | assumption | exact M0.at (by decide) (by decide) | exact Mc.at (by decide) (by decide)) rfl (Nat.le_of_ble_eq_true rfl) (by decide) (by decide) ?_
    refine zJ_if_ne (tgt := 15) dX9_gets_10 (by decide) (fun _ => ?_) (fun h9 => False.elim (by revert h9; decide))
    refine zJ_aload_n dX9_gets_15 rfl ?_
    refine zJ_eV0 dX9_gets_16 sX9_413 mfX9_asTold (c_Mo_asTold Δ (zsi w 100 0 0) U hMu1 hU0 h13) (M0.at (by decide) (by decide)) rfl (Nat.le_of_ble_eq_true rfl) (by decide) (by decide) (fun r c hP => ?_)
    obtain ⟨rfl, hfc, hAc⟩ := hP
    have Mc : zMs c := hAc.1
    have c0 : c.2.1 100 0 = 0 := (hfc.at (by decide)).trans z0
    refine zJ_aload_n dX9_gets_19 rfl ?_
    refine zJ_aload_n dX9_gets_20 rfl ?_
    refine zJ_aload_n dX9_gets_21 rfl ?_
    refine zJ_geti dX9_gets_22 fX9_301 (by first | rfl | assumption | exact M0.at (by decide) (by decide) | exact Mc.at (by decide) (by decide)) rfl ?_
    rw [(hfc.at (by decide)).trans h21]
    refine zJ_eV1 dX9_gets_25 sX9_416 mfX9_asks (c_Mo_asks Δ c U hAc hU0 hpos) (Mc.at (by decide) (by decide)) rfl (Nat.le_of_ble_eq_true rfl) (by decide) (by decide) (fun r d hP => ?_)
    obtain ⟨hfd, hP⟩ := hP
    have Md : zMs d := Mc.fm hfd
    have d0 : d.2.1 100 0 = 0 := (hfd.at (by decide)).trans c0
    rcases hP with ⟨rfl, K, hKd, hUd⟩ | ⟨rfl, hno⟩
    · refine zJ_iconst (v := 2) dX9_gets_28 (by decide) ?_
      refine zJ_cV2 dX9_gets_29 sX9_291 mfX9_right (c_Mo_right1 Δ d Md d0 2) (by first | rfl | assumption | exact Md.at (by decide) (by decide)) rfl (Nat.le_of_ble_eq_true rfl) (by decide) (by decide) ?_
      refine zJ_if_eq (tgt := 44) dX9_gets_32 (by decide) (fun h9 => False.elim (by revert h9; decide)) (fun _ => ?_)
      refine zJ_aload_n dX9_gets_35 rfl ?_
      refine zJ_getr (j := 150) dX9_gets_36 fX9_76 (by first | rfl | assumption | exact Md.at (by decide) (by decide)) rfl (by first | rfl | assumption | exact Md.rf (by decide) rfl) ?_
      refine zJ_iload_n dX9_gets_39 rfl ?_
      refine zJ_laldN (i := p) (v := (lZ ((zvl U (zfk U)).2.1 p))) dX9_gets_40 (by first | rfl | assumption | exact Md.at (by decide) (by decide)) rfl (by omega) (by decide) (by have := (hUd 0 (zfk U) (Nat.le_refl _) (zall_0 hKd.2.2.1)).2.1 p hp; rwa [Nat.zero_mul, Nat.zero_add] at this) ?_
      refine zJ_goto (tgt := 45) dX9_gets_41 (by decide) ?_
      exact zJ_lret dX9_gets_45 rfl (by decide) (by decide) (hQ _ _ ⟨((zFM.t0.tr (hfc.mono (by decide))).tr (hfd.mono (by decide))), Or.inr (Or.inr ⟨⟨p, hp, rfl⟩, ⟨K, hKd.2.2.1, hKd.2.1.2.2.1⟩, d0, p, hp, rfl, rfl⟩)⟩)
    · refine zJ_iconst (v := 2) dX9_gets_28 (by decide) ?_
      refine zJ_cV2 dX9_gets_29 sX9_291 mfX9_right (c_Mo_right0 Δ d Md d0 2 (by decide)) (by first | rfl | assumption | exact Md.at (by decide) (by decide)) rfl (Nat.le_of_ble_eq_true rfl) (by decide) (by decide) ?_
      refine zJ_if_eq (tgt := 44) dX9_gets_32 (by decide) (fun _ => ?_) (fun h9 => False.elim (by revert h9; decide))
      refine zJ_lconst (v := 0) dX9_gets_44 (by decide) ?_
      exact zJ_lret dX9_gets_45 rfl (by decide) (by decide) (hQ _ _ ⟨((zFM.t0.tr (hfc.mono (by decide))).tr (hfd.mono (by decide))).tr zFM.t0, Or.inr (Or.inl ⟨⟨p, hp, rfl⟩, hno, by simp [zsi]⟩)⟩)
  · refine (fun hQ9 => ?_) (hQ (some (.long 0)) (zsi (zsi w 100 0 0) 100 0 1) ⟨zFM.t0.tr zFM.t0, Or.inl ⟨hx, by simp [zsi]⟩⟩)
    refine zJ_aload_n dX9_gets_0 rfl ?_
    refine zJ_iconst (v := 0) dX9_gets_1 (by decide) ?_
    refine zJ_puti dX9_gets_2 fX9_170 (fun q h => by cases h; rfl) (by first | rfl | assumption | exact M0.at (by decide) (by decide)) rfl rfl rfl ?_
    refine zJ_aload_n dX9_gets_5 rfl ?_
    refine zJ_iload_n dX9_gets_6 rfl ?_
    refine zJ_cV1 dX9_gets_7 sX9_339 mfX9_isPerson ((c_Mo_isPerson Δ (zsi w 100 0 0) M0 z0 x (U.1 0) hp1 hp8).2 hx) (by first | rfl | assumption | exact M0.at (by decide) (by decide)) rfl (Nat.le_of_ble_eq_true rfl) (by decide) (by decide) ?_
    refine zJ_if_ne (tgt := 15) dX9_gets_10 (by decide) (fun h9 => False.elim (by revert h9; decide)) (fun _ => ?_)
    refine zJ_lconst (v := 0) dX9_gets_13 (by decide) ?_
    exact zJ_lret dX9_gets_14 rfl (by decide) (by decide) hQ9
theorem zFM.sand {l : List Nat} {w e : zW} {j : Nat} {v : Int32} (hf : zFM l (zsi w 100 j v) e) (hj : j ∉ l) : zFM l w (zsi e 100 j (w.2.1 100 j)) := by
  refine ⟨hf.1, hf.2.1, fun q hq => ?_, fun a b ha hk => ?_⟩
  · obtain ⟨h1, h2⟩ := hf.2.2.1 q hq
    refine ⟨?_, h2⟩
    by_cases hqj : q = j
    · subst hqj; simp [zsi]
    · simp only [zsi, hqj, and_false, if_false] at h1 ⊢; exact h1
  · obtain ⟨h1, h2⟩ := hf.2.2.2 a b ha hk
    refine ⟨?_, h2⟩
    simp only [zsi, ha, false_and, if_false] at h1 ⊢; exact h1
theorem zMa.w9 {w : zW} {U : zTo} {q : Nat} (h : zMa w (zTs U 11 q)) : zMa (zsi w 100 9 (nI (U.1 11))) U := by
  obtain ⟨h0, h1, h2, h3, h4, h5, h6, h7, h8, h9, h10, h11, h12⟩ := h
  refine ⟨h0, ?_, ?_, ?_, ?_, ?_, ?_, ?_, ?_, ?_, fun p hp => ?_, fun p hp => ?_, fun p q hp hq => ?_⟩
  · simpa [zsi, zTs] using h1
  · simpa [zsi, zTs] using h2
  · simpa [zsi, zTs] using h3
  · simpa [zsi, zTs] using h4
  · simpa [zsi, zTs] using h5
  · simpa [zsi, zTs] using h6
  · simpa [zsi, zTs] using h7
  · simp [zsi]
  · simpa [zsi, zTs] using h9
  · simpa [zsi, zTs] using h10 p (by simpa [zTs] using hp)
  · simpa [zsi, zTs] using h11 p (by simpa [zTs] using hp)
  · simpa [zsi, zTs] using h12 p q (by simpa [zTs] using hp) (by simpa [zTs] using hq)
theorem zMu.set {w : zW} {U : zTo} {f k v : Nat} (h : zMu w U) (hf : (f = 6 ∧ k = 8) ∨ (f = 7 ∧ k = 9) ∨ (f = 9 ∧ k = 11)) : zMu (zsi w 100 f (nI v)) (zTs U k v) := by
  obtain ⟨h0, h1, h2, h3, h4, h5, h6, h7, h8, h9, h10, h11, h12⟩ := h
  rcases hf with ⟨rfl, rfl⟩ | ⟨rfl, rfl⟩ | ⟨rfl, rfl⟩ <;>
    exact ⟨h0, by simp [zsi, zTs, h1], by simp [zsi, zTs, h2], by simp [zsi, zTs, h3], by simp [zsi, zTs, h4], by simp [zsi, zTs, h5], by simp [zsi, zTs, h6], by simp [zsi, zTs, h7], by simp [zsi, zTs, h8], by simp [zsi, zTs, h9], fun p hp => by simp [zsi, zTs]; exact h10 p (by simpa [zTs] using hp), fun p hp => by simp [zsi, zTs]; exact h11 p (by simpa [zTs] using hp), fun p q hp hq => by simp [zsi, zTs]; exact h12 p q (by simpa [zTs] using hp) (by simpa [zTs] using hq)⟩
set_option maxRecDepth 100000 in
theorem c_Mo_feeling (Δ : zD) (w : zW) (U : zTo) (hMu : zMu w U) (hU : zTok U) (h13 : U.1 13 = 0) (x : Int32) : zMp Δ 5 yX9_feeling mX9_feeling [.ref 100, .int x] w (fun r c => zFM zScr w c ∧ ((¬ 0 < U.1 0 ∧ c.2.1 100 0 = 1) ∨ (0 < U.1 0 ∧ (¬ ∃ q, (1 ≤ q ∧ q ≤ 99) ∧ x = nI q) ∧ c.2.1 100 0 = 2) ∨ (0 < U.1 0 ∧ ∃ q, (1 ≤ q ∧ q ≤ 99) ∧ x = nI q ∧ ((¬ zfit (zTs U 11 q) 20000 ∧ c.2.1 100 0 = 2) ∨ (zfit (zTs U 11 q) 20000 ∧ c.2.1 100 0 = 0 ∧ ∃ K, zall (zTs U 11 q) K ∧ r = some (.long (lN (zla (zcas (zTs U 11 q) K) 12)))))))) := by
  refine zMp.of mfX9_feeling (Nat.le_of_ble_eq_true rfl) (fun QR hQ => ?_)
  have hMu0 := hMu
  obtain ⟨hM, u1, u2, u3, u4, u5, u6, u7, u8, u9, uso, unu, uwt⟩ := hMu
  have hp8 := hU.1
  have hU0 := hU
  have M0 : zMs (zsi w 100 0 0) := hM
  have z0 : (zsi w 100 0 0).2.1 100 0 = 0 := by simp [zsi]
  have hMu1 : zMu (zsi w 100 0 0) U := hMu0.fm (zFM.i (l := [0]) (by decide)) (by decide)
  have hp1 : (zsi w 100 0 0).2.1 100 1 = nI (U.1 0) := hMu1.2.1
  have h21 : (zsi w 100 0 0).2.1 100 2 = nI (U.1 12) := hMu1.2.2.1
  by_cases hpos : 0 < U.1 0
  · by_cases hq : ∃ q, 1 ≤ q ∧ q ≤ 99 ∧ x = nI q
    · obtain ⟨q, hq1, hq2, rfl⟩ := hq
      have hU2 : zTok (zTs U 11 q) := hU0.s (by omega)
      have hMuq : zMu (zsi (zsi w 100 0 0) 100 9 (nI q)) (zTs U 11 q) := hMu1.set (by omega)
      have z1 : (zsi (zsi w 100 0 0) 100 9 (nI q)).2.1 100 0 = 0 := by simp [zsi]
      have h91 : (zsi w 100 0 0).2.1 100 9 = nI (U.1 11) := hMu1.2.2.2.2.2.2.2.2.2.1
      have h22 : (zsi (zsi w 100 0 0) 100 9 (nI q)).2.1 100 2 = nI (U.1 12) := hMuq.2.2.1
      refine zJ_aload_n dX9_feeling_0 rfl ?_
      refine zJ_iconst (v := 0) dX9_feeling_1 (by decide) ?_
      refine zJ_puti dX9_feeling_2 fX9_170 (fun q h => by cases h; rfl) (by first | rfl | assumption | exact M0.at (by decide) (by decide) | exact Mc.at (by decide) (by decide)) rfl rfl rfl ?_
      refine zJ_aload_n dX9_feeling_5 rfl ?_
      refine zJ_aload_n dX9_feeling_6 rfl ?_
      refine zJ_geti dX9_feeling_7 fX9_298 (by first | rfl | assumption | exact M0.at (by decide) (by decide) | exact Mc.at (by decide) (by decide)) rfl ?_
      rw [hp1]
      refine zJ_if_le (tgt := 17) dX9_feeling_10 (by decide) (fun h9 => absurd h9 (fun h => absurd ((nI_leI (b := 0) (by omega) (by decide)).mp h) (by omega))) (fun h10 => ?_)
      refine zJ_iconst (v := 1) dX9_feeling_13 (by decide) ?_
      refine zJ_goto (tgt := 18) dX9_feeling_14 (by decide) ?_
      refine zJ_iconst (v := 1) dX9_feeling_18 (by decide) ?_
      refine zJ_cV2 dX9_feeling_19 sX9_291 mfX9_right (c_Mo_right1 Δ (zsi w 100 0 0) M0 z0 1) (by first | rfl | assumption | exact M0.at (by decide) (by decide) | exact Mc.at (by decide) (by decide)) rfl (Nat.le_of_ble_eq_true rfl) (by decide) (by decide) ?_
      refine zJ_if_eq (tgt := 40) dX9_feeling_22 (by decide) (fun h9 => False.elim (by revert h9; decide)) (fun _ => ?_)
      refine zJ_aload_n dX9_feeling_25 rfl ?_
      refine zJ_iload_n dX9_feeling_26 rfl ?_
      refine zJ_iconst (v := 1) dX9_feeling_27 (by decide) ?_
      refine zJ_bipush (v := 99) dX9_feeling_28 (by decide) ?_
      refine zJ_cS3 dX9_feeling_30 sX9_336 mfX9_within ((c_Mo_within Δ (zsi w 100 0 0) (nI q) 1 99 (by decide) (by decide)).1 ⟨q, hq1, hq2, rfl⟩) (Nat.le_of_ble_eq_true rfl) (by decide) (by decide) ?_
      refine zJ_iconst (v := 2) dX9_feeling_33 (by decide) ?_
      refine zJ_cV2 dX9_feeling_34 sX9_291 mfX9_right (c_Mo_right1 Δ (zsi w 100 0 0) M0 z0 2) (by first | rfl | assumption | exact M0.at (by decide) (by decide) | exact Mc.at (by decide) (by decide)) rfl (Nat.le_of_ble_eq_true rfl) (by decide) (by decide) ?_
      refine zJ_if_ne (tgt := 42) dX9_feeling_37 (by decide) (fun _ => ?_) (fun h9 => False.elim (by revert h9; decide))
      refine zJ_aload_n dX9_feeling_42 rfl ?_
      refine zJ_geti dX9_feeling_43 fX9_19 (by first | rfl | assumption | exact M0.at (by decide) (by decide) | exact Mc.at (by decide) (by decide)) rfl ?_
      rw [h91]
      refine zJ_istore_n (ls2 := fun x46 => [(2, .int x46), (0, .ref 100), (1, .int (nI q))]) dX9_feeling_46 (by decide) (fun _ => rfl) (fun x46 ex46 => ?_)
      obtain rfl : x46 = (nI (U.1 11)) := ex46
      refine zJ_aload_n dX9_feeling_47 rfl ?_
      refine zJ_iload_n dX9_feeling_48 rfl ?_
      refine zJ_puti dX9_feeling_49 fX9_19 (fun q h => by cases h; rfl) (by first | rfl | assumption | exact M0.at (by decide) (by decide) | exact Mc.at (by decide) (by decide)) rfl rfl rfl ?_
      refine zJ_aload_n dX9_feeling_52 rfl ?_
      refine zJ_eV0 dX9_feeling_53 sX9_413 mfX9_asTold (c_Mo_asTold Δ (zsi (zsi w 100 0 0) 100 9 (nI q)) (zTs U 11 q) hMuq hU2 h13) (M0.at (by decide) (by decide)) rfl (Nat.le_of_ble_eq_true rfl) (by decide) (by decide) (fun r c hP => ?_)
      obtain ⟨rfl, hfc, hAc⟩ := hP
      have Mc : zMs c := hAc.1
      have c0 : c.2.1 100 0 = 0 := (hfc.at (by decide)).trans z1
      refine zJ_aload_n dX9_feeling_56 rfl ?_
      refine zJ_aload_n dX9_feeling_57 rfl ?_
      refine zJ_geti dX9_feeling_58 fX9_301 (by first | rfl | assumption | exact M0.at (by decide) (by decide) | exact Mc.at (by decide) (by decide)) rfl ?_
      rw [(hfc.at (by decide)).trans h22]
      refine zJ_eV1 dX9_feeling_61 sX9_416 mfX9_asks (c_Mo_asks Δ c (zTs U 11 q) hAc hU2 hpos) (Mc.at (by decide) (by decide)) rfl (Nat.le_of_ble_eq_true rfl) (by decide) (by decide) (fun r d hP => ?_)
      obtain ⟨hfd, hP⟩ := hP
      have Md : zMs d := Mc.fm hfd
      have d0 : d.2.1 100 0 = 0 := (hfd.at (by decide)).trans c0
      rcases hP with ⟨rfl, K, hKd, hUd⟩ | ⟨rfl, hno⟩
      · refine zJ_istore_n (ls2 := fun x64g => [(3, .int x64g), (2, .int (nI (U.1 11))), (0, .ref 100), (1, .int (nI q))]) dX9_feeling_64 (by decide) (fun _ => rfl) (fun x64g ex64g => ?_)
        obtain rfl : x64g = 1 := ex64g
        refine zJ_iload_n dX9_feeling_65 rfl ?_
        refine zJ_if_eq (tgt := 73) dX9_feeling_66 (by decide) (fun h9 => False.elim (by revert h9; decide)) (fun _ => ?_)
        refine zJ_aload_n dX9_feeling_69 rfl ?_
        refine zJ_eV0 dX9_feeling_70 sX9_419 mfX9_spreads (c_Mo_spreads Δ d (zTs U 11 q) K hKd hU2 (hUd.bm hU2 hKd)) (Md.at (by decide) (by decide)) rfl (Nat.le_of_ble_eq_true rfl) (by decide) (by decide) (fun r e hP => ?_)
        obtain ⟨rfl, hfe, hCe⟩ := hP
        have Me : zMs e := Md.fm hfe
        have e0 : e.2.1 100 0 = 0 := (hfe.at (by decide)).trans d0
        have hAe : zMa e (zTs U 11 q) := hKd.1.fm hfe (by decide)
        refine zJ_aload_n dX9_feeling_73 rfl ?_
        refine zJ_iload_n dX9_feeling_74 rfl ?_
        refine zJ_puti dX9_feeling_75 fX9_19 (fun q h => by cases h; rfl) (by first | rfl | assumption | exact Me.at (by decide) (by decide)) rfl rfl rfl ?_
        refine zJ_aload_n dX9_feeling_78 rfl ?_
        refine zJ_iload_n dX9_feeling_79 rfl ?_
        refine zJ_iconst (v := 2) dX9_feeling_80 (by decide) ?_
        refine zJ_cV2 dX9_feeling_81 sX9_291 mfX9_right (c_Mo_right1 Δ (zsi e 100 9 (nI (U.1 11))) Me (by simp [zsi, e0]) 2) (by first | rfl | assumption | exact Me.at (by decide) (by decide)) rfl (Nat.le_of_ble_eq_true rfl) (by decide) (by decide) ?_
        refine zJ_if_eq (tgt := 94) dX9_feeling_84 (by decide) (fun h9 => False.elim (by revert h9; decide)) (fun _ => ?_)
        refine zJ_aload_n dX9_feeling_87 rfl ?_
        refine zJ_cV0 dX9_feeling_88 sX9_426 mfX9_goesAll (c_Mo_goesAll Δ (zsi e 100 9 (nI (U.1 11))) U hAe.w9 hU0 (zcas (zTs U 11 q) K) (hCe.fm (zFM.i (l := [9]) (by decide)) (by decide))) (by first | rfl | assumption | exact Me.at (by decide) (by decide)) rfl (Nat.le_of_ble_eq_true rfl) (by decide) (by decide) ?_
        refine zJ_goto (tgt := 95) dX9_feeling_91 (by decide) ?_
        exact zJ_lret dX9_feeling_95 rfl (by decide) (by decide) (hQ _ _ ⟨(by rw [← h91]; exact zFM.t0.tr (zFM.sand (w := zsi w 100 0 0) (j := 9) (v := nI q) (((hfc.mono (by decide)).tr (hfd.mono (by decide))).tr (hfe.mono (by decide))) (by decide))), Or.inr (Or.inr ⟨hpos, q, ⟨hq1, hq2⟩, rfl, Or.inr ⟨⟨K, hKd.2.2.1, hKd.2.1.2.2.1⟩, by simp [zsi, e0], K, hKd.2.2.1, by rw [← zla_pp hU2 hKd]; rfl⟩⟩)⟩)
      · refine zJ_istore_n (ls2 := fun x64b => [(3, .int x64b), (2, .int (nI (U.1 11))), (0, .ref 100), (1, .int (nI q))]) dX9_feeling_64 (by decide) (fun _ => rfl) (fun x64b ex64b => ?_)
        obtain rfl : x64b = 0 := ex64b
        refine zJ_iload_n dX9_feeling_65 rfl ?_
        refine zJ_if_eq (tgt := 73) dX9_feeling_66 (by decide) (fun _ => ?_) (fun h9 => False.elim (by revert h9; decide))
        refine zJ_aload_n dX9_feeling_73 rfl ?_
        refine zJ_iload_n dX9_feeling_74 rfl ?_
        refine zJ_puti dX9_feeling_75 fX9_19 (fun q h => by cases h; rfl) (by first | rfl | assumption | exact Md.at (by decide) (by decide)) rfl rfl rfl ?_
        refine zJ_aload_n dX9_feeling_78 rfl ?_
        refine zJ_iload_n dX9_feeling_79 rfl ?_
        refine zJ_iconst (v := 2) dX9_feeling_80 (by decide) ?_
        refine zJ_cV2 dX9_feeling_81 sX9_291 mfX9_right (c_Mo_right0 Δ (zsi d 100 9 (nI (U.1 11))) Md (by simp [zsi, d0]) 2 (by decide)) (by first | rfl | assumption | exact Md.at (by decide) (by decide)) rfl (Nat.le_of_ble_eq_true rfl) (by decide) (by decide) ?_
        refine zJ_if_eq (tgt := 94) dX9_feeling_84 (by decide) (fun _ => ?_) (fun h9 => False.elim (by revert h9; decide))
        refine zJ_lconst (v := 0) dX9_feeling_94 (by decide) ?_
        exact zJ_lret dX9_feeling_95 rfl (by decide) (by decide) (hQ _ _ ⟨((by rw [← h91]; exact zFM.t0.tr (zFM.sand (w := zsi w 100 0 0) (j := 9) (v := nI q) ((hfc.mono (by decide)).tr (hfd.mono (by decide))) (by decide))) : zFM zScr w _).tr zFM.t0, Or.inr (Or.inr ⟨hpos, q, ⟨hq1, hq2⟩, rfl, Or.inl ⟨hno, by simp [zsi]⟩⟩)⟩)
    · refine (fun hQ9 => ?_) (hQ (some (.long 0)) (zsi (zsi w 100 0 0) 100 0 2) ⟨zFM.t0.tr zFM.t0, Or.inr (Or.inl ⟨hpos, fun ⟨a, b, c⟩ => hq ⟨a, b.1, b.2, c⟩, by simp [zsi]⟩)⟩)
      refine zJ_aload_n dX9_feeling_0 rfl ?_
      refine zJ_iconst (v := 0) dX9_feeling_1 (by decide) ?_
      refine zJ_puti dX9_feeling_2 fX9_170 (fun q h => by cases h; rfl) (by first | rfl | assumption | exact M0.at (by decide) (by decide) | exact Mc.at (by decide) (by decide)) rfl rfl rfl ?_
      refine zJ_aload_n dX9_feeling_5 rfl ?_
      refine zJ_aload_n dX9_feeling_6 rfl ?_
      refine zJ_geti dX9_feeling_7 fX9_298 (by first | rfl | assumption | exact M0.at (by decide) (by decide) | exact Mc.at (by decide) (by decide)) rfl ?_
      rw [hp1]
      refine zJ_if_le (tgt := 17) dX9_feeling_10 (by decide) (fun h9 => absurd h9 (fun h => absurd ((nI_leI (b := 0) (by omega) (by decide)).mp h) (by omega))) (fun h10 => ?_)
      refine zJ_iconst (v := 1) dX9_feeling_13 (by decide) ?_
      refine zJ_goto (tgt := 18) dX9_feeling_14 (by decide) ?_
      refine zJ_iconst (v := 1) dX9_feeling_18 (by decide) ?_
      refine zJ_cV2 dX9_feeling_19 sX9_291 mfX9_right (c_Mo_right1 Δ (zsi w 100 0 0) M0 z0 1) (by first | rfl | assumption | exact M0.at (by decide) (by decide) | exact Mc.at (by decide) (by decide)) rfl (Nat.le_of_ble_eq_true rfl) (by decide) (by decide) ?_
      refine zJ_if_eq (tgt := 40) dX9_feeling_22 (by decide) (fun h9 => False.elim (by revert h9; decide)) (fun _ => ?_)
      refine zJ_aload_n dX9_feeling_25 rfl ?_
      refine zJ_iload_n dX9_feeling_26 rfl ?_
      refine zJ_iconst (v := 1) dX9_feeling_27 (by decide) ?_
      refine zJ_bipush (v := 99) dX9_feeling_28 (by decide) ?_
      refine zJ_cS3 dX9_feeling_30 sX9_336 mfX9_within ((c_Mo_within Δ (zsi w 100 0 0) x 1 99 (by decide) (by decide)).2 hq) (Nat.le_of_ble_eq_true rfl) (by decide) (by decide) ?_
      refine zJ_iconst (v := 2) dX9_feeling_33 (by decide) ?_
      refine zJ_cV2 dX9_feeling_34 sX9_291 mfX9_right (c_Mo_right0 Δ (zsi w 100 0 0) M0 z0 2 (by decide)) (by first | rfl | assumption | exact M0.at (by decide) (by decide) | exact Mc.at (by decide) (by decide)) rfl (Nat.le_of_ble_eq_true rfl) (by decide) (by decide) ?_
      refine zJ_if_ne (tgt := 42) dX9_feeling_37 (by decide) (fun h9 => False.elim (by revert h9; decide)) (fun _ => ?_)
      refine zJ_lconst (v := 0) dX9_feeling_40 (by decide) ?_
      exact zJ_lret dX9_feeling_41 rfl (by decide) (by decide) hQ9
  · refine (fun hQ9 => ?_) (hQ (some (.long 0)) (zsi (zsi w 100 0 0) 100 0 1) ⟨zFM.t0.tr zFM.t0, Or.inl ⟨hpos, by simp [zsi]⟩⟩)
    refine zJ_aload_n dX9_feeling_0 rfl ?_
    refine zJ_iconst (v := 0) dX9_feeling_1 (by decide) ?_
    refine zJ_puti dX9_feeling_2 fX9_170 (fun q h => by cases h; rfl) (by first | rfl | assumption | exact M0.at (by decide) (by decide) | exact Mc.at (by decide) (by decide)) rfl rfl rfl ?_
    refine zJ_aload_n dX9_feeling_5 rfl ?_
    refine zJ_aload_n dX9_feeling_6 rfl ?_
    refine zJ_geti dX9_feeling_7 fX9_298 (by first | rfl | assumption | exact M0.at (by decide) (by decide) | exact Mc.at (by decide) (by decide)) rfl ?_
    rw [hp1]
    refine zJ_if_le (tgt := 17) dX9_feeling_10 (by decide) (fun h10 => ?_) (fun h9 => absurd (show nI (U.1 0) ≤ 0 by rw [show U.1 0 = 0 by omega]; exact Int32.le_refl _) h9)
    refine zJ_iconst (v := 0) dX9_feeling_17 (by decide) ?_
    refine zJ_iconst (v := 1) dX9_feeling_18 (by decide) ?_
    refine zJ_cV2 dX9_feeling_19 sX9_291 mfX9_right (c_Mo_right0 Δ (zsi w 100 0 0) M0 z0 1 (by decide)) (by first | rfl | assumption | exact M0.at (by decide) (by decide) | exact Mc.at (by decide) (by decide)) rfl (Nat.le_of_ble_eq_true rfl) (by decide) (by decide) ?_
    refine zJ_if_eq (tgt := 40) dX9_feeling_22 (by decide) (fun _ => ?_) (fun h9 => False.elim (by revert h9; decide))
    refine zJ_lconst (v := 0) dX9_feeling_40 (by decide) ?_
    exact zJ_lret dX9_feeling_41 rfl (by decide) (by decide) hQ9
