set_option maxRecDepth 100000 in
theorem c_Mo_opened (Δ : zD) (w : zW) (U : zTo) (hMu : zMu w U) (hU : zTok U) (h13 : U.1 13 = 0) (x y : Int32) : zMp Δ 5 yX9_opened mX9_opened [.ref 100, .int x, .int y] w (fun r c => zFM zScr w c ∧ ((¬ ((∃ p, p < U.1 0 ∧ x = nI p) ∧ ∃ h, (1 ≤ h ∧ h ≤ U.1 7) ∧ y = nI h) ∧ c.2.1 100 0 = 1) ∨ (((∃ p, p < U.1 0 ∧ x = nI p) ∧ ∃ h, (1 ≤ h ∧ h ≤ U.1 7) ∧ y = nI h) ∧ ¬ zfit U 20000 ∧ c.2.1 100 0 = 2) ∨ (((∃ p, p < U.1 0 ∧ x = nI p) ∧ ∃ h, (1 ≤ h ∧ h ≤ U.1 7) ∧ y = nI h) ∧ zfit U 20000 ∧ c.2.1 100 0 = 0 ∧ ∃ p h, p < U.1 0 ∧ x = nI p ∧ (1 ≤ h ∧ h ≤ U.1 7) ∧ y = nI h ∧ ∃ K, zall U K ∧ r = some (.int (lN (zcas U K (p * 12 + (h - 1)))).toInt32)))) := by
  refine zMp.of mfX9_opened (Nat.le_of_ble_eq_true rfl) (fun QR hQ => ?_)
  have hMu0 := hMu
  obtain ⟨hM, u1, u2, u3, u4, u5, u6, u7, u8, u9, uso, unu, uwt⟩ := hMu
  have hp8 := hU.1
  have hU0 := hU
  have M0 : zMs (zsi w 100 0 0) := hM
  have z0 : (zsi w 100 0 0).2.1 100 0 = 0 := by simp [zsi]
  have hMu1 : zMu (zsi w 100 0 0) U := hMu0.fm (zFM.i (l := [0]) (by decide)) (by decide)
  have hp1 : (zsi w 100 0 0).2.1 100 1 = nI (U.1 0) := hMu1.2.1
  have hp7 := hU.2.2.2.1
  have h51 : (zsi w 100 0 0).2.1 100 5 = nI (U.1 7) := hMu1.2.2.2.2.2.1
  have h21 : (zsi w 100 0 0).2.1 100 2 = nI (U.1 12) := hMu1.2.2.1
  by_cases hx : ∃ p, p < U.1 0 ∧ x = nI p
  · by_cases hy : ∃ h, 1 ≤ h ∧ h ≤ U.1 7 ∧ y = nI h
    · obtain ⟨p, hp, rfl⟩ := hx
      obtain ⟨h, hh1, hh2, rfl⟩ := hy
      have hpos : 0 < U.1 0 := by omega
      refine zJ_aload_n dX9_opened_0 rfl ?_
      refine zJ_iconst (v := 0) dX9_opened_1 (by decide) ?_
      refine zJ_puti dX9_opened_2 fX9_170 (fun q h => by cases h; rfl) (by first | rfl | assumption | exact M0.at (by decide) (by decide) | exact Mc.at (by decide) (by decide)) rfl rfl rfl ?_
      refine zJ_aload_n dX9_opened_5 rfl ?_
      refine zJ_iload_n dX9_opened_6 rfl ?_
      refine zJ_cV1 dX9_opened_7 sX9_339 mfX9_isPerson ((c_Mo_isPerson Δ (zsi w 100 0 0) M0 z0 (nI p) (U.1 0) hp1 hp8).1 ⟨p, hp, rfl⟩) (by first | rfl | assumption | exact M0.at (by decide) (by decide) | exact Mc.at (by decide) (by decide)) rfl (Nat.le_of_ble_eq_true rfl) (by decide) (by decide) ?_
      refine zJ_if_eq (tgt := 30) dX9_opened_10 (by decide) (fun h9 => False.elim (by revert h9; decide)) (fun _ => ?_)
      refine zJ_aload_n dX9_opened_13 rfl ?_
      refine zJ_iload_n dX9_opened_14 rfl ?_
      refine zJ_iconst (v := 1) dX9_opened_15 (by decide) ?_
      refine zJ_aload_n dX9_opened_16 rfl ?_
      refine zJ_geti dX9_opened_17 fX9_16 (by first | rfl | assumption | exact M0.at (by decide) (by decide) | exact Mc.at (by decide) (by decide)) rfl ?_
      rw [h51]
      refine zJ_cS3 dX9_opened_20 sX9_336 mfX9_within ((c_Mo_within Δ (zsi w 100 0 0) (nI h) 1 (U.1 7) (by decide) (by omega)).1 ⟨h, hh1, hh2, rfl⟩) (Nat.le_of_ble_eq_true rfl) (by decide) (by decide) ?_
      refine zJ_iconst (v := 1) dX9_opened_23 (by decide) ?_
      refine zJ_cV2 dX9_opened_24 sX9_291 mfX9_right (c_Mo_right1 Δ (zsi w 100 0 0) M0 z0 1) (by first | rfl | assumption | exact M0.at (by decide) (by decide) | exact Mc.at (by decide) (by decide)) rfl (Nat.le_of_ble_eq_true rfl) (by decide) (by decide) ?_
      refine zJ_if_ne (tgt := 32) dX9_opened_27 (by decide) (fun _ => ?_) (fun h9 => False.elim (by revert h9; decide))
      refine zJ_aload_n dX9_opened_32 rfl ?_
      refine zJ_eV0 dX9_opened_33 sX9_413 mfX9_asTold (c_Mo_asTold Δ (zsi w 100 0 0) U hMu1 hU0 h13) (M0.at (by decide) (by decide)) rfl (Nat.le_of_ble_eq_true rfl) (by decide) (by decide) (fun r c hP => ?_)
      obtain ⟨rfl, hfc, hAc⟩ := hP
      have Mc : zMs c := hAc.1
      have c0 : c.2.1 100 0 = 0 := (hfc.at (by decide)).trans z0
      refine zJ_aload_n dX9_opened_36 rfl ?_
      refine zJ_aload_n dX9_opened_37 rfl ?_
      refine zJ_aload_n dX9_opened_38 rfl ?_
      refine zJ_geti dX9_opened_39 fX9_301 (by first | rfl | assumption | exact M0.at (by decide) (by decide) | exact Mc.at (by decide) (by decide)) rfl ?_
      rw [(hfc.at (by decide)).trans h21]
      refine zJ_eV1 dX9_opened_42 sX9_416 mfX9_asks (c_Mo_asks Δ c U hAc hU0 hpos) (Mc.at (by decide) (by decide)) rfl (Nat.le_of_ble_eq_true rfl) (by decide) (by decide) (fun r d hP => ?_)
      obtain ⟨hfd, hP⟩ := hP
      have Md : zMs d := Mc.fm hfd
      have d0 : d.2.1 100 0 = 0 := (hfd.at (by decide)).trans c0
      rcases hP with ⟨rfl, K, hKd, hUd⟩ | ⟨rfl, hno⟩
      · refine zJ_iconst (v := 2) dX9_opened_45 (by decide) ?_
        refine zJ_cV2 dX9_opened_46 sX9_291 mfX9_right (c_Mo_right1 Δ d Md d0 2) (by first | rfl | assumption | exact Md.at (by decide) (by decide)) rfl (Nat.le_of_ble_eq_true rfl) (by decide) (by decide) ?_
        refine zJ_if_ne (tgt := 54) dX9_opened_49 (by decide) (fun _ => ?_) (fun h9 => False.elim (by revert h9; decide))
        refine zJ_aload_n dX9_opened_54 rfl ?_
        refine zJ_eV0 dX9_opened_55 sX9_419 mfX9_spreads (c_Mo_spreads Δ d U K hKd hU0 (hUd.bm hU0 hKd)) (Md.at (by decide) (by decide)) rfl (Nat.le_of_ble_eq_true rfl) (by decide) (by decide) (fun r e hP => ?_)
        obtain ⟨rfl, hfe, hCe⟩ := hP
        have Me : zMs e := Md.fm hfe
        have e0 : e.2.1 100 0 = 0 := (hfe.at (by decide)).trans d0
        refine zJ_aload_n dX9_opened_58 rfl ?_
        refine zJ_getr (j := 154) dX9_opened_59 fX9_89 (by first | rfl | assumption | exact Me.at (by decide) (by decide)) rfl (by first | rfl | assumption | exact Me.rf (by decide) rfl) ?_
        refine zJ_bipush (v := 12) dX9_opened_62 (by decide) ?_
        refine zJ_iload_n dX9_opened_64 rfl ?_
        refine zJ_imul dX9_opened_65 ?_
        refine zJ_iload_n dX9_opened_66 rfl ?_
        refine zJ_iadd dX9_opened_67 ?_
        refine zJ_iconst (v := 1) dX9_opened_68 (by decide) ?_
        refine zJ_isub dX9_opened_69 ?_
        refine zJ_laldN (i := (p * 12 + (h - 1))) (v := (lN (zcas U K (p * 12 + (h - 1))))) dX9_opened_70 (by first | rfl | assumption | exact Me.at (by decide) (by decide)) (na_12 _ _ hh1) (by omega) (by decide) (hCe _ (by omega)) ?_
        refine zJ_l2i dX9_opened_71 ?_
        exact zJ_iret dX9_opened_72 rfl (by decide) (by decide) (hQ _ _ ⟨((zFM.t0.tr (hfc.mono (by decide))).tr (hfd.mono (by decide))).tr (hfe.mono (by decide)), Or.inr (Or.inr ⟨⟨⟨p, hp, rfl⟩, h, ⟨hh1, hh2⟩, rfl⟩, ⟨K, hKd.2.2.1, hKd.2.1.2.2.1⟩, e0, p, h, hp, rfl, ⟨hh1, hh2⟩, rfl, K, hKd.2.2.1, rfl⟩)⟩)
      · refine zJ_iconst (v := 2) dX9_opened_45 (by decide) ?_
        refine zJ_cV2 dX9_opened_46 sX9_291 mfX9_right (c_Mo_right0 Δ d Md d0 2 (by decide)) (by first | rfl | assumption | exact Md.at (by decide) (by decide)) rfl (Nat.le_of_ble_eq_true rfl) (by decide) (by decide) ?_
        refine zJ_if_ne (tgt := 54) dX9_opened_49 (by decide) (fun h9 => False.elim (by revert h9; decide)) (fun _ => ?_)
        refine zJ_iconst (v := 0) dX9_opened_52 (by decide) ?_
        exact zJ_iret dX9_opened_53 rfl (by decide) (by decide) (hQ _ _ ⟨((zFM.t0.tr (hfc.mono (by decide))).tr (hfd.mono (by decide))).tr zFM.t0, Or.inr (Or.inl ⟨⟨⟨p, hp, rfl⟩, h, ⟨hh1, hh2⟩, rfl⟩, hno, by simp [zsi]⟩)⟩)
    · refine (fun hQ9 => ?_) (hQ (some (.int 0)) (zsi (zsi w 100 0 0) 100 0 1) ⟨zFM.t0.tr zFM.t0, Or.inl ⟨fun h => hy (by obtain ⟨-, a, b, c⟩ := h; exact ⟨a, b.1, b.2, c⟩), by simp [zsi]⟩⟩)
      refine zJ_aload_n dX9_opened_0 rfl ?_
      refine zJ_iconst (v := 0) dX9_opened_1 (by decide) ?_
      refine zJ_puti dX9_opened_2 fX9_170 (fun q h => by cases h; rfl) (by first | rfl | assumption | exact M0.at (by decide) (by decide)) rfl rfl rfl ?_
      refine zJ_aload_n dX9_opened_5 rfl ?_
      refine zJ_iload_n dX9_opened_6 rfl ?_
      refine zJ_cV1 dX9_opened_7 sX9_339 mfX9_isPerson ((c_Mo_isPerson Δ (zsi w 100 0 0) M0 z0 x (U.1 0) hp1 hp8).1 hx) (by first | rfl | assumption | exact M0.at (by decide) (by decide)) rfl (Nat.le_of_ble_eq_true rfl) (by decide) (by decide) ?_
      refine zJ_if_eq (tgt := 30) dX9_opened_10 (by decide) (fun h9 => False.elim (by revert h9; decide)) (fun _ => ?_)
      refine zJ_aload_n dX9_opened_13 rfl ?_
      refine zJ_iload_n dX9_opened_14 rfl ?_
      refine zJ_iconst (v := 1) dX9_opened_15 (by decide) ?_
      refine zJ_aload_n dX9_opened_16 rfl ?_
      refine zJ_geti dX9_opened_17 fX9_16 (by first | rfl | assumption | exact M0.at (by decide) (by decide)) rfl ?_
      rw [h51]
      refine zJ_cS3 dX9_opened_20 sX9_336 mfX9_within ((c_Mo_within Δ (zsi w 100 0 0) y 1 (U.1 7) (by decide) (by omega)).2 hy) (Nat.le_of_ble_eq_true rfl) (by decide) (by decide) ?_
      refine zJ_iconst (v := 1) dX9_opened_23 (by decide) ?_
      refine zJ_cV2 dX9_opened_24 sX9_291 mfX9_right (c_Mo_right0 Δ (zsi w 100 0 0) M0 z0 1 (by decide)) (by first | rfl | assumption | exact M0.at (by decide) (by decide)) rfl (Nat.le_of_ble_eq_true rfl) (by decide) (by decide) ?_
      refine zJ_if_ne (tgt := 32) dX9_opened_27 (by decide) (fun h9 => False.elim (by revert h9; decide)) (fun _ => ?_)
      refine zJ_iconst (v := 0) dX9_opened_30 (by decide) ?_
      exact zJ_iret dX9_opened_31 rfl (by decide) (by decide) hQ9
  · refine (fun hQ9 => ?_) (hQ (some (.int 0)) (zsi (zsi w 100 0 0) 100 0 1) ⟨zFM.t0.tr zFM.t0, Or.inl ⟨fun h => hx h.1, by simp [zsi]⟩⟩)
    refine zJ_aload_n dX9_opened_0 rfl ?_
    refine zJ_iconst (v := 0) dX9_opened_1 (by decide) ?_
    refine zJ_puti dX9_opened_2 fX9_170 (fun q h => by cases h; rfl) (by first | rfl | assumption | exact M0.at (by decide) (by decide)) rfl rfl rfl ?_
    refine zJ_aload_n dX9_opened_5 rfl ?_
    refine zJ_iload_n dX9_opened_6 rfl ?_
    refine zJ_cV1 dX9_opened_7 sX9_339 mfX9_isPerson ((c_Mo_isPerson Δ (zsi w 100 0 0) M0 z0 x (U.1 0) hp1 hp8).2 hx) (by first | rfl | assumption | exact M0.at (by decide) (by decide)) rfl (Nat.le_of_ble_eq_true rfl) (by decide) (by decide) ?_
    refine zJ_if_eq (tgt := 30) dX9_opened_10 (by decide) (fun _ => ?_) (fun h9 => False.elim (by revert h9; decide))
    refine zJ_iconst (v := 0) dX9_opened_30 (by decide) ?_
    exact zJ_iret dX9_opened_31 rfl (by decide) (by decide) hQ9
