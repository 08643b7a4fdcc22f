set_option maxRecDepth 100000 in
theorem c_Mo_two (Δ : zD) (w : zW) (U : zTo) (hMu : zMu w U) (hU : zTok U) (h13 : U.1 13 = 0) (x y : Int32) : zMp Δ 5 yX9_two mX9_two [.ref 100, .int x, .int y] w (fun r c => zFM zScr w c ∧ ((¬ ((∃ p, p < U.1 0 ∧ x = nI p) ∧ ∃ q, q < U.1 0 ∧ y = nI q) ∧ c.2.1 100 0 = 1) ∨ (∃ p q, p < U.1 0 ∧ x = nI p ∧ q < U.1 0 ∧ y = nI q ∧ ((¬ zfit (zTs U 12 p) 20000 ∧ c.2.1 100 0 = 2) ∨ (∃ K, zall (zTs U 12 p) K ∧ K.length ≤ 20000 ∧ ((∃ k, k < U.1 0 ∧ 0 < (fun k => zcas (zTs U 12 p) K (k * 12 + (U.1 7 - 1))) k ∧ ¬ k = q ∧ ¬ zfit (zTw2 U q k) 20000 ∧ c.2.1 100 0 = 2) ∨ ((∀ k, k < U.1 0 → 0 < (fun k => zcas (zTs U 12 p) K (k * 12 + (U.1 7 - 1))) k → ¬ k = q → zfit (zTw2 U q k) 20000) ∧ c.2.1 100 0 = 0 ∧ r = some (.int (lN (ztw U (fun k => zcas (zTs U 12 p) K (k * 12 + (U.1 7 - 1))) q (U.1 0))).toInt32)))))))) := by
  refine zMp.of mfX9_two (Nat.le_of_ble_eq_true rfl) (fun QR hQ => ?_)
  have hMu0 := hMu
  obtain ⟨hM, u1, u2, u3, u4, u5, u6, u7, u8, u9, uso, unu, uwt⟩ := hMu
  have hp8 := hU.1
  have hU0 := hU
  have M0 : zMs (zsi w 100 0 0) := hM
  have z0 : (zsi w 100 0 0).2.1 100 0 = 0 := by simp [zsi]
  have hMu1 : zMu (zsi w 100 0 0) U := hMu0.fm (zFM.i (l := [0]) (by decide)) (by decide)
  have hp1 : (zsi w 100 0 0).2.1 100 1 = nI (U.1 0) := hMu1.2.1
  by_cases hx : ∃ p, p < U.1 0 ∧ x = nI p
  · by_cases hy : ∃ q, q < U.1 0 ∧ y = nI q
    · obtain ⟨p, hp, rfl⟩ := hx
      obtain ⟨q, hq, rfl⟩ := hy
      have hpos : 0 < U.1 0 := by omega
      have hT1 : zTok (zTs U 12 p) := hU0.s (by omega)
      refine zJ_aload_n dX9_two_0 rfl ?_
      refine zJ_iconst (v := 0) dX9_two_1 (by decide) ?_
      refine zJ_puti dX9_two_2 fX9_170 (fun q h => by cases h; rfl) (by first | rfl | assumption | exact M0.at (by decide) (by decide)) rfl rfl rfl ?_
      refine zJ_aload_n dX9_two_5 rfl ?_
      refine zJ_iload_n dX9_two_6 rfl ?_
      refine zJ_cV1 dX9_two_7 sX9_339 mfX9_isPerson ((c_Mo_isPerson Δ (zsi w 100 0 0) M0 z0 (nI p) (U.1 0) hp1 hp8).1 ⟨p, hp, rfl⟩) (by first | rfl | assumption | exact M0.at (by decide) (by decide)) rfl (Nat.le_of_ble_eq_true rfl) (by decide) (by decide) ?_
      refine zJ_if_eq (tgt := 21) dX9_two_10 (by decide) (fun h9 => False.elim (by revert h9; decide)) (fun _ => ?_)
      refine zJ_aload_n dX9_two_13 rfl ?_
      refine zJ_iload_n dX9_two_14 rfl ?_
      refine zJ_cV1 dX9_two_15 sX9_339 mfX9_isPerson ((c_Mo_isPerson Δ (zsi w 100 0 0) M0 z0 (nI q) (U.1 0) hp1 hp8).1 ⟨q, hq, rfl⟩) (by first | rfl | assumption | exact M0.at (by decide) (by decide)) rfl (Nat.le_of_ble_eq_true rfl) (by decide) (by decide) ?_
      refine zJ_if_ne (tgt := 23) dX9_two_18 (by decide) (fun _ => ?_) (fun h9 => False.elim (by revert h9; decide))
      refine zJ_aload_n dX9_two_23 rfl ?_
      refine zJ_eV0 dX9_two_24 sX9_413 mfX9_asTold (c_Mo_asTold Δ (zsi w 100 0 0) U hMu1 hU0 h13) (M0.at (by decide) (by decide)) rfl (Nat.le_of_ble_eq_true rfl) (by decide) (by decide) (fun r c hP => ?_)
      obtain ⟨rfl, hfc, hAc⟩ := hP
      have Mc : zMs c := hAc.1
      have c0 : c.2.1 100 0 = 0 := (hfc.at (by decide)).trans z0
      refine zJ_aload_n dX9_two_27 rfl ?_
      refine zJ_aload_n dX9_two_28 rfl ?_
      refine zJ_iload_n dX9_two_29 rfl ?_
      refine zJ_eV1 dX9_two_30 sX9_416 mfX9_asks (c_Mo_asks Δ c (zTs U 12 p) hAc.c12 hT1 hpos) (Mc.at (by decide) (by decide)) rfl (Nat.le_of_ble_eq_true rfl) (by decide) (by decide) (fun r d hP => ?_)
      obtain ⟨hfd, hP⟩ := hP
      have Md : zMs d := Mc.fm hfd
      have d0 : d.2.1 100 0 = 0 := (hfd.at (by decide)).trans c0
      rcases hP with ⟨rfl, K, hKd, hUd⟩ | ⟨rfl, hno⟩
      · refine zJ_iconst (v := 2) dX9_two_33 (by decide) ?_
        refine zJ_cV2 dX9_two_34 sX9_291 mfX9_right (c_Mo_right1 Δ d Md d0 2) (by first | rfl | assumption | exact Md.at (by decide) (by decide)) rfl (Nat.le_of_ble_eq_true rfl) (by decide) (by decide) ?_
        refine zJ_if_ne (tgt := 42) dX9_two_37 (by decide) (fun _ => ?_) (fun h9 => False.elim (by revert h9; decide))
        refine zJ_aload_n dX9_two_42 rfl ?_
        refine zJ_eV0 dX9_two_43 sX9_419 mfX9_spreads (c_Mo_spreads Δ d (zTs U 12 p) K hKd hT1 (hUd.bm hT1 hKd)) (Md.at (by decide) (by decide)) rfl (Nat.le_of_ble_eq_true rfl) (by decide) (by decide) (fun r e hP => ?_)
        obtain ⟨rfl, hfe, hCe⟩ := hP
        have Me : zMs e := Md.fm hfe
        have e0 : e.2.1 100 0 = 0 := (hfe.at (by decide)).trans d0
        have hAe : zMa e (zTs U 12 p) := hKd.1.fm hfe (by decide)
        have fwe : zFM zScr w e := (((zFM.t0.tr (hfc.mono (by decide))).tr (hfd.mono (by decide)))).tr (hfe.mono (by decide))
        have h7 := hU0.2.2.2.1
        rw [show w.1 = e.1 from fwe.1.symm]
        exact zMo_twT Δ e U hU0 hAe (fun k => zcas (zTs U 12 p) K (k * 12 + (U.1 7 - 1))) (fun k hk => ⟨hCe _ (by omega), zcas_le hT1 (zall_nodup hKd.2.2.1) (by omega)⟩) q hq (nI p) e0 (fun c k r fc h1 h2 h3 h4 h5 => hQ _ _ ⟨fwe.tr fc, Or.inr ⟨p, q, hp, rfl, hq, rfl, Or.inr ⟨K, hKd.2.2.1, hKd.2.1.2.2.1, Or.inl ⟨k, h1, h2, h3, h4, h5⟩⟩⟩⟩) (fun c fc h1 h2 => hQ _ _ ⟨fwe.tr fc, Or.inr ⟨p, q, hp, rfl, hq, rfl, Or.inr ⟨K, hKd.2.2.1, hKd.2.1.2.2.1, Or.inr ⟨h1, h2, rfl⟩⟩⟩⟩)
      · refine zJ_iconst (v := 2) dX9_two_33 (by decide) ?_
        refine zJ_cV2 dX9_two_34 sX9_291 mfX9_right (c_Mo_right0 Δ d Md d0 2 (by decide)) (by first | rfl | assumption | exact Md.at (by decide) (by decide)) rfl (Nat.le_of_ble_eq_true rfl) (by decide) (by decide) ?_
        refine zJ_if_ne (tgt := 42) dX9_two_37 (by decide) (fun h9 => False.elim (by revert h9; decide)) (fun _ => ?_)
        refine zJ_iconst (v := 0) dX9_two_40 (by decide) ?_
        exact zJ_iret dX9_two_41 rfl (by decide) (by decide) (hQ _ _ ⟨((zFM.t0.tr (hfc.mono (by decide))).tr (hfd.mono (by decide))).tr zFM.t0, Or.inr ⟨p, q, hp, rfl, hq, rfl, Or.inl ⟨hno, by simp [zsi]⟩⟩⟩)
    · refine zJ_aload_n dX9_two_0 rfl ?_
      refine zJ_iconst (v := 0) dX9_two_1 (by decide) ?_
      refine zJ_puti dX9_two_2 fX9_170 (fun q h => by cases h; rfl) (by first | rfl | assumption | exact M0.at (by decide) (by decide)) rfl rfl rfl ?_
      refine zJ_aload_n dX9_two_5 rfl ?_
      refine zJ_iload_n dX9_two_6 rfl ?_
      refine zJ_cV1 dX9_two_7 sX9_339 mfX9_isPerson ((c_Mo_isPerson Δ (zsi w 100 0 0) M0 z0 x (U.1 0) hp1 hp8).1 hx) (by first | rfl | assumption | exact M0.at (by decide) (by decide)) rfl (Nat.le_of_ble_eq_true rfl) (by decide) (by decide) ?_
      refine zJ_if_eq (tgt := 21) dX9_two_10 (by decide) (fun h9 => False.elim (by revert h9; decide)) (fun _ => ?_)
      refine zJ_aload_n dX9_two_13 rfl ?_
      refine zJ_iload_n dX9_two_14 rfl ?_
      refine zJ_cV1 dX9_two_15 sX9_339 mfX9_isPerson ((c_Mo_isPerson Δ (zsi w 100 0 0) M0 z0 y (U.1 0) hp1 hp8).2 hy) (by first | rfl | assumption | exact M0.at (by decide) (by decide)) rfl (Nat.le_of_ble_eq_true rfl) (by decide) (by decide) ?_
      refine zJ_if_ne (tgt := 23) dX9_two_18 (by decide) (fun h9 => False.elim (by revert h9; decide)) (fun _ => ?_)
      refine zJ_iconst (v := 0) dX9_two_21 (by decide) ?_
      exact zJ_iret dX9_two_22 rfl (by decide) (by decide) (hQ _ _ ⟨zFM.t0.tr zFM.t0, Or.inl ⟨fun h => hy h.2, by simp [zsi]⟩⟩)
  · refine zJ_aload_n dX9_two_0 rfl ?_
    refine zJ_iconst (v := 0) dX9_two_1 (by decide) ?_
    refine zJ_puti dX9_two_2 fX9_170 (fun q h => by cases h; rfl) (by first | rfl | assumption | exact M0.at (by decide) (by decide)) rfl rfl rfl ?_
    refine zJ_aload_n dX9_two_5 rfl ?_
    refine zJ_iload_n dX9_two_6 rfl ?_
    refine zJ_cV1 dX9_two_7 sX9_339 mfX9_isPerson ((c_Mo_isPerson Δ (zsi w 100 0 0) M0 z0 x (U.1 0) hp1 hp8).2 hx) (by first | rfl | assumption | exact M0.at (by decide) (by decide)) rfl (Nat.le_of_ble_eq_true rfl) (by decide) (by decide) ?_
    refine zJ_if_eq (tgt := 21) dX9_two_10 (by decide) (fun _ => ?_) (fun h9 => False.elim (by revert h9; decide))
    refine zJ_iconst (v := 0) dX9_two_21 (by decide) ?_
    exact zJ_iret dX9_two_22 rfl (by decide) (by decide) (hQ _ _ ⟨zFM.t0.tr zFM.t0, Or.inl ⟨fun h => hx h.1, by simp [zsi]⟩⟩)
