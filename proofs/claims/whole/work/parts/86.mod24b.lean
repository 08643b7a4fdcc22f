set_option maxRecDepth 100000 in
theorem c_Mo_least (Δ : zD) (w : zW) (U : zTo) (hMu : zMu w U) (hU : zTok U) (h13 : U.1 13 = 0) (bI a b st : Int32) (hbI : bI = 0 ∨ bI = 1) : zMp Δ 6 yX9_least mX9_least [.ref 100, .int bI, .int a, .int b, .int st] w (fun r c => zFM zScr w c ∧ ((¬ 0 < U.1 0 ∧ c.2.1 100 0 = 1) ∨ (0 < U.1 0 ∧ ¬ (∃ f t s, f ≤ t ∧ t ≤ 9999 ∧ a = nI f ∧ b = nI t ∧ (1 ≤ s ∧ s < 2 ^ 31) ∧ st = nI s ∧ (t - f) / s < 60) ∧ c.2.1 100 0 = 2) ∨ (0 < U.1 0 ∧ ∃ f t s, f ≤ t ∧ t ≤ 9999 ∧ a = nI f ∧ b = nI t ∧ (1 ≤ s ∧ s < 2 ^ 31) ∧ st = nI s ∧ (t - f) / s < 60 ∧ ((bI = 1 ∧ zlsP U 9 f s ((t - f) / s) c r) ∨ (bI = 0 ∧ zlsP U 8 f s ((t - f) / s) c r))))) := by
  refine zMp.of mfX9_least (Nat.le_of_ble_eq_true rfl) (fun QR hQ => ?_)
  have hMu0 := hMu
  obtain ⟨hM, u1, u2, u3, u4, u5, u6, u7, u8, u9, uso, unu, uwt⟩ := hMu
  have hp8 := hU.1
  have hU0 := hU
  have M0 : zMs (zsi w 100 0 0) := hM
  have z0 : (zsi w 100 0 0).2.1 100 0 = 0 := by simp [zsi]
  have hMu1 : zMu (zsi w 100 0 0) U := hMu0.fm (zFM.i (l := [0]) (by decide)) (by decide)
  have hp1 : (zsi w 100 0 0).2.1 100 1 = nI (U.1 0) := hMu1.2.1
  by_cases hpos : 0 < U.1 0
  · have NO2 : ¬ (∃ f t s, f ≤ t ∧ t ≤ 9999 ∧ a = nI f ∧ b = nI t ∧ (1 ≤ s ∧ s < 2 ^ 31) ∧ st = nI s ∧ (t - f) / s < 60) → ∀ r, QR r (zsi (zsi w 100 0 0) 100 0 2) := fun h r => hQ _ _ ⟨zFM.t0.tr zFM.t0, Or.inr (Or.inl ⟨hpos, h, by simp [zsi]⟩)⟩
    by_cases ha : ∃ f, 0 ≤ f ∧ f ≤ 9999 ∧ a = nI f
    · obtain ⟨f, -, hf, rfl⟩ := ha
      by_cases hb : ∃ t, f ≤ t ∧ t ≤ 9999 ∧ b = nI t
      · obtain ⟨t, hft, ht, rfl⟩ := hb
        by_cases hs : st < 1
        · refine zJ_aload_n dX9_least_0 rfl ?_
          refine zJ_iconst (v := 0) dX9_least_1 (by decide) ?_
          refine zJ_puti dX9_least_2 fX9_170 (fun q h => by cases h; rfl) (by first | rfl | assumption | exact M0.at (by decide) (by decide)) rfl rfl rfl ?_
          refine zJ_aload_n dX9_least_5 rfl ?_
          refine zJ_aload_n dX9_least_6 rfl ?_
          refine zJ_geti dX9_least_7 fX9_298 (by first | rfl | assumption | exact M0.at (by decide) (by decide)) rfl ?_
          rw [hp1]
          refine zJ_if_le (tgt := 17) dX9_least_10 (by decide) (fun h9 => absurd h9 (fun h => absurd ((nI_leI (b := 0) (by omega) (by decide)).mp h) (by omega))) (fun h10 => ?_)
          refine zJ_iconst (v := 1) dX9_least_13 (by decide) ?_
          refine zJ_goto (tgt := 18) dX9_least_14 (by decide) ?_
          refine zJ_iconst (v := 1) dX9_least_18 (by decide) ?_
          refine zJ_cV2 dX9_least_19 sX9_291 mfX9_right (c_Mo_right1 Δ (zsi w 100 0 0) M0 z0 1) (by first | rfl | assumption | exact M0.at (by decide) (by decide)) rfl (Nat.le_of_ble_eq_true rfl) (by decide) (by decide) ?_
          refine zJ_if_eq (tgt := 66) dX9_least_22 (by decide) (fun h9 => False.elim (by revert h9; decide)) (fun _ => ?_)
          refine zJ_aload_n dX9_least_25 rfl ?_
          refine zJ_iload_n dX9_least_26 rfl ?_
          refine zJ_iconst (v := 0) dX9_least_27 (by decide) ?_
          refine zJ_sipush (v := 9999) dX9_least_28 (by decide) ?_
          refine zJ_cS3 dX9_least_31 sX9_336 mfX9_within ((c_Mo_within Δ (zsi w 100 0 0) (nI f) 0 9999 (by decide) (by decide)).1 ⟨f, Nat.zero_le _, hf, rfl⟩) (Nat.le_of_ble_eq_true rfl) (by decide) (by decide) ?_
          refine zJ_if_eq (tgt := 58) dX9_least_34 (by decide) (fun h9 => False.elim (by revert h9; decide)) (fun _ => ?_)
          refine zJ_iload_n dX9_least_37 rfl ?_
          refine zJ_iload_n dX9_least_38 rfl ?_
          refine zJ_sipush (v := 9999) dX9_least_39 (by decide) ?_
          refine zJ_cS3 dX9_least_42 sX9_336 mfX9_within ((c_Mo_within Δ (zsi w 100 0 0) (nI t) f 9999 (by omega) (by decide)).1 ⟨t, hft, ht, rfl⟩) (Nat.le_of_ble_eq_true rfl) (by decide) (by decide) ?_
          refine zJ_if_eq (tgt := 58) dX9_least_45 (by decide) (fun h9 => False.elim (by revert h9; decide)) (fun _ => ?_)
          refine zJ_iload dX9_least_48 rfl ?_
          refine zJ_iconst (v := 1) dX9_least_50 (by decide) ?_
          refine zJ_icmp_lt (tgt := 58) dX9_least_51 (by decide) (fun h51 => ?_) (fun h9 => absurd hs h9)
          refine zJ_iconst (v := 0) dX9_least_58 (by decide) ?_
          refine zJ_iconst (v := 2) dX9_least_59 (by decide) ?_
          refine zJ_cV2 dX9_least_60 sX9_291 mfX9_right (c_Mo_right0 Δ (zsi w 100 0 0) M0 z0 2 (by decide)) (by first | rfl | assumption | exact M0.at (by decide) (by decide)) rfl (Nat.le_of_ble_eq_true rfl) (by decide) (by decide) ?_
          refine zJ_if_ne (tgt := 68) dX9_least_63 (by decide) (fun h9 => False.elim (by revert h9; decide)) (fun _ => ?_)
          refine zJ_iconst (v := 0) dX9_least_66 (by decide) ?_
          exact zJ_iret dX9_least_67 rfl (by decide) (by decide) (NO2 (fun ⟨f2, t2, s, h1, h2, h3, h4, h5, h6, h7⟩ => absurd hs (by rw [h6]; exact fun h => absurd ((nI_ltI (b := 1) (by omega) (by decide)).mp h) (by omega))) _)
        · obtain ⟨s, hs2, rfl⟩ := nI_of (x := st) (fun h => hs (Int32.lt_trans h (by decide)))
          have hs1 : 1 ≤ s := Nat.le_of_not_lt fun h => hs ((nI_ltI (b := 1) (by omega) (by decide)).mpr h)
          have hsn : ¬ nI s = 0 := fun h => absurd ((nI_eq (b := 0) hs2 (by decide)).mp h) (by omega)
          have hdv : (nI t - nI f) / nI s = nI ((t - f) / s) := by rw [na_sub hft]; exact nI_div (by omega) hs2
          have hdl : (t - f) / s ≤ t - f := Nat.div_le_self _ s
          by_cases h60 : (t - f) / s < 60
          · rcases hbI with rfl | rfl
            · refine zJ_aload_n dX9_least_0 rfl ?_
              refine zJ_iconst (v := 0) dX9_least_1 (by decide) ?_
              refine zJ_puti dX9_least_2 fX9_170 (fun q h => by cases h; rfl) (by first | rfl | assumption | exact M0.at (by decide) (by decide)) rfl rfl rfl ?_
              refine zJ_aload_n dX9_least_5 rfl ?_
              refine zJ_aload_n dX9_least_6 rfl ?_
              refine zJ_geti dX9_least_7 fX9_298 (by first | rfl | assumption | exact M0.at (by decide) (by decide)) rfl ?_
              rw [hp1]
              refine zJ_if_le (tgt := 17) dX9_least_10 (by decide) (fun h9 => absurd h9 (fun h => absurd ((nI_leI (b := 0) (by omega) (by decide)).mp h) (by omega))) (fun h10 => ?_)
              refine zJ_iconst (v := 1) dX9_least_13 (by decide) ?_
              refine zJ_goto (tgt := 18) dX9_least_14 (by decide) ?_
              refine zJ_iconst (v := 1) dX9_least_18 (by decide) ?_
              refine zJ_cV2 dX9_least_19 sX9_291 mfX9_right (c_Mo_right1 Δ (zsi w 100 0 0) M0 z0 1) (by first | rfl | assumption | exact M0.at (by decide) (by decide)) rfl (Nat.le_of_ble_eq_true rfl) (by decide) (by decide) ?_
              refine zJ_if_eq (tgt := 66) dX9_least_22 (by decide) (fun h9 => False.elim (by revert h9; decide)) (fun _ => ?_)
              refine zJ_aload_n dX9_least_25 rfl ?_
              refine zJ_iload_n dX9_least_26 rfl ?_
              refine zJ_iconst (v := 0) dX9_least_27 (by decide) ?_
              refine zJ_sipush (v := 9999) dX9_least_28 (by decide) ?_
              refine zJ_cS3 dX9_least_31 sX9_336 mfX9_within ((c_Mo_within Δ (zsi w 100 0 0) (nI f) 0 9999 (by decide) (by decide)).1 ⟨f, Nat.zero_le _, hf, rfl⟩) (Nat.le_of_ble_eq_true rfl) (by decide) (by decide) ?_
              refine zJ_if_eq (tgt := 58) dX9_least_34 (by decide) (fun h9 => False.elim (by revert h9; decide)) (fun _ => ?_)
              refine zJ_iload_n dX9_least_37 rfl ?_
              refine zJ_iload_n dX9_least_38 rfl ?_
              refine zJ_sipush (v := 9999) dX9_least_39 (by decide) ?_
              refine zJ_cS3 dX9_least_42 sX9_336 mfX9_within ((c_Mo_within Δ (zsi w 100 0 0) (nI t) f 9999 (by omega) (by decide)).1 ⟨t, hft, ht, rfl⟩) (Nat.le_of_ble_eq_true rfl) (by decide) (by decide) ?_
              refine zJ_if_eq (tgt := 58) dX9_least_45 (by decide) (fun h9 => False.elim (by revert h9; decide)) (fun _ => ?_)
              refine zJ_iload dX9_least_48 rfl ?_
              refine zJ_iconst (v := 1) dX9_least_50 (by decide) ?_
              refine zJ_icmp_lt (tgt := 58) dX9_least_51 (by decide) (fun h9 => absurd h9 hs) (fun h51 => ?_)
              refine zJ_iconst (v := 1) dX9_least_54 (by decide) ?_
              refine zJ_goto (tgt := 59) dX9_least_55 (by decide) ?_
              refine zJ_iconst (v := 2) dX9_least_59 (by decide) ?_
              refine zJ_cV2 dX9_least_60 sX9_291 mfX9_right (c_Mo_right1 Δ (zsi w 100 0 0) M0 z0 2) (by first | rfl | assumption | exact M0.at (by decide) (by decide)) rfl (Nat.le_of_ble_eq_true rfl) (by decide) (by decide) ?_
              refine zJ_if_ne (tgt := 68) dX9_least_63 (by decide) (fun _ => ?_) (fun h9 => False.elim (by revert h9; decide))
              refine zJ_aload_n dX9_least_68 rfl ?_
              refine zJ_iload_n dX9_least_69 rfl ?_
              refine zJ_iload_n dX9_least_70 rfl ?_
              refine zJ_isub dX9_least_71 ?_
              refine zJ_iload dX9_least_72 rfl ?_
              refine zJ_idiv dX9_least_74 hsn ?_
              rw [hdv]
              refine zJ_bipush (v := 60) dX9_least_75 (by decide) ?_
              refine zJ_icmp_ge (tgt := 84) dX9_least_77 (by decide) (fun h9 => absurd h9 (fun h => absurd ((nI_leI (a := 60) (by decide) (by omega)).mp h) (by omega))) (fun h77 => ?_)
              refine zJ_iconst (v := 1) dX9_least_80 (by decide) ?_
              refine zJ_goto (tgt := 85) dX9_least_81 (by decide) ?_
              refine zJ_iconst (v := 2) dX9_least_85 (by decide) ?_
              refine zJ_cV2 dX9_least_86 sX9_291 mfX9_right (c_Mo_right1 Δ (zsi w 100 0 0) M0 z0 2) (by first | rfl | assumption | exact M0.at (by decide) (by decide)) rfl (Nat.le_of_ble_eq_true rfl) (by decide) (by decide) ?_
              refine zJ_if_ne (tgt := 94) dX9_least_89 (by decide) (fun _ => ?_) (fun h9 => False.elim (by revert h9; decide))
              exact zMo_ls0 Δ (zsi w 100 0 0) U hMu1 hU0 h13 hpos z0 f t s hft ht hs1 hs2 (fun c r fc hP => hQ _ _ ⟨zFM.t0.tr fc, Or.inr (Or.inr ⟨hpos, f, t, s, hft, ht, rfl, rfl, ⟨hs1, hs2⟩, rfl, h60, Or.inr ⟨rfl, hP⟩⟩)⟩)
            · refine zJ_aload_n dX9_least_0 rfl ?_
              refine zJ_iconst (v := 0) dX9_least_1 (by decide) ?_
              refine zJ_puti dX9_least_2 fX9_170 (fun q h => by cases h; rfl) (by first | rfl | assumption | exact M0.at (by decide) (by decide)) rfl rfl rfl ?_
              refine zJ_aload_n dX9_least_5 rfl ?_
              refine zJ_aload_n dX9_least_6 rfl ?_
              refine zJ_geti dX9_least_7 fX9_298 (by first | rfl | assumption | exact M0.at (by decide) (by decide)) rfl ?_
              rw [hp1]
              refine zJ_if_le (tgt := 17) dX9_least_10 (by decide) (fun h9 => absurd h9 (fun h => absurd ((nI_leI (b := 0) (by omega) (by decide)).mp h) (by omega))) (fun h10 => ?_)
              refine zJ_iconst (v := 1) dX9_least_13 (by decide) ?_
              refine zJ_goto (tgt := 18) dX9_least_14 (by decide) ?_
              refine zJ_iconst (v := 1) dX9_least_18 (by decide) ?_
              refine zJ_cV2 dX9_least_19 sX9_291 mfX9_right (c_Mo_right1 Δ (zsi w 100 0 0) M0 z0 1) (by first | rfl | assumption | exact M0.at (by decide) (by decide)) rfl (Nat.le_of_ble_eq_true rfl) (by decide) (by decide) ?_
              refine zJ_if_eq (tgt := 66) dX9_least_22 (by decide) (fun h9 => False.elim (by revert h9; decide)) (fun _ => ?_)
              refine zJ_aload_n dX9_least_25 rfl ?_
              refine zJ_iload_n dX9_least_26 rfl ?_
              refine zJ_iconst (v := 0) dX9_least_27 (by decide) ?_
              refine zJ_sipush (v := 9999) dX9_least_28 (by decide) ?_
              refine zJ_cS3 dX9_least_31 sX9_336 mfX9_within ((c_Mo_within Δ (zsi w 100 0 0) (nI f) 0 9999 (by decide) (by decide)).1 ⟨f, Nat.zero_le _, hf, rfl⟩) (Nat.le_of_ble_eq_true rfl) (by decide) (by decide) ?_
              refine zJ_if_eq (tgt := 58) dX9_least_34 (by decide) (fun h9 => False.elim (by revert h9; decide)) (fun _ => ?_)
              refine zJ_iload_n dX9_least_37 rfl ?_
              refine zJ_iload_n dX9_least_38 rfl ?_
              refine zJ_sipush (v := 9999) dX9_least_39 (by decide) ?_
              refine zJ_cS3 dX9_least_42 sX9_336 mfX9_within ((c_Mo_within Δ (zsi w 100 0 0) (nI t) f 9999 (by omega) (by decide)).1 ⟨t, hft, ht, rfl⟩) (Nat.le_of_ble_eq_true rfl) (by decide) (by decide) ?_
              refine zJ_if_eq (tgt := 58) dX9_least_45 (by decide) (fun h9 => False.elim (by revert h9; decide)) (fun _ => ?_)
              refine zJ_iload dX9_least_48 rfl ?_
              refine zJ_iconst (v := 1) dX9_least_50 (by decide) ?_
              refine zJ_icmp_lt (tgt := 58) dX9_least_51 (by decide) (fun h9 => absurd h9 hs) (fun h51 => ?_)
              refine zJ_iconst (v := 1) dX9_least_54 (by decide) ?_
              refine zJ_goto (tgt := 59) dX9_least_55 (by decide) ?_
              refine zJ_iconst (v := 2) dX9_least_59 (by decide) ?_
              refine zJ_cV2 dX9_least_60 sX9_291 mfX9_right (c_Mo_right1 Δ (zsi w 100 0 0) M0 z0 2) (by first | rfl | assumption | exact M0.at (by decide) (by decide)) rfl (Nat.le_of_ble_eq_true rfl) (by decide) (by decide) ?_
              refine zJ_if_ne (tgt := 68) dX9_least_63 (by decide) (fun _ => ?_) (fun h9 => False.elim (by revert h9; decide))
              refine zJ_aload_n dX9_least_68 rfl ?_
              refine zJ_iload_n dX9_least_69 rfl ?_
              refine zJ_iload_n dX9_least_70 rfl ?_
              refine zJ_isub dX9_least_71 ?_
              refine zJ_iload dX9_least_72 rfl ?_
              refine zJ_idiv dX9_least_74 hsn ?_
              rw [hdv]
              refine zJ_bipush (v := 60) dX9_least_75 (by decide) ?_
              refine zJ_icmp_ge (tgt := 84) dX9_least_77 (by decide) (fun h9 => absurd h9 (fun h => absurd ((nI_leI (a := 60) (by decide) (by omega)).mp h) (by omega))) (fun h77 => ?_)
              refine zJ_iconst (v := 1) dX9_least_80 (by decide) ?_
              refine zJ_goto (tgt := 85) dX9_least_81 (by decide) ?_
              refine zJ_iconst (v := 2) dX9_least_85 (by decide) ?_
              refine zJ_cV2 dX9_least_86 sX9_291 mfX9_right (c_Mo_right1 Δ (zsi w 100 0 0) M0 z0 2) (by first | rfl | assumption | exact M0.at (by decide) (by decide)) rfl (Nat.le_of_ble_eq_true rfl) (by decide) (by decide) ?_
              refine zJ_if_ne (tgt := 94) dX9_least_89 (by decide) (fun _ => ?_) (fun h9 => False.elim (by revert h9; decide))
              exact zMo_ls1 Δ (zsi w 100 0 0) U hMu1 hU0 h13 hpos z0 f t s hft ht hs1 hs2 (fun c r fc hP => hQ _ _ ⟨zFM.t0.tr fc, Or.inr (Or.inr ⟨hpos, f, t, s, hft, ht, rfl, rfl, ⟨hs1, hs2⟩, rfl, h60, Or.inl ⟨rfl, hP⟩⟩)⟩)
          · refine zJ_aload_n dX9_least_0 rfl ?_
            refine zJ_iconst (v := 0) dX9_least_1 (by decide) ?_
            refine zJ_puti dX9_least_2 fX9_170 (fun q h => by cases h; rfl) (by first | rfl | assumption | exact M0.at (by decide) (by decide)) rfl rfl rfl ?_
            refine zJ_aload_n dX9_least_5 rfl ?_
            refine zJ_aload_n dX9_least_6 rfl ?_
            refine zJ_geti dX9_least_7 fX9_298 (by first | rfl | assumption | exact M0.at (by decide) (by decide)) rfl ?_
            rw [hp1]
            refine zJ_if_le (tgt := 17) dX9_least_10 (by decide) (fun h9 => absurd h9 (fun h => absurd ((nI_leI (b := 0) (by omega) (by decide)).mp h) (by omega))) (fun h10 => ?_)
            refine zJ_iconst (v := 1) dX9_least_13 (by decide) ?_
            refine zJ_goto (tgt := 18) dX9_least_14 (by decide) ?_
            refine zJ_iconst (v := 1) dX9_least_18 (by decide) ?_
            refine zJ_cV2 dX9_least_19 sX9_291 mfX9_right (c_Mo_right1 Δ (zsi w 100 0 0) M0 z0 1) (by first | rfl | assumption | exact M0.at (by decide) (by decide)) rfl (Nat.le_of_ble_eq_true rfl) (by decide) (by decide) ?_
            refine zJ_if_eq (tgt := 66) dX9_least_22 (by decide) (fun h9 => False.elim (by revert h9; decide)) (fun _ => ?_)
            refine zJ_aload_n dX9_least_25 rfl ?_
            refine zJ_iload_n dX9_least_26 rfl ?_
            refine zJ_iconst (v := 0) dX9_least_27 (by decide) ?_
            refine zJ_sipush (v := 9999) dX9_least_28 (by decide) ?_
            refine zJ_cS3 dX9_least_31 sX9_336 mfX9_within ((c_Mo_within Δ (zsi w 100 0 0) (nI f) 0 9999 (by decide) (by decide)).1 ⟨f, Nat.zero_le _, hf, rfl⟩) (Nat.le_of_ble_eq_true rfl) (by decide) (by decide) ?_
            refine zJ_if_eq (tgt := 58) dX9_least_34 (by decide) (fun h9 => False.elim (by revert h9; decide)) (fun _ => ?_)
            refine zJ_iload_n dX9_least_37 rfl ?_
            refine zJ_iload_n dX9_least_38 rfl ?_
            refine zJ_sipush (v := 9999) dX9_least_39 (by decide) ?_
            refine zJ_cS3 dX9_least_42 sX9_336 mfX9_within ((c_Mo_within Δ (zsi w 100 0 0) (nI t) f 9999 (by omega) (by decide)).1 ⟨t, hft, ht, rfl⟩) (Nat.le_of_ble_eq_true rfl) (by decide) (by decide) ?_
            refine zJ_if_eq (tgt := 58) dX9_least_45 (by decide) (fun h9 => False.elim (by revert h9; decide)) (fun _ => ?_)
            refine zJ_iload dX9_least_48 rfl ?_
            refine zJ_iconst (v := 1) dX9_least_50 (by decide) ?_
            refine zJ_icmp_lt (tgt := 58) dX9_least_51 (by decide) (fun h9 => absurd h9 hs) (fun h51 => ?_)
            refine zJ_iconst (v := 1) dX9_least_54 (by decide) ?_
            refine zJ_goto (tgt := 59) dX9_least_55 (by decide) ?_
            refine zJ_iconst (v := 2) dX9_least_59 (by decide) ?_
            refine zJ_cV2 dX9_least_60 sX9_291 mfX9_right (c_Mo_right1 Δ (zsi w 100 0 0) M0 z0 2) (by first | rfl | assumption | exact M0.at (by decide) (by decide)) rfl (Nat.le_of_ble_eq_true rfl) (by decide) (by decide) ?_
            refine zJ_if_ne (tgt := 68) dX9_least_63 (by decide) (fun _ => ?_) (fun h9 => False.elim (by revert h9; decide))
            refine zJ_aload_n dX9_least_68 rfl ?_
            refine zJ_iload_n dX9_least_69 rfl ?_
            refine zJ_iload_n dX9_least_70 rfl ?_
            refine zJ_isub dX9_least_71 ?_
            refine zJ_iload dX9_least_72 rfl ?_
            refine zJ_idiv dX9_least_74 hsn ?_
            rw [hdv]
            refine zJ_bipush (v := 60) dX9_least_75 (by decide) ?_
            refine zJ_icmp_ge (tgt := 84) dX9_least_77 (by decide) (fun h77 => ?_) (fun h9 => absurd ((nI_leI (a := 60) (by decide) (by omega)).mpr (by omega)) h9)
            refine zJ_iconst (v := 0) dX9_least_84 (by decide) ?_
            refine zJ_iconst (v := 2) dX9_least_85 (by decide) ?_
            refine zJ_cV2 dX9_least_86 sX9_291 mfX9_right (c_Mo_right0 Δ (zsi w 100 0 0) M0 z0 2 (by decide)) (by first | rfl | assumption | exact M0.at (by decide) (by decide)) rfl (Nat.le_of_ble_eq_true rfl) (by decide) (by decide) ?_
            refine zJ_if_ne (tgt := 94) dX9_least_89 (by decide) (fun h9 => False.elim (by revert h9; decide)) (fun _ => ?_)
            refine zJ_iconst (v := 0) dX9_least_92 (by decide) ?_
            exact zJ_iret dX9_least_93 rfl (by decide) (by decide) (NO2 (fun ⟨f2, t2, s3, h1, h2, h3, h4, h5, h6, h7⟩ => by
  obtain rfl := (nI_eq (by omega) (by omega)).mp h3
  obtain rfl := (nI_eq (by omega) (by omega)).mp h4
  obtain rfl := (nI_eq hs2 h5.2).mp h6
  exact h60 h7) _)
      · refine zJ_aload_n dX9_least_0 rfl ?_
        refine zJ_iconst (v := 0) dX9_least_1 (by decide) ?_
        refine zJ_puti dX9_least_2 fX9_170 (fun q h => by cases h; rfl) (by first | rfl | assumption | exact M0.at (by decide) (by decide)) rfl rfl rfl ?_
        refine zJ_aload_n dX9_least_5 rfl ?_
        refine zJ_aload_n dX9_least_6 rfl ?_
        refine zJ_geti dX9_least_7 fX9_298 (by first | rfl | assumption | exact M0.at (by decide) (by decide)) rfl ?_
        rw [hp1]
        refine zJ_if_le (tgt := 17) dX9_least_10 (by decide) (fun h9 => absurd h9 (fun h => absurd ((nI_leI (b := 0) (by omega) (by decide)).mp h) (by omega))) (fun h10 => ?_)
        refine zJ_iconst (v := 1) dX9_least_13 (by decide) ?_
        refine zJ_goto (tgt := 18) dX9_least_14 (by decide) ?_
        refine zJ_iconst (v := 1) dX9_least_18 (by decide) ?_
        refine zJ_cV2 dX9_least_19 sX9_291 mfX9_right (c_Mo_right1 Δ (zsi w 100 0 0) M0 z0 1) (by first | rfl | assumption | exact M0.at (by decide) (by decide)) rfl (Nat.le_of_ble_eq_true rfl) (by decide) (by decide) ?_
        refine zJ_if_eq (tgt := 66) dX9_least_22 (by decide) (fun h9 => False.elim (by revert h9; decide)) (fun _ => ?_)
        refine zJ_aload_n dX9_least_25 rfl ?_
        refine zJ_iload_n dX9_least_26 rfl ?_
        refine zJ_iconst (v := 0) dX9_least_27 (by decide) ?_
        refine zJ_sipush (v := 9999) dX9_least_28 (by decide) ?_
        refine zJ_cS3 dX9_least_31 sX9_336 mfX9_within ((c_Mo_within Δ (zsi w 100 0 0) (nI f) 0 9999 (by decide) (by decide)).1 ⟨f, Nat.zero_le _, hf, rfl⟩) (Nat.le_of_ble_eq_true rfl) (by decide) (by decide) ?_
        refine zJ_if_eq (tgt := 58) dX9_least_34 (by decide) (fun h9 => False.elim (by revert h9; decide)) (fun _ => ?_)
        refine zJ_iload_n dX9_least_37 rfl ?_
        refine zJ_iload_n dX9_least_38 rfl ?_
        refine zJ_sipush (v := 9999) dX9_least_39 (by decide) ?_
        refine zJ_cS3 dX9_least_42 sX9_336 mfX9_within ((c_Mo_within Δ (zsi w 100 0 0) b f 9999 (by omega) (by decide)).2 hb) (Nat.le_of_ble_eq_true rfl) (by decide) (by decide) ?_
        refine zJ_if_eq (tgt := 58) dX9_least_45 (by decide) (fun _ => ?_) (fun h9 => False.elim (by revert h9; decide))
        refine zJ_iconst (v := 0) dX9_least_58 (by decide) ?_
        refine zJ_iconst (v := 2) dX9_least_59 (by decide) ?_
        refine zJ_cV2 dX9_least_60 sX9_291 mfX9_right (c_Mo_right0 Δ (zsi w 100 0 0) M0 z0 2 (by decide)) (by first | rfl | assumption | exact M0.at (by decide) (by decide)) rfl (Nat.le_of_ble_eq_true rfl) (by decide) (by decide) ?_
        refine zJ_if_ne (tgt := 68) dX9_least_63 (by decide) (fun h9 => False.elim (by revert h9; decide)) (fun _ => ?_)
        refine zJ_iconst (v := 0) dX9_least_66 (by decide) ?_
        exact zJ_iret dX9_least_67 rfl (by decide) (by decide) (NO2 (fun ⟨f2, t2, s3, h1, h2, h3, h4, h5⟩ => by
  obtain rfl := (nI_eq (by omega) (by omega)).mp h3
  exact hb ⟨t2, h1, h2, h4⟩) _)
    · refine zJ_aload_n dX9_least_0 rfl ?_
      refine zJ_iconst (v := 0) dX9_least_1 (by decide) ?_
      refine zJ_puti dX9_least_2 fX9_170 (fun q h => by cases h; rfl) (by first | rfl | assumption | exact M0.at (by decide) (by decide)) rfl rfl rfl ?_
      refine zJ_aload_n dX9_least_5 rfl ?_
      refine zJ_aload_n dX9_least_6 rfl ?_
      refine zJ_geti dX9_least_7 fX9_298 (by first | rfl | assumption | exact M0.at (by decide) (by decide)) rfl ?_
      rw [hp1]
      refine zJ_if_le (tgt := 17) dX9_least_10 (by decide) (fun h9 => absurd h9 (fun h => absurd ((nI_leI (b := 0) (by omega) (by decide)).mp h) (by omega))) (fun h10 => ?_)
      refine zJ_iconst (v := 1) dX9_least_13 (by decide) ?_
      refine zJ_goto (tgt := 18) dX9_least_14 (by decide) ?_
      refine zJ_iconst (v := 1) dX9_least_18 (by decide) ?_
      refine zJ_cV2 dX9_least_19 sX9_291 mfX9_right (c_Mo_right1 Δ (zsi w 100 0 0) M0 z0 1) (by first | rfl | assumption | exact M0.at (by decide) (by decide)) rfl (Nat.le_of_ble_eq_true rfl) (by decide) (by decide) ?_
      refine zJ_if_eq (tgt := 66) dX9_least_22 (by decide) (fun h9 => False.elim (by revert h9; decide)) (fun _ => ?_)
      refine zJ_aload_n dX9_least_25 rfl ?_
      refine zJ_iload_n dX9_least_26 rfl ?_
      refine zJ_iconst (v := 0) dX9_least_27 (by decide) ?_
      refine zJ_sipush (v := 9999) dX9_least_28 (by decide) ?_
      refine zJ_cS3 dX9_least_31 sX9_336 mfX9_within ((c_Mo_within Δ (zsi w 100 0 0) a 0 9999 (by decide) (by decide)).2 ha) (Nat.le_of_ble_eq_true rfl) (by decide) (by decide) ?_
      refine zJ_if_eq (tgt := 58) dX9_least_34 (by decide) (fun _ => ?_) (fun h9 => False.elim (by revert h9; decide))
      refine zJ_iconst (v := 0) dX9_least_58 (by decide) ?_
      refine zJ_iconst (v := 2) dX9_least_59 (by decide) ?_
      refine zJ_cV2 dX9_least_60 sX9_291 mfX9_right (c_Mo_right0 Δ (zsi w 100 0 0) M0 z0 2 (by decide)) (by first | rfl | assumption | exact M0.at (by decide) (by decide)) rfl (Nat.le_of_ble_eq_true rfl) (by decide) (by decide) ?_
      refine zJ_if_ne (tgt := 68) dX9_least_63 (by decide) (fun h9 => False.elim (by revert h9; decide)) (fun _ => ?_)
      refine zJ_iconst (v := 0) dX9_least_66 (by decide) ?_
      exact zJ_iret dX9_least_67 rfl (by decide) (by decide) (NO2 (fun ⟨f2, t2, s3, h1, h2, h3, h4⟩ => ha ⟨f2, Nat.zero_le _, Nat.le_trans h1 h2, h3⟩) _)
  · have hz0 : U.1 0 = 0 := by omega
    refine zJ_aload_n dX9_least_0 rfl ?_
    refine zJ_iconst (v := 0) dX9_least_1 (by decide) ?_
    refine zJ_puti dX9_least_2 fX9_170 (fun q h => by cases h; rfl) (by first | rfl | assumption | exact M0.at (by decide) (by decide)) rfl rfl rfl ?_
    refine zJ_aload_n dX9_least_5 rfl ?_
    refine zJ_aload_n dX9_least_6 rfl ?_
    refine zJ_geti dX9_least_7 fX9_298 (by first | rfl | assumption | exact M0.at (by decide) (by decide)) rfl ?_
    rw [hp1]
    refine zJ_if_le (tgt := 17) dX9_least_10 (by decide) (fun h10 => ?_) (fun h9 => absurd (by rw [hz0]; decide) h9)
    refine zJ_iconst (v := 0) dX9_least_17 (by decide) ?_
    refine zJ_iconst (v := 1) dX9_least_18 (by decide) ?_
    refine zJ_cV2 dX9_least_19 sX9_291 mfX9_right (c_Mo_right0 Δ (zsi w 100 0 0) M0 z0 1 (by decide)) (by first | rfl | assumption | exact M0.at (by decide) (by decide)) rfl (Nat.le_of_ble_eq_true rfl) (by decide) (by decide) ?_
    refine zJ_if_eq (tgt := 66) dX9_least_22 (by decide) (fun _ => ?_) (fun h9 => False.elim (by revert h9; decide))
    refine zJ_iconst (v := 0) dX9_least_66 (by decide) ?_
    exact zJ_iret dX9_least_67 rfl (by decide) (by decide) (hQ _ _ ⟨zFM.t0.tr zFM.t0, Or.inl ⟨hpos, by simp [zsi]⟩⟩)
