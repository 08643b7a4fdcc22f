/-! the model: chained, theft, begin, week, image, restore -/
set_option maxRecDepth 100000 in
theorem c_Mo_chained (Δ : zD) (w : zW) (hM : zMs w) (x : Int32) (len : Nat) (hl : len ≤ 12) (h66 : w.2.1 100 66 = nI len) : zMp Δ 1 yX9_chained mX9_chained [.ref 100, .int x] w (fun r c => (¬ (∃ i, i < len ∧ x = nI i) ∧ c = zsi (zsi w 100 0 0) 100 0 1) ∨ (∃ i, i < len ∧ x = nI i ∧ c = zsi w 100 0 0 ∧ r = some (.int (w.2.1 167 i)))) := by
  refine zMp.of mfX9_chained (Nat.le_of_ble_eq_true rfl) (fun QR hQ => ?_)
  have M0 : zMs (zsi w 100 0 0) := hM
  have z0 : (zsi w 100 0 0).2.1 100 0 = 0 := by simp [zsi]
  have h661 : (zsi w 100 0 0).2.1 100 66 = nI len := by simp [zsi, h66]
  by_cases hx : ∃ i, i < len ∧ x = nI i
  · obtain ⟨i, hi, rfl⟩ := hx
    refine zJ_aload_n dX9_chained_0 rfl ?_
    refine zJ_iconst (v := 0) dX9_chained_1 (by decide) ?_
    refine zJ_puti dX9_chained_2 fX9_170 (fun q h => by cases h; rfl) (by first | rfl | assumption | exact M0.at (by decide) (by decide)) rfl rfl rfl ?_
    refine zJ_aload_n dX9_chained_5 rfl ?_
    refine zJ_iload_n dX9_chained_6 rfl ?_
    refine zJ_if_lt (tgt := 22) dX9_chained_7 (by decide) (fun h9 => absurd h9 (fun h => absurd ((nI_ltI (b := 0) (by omega) (by decide)).mp h) (by omega))) (fun h7 => ?_)
    refine zJ_iload_n dX9_chained_10 rfl ?_
    refine zJ_aload_n dX9_chained_11 rfl ?_
    refine zJ_getiN dX9_chained_12 fX9_326 (by first | rfl | assumption | exact M0.at (by decide) (by decide)) rfl h661 ?_
    refine zJ_icmp_ge (tgt := 22) dX9_chained_15 (by decide) (fun h9 => absurd h9 (fun h => absurd ((nI_leI (by omega) (by omega)).mp h) (by omega))) (fun h15 => ?_)
    refine zJ_iconst (v := 1) dX9_chained_18 (by decide) ?_
    refine zJ_goto (tgt := 23) dX9_chained_19 (by decide) ?_
    refine zJ_iconst (v := 1) dX9_chained_23 (by decide) ?_
    refine zJ_cV2 dX9_chained_24 sX9_291 mfX9_right (c_Mo_right1 Δ (zsi w 100 0 0) M0 z0 1) (by first | rfl | assumption | exact M0.at (by decide) (by decide)) rfl (Nat.le_of_ble_eq_true rfl) (by decide) (by decide) ?_
    refine zJ_if_eq (tgt := 39) dX9_chained_27 (by decide) (fun h9 => False.elim (by revert h9; decide)) (fun _ => ?_)
    refine zJ_aload_n dX9_chained_30 rfl ?_
    refine zJ_getr (j := 167) dX9_chained_31 fX9_116 (by first | rfl | assumption | exact M0.at (by decide) (by decide)) rfl (by first | rfl | assumption | exact M0.rf (by decide) rfl) ?_
    refine zJ_iload_n dX9_chained_34 rfl ?_
    refine zJ_ialdN (i := i) (v := (w.2.1 167 i)) dX9_chained_35 (by first | rfl | assumption | exact M0.at (by decide) (by decide)) rfl (by omega) (by decide) (by rw [zsi_o (by decide)]) ?_
    refine zJ_goto (tgt := 40) dX9_chained_36 (by decide) ?_
    exact zJ_iret dX9_chained_40 rfl (by decide) (by decide) (hQ _ _ (Or.inr ⟨i, hi, rfl, rfl, rfl⟩))
  · skip
    refine zJ_aload_n dX9_chained_0 rfl ?_
    refine zJ_iconst (v := 0) dX9_chained_1 (by decide) ?_
    refine zJ_puti dX9_chained_2 fX9_170 (fun q h => by cases h; rfl) (by first | rfl | assumption | exact M0.at (by decide) (by decide)) rfl rfl rfl ?_
    refine zJ_aload_n dX9_chained_5 rfl ?_
    refine zJ_iload_n dX9_chained_6 rfl ?_
    refine zJ_if_lt (tgt := 22) dX9_chained_7 (by decide) (fun h7 => ?_) (fun h7 => ?_)
    · refine zJ_iconst (v := 0) dX9_chained_22 (by decide) ?_
      refine zJ_iconst (v := 1) dX9_chained_23 (by decide) ?_
      refine zJ_cV2 dX9_chained_24 sX9_291 mfX9_right (c_Mo_right0 Δ (zsi w 100 0 0) M0 z0 1 (by decide)) (by first | rfl | assumption | exact M0.at (by decide) (by decide)) rfl (Nat.le_of_ble_eq_true rfl) (by decide) (by decide) ?_
      refine zJ_if_eq (tgt := 39) dX9_chained_27 (by decide) (fun _ => ?_) (fun h9 => False.elim (by revert h9; decide))
      refine zJ_iconst (v := 0) dX9_chained_39 (by decide) ?_
      exact zJ_iret dX9_chained_40 rfl (by decide) (by decide) (hQ _ _ (Or.inl ⟨hx, rfl⟩))
    · refine zJ_iload_n dX9_chained_10 rfl ?_
      refine zJ_aload_n dX9_chained_11 rfl ?_
      refine zJ_getiN dX9_chained_12 fX9_326 (by first | rfl | assumption | exact M0.at (by decide) (by decide)) rfl h661 ?_
      refine zJ_icmp_ge (tgt := 22) dX9_chained_15 (by decide) (fun h15 => ?_) (fun h15 => ?_)
      · refine zJ_iconst (v := 0) dX9_chained_22 (by decide) ?_
        refine zJ_iconst (v := 1) dX9_chained_23 (by decide) ?_
        refine zJ_cV2 dX9_chained_24 sX9_291 mfX9_right (c_Mo_right0 Δ (zsi w 100 0 0) M0 z0 1 (by decide)) (by first | rfl | assumption | exact M0.at (by decide) (by decide)) rfl (Nat.le_of_ble_eq_true rfl) (by decide) (by decide) ?_
        refine zJ_if_eq (tgt := 39) dX9_chained_27 (by decide) (fun _ => ?_) (fun h9 => False.elim (by revert h9; decide))
        refine zJ_iconst (v := 0) dX9_chained_39 (by decide) ?_
        exact zJ_iret dX9_chained_40 rfl (by decide) (by decide) (hQ _ _ (Or.inl ⟨hx, rfl⟩))
      · obtain ⟨i, hi31, rfl⟩ := nI_of h7
        exact absurd ⟨i, (nI_ltI (by omega) (by omega)).mp (Int32.not_le.mp h15), rfl⟩ hx
set_option maxRecDepth 100000 in
theorem c_Mo_theft (Δ : zD) (w : zW) (U : zTo) (hMu : zMu w U) (hU : zTok U) (h13 : U.1 13 = 0) (x y : Int32) (n : Nat) (hn : n ≤ 30) (h71 : w.2.1 100 71 = nI n) : zMp Δ 2 yX9_theft mX9_theft [.ref 100, .int x, .int y] w (fun r c => (¬ (∃ t, t < 2 ^ U.1 0 ∧ x = nI t) ∧ c = zsi (zsi w 100 0 0) 100 0 1) ∨ (∃ t, t < 2 ^ U.1 0 ∧ x = nI t ∧ ((¬ (n < 30 ∧ ∃ f, f ≤ 8 ∧ y = nI f) ∧ r = some (.int (-1)) ∧ c = zsi (zsi w 100 0 0) 117 2 (w.2.1 117 2 + 1)) ∨ ((n < 30 ∧ ∃ f, f ≤ 8 ∧ y = nI f) ∧ r = some (.int (nI (n + 1))) ∧ c = zsi (zsi (zsi (zsi w 100 0 0) 172 n x) 173 n y) 100 71 (nI (n + 1)))))) := by
  refine zMp.of mfX9_theft (Nat.le_of_ble_eq_true rfl) (fun QR hQ => ?_)
  have hMu0 := hMu
  obtain ⟨hM, u1, u2, u3, u4, u5, u6, u7, u8, u9, uso, unu, uwt⟩ := hMu
  have hp8 := hU.1
  have hU0 := hU
  have M0 : zMs (zsi w 100 0 0) := hM
  have z0 : (zsi w 100 0 0).2.1 100 0 = 0 := by simp [zsi]
  have hMu1 : zMu (zsi w 100 0 0) U := hMu0.fm (zFM.i (l := [0]) (by decide)) (by decide)
  have hp1 : (zsi w 100 0 0).2.1 100 1 = nI (U.1 0) := hMu1.2.1
  have h711 : (zsi w 100 0 0).2.1 100 71 = nI n := by simp [zsi, h71]
  have h256 : 2 ^ U.1 0 ≤ 2 ^ 8 := Nat.pow_le_pow_right (by decide) hp8
  by_cases hx : ∃ t, t < 2 ^ U.1 0 ∧ x = nI t
  · obtain ⟨t, ht, rfl⟩ := hx
    by_cases hn30 : n = 30
    · have hno : ¬ (n < 30 ∧ ∃ f, f ≤ 8 ∧ y = nI f) := fun h => absurd h.1 (by omega)
      refine zJ_aload_n dX9_theft_0 rfl ?_
      refine zJ_iconst (v := 0) dX9_theft_1 (by decide) ?_
      refine zJ_puti dX9_theft_2 fX9_170 (fun q h => by cases h; rfl) (by first | rfl | assumption | exact M0.at (by decide) (by decide)) rfl rfl rfl ?_
      refine zJ_aload_n dX9_theft_5 rfl ?_
      refine zJ_iload_n dX9_theft_6 rfl ?_
      refine zJ_if_lt (tgt := 24) dX9_theft_7 (by decide) (fun h9 => absurd h9 (fun h => absurd ((nI_ltI (b := 0) (by omega) (by decide)).mp h) (by omega))) (fun h7 => ?_)
      refine zJ_iload_n dX9_theft_10 rfl ?_
      refine zJ_iconst (v := 1) dX9_theft_11 (by decide) ?_
      refine zJ_aload_n dX9_theft_12 rfl ?_
      refine zJ_geti dX9_theft_13 fX9_298 (by first | rfl | assumption | exact M0.at (by decide) (by decide)) rfl ?_
      rw [hp1]
      refine zJ_ishl dX9_theft_16 ?_
      rw [na_shl (U.1 0) (by omega)]
      refine zJ_icmp_ge (tgt := 24) dX9_theft_17 (by decide) (fun h9 => absurd h9 (fun h => absurd ((nI_leI (by omega) (by omega)).mp h) (by omega))) (fun h17 => ?_)
      refine zJ_iconst (v := 1) dX9_theft_20 (by decide) ?_
      refine zJ_goto (tgt := 25) dX9_theft_21 (by decide) ?_
      refine zJ_iconst (v := 1) dX9_theft_25 (by decide) ?_
      refine zJ_cV2 dX9_theft_26 sX9_291 mfX9_right (c_Mo_right1 Δ (zsi w 100 0 0) M0 z0 1) (by first | rfl | assumption | exact M0.at (by decide) (by decide)) rfl (Nat.le_of_ble_eq_true rfl) (by decide) (by decide) ?_
      refine zJ_if_ne (tgt := 34) dX9_theft_29 (by decide) (fun _ => ?_) (fun h9 => False.elim (by revert h9; decide))
      refine zJ_aload_n dX9_theft_34 rfl ?_
      refine zJ_geti dX9_theft_35 fX9_323 (by first | rfl | assumption | exact M0.at (by decide) (by decide)) rfl ?_
      rw [h711]
      refine zJ_bipush (v := 30) dX9_theft_38 (by decide) ?_
      refine zJ_icmp_eq (tgt := 53) dX9_theft_40 (by decide) (fun h40 => ?_) (fun h9 => absurd (by rw [hn30]; rfl) h9)
      refine zJ_aload_n dX9_theft_53 rfl ?_
      refine zJ_getr (j := 117) dX9_theft_54 fX9_38 (by first | rfl | assumption | exact M0.at (by decide) (by decide)) rfl (by first | rfl | assumption | exact M0.rf (by decide) rfl) ?_
      refine zJ_iconst (v := 2) dX9_theft_57 (by decide) ?_
      refine zJ_dup2_11 dX9_theft_58 rfl rfl ?_
      refine zJ_ialdN (i := 2) dX9_theft_59 (by first | rfl | assumption | exact M0.at (by decide) (by decide)) rfl (by omega) (by decide) rfl ?_
      refine zJ_iconst (v := 1) dX9_theft_60 (by decide) ?_
      refine zJ_iadd dX9_theft_61 ?_
      refine zJ_iastN (i := 2) dX9_theft_62 (by first | rfl | assumption | exact M0.at (by decide) (by decide)) rfl (by omega) (by decide) ?_
      refine zJ_iconst (v := (-1)) dX9_theft_63 (by decide) ?_
      exact zJ_iret dX9_theft_64 rfl (by decide) (by decide) (hQ _ _ (Or.inr ⟨t, ht, rfl, Or.inl ⟨hno, rfl, by simp [zsi]⟩⟩))
    · have hne : ¬ nI n = 30 := fun h => hn30 ((nI_eq (b := 30) (by omega) (by decide)).mp h)
      by_cases hf : ∃ f, 0 ≤ f ∧ f ≤ 8 ∧ y = nI f
      · refine zJ_aload_n dX9_theft_0 rfl ?_
        refine zJ_iconst (v := 0) dX9_theft_1 (by decide) ?_
        refine zJ_puti dX9_theft_2 fX9_170 (fun q h => by cases h; rfl) (by first | rfl | assumption | exact M0.at (by decide) (by decide)) rfl rfl rfl ?_
        refine zJ_aload_n dX9_theft_5 rfl ?_
        refine zJ_iload_n dX9_theft_6 rfl ?_
        refine zJ_if_lt (tgt := 24) dX9_theft_7 (by decide) (fun h9 => absurd h9 (fun h => absurd ((nI_ltI (b := 0) (by omega) (by decide)).mp h) (by omega))) (fun h7 => ?_)
        refine zJ_iload_n dX9_theft_10 rfl ?_
        refine zJ_iconst (v := 1) dX9_theft_11 (by decide) ?_
        refine zJ_aload_n dX9_theft_12 rfl ?_
        refine zJ_geti dX9_theft_13 fX9_298 (by first | rfl | assumption | exact M0.at (by decide) (by decide)) rfl ?_
        rw [hp1]
        refine zJ_ishl dX9_theft_16 ?_
        rw [na_shl (U.1 0) (by omega)]
        refine zJ_icmp_ge (tgt := 24) dX9_theft_17 (by decide) (fun h9 => absurd h9 (fun h => absurd ((nI_leI (by omega) (by omega)).mp h) (by omega))) (fun h17 => ?_)
        refine zJ_iconst (v := 1) dX9_theft_20 (by decide) ?_
        refine zJ_goto (tgt := 25) dX9_theft_21 (by decide) ?_
        refine zJ_iconst (v := 1) dX9_theft_25 (by decide) ?_
        refine zJ_cV2 dX9_theft_26 sX9_291 mfX9_right (c_Mo_right1 Δ (zsi w 100 0 0) M0 z0 1) (by first | rfl | assumption | exact M0.at (by decide) (by decide)) rfl (Nat.le_of_ble_eq_true rfl) (by decide) (by decide) ?_
        refine zJ_if_ne (tgt := 34) dX9_theft_29 (by decide) (fun _ => ?_) (fun h9 => False.elim (by revert h9; decide))
        refine zJ_aload_n dX9_theft_34 rfl ?_
        refine zJ_geti dX9_theft_35 fX9_323 (by first | rfl | assumption | exact M0.at (by decide) (by decide)) rfl ?_
        rw [h711]
        refine zJ_bipush (v := 30) dX9_theft_38 (by decide) ?_
        refine zJ_icmp_eq (tgt := 53) dX9_theft_40 (by decide) (fun h9 => absurd h9 hne) (fun h40 => ?_)
        refine zJ_iload_n dX9_theft_43 rfl ?_
        refine zJ_iconst (v := 0) dX9_theft_44 (by decide) ?_
        refine zJ_bipush (v := 8) dX9_theft_45 (by decide) ?_
        refine zJ_cS3 dX9_theft_47 sX9_336 mfX9_within ((c_Mo_within Δ (zsi w 100 0 0) y 0 8 (by decide) (by decide)).1 hf) (Nat.le_of_ble_eq_true rfl) (by decide) (by decide) ?_
        refine zJ_if_ne (tgt := 65) dX9_theft_50 (by decide) (fun _ => ?_) (fun h9 => False.elim (by revert h9; decide))
        refine zJ_aload_n dX9_theft_65 rfl ?_
        refine zJ_getr (j := 172) dX9_theft_66 fX9_128 (by first | rfl | assumption | exact M0.at (by decide) (by decide)) rfl (by first | rfl | assumption | exact M0.rf (by decide) rfl) ?_
        refine zJ_aload_n dX9_theft_69 rfl ?_
        refine zJ_geti dX9_theft_70 fX9_323 (by first | rfl | assumption | exact M0.at (by decide) (by decide)) rfl ?_
        rw [h711]
        refine zJ_iload_n dX9_theft_73 rfl ?_
        refine zJ_iastN (i := n) dX9_theft_74 (by first | rfl | assumption | exact M0.at (by decide) (by decide)) rfl (by omega) (by decide) ?_
        refine zJ_aload_n dX9_theft_75 rfl ?_
        refine zJ_getr (j := 173) dX9_theft_76 fX9_131 (by first | rfl | assumption | exact M0.at (by decide) (by decide)) rfl (by first | rfl | assumption | exact M0.rf (by decide) rfl) ?_
        refine zJ_aload_n dX9_theft_79 rfl ?_
        refine zJ_geti dX9_theft_80 fX9_323 (by first | rfl | assumption | exact M0.at (by decide) (by decide)) rfl ?_
        rw [show (zsi (zsi w 100 0 0) 172 n (nI t)).2.1 100 71 = nI n by simp [zsi, h71]]
        refine zJ_iload_n dX9_theft_83 rfl ?_
        refine zJ_iastN (i := n) dX9_theft_84 (by first | rfl | assumption | exact M0.at (by decide) (by decide)) rfl (by omega) (by decide) ?_
        refine zJ_aload_n dX9_theft_85 rfl ?_
        refine zJ_dup dX9_theft_86 rfl ?_
        refine zJ_geti dX9_theft_87 fX9_323 (by first | rfl | assumption | exact M0.at (by decide) (by decide)) rfl ?_
        rw [show (zsi (zsi (zsi w 100 0 0) 172 n (nI t)) 173 n y).2.1 100 71 = nI n by simp [zsi, h71]]
        refine zJ_iconst (v := 1) dX9_theft_90 (by decide) ?_
        refine zJ_iadd dX9_theft_91 ?_
        rw [show nI n + 1 = nI (n + 1) from nI_1 _]
        refine zJ_puti dX9_theft_92 fX9_323 (fun q h => by cases h; rfl) (by first | rfl | assumption | exact M0.at (by decide) (by decide)) rfl rfl rfl ?_
        refine zJ_aload_n dX9_theft_95 rfl ?_
        refine zJ_geti dX9_theft_96 fX9_323 (by first | rfl | assumption | exact M0.at (by decide) (by decide)) rfl ?_
        rw [show (zsi (zsi (zsi (zsi w 100 0 0) 172 n (nI t)) 173 n y) 100 71 (nI (n + 1))).2.1 100 71 = nI (n + 1) by simp [zsi]]
        exact zJ_iret dX9_theft_99 rfl (by decide) (by decide) (hQ _ _ (Or.inr ⟨t, ht, rfl, Or.inr ⟨⟨by omega, by obtain ⟨f, -, h1, h2⟩ := hf; exact ⟨f, h1, h2⟩⟩, rfl, rfl⟩⟩))
      · have hno : ¬ (n < 30 ∧ ∃ f, f ≤ 8 ∧ y = nI f) := fun h => hf (by obtain ⟨-, f, h1, h2⟩ := h; exact ⟨f, Nat.zero_le _, h1, h2⟩)
        refine zJ_aload_n dX9_theft_0 rfl ?_
        refine zJ_iconst (v := 0) dX9_theft_1 (by decide) ?_
        refine zJ_puti dX9_theft_2 fX9_170 (fun q h => by cases h; rfl) (by first | rfl | assumption | exact M0.at (by decide) (by decide)) rfl rfl rfl ?_
        refine zJ_aload_n dX9_theft_5 rfl ?_
        refine zJ_iload_n dX9_theft_6 rfl ?_
        refine zJ_if_lt (tgt := 24) dX9_theft_7 (by decide) (fun h9 => absurd h9 (fun h => absurd ((nI_ltI (b := 0) (by omega) (by decide)).mp h) (by omega))) (fun h7 => ?_)
        refine zJ_iload_n dX9_theft_10 rfl ?_
        refine zJ_iconst (v := 1) dX9_theft_11 (by decide) ?_
        refine zJ_aload_n dX9_theft_12 rfl ?_
        refine zJ_geti dX9_theft_13 fX9_298 (by first | rfl | assumption | exact M0.at (by decide) (by decide)) rfl ?_
        rw [hp1]
        refine zJ_ishl dX9_theft_16 ?_
        rw [na_shl (U.1 0) (by omega)]
        refine zJ_icmp_ge (tgt := 24) dX9_theft_17 (by decide) (fun h9 => absurd h9 (fun h => absurd ((nI_leI (by omega) (by omega)).mp h) (by omega))) (fun h17 => ?_)
        refine zJ_iconst (v := 1) dX9_theft_20 (by decide) ?_
        refine zJ_goto (tgt := 25) dX9_theft_21 (by decide) ?_
        refine zJ_iconst (v := 1) dX9_theft_25 (by decide) ?_
        refine zJ_cV2 dX9_theft_26 sX9_291 mfX9_right (c_Mo_right1 Δ (zsi w 100 0 0) M0 z0 1) (by first | rfl | assumption | exact M0.at (by decide) (by decide)) rfl (Nat.le_of_ble_eq_true rfl) (by decide) (by decide) ?_
        refine zJ_if_ne (tgt := 34) dX9_theft_29 (by decide) (fun _ => ?_) (fun h9 => False.elim (by revert h9; decide))
        refine zJ_aload_n dX9_theft_34 rfl ?_
        refine zJ_geti dX9_theft_35 fX9_323 (by first | rfl | assumption | exact M0.at (by decide) (by decide)) rfl ?_
        rw [h711]
        refine zJ_bipush (v := 30) dX9_theft_38 (by decide) ?_
        refine zJ_icmp_eq (tgt := 53) dX9_theft_40 (by decide) (fun h9 => absurd h9 hne) (fun h40 => ?_)
        refine zJ_iload_n dX9_theft_43 rfl ?_
        refine zJ_iconst (v := 0) dX9_theft_44 (by decide) ?_
        refine zJ_bipush (v := 8) dX9_theft_45 (by decide) ?_
        refine zJ_cS3 dX9_theft_47 sX9_336 mfX9_within ((c_Mo_within Δ (zsi w 100 0 0) y 0 8 (by decide) (by decide)).2 hf) (Nat.le_of_ble_eq_true rfl) (by decide) (by decide) ?_
        refine zJ_if_ne (tgt := 65) dX9_theft_50 (by decide) (fun h9 => False.elim (by revert h9; decide)) (fun _ => ?_)
        refine zJ_aload_n dX9_theft_53 rfl ?_
        refine zJ_getr (j := 117) dX9_theft_54 fX9_38 (by first | rfl | assumption | exact M0.at (by decide) (by decide)) rfl (by first | rfl | assumption | exact M0.rf (by decide) rfl) ?_
        refine zJ_iconst (v := 2) dX9_theft_57 (by decide) ?_
        refine zJ_dup2_11 dX9_theft_58 rfl rfl ?_
        refine zJ_ialdN (i := 2) dX9_theft_59 (by first | rfl | assumption | exact M0.at (by decide) (by decide)) rfl (by omega) (by decide) rfl ?_
        refine zJ_iconst (v := 1) dX9_theft_60 (by decide) ?_
        refine zJ_iadd dX9_theft_61 ?_
        refine zJ_iastN (i := 2) dX9_theft_62 (by first | rfl | assumption | exact M0.at (by decide) (by decide)) rfl (by omega) (by decide) ?_
        refine zJ_iconst (v := (-1)) dX9_theft_63 (by decide) ?_
        exact zJ_iret dX9_theft_64 rfl (by decide) (by decide) (hQ _ _ (Or.inr ⟨t, ht, rfl, Or.inl ⟨hno, rfl, by simp [zsi]⟩⟩))
  · skip
    refine zJ_aload_n dX9_theft_0 rfl ?_
    refine zJ_iconst (v := 0) dX9_theft_1 (by decide) ?_
    refine zJ_puti dX9_theft_2 fX9_170 (fun q h => by cases h; rfl) (by first | rfl | assumption | exact M0.at (by decide) (by decide)) rfl rfl rfl ?_
    refine zJ_aload_n dX9_theft_5 rfl ?_
    refine zJ_iload_n dX9_theft_6 rfl ?_
    refine zJ_if_lt (tgt := 24) dX9_theft_7 (by decide) (fun h7 => ?_) (fun h7 => ?_)
    · refine zJ_iconst (v := 0) dX9_theft_24 (by decide) ?_
      refine zJ_iconst (v := 1) dX9_theft_25 (by decide) ?_
      refine zJ_cV2 dX9_theft_26 sX9_291 mfX9_right (c_Mo_right0 Δ (zsi w 100 0 0) M0 z0 1 (by decide)) (by first | rfl | assumption | exact M0.at (by decide) (by decide)) rfl (Nat.le_of_ble_eq_true rfl) (by decide) (by decide) ?_
      refine zJ_if_ne (tgt := 34) dX9_theft_29 (by decide) (fun h9 => False.elim (by revert h9; decide)) (fun _ => ?_)
      refine zJ_iconst (v := 0) dX9_theft_32 (by decide) ?_
      exact zJ_iret dX9_theft_33 rfl (by decide) (by decide) (hQ _ _ (Or.inl ⟨hx, rfl⟩))
    · refine zJ_iload_n dX9_theft_10 rfl ?_
      refine zJ_iconst (v := 1) dX9_theft_11 (by decide) ?_
      refine zJ_aload_n dX9_theft_12 rfl ?_
      refine zJ_geti dX9_theft_13 fX9_298 (by first | rfl | assumption | exact M0.at (by decide) (by decide)) rfl ?_
      rw [hp1]
      refine zJ_ishl dX9_theft_16 ?_
      rw [na_shl (U.1 0) (by omega)]
      refine zJ_icmp_ge (tgt := 24) dX9_theft_17 (by decide) (fun h17 => ?_) (fun h17 => ?_)
      · refine zJ_iconst (v := 0) dX9_theft_24 (by decide) ?_
        refine zJ_iconst (v := 1) dX9_theft_25 (by decide) ?_
        refine zJ_cV2 dX9_theft_26 sX9_291 mfX9_right (c_Mo_right0 Δ (zsi w 100 0 0) M0 z0 1 (by decide)) (by first | rfl | assumption | exact M0.at (by decide) (by decide)) rfl (Nat.le_of_ble_eq_true rfl) (by decide) (by decide) ?_
        refine zJ_if_ne (tgt := 34) dX9_theft_29 (by decide) (fun h9 => False.elim (by revert h9; decide)) (fun _ => ?_)
        refine zJ_iconst (v := 0) dX9_theft_32 (by decide) ?_
        exact zJ_iret dX9_theft_33 rfl (by decide) (by decide) (hQ _ _ (Or.inl ⟨hx, rfl⟩))
      · obtain ⟨t, ht31, rfl⟩ := nI_of h7
        exact absurd ⟨t, (nI_ltI (by omega) (by omega)).mp (Int32.not_le.mp h17), rfl⟩ hx
set_option maxRecDepth 100000 in
theorem c_Mo_begin (Δ : zD) (w : zW) (U : zTo) (hMu : zMu w U) (hU : zTok U) (h13 : U.1 13 = 0) (s o : Int32) : zMp Δ 2 yX9_begin mX9_begin [.ref 100, .int s, .int o] w (fun r c => r = none ∧ ((¬ (0 < U.1 0 ∧ ∃ ov, ov ≤ 20 ∧ o = nI ov) ∧ c = zsi (zsi w 100 0 0) 100 0 1) ∨ (0 < U.1 0 ∧ ∃ ov, ov ≤ 20 ∧ o = nI ov ∧ c = zrow (zsi (zsi (zsi (zsi (zsi w 100 0 0) 100 76 1) 178 0 s) 178 1 (nI ov)) 178 2 0) 179 (fun p => if p < 8 then 0 else w.2.1 179 p)))) := by
  refine zMp.of mfX9_begin (Nat.le_of_ble_eq_true rfl) (fun QR hQ => ?_)
  have hMu0 := hMu
  obtain ⟨hM, u1, u2, u3, u4, u5, u6, u7, u8, u9, uso, unu, uwt⟩ := hMu
  have hp8 := hU.1
  have hU0 := hU
  have M0 : zMs (zsi w 100 0 0) := hM
  have z0 : (zsi w 100 0 0).2.1 100 0 = 0 := by simp [zsi]
  have hMu1 : zMu (zsi w 100 0 0) U := hMu0.fm (zFM.i (l := [0]) (by decide)) (by decide)
  have hp1 : (zsi w 100 0 0).2.1 100 1 = nI (U.1 0) := hMu1.2.1
  by_cases ho : ∃ ov, 0 ≤ ov ∧ ov ≤ 20 ∧ o = nI ov
  · by_cases hpos : 0 < U.1 0
    · obtain ⟨ov, -, hov, rfl⟩ := ho
      have L : ∀ j, j ≤ 8 → zJ Δ mX9_begin (zRm 2 0 0) true w.1 QR (fun _ _ => False) 0 0 64 [(3, .int (nI j)), (0, .ref 100), (1, .int s), (2, .int (nI ov))] [] (zrow (zsi (zsi (zsi (zsi (zsi w 100 0 0) 100 76 1) 178 0 s) 178 1 (nI ov)) 178 2 0) 179 (fun p => if p < j then 0 else w.2.1 179 p)) := by
        refine zup (fun j hj ih => ?_)
        refine zJ_iload_n dX9_begin_64 rfl ?_
        refine zJ_bipush (v := 8) dX9_begin_65 (by decide) ?_
        refine zJ_icmp_ge (tgt := 83) dX9_begin_67 (by decide) (fun h67 => ?_) (fun h67 => ?_)
        · have hj9 : j = 8 := by exact Nat.le_antisymm hj ((nI_leI (a := 8) (b := j) (by omega) (by omega)).mp h67)
          subst hj9
          exact zJ_vret dX9_begin_83 rfl (by decide) (by decide) (hQ _ _ ⟨rfl, Or.inr ⟨hpos, ov, hov, rfl, rfl⟩⟩)
        · have hj9 : j < 8 := Nat.lt_of_not_le fun hq9 => h67 (by exact (nI_leI (a := 8) (b := j) (by omega) (by omega)).mpr hq9)
          refine zJ_aload_n dX9_begin_70 rfl ?_
          refine zJ_getr (j := 179) dX9_begin_71 fX9_143 (by first | rfl | assumption | exact M0.at (by decide) (by decide)) rfl (by first | rfl | assumption | exact M0.rf (by decide) rfl) ?_
          refine zJ_iload_n dX9_begin_74 rfl ?_
          refine zJ_iconst (v := 0) dX9_begin_75 (by decide) ?_
          refine zJ_iastN (i := j) dX9_begin_76 (by first | rfl | assumption | exact M0.at (by decide) (by decide)) rfl (by omega) (by decide) ?_
          refine zJ_iinc (ls2 := fun x77 => [(3, .int x77), (0, .ref 100), (1, .int s), (2, .int (nI ov))]) dX9_begin_77 rfl (by decide) (fun _ => rfl) (fun x77 ex77 => ?_)
          refine zJ_goto (tgt := 64) dX9_begin_80 (by decide) ?_
          refine zJ_ls [(3, .int x77), (0, .ref 100), (1, .int s), (2, .int (nI ov))] (by simp) ?_
          rw [ex77, show nI j + Int32.ofInt 1 = nI (j + 1) from nI_1 _]
          refine zJ_w ?_ (ih (j + 1) (by omega) (by omega))
          rw [zsi_row, zrow_get, zrow_row]
          refine congrArg (zrow (zsi (zsi (zsi (zsi (zsi w 100 0 0) 100 76 1) 178 0 s) 178 1 (nI ov)) 178 2 0) 179) (funext fun q => ?_)
          by_cases h : q = j
          · subst h; simp
          · have c3 : (q < j + 1) = (q < j) := by simp only [eq_iff_iff]; omega
            simp only [h, if_false, c3]
      refine zJ_aload_n dX9_begin_0 rfl ?_
      refine zJ_iconst (v := 0) dX9_begin_1 (by decide) ?_
      refine zJ_puti dX9_begin_2 fX9_170 (fun q h => by cases h; rfl) (by first | rfl | assumption | exact M0.at (by decide) (by decide)) rfl rfl rfl ?_
      refine zJ_aload_n dX9_begin_5 rfl ?_
      refine zJ_iload_n dX9_begin_6 rfl ?_
      refine zJ_iconst (v := 0) dX9_begin_7 (by decide) ?_
      refine zJ_bipush (v := 20) dX9_begin_8 (by decide) ?_
      refine zJ_cS3 dX9_begin_10 sX9_336 mfX9_within ((c_Mo_within Δ (zsi w 100 0 0) (nI ov) 0 20 (by decide) (by decide)).1 ⟨ov, Nat.zero_le _, hov, rfl⟩) (Nat.le_of_ble_eq_true rfl) (by decide) (by decide) ?_
      refine zJ_if_eq (tgt := 27) dX9_begin_13 (by decide) (fun h9 => False.elim (by revert h9; decide)) (fun _ => ?_)
      refine zJ_aload_n dX9_begin_16 rfl ?_
      refine zJ_geti dX9_begin_17 fX9_298 (by first | rfl | assumption | exact M0.at (by decide) (by decide)) rfl ?_
      rw [hp1]
      refine zJ_if_le (tgt := 27) dX9_begin_20 (by decide) (fun h9 => absurd h9 (fun h => absurd ((nI_leI (b := 0) (by omega) (by decide)).mp h) (by omega))) (fun h20 => ?_)
      refine zJ_iconst (v := 1) dX9_begin_23 (by decide) ?_
      refine zJ_goto (tgt := 28) dX9_begin_24 (by decide) ?_
      refine zJ_iconst (v := 1) dX9_begin_28 (by decide) ?_
      refine zJ_cV2 dX9_begin_29 sX9_291 mfX9_right (c_Mo_right1 Δ (zsi w 100 0 0) M0 z0 1) (by first | rfl | assumption | exact M0.at (by decide) (by decide)) rfl (Nat.le_of_ble_eq_true rfl) (by decide) (by decide) ?_
      refine zJ_if_ne (tgt := 36) dX9_begin_32 (by decide) (fun _ => ?_) (fun h9 => False.elim (by revert h9; decide))
      refine zJ_aload_n dX9_begin_36 rfl ?_
      refine zJ_iconst (v := 1) dX9_begin_37 (by decide) ?_
      refine zJ_puti dX9_begin_38 fX9_329 (fun q h => by cases h; rfl) (by first | rfl | assumption | exact M0.at (by decide) (by decide)) rfl rfl rfl ?_
      refine zJ_aload_n dX9_begin_41 rfl ?_
      refine zJ_getr (j := 178) dX9_begin_42 fX9_140 (by first | rfl | assumption | exact M0.at (by decide) (by decide)) rfl (by first | rfl | assumption | exact M0.rf (by decide) rfl) ?_
      refine zJ_iconst (v := 0) dX9_begin_45 (by decide) ?_
      refine zJ_iload_n dX9_begin_46 rfl ?_
      refine zJ_iastN (i := 0) dX9_begin_47 (by first | rfl | assumption | exact M0.at (by decide) (by decide)) rfl (by omega) (by decide) ?_
      refine zJ_aload_n dX9_begin_48 rfl ?_
      refine zJ_getr (j := 178) dX9_begin_49 fX9_140 (by first | rfl | assumption | exact M0.at (by decide) (by decide)) rfl (by first | rfl | assumption | exact M0.rf (by decide) rfl) ?_
      refine zJ_iconst (v := 1) dX9_begin_52 (by decide) ?_
      refine zJ_iload_n dX9_begin_53 rfl ?_
      refine zJ_iastN (i := 1) dX9_begin_54 (by first | rfl | assumption | exact M0.at (by decide) (by decide)) rfl (by omega) (by decide) ?_
      refine zJ_aload_n dX9_begin_55 rfl ?_
      refine zJ_getr (j := 178) dX9_begin_56 fX9_140 (by first | rfl | assumption | exact M0.at (by decide) (by decide)) rfl (by first | rfl | assumption | exact M0.rf (by decide) rfl) ?_
      refine zJ_iconst (v := 2) dX9_begin_59 (by decide) ?_
      refine zJ_iconst (v := 0) dX9_begin_60 (by decide) ?_
      refine zJ_iastN (i := 2) dX9_begin_61 (by first | rfl | assumption | exact M0.at (by decide) (by decide)) rfl (by omega) (by decide) ?_
      refine zJ_iconst (v := 0) dX9_begin_62 (by decide) ?_
      refine zJ_istore_n (ls2 := fun x63 => [(3, .int x63), (0, .ref 100), (1, .int s), (2, .int (nI ov))]) dX9_begin_63 (by decide) (fun _ => rfl) (fun x63 ex63 => ?_)
      obtain rfl : x63 = (nI 0) := ex63
      refine zJ_w ?_ (L 0 (Nat.zero_le _))
      refine (zrow_self (zsi (zsi (zsi (zsi (zsi w 100 0 0) 100 76 1) 178 0 s) 178 1 (nI ov)) 178 2 0) 179).symm.trans (congrArg (zrow (zsi (zsi (zsi (zsi (zsi w 100 0 0) 100 76 1) 178 0 s) 178 1 (nI ov)) 178 2 0) 179) (funext fun q => ?_))
      rw [if_neg (Nat.not_lt_zero q)]; simp [zsi]
    · skip
      refine zJ_aload_n dX9_begin_0 rfl ?_
      refine zJ_iconst (v := 0) dX9_begin_1 (by decide) ?_
      refine zJ_puti dX9_begin_2 fX9_170 (fun q h => by cases h; rfl) (by first | rfl | assumption | exact M0.at (by decide) (by decide)) rfl rfl rfl ?_
      refine zJ_aload_n dX9_begin_5 rfl ?_
      refine zJ_iload_n dX9_begin_6 rfl ?_
      refine zJ_iconst (v := 0) dX9_begin_7 (by decide) ?_
      refine zJ_bipush (v := 20) dX9_begin_8 (by decide) ?_
      refine zJ_cS3 dX9_begin_10 sX9_336 mfX9_within ((c_Mo_within Δ (zsi w 100 0 0) o 0 20 (by decide) (by decide)).1 ho) (Nat.le_of_ble_eq_true rfl) (by decide) (by decide) ?_
      refine zJ_if_eq (tgt := 27) dX9_begin_13 (by decide) (fun h9 => False.elim (by revert h9; decide)) (fun _ => ?_)
      refine zJ_aload_n dX9_begin_16 rfl ?_
      refine zJ_geti dX9_begin_17 fX9_298 (by first | rfl | assumption | exact M0.at (by decide) (by decide)) rfl ?_
      rw [hp1]
      refine zJ_if_le (tgt := 27) dX9_begin_20 (by decide) (fun h20 => ?_) (fun h9 => absurd (show nI (U.1 0) ≤ 0 by rw [show U.1 0 = 0 by omega]; exact Int32.le_refl _) h9)
      refine zJ_iconst (v := 0) dX9_begin_27 (by decide) ?_
      refine zJ_iconst (v := 1) dX9_begin_28 (by decide) ?_
      refine zJ_cV2 dX9_begin_29 sX9_291 mfX9_right (c_Mo_right0 Δ (zsi w 100 0 0) M0 z0 1 (by decide)) (by first | rfl | assumption | exact M0.at (by decide) (by decide)) rfl (Nat.le_of_ble_eq_true rfl) (by decide) (by decide) ?_
      refine zJ_if_ne (tgt := 36) dX9_begin_32 (by decide) (fun h9 => False.elim (by revert h9; decide)) (fun _ => ?_)
      exact zJ_vret dX9_begin_35 rfl (by decide) (by decide) (hQ _ _ ⟨rfl, Or.inl ⟨fun h => hpos h.1, rfl⟩⟩)
  · skip
    refine zJ_aload_n dX9_begin_0 rfl ?_
    refine zJ_iconst (v := 0) dX9_begin_1 (by decide) ?_
    refine zJ_puti dX9_begin_2 fX9_170 (fun q h => by cases h; rfl) (by first | rfl | assumption | exact M0.at (by decide) (by decide)) rfl rfl rfl ?_
    refine zJ_aload_n dX9_begin_5 rfl ?_
    refine zJ_iload_n dX9_begin_6 rfl ?_
    refine zJ_iconst (v := 0) dX9_begin_7 (by decide) ?_
    refine zJ_bipush (v := 20) dX9_begin_8 (by decide) ?_
    refine zJ_cS3 dX9_begin_10 sX9_336 mfX9_within ((c_Mo_within Δ (zsi w 100 0 0) o 0 20 (by decide) (by decide)).2 ho) (Nat.le_of_ble_eq_true rfl) (by decide) (by decide) ?_
    refine zJ_if_eq (tgt := 27) dX9_begin_13 (by decide) (fun _ => ?_) (fun h9 => False.elim (by revert h9; decide))
    refine zJ_iconst (v := 0) dX9_begin_27 (by decide) ?_
    refine zJ_iconst (v := 1) dX9_begin_28 (by decide) ?_
    refine zJ_cV2 dX9_begin_29 sX9_291 mfX9_right (c_Mo_right0 Δ (zsi w 100 0 0) M0 z0 1 (by decide)) (by first | rfl | assumption | exact M0.at (by decide) (by decide)) rfl (Nat.le_of_ble_eq_true rfl) (by decide) (by decide) ?_
    refine zJ_if_ne (tgt := 36) dX9_begin_32 (by decide) (fun h9 => False.elim (by revert h9; decide)) (fun _ => ?_)
    exact zJ_vret dX9_begin_35 rfl (by decide) (by decide) (hQ _ _ ⟨rfl, Or.inl ⟨fun h => ho (by obtain ⟨-, a, b, c⟩ := h; exact ⟨a, Nat.zero_le _, b, c⟩), rfl⟩⟩)
set_option maxRecDepth 100000 in
theorem c_Mo_week (Δ : zD) (w : zW) (hM : zMs w) (x y : Int32) (bg : Prop) (n : Nat) (hn : n ≤ 100) (hb : (bg ∧ w.2.1 100 76 = 1 ∧ w.2.1 178 2 = nI n) ∨ (¬ bg ∧ w.2.1 100 76 = 0)) : zMp Δ 1 yX9_week mX9_week [.ref 100, .int x, .int y] w (fun r c => (¬ (bg ∧ (∃ i, i < n ∧ x = nI i) ∧ ∃ q, q ≤ 2 ∧ y = nI q) ∧ c = zsi (zsi w 100 0 0) 100 0 1) ∨ (bg ∧ ∃ q i, q ≤ 2 ∧ y = nI q ∧ i < n ∧ x = nI i ∧ c = zsi w 100 0 0 ∧ r = some (.int (if q = 0 then w.2.1 180 i else if q = 1 then w.2.1 181 i else w.2.1 182 i)))) := by
  refine zMp.of mfX9_week (Nat.le_of_ble_eq_true rfl) (fun QR hQ => ?_)
  have M0 : zMs (zsi w 100 0 0) := hM
  have z0 : (zsi w 100 0 0).2.1 100 0 = 0 := by simp [zsi]
  have e76 : (zsi w 100 0 0).2.1 100 76 = w.2.1 100 76 := by simp [zsi]
  have e178 : (zsi w 100 0 0).2.1 178 2 = w.2.1 178 2 := by simp [zsi]
  rcases hb with ⟨hbg, hb1, hb2⟩ | ⟨hbg, hb1⟩
  · rw [hb1] at e76
    rw [hb2] at e178
    by_cases hx : ∃ i, i < n ∧ x = nI i
    · obtain ⟨i, hi, rfl⟩ := hx
      by_cases hy : ∃ q, 0 ≤ q ∧ q ≤ 2 ∧ y = nI q
      · obtain ⟨q, -, hq, rfl⟩ := hy
        rcases (by omega : q = 0 ∨ q = 1 ∨ q = 2) with rfl | rfl | rfl
        · refine zJ_aload_n dX9_week_0 rfl ?_
          refine zJ_iconst (v := 0) dX9_week_1 (by decide) ?_
          refine zJ_puti dX9_week_2 fX9_170 (fun q h => by cases h; rfl) (by first | rfl | assumption | exact M0.at (by decide) (by decide)) rfl rfl rfl ?_
          refine zJ_aload_n dX9_week_5 rfl ?_
          refine zJ_aload_n dX9_week_6 rfl ?_
          refine zJ_getiN dX9_week_7 fX9_329 (by first | rfl | assumption | exact M0.at (by decide) (by decide)) rfl e76 ?_
          refine zJ_if_eq (tgt := 40) dX9_week_10 (by decide) (fun h9 => False.elim (by revert h9; decide)) (fun _ => ?_)
          refine zJ_iload_n dX9_week_13 rfl ?_
          refine zJ_if_lt (tgt := 40) dX9_week_14 (by decide) (fun h9 => absurd h9 (fun h => absurd ((nI_ltI (b := 0) (by omega) (by decide)).mp h) (by omega))) (fun h14 => ?_)
          refine zJ_iload_n dX9_week_17 rfl ?_
          refine zJ_aload_n dX9_week_18 rfl ?_
          refine zJ_getr (j := 178) dX9_week_19 fX9_140 (by first | rfl | assumption | exact M0.at (by decide) (by decide)) rfl (by first | rfl | assumption | exact M0.rf (by decide) rfl) ?_
          refine zJ_iconst (v := 2) dX9_week_22 (by decide) ?_
          refine zJ_ialdN (i := 2) (v := (nI n)) dX9_week_23 (by first | rfl | assumption | exact M0.at (by decide) (by decide)) rfl (by omega) (by decide) e178 ?_
          refine zJ_icmp_ge (tgt := 40) dX9_week_24 (by decide) (fun h9 => absurd h9 (fun h => absurd ((nI_leI (by omega) (by omega)).mp h) (by omega))) (fun h24 => ?_)
          refine zJ_iload_n dX9_week_27 rfl ?_
          refine zJ_iconst (v := 0) dX9_week_28 (by decide) ?_
          refine zJ_iconst (v := 2) dX9_week_29 (by decide) ?_
          refine zJ_cS3 dX9_week_30 sX9_336 mfX9_within ((c_Mo_within Δ (zsi w 100 0 0) (nI 0) 0 2 (by decide) (by decide)).1 ⟨0, by decide, by decide, rfl⟩) (Nat.le_of_ble_eq_true rfl) (by decide) (by decide) ?_
          refine zJ_if_eq (tgt := 40) dX9_week_33 (by decide) (fun h9 => False.elim (by revert h9; decide)) (fun _ => ?_)
          refine zJ_iconst (v := 1) dX9_week_36 (by decide) ?_
          refine zJ_goto (tgt := 41) dX9_week_37 (by decide) ?_
          refine zJ_iconst (v := 1) dX9_week_41 (by decide) ?_
          refine zJ_cV2 dX9_week_42 sX9_291 mfX9_right (c_Mo_right1 Δ (zsi w 100 0 0) M0 z0 1) (by first | rfl | assumption | exact M0.at (by decide) (by decide)) rfl (Nat.le_of_ble_eq_true rfl) (by decide) (by decide) ?_
          refine zJ_if_ne (tgt := 50) dX9_week_45 (by decide) (fun _ => ?_) (fun h9 => False.elim (by revert h9; decide))
          refine zJ_iload_n dX9_week_50 rfl ?_
          refine zJ_if_ne (tgt := 63) dX9_week_51 (by decide) (fun h9 => False.elim (by revert h9; decide)) (fun _ => ?_)
          refine zJ_aload_n dX9_week_54 rfl ?_
          refine zJ_getr (j := 180) dX9_week_55 fX9_146 (by first | rfl | assumption | exact M0.at (by decide) (by decide)) rfl (by first | rfl | assumption | exact M0.rf (by decide) rfl) ?_
          refine zJ_iload_n dX9_week_58 rfl ?_
          refine zJ_ialdN (i := i) (v := (w.2.1 180 i)) dX9_week_59 (by first | rfl | assumption | exact M0.at (by decide) (by decide)) rfl (by omega) (by decide) (by rw [zsi_o (by decide)]) ?_
          refine zJ_goto (tgt := 83) dX9_week_60 (by decide) ?_
          exact zJ_iret dX9_week_83 rfl (by decide) (by decide) (hQ _ _ (Or.inr ⟨hbg, 0, i, by decide, rfl, hi, rfl, rfl, rfl⟩))
        · refine zJ_aload_n dX9_week_0 rfl ?_
          refine zJ_iconst (v := 0) dX9_week_1 (by decide) ?_
          refine zJ_puti dX9_week_2 fX9_170 (fun q h => by cases h; rfl) (by first | rfl | assumption | exact M0.at (by decide) (by decide)) rfl rfl rfl ?_
          refine zJ_aload_n dX9_week_5 rfl ?_
          refine zJ_aload_n dX9_week_6 rfl ?_
          refine zJ_getiN dX9_week_7 fX9_329 (by first | rfl | assumption | exact M0.at (by decide) (by decide)) rfl e76 ?_
          refine zJ_if_eq (tgt := 40) dX9_week_10 (by decide) (fun h9 => False.elim (by revert h9; decide)) (fun _ => ?_)
          refine zJ_iload_n dX9_week_13 rfl ?_
          refine zJ_if_lt (tgt := 40) dX9_week_14 (by decide) (fun h9 => absurd h9 (fun h => absurd ((nI_ltI (b := 0) (by omega) (by decide)).mp h) (by omega))) (fun h14 => ?_)
          refine zJ_iload_n dX9_week_17 rfl ?_
          refine zJ_aload_n dX9_week_18 rfl ?_
          refine zJ_getr (j := 178) dX9_week_19 fX9_140 (by first | rfl | assumption | exact M0.at (by decide) (by decide)) rfl (by first | rfl | assumption | exact M0.rf (by decide) rfl) ?_
          refine zJ_iconst (v := 2) dX9_week_22 (by decide) ?_
          refine zJ_ialdN (i := 2) (v := (nI n)) dX9_week_23 (by first | rfl | assumption | exact M0.at (by decide) (by decide)) rfl (by omega) (by decide) e178 ?_
          refine zJ_icmp_ge (tgt := 40) dX9_week_24 (by decide) (fun h9 => absurd h9 (fun h => absurd ((nI_leI (by omega) (by omega)).mp h) (by omega))) (fun h24 => ?_)
          refine zJ_iload_n dX9_week_27 rfl ?_
          refine zJ_iconst (v := 0) dX9_week_28 (by decide) ?_
          refine zJ_iconst (v := 2) dX9_week_29 (by decide) ?_
          refine zJ_cS3 dX9_week_30 sX9_336 mfX9_within ((c_Mo_within Δ (zsi w 100 0 0) (nI 1) 0 2 (by decide) (by decide)).1 ⟨1, by decide, by decide, rfl⟩) (Nat.le_of_ble_eq_true rfl) (by decide) (by decide) ?_
          refine zJ_if_eq (tgt := 40) dX9_week_33 (by decide) (fun h9 => False.elim (by revert h9; decide)) (fun _ => ?_)
          refine zJ_iconst (v := 1) dX9_week_36 (by decide) ?_
          refine zJ_goto (tgt := 41) dX9_week_37 (by decide) ?_
          refine zJ_iconst (v := 1) dX9_week_41 (by decide) ?_
          refine zJ_cV2 dX9_week_42 sX9_291 mfX9_right (c_Mo_right1 Δ (zsi w 100 0 0) M0 z0 1) (by first | rfl | assumption | exact M0.at (by decide) (by decide)) rfl (Nat.le_of_ble_eq_true rfl) (by decide) (by decide) ?_
          refine zJ_if_ne (tgt := 50) dX9_week_45 (by decide) (fun _ => ?_) (fun h9 => False.elim (by revert h9; decide))
          refine zJ_iload_n dX9_week_50 rfl ?_
          refine zJ_if_ne (tgt := 63) dX9_week_51 (by decide) (fun _ => ?_) (fun h9 => False.elim (by revert h9; decide))
          refine zJ_iload_n dX9_week_63 rfl ?_
          refine zJ_iconst (v := 1) dX9_week_64 (by decide) ?_
          refine zJ_icmp_ne (tgt := 77) dX9_week_65 (by decide) (fun h9 => False.elim (by revert h9; decide)) (fun _ => ?_)
          refine zJ_aload_n dX9_week_68 rfl ?_
          refine zJ_getr (j := 181) dX9_week_69 fX9_149 (by first | rfl | assumption | exact M0.at (by decide) (by decide)) rfl (by first | rfl | assumption | exact M0.rf (by decide) rfl) ?_
          refine zJ_iload_n dX9_week_72 rfl ?_
          refine zJ_ialdN (i := i) (v := (w.2.1 181 i)) dX9_week_73 (by first | rfl | assumption | exact M0.at (by decide) (by decide)) rfl (by omega) (by decide) (by rw [zsi_o (by decide)]) ?_
          refine zJ_goto (tgt := 83) dX9_week_74 (by decide) ?_
          exact zJ_iret dX9_week_83 rfl (by decide) (by decide) (hQ _ _ (Or.inr ⟨hbg, 1, i, by decide, rfl, hi, rfl, rfl, rfl⟩))
        · refine zJ_aload_n dX9_week_0 rfl ?_
          refine zJ_iconst (v := 0) dX9_week_1 (by decide) ?_
          refine zJ_puti dX9_week_2 fX9_170 (fun q h => by cases h; rfl) (by first | rfl | assumption | exact M0.at (by decide) (by decide)) rfl rfl rfl ?_
          refine zJ_aload_n dX9_week_5 rfl ?_
          refine zJ_aload_n dX9_week_6 rfl ?_
          refine zJ_getiN dX9_week_7 fX9_329 (by first | rfl | assumption | exact M0.at (by decide) (by decide)) rfl e76 ?_
          refine zJ_if_eq (tgt := 40) dX9_week_10 (by decide) (fun h9 => False.elim (by revert h9; decide)) (fun _ => ?_)
          refine zJ_iload_n dX9_week_13 rfl ?_
          refine zJ_if_lt (tgt := 40) dX9_week_14 (by decide) (fun h9 => absurd h9 (fun h => absurd ((nI_ltI (b := 0) (by omega) (by decide)).mp h) (by omega))) (fun h14 => ?_)
          refine zJ_iload_n dX9_week_17 rfl ?_
          refine zJ_aload_n dX9_week_18 rfl ?_
          refine zJ_getr (j := 178) dX9_week_19 fX9_140 (by first | rfl | assumption | exact M0.at (by decide) (by decide)) rfl (by first | rfl | assumption | exact M0.rf (by decide) rfl) ?_
          refine zJ_iconst (v := 2) dX9_week_22 (by decide) ?_
          refine zJ_ialdN (i := 2) (v := (nI n)) dX9_week_23 (by first | rfl | assumption | exact M0.at (by decide) (by decide)) rfl (by omega) (by decide) e178 ?_
          refine zJ_icmp_ge (tgt := 40) dX9_week_24 (by decide) (fun h9 => absurd h9 (fun h => absurd ((nI_leI (by omega) (by omega)).mp h) (by omega))) (fun h24 => ?_)
          refine zJ_iload_n dX9_week_27 rfl ?_
          refine zJ_iconst (v := 0) dX9_week_28 (by decide) ?_
          refine zJ_iconst (v := 2) dX9_week_29 (by decide) ?_
          refine zJ_cS3 dX9_week_30 sX9_336 mfX9_within ((c_Mo_within Δ (zsi w 100 0 0) (nI 2) 0 2 (by decide) (by decide)).1 ⟨2, by decide, by decide, rfl⟩) (Nat.le_of_ble_eq_true rfl) (by decide) (by decide) ?_
          refine zJ_if_eq (tgt := 40) dX9_week_33 (by decide) (fun h9 => False.elim (by revert h9; decide)) (fun _ => ?_)
          refine zJ_iconst (v := 1) dX9_week_36 (by decide) ?_
          refine zJ_goto (tgt := 41) dX9_week_37 (by decide) ?_
          refine zJ_iconst (v := 1) dX9_week_41 (by decide) ?_
          refine zJ_cV2 dX9_week_42 sX9_291 mfX9_right (c_Mo_right1 Δ (zsi w 100 0 0) M0 z0 1) (by first | rfl | assumption | exact M0.at (by decide) (by decide)) rfl (Nat.le_of_ble_eq_true rfl) (by decide) (by decide) ?_
          refine zJ_if_ne (tgt := 50) dX9_week_45 (by decide) (fun _ => ?_) (fun h9 => False.elim (by revert h9; decide))
          refine zJ_iload_n dX9_week_50 rfl ?_
          refine zJ_if_ne (tgt := 63) dX9_week_51 (by decide) (fun _ => ?_) (fun h9 => False.elim (by revert h9; decide))
          refine zJ_iload_n dX9_week_63 rfl ?_
          refine zJ_iconst (v := 1) dX9_week_64 (by decide) ?_
          refine zJ_icmp_ne (tgt := 77) dX9_week_65 (by decide) (fun _ => ?_) (fun h9 => False.elim (by revert h9; decide))
          refine zJ_aload_n dX9_week_77 rfl ?_
          refine zJ_getr (j := 182) dX9_week_78 fX9_152 (by first | rfl | assumption | exact M0.at (by decide) (by decide)) rfl (by first | rfl | assumption | exact M0.rf (by decide) rfl) ?_
          refine zJ_iload_n dX9_week_81 rfl ?_
          refine zJ_ialdN (i := i) (v := (w.2.1 182 i)) dX9_week_82 (by first | rfl | assumption | exact M0.at (by decide) (by decide)) rfl (by omega) (by decide) (by rw [zsi_o (by decide)]) ?_
          exact zJ_iret dX9_week_83 rfl (by decide) (by decide) (hQ _ _ (Or.inr ⟨hbg, 2, i, by decide, rfl, hi, rfl, rfl, rfl⟩))
      · skip
        refine zJ_aload_n dX9_week_0 rfl ?_
        refine zJ_iconst (v := 0) dX9_week_1 (by decide) ?_
        refine zJ_puti dX9_week_2 fX9_170 (fun q h => by cases h; rfl) (by first | rfl | assumption | exact M0.at (by decide) (by decide)) rfl rfl rfl ?_
        refine zJ_aload_n dX9_week_5 rfl ?_
        refine zJ_aload_n dX9_week_6 rfl ?_
        refine zJ_getiN dX9_week_7 fX9_329 (by first | rfl | assumption | exact M0.at (by decide) (by decide)) rfl e76 ?_
        refine zJ_if_eq (tgt := 40) dX9_week_10 (by decide) (fun h9 => False.elim (by revert h9; decide)) (fun _ => ?_)
        refine zJ_iload_n dX9_week_13 rfl ?_
        refine zJ_if_lt (tgt := 40) dX9_week_14 (by decide) (fun h9 => absurd h9 (fun h => absurd ((nI_ltI (b := 0) (by omega) (by decide)).mp h) (by omega))) (fun h14 => ?_)
        refine zJ_iload_n dX9_week_17 rfl ?_
        refine zJ_aload_n dX9_week_18 rfl ?_
        refine zJ_getr (j := 178) dX9_week_19 fX9_140 (by first | rfl | assumption | exact M0.at (by decide) (by decide)) rfl (by first | rfl | assumption | exact M0.rf (by decide) rfl) ?_
        refine zJ_iconst (v := 2) dX9_week_22 (by decide) ?_
        refine zJ_ialdN (i := 2) (v := (nI n)) dX9_week_23 (by first | rfl | assumption | exact M0.at (by decide) (by decide)) rfl (by omega) (by decide) e178 ?_
        refine zJ_icmp_ge (tgt := 40) dX9_week_24 (by decide) (fun h9 => absurd h9 (fun h => absurd ((nI_leI (by omega) (by omega)).mp h) (by omega))) (fun h24 => ?_)
        refine zJ_iload_n dX9_week_27 rfl ?_
        refine zJ_iconst (v := 0) dX9_week_28 (by decide) ?_
        refine zJ_iconst (v := 2) dX9_week_29 (by decide) ?_
        refine zJ_cS3 dX9_week_30 sX9_336 mfX9_within ((c_Mo_within Δ (zsi w 100 0 0) y 0 2 (by decide) (by decide)).2 hy) (Nat.le_of_ble_eq_true rfl) (by decide) (by decide) ?_
        refine zJ_if_eq (tgt := 40) dX9_week_33 (by decide) (fun _ => ?_) (fun h9 => False.elim (by revert h9; decide))
        refine zJ_iconst (v := 0) dX9_week_40 (by decide) ?_
        refine zJ_iconst (v := 1) dX9_week_41 (by decide) ?_
        refine zJ_cV2 dX9_week_42 sX9_291 mfX9_right (c_Mo_right0 Δ (zsi w 100 0 0) M0 z0 1 (by decide)) (by first | rfl | assumption | exact M0.at (by decide) (by decide)) rfl (Nat.le_of_ble_eq_true rfl) (by decide) (by decide) ?_
        refine zJ_if_ne (tgt := 50) dX9_week_45 (by decide) (fun h9 => False.elim (by revert h9; decide)) (fun _ => ?_)
        refine zJ_iconst (v := 0) dX9_week_48 (by decide) ?_
        exact zJ_iret dX9_week_49 rfl (by decide) (by decide) (hQ _ _ (Or.inl ⟨fun h => hy (by obtain ⟨-, -, a, b, c⟩ := h; exact ⟨a, Nat.zero_le _, b, c⟩), rfl⟩))
    · skip
      refine zJ_aload_n dX9_week_0 rfl ?_
      refine zJ_iconst (v := 0) dX9_week_1 (by decide) ?_
      refine zJ_puti dX9_week_2 fX9_170 (fun q h => by cases h; rfl) (by first | rfl | assumption | exact M0.at (by decide) (by decide)) rfl rfl rfl ?_
      refine zJ_aload_n dX9_week_5 rfl ?_
      refine zJ_aload_n dX9_week_6 rfl ?_
      refine zJ_getiN dX9_week_7 fX9_329 (by first | rfl | assumption | exact M0.at (by decide) (by decide)) rfl e76 ?_
      refine zJ_if_eq (tgt := 40) dX9_week_10 (by decide) (fun h9 => False.elim (by revert h9; decide)) (fun _ => ?_)
      refine zJ_iload_n dX9_week_13 rfl ?_
      refine zJ_if_lt (tgt := 40) dX9_week_14 (by decide) (fun h14 => ?_) (fun h14 => ?_)
      · refine zJ_iconst (v := 0) dX9_week_40 (by decide) ?_
        refine zJ_iconst (v := 1) dX9_week_41 (by decide) ?_
        refine zJ_cV2 dX9_week_42 sX9_291 mfX9_right (c_Mo_right0 Δ (zsi w 100 0 0) M0 z0 1 (by decide)) (by first | rfl | assumption | exact M0.at (by decide) (by decide)) rfl (Nat.le_of_ble_eq_true rfl) (by decide) (by decide) ?_
        refine zJ_if_ne (tgt := 50) dX9_week_45 (by decide) (fun h9 => False.elim (by revert h9; decide)) (fun _ => ?_)
        refine zJ_iconst (v := 0) dX9_week_48 (by decide) ?_
        exact zJ_iret dX9_week_49 rfl (by decide) (by decide) (hQ _ _ (Or.inl ⟨fun h => hx h.2.1, rfl⟩))
      · refine zJ_iload_n dX9_week_17 rfl ?_
        refine zJ_aload_n dX9_week_18 rfl ?_
        refine zJ_getr (j := 178) dX9_week_19 fX9_140 (by first | rfl | assumption | exact M0.at (by decide) (by decide)) rfl (by first | rfl | assumption | exact M0.rf (by decide) rfl) ?_
        refine zJ_iconst (v := 2) dX9_week_22 (by decide) ?_
        refine zJ_ialdN (i := 2) (v := (nI n)) dX9_week_23 (by first | rfl | assumption | exact M0.at (by decide) (by decide)) rfl (by omega) (by decide) e178 ?_
        refine zJ_icmp_ge (tgt := 40) dX9_week_24 (by decide) (fun h24 => ?_) (fun h24 => ?_)
        · refine zJ_iconst (v := 0) dX9_week_40 (by decide) ?_
          refine zJ_iconst (v := 1) dX9_week_41 (by decide) ?_
          refine zJ_cV2 dX9_week_42 sX9_291 mfX9_right (c_Mo_right0 Δ (zsi w 100 0 0) M0 z0 1 (by decide)) (by first | rfl | assumption | exact M0.at (by decide) (by decide)) rfl (Nat.le_of_ble_eq_true rfl) (by decide) (by decide) ?_
          refine zJ_if_ne (tgt := 50) dX9_week_45 (by decide) (fun h9 => False.elim (by revert h9; decide)) (fun _ => ?_)
          refine zJ_iconst (v := 0) dX9_week_48 (by decide) ?_
          exact zJ_iret dX9_week_49 rfl (by decide) (by decide) (hQ _ _ (Or.inl ⟨fun h => hx h.2.1, rfl⟩))
        · obtain ⟨i, hi31, rfl⟩ := nI_of h14
          exact absurd ⟨i, (nI_ltI (by omega) (by omega)).mp (Int32.not_le.mp h24), rfl⟩ hx
  · rw [hb1] at e76
    refine zJ_aload_n dX9_week_0 rfl ?_
    refine zJ_iconst (v := 0) dX9_week_1 (by decide) ?_
    refine zJ_puti dX9_week_2 fX9_170 (fun q h => by cases h; rfl) (by first | rfl | assumption | exact M0.at (by decide) (by decide)) rfl rfl rfl ?_
    refine zJ_aload_n dX9_week_5 rfl ?_
    refine zJ_aload_n dX9_week_6 rfl ?_
    refine zJ_getiN dX9_week_7 fX9_329 (by first | rfl | assumption | exact M0.at (by decide) (by decide)) rfl e76 ?_
    refine zJ_if_eq (tgt := 40) dX9_week_10 (by decide) (fun _ => ?_) (fun h9 => False.elim (by revert h9; decide))
    refine zJ_iconst (v := 0) dX9_week_40 (by decide) ?_
    refine zJ_iconst (v := 1) dX9_week_41 (by decide) ?_
    refine zJ_cV2 dX9_week_42 sX9_291 mfX9_right (c_Mo_right0 Δ (zsi w 100 0 0) M0 z0 1 (by decide)) (by first | rfl | assumption | exact M0.at (by decide) (by decide)) rfl (Nat.le_of_ble_eq_true rfl) (by decide) (by decide) ?_
    refine zJ_if_ne (tgt := 50) dX9_week_45 (by decide) (fun h9 => False.elim (by revert h9; decide)) (fun _ => ?_)
    refine zJ_iconst (v := 0) dX9_week_48 (by decide) ?_
    exact zJ_iret dX9_week_49 rfl (by decide) (by decide) (hQ _ _ (Or.inl ⟨fun h => hbg h.1, rfl⟩))
set_option maxRecDepth 100000 in
theorem c_Mo_image (Δ : zD) (w : zW) (hM : zMs w) (hb : w.2.1 100 76 = 0 ∨ w.2.1 100 76 = 1) : zMp Δ 1 yX9_image mX9_image [.ref 100] w (fun r c => c.2.1 100 0 = 0 ∧ ((w.2.1 100 76 = 0 ∧ r = some (.int 0) ∧ c = zsi w 100 0 0) ∨ (w.2.1 100 76 = 1 ∧ r = some (.int 1) ∧ zFM [0, 77, 83, 84, 85, 86, 87] w c ∧ c.2.1 100 77 = 1 ∧ (∀ j, j < 3 → c.2.1 183 j = w.2.1 178 j) ∧ (∀ j, j < 8 → c.2.1 184 j = w.2.1 179 j) ∧ (∀ j, j < 100 → c.2.1 185 j = w.2.1 180 j) ∧ (∀ j, j < 100 → c.2.1 186 j = w.2.1 181 j) ∧ (∀ j, j < 100 → c.2.1 187 j = w.2.1 182 j)))) := by
  refine zMp.of mfX9_image (Nat.le_of_ble_eq_true rfl) (fun QR hQ => ?_)
  have M0 : zMs (zsi w 100 0 0) := hM
  have e7 : (zsi w 100 0 0).2.1 100 76 = w.2.1 100 76 := by simp [zsi]
  rcases hb with hb | hb
  · rw [hb] at e7
    refine zJ_aload_n dX9_image_0 rfl ?_
    refine zJ_iconst (v := 0) dX9_image_1 (by decide) ?_
    refine zJ_puti dX9_image_2 fX9_170 (fun q h => by cases h; rfl) (by first | rfl | assumption | exact M0.at (by decide) (by decide)) rfl rfl rfl ?_
    refine zJ_aload_n dX9_image_5 rfl ?_
    refine zJ_getiN dX9_image_6 fX9_329 (by first | rfl | assumption | exact M0.at (by decide) (by decide)) rfl e7 ?_
    refine zJ_if_ne (tgt := 14) dX9_image_9 (by decide) (fun h9 => False.elim (by revert h9; decide)) (fun _ => ?_)
    refine zJ_iconst (v := 0) dX9_image_12 (by decide) ?_
    exact zJ_zret dX9_image_13 rfl rfl (by decide) (by decide) (hQ _ _ ⟨by simp [zsi], Or.inl ⟨hb, rfl, rfl⟩⟩)
  · rw [hb] at e7
    refine zJ_aload_n dX9_image_0 rfl ?_
    refine zJ_iconst (v := 0) dX9_image_1 (by decide) ?_
    refine zJ_puti dX9_image_2 fX9_170 (fun q h => by cases h; rfl) (by first | rfl | assumption | exact M0.at (by decide) (by decide)) rfl rfl rfl ?_
    refine zJ_aload_n dX9_image_5 rfl ?_
    refine zJ_getiN dX9_image_6 fX9_329 (by first | rfl | assumption | exact M0.at (by decide) (by decide)) rfl e7 ?_
    refine zJ_if_ne (tgt := 14) dX9_image_9 (by decide) (fun _ => ?_) (fun h9 => False.elim (by revert h9; decide))
    refine zJ_aload_n dX9_image_14 rfl ?_
    refine zJ_iconst (v := 1) dX9_image_15 (by decide) ?_
    refine zJ_puti dX9_image_16 fX9_333 (fun q h => by cases h; rfl) (by first | rfl | assumption | exact M0.at (by decide) (by decide)) rfl rfl rfl ?_
    refine zJ_aload_n dX9_image_19 rfl ?_
    refine zJ_aload_n dX9_image_20 rfl ?_
    refine zJ_getr (j := 178) dX9_image_21 fX9_140 (by first | rfl | assumption | exact M0.at (by decide) (by decide)) rfl (by first | rfl | assumption | exact M0.rf (by decide) rfl) ?_
    refine zJ_aload_n dX9_image_24 rfl ?_
    refine zJ_getr (j := 183) dX9_image_25 fX9_155 (by first | rfl | assumption | exact M0.at (by decide) (by decide)) rfl (by first | rfl | assumption | exact M0.rf (by decide) rfl) ?_
    refine zJ_cV2 dX9_image_28 sX9_313 mfX9_copies (c_Mo_copies Δ (zsi (zsi w 100 0 0) 100 77 1) 178 183 3 3 (by decide) (by decide) (by decide) (by decide) (hM.at (by decide) (by decide)) (hM.at (by decide) (by decide))) (by first | rfl | assumption | exact M0.at (by decide) (by decide)) rfl (Nat.le_of_ble_eq_true rfl) (by decide) (by decide) ?_
    refine zJ_aload_n dX9_image_31 rfl ?_
    refine zJ_aload_n dX9_image_32 rfl ?_
    refine zJ_getr (j := 179) dX9_image_33 fX9_143 (by first | rfl | assumption | exact M0.at (by decide) (by decide)) rfl (by first | rfl | assumption | exact M0.rf (by decide) rfl) ?_
    refine zJ_aload_n dX9_image_36 rfl ?_
    refine zJ_getr (j := 184) dX9_image_37 fX9_158 (by first | rfl | assumption | exact M0.at (by decide) (by decide)) rfl (by first | rfl | assumption | exact M0.rf (by decide) rfl) ?_
    refine zJ_cV2 dX9_image_40 sX9_313 mfX9_copies (c_Mo_copies Δ (zrow (zsi (zsi w 100 0 0) 100 77 1) 183 (fun j => if j < 3 then (zsi (zsi w 100 0 0) 100 77 1).2.1 178 j else (zsi (zsi w 100 0 0) 100 77 1).2.1 183 j)) 179 184 8 8 (by decide) (by decide) (by decide) (by decide) (hM.at (by decide) (by decide)) (hM.at (by decide) (by decide))) (by first | rfl | assumption | exact M0.at (by decide) (by decide)) rfl (Nat.le_of_ble_eq_true rfl) (by decide) (by decide) ?_
    refine zJ_aload_n dX9_image_43 rfl ?_
    refine zJ_aload_n dX9_image_44 rfl ?_
    refine zJ_getr (j := 180) dX9_image_45 fX9_146 (by first | rfl | assumption | exact M0.at (by decide) (by decide)) rfl (by first | rfl | assumption | exact M0.rf (by decide) rfl) ?_
    refine zJ_aload_n dX9_image_48 rfl ?_
    refine zJ_getr (j := 185) dX9_image_49 fX9_161 (by first | rfl | assumption | exact M0.at (by decide) (by decide)) rfl (by first | rfl | assumption | exact M0.rf (by decide) rfl) ?_
    refine zJ_cV2 dX9_image_52 sX9_313 mfX9_copies (c_Mo_copies Δ (zrow (zrow (zsi (zsi w 100 0 0) 100 77 1) 183 (fun j => if j < 3 then (zsi (zsi w 100 0 0) 100 77 1).2.1 178 j else (zsi (zsi w 100 0 0) 100 77 1).2.1 183 j)) 184 (fun j => if j < 8 then (zrow (zsi (zsi w 100 0 0) 100 77 1) 183 (fun j => if j < 3 then (zsi (zsi w 100 0 0) 100 77 1).2.1 178 j else (zsi (zsi w 100 0 0) 100 77 1).2.1 183 j)).2.1 179 j else (zrow (zsi (zsi w 100 0 0) 100 77 1) 183 (fun j => if j < 3 then (zsi (zsi w 100 0 0) 100 77 1).2.1 178 j else (zsi (zsi w 100 0 0) 100 77 1).2.1 183 j)).2.1 184 j)) 180 185 100 100 (by decide) (by decide) (by decide) (by decide) (hM.at (by decide) (by decide)) (hM.at (by decide) (by decide))) (by first | rfl | assumption | exact M0.at (by decide) (by decide)) rfl (Nat.le_of_ble_eq_true rfl) (by decide) (by decide) ?_
    refine zJ_aload_n dX9_image_55 rfl ?_
    refine zJ_aload_n dX9_image_56 rfl ?_
    refine zJ_getr (j := 181) dX9_image_57 fX9_149 (by first | rfl | assumption | exact M0.at (by decide) (by decide)) rfl (by first | rfl | assumption | exact M0.rf (by decide) rfl) ?_
    refine zJ_aload_n dX9_image_60 rfl ?_
    refine zJ_getr (j := 186) dX9_image_61 fX9_164 (by first | rfl | assumption | exact M0.at (by decide) (by decide)) rfl (by first | rfl | assumption | exact M0.rf (by decide) rfl) ?_
    refine zJ_cV2 dX9_image_64 sX9_313 mfX9_copies (c_Mo_copies Δ (zrow (zrow (zrow (zsi (zsi w 100 0 0) 100 77 1) 183 (fun j => if j < 3 then (zsi (zsi w 100 0 0) 100 77 1).2.1 178 j else (zsi (zsi w 100 0 0) 100 77 1).2.1 183 j)) 184 (fun j => if j < 8 then (zrow (zsi (zsi w 100 0 0) 100 77 1) 183 (fun j => if j < 3 then (zsi (zsi w 100 0 0) 100 77 1).2.1 178 j else (zsi (zsi w 100 0 0) 100 77 1).2.1 183 j)).2.1 179 j else (zrow (zsi (zsi w 100 0 0) 100 77 1) 183 (fun j => if j < 3 then (zsi (zsi w 100 0 0) 100 77 1).2.1 178 j else (zsi (zsi w 100 0 0) 100 77 1).2.1 183 j)).2.1 184 j)) 185 (fun j => if j < 100 then (zrow (zrow (zsi (zsi w 100 0 0) 100 77 1) 183 (fun j => if j < 3 then (zsi (zsi w 100 0 0) 100 77 1).2.1 178 j else (zsi (zsi w 100 0 0) 100 77 1).2.1 183 j)) 184 (fun j => if j < 8 then (zrow (zsi (zsi w 100 0 0) 100 77 1) 183 (fun j => if j < 3 then (zsi (zsi w 100 0 0) 100 77 1).2.1 178 j else (zsi (zsi w 100 0 0) 100 77 1).2.1 183 j)).2.1 179 j else (zrow (zsi (zsi w 100 0 0) 100 77 1) 183 (fun j => if j < 3 then (zsi (zsi w 100 0 0) 100 77 1).2.1 178 j else (zsi (zsi w 100 0 0) 100 77 1).2.1 183 j)).2.1 184 j)).2.1 180 j else (zrow (zrow (zsi (zsi w 100 0 0) 100 77 1) 183 (fun j => if j < 3 then (zsi (zsi w 100 0 0) 100 77 1).2.1 178 j else (zsi (zsi w 100 0 0) 100 77 1).2.1 183 j)) 184 (fun j => if j < 8 then (zrow (zsi (zsi w 100 0 0) 100 77 1) 183 (fun j => if j < 3 then (zsi (zsi w 100 0 0) 100 77 1).2.1 178 j else (zsi (zsi w 100 0 0) 100 77 1).2.1 183 j)).2.1 179 j else (zrow (zsi (zsi w 100 0 0) 100 77 1) 183 (fun j => if j < 3 then (zsi (zsi w 100 0 0) 100 77 1).2.1 178 j else (zsi (zsi w 100 0 0) 100 77 1).2.1 183 j)).2.1 184 j)).2.1 185 j)) 181 186 100 100 (by decide) (by decide) (by decide) (by decide) (hM.at (by decide) (by decide)) (hM.at (by decide) (by decide))) (by first | rfl | assumption | exact M0.at (by decide) (by decide)) rfl (Nat.le_of_ble_eq_true rfl) (by decide) (by decide) ?_
    refine zJ_aload_n dX9_image_67 rfl ?_
    refine zJ_aload_n dX9_image_68 rfl ?_
    refine zJ_getr (j := 182) dX9_image_69 fX9_152 (by first | rfl | assumption | exact M0.at (by decide) (by decide)) rfl (by first | rfl | assumption | exact M0.rf (by decide) rfl) ?_
    refine zJ_aload_n dX9_image_72 rfl ?_
    refine zJ_getr (j := 187) dX9_image_73 fX9_167 (by first | rfl | assumption | exact M0.at (by decide) (by decide)) rfl (by first | rfl | assumption | exact M0.rf (by decide) rfl) ?_
    refine zJ_cV2 dX9_image_76 sX9_313 mfX9_copies (c_Mo_copies Δ (zrow (zrow (zrow (zrow (zsi (zsi w 100 0 0) 100 77 1) 183 (fun j => if j < 3 then (zsi (zsi w 100 0 0) 100 77 1).2.1 178 j else (zsi (zsi w 100 0 0) 100 77 1).2.1 183 j)) 184 (fun j => if j < 8 then (zrow (zsi (zsi w 100 0 0) 100 77 1) 183 (fun j => if j < 3 then (zsi (zsi w 100 0 0) 100 77 1).2.1 178 j else (zsi (zsi w 100 0 0) 100 77 1).2.1 183 j)).2.1 179 j else (zrow (zsi (zsi w 100 0 0) 100 77 1) 183 (fun j => if j < 3 then (zsi (zsi w 100 0 0) 100 77 1).2.1 178 j else (zsi (zsi w 100 0 0) 100 77 1).2.1 183 j)).2.1 184 j)) 185 (fun j => if j < 100 then (zrow (zrow (zsi (zsi w 100 0 0) 100 77 1) 183 (fun j => if j < 3 then (zsi (zsi w 100 0 0) 100 77 1).2.1 178 j else (zsi (zsi w 100 0 0) 100 77 1).2.1 183 j)) 184 (fun j => if j < 8 then (zrow (zsi (zsi w 100 0 0) 100 77 1) 183 (fun j => if j < 3 then (zsi (zsi w 100 0 0) 100 77 1).2.1 178 j else (zsi (zsi w 100 0 0) 100 77 1).2.1 183 j)).2.1 179 j else (zrow (zsi (zsi w 100 0 0) 100 77 1) 183 (fun j => if j < 3 then (zsi (zsi w 100 0 0) 100 77 1).2.1 178 j else (zsi (zsi w 100 0 0) 100 77 1).2.1 183 j)).2.1 184 j)).2.1 180 j else (zrow (zrow (zsi (zsi w 100 0 0) 100 77 1) 183 (fun j => if j < 3 then (zsi (zsi w 100 0 0) 100 77 1).2.1 178 j else (zsi (zsi w 100 0 0) 100 77 1).2.1 183 j)) 184 (fun j => if j < 8 then (zrow (zsi (zsi w 100 0 0) 100 77 1) 183 (fun j => if j < 3 then (zsi (zsi w 100 0 0) 100 77 1).2.1 178 j else (zsi (zsi w 100 0 0) 100 77 1).2.1 183 j)).2.1 179 j else (zrow (zsi (zsi w 100 0 0) 100 77 1) 183 (fun j => if j < 3 then (zsi (zsi w 100 0 0) 100 77 1).2.1 178 j else (zsi (zsi w 100 0 0) 100 77 1).2.1 183 j)).2.1 184 j)).2.1 185 j)) 186 (fun j => if j < 100 then (zrow (zrow (zrow (zsi (zsi w 100 0 0) 100 77 1) 183 (fun j => if j < 3 then (zsi (zsi w 100 0 0) 100 77 1).2.1 178 j else (zsi (zsi w 100 0 0) 100 77 1).2.1 183 j)) 184 (fun j => if j < 8 then (zrow (zsi (zsi w 100 0 0) 100 77 1) 183 (fun j => if j < 3 then (zsi (zsi w 100 0 0) 100 77 1).2.1 178 j else (zsi (zsi w 100 0 0) 100 77 1).2.1 183 j)).2.1 179 j else (zrow (zsi (zsi w 100 0 0) 100 77 1) 183 (fun j => if j < 3 then (zsi (zsi w 100 0 0) 100 77 1).2.1 178 j else (zsi (zsi w 100 0 0) 100 77 1).2.1 183 j)).2.1 184 j)) 185 (fun j => if j < 100 then (zrow (zrow (zsi (zsi w 100 0 0) 100 77 1) 183 (fun j => if j < 3 then (zsi (zsi w 100 0 0) 100 77 1).2.1 178 j else (zsi (zsi w 100 0 0) 100 77 1).2.1 183 j)) 184 (fun j => if j < 8 then (zrow (zsi (zsi w 100 0 0) 100 77 1) 183 (fun j => if j < 3 then (zsi (zsi w 100 0 0) 100 77 1).2.1 178 j else (zsi (zsi w 100 0 0) 100 77 1).2.1 183 j)).2.1 179 j else (zrow (zsi (zsi w 100 0 0) 100 77 1) 183 (fun j => if j < 3 then (zsi (zsi w 100 0 0) 100 77 1).2.1 178 j else (zsi (zsi w 100 0 0) 100 77 1).2.1 183 j)).2.1 184 j)).2.1 180 j else (zrow (zrow (zsi (zsi w 100 0 0) 100 77 1) 183 (fun j => if j < 3 then (zsi (zsi w 100 0 0) 100 77 1).2.1 178 j else (zsi (zsi w 100 0 0) 100 77 1).2.1 183 j)) 184 (fun j => if j < 8 then (zrow (zsi (zsi w 100 0 0) 100 77 1) 183 (fun j => if j < 3 then (zsi (zsi w 100 0 0) 100 77 1).2.1 178 j else (zsi (zsi w 100 0 0) 100 77 1).2.1 183 j)).2.1 179 j else (zrow (zsi (zsi w 100 0 0) 100 77 1) 183 (fun j => if j < 3 then (zsi (zsi w 100 0 0) 100 77 1).2.1 178 j else (zsi (zsi w 100 0 0) 100 77 1).2.1 183 j)).2.1 184 j)).2.1 185 j)).2.1 181 j else (zrow (zrow (zrow (zsi (zsi w 100 0 0) 100 77 1) 183 (fun j => if j < 3 then (zsi (zsi w 100 0 0) 100 77 1).2.1 178 j else (zsi (zsi w 100 0 0) 100 77 1).2.1 183 j)) 184 (fun j => if j < 8 then (zrow (zsi (zsi w 100 0 0) 100 77 1) 183 (fun j => if j < 3 then (zsi (zsi w 100 0 0) 100 77 1).2.1 178 j else (zsi (zsi w 100 0 0) 100 77 1).2.1 183 j)).2.1 179 j else (zrow (zsi (zsi w 100 0 0) 100 77 1) 183 (fun j => if j < 3 then (zsi (zsi w 100 0 0) 100 77 1).2.1 178 j else (zsi (zsi w 100 0 0) 100 77 1).2.1 183 j)).2.1 184 j)) 185 (fun j => if j < 100 then (zrow (zrow (zsi (zsi w 100 0 0) 100 77 1) 183 (fun j => if j < 3 then (zsi (zsi w 100 0 0) 100 77 1).2.1 178 j else (zsi (zsi w 100 0 0) 100 77 1).2.1 183 j)) 184 (fun j => if j < 8 then (zrow (zsi (zsi w 100 0 0) 100 77 1) 183 (fun j => if j < 3 then (zsi (zsi w 100 0 0) 100 77 1).2.1 178 j else (zsi (zsi w 100 0 0) 100 77 1).2.1 183 j)).2.1 179 j else (zrow (zsi (zsi w 100 0 0) 100 77 1) 183 (fun j => if j < 3 then (zsi (zsi w 100 0 0) 100 77 1).2.1 178 j else (zsi (zsi w 100 0 0) 100 77 1).2.1 183 j)).2.1 184 j)).2.1 180 j else (zrow (zrow (zsi (zsi w 100 0 0) 100 77 1) 183 (fun j => if j < 3 then (zsi (zsi w 100 0 0) 100 77 1).2.1 178 j else (zsi (zsi w 100 0 0) 100 77 1).2.1 183 j)) 184 (fun j => if j < 8 then (zrow (zsi (zsi w 100 0 0) 100 77 1) 183 (fun j => if j < 3 then (zsi (zsi w 100 0 0) 100 77 1).2.1 178 j else (zsi (zsi w 100 0 0) 100 77 1).2.1 183 j)).2.1 179 j else (zrow (zsi (zsi w 100 0 0) 100 77 1) 183 (fun j => if j < 3 then (zsi (zsi w 100 0 0) 100 77 1).2.1 178 j else (zsi (zsi w 100 0 0) 100 77 1).2.1 183 j)).2.1 184 j)).2.1 185 j)).2.1 186 j)) 182 187 100 100 (by decide) (by decide) (by decide) (by decide) (hM.at (by decide) (by decide)) (hM.at (by decide) (by decide))) (by first | rfl | assumption | exact M0.at (by decide) (by decide)) rfl (Nat.le_of_ble_eq_true rfl) (by decide) (by decide) ?_
    refine zJ_iconst (v := 1) dX9_image_79 (by decide) ?_
    refine zJ_zret dX9_image_80 rfl rfl (by decide) (by decide) (hQ _ _ ⟨by simp [zrow, zsi], Or.inr ⟨hb, rfl, ?_, by simp [zrow, zsi], ?_, ?_, ?_, ?_, ?_⟩⟩)
    · exact ((((((zFM.i (by decide)).tr (zFM.i (by decide))).tr (zFM.row (by decide))).tr (zFM.row (by decide))).tr (zFM.row (by decide))).tr (zFM.row (by decide))).tr (zFM.row (by decide))
    · intro j hj; simp [zrow, zsi, hj]
    · intro j hj; simp [zrow, zsi, hj]
    · intro j hj; simp [zrow, zsi, hj]
    · intro j hj; simp [zrow, zsi, hj]
    · intro j hj; simp [zrow, zsi, hj]
set_option maxRecDepth 100000 in
theorem c_Mo_restore (Δ : zD) (w : zW) (hM : zMs w) (hb : w.2.1 100 77 = 0 ∨ w.2.1 100 77 = 1) : zMp Δ 1 yX9_restore mX9_restore [.ref 100] w (fun r c => c.2.1 100 0 = 0 ∧ ((w.2.1 100 77 = 0 ∧ r = some (.int 0) ∧ c = zsi w 100 0 0) ∨ (w.2.1 100 77 = 1 ∧ r = some (.int 1) ∧ zFM [0, 76, 78, 79, 80, 81, 82] w c ∧ c.2.1 100 76 = 1 ∧ (∀ j, j < 3 → c.2.1 178 j = w.2.1 183 j) ∧ (∀ j, j < 8 → c.2.1 179 j = w.2.1 184 j) ∧ (∀ j, j < 100 → c.2.1 180 j = w.2.1 185 j) ∧ (∀ j, j < 100 → c.2.1 181 j = w.2.1 186 j) ∧ (∀ j, j < 100 → c.2.1 182 j = w.2.1 187 j)))) := by
  refine zMp.of mfX9_restore (Nat.le_of_ble_eq_true rfl) (fun QR hQ => ?_)
  have M0 : zMs (zsi w 100 0 0) := hM
  have e7 : (zsi w 100 0 0).2.1 100 77 = w.2.1 100 77 := by simp [zsi]
  rcases hb with hb | hb
  · rw [hb] at e7
    refine zJ_aload_n dX9_restore_0 rfl ?_
    refine zJ_iconst (v := 0) dX9_restore_1 (by decide) ?_
    refine zJ_puti dX9_restore_2 fX9_170 (fun q h => by cases h; rfl) (by first | rfl | assumption | exact M0.at (by decide) (by decide)) rfl rfl rfl ?_
    refine zJ_aload_n dX9_restore_5 rfl ?_
    refine zJ_getiN dX9_restore_6 fX9_333 (by first | rfl | assumption | exact M0.at (by decide) (by decide)) rfl e7 ?_
    refine zJ_if_ne (tgt := 14) dX9_restore_9 (by decide) (fun h9 => False.elim (by revert h9; decide)) (fun _ => ?_)
    refine zJ_iconst (v := 0) dX9_restore_12 (by decide) ?_
    exact zJ_zret dX9_restore_13 rfl rfl (by decide) (by decide) (hQ _ _ ⟨by simp [zsi], Or.inl ⟨hb, rfl, rfl⟩⟩)
  · rw [hb] at e7
    refine zJ_aload_n dX9_restore_0 rfl ?_
    refine zJ_iconst (v := 0) dX9_restore_1 (by decide) ?_
    refine zJ_puti dX9_restore_2 fX9_170 (fun q h => by cases h; rfl) (by first | rfl | assumption | exact M0.at (by decide) (by decide)) rfl rfl rfl ?_
    refine zJ_aload_n dX9_restore_5 rfl ?_
    refine zJ_getiN dX9_restore_6 fX9_333 (by first | rfl | assumption | exact M0.at (by decide) (by decide)) rfl e7 ?_
    refine zJ_if_ne (tgt := 14) dX9_restore_9 (by decide) (fun _ => ?_) (fun h9 => False.elim (by revert h9; decide))
    refine zJ_aload_n dX9_restore_14 rfl ?_
    refine zJ_iconst (v := 1) dX9_restore_15 (by decide) ?_
    refine zJ_puti dX9_restore_16 fX9_329 (fun q h => by cases h; rfl) (by first | rfl | assumption | exact M0.at (by decide) (by decide)) rfl rfl rfl ?_
    refine zJ_aload_n dX9_restore_19 rfl ?_
    refine zJ_aload_n dX9_restore_20 rfl ?_
    refine zJ_getr (j := 183) dX9_restore_21 fX9_155 (by first | rfl | assumption | exact M0.at (by decide) (by decide)) rfl (by first | rfl | assumption | exact M0.rf (by decide) rfl) ?_
    refine zJ_aload_n dX9_restore_24 rfl ?_
    refine zJ_getr (j := 178) dX9_restore_25 fX9_140 (by first | rfl | assumption | exact M0.at (by decide) (by decide)) rfl (by first | rfl | assumption | exact M0.rf (by decide) rfl) ?_
    refine zJ_cV2 dX9_restore_28 sX9_313 mfX9_copies (c_Mo_copies Δ (zsi (zsi w 100 0 0) 100 76 1) 183 178 3 3 (by decide) (by decide) (by decide) (by decide) (hM.at (by decide) (by decide)) (hM.at (by decide) (by decide))) (by first | rfl | assumption | exact M0.at (by decide) (by decide)) rfl (Nat.le_of_ble_eq_true rfl) (by decide) (by decide) ?_
    refine zJ_aload_n dX9_restore_31 rfl ?_
    refine zJ_aload_n dX9_restore_32 rfl ?_
    refine zJ_getr (j := 184) dX9_restore_33 fX9_158 (by first | rfl | assumption | exact M0.at (by decide) (by decide)) rfl (by first | rfl | assumption | exact M0.rf (by decide) rfl) ?_
    refine zJ_aload_n dX9_restore_36 rfl ?_
    refine zJ_getr (j := 179) dX9_restore_37 fX9_143 (by first | rfl | assumption | exact M0.at (by decide) (by decide)) rfl (by first | rfl | assumption | exact M0.rf (by decide) rfl) ?_
    refine zJ_cV2 dX9_restore_40 sX9_313 mfX9_copies (c_Mo_copies Δ (zrow (zsi (zsi w 100 0 0) 100 76 1) 178 (fun j => if j < 3 then (zsi (zsi w 100 0 0) 100 76 1).2.1 183 j else (zsi (zsi w 100 0 0) 100 76 1).2.1 178 j)) 184 179 8 8 (by decide) (by decide) (by decide) (by decide) (hM.at (by decide) (by decide)) (hM.at (by decide) (by decide))) (by first | rfl | assumption | exact M0.at (by decide) (by decide)) rfl (Nat.le_of_ble_eq_true rfl) (by decide) (by decide) ?_
    refine zJ_aload_n dX9_restore_43 rfl ?_
    refine zJ_aload_n dX9_restore_44 rfl ?_
    refine zJ_getr (j := 185) dX9_restore_45 fX9_161 (by first | rfl | assumption | exact M0.at (by decide) (by decide)) rfl (by first | rfl | assumption | exact M0.rf (by decide) rfl) ?_
    refine zJ_aload_n dX9_restore_48 rfl ?_
    refine zJ_getr (j := 180) dX9_restore_49 fX9_146 (by first | rfl | assumption | exact M0.at (by decide) (by decide)) rfl (by first | rfl | assumption | exact M0.rf (by decide) rfl) ?_
    refine zJ_cV2 dX9_restore_52 sX9_313 mfX9_copies (c_Mo_copies Δ (zrow (zrow (zsi (zsi w 100 0 0) 100 76 1) 178 (fun j => if j < 3 then (zsi (zsi w 100 0 0) 100 76 1).2.1 183 j else (zsi (zsi w 100 0 0) 100 76 1).2.1 178 j)) 179 (fun j => if j < 8 then (zrow (zsi (zsi w 100 0 0) 100 76 1) 178 (fun j => if j < 3 then (zsi (zsi w 100 0 0) 100 76 1).2.1 183 j else (zsi (zsi w 100 0 0) 100 76 1).2.1 178 j)).2.1 184 j else (zrow (zsi (zsi w 100 0 0) 100 76 1) 178 (fun j => if j < 3 then (zsi (zsi w 100 0 0) 100 76 1).2.1 183 j else (zsi (zsi w 100 0 0) 100 76 1).2.1 178 j)).2.1 179 j)) 185 180 100 100 (by decide) (by decide) (by decide) (by decide) (hM.at (by decide) (by decide)) (hM.at (by decide) (by decide))) (by first | rfl | assumption | exact M0.at (by decide) (by decide)) rfl (Nat.le_of_ble_eq_true rfl) (by decide) (by decide) ?_
    refine zJ_aload_n dX9_restore_55 rfl ?_
    refine zJ_aload_n dX9_restore_56 rfl ?_
    refine zJ_getr (j := 186) dX9_restore_57 fX9_164 (by first | rfl | assumption | exact M0.at (by decide) (by decide)) rfl (by first | rfl | assumption | exact M0.rf (by decide) rfl) ?_
    refine zJ_aload_n dX9_restore_60 rfl ?_
    refine zJ_getr (j := 181) dX9_restore_61 fX9_149 (by first | rfl | assumption | exact M0.at (by decide) (by decide)) rfl (by first | rfl | assumption | exact M0.rf (by decide) rfl) ?_
    refine zJ_cV2 dX9_restore_64 sX9_313 mfX9_copies (c_Mo_copies Δ (zrow (zrow (zrow (zsi (zsi w 100 0 0) 100 76 1) 178 (fun j => if j < 3 then (zsi (zsi w 100 0 0) 100 76 1).2.1 183 j else (zsi (zsi w 100 0 0) 100 76 1).2.1 178 j)) 179 (fun j => if j < 8 then (zrow (zsi (zsi w 100 0 0) 100 76 1) 178 (fun j => if j < 3 then (zsi (zsi w 100 0 0) 100 76 1).2.1 183 j else (zsi (zsi w 100 0 0) 100 76 1).2.1 178 j)).2.1 184 j else (zrow (zsi (zsi w 100 0 0) 100 76 1) 178 (fun j => if j < 3 then (zsi (zsi w 100 0 0) 100 76 1).2.1 183 j else (zsi (zsi w 100 0 0) 100 76 1).2.1 178 j)).2.1 179 j)) 180 (fun j => if j < 100 then (zrow (zrow (zsi (zsi w 100 0 0) 100 76 1) 178 (fun j => if j < 3 then (zsi (zsi w 100 0 0) 100 76 1).2.1 183 j else (zsi (zsi w 100 0 0) 100 76 1).2.1 178 j)) 179 (fun j => if j < 8 then (zrow (zsi (zsi w 100 0 0) 100 76 1) 178 (fun j => if j < 3 then (zsi (zsi w 100 0 0) 100 76 1).2.1 183 j else (zsi (zsi w 100 0 0) 100 76 1).2.1 178 j)).2.1 184 j else (zrow (zsi (zsi w 100 0 0) 100 76 1) 178 (fun j => if j < 3 then (zsi (zsi w 100 0 0) 100 76 1).2.1 183 j else (zsi (zsi w 100 0 0) 100 76 1).2.1 178 j)).2.1 179 j)).2.1 185 j else (zrow (zrow (zsi (zsi w 100 0 0) 100 76 1) 178 (fun j => if j < 3 then (zsi (zsi w 100 0 0) 100 76 1).2.1 183 j else (zsi (zsi w 100 0 0) 100 76 1).2.1 178 j)) 179 (fun j => if j < 8 then (zrow (zsi (zsi w 100 0 0) 100 76 1) 178 (fun j => if j < 3 then (zsi (zsi w 100 0 0) 100 76 1).2.1 183 j else (zsi (zsi w 100 0 0) 100 76 1).2.1 178 j)).2.1 184 j else (zrow (zsi (zsi w 100 0 0) 100 76 1) 178 (fun j => if j < 3 then (zsi (zsi w 100 0 0) 100 76 1).2.1 183 j else (zsi (zsi w 100 0 0) 100 76 1).2.1 178 j)).2.1 179 j)).2.1 180 j)) 186 181 100 100 (by decide) (by decide) (by decide) (by decide) (hM.at (by decide) (by decide)) (hM.at (by decide) (by decide))) (by first | rfl | assumption | exact M0.at (by decide) (by decide)) rfl (Nat.le_of_ble_eq_true rfl) (by decide) (by decide) ?_
    refine zJ_aload_n dX9_restore_67 rfl ?_
    refine zJ_aload_n dX9_restore_68 rfl ?_
    refine zJ_getr (j := 187) dX9_restore_69 fX9_167 (by first | rfl | assumption | exact M0.at (by decide) (by decide)) rfl (by first | rfl | assumption | exact M0.rf (by decide) rfl) ?_
    refine zJ_aload_n dX9_restore_72 rfl ?_
    refine zJ_getr (j := 182) dX9_restore_73 fX9_152 (by first | rfl | assumption | exact M0.at (by decide) (by decide)) rfl (by first | rfl | assumption | exact M0.rf (by decide) rfl) ?_
    refine zJ_cV2 dX9_restore_76 sX9_313 mfX9_copies (c_Mo_copies Δ (zrow (zrow (zrow (zrow (zsi (zsi w 100 0 0) 100 76 1) 178 (fun j => if j < 3 then (zsi (zsi w 100 0 0) 100 76 1).2.1 183 j else (zsi (zsi w 100 0 0) 100 76 1).2.1 178 j)) 179 (fun j => if j < 8 then (zrow (zsi (zsi w 100 0 0) 100 76 1) 178 (fun j => if j < 3 then (zsi (zsi w 100 0 0) 100 76 1).2.1 183 j else (zsi (zsi w 100 0 0) 100 76 1).2.1 178 j)).2.1 184 j else (zrow (zsi (zsi w 100 0 0) 100 76 1) 178 (fun j => if j < 3 then (zsi (zsi w 100 0 0) 100 76 1).2.1 183 j else (zsi (zsi w 100 0 0) 100 76 1).2.1 178 j)).2.1 179 j)) 180 (fun j => if j < 100 then (zrow (zrow (zsi (zsi w 100 0 0) 100 76 1) 178 (fun j => if j < 3 then (zsi (zsi w 100 0 0) 100 76 1).2.1 183 j else (zsi (zsi w 100 0 0) 100 76 1).2.1 178 j)) 179 (fun j => if j < 8 then (zrow (zsi (zsi w 100 0 0) 100 76 1) 178 (fun j => if j < 3 then (zsi (zsi w 100 0 0) 100 76 1).2.1 183 j else (zsi (zsi w 100 0 0) 100 76 1).2.1 178 j)).2.1 184 j else (zrow (zsi (zsi w 100 0 0) 100 76 1) 178 (fun j => if j < 3 then (zsi (zsi w 100 0 0) 100 76 1).2.1 183 j else (zsi (zsi w 100 0 0) 100 76 1).2.1 178 j)).2.1 179 j)).2.1 185 j else (zrow (zrow (zsi (zsi w 100 0 0) 100 76 1) 178 (fun j => if j < 3 then (zsi (zsi w 100 0 0) 100 76 1).2.1 183 j else (zsi (zsi w 100 0 0) 100 76 1).2.1 178 j)) 179 (fun j => if j < 8 then (zrow (zsi (zsi w 100 0 0) 100 76 1) 178 (fun j => if j < 3 then (zsi (zsi w 100 0 0) 100 76 1).2.1 183 j else (zsi (zsi w 100 0 0) 100 76 1).2.1 178 j)).2.1 184 j else (zrow (zsi (zsi w 100 0 0) 100 76 1) 178 (fun j => if j < 3 then (zsi (zsi w 100 0 0) 100 76 1).2.1 183 j else (zsi (zsi w 100 0 0) 100 76 1).2.1 178 j)).2.1 179 j)).2.1 180 j)) 181 (fun j => if j < 100 then (zrow (zrow (zrow (zsi (zsi w 100 0 0) 100 76 1) 178 (fun j => if j < 3 then (zsi (zsi w 100 0 0) 100 76 1).2.1 183 j else (zsi (zsi w 100 0 0) 100 76 1).2.1 178 j)) 179 (fun j => if j < 8 then (zrow (zsi (zsi w 100 0 0) 100 76 1) 178 (fun j => if j < 3 then (zsi (zsi w 100 0 0) 100 76 1).2.1 183 j else (zsi (zsi w 100 0 0) 100 76 1).2.1 178 j)).2.1 184 j else (zrow (zsi (zsi w 100 0 0) 100 76 1) 178 (fun j => if j < 3 then (zsi (zsi w 100 0 0) 100 76 1).2.1 183 j else (zsi (zsi w 100 0 0) 100 76 1).2.1 178 j)).2.1 179 j)) 180 (fun j => if j < 100 then (zrow (zrow (zsi (zsi w 100 0 0) 100 76 1) 178 (fun j => if j < 3 then (zsi (zsi w 100 0 0) 100 76 1).2.1 183 j else (zsi (zsi w 100 0 0) 100 76 1).2.1 178 j)) 179 (fun j => if j < 8 then (zrow (zsi (zsi w 100 0 0) 100 76 1) 178 (fun j => if j < 3 then (zsi (zsi w 100 0 0) 100 76 1).2.1 183 j else (zsi (zsi w 100 0 0) 100 76 1).2.1 178 j)).2.1 184 j else (zrow (zsi (zsi w 100 0 0) 100 76 1) 178 (fun j => if j < 3 then (zsi (zsi w 100 0 0) 100 76 1).2.1 183 j else (zsi (zsi w 100 0 0) 100 76 1).2.1 178 j)).2.1 179 j)).2.1 185 j else (zrow (zrow (zsi (zsi w 100 0 0) 100 76 1) 178 (fun j => if j < 3 then (zsi (zsi w 100 0 0) 100 76 1).2.1 183 j else (zsi (zsi w 100 0 0) 100 76 1).2.1 178 j)) 179 (fun j => if j < 8 then (zrow (zsi (zsi w 100 0 0) 100 76 1) 178 (fun j => if j < 3 then (zsi (zsi w 100 0 0) 100 76 1).2.1 183 j else (zsi (zsi w 100 0 0) 100 76 1).2.1 178 j)).2.1 184 j else (zrow (zsi (zsi w 100 0 0) 100 76 1) 178 (fun j => if j < 3 then (zsi (zsi w 100 0 0) 100 76 1).2.1 183 j else (zsi (zsi w 100 0 0) 100 76 1).2.1 178 j)).2.1 179 j)).2.1 180 j)).2.1 186 j else (zrow (zrow (zrow (zsi (zsi w 100 0 0) 100 76 1) 178 (fun j => if j < 3 then (zsi (zsi w 100 0 0) 100 76 1).2.1 183 j else (zsi (zsi w 100 0 0) 100 76 1).2.1 178 j)) 179 (fun j => if j < 8 then (zrow (zsi (zsi w 100 0 0) 100 76 1) 178 (fun j => if j < 3 then (zsi (zsi w 100 0 0) 100 76 1).2.1 183 j else (zsi (zsi w 100 0 0) 100 76 1).2.1 178 j)).2.1 184 j else (zrow (zsi (zsi w 100 0 0) 100 76 1) 178 (fun j => if j < 3 then (zsi (zsi w 100 0 0) 100 76 1).2.1 183 j else (zsi (zsi w 100 0 0) 100 76 1).2.1 178 j)).2.1 179 j)) 180 (fun j => if j < 100 then (zrow (zrow (zsi (zsi w 100 0 0) 100 76 1) 178 (fun j => if j < 3 then (zsi (zsi w 100 0 0) 100 76 1).2.1 183 j else (zsi (zsi w 100 0 0) 100 76 1).2.1 178 j)) 179 (fun j => if j < 8 then (zrow (zsi (zsi w 100 0 0) 100 76 1) 178 (fun j => if j < 3 then (zsi (zsi w 100 0 0) 100 76 1).2.1 183 j else (zsi (zsi w 100 0 0) 100 76 1).2.1 178 j)).2.1 184 j else (zrow (zsi (zsi w 100 0 0) 100 76 1) 178 (fun j => if j < 3 then (zsi (zsi w 100 0 0) 100 76 1).2.1 183 j else (zsi (zsi w 100 0 0) 100 76 1).2.1 178 j)).2.1 179 j)).2.1 185 j else (zrow (zrow (zsi (zsi w 100 0 0) 100 76 1) 178 (fun j => if j < 3 then (zsi (zsi w 100 0 0) 100 76 1).2.1 183 j else (zsi (zsi w 100 0 0) 100 76 1).2.1 178 j)) 179 (fun j => if j < 8 then (zrow (zsi (zsi w 100 0 0) 100 76 1) 178 (fun j => if j < 3 then (zsi (zsi w 100 0 0) 100 76 1).2.1 183 j else (zsi (zsi w 100 0 0) 100 76 1).2.1 178 j)).2.1 184 j else (zrow (zsi (zsi w 100 0 0) 100 76 1) 178 (fun j => if j < 3 then (zsi (zsi w 100 0 0) 100 76 1).2.1 183 j else (zsi (zsi w 100 0 0) 100 76 1).2.1 178 j)).2.1 179 j)).2.1 180 j)).2.1 181 j)) 187 182 100 100 (by decide) (by decide) (by decide) (by decide) (hM.at (by decide) (by decide)) (hM.at (by decide) (by decide))) (by first | rfl | assumption | exact M0.at (by decide) (by decide)) rfl (Nat.le_of_ble_eq_true rfl) (by decide) (by decide) ?_
    refine zJ_iconst (v := 1) dX9_restore_79 (by decide) ?_
    refine zJ_zret dX9_restore_80 rfl rfl (by decide) (by decide) (hQ _ _ ⟨by simp [zrow, zsi], Or.inr ⟨hb, rfl, ?_, by simp [zrow, zsi], ?_, ?_, ?_, ?_, ?_⟩⟩)
    · exact ((((((zFM.i (by decide)).tr (zFM.i (by decide))).tr (zFM.row (by decide))).tr (zFM.row (by decide))).tr (zFM.row (by decide))).tr (zFM.row (by decide))).tr (zFM.row (by decide))
    · intro j hj; simp [zrow, zsi, hj]
    · intro j hj; simp [zrow, zsi, hj]
    · intro j hj; simp [zrow, zsi, hj]
    · intro j hj; simp [zrow, zsi, hj]
    · intro j hj; simp [zrow, zsi, hj]
