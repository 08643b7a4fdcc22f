/-! the model: readsLetter, readsKnows, readsPerson -/
set_option maxRecDepth 100000 in
theorem c_Mo_readsLetter (Δ : zD) {w0 w : zW} {tx : Nat → Nat} {n : Nat} {S : zTo × Nat} {t : zTkn} (h : zGd w0 w tx n S (ztk tx n t.2.2.1)) : zMp Δ 4 yX9_readsLetter mX9_readsLetter [.ref 100] w (fun r c => r = none ∧ match zlL tx n S.1 t with | .inl e => zBd w0 c tx n e | .inr q => zGd w0 c tx n (q.1, S.2) q.2) := by
  refine zMp.of mfX9_readsLetter (Nat.le_of_ble_eq_true rfl) (fun QR hQ => ?_)
  have hM := h.2.1.1
  have B64 : ∀ e : Nat × Nat, zlL tx n S.1 t = .inl e → ∀ c : zW, c.1 = w.1 → zBd w0 c tx n e → zJ Δ mX9_readsLetter (zRm 4 0 0) true w.1 QR (fun _ _ => False) 0 0 64 [(0, .ref 100)] [] c := by
    intro e hz c hcw hb
    have M1 := hb.2.1.1
    exact zJ_vret dX9_readsLetter_64 rfl (by decide) (by decide) (hQ _ _ ⟨rfl, by rw [hz]; exact hb⟩)
  have B49 : ∀ e : Nat × Nat, zlL tx n S.1 t = .inl e → ∀ c : zW, c.1 = w.1 → zBd w0 c tx n e → zJ Δ mX9_readsLetter (zRm 4 0 0) true w.1 QR (fun _ _ => False) 0 0 49 [(0, .ref 100)] [] c := by
    intro e hz c hcw hb
    have M1 := hb.2.1.1
    refine zJ_aload_n dX9_readsLetter_49 rfl ?_
    refine zJ_aload_n dX9_readsLetter_50 rfl ?_
    refine zJ_bipush (v := 13) dX9_readsLetter_51 (by decide) ?_
    refine zJ_iconst (v := 0) dX9_readsLetter_53 (by decide) ?_
    refine zJ_sipush (v := 9999) dX9_readsLetter_54 (by decide) ?_
    refine zJ_iconst (v := 0) dX9_readsLetter_57 (by decide) ?_
    refine zJ_cV4 dX9_readsLetter_58 sX9_244 mfX9_perhaps (c_Mo_prB Δ hb 13 0 9999 0) (by first | rfl | assumption | exact hM.at (by decide) (by decide) | exact M1.at (by decide) (by decide) | exact M2.at (by decide) (by decide) | exact M3.at (by decide) (by decide) | exact M4.at (by decide) (by decide) | exact M5.at (by decide) (by decide) | exact M6.at (by decide) (by decide)) rfl (Nat.le_of_ble_eq_true rfl) (by decide) (by decide) ?_
    refine zJ_puti dX9_readsLetter_61 fX9_263 (fun q h => by cases h; rfl) (by first | rfl | assumption | exact hM.at (by decide) (by decide) | exact M1.at (by decide) (by decide) | exact M2.at (by decide) (by decide) | exact M3.at (by decide) (by decide) | exact M4.at (by decide) (by decide) | exact M5.at (by decide) (by decide) | exact M6.at (by decide) (by decide)) rfl rfl rfl ?_
    exact B64 e hz _ hcw (hb.fm (zFM.i (l := [31]) (by decide)) (by decide) (by decide))
  have B34 : ∀ e : Nat × Nat, zlL tx n S.1 t = .inl e → ∀ c : zW, c.1 = w.1 → zBd w0 c tx n e → zJ Δ mX9_readsLetter (zRm 4 0 0) true w.1 QR (fun _ _ => False) 0 0 34 [(0, .ref 100)] [] c := by
    intro e hz c hcw hb
    have M1 := hb.2.1.1
    refine zJ_aload_n dX9_readsLetter_34 rfl ?_
    refine zJ_aload_n dX9_readsLetter_35 rfl ?_
    refine zJ_bipush (v := 12) dX9_readsLetter_36 (by decide) ?_
    refine zJ_iconst (v := 0) dX9_readsLetter_38 (by decide) ?_
    refine zJ_sipush (v := 9999) dX9_readsLetter_39 (by decide) ?_
    refine zJ_iconst (v := 0) dX9_readsLetter_42 (by decide) ?_
    refine zJ_cV4 dX9_readsLetter_43 sX9_244 mfX9_perhaps (c_Mo_prB Δ hb 12 0 9999 0) (by first | rfl | assumption | exact hM.at (by decide) (by decide) | exact M1.at (by decide) (by decide) | exact M2.at (by decide) (by decide) | exact M3.at (by decide) (by decide) | exact M4.at (by decide) (by decide) | exact M5.at (by decide) (by decide) | exact M6.at (by decide) (by decide)) rfl (Nat.le_of_ble_eq_true rfl) (by decide) (by decide) ?_
    refine zJ_puti dX9_readsLetter_46 fX9_260 (fun q h => by cases h; rfl) (by first | rfl | assumption | exact hM.at (by decide) (by decide) | exact M1.at (by decide) (by decide) | exact M2.at (by decide) (by decide) | exact M3.at (by decide) (by decide) | exact M4.at (by decide) (by decide) | exact M5.at (by decide) (by decide) | exact M6.at (by decide) (by decide)) rfl rfl rfl ?_
    exact B49 e hz _ hcw (hb.fm (zFM.i (l := [30]) (by decide)) (by decide) (by decide))
  have B23 : ∀ e : Nat × Nat, zlL tx n S.1 t = .inl e → ∀ c : zW, c.1 = w.1 → zBd w0 c tx n e → zJ Δ mX9_readsLetter (zRm 4 0 0) true w.1 QR (fun _ _ => False) 0 0 23 [(0, .ref 100)] [] c := by
    intro e hz c hcw hb
    have M1 := hb.2.1.1
    refine zJ_aload_n dX9_readsLetter_23 rfl ?_
    refine zJ_aload_n dX9_readsLetter_24 rfl ?_
    refine zJ_iconst (v := 1) dX9_readsLetter_25 (by decide) ?_
    refine zJ_bipush (v := 12) dX9_readsLetter_26 (by decide) ?_
    refine zJ_cV2 dX9_readsLetter_28 sX9_237 mfX9_number (c_Mo_nmB Δ hb 1 12) (by first | rfl | assumption | exact hM.at (by decide) (by decide) | exact M1.at (by decide) (by decide) | exact M2.at (by decide) (by decide) | exact M3.at (by decide) (by decide) | exact M4.at (by decide) (by decide) | exact M5.at (by decide) (by decide) | exact M6.at (by decide) (by decide)) rfl (Nat.le_of_ble_eq_true rfl) (by decide) (by decide) ?_
    refine zJ_puti dX9_readsLetter_31 fX9_257 (fun q h => by cases h; rfl) (by first | rfl | assumption | exact hM.at (by decide) (by decide) | exact M1.at (by decide) (by decide) | exact M2.at (by decide) (by decide) | exact M3.at (by decide) (by decide) | exact M4.at (by decide) (by decide) | exact M5.at (by decide) (by decide) | exact M6.at (by decide) (by decide)) rfl rfl rfl ?_
    exact B34 e hz _ hcw (hb.fm (zFM.i (l := [29]) (by decide)) (by decide) (by decide))
  have B12 : ∀ e : Nat × Nat, zlL tx n S.1 t = .inl e → ∀ c : zW, c.1 = w.1 → zBd w0 c tx n e → zJ Δ mX9_readsLetter (zRm 4 0 0) true w.1 QR (fun _ _ => False) 0 0 12 [(0, .ref 100)] [] c := by
    intro e hz c hcw hb
    have M1 := hb.2.1.1
    refine zJ_aload_n dX9_readsLetter_12 rfl ?_
    refine zJ_aload_n dX9_readsLetter_13 rfl ?_
    refine zJ_iconst (v := 0) dX9_readsLetter_14 (by decide) ?_
    refine zJ_bipush (v := 99) dX9_readsLetter_15 (by decide) ?_
    refine zJ_cV2 dX9_readsLetter_17 sX9_237 mfX9_number (c_Mo_nmB Δ hb 0 99) (by first | rfl | assumption | exact hM.at (by decide) (by decide) | exact M1.at (by decide) (by decide) | exact M2.at (by decide) (by decide) | exact M3.at (by decide) (by decide) | exact M4.at (by decide) (by decide) | exact M5.at (by decide) (by decide) | exact M6.at (by decide) (by decide)) rfl (Nat.le_of_ble_eq_true rfl) (by decide) (by decide) ?_
    refine zJ_puti dX9_readsLetter_20 fX9_254 (fun q h => by cases h; rfl) (by first | rfl | assumption | exact hM.at (by decide) (by decide) | exact M1.at (by decide) (by decide) | exact M2.at (by decide) (by decide) | exact M3.at (by decide) (by decide) | exact M4.at (by decide) (by decide) | exact M5.at (by decide) (by decide) | exact M6.at (by decide) (by decide)) rfl rfl rfl ?_
    exact B23 e hz _ hcw (hb.fm (zFM.i (l := [28]) (by decide)) (by decide) (by decide))
  refine zJ_aload_n dX9_readsLetter_0 rfl ?_
  refine zJ_aload_n dX9_readsLetter_1 rfl ?_
  refine zJ_iconst (v := 0) dX9_readsLetter_2 (by decide) ?_
  refine zJ_sipush (v := 9999) dX9_readsLetter_3 (by decide) ?_
  refine zJ_eV2 dX9_readsLetter_6 sX9_237 mfX9_number (c_Mo_nm Δ h 0 9999 (by decide) (by decide)) (by first | exact hM.at (by decide) (by decide) | exact M1.at (by decide) (by decide) | exact M2.at (by decide) (by decide) | exact M3.at (by decide) (by decide) | exact M4.at (by decide) (by decide) | exact M5.at (by decide) (by decide) | exact M6.at (by decide) (by decide)) rfl (Nat.le_of_ble_eq_true rfl) (by decide) (by decide) (fun r c1 hP => ?_)
  cases hz1 : zrN 0 9999 (ztk tx n t.2.2.1) with
  | inl e =>
    rw [hz1] at hP
    obtain ⟨hb, v, rfl⟩ := hP
    have M1 := hb.2.1.1
    have hz : zlL tx n S.1 t = .inl e := by simp only [zlL, hz1]
    refine zJ_puti dX9_readsLetter_9 fX9_251 (fun q h => by cases h; rfl) (by first | rfl | assumption | exact hM.at (by decide) (by decide) | exact M1.at (by decide) (by decide) | exact M2.at (by decide) (by decide) | exact M3.at (by decide) (by decide) | exact M4.at (by decide) (by decide) | exact M5.at (by decide) (by decide) | exact M6.at (by decide) (by decide)) rfl rfl rfl ?_
    exact B12 e hz _ (hb.1.1.trans h.1.1.symm) (hb.fm (zFM.i (l := [27]) (by decide)) (by decide) (by decide))
  | inr v1 =>
    rw [hz1] at hP
    obtain ⟨hg1, rfl⟩ := hP
    have M1 := hg1.2.1.1
    have G1 := hg1.p27 v1
    refine zJ_puti dX9_readsLetter_9 fX9_251 (fun q h => by cases h; rfl) (by first | rfl | assumption | exact hM.at (by decide) (by decide) | exact M1.at (by decide) (by decide) | exact M2.at (by decide) (by decide) | exact M3.at (by decide) (by decide) | exact M4.at (by decide) (by decide) | exact M5.at (by decide) (by decide) | exact M6.at (by decide) (by decide)) rfl rfl rfl ?_
    refine zJ_aload_n dX9_readsLetter_12 rfl ?_
    refine zJ_aload_n dX9_readsLetter_13 rfl ?_
    refine zJ_iconst (v := 0) dX9_readsLetter_14 (by decide) ?_
    refine zJ_bipush (v := 99) dX9_readsLetter_15 (by decide) ?_
    refine zJ_eV2 dX9_readsLetter_17 sX9_237 mfX9_number (c_Mo_nm Δ G1 0 99 (by decide) (by decide)) (by first | exact hM.at (by decide) (by decide) | exact M1.at (by decide) (by decide) | exact M2.at (by decide) (by decide) | exact M3.at (by decide) (by decide) | exact M4.at (by decide) (by decide) | exact M5.at (by decide) (by decide) | exact M6.at (by decide) (by decide)) rfl (Nat.le_of_ble_eq_true rfl) (by decide) (by decide) (fun r c2 hP => ?_)
    cases hz2 : zrN 0 99 (ztk tx n (ztk tx n t.2.2.1).2.2.1) with
    | inl e =>
      rw [hz2] at hP
      obtain ⟨hb, v, rfl⟩ := hP
      have M2 := hb.2.1.1
      have hz : zlL tx n S.1 t = .inl e := by simp only [zlL, hz1, hz2]
      refine zJ_puti dX9_readsLetter_20 fX9_254 (fun q h => by cases h; rfl) (by first | rfl | assumption | exact hM.at (by decide) (by decide) | exact M1.at (by decide) (by decide) | exact M2.at (by decide) (by decide) | exact M3.at (by decide) (by decide) | exact M4.at (by decide) (by decide) | exact M5.at (by decide) (by decide) | exact M6.at (by decide) (by decide)) rfl rfl rfl ?_
      exact B23 e hz _ (hb.1.1.trans h.1.1.symm) (hb.fm (zFM.i (l := [28]) (by decide)) (by decide) (by decide))
    | inr v2 =>
      rw [hz2] at hP
      obtain ⟨hg2, rfl⟩ := hP
      have M2 := hg2.2.1.1
      have G2 := hg2.p28 v2
      refine zJ_puti dX9_readsLetter_20 fX9_254 (fun q h => by cases h; rfl) (by first | rfl | assumption | exact hM.at (by decide) (by decide) | exact M1.at (by decide) (by decide) | exact M2.at (by decide) (by decide) | exact M3.at (by decide) (by decide) | exact M4.at (by decide) (by decide) | exact M5.at (by decide) (by decide) | exact M6.at (by decide) (by decide)) rfl rfl rfl ?_
      refine zJ_aload_n dX9_readsLetter_23 rfl ?_
      refine zJ_aload_n dX9_readsLetter_24 rfl ?_
      refine zJ_iconst (v := 1) dX9_readsLetter_25 (by decide) ?_
      refine zJ_bipush (v := 12) dX9_readsLetter_26 (by decide) ?_
      refine zJ_eV2 dX9_readsLetter_28 sX9_237 mfX9_number (c_Mo_nm Δ G2 1 12 (by decide) (by decide)) (by first | exact hM.at (by decide) (by decide) | exact M1.at (by decide) (by decide) | exact M2.at (by decide) (by decide) | exact M3.at (by decide) (by decide) | exact M4.at (by decide) (by decide) | exact M5.at (by decide) (by decide) | exact M6.at (by decide) (by decide)) rfl (Nat.le_of_ble_eq_true rfl) (by decide) (by decide) (fun r c3 hP => ?_)
      cases hz3 : zrN 1 12 (ztk tx n (ztk tx n (ztk tx n t.2.2.1).2.2.1).2.2.1) with
      | inl e =>
        rw [hz3] at hP
        obtain ⟨hb, v, rfl⟩ := hP
        have M3 := hb.2.1.1
        have hz : zlL tx n S.1 t = .inl e := by simp only [zlL, hz1, hz2, hz3]
        refine zJ_puti dX9_readsLetter_31 fX9_257 (fun q h => by cases h; rfl) (by first | rfl | assumption | exact hM.at (by decide) (by decide) | exact M1.at (by decide) (by decide) | exact M2.at (by decide) (by decide) | exact M3.at (by decide) (by decide) | exact M4.at (by decide) (by decide) | exact M5.at (by decide) (by decide) | exact M6.at (by decide) (by decide)) rfl rfl rfl ?_
        exact B34 e hz _ (hb.1.1.trans h.1.1.symm) (hb.fm (zFM.i (l := [29]) (by decide)) (by decide) (by decide))
      | inr v3 =>
        rw [hz3] at hP
        obtain ⟨hg3, rfl⟩ := hP
        have M3 := hg3.2.1.1
        have G3 := hg3.p29 v3
        refine zJ_puti dX9_readsLetter_31 fX9_257 (fun q h => by cases h; rfl) (by first | rfl | assumption | exact hM.at (by decide) (by decide) | exact M1.at (by decide) (by decide) | exact M2.at (by decide) (by decide) | exact M3.at (by decide) (by decide) | exact M4.at (by decide) (by decide) | exact M5.at (by decide) (by decide) | exact M6.at (by decide) (by decide)) rfl rfl rfl ?_
        refine zJ_aload_n dX9_readsLetter_34 rfl ?_
        refine zJ_aload_n dX9_readsLetter_35 rfl ?_
        refine zJ_bipush (v := 12) dX9_readsLetter_36 (by decide) ?_
        refine zJ_iconst (v := 0) dX9_readsLetter_38 (by decide) ?_
        refine zJ_sipush (v := 9999) dX9_readsLetter_39 (by decide) ?_
        refine zJ_iconst (v := 0) dX9_readsLetter_42 (by decide) ?_
        refine zJ_eV4 dX9_readsLetter_43 sX9_244 mfX9_perhaps (c_Mo_pr Δ G3 12 0 9999 0 (by decide) (by decide) (by decide)) (by first | exact hM.at (by decide) (by decide) | exact M1.at (by decide) (by decide) | exact M2.at (by decide) (by decide) | exact M3.at (by decide) (by decide) | exact M4.at (by decide) (by decide) | exact M5.at (by decide) (by decide) | exact M6.at (by decide) (by decide)) rfl (Nat.le_of_ble_eq_true rfl) (by decide) (by decide) (fun r c4 hP => ?_)
        cases hz4 : zrP tx n 12 0 9999 0 (ztk tx n (ztk tx n (ztk tx n (ztk tx n t.2.2.1).2.2.1).2.2.1).2.2.1) with
        | inl e =>
          rw [show zmw 12 = 12 from rfl, hz4] at hP
          obtain ⟨hb, v, rfl⟩ := hP
          have M4 := hb.2.1.1
          have hz : zlL tx n S.1 t = .inl e := by simp only [zlL, hz1, hz2, hz3, hz4]
          refine zJ_puti dX9_readsLetter_46 fX9_260 (fun q h => by cases h; rfl) (by first | rfl | assumption | exact hM.at (by decide) (by decide) | exact M1.at (by decide) (by decide) | exact M2.at (by decide) (by decide) | exact M3.at (by decide) (by decide) | exact M4.at (by decide) (by decide) | exact M5.at (by decide) (by decide) | exact M6.at (by decide) (by decide)) rfl rfl rfl ?_
          exact B49 e hz _ (hb.1.1.trans h.1.1.symm) (hb.fm (zFM.i (l := [30]) (by decide)) (by decide) (by decide))
        | inr v4 =>
          rw [show zmw 12 = 12 from rfl, hz4] at hP
          obtain ⟨hg4, rfl⟩ := hP
          have M4 := hg4.2.1.1
          have G4 := hg4.p30 v4.1
          refine zJ_puti dX9_readsLetter_46 fX9_260 (fun q h => by cases h; rfl) (by first | rfl | assumption | exact hM.at (by decide) (by decide) | exact M1.at (by decide) (by decide) | exact M2.at (by decide) (by decide) | exact M3.at (by decide) (by decide) | exact M4.at (by decide) (by decide) | exact M5.at (by decide) (by decide) | exact M6.at (by decide) (by decide)) rfl rfl rfl ?_
          refine zJ_aload_n dX9_readsLetter_49 rfl ?_
          refine zJ_aload_n dX9_readsLetter_50 rfl ?_
          refine zJ_bipush (v := 13) dX9_readsLetter_51 (by decide) ?_
          refine zJ_iconst (v := 0) dX9_readsLetter_53 (by decide) ?_
          refine zJ_sipush (v := 9999) dX9_readsLetter_54 (by decide) ?_
          refine zJ_iconst (v := 0) dX9_readsLetter_57 (by decide) ?_
          refine zJ_eV4 dX9_readsLetter_58 sX9_244 mfX9_perhaps (c_Mo_pr Δ G4 13 0 9999 0 (by decide) (by decide) (by decide)) (by first | exact hM.at (by decide) (by decide) | exact M1.at (by decide) (by decide) | exact M2.at (by decide) (by decide) | exact M3.at (by decide) (by decide) | exact M4.at (by decide) (by decide) | exact M5.at (by decide) (by decide) | exact M6.at (by decide) (by decide)) rfl (Nat.le_of_ble_eq_true rfl) (by decide) (by decide) (fun r c5 hP => ?_)
          cases hz5 : zrP tx n 13 0 9999 0 v4.2 with
          | inl e =>
            rw [show zmw 13 = 13 from rfl, hz5] at hP
            obtain ⟨hb, v, rfl⟩ := hP
            have M5 := hb.2.1.1
            have hz : zlL tx n S.1 t = .inl e := by simp only [zlL, hz1, hz2, hz3, hz4, hz5]
            refine zJ_puti dX9_readsLetter_61 fX9_263 (fun q h => by cases h; rfl) (by first | rfl | assumption | exact hM.at (by decide) (by decide) | exact M1.at (by decide) (by decide) | exact M2.at (by decide) (by decide) | exact M3.at (by decide) (by decide) | exact M4.at (by decide) (by decide) | exact M5.at (by decide) (by decide) | exact M6.at (by decide) (by decide)) rfl rfl rfl ?_
            exact B64 e hz _ (hb.1.1.trans h.1.1.symm) (hb.fm (zFM.i (l := [31]) (by decide)) (by decide) (by decide))
          | inr v5 =>
            rw [show zmw 13 = 13 from rfl, hz5] at hP
            obtain ⟨hg5, rfl⟩ := hP
            have M5 := hg5.2.1.1
            have G5 := hg5.p31 v5.1
            refine zJ_puti dX9_readsLetter_61 fX9_263 (fun q h => by cases h; rfl) (by first | rfl | assumption | exact hM.at (by decide) (by decide) | exact M1.at (by decide) (by decide) | exact M2.at (by decide) (by decide) | exact M3.at (by decide) (by decide) | exact M4.at (by decide) (by decide) | exact M5.at (by decide) (by decide) | exact M6.at (by decide) (by decide)) rfl rfl rfl ?_
            have hz : zlL tx n S.1 t = .inr (zTs (zTs (zTs (zTs (zTs S.1 5 v1) 6 v2) 7 v3) 8 v4.1) 9 v5.1, v5.2) := by simp only [zlL, hz1, hz2, hz3, hz4, hz5]
            rw [hz] at hQ
            exact zJ_vret dX9_readsLetter_64 rfl (by decide) (by decide) (hQ _ _ ⟨rfl, G5⟩)
