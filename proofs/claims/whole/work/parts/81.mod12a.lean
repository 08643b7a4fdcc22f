/-! the model: count, person, weight, guess, chained, theft, begin, week, image, restore -/
def zmnv (w : zW) (q : Nat) : Int32 := match q with
  | 0 => w.2.1 100 1
  | 1 => w.2.1 100 3
  | 2 => w.2.1 100 4
  | 3 => w.2.1 100 5
  | 4 => w.2.1 100 6
  | 5 => w.2.1 100 7
  | 6 => w.2.1 100 8
  | 7 => w.2.1 100 9
  | 8 => w.2.1 100 2
  | 9 => w.2.1 100 14
  | 10 => w.2.1 100 55
  | 11 => w.2.1 100 56
  | 12 => w.2.1 100 71
  | 13 => w.2.1 117 0
  | 14 => w.2.1 117 1
  | _ => w.2.1 117 2
set_option maxRecDepth 100000 in
theorem c_Mo_count (Δ : zD) (w : zW) (hM : zMs w) (x : Int32) : zMp Δ 1 yX9_count mX9_count [.ref 100, .int x] w (fun r c => (¬ (∃ q, q ≤ 15 ∧ x = nI q) ∧ c = zsi (zsi w 100 0 0) 100 0 1) ∨ (∃ q, q ≤ 15 ∧ x = nI q ∧ c = zsi w 100 0 0 ∧ r = some (.int (zmnv w q)))) := by
  refine zMp.of mfX9_count (Nat.le_of_ble_eq_true rfl) (fun QR hQ => ?_)
  have M0 : zMs (zsi w 100 0 0) := hM
  have z0 : (zsi w 100 0 0).2.1 100 0 = 0 := by simp [zsi]
  by_cases hx : ∃ q, 0 ≤ q ∧ q ≤ 15 ∧ x = nI q
  · obtain ⟨q, -, hq, rfl⟩ := hx
    rcases (by omega : q = 0 ∨ q = 1 ∨ q = 2 ∨ q = 3 ∨ q = 4 ∨ q = 5 ∨ q = 6 ∨ q = 7 ∨ q = 8 ∨ q = 9 ∨ q = 10 ∨ q = 11 ∨ q = 12 ∨ q = 13 ∨ q = 14 ∨ q = 15) with rfl | rfl | rfl | rfl | rfl | rfl | rfl | rfl | rfl | rfl | rfl | rfl | rfl | rfl | rfl | rfl
    · refine zJ_aload_n dX9_count_0 rfl ?_
      refine zJ_iconst (v := 0) dX9_count_1 (by decide) ?_
      refine zJ_puti dX9_count_2 fX9_170 (fun q h => by cases h; rfl) (by first | rfl | assumption | exact M0.at (by decide) (by decide)) rfl rfl rfl ?_
      refine zJ_aload_n dX9_count_5 rfl ?_
      refine zJ_iload_n dX9_count_6 rfl ?_
      refine zJ_iconst (v := 0) dX9_count_7 (by decide) ?_
      refine zJ_bipush (v := 15) dX9_count_8 (by decide) ?_
      refine zJ_cS3 dX9_count_10 sX9_336 mfX9_within ((c_Mo_within Δ (zsi w 100 0 0) (nI 0) 0 15 (by decide) (by decide)).1 ⟨0, by decide, by decide, rfl⟩) (Nat.le_of_ble_eq_true rfl) (by decide) (by decide) ?_
      refine zJ_iconst (v := 1) dX9_count_13 (by decide) ?_
      refine zJ_cV2 dX9_count_14 sX9_291 mfX9_right (c_Mo_right1 Δ (zsi w 100 0 0) M0 z0 1) (by first | rfl | assumption | exact M0.at (by decide) (by decide)) rfl (Nat.le_of_ble_eq_true rfl) (by decide) (by decide) ?_
      refine zJ_if_ne (tgt := 22) dX9_count_17 (by decide) (fun _ => ?_) (fun h9 => False.elim (by revert h9; decide))
      refine zJ_iload_n dX9_count_22 rfl ?_
      refine zJ_tabN (off := 65) (tgt := 88) dX9_count_23 (by decide) (by decide) rfl (by decide) ?_
      refine zJ_aload_n dX9_count_88 rfl ?_
      refine zJ_geti dX9_count_89 fX9_298 (by first | rfl | assumption | exact M0.at (by decide) (by decide)) rfl ?_
      rw [zsi_ne (by decide)]
      exact zJ_iret dX9_count_92 rfl (by decide) (by decide) (hQ _ _ (Or.inr ⟨0, by decide, rfl, rfl, rfl⟩))
    · refine zJ_aload_n dX9_count_0 rfl ?_
      refine zJ_iconst (v := 0) dX9_count_1 (by decide) ?_
      refine zJ_puti dX9_count_2 fX9_170 (fun q h => by cases h; rfl) (by first | rfl | assumption | exact M0.at (by decide) (by decide)) rfl rfl rfl ?_
      refine zJ_aload_n dX9_count_5 rfl ?_
      refine zJ_iload_n dX9_count_6 rfl ?_
      refine zJ_iconst (v := 0) dX9_count_7 (by decide) ?_
      refine zJ_bipush (v := 15) dX9_count_8 (by decide) ?_
      refine zJ_cS3 dX9_count_10 sX9_336 mfX9_within ((c_Mo_within Δ (zsi w 100 0 0) (nI 1) 0 15 (by decide) (by decide)).1 ⟨1, by decide, by decide, rfl⟩) (Nat.le_of_ble_eq_true rfl) (by decide) (by decide) ?_
      refine zJ_iconst (v := 1) dX9_count_13 (by decide) ?_
      refine zJ_cV2 dX9_count_14 sX9_291 mfX9_right (c_Mo_right1 Δ (zsi w 100 0 0) M0 z0 1) (by first | rfl | assumption | exact M0.at (by decide) (by decide)) rfl (Nat.le_of_ble_eq_true rfl) (by decide) (by decide) ?_
      refine zJ_if_ne (tgt := 22) dX9_count_17 (by decide) (fun _ => ?_) (fun h9 => False.elim (by revert h9; decide))
      refine zJ_iload_n dX9_count_22 rfl ?_
      refine zJ_tabN (off := 70) (tgt := 93) dX9_count_23 (by decide) (by decide) rfl (by decide) ?_
      refine zJ_aload_n dX9_count_93 rfl ?_
      refine zJ_geti dX9_count_94 fX9_7 (by first | rfl | assumption | exact M0.at (by decide) (by decide)) rfl ?_
      rw [zsi_ne (by decide)]
      exact zJ_iret dX9_count_97 rfl (by decide) (by decide) (hQ _ _ (Or.inr ⟨1, by decide, rfl, rfl, rfl⟩))
    · refine zJ_aload_n dX9_count_0 rfl ?_
      refine zJ_iconst (v := 0) dX9_count_1 (by decide) ?_
      refine zJ_puti dX9_count_2 fX9_170 (fun q h => by cases h; rfl) (by first | rfl | assumption | exact M0.at (by decide) (by decide)) rfl rfl rfl ?_
      refine zJ_aload_n dX9_count_5 rfl ?_
      refine zJ_iload_n dX9_count_6 rfl ?_
      refine zJ_iconst (v := 0) dX9_count_7 (by decide) ?_
      refine zJ_bipush (v := 15) dX9_count_8 (by decide) ?_
      refine zJ_cS3 dX9_count_10 sX9_336 mfX9_within ((c_Mo_within Δ (zsi w 100 0 0) (nI 2) 0 15 (by decide) (by decide)).1 ⟨2, by decide, by decide, rfl⟩) (Nat.le_of_ble_eq_true rfl) (by decide) (by decide) ?_
      refine zJ_iconst (v := 1) dX9_count_13 (by decide) ?_
      refine zJ_cV2 dX9_count_14 sX9_291 mfX9_right (c_Mo_right1 Δ (zsi w 100 0 0) M0 z0 1) (by first | rfl | assumption | exact M0.at (by decide) (by decide)) rfl (Nat.le_of_ble_eq_true rfl) (by decide) (by decide) ?_
      refine zJ_if_ne (tgt := 22) dX9_count_17 (by decide) (fun _ => ?_) (fun h9 => False.elim (by revert h9; decide))
      refine zJ_iload_n dX9_count_22 rfl ?_
      refine zJ_tabN (off := 75) (tgt := 98) dX9_count_23 (by decide) (by decide) rfl (by decide) ?_
      refine zJ_aload_n dX9_count_98 rfl ?_
      refine zJ_geti dX9_count_99 fX9_13 (by first | rfl | assumption | exact M0.at (by decide) (by decide)) rfl ?_
      rw [zsi_ne (by decide)]
      exact zJ_iret dX9_count_102 rfl (by decide) (by decide) (hQ _ _ (Or.inr ⟨2, by decide, rfl, rfl, rfl⟩))
    · refine zJ_aload_n dX9_count_0 rfl ?_
      refine zJ_iconst (v := 0) dX9_count_1 (by decide) ?_
      refine zJ_puti dX9_count_2 fX9_170 (fun q h => by cases h; rfl) (by first | rfl | assumption | exact M0.at (by decide) (by decide)) rfl rfl rfl ?_
      refine zJ_aload_n dX9_count_5 rfl ?_
      refine zJ_iload_n dX9_count_6 rfl ?_
      refine zJ_iconst (v := 0) dX9_count_7 (by decide) ?_
      refine zJ_bipush (v := 15) dX9_count_8 (by decide) ?_
      refine zJ_cS3 dX9_count_10 sX9_336 mfX9_within ((c_Mo_within Δ (zsi w 100 0 0) (nI 3) 0 15 (by decide) (by decide)).1 ⟨3, by decide, by decide, rfl⟩) (Nat.le_of_ble_eq_true rfl) (by decide) (by decide) ?_
      refine zJ_iconst (v := 1) dX9_count_13 (by decide) ?_
      refine zJ_cV2 dX9_count_14 sX9_291 mfX9_right (c_Mo_right1 Δ (zsi w 100 0 0) M0 z0 1) (by first | rfl | assumption | exact M0.at (by decide) (by decide)) rfl (Nat.le_of_ble_eq_true rfl) (by decide) (by decide) ?_
      refine zJ_if_ne (tgt := 22) dX9_count_17 (by decide) (fun _ => ?_) (fun h9 => False.elim (by revert h9; decide))
      refine zJ_iload_n dX9_count_22 rfl ?_
      refine zJ_tabN (off := 80) (tgt := 103) dX9_count_23 (by decide) (by decide) rfl (by decide) ?_
      refine zJ_aload_n dX9_count_103 rfl ?_
      refine zJ_geti dX9_count_104 fX9_16 (by first | rfl | assumption | exact M0.at (by decide) (by decide)) rfl ?_
      rw [zsi_ne (by decide)]
      exact zJ_iret dX9_count_107 rfl (by decide) (by decide) (hQ _ _ (Or.inr ⟨3, by decide, rfl, rfl, rfl⟩))
    · refine zJ_aload_n dX9_count_0 rfl ?_
      refine zJ_iconst (v := 0) dX9_count_1 (by decide) ?_
      refine zJ_puti dX9_count_2 fX9_170 (fun q h => by cases h; rfl) (by first | rfl | assumption | exact M0.at (by decide) (by decide)) rfl rfl rfl ?_
      refine zJ_aload_n dX9_count_5 rfl ?_
      refine zJ_iload_n dX9_count_6 rfl ?_
      refine zJ_iconst (v := 0) dX9_count_7 (by decide) ?_
      refine zJ_bipush (v := 15) dX9_count_8 (by decide) ?_
      refine zJ_cS3 dX9_count_10 sX9_336 mfX9_within ((c_Mo_within Δ (zsi w 100 0 0) (nI 4) 0 15 (by decide) (by decide)).1 ⟨4, by decide, by decide, rfl⟩) (Nat.le_of_ble_eq_true rfl) (by decide) (by decide) ?_
      refine zJ_iconst (v := 1) dX9_count_13 (by decide) ?_
      refine zJ_cV2 dX9_count_14 sX9_291 mfX9_right (c_Mo_right1 Δ (zsi w 100 0 0) M0 z0 1) (by first | rfl | assumption | exact M0.at (by decide) (by decide)) rfl (Nat.le_of_ble_eq_true rfl) (by decide) (by decide) ?_
      refine zJ_if_ne (tgt := 22) dX9_count_17 (by decide) (fun _ => ?_) (fun h9 => False.elim (by revert h9; decide))
      refine zJ_iload_n dX9_count_22 rfl ?_
      refine zJ_tabN (off := 85) (tgt := 108) dX9_count_23 (by decide) (by decide) rfl (by decide) ?_
      refine zJ_aload_n dX9_count_108 rfl ?_
      refine zJ_geti dX9_count_109 fX9_304 (by first | rfl | assumption | exact M0.at (by decide) (by decide)) rfl ?_
      rw [zsi_ne (by decide)]
      exact zJ_iret dX9_count_112 rfl (by decide) (by decide) (hQ _ _ (Or.inr ⟨4, by decide, rfl, rfl, rfl⟩))
    · refine zJ_aload_n dX9_count_0 rfl ?_
      refine zJ_iconst (v := 0) dX9_count_1 (by decide) ?_
      refine zJ_puti dX9_count_2 fX9_170 (fun q h => by cases h; rfl) (by first | rfl | assumption | exact M0.at (by decide) (by decide)) rfl rfl rfl ?_
      refine zJ_aload_n dX9_count_5 rfl ?_
      refine zJ_iload_n dX9_count_6 rfl ?_
      refine zJ_iconst (v := 0) dX9_count_7 (by decide) ?_
      refine zJ_bipush (v := 15) dX9_count_8 (by decide) ?_
      refine zJ_cS3 dX9_count_10 sX9_336 mfX9_within ((c_Mo_within Δ (zsi w 100 0 0) (nI 5) 0 15 (by decide) (by decide)).1 ⟨5, by decide, by decide, rfl⟩) (Nat.le_of_ble_eq_true rfl) (by decide) (by decide) ?_
      refine zJ_iconst (v := 1) dX9_count_13 (by decide) ?_
      refine zJ_cV2 dX9_count_14 sX9_291 mfX9_right (c_Mo_right1 Δ (zsi w 100 0 0) M0 z0 1) (by first | rfl | assumption | exact M0.at (by decide) (by decide)) rfl (Nat.le_of_ble_eq_true rfl) (by decide) (by decide) ?_
      refine zJ_if_ne (tgt := 22) dX9_count_17 (by decide) (fun _ => ?_) (fun h9 => False.elim (by revert h9; decide))
      refine zJ_iload_n dX9_count_22 rfl ?_
      refine zJ_tabN (off := 90) (tgt := 113) dX9_count_23 (by decide) (by decide) rfl (by decide) ?_
      refine zJ_aload_n dX9_count_113 rfl ?_
      refine zJ_geti dX9_count_114 fX9_307 (by first | rfl | assumption | exact M0.at (by decide) (by decide)) rfl ?_
      rw [zsi_ne (by decide)]
      exact zJ_iret dX9_count_117 rfl (by decide) (by decide) (hQ _ _ (Or.inr ⟨5, by decide, rfl, rfl, rfl⟩))
    · refine zJ_aload_n dX9_count_0 rfl ?_
      refine zJ_iconst (v := 0) dX9_count_1 (by decide) ?_
      refine zJ_puti dX9_count_2 fX9_170 (fun q h => by cases h; rfl) (by first | rfl | assumption | exact M0.at (by decide) (by decide)) rfl rfl rfl ?_
      refine zJ_aload_n dX9_count_5 rfl ?_
      refine zJ_iload_n dX9_count_6 rfl ?_
      refine zJ_iconst (v := 0) dX9_count_7 (by decide) ?_
      refine zJ_bipush (v := 15) dX9_count_8 (by decide) ?_
      refine zJ_cS3 dX9_count_10 sX9_336 mfX9_within ((c_Mo_within Δ (zsi w 100 0 0) (nI 6) 0 15 (by decide) (by decide)).1 ⟨6, by decide, by decide, rfl⟩) (Nat.le_of_ble_eq_true rfl) (by decide) (by decide) ?_
      refine zJ_iconst (v := 1) dX9_count_13 (by decide) ?_
      refine zJ_cV2 dX9_count_14 sX9_291 mfX9_right (c_Mo_right1 Δ (zsi w 100 0 0) M0 z0 1) (by first | rfl | assumption | exact M0.at (by decide) (by decide)) rfl (Nat.le_of_ble_eq_true rfl) (by decide) (by decide) ?_
      refine zJ_if_ne (tgt := 22) dX9_count_17 (by decide) (fun _ => ?_) (fun h9 => False.elim (by revert h9; decide))
      refine zJ_iload_n dX9_count_22 rfl ?_
      refine zJ_tabN (off := 95) (tgt := 118) dX9_count_23 (by decide) (by decide) rfl (by decide) ?_
      refine zJ_aload_n dX9_count_118 rfl ?_
      refine zJ_geti dX9_count_119 fX9_310 (by first | rfl | assumption | exact M0.at (by decide) (by decide)) rfl ?_
      rw [zsi_ne (by decide)]
      exact zJ_iret dX9_count_122 rfl (by decide) (by decide) (hQ _ _ (Or.inr ⟨6, by decide, rfl, rfl, rfl⟩))
    · refine zJ_aload_n dX9_count_0 rfl ?_
      refine zJ_iconst (v := 0) dX9_count_1 (by decide) ?_
      refine zJ_puti dX9_count_2 fX9_170 (fun q h => by cases h; rfl) (by first | rfl | assumption | exact M0.at (by decide) (by decide)) rfl rfl rfl ?_
      refine zJ_aload_n dX9_count_5 rfl ?_
      refine zJ_iload_n dX9_count_6 rfl ?_
      refine zJ_iconst (v := 0) dX9_count_7 (by decide) ?_
      refine zJ_bipush (v := 15) dX9_count_8 (by decide) ?_
      refine zJ_cS3 dX9_count_10 sX9_336 mfX9_within ((c_Mo_within Δ (zsi w 100 0 0) (nI 7) 0 15 (by decide) (by decide)).1 ⟨7, by decide, by decide, rfl⟩) (Nat.le_of_ble_eq_true rfl) (by decide) (by decide) ?_
      refine zJ_iconst (v := 1) dX9_count_13 (by decide) ?_
      refine zJ_cV2 dX9_count_14 sX9_291 mfX9_right (c_Mo_right1 Δ (zsi w 100 0 0) M0 z0 1) (by first | rfl | assumption | exact M0.at (by decide) (by decide)) rfl (Nat.le_of_ble_eq_true rfl) (by decide) (by decide) ?_
      refine zJ_if_ne (tgt := 22) dX9_count_17 (by decide) (fun _ => ?_) (fun h9 => False.elim (by revert h9; decide))
      refine zJ_iload_n dX9_count_22 rfl ?_
      refine zJ_tabN (off := 100) (tgt := 123) dX9_count_23 (by decide) (by decide) rfl (by decide) ?_
      refine zJ_aload_n dX9_count_123 rfl ?_
      refine zJ_geti dX9_count_124 fX9_19 (by first | rfl | assumption | exact M0.at (by decide) (by decide)) rfl ?_
      rw [zsi_ne (by decide)]
      exact zJ_iret dX9_count_127 rfl (by decide) (by decide) (hQ _ _ (Or.inr ⟨7, by decide, rfl, rfl, rfl⟩))
    · refine zJ_aload_n dX9_count_0 rfl ?_
      refine zJ_iconst (v := 0) dX9_count_1 (by decide) ?_
      refine zJ_puti dX9_count_2 fX9_170 (fun q h => by cases h; rfl) (by first | rfl | assumption | exact M0.at (by decide) (by decide)) rfl rfl rfl ?_
      refine zJ_aload_n dX9_count_5 rfl ?_
      refine zJ_iload_n dX9_count_6 rfl ?_
      refine zJ_iconst (v := 0) dX9_count_7 (by decide) ?_
      refine zJ_bipush (v := 15) dX9_count_8 (by decide) ?_
      refine zJ_cS3 dX9_count_10 sX9_336 mfX9_within ((c_Mo_within Δ (zsi w 100 0 0) (nI 8) 0 15 (by decide) (by decide)).1 ⟨8, by decide, by decide, rfl⟩) (Nat.le_of_ble_eq_true rfl) (by decide) (by decide) ?_
      refine zJ_iconst (v := 1) dX9_count_13 (by decide) ?_
      refine zJ_cV2 dX9_count_14 sX9_291 mfX9_right (c_Mo_right1 Δ (zsi w 100 0 0) M0 z0 1) (by first | rfl | assumption | exact M0.at (by decide) (by decide)) rfl (Nat.le_of_ble_eq_true rfl) (by decide) (by decide) ?_
      refine zJ_if_ne (tgt := 22) dX9_count_17 (by decide) (fun _ => ?_) (fun h9 => False.elim (by revert h9; decide))
      refine zJ_iload_n dX9_count_22 rfl ?_
      refine zJ_tabN (off := 105) (tgt := 128) dX9_count_23 (by decide) (by decide) rfl (by decide) ?_
      refine zJ_aload_n dX9_count_128 rfl ?_
      refine zJ_geti dX9_count_129 fX9_301 (by first | rfl | assumption | exact M0.at (by decide) (by decide)) rfl ?_
      rw [zsi_ne (by decide)]
      exact zJ_iret dX9_count_132 rfl (by decide) (by decide) (hQ _ _ (Or.inr ⟨8, by decide, rfl, rfl, rfl⟩))
    · refine zJ_aload_n dX9_count_0 rfl ?_
      refine zJ_iconst (v := 0) dX9_count_1 (by decide) ?_
      refine zJ_puti dX9_count_2 fX9_170 (fun q h => by cases h; rfl) (by first | rfl | assumption | exact M0.at (by decide) (by decide)) rfl rfl rfl ?_
      refine zJ_aload_n dX9_count_5 rfl ?_
      refine zJ_iload_n dX9_count_6 rfl ?_
      refine zJ_iconst (v := 0) dX9_count_7 (by decide) ?_
      refine zJ_bipush (v := 15) dX9_count_8 (by decide) ?_
      refine zJ_cS3 dX9_count_10 sX9_336 mfX9_within ((c_Mo_within Δ (zsi w 100 0 0) (nI 9) 0 15 (by decide) (by decide)).1 ⟨9, by decide, by decide, rfl⟩) (Nat.le_of_ble_eq_true rfl) (by decide) (by decide) ?_
      refine zJ_iconst (v := 1) dX9_count_13 (by decide) ?_
      refine zJ_cV2 dX9_count_14 sX9_291 mfX9_right (c_Mo_right1 Δ (zsi w 100 0 0) M0 z0 1) (by first | rfl | assumption | exact M0.at (by decide) (by decide)) rfl (Nat.le_of_ble_eq_true rfl) (by decide) (by decide) ?_
      refine zJ_if_ne (tgt := 22) dX9_count_17 (by decide) (fun _ => ?_) (fun h9 => False.elim (by revert h9; decide))
      refine zJ_iload_n dX9_count_22 rfl ?_
      refine zJ_tabN (off := 110) (tgt := 133) dX9_count_23 (by decide) (by decide) rfl (by decide) ?_
      refine zJ_aload_n dX9_count_133 rfl ?_
      refine zJ_geti dX9_count_134 fX9_173 (by first | rfl | assumption | exact M0.at (by decide) (by decide)) rfl ?_
      rw [zsi_ne (by decide)]
      exact zJ_iret dX9_count_137 rfl (by decide) (by decide) (hQ _ _ (Or.inr ⟨9, by decide, rfl, rfl, rfl⟩))
    · refine zJ_aload_n dX9_count_0 rfl ?_
      refine zJ_iconst (v := 0) dX9_count_1 (by decide) ?_
      refine zJ_puti dX9_count_2 fX9_170 (fun q h => by cases h; rfl) (by first | rfl | assumption | exact M0.at (by decide) (by decide)) rfl rfl rfl ?_
      refine zJ_aload_n dX9_count_5 rfl ?_
      refine zJ_iload_n dX9_count_6 rfl ?_
      refine zJ_iconst (v := 0) dX9_count_7 (by decide) ?_
      refine zJ_bipush (v := 15) dX9_count_8 (by decide) ?_
      refine zJ_cS3 dX9_count_10 sX9_336 mfX9_within ((c_Mo_within Δ (zsi w 100 0 0) (nI 10) 0 15 (by decide) (by decide)).1 ⟨10, by decide, by decide, rfl⟩) (Nat.le_of_ble_eq_true rfl) (by decide) (by decide) ?_
      refine zJ_iconst (v := 1) dX9_count_13 (by decide) ?_
      refine zJ_cV2 dX9_count_14 sX9_291 mfX9_right (c_Mo_right1 Δ (zsi w 100 0 0) M0 z0 1) (by first | rfl | assumption | exact M0.at (by decide) (by decide)) rfl (Nat.le_of_ble_eq_true rfl) (by decide) (by decide) ?_
      refine zJ_if_ne (tgt := 22) dX9_count_17 (by decide) (fun _ => ?_) (fun h9 => False.elim (by revert h9; decide))
      refine zJ_iload_n dX9_count_22 rfl ?_
      refine zJ_tabN (off := 115) (tgt := 138) dX9_count_23 (by decide) (by decide) rfl (by decide) ?_
      refine zJ_aload_n dX9_count_138 rfl ?_
      refine zJ_geti dX9_count_139 fX9_317 (by first | rfl | assumption | exact M0.at (by decide) (by decide)) rfl ?_
      rw [zsi_ne (by decide)]
      exact zJ_iret dX9_count_142 rfl (by decide) (by decide) (hQ _ _ (Or.inr ⟨10, by decide, rfl, rfl, rfl⟩))
    · refine zJ_aload_n dX9_count_0 rfl ?_
      refine zJ_iconst (v := 0) dX9_count_1 (by decide) ?_
      refine zJ_puti dX9_count_2 fX9_170 (fun q h => by cases h; rfl) (by first | rfl | assumption | exact M0.at (by decide) (by decide)) rfl rfl rfl ?_
      refine zJ_aload_n dX9_count_5 rfl ?_
      refine zJ_iload_n dX9_count_6 rfl ?_
      refine zJ_iconst (v := 0) dX9_count_7 (by decide) ?_
      refine zJ_bipush (v := 15) dX9_count_8 (by decide) ?_
      refine zJ_cS3 dX9_count_10 sX9_336 mfX9_within ((c_Mo_within Δ (zsi w 100 0 0) (nI 11) 0 15 (by decide) (by decide)).1 ⟨11, by decide, by decide, rfl⟩) (Nat.le_of_ble_eq_true rfl) (by decide) (by decide) ?_
      refine zJ_iconst (v := 1) dX9_count_13 (by decide) ?_
      refine zJ_cV2 dX9_count_14 sX9_291 mfX9_right (c_Mo_right1 Δ (zsi w 100 0 0) M0 z0 1) (by first | rfl | assumption | exact M0.at (by decide) (by decide)) rfl (Nat.le_of_ble_eq_true rfl) (by decide) (by decide) ?_
      refine zJ_if_ne (tgt := 22) dX9_count_17 (by decide) (fun _ => ?_) (fun h9 => False.elim (by revert h9; decide))
      refine zJ_iload_n dX9_count_22 rfl ?_
      refine zJ_tabN (off := 120) (tgt := 143) dX9_count_23 (by decide) (by decide) rfl (by decide) ?_
      refine zJ_aload_n dX9_count_143 rfl ?_
      refine zJ_geti dX9_count_144 fX9_320 (by first | rfl | assumption | exact M0.at (by decide) (by decide)) rfl ?_
      rw [zsi_ne (by decide)]
      exact zJ_iret dX9_count_147 rfl (by decide) (by decide) (hQ _ _ (Or.inr ⟨11, by decide, rfl, rfl, rfl⟩))
    · refine zJ_aload_n dX9_count_0 rfl ?_
      refine zJ_iconst (v := 0) dX9_count_1 (by decide) ?_
      refine zJ_puti dX9_count_2 fX9_170 (fun q h => by cases h; rfl) (by first | rfl | assumption | exact M0.at (by decide) (by decide)) rfl rfl rfl ?_
      refine zJ_aload_n dX9_count_5 rfl ?_
      refine zJ_iload_n dX9_count_6 rfl ?_
      refine zJ_iconst (v := 0) dX9_count_7 (by decide) ?_
      refine zJ_bipush (v := 15) dX9_count_8 (by decide) ?_
      refine zJ_cS3 dX9_count_10 sX9_336 mfX9_within ((c_Mo_within Δ (zsi w 100 0 0) (nI 12) 0 15 (by decide) (by decide)).1 ⟨12, by decide, by decide, rfl⟩) (Nat.le_of_ble_eq_true rfl) (by decide) (by decide) ?_
      refine zJ_iconst (v := 1) dX9_count_13 (by decide) ?_
      refine zJ_cV2 dX9_count_14 sX9_291 mfX9_right (c_Mo_right1 Δ (zsi w 100 0 0) M0 z0 1) (by first | rfl | assumption | exact M0.at (by decide) (by decide)) rfl (Nat.le_of_ble_eq_true rfl) (by decide) (by decide) ?_
      refine zJ_if_ne (tgt := 22) dX9_count_17 (by decide) (fun _ => ?_) (fun h9 => False.elim (by revert h9; decide))
      refine zJ_iload_n dX9_count_22 rfl ?_
      refine zJ_tabN (off := 125) (tgt := 148) dX9_count_23 (by decide) (by decide) rfl (by decide) ?_
      refine zJ_aload_n dX9_count_148 rfl ?_
      refine zJ_geti dX9_count_149 fX9_323 (by first | rfl | assumption | exact M0.at (by decide) (by decide)) rfl ?_
      rw [zsi_ne (by decide)]
      exact zJ_iret dX9_count_152 rfl (by decide) (by decide) (hQ _ _ (Or.inr ⟨12, by decide, rfl, rfl, rfl⟩))
    · refine zJ_aload_n dX9_count_0 rfl ?_
      refine zJ_iconst (v := 0) dX9_count_1 (by decide) ?_
      refine zJ_puti dX9_count_2 fX9_170 (fun q h => by cases h; rfl) (by first | rfl | assumption | exact M0.at (by decide) (by decide)) rfl rfl rfl ?_
      refine zJ_aload_n dX9_count_5 rfl ?_
      refine zJ_iload_n dX9_count_6 rfl ?_
      refine zJ_iconst (v := 0) dX9_count_7 (by decide) ?_
      refine zJ_bipush (v := 15) dX9_count_8 (by decide) ?_
      refine zJ_cS3 dX9_count_10 sX9_336 mfX9_within ((c_Mo_within Δ (zsi w 100 0 0) (nI 13) 0 15 (by decide) (by decide)).1 ⟨13, by decide, by decide, rfl⟩) (Nat.le_of_ble_eq_true rfl) (by decide) (by decide) ?_
      refine zJ_iconst (v := 1) dX9_count_13 (by decide) ?_
      refine zJ_cV2 dX9_count_14 sX9_291 mfX9_right (c_Mo_right1 Δ (zsi w 100 0 0) M0 z0 1) (by first | rfl | assumption | exact M0.at (by decide) (by decide)) rfl (Nat.le_of_ble_eq_true rfl) (by decide) (by decide) ?_
      refine zJ_if_ne (tgt := 22) dX9_count_17 (by decide) (fun _ => ?_) (fun h9 => False.elim (by revert h9; decide))
      refine zJ_iload_n dX9_count_22 rfl ?_
      refine zJ_tableOut (tgt := 153) dX9_count_23 (Or.inr (by decide)) (by decide) ?_
      refine zJ_aload_n dX9_count_153 rfl ?_
      refine zJ_getr (j := 117) dX9_count_154 fX9_38 (by first | rfl | assumption | exact M0.at (by decide) (by decide)) rfl (by first | rfl | assumption | exact M0.rf (by decide) rfl) ?_
      refine zJ_iload_n dX9_count_157 rfl ?_
      refine zJ_bipush (v := 13) dX9_count_158 (by decide) ?_
      refine zJ_isub dX9_count_160 ?_
      refine zJ_ialdN (i := 0) dX9_count_161 (by first | rfl | assumption | exact M0.at (by decide) (by decide)) rfl (by omega) (by decide) rfl ?_
      rw [zsi_o (by decide)]
      exact zJ_iret dX9_count_162 rfl (by decide) (by decide) (hQ _ _ (Or.inr ⟨13, by decide, rfl, rfl, rfl⟩))
    · refine zJ_aload_n dX9_count_0 rfl ?_
      refine zJ_iconst (v := 0) dX9_count_1 (by decide) ?_
      refine zJ_puti dX9_count_2 fX9_170 (fun q h => by cases h; rfl) (by first | rfl | assumption | exact M0.at (by decide) (by decide)) rfl rfl rfl ?_
      refine zJ_aload_n dX9_count_5 rfl ?_
      refine zJ_iload_n dX9_count_6 rfl ?_
      refine zJ_iconst (v := 0) dX9_count_7 (by decide) ?_
      refine zJ_bipush (v := 15) dX9_count_8 (by decide) ?_
      refine zJ_cS3 dX9_count_10 sX9_336 mfX9_within ((c_Mo_within Δ (zsi w 100 0 0) (nI 14) 0 15 (by decide) (by decide)).1 ⟨14, by decide, by decide, rfl⟩) (Nat.le_of_ble_eq_true rfl) (by decide) (by decide) ?_
      refine zJ_iconst (v := 1) dX9_count_13 (by decide) ?_
      refine zJ_cV2 dX9_count_14 sX9_291 mfX9_right (c_Mo_right1 Δ (zsi w 100 0 0) M0 z0 1) (by first | rfl | assumption | exact M0.at (by decide) (by decide)) rfl (Nat.le_of_ble_eq_true rfl) (by decide) (by decide) ?_
      refine zJ_if_ne (tgt := 22) dX9_count_17 (by decide) (fun _ => ?_) (fun h9 => False.elim (by revert h9; decide))
      refine zJ_iload_n dX9_count_22 rfl ?_
      refine zJ_tableOut (tgt := 153) dX9_count_23 (Or.inr (by decide)) (by decide) ?_
      refine zJ_aload_n dX9_count_153 rfl ?_
      refine zJ_getr (j := 117) dX9_count_154 fX9_38 (by first | rfl | assumption | exact M0.at (by decide) (by decide)) rfl (by first | rfl | assumption | exact M0.rf (by decide) rfl) ?_
      refine zJ_iload_n dX9_count_157 rfl ?_
      refine zJ_bipush (v := 13) dX9_count_158 (by decide) ?_
      refine zJ_isub dX9_count_160 ?_
      refine zJ_ialdN (i := 1) dX9_count_161 (by first | rfl | assumption | exact M0.at (by decide) (by decide)) rfl (by omega) (by decide) rfl ?_
      rw [zsi_o (by decide)]
      exact zJ_iret dX9_count_162 rfl (by decide) (by decide) (hQ _ _ (Or.inr ⟨14, by decide, rfl, rfl, rfl⟩))
    · refine zJ_aload_n dX9_count_0 rfl ?_
      refine zJ_iconst (v := 0) dX9_count_1 (by decide) ?_
      refine zJ_puti dX9_count_2 fX9_170 (fun q h => by cases h; rfl) (by first | rfl | assumption | exact M0.at (by decide) (by decide)) rfl rfl rfl ?_
      refine zJ_aload_n dX9_count_5 rfl ?_
      refine zJ_iload_n dX9_count_6 rfl ?_
      refine zJ_iconst (v := 0) dX9_count_7 (by decide) ?_
      refine zJ_bipush (v := 15) dX9_count_8 (by decide) ?_
      refine zJ_cS3 dX9_count_10 sX9_336 mfX9_within ((c_Mo_within Δ (zsi w 100 0 0) (nI 15) 0 15 (by decide) (by decide)).1 ⟨15, by decide, by decide, rfl⟩) (Nat.le_of_ble_eq_true rfl) (by decide) (by decide) ?_
      refine zJ_iconst (v := 1) dX9_count_13 (by decide) ?_
      refine zJ_cV2 dX9_count_14 sX9_291 mfX9_right (c_Mo_right1 Δ (zsi w 100 0 0) M0 z0 1) (by first | rfl | assumption | exact M0.at (by decide) (by decide)) rfl (Nat.le_of_ble_eq_true rfl) (by decide) (by decide) ?_
      refine zJ_if_ne (tgt := 22) dX9_count_17 (by decide) (fun _ => ?_) (fun h9 => False.elim (by revert h9; decide))
      refine zJ_iload_n dX9_count_22 rfl ?_
      refine zJ_tableOut (tgt := 153) dX9_count_23 (Or.inr (by decide)) (by decide) ?_
      refine zJ_aload_n dX9_count_153 rfl ?_
      refine zJ_getr (j := 117) dX9_count_154 fX9_38 (by first | rfl | assumption | exact M0.at (by decide) (by decide)) rfl (by first | rfl | assumption | exact M0.rf (by decide) rfl) ?_
      refine zJ_iload_n dX9_count_157 rfl ?_
      refine zJ_bipush (v := 13) dX9_count_158 (by decide) ?_
      refine zJ_isub dX9_count_160 ?_
      refine zJ_ialdN (i := 2) dX9_count_161 (by first | rfl | assumption | exact M0.at (by decide) (by decide)) rfl (by omega) (by decide) rfl ?_
      rw [zsi_o (by decide)]
      exact zJ_iret dX9_count_162 rfl (by decide) (by decide) (hQ _ _ (Or.inr ⟨15, by decide, rfl, rfl, rfl⟩))
  · skip
    refine zJ_aload_n dX9_count_0 rfl ?_
    refine zJ_iconst (v := 0) dX9_count_1 (by decide) ?_
    refine zJ_puti dX9_count_2 fX9_170 (fun q h => by cases h; rfl) (by first | rfl | assumption | exact M0.at (by decide) (by decide)) rfl rfl rfl ?_
    refine zJ_aload_n dX9_count_5 rfl ?_
    refine zJ_iload_n dX9_count_6 rfl ?_
    refine zJ_iconst (v := 0) dX9_count_7 (by decide) ?_
    refine zJ_bipush (v := 15) dX9_count_8 (by decide) ?_
    refine zJ_cS3 dX9_count_10 sX9_336 mfX9_within ((c_Mo_within Δ (zsi w 100 0 0) x 0 15 (by decide) (by decide)).2 hx) (Nat.le_of_ble_eq_true rfl) (by decide) (by decide) ?_
    refine zJ_iconst (v := 1) dX9_count_13 (by decide) ?_
    refine zJ_cV2 dX9_count_14 sX9_291 mfX9_right (c_Mo_right0 Δ (zsi w 100 0 0) M0 z0 1 (by decide)) (by first | rfl | assumption | exact M0.at (by decide) (by decide)) rfl (Nat.le_of_ble_eq_true rfl) (by decide) (by decide) ?_
    refine zJ_if_ne (tgt := 22) dX9_count_17 (by decide) (fun h9 => False.elim (by revert h9; decide)) (fun _ => ?_)
    refine zJ_iconst (v := 0) dX9_count_20 (by decide) ?_
    exact zJ_iret dX9_count_21 rfl (by decide) (by decide) (hQ _ _ (Or.inl ⟨fun ⟨a, b, c⟩ => hx ⟨a, Nat.zero_le _, b, c⟩, rfl⟩))
