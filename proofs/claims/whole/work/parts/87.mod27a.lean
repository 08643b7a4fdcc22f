/-! the model: need, number -/
set_option maxRecDepth 100000 in
theorem c_Mo_need (Δ : zD) (w : zW) (tx : Nat → Nat) (n a : Nat) (hR : zRm9 w tx n) (ha : a ≤ n) (hat : w.2.1 100 19 = nI a) (k : Nat) (hk : k ≤ 5) (h15 : w.2.1 100 15 = nI k) (b : Int32) (hb : b = 0 ∨ b = 1) : zMp Δ 2 yX9_need mX9_need [.ref 100, .int b] w (fun r c => r = none ∧ ((¬ k = 0 ∧ c = w) ∨ (k = 0 ∧ b = 1 ∧ zFM [19, 20, 21, 22, 23, 24] w c ∧ zMk c tx (ztk tx n a)) ∨ (k = 0 ∧ b = 0 ∧ c = zsi (zsi w 100 15 (nI 1)) 100 16 (w.2.1 100 21)))) := by
  refine zMp.of mfX9_need (Nat.le_of_ble_eq_true rfl) (fun QR hQ => ?_)
  have hM := hR.1
  by_cases hk0 : k = 0
  · rcases hb with rfl | rfl
    · refine zJ_aload_n dX9_need_0 rfl ?_
      refine zJ_cV0 dX9_need_1 sX9_224 mfX9_isGood (c_Mo_isGood Δ w hM k hk h15) (by first | rfl | assumption | exact hM.at (by decide) (by decide)) rfl (Nat.le_of_ble_eq_true rfl) (by decide) (by decide) ?_
      rw [if_pos hk0]
      refine zJ_if_ne (tgt := 8) dX9_need_4 (by decide) (fun _ => ?_) (fun h9 => False.elim (by revert h9; decide))
      refine zJ_iload_n dX9_need_8 rfl ?_
      refine zJ_if_eq (tgt := 19) dX9_need_9 (by decide) (fun _ => ?_) (fun h9 => False.elim (by revert h9; decide))
      refine zJ_aload_n dX9_need_19 rfl ?_
      refine zJ_iconst (v := 1) dX9_need_20 (by decide) ?_
      refine zJ_cV1 dX9_need_21 sX9_231 mfX9_wrong (c_Mo_wrong Δ w hM 1 k hk h15) (by first | rfl | assumption | exact hM.at (by decide) (by decide)) rfl (Nat.le_of_ble_eq_true rfl) (by decide) (by decide) ?_
      rw [if_pos hk0]
      exact zJ_vret dX9_need_24 rfl (by decide) (by decide) (hQ _ _ ⟨rfl, Or.inr (Or.inr ⟨hk0, rfl, rfl⟩)⟩)
    · refine zJ_aload_n dX9_need_0 rfl ?_
      refine zJ_cV0 dX9_need_1 sX9_224 mfX9_isGood (c_Mo_isGood Δ w hM k hk h15) (by first | rfl | assumption | exact hM.at (by decide) (by decide)) rfl (Nat.le_of_ble_eq_true rfl) (by decide) (by decide) ?_
      rw [if_pos hk0]
      refine zJ_if_ne (tgt := 8) dX9_need_4 (by decide) (fun _ => ?_) (fun h9 => False.elim (by revert h9; decide))
      refine zJ_iload_n dX9_need_8 rfl ?_
      refine zJ_if_eq (tgt := 19) dX9_need_9 (by decide) (fun h9 => False.elim (by revert h9; decide)) (fun _ => ?_)
      refine zJ_aload_n dX9_need_12 rfl ?_
      refine zJ_eV0 dX9_need_13 sX9_228 mfX9_steps (c_Mo_steps Δ w tx n a hR ha hat) (hM.at (by decide) (by decide)) rfl (Nat.le_of_ble_eq_true rfl) (by decide) (by decide) (fun r c hP => ?_)
      obtain ⟨rfl, hfc, hkc⟩ := hP
      refine zJ_goto (tgt := 24) dX9_need_16 (by decide) ?_
      exact zJ_vret dX9_need_24 rfl (by decide) (by decide) (hQ _ _ ⟨rfl, Or.inr (Or.inl ⟨hk0, rfl, hfc, hkc⟩)⟩)
  · refine zJ_aload_n dX9_need_0 rfl ?_
    refine zJ_cV0 dX9_need_1 sX9_224 mfX9_isGood (c_Mo_isGood Δ w hM k hk h15) (by first | rfl | assumption | exact hM.at (by decide) (by decide)) rfl (Nat.le_of_ble_eq_true rfl) (by decide) (by decide) ?_
    rw [if_neg hk0]
    refine zJ_if_ne (tgt := 8) dX9_need_4 (by decide) (fun h9 => False.elim (by revert h9; decide)) (fun _ => ?_)
    exact zJ_vret dX9_need_7 rfl (by decide) (by decide) (hQ _ _ ⟨rfl, Or.inl ⟨hk0, rfl⟩⟩)
set_option maxRecDepth 100000 in
theorem c_Mo_number (Δ : zD) (w : zW) (tx : Nat → Nat) (n : Nat) (hR : zRm9 w tx n) (t : zTkn) (hMk : zMk w tx t) (hle : t.2.1 ≤ t.2.2.1 ∧ t.2.2.1 ≤ n) (hv9 : t.1 ≤ 4 ∧ t.2.2.2 ≤ 9999) (k : Nat) (hk : k ≤ 5) (h15 : w.2.1 100 15 = nI k) (lo hi : Nat) (hlo : lo ≤ 9999) (hhi : hi ≤ 9999) : zMp Δ 2 yX9_number mX9_number [.ref 100, .int (nI lo), .int (nI hi)] w (fun r c => (¬ k = 0 ∧ c = w ∧ r = some (.int 0)) ∨ (k = 0 ∧ match zrN lo hi t with | .inl e => c = zsi (zsi w 100 15 (nI e.1)) 100 16 (nI e.2) ∧ ∃ v, r = some (.int v) | .inr v => zFM [19, 20, 21, 22, 23, 24] w c ∧ zMk c tx (ztk tx n t.2.2.1) ∧ r = some (.int (nI v)))) := by
  refine zMp.of mfX9_number (Nat.le_of_ble_eq_true rfl) (fun QR hQ => ?_)
  have hM := hR.1
  have hn7 := hR.2.2.1
  obtain ⟨f19, f20, f21, f22, f23, f24⟩ := hMk
  by_cases hk0 : k = 0
  · by_cases h2 : t.1 = 2
    · have f23 := f23 h2
      have i2 : nI t.1 = 2 := by rw [h2]; rfl
      by_cases hbad : 4 < t.2.2.1 - t.2.1 ∨ t.2.2.2 < lo ∨ hi < t.2.2.2
      · have hz : zrN lo hi t = .inl (2, t.2.1) := by simp only [zrN]; rw [if_neg (fun h => h h2), if_pos hbad]
        rw [hz] at hQ
        have hwr := c_Mo_wrong Δ w hM 2 k hk h15
        rw [if_pos hk0, f21] at hwr
        have M2 : zMs (zsi (zsi w 100 15 (nI 2)) 100 16 (nI t.2.1)) := hM
        have e15 : (zsi (zsi w 100 15 (nI 2)) 100 16 (nI t.2.1)).2.1 100 15 = nI 2 := by simp [zsi]
        have e23 : (zsi (zsi w 100 15 (nI 2)) 100 16 (nI t.2.1)).2.1 100 23 = nI t.2.2.2 := by simp [zsi, f23]
        have K54 : zJ Δ mX9_number (zRm 2 0 0) true w.1 QR (fun _ _ => False) 0 0 54 [(0, .ref 100), (1, .int (nI lo)), (2, .int (nI hi))] [] (zsi (zsi w 100 15 (nI 2)) 100 16 (nI t.2.1)) := by
          refine zJ_aload_n dX9_number_54 rfl ?_
          refine zJ_getiN dX9_number_55 fX9_197 (by first | rfl | assumption | exact M2.at (by decide) (by decide)) rfl e23 ?_
          refine zJ_istore_n (ls2 := fun x58 => [(3, .int x58), (0, .ref 100), (1, .int (nI lo)), (2, .int (nI hi))]) dX9_number_58 (by decide) (fun _ => rfl) (fun x58 ex58 => ?_)
          obtain rfl : x58 = (nI t.2.2.2) := ex58
          refine zJ_aload_n dX9_number_59 rfl ?_
          refine zJ_cV0 dX9_number_60 sX9_224 mfX9_isGood (c_Mo_isGood Δ _ M2 2 (by decide) e15) (by first | rfl | assumption | exact M2.at (by decide) (by decide)) rfl (Nat.le_of_ble_eq_true rfl) (by decide) (by decide) ?_
          refine zJ_if_eq (tgt := 70) dX9_number_63 (by decide) (fun _ => ?_) (fun h9 => False.elim (by revert h9; decide))
          refine zJ_iload_n dX9_number_70 rfl ?_
          exact zJ_iret dX9_number_71 rfl (by decide) (by decide) (hQ _ _ (Or.inr ⟨hk0, rfl, _, rfl⟩))
        by_cases c1 : 4 < t.2.2.1 - t.2.1
        · refine zJ_aload_n dX9_number_0 rfl ?_
          refine zJ_cV0 dX9_number_1 sX9_224 mfX9_isGood (c_Mo_isGood Δ w hM k hk h15) (by first | rfl | assumption | exact hM.at (by decide) (by decide)) rfl (Nat.le_of_ble_eq_true rfl) (by decide) (by decide) ?_
          rw [if_pos hk0]
          refine zJ_if_ne (tgt := 9) dX9_number_4 (by decide) (fun _ => ?_) (fun h9 => False.elim (by revert h9; decide))
          refine zJ_aload_n dX9_number_9 rfl ?_
          refine zJ_getiN dX9_number_10 fX9_200 (by first | rfl | assumption | exact hM.at (by decide) (by decide)) rfl f20 ?_
          refine zJ_iconst (v := 2) dX9_number_13 (by decide) ?_
          refine zJ_icmp_eq (tgt := 25) dX9_number_14 (by decide) (fun h14 => ?_) (fun h9 => absurd i2 h9)
          refine zJ_aload_n dX9_number_25 rfl ?_
          refine zJ_getiN dX9_number_26 fX9_210 (by first | rfl | assumption | exact hM.at (by decide) (by decide)) rfl f22 ?_
          refine zJ_iconst (v := 4) dX9_number_29 (by decide) ?_
          refine zJ_icmp_gt (tgt := 49) dX9_number_30 (by decide) (fun h30 => ?_) (fun h9 => absurd ((nI_ltI (a := 4) (by decide) (by omega)).mpr c1) h9)
          refine zJ_aload_n dX9_number_49 rfl ?_
          refine zJ_iconst (v := 2) dX9_number_50 (by decide) ?_
          refine zJ_cV1 dX9_number_51 sX9_231 mfX9_wrong hwr (by first | rfl | assumption | exact hM.at (by decide) (by decide)) rfl (Nat.le_of_ble_eq_true rfl) (by decide) (by decide) ?_
          exact K54
        · by_cases c2 : t.2.2.2 < lo
          · refine zJ_aload_n dX9_number_0 rfl ?_
            refine zJ_cV0 dX9_number_1 sX9_224 mfX9_isGood (c_Mo_isGood Δ w hM k hk h15) (by first | rfl | assumption | exact hM.at (by decide) (by decide)) rfl (Nat.le_of_ble_eq_true rfl) (by decide) (by decide) ?_
            rw [if_pos hk0]
            refine zJ_if_ne (tgt := 9) dX9_number_4 (by decide) (fun _ => ?_) (fun h9 => False.elim (by revert h9; decide))
            refine zJ_aload_n dX9_number_9 rfl ?_
            refine zJ_getiN dX9_number_10 fX9_200 (by first | rfl | assumption | exact hM.at (by decide) (by decide)) rfl f20 ?_
            refine zJ_iconst (v := 2) dX9_number_13 (by decide) ?_
            refine zJ_icmp_eq (tgt := 25) dX9_number_14 (by decide) (fun h14 => ?_) (fun h9 => absurd i2 h9)
            refine zJ_aload_n dX9_number_25 rfl ?_
            refine zJ_getiN dX9_number_26 fX9_210 (by first | rfl | assumption | exact hM.at (by decide) (by decide)) rfl f22 ?_
            refine zJ_iconst (v := 4) dX9_number_29 (by decide) ?_
            refine zJ_icmp_gt (tgt := 49) dX9_number_30 (by decide) (fun h9 => absurd h9 (fun h => absurd ((nI_ltI (a := 4) (by decide) (by omega)).mp h) (by omega))) (fun h30 => ?_)
            refine zJ_aload_n dX9_number_33 rfl ?_
            refine zJ_getiN dX9_number_34 fX9_197 (by first | rfl | assumption | exact hM.at (by decide) (by decide)) rfl f23 ?_
            refine zJ_iload_n dX9_number_37 rfl ?_
            refine zJ_icmp_lt (tgt := 49) dX9_number_38 (by decide) (fun h38 => ?_) (fun h9 => absurd ((nI_ltI (by omega) (by omega)).mpr c2) h9)
            refine zJ_aload_n dX9_number_49 rfl ?_
            refine zJ_iconst (v := 2) dX9_number_50 (by decide) ?_
            refine zJ_cV1 dX9_number_51 sX9_231 mfX9_wrong hwr (by first | rfl | assumption | exact hM.at (by decide) (by decide)) rfl (Nat.le_of_ble_eq_true rfl) (by decide) (by decide) ?_
            exact K54
          · refine zJ_aload_n dX9_number_0 rfl ?_
            refine zJ_cV0 dX9_number_1 sX9_224 mfX9_isGood (c_Mo_isGood Δ w hM k hk h15) (by first | rfl | assumption | exact hM.at (by decide) (by decide)) rfl (Nat.le_of_ble_eq_true rfl) (by decide) (by decide) ?_
            rw [if_pos hk0]
            refine zJ_if_ne (tgt := 9) dX9_number_4 (by decide) (fun _ => ?_) (fun h9 => False.elim (by revert h9; decide))
            refine zJ_aload_n dX9_number_9 rfl ?_
            refine zJ_getiN dX9_number_10 fX9_200 (by first | rfl | assumption | exact hM.at (by decide) (by decide)) rfl f20 ?_
            refine zJ_iconst (v := 2) dX9_number_13 (by decide) ?_
            refine zJ_icmp_eq (tgt := 25) dX9_number_14 (by decide) (fun h14 => ?_) (fun h9 => absurd i2 h9)
            refine zJ_aload_n dX9_number_25 rfl ?_
            refine zJ_getiN dX9_number_26 fX9_210 (by first | rfl | assumption | exact hM.at (by decide) (by decide)) rfl f22 ?_
            refine zJ_iconst (v := 4) dX9_number_29 (by decide) ?_
            refine zJ_icmp_gt (tgt := 49) dX9_number_30 (by decide) (fun h9 => absurd h9 (fun h => absurd ((nI_ltI (a := 4) (by decide) (by omega)).mp h) (by omega))) (fun h30 => ?_)
            refine zJ_aload_n dX9_number_33 rfl ?_
            refine zJ_getiN dX9_number_34 fX9_197 (by first | rfl | assumption | exact hM.at (by decide) (by decide)) rfl f23 ?_
            refine zJ_iload_n dX9_number_37 rfl ?_
            refine zJ_icmp_lt (tgt := 49) dX9_number_38 (by decide) (fun h9 => absurd h9 (fun h => absurd ((nI_ltI (by omega) (by omega)).mp h) (by omega))) (fun h38 => ?_)
            refine zJ_aload_n dX9_number_41 rfl ?_
            refine zJ_getiN dX9_number_42 fX9_197 (by first | rfl | assumption | exact hM.at (by decide) (by decide)) rfl f23 ?_
            refine zJ_iload_n dX9_number_45 rfl ?_
            refine zJ_icmp_le (tgt := 54) dX9_number_46 (by decide) (fun h9 => absurd h9 (fun h => absurd ((nI_leI (by omega) (by omega)).mp h) (by omega))) (fun h46 => ?_)
            refine zJ_aload_n dX9_number_49 rfl ?_
            refine zJ_iconst (v := 2) dX9_number_50 (by decide) ?_
            refine zJ_cV1 dX9_number_51 sX9_231 mfX9_wrong hwr (by first | rfl | assumption | exact hM.at (by decide) (by decide)) rfl (Nat.le_of_ble_eq_true rfl) (by decide) (by decide) ?_
            exact K54
      · have hz : zrN lo hi t = .inr t.2.2.2 := by simp only [zrN]; rw [if_neg (fun h => h h2), if_neg hbad]
        rw [hz] at hQ
        refine zJ_aload_n dX9_number_0 rfl ?_
        refine zJ_cV0 dX9_number_1 sX9_224 mfX9_isGood (c_Mo_isGood Δ w hM k hk h15) (by first | rfl | assumption | exact hM.at (by decide) (by decide)) rfl (Nat.le_of_ble_eq_true rfl) (by decide) (by decide) ?_
        rw [if_pos hk0]
        refine zJ_if_ne (tgt := 9) dX9_number_4 (by decide) (fun _ => ?_) (fun h9 => False.elim (by revert h9; decide))
        refine zJ_aload_n dX9_number_9 rfl ?_
        refine zJ_getiN dX9_number_10 fX9_200 (by first | rfl | assumption | exact hM.at (by decide) (by decide)) rfl f20 ?_
        refine zJ_iconst (v := 2) dX9_number_13 (by decide) ?_
        refine zJ_icmp_eq (tgt := 25) dX9_number_14 (by decide) (fun h14 => ?_) (fun h9 => absurd i2 h9)
        refine zJ_aload_n dX9_number_25 rfl ?_
        refine zJ_getiN dX9_number_26 fX9_210 (by first | rfl | assumption | exact hM.at (by decide) (by decide)) rfl f22 ?_
        refine zJ_iconst (v := 4) dX9_number_29 (by decide) ?_
        refine zJ_icmp_gt (tgt := 49) dX9_number_30 (by decide) (fun h9 => absurd h9 (fun h => absurd ((nI_ltI (a := 4) (by decide) (by omega)).mp h) (by omega))) (fun h30 => ?_)
        refine zJ_aload_n dX9_number_33 rfl ?_
        refine zJ_getiN dX9_number_34 fX9_197 (by first | rfl | assumption | exact hM.at (by decide) (by decide)) rfl f23 ?_
        refine zJ_iload_n dX9_number_37 rfl ?_
        refine zJ_icmp_lt (tgt := 49) dX9_number_38 (by decide) (fun h9 => absurd h9 (fun h => absurd ((nI_ltI (by omega) (by omega)).mp h) (by omega))) (fun h38 => ?_)
        refine zJ_aload_n dX9_number_41 rfl ?_
        refine zJ_getiN dX9_number_42 fX9_197 (by first | rfl | assumption | exact hM.at (by decide) (by decide)) rfl f23 ?_
        refine zJ_iload_n dX9_number_45 rfl ?_
        refine zJ_icmp_le (tgt := 54) dX9_number_46 (by decide) (fun h46 => ?_) (fun h9 => absurd ((nI_leI (by omega) (by omega)).mpr (by omega)) h9)
        refine zJ_aload_n dX9_number_54 rfl ?_
        refine zJ_getiN dX9_number_55 fX9_197 (by first | rfl | assumption | exact hM.at (by decide) (by decide)) rfl f23 ?_
        refine zJ_istore_n (ls2 := fun x58 => [(3, .int x58), (0, .ref 100), (1, .int (nI lo)), (2, .int (nI hi))]) dX9_number_58 (by decide) (fun _ => rfl) (fun x58 ex58 => ?_)
        obtain rfl : x58 = (nI t.2.2.2) := ex58
        refine zJ_aload_n dX9_number_59 rfl ?_
        refine zJ_cV0 dX9_number_60 sX9_224 mfX9_isGood (c_Mo_isGood Δ w hM k hk h15) (by first | rfl | assumption | exact hM.at (by decide) (by decide)) rfl (Nat.le_of_ble_eq_true rfl) (by decide) (by decide) ?_
        rw [if_pos hk0]
        refine zJ_if_eq (tgt := 70) dX9_number_63 (by decide) (fun h9 => False.elim (by revert h9; decide)) (fun _ => ?_)
        refine zJ_aload_n dX9_number_66 rfl ?_
        refine zJ_eV0 dX9_number_67 sX9_228 mfX9_steps (c_Mo_steps Δ w tx n t.2.2.1 hR hle.2 f19) (hM.at (by decide) (by decide)) rfl (Nat.le_of_ble_eq_true rfl) (by decide) (by decide) (fun r c hP => ?_)
        obtain ⟨rfl, hfc, hkc⟩ := hP
        refine zJ_iload_n dX9_number_70 rfl ?_
        exact zJ_iret dX9_number_71 rfl (by decide) (by decide) (hQ _ _ (Or.inr ⟨hk0, hfc, hkc, rfl⟩))
    · have i2 : ¬ nI t.1 = 2 := fun h => h2 ((nI_eq (b := 2) (by omega) (by decide)).mp h)
      have hz : zrN lo hi t = .inl (1, t.2.1) := by simp only [zrN]; rw [if_pos h2]
      rw [hz] at hQ
      have hwr := c_Mo_wrong Δ w hM 1 k hk h15
      rw [if_pos hk0, f21] at hwr
      have M2 : zMs (zsi (zsi w 100 15 (nI 1)) 100 16 (nI t.2.1)) := hM
      have e15 : (zsi (zsi w 100 15 (nI 1)) 100 16 (nI t.2.1)).2.1 100 15 = nI 1 := by simp [zsi]
      refine zJ_aload_n dX9_number_0 rfl ?_
      refine zJ_cV0 dX9_number_1 sX9_224 mfX9_isGood (c_Mo_isGood Δ w hM k hk h15) (by first | rfl | assumption | exact hM.at (by decide) (by decide)) rfl (Nat.le_of_ble_eq_true rfl) (by decide) (by decide) ?_
      rw [if_pos hk0]
      refine zJ_if_ne (tgt := 9) dX9_number_4 (by decide) (fun _ => ?_) (fun h9 => False.elim (by revert h9; decide))
      refine zJ_aload_n dX9_number_9 rfl ?_
      refine zJ_getiN dX9_number_10 fX9_200 (by first | rfl | assumption | exact hM.at (by decide) (by decide)) rfl f20 ?_
      refine zJ_iconst (v := 2) dX9_number_13 (by decide) ?_
      refine zJ_icmp_eq (tgt := 25) dX9_number_14 (by decide) (fun h9 => absurd h9 i2) (fun h14 => ?_)
      refine zJ_aload_n dX9_number_17 rfl ?_
      refine zJ_iconst (v := 1) dX9_number_18 (by decide) ?_
      refine zJ_cV1 dX9_number_19 sX9_231 mfX9_wrong hwr (by first | rfl | assumption | exact hM.at (by decide) (by decide)) rfl (Nat.le_of_ble_eq_true rfl) (by decide) (by decide) ?_
      refine zJ_goto (tgt := 54) dX9_number_22 (by decide) ?_
      refine zJ_aload_n dX9_number_54 rfl ?_
      refine zJ_geti dX9_number_55 fX9_197 (by first | rfl | assumption | exact M2.at (by decide) (by decide)) rfl ?_
      refine zJ_istore_n (ls2 := fun x58q => [(3, .int x58q), (0, .ref 100), (1, .int (nI lo)), (2, .int (nI hi))]) dX9_number_58 (by decide) (fun _ => rfl) (fun x58q ex58q => ?_)
      refine zJ_aload_n dX9_number_59 rfl ?_
      refine zJ_cV0 dX9_number_60 sX9_224 mfX9_isGood (c_Mo_isGood Δ _ M2 1 (by decide) e15) (by first | rfl | assumption | exact M2.at (by decide) (by decide)) rfl (Nat.le_of_ble_eq_true rfl) (by decide) (by decide) ?_
      refine zJ_if_eq (tgt := 70) dX9_number_63 (by decide) (fun _ => ?_) (fun h9 => False.elim (by revert h9; decide))
      refine zJ_iload_n dX9_number_70 rfl ?_
      exact zJ_iret dX9_number_71 rfl (by decide) (by decide) (hQ _ _ (Or.inr ⟨hk0, rfl, _, rfl⟩))
  · refine zJ_aload_n dX9_number_0 rfl ?_
    refine zJ_cV0 dX9_number_1 sX9_224 mfX9_isGood (c_Mo_isGood Δ w hM k hk h15) (by first | rfl | assumption | exact hM.at (by decide) (by decide)) rfl (Nat.le_of_ble_eq_true rfl) (by decide) (by decide) ?_
    rw [if_neg hk0]
    refine zJ_if_ne (tgt := 9) dX9_number_4 (by decide) (fun h9 => False.elim (by revert h9; decide)) (fun _ => ?_)
    refine zJ_iconst (v := 0) dX9_number_7 (by decide) ?_
    exact zJ_iret dX9_number_8 rfl (by decide) (by decide) (hQ _ _ (Or.inl ⟨hk0, rfl, rfl⟩))
