/-! the model: personHere -/
set_option maxRecDepth 100000 in
theorem c_Mo_personHere (Δ : zD) (w : zW) (tx : Nat → Nat) (n : Nat) (hR : zRm9 w tx n) (t : zTkn) (hMk : zMk w tx t) (hle : t.2.1 ≤ t.2.2.1 ∧ t.2.2.1 ≤ n) (hv9 : t.1 ≤ 4 ∧ t.2.2.2 ≤ 9999) (k : Nat) (hk : k ≤ 5) (h15 : w.2.1 100 15 = nI k) (pp : Nat) (hpp : pp ≤ 8) (h25 : w.2.1 100 25 = nI pp) : zMp Δ 1 yX9_personHere mX9_personHere [.ref 100] w (fun r c => (¬ k = 0 ∧ c = w ∧ r = some (.int 0)) ∨ (k = 0 ∧ match zrK pp t with | .inl e => c = zsi (zsi w 100 15 (nI e.1)) 100 16 (nI e.2) ∧ r = some (.int 0) | .inr v => c = w ∧ r = some (.int 1) ∧ w.2.1 100 23 = nI v)) := by
  refine zMp.of mfX9_personHere (Nat.le_of_ble_eq_true rfl) (fun QR hQ => ?_)
  have hM := hR.1
  have hn7 := hR.2.2.1
  obtain ⟨f19, f20, f21, f22, f23, f24⟩ := hMk
  by_cases hk0 : k = 0
  · have BAD : ∀ y, 1 ≤ y → y ≤ 5 → zrK pp t = .inl (y, t.2.1) → zJ Δ mX9_personHere (zRm 1 0 0) true w.1 QR (fun _ _ => False) 0 0 57 [(0, .ref 100)] [] (zsi (zsi w 100 15 (nI y)) 100 16 (nI t.2.1)) := by
      intro y hy1 hy5 hz
      rw [hz] at hQ
      have M2 : zMs (zsi (zsi w 100 15 (nI y)) 100 16 (nI t.2.1)) := hM
      have e15 : (zsi (zsi w 100 15 (nI y)) 100 16 (nI t.2.1)).2.1 100 15 = nI y := by simp [zsi]
      have hgd := c_Mo_isGood Δ _ M2 y hy5 e15
      rw [if_neg (by omega)] at hgd
      refine zJ_aload_n dX9_personHere_57 rfl ?_
      refine zJ_cV0 dX9_personHere_58 sX9_224 mfX9_isGood hgd (by first | rfl | assumption | exact M2.at (by decide) (by decide)) rfl (Nat.le_of_ble_eq_true rfl) (by decide) (by decide) ?_
      exact zJ_zret dX9_personHere_61 rfl rfl (by decide) (by decide) (hQ _ _ (Or.inr ⟨hk0, rfl, rfl⟩))
    have hwr : ∀ y, zMd Δ 0 0 0 true yX9_wrong mX9_wrong [.ref 100, .int (nI y)] w none (zsi (zsi w 100 15 (nI y)) 100 16 (nI t.2.1)) := fun y => by
      have h := c_Mo_wrong Δ w hM y k hk h15
      rw [if_pos hk0, f21] at h
      exact h
    by_cases h2 : t.1 = 2
    · have f23 := f23 h2
      have i2 : nI t.1 = 2 := by rw [h2]; rfl
      by_cases c1 : 4 < t.2.2.1 - t.2.1
      · have hz : zrK pp t = .inl (2, t.2.1) := by
          have : zrN 0 9999 t = .inl (2, t.2.1) := by simp only [zrN]; rw [if_neg (fun h => h h2), if_pos (Or.inl c1)]
          simp only [zrK, this]
        refine zJ_aload_n dX9_personHere_0 rfl ?_
        refine zJ_cV0 dX9_personHere_1 sX9_224 mfX9_isGood (c_Mo_isGood Δ w hM k hk h15) (by first | rfl | assumption | exact hM.at (by decide) (by decide)) rfl (Nat.le_of_ble_eq_true rfl) (by decide) (by decide) ?_
        rw [if_pos hk0]
        refine zJ_if_ne (tgt := 9) dX9_personHere_4 (by decide) (fun _ => ?_) (fun h9 => False.elim (by revert h9; decide))
        refine zJ_aload_n dX9_personHere_9 rfl ?_
        refine zJ_getiN dX9_personHere_10 fX9_200 (by first | rfl | assumption | exact hM.at (by decide) (by decide)) rfl f20 ?_
        refine zJ_iconst (v := 2) dX9_personHere_13 (by decide) ?_
        refine zJ_icmp_eq (tgt := 25) dX9_personHere_14 (by decide) (fun h14 => ?_) (fun h9 => absurd i2 h9)
        refine zJ_aload_n dX9_personHere_25 rfl ?_
        refine zJ_getiN dX9_personHere_26 fX9_210 (by first | rfl | assumption | exact hM.at (by decide) (by decide)) rfl f22 ?_
        refine zJ_iconst (v := 4) dX9_personHere_29 (by decide) ?_
        refine zJ_icmp_le (tgt := 41) dX9_personHere_30 (by decide) (fun h9 => absurd h9 (fun h => absurd ((nI_leI (b := 4) (by omega) (by decide)).mp h) (by omega))) (fun h30 => ?_)
        refine zJ_aload_n dX9_personHere_33 rfl ?_
        refine zJ_iconst (v := 2) dX9_personHere_34 (by decide) ?_
        refine zJ_cV1 dX9_personHere_35 sX9_231 mfX9_wrong (hwr 2) (by first | rfl | assumption | exact hM.at (by decide) (by decide)) rfl (Nat.le_of_ble_eq_true rfl) (by decide) (by decide) ?_
        refine zJ_goto (tgt := 57) dX9_personHere_38 (by decide) ?_
        exact BAD 2 (by decide) (by decide) hz
      · have hzn : zrN 0 9999 t = .inr t.2.2.2 := by simp only [zrN]; rw [if_neg (fun h => h h2), if_neg (by omega)]
        by_cases c2 : t.2.2.2 < pp
        · have hz : zrK pp t = .inr t.2.2.2 := by simp only [zrK, hzn]; rw [if_pos c2]
          rw [hz] at hQ
          refine zJ_aload_n dX9_personHere_0 rfl ?_
          refine zJ_cV0 dX9_personHere_1 sX9_224 mfX9_isGood (c_Mo_isGood Δ w hM k hk h15) (by first | rfl | assumption | exact hM.at (by decide) (by decide)) rfl (Nat.le_of_ble_eq_true rfl) (by decide) (by decide) ?_
          rw [if_pos hk0]
          refine zJ_if_ne (tgt := 9) dX9_personHere_4 (by decide) (fun _ => ?_) (fun h9 => False.elim (by revert h9; decide))
          refine zJ_aload_n dX9_personHere_9 rfl ?_
          refine zJ_getiN dX9_personHere_10 fX9_200 (by first | rfl | assumption | exact hM.at (by decide) (by decide)) rfl f20 ?_
          refine zJ_iconst (v := 2) dX9_personHere_13 (by decide) ?_
          refine zJ_icmp_eq (tgt := 25) dX9_personHere_14 (by decide) (fun h14 => ?_) (fun h9 => absurd i2 h9)
          refine zJ_aload_n dX9_personHere_25 rfl ?_
          refine zJ_getiN dX9_personHere_26 fX9_210 (by first | rfl | assumption | exact hM.at (by decide) (by decide)) rfl f22 ?_
          refine zJ_iconst (v := 4) dX9_personHere_29 (by decide) ?_
          refine zJ_icmp_le (tgt := 41) dX9_personHere_30 (by decide) (fun h30 => ?_) (fun h9 => absurd ((nI_leI (b := 4) (by omega) (by decide)).mpr (by omega)) h9)
          refine zJ_aload_n dX9_personHere_41 rfl ?_
          refine zJ_getiN dX9_personHere_42 fX9_197 (by first | rfl | assumption | exact hM.at (by decide) (by decide)) rfl f23 ?_
          refine zJ_aload_n dX9_personHere_45 rfl ?_
          refine zJ_getiN dX9_personHere_46 fX9_241 (by first | rfl | assumption | exact hM.at (by decide) (by decide)) rfl h25 ?_
          refine zJ_icmp_lt (tgt := 57) dX9_personHere_49 (by decide) (fun h49 => ?_) (fun h9 => absurd ((nI_ltI (by omega) (by omega)).mpr c2) h9)
          refine zJ_aload_n dX9_personHere_57 rfl ?_
          refine zJ_cV0 dX9_personHere_58 sX9_224 mfX9_isGood (c_Mo_isGood Δ w hM k hk h15) (by first | rfl | assumption | exact hM.at (by decide) (by decide)) rfl (Nat.le_of_ble_eq_true rfl) (by decide) (by decide) ?_
          rw [if_pos hk0]
          exact zJ_zret dX9_personHere_61 rfl rfl (by decide) (by decide) (hQ _ _ (Or.inr ⟨hk0, rfl, rfl, f23⟩))
        · have hz : zrK pp t = .inl (3, t.2.1) := by simp only [zrK, hzn]; rw [if_neg c2]
          refine zJ_aload_n dX9_personHere_0 rfl ?_
          refine zJ_cV0 dX9_personHere_1 sX9_224 mfX9_isGood (c_Mo_isGood Δ w hM k hk h15) (by first | rfl | assumption | exact hM.at (by decide) (by decide)) rfl (Nat.le_of_ble_eq_true rfl) (by decide) (by decide) ?_
          rw [if_pos hk0]
          refine zJ_if_ne (tgt := 9) dX9_personHere_4 (by decide) (fun _ => ?_) (fun h9 => False.elim (by revert h9; decide))
          refine zJ_aload_n dX9_personHere_9 rfl ?_
          refine zJ_getiN dX9_personHere_10 fX9_200 (by first | rfl | assumption | exact hM.at (by decide) (by decide)) rfl f20 ?_
          refine zJ_iconst (v := 2) dX9_personHere_13 (by decide) ?_
          refine zJ_icmp_eq (tgt := 25) dX9_personHere_14 (by decide) (fun h14 => ?_) (fun h9 => absurd i2 h9)
          refine zJ_aload_n dX9_personHere_25 rfl ?_
          refine zJ_getiN dX9_personHere_26 fX9_210 (by first | rfl | assumption | exact hM.at (by decide) (by decide)) rfl f22 ?_
          refine zJ_iconst (v := 4) dX9_personHere_29 (by decide) ?_
          refine zJ_icmp_le (tgt := 41) dX9_personHere_30 (by decide) (fun h30 => ?_) (fun h9 => absurd ((nI_leI (b := 4) (by omega) (by decide)).mpr (by omega)) h9)
          refine zJ_aload_n dX9_personHere_41 rfl ?_
          refine zJ_getiN dX9_personHere_42 fX9_197 (by first | rfl | assumption | exact hM.at (by decide) (by decide)) rfl f23 ?_
          refine zJ_aload_n dX9_personHere_45 rfl ?_
          refine zJ_getiN dX9_personHere_46 fX9_241 (by first | rfl | assumption | exact hM.at (by decide) (by decide)) rfl h25 ?_
          refine zJ_icmp_lt (tgt := 57) dX9_personHere_49 (by decide) (fun h9 => absurd h9 (fun h => absurd ((nI_ltI (by omega) (by omega)).mp h) (by omega))) (fun h49 => ?_)
          refine zJ_aload_n dX9_personHere_52 rfl ?_
          refine zJ_iconst (v := 3) dX9_personHere_53 (by decide) ?_
          refine zJ_cV1 dX9_personHere_54 sX9_231 mfX9_wrong (hwr 3) (by first | rfl | assumption | exact hM.at (by decide) (by decide)) rfl (Nat.le_of_ble_eq_true rfl) (by decide) (by decide) ?_
          exact BAD 3 (by decide) (by decide) hz
    · have i2 : ¬ nI t.1 = 2 := fun h => h2 ((nI_eq (b := 2) (by omega) (by decide)).mp h)
      have hz : zrK pp t = .inl (1, t.2.1) := by
        have : zrN 0 9999 t = .inl (1, t.2.1) := by simp only [zrN]; rw [if_pos h2]
        simp only [zrK, this]
      refine zJ_aload_n dX9_personHere_0 rfl ?_
      refine zJ_cV0 dX9_personHere_1 sX9_224 mfX9_isGood (c_Mo_isGood Δ w hM k hk h15) (by first | rfl | assumption | exact hM.at (by decide) (by decide)) rfl (Nat.le_of_ble_eq_true rfl) (by decide) (by decide) ?_
      rw [if_pos hk0]
      refine zJ_if_ne (tgt := 9) dX9_personHere_4 (by decide) (fun _ => ?_) (fun h9 => False.elim (by revert h9; decide))
      refine zJ_aload_n dX9_personHere_9 rfl ?_
      refine zJ_getiN dX9_personHere_10 fX9_200 (by first | rfl | assumption | exact hM.at (by decide) (by decide)) rfl f20 ?_
      refine zJ_iconst (v := 2) dX9_personHere_13 (by decide) ?_
      refine zJ_icmp_eq (tgt := 25) dX9_personHere_14 (by decide) (fun h9 => absurd h9 i2) (fun h14 => ?_)
      refine zJ_aload_n dX9_personHere_17 rfl ?_
      refine zJ_iconst (v := 1) dX9_personHere_18 (by decide) ?_
      refine zJ_cV1 dX9_personHere_19 sX9_231 mfX9_wrong (hwr 1) (by first | rfl | assumption | exact hM.at (by decide) (by decide)) rfl (Nat.le_of_ble_eq_true rfl) (by decide) (by decide) ?_
      refine zJ_goto (tgt := 57) dX9_personHere_22 (by decide) ?_
      exact BAD 1 (by decide) (by decide) hz
  · refine zJ_aload_n dX9_personHere_0 rfl ?_
    refine zJ_cV0 dX9_personHere_1 sX9_224 mfX9_isGood (c_Mo_isGood Δ w hM k hk h15) (by first | rfl | assumption | exact hM.at (by decide) (by decide)) rfl (Nat.le_of_ble_eq_true rfl) (by decide) (by decide) ?_
    rw [if_neg hk0]
    refine zJ_if_ne (tgt := 9) dX9_personHere_4 (by decide) (fun h9 => False.elim (by revert h9; decide)) (fun _ => ?_)
    refine zJ_iconst (v := 0) dX9_personHere_7 (by decide) ?_
    exact zJ_zret dX9_personHere_8 rfl rfl (by decide) (by decide) (hQ _ _ (Or.inl ⟨hk0, rfl, rfl⟩))
