set_option maxRecDepth 100000 in
theorem c_week (Δ : zD) (w : zW) (U : zTo) (hB : zB w U) (x y : Int32) (n : Nat) (hn : n ≤ 100) (h3 : w.2.1 53 3 = nI n) (hd : Nat → Nat) (hh : ∀ i, i < n → w.2.1 55 i = nI (hd i) ∧ hd i ≤ 12) : zM Δ 7 10 60 true yX8_week mX8_week [.ref 0, .int x, .int y] w (fun r d => d = w ∧ ∃ q i, q ≤ 2 ∧ y = nI q ∧ i < n ∧ x = nI i ∧ r = some (.int (if q = 0 then w.2.1 54 i else if q = 1 then nI (hd i) else nI (if hd i = 0 then 0 else zpe U (hd i))))) (fun E d => E = zNS ∧ d = w ∧ ¬ ((∃ q, q ≤ 2 ∧ y = nI q) ∧ ∃ i, i < n ∧ x = nI i)) := by
  refine zM.of mfX8_week (Nat.le_of_ble_eq_true rfl) ?_
  have hC := hB.1
  have hU := hB.2.2.1.1
  have hp0 := hB.2.1.2.1 0 (by decide) (by decide)
  have hp8 := hU.1
  have hk0 := hC.1 0 (by decide)
  refine zJ_aload_n dX8_week_0 rfl ?_
  refine zJ_iload_n dX8_week_1 rfl ?_
  refine zJ_iconst (v := 2) dX8_week_2 (by decide) ?_
  refine zJ_xV2 dX8_week_3 sX8_161 pX8_161 mfX8_needWhat (c_needWhat Δ w hC y 2 (by decide)) rfl hk0 rfl (Nat.le_of_ble_eq_true rfl) ⟨Nat.le_of_ble_eq_true rfl, Nat.le_of_ble_eq_true rfl⟩ (by decide) (fun r c9 hP => ?_) (fun E c9 hX => ⟨hX.1, hX.2.1, fun h => hX.2.2 h.1⟩)
  obtain ⟨rfl, hw9, hP⟩ := hP
  obtain rfl := hw9.symm
  obtain ⟨q, hq, rfl⟩ := hP
  refine zJ_iload_n dX8_week_6 rfl ?_
  refine zJ_if_lt (tgt := 21) dX8_week_7 (by decide) (fun h7 => ?_) (fun h7 => ?_)
  · have hno : ¬ ∃ i, i < n ∧ x = nI i := fun ⟨h, h1, h2⟩ => by
      rw [h2] at h7
      exact absurd ((nI_ltI (b := 0) (by omega) (by decide)).mp h7) (by omega)
    exact zJ_throwNW (text := "no such week") (j := 28) dX8_week_21 dX8_week_24 dX8_week_25 dX8_week_28 dX8_week_31 rfl rfl (by decide +kernel) (Nat.le_of_ble_eq_true rfl) (Nat.le_of_ble_eq_true rfl) (by decide) (by decide) ⟨rfl, rfl, fun h => hno h.2⟩
  · refine zJ_iload_n dX8_week_10 rfl ?_
    refine zJ_aload_n dX8_week_11 rfl ?_
    refine zJ_getr dX8_week_12 fX8_79 (by first | rfl | assumption | exact hC.1 _ (by decide)) rfl (by first | rfl | assumption | exact hC.2 _ _ rfl) ?_
    refine zJ_geti dX8_week_15 fX8_358 (by first | rfl | assumption | exact hC.1 _ (by decide)) rfl ?_
    rw [h3]
    refine zJ_icmp_lt (tgt := 32) dX8_week_18 (by decide) (fun h18 => ?_) (fun h18 => ?_)
    · obtain ⟨i, hi31, rfl⟩ := nI_of h7
      have hi : i < n := (nI_ltI (by omega) (by omega)).mp h18
      have ci : (nI i).toNatClampNeg = i := nI_clamp (by omega)
      have hh1 := (hh i hi).2
      refine zJ_iload_n dX8_week_32 rfl ?_
      refine zJ_if_ne (tgt := 46) dX8_week_33 (by decide) (fun h33 => ?_) (fun h33 => ?_)
      · have hq0 : ¬ q = 0 := fun h => h33 (by rw [h]; rfl)
        refine zJ_aload_n dX8_week_46 rfl ?_
        refine zJ_getr dX8_week_47 fX8_79 (by first | rfl | assumption | exact hC.1 _ (by decide)) rfl (by first | rfl | assumption | exact hC.2 _ _ rfl) ?_
        refine zJ_getr dX8_week_50 fX8_368 (by first | rfl | assumption | exact hC.1 _ (by decide)) rfl (by first | rfl | assumption | exact hC.2 _ _ rfl) ?_
        refine zJ_iload_n dX8_week_53 rfl ?_
        refine zJ_iald dX8_week_54 (by first | rfl | assumption | exact hC.1 _ (by decide)) (vp_in_nI (by omega) (by decide)) ?_
        rw [ci, (hh i hi).1]
        refine zJ_istore_n (ls2 := fun x55 => [(3, .int x55), (0, .ref 0), (1, .int (nI i)), (2, .int (nI q))]) dX8_week_55 (by decide) (fun _ => rfl) (fun x55 ex55 => ?_)
        obtain rfl : x55 = (nI (hd i)) := ex55
        refine zJ_iload_n dX8_week_56 rfl ?_
        refine zJ_iconst (v := 1) dX8_week_57 (by decide) ?_
        refine zJ_icmp_eq (tgt := 65) dX8_week_58 (by decide) (fun h58 => ?_) (fun h58 => ?_)
        · have hq1 : q = 1 := (nI_eq (b := 1) (by omega) (by decide)).mp h58
          refine zJ_iload_n dX8_week_65 rfl ?_
          refine zJ_goto (tgt := 77) dX8_week_66 (by decide) ?_
          exact zJ_iret dX8_week_77 rfl (by decide) (by decide) ⟨rfl, q, i, hq, rfl, hi, rfl, by simp [hq0, hq1]⟩
        · have hq1 : ¬ q = 1 := fun h => h58 (by rw [h]; rfl)
          refine zJ_iload_n dX8_week_61 rfl ?_
          refine zJ_if_ne (tgt := 69) dX8_week_62 (by decide) (fun h62 => ?_) (fun h62 => ?_)
          · have hz : ¬ hd i = 0 := fun h => h62 (by rw [h]; rfl)
            refine zJ_aload_n dX8_week_69 rfl ?_
            refine zJ_getr dX8_week_70 fX8_32 (by first | rfl | assumption | exact hC.1 _ (by decide)) rfl (by first | rfl | assumption | exact hC.2 _ _ rfl) ?_
            refine zJ_iload_n dX8_week_73 rfl ?_
            refine zJ_cV1 dX8_week_74 sX8_370 mfX5_pence (c_Town_penceN Δ w 9 (hd i) U hB.2.1 (by omega)) (by first | rfl | assumption | exact hC.1 _ (by decide)) rfl (Nat.le_of_ble_eq_true rfl) (by decide) (by decide) ?_
            exact zJ_iret dX8_week_77 rfl (by decide) (by decide) ⟨rfl, q, i, hq, rfl, hi, rfl, by simp only [hq0, hq1, hz, if_true, if_false]⟩
          · have hz : hd i = 0 := (nI_eq (b := 0) (by omega) (by decide)).mp h62
            rw [hz]
            refine zJ_iload_n dX8_week_65 rfl ?_
            refine zJ_goto (tgt := 77) dX8_week_66 (by decide) ?_
            exact zJ_iret dX8_week_77 rfl (by decide) (by decide) ⟨rfl, q, i, hq, rfl, hi, rfl, by simp only [hq0, hq1, hz, if_true, if_false]⟩
      · refine zJ_aload_n dX8_week_36 rfl ?_
        refine zJ_getr dX8_week_37 fX8_79 (by first | rfl | assumption | exact hC.1 _ (by decide)) rfl (by first | rfl | assumption | exact hC.2 _ _ rfl) ?_
        refine zJ_getr dX8_week_40 fX8_365 (by first | rfl | assumption | exact hC.1 _ (by decide)) rfl (by first | rfl | assumption | exact hC.2 _ _ rfl) ?_
        refine zJ_iload_n dX8_week_43 rfl ?_
        refine zJ_iald dX8_week_44 (by first | rfl | assumption | exact hC.1 _ (by decide)) (vp_in_nI (by omega) (by decide)) ?_
        have hq0 : q = 0 := (nI_eq (b := 0) (by omega) (by decide)).mp h33
        rw [ci]
        exact zJ_iret dX8_week_45 rfl (by decide) (by decide) ⟨rfl, q, i, hq, rfl, hi, rfl, by simp [hq0]⟩
    · have hno : ¬ ∃ i, i < n ∧ x = nI i := fun ⟨h, h1, h2⟩ => by
        rw [h2] at h18
        exact h18 ((nI_ltI (by omega) (by omega)).mpr h1)
      exact zJ_throwNW (text := "no such week") (j := 28) dX8_week_21 dX8_week_24 dX8_week_25 dX8_week_28 dX8_week_31 rfl rfl (by decide +kernel) (Nat.le_of_ble_eq_true rfl) (Nat.le_of_ble_eq_true rfl) (by decide) (by decide) ⟨rfl, rfl, fun h => hno h.2⟩
