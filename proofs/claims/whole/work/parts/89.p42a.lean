/-! contracts once more: room for a large Play only where the call is not refused -/
set_option maxRecDepth 100000 in
theorem d_goes (Δ : zD) (w : zW) (U : zTo) (hB : zB w U) (x : Int32) (mc ms : Nat) (hm : zRo w ((0 < U.1 0 ∧ ∃ q, q ≤ 1 ∧ x = nI q) ∧ ¬ zfit U 640) mc ms) : zM Δ 8 mc ms false yX8_goes mX8_goes [.ref 0, .int x] w (fun r d => zFb w d ∧ zB d U ∧ zLf w d U ∧ zfit U 20000 ∧ 0 < U.1 0 ∧ ∃ q, q ≤ 1 ∧ x = nI q ∧ ∃ K, zall U K ∧ r = some (.long (lN (if q = 0 then zca (zcas U K) (U.1 7) 8 else zla (zcas U K) 12)))) (fun E d => (E = zNS ∧ d = w ∧ ¬ (0 < U.1 0 ∧ ∃ q, q ≤ 1 ∧ x = nI q)) ∨ ((0 < U.1 0 ∧ ∃ q, q ≤ 1 ∧ x = nI q) ∧ zSp w U U E d)) := by
  refine zM.of mfX8_goes (Nat.le_of_ble_eq_true rfl) ?_
  obtain ⟨⟨hm1, hm2⟩, hm3⟩ := hm
  have hC := hB.1
  have hU := hB.2.2.1.1
  have hcU := hB.2.2.1.2.1
  have h13 := hB.2.2.1.2.2
  have hp0 := hB.2.1.2.1 0 (by decide) (by decide)
  have hp8 := hU.1
  have hk0 := hC.1 0 (by decide)
  refine zJ_aload_n dX8_goes_0 rfl ?_
  refine zJ_iload_n dX8_goes_1 rfl ?_
  refine zJ_iconst (v := 1) dX8_goes_2 (by decide) ?_
  refine zJ_xV2 dX8_goes_3 sX8_161 pX8_161 mfX8_needWhat (c_needWhat Δ w hC x 1 (by decide)) rfl hk0 rfl (Nat.le_of_ble_eq_true rfl) ⟨Nat.le_of_ble_eq_true rfl, Nat.le_of_ble_eq_true rfl⟩ ⟨by show _ ≤ mc; omega, by show _ ≤ ms; omega⟩ (fun r c9 hP => ?_) (fun E c9 hX => Or.inl ⟨hX.1, hX.2.1, fun h => hX.2.2 h.2⟩)
  obtain ⟨rfl, hw9, hP⟩ := hP
  obtain rfl := hw9.symm
  obtain ⟨q, hq, rfl⟩ := hP
  refine zJ_aload_n dX8_goes_6 rfl ?_
  refine zJ_xV0 dX8_goes_7 sX8_189 pX8_189 mfX8_needPeople (c_needPeople Δ w hC (U.1 0) hp0 hp8) rfl hk0 rfl (Nat.le_of_ble_eq_true rfl) ⟨Nat.le_of_ble_eq_true rfl, Nat.le_of_ble_eq_true rfl⟩ ⟨by show _ ≤ mc; omega, by show _ ≤ ms; omega⟩ (fun r c9 hP => ?_) (fun E c9 hX => Or.inl ⟨hX.1, hX.2.1, fun h => hX.2.2 h.1⟩)
  obtain ⟨rfl, hw9, hP⟩ := hP
  obtain rfl := hw9.symm
  have hpos := hP
  refine zJ_aload_n dX8_goes_10 rfl ?_
  refine zJ_getr dX8_goes_11 fX8_36 (by first | rfl | assumption | exact hC.1 _ (by decide) | exact hAs.2.2.1.1.1 _ (by decide) | exact (zfin hAs hFa hf hO2 hx hR).2.1.1 _ (by decide)) rfl (by first | rfl | assumption | exact hC.2 _ _ rfl | exact hAs.2.2.1.1.2 _ _ rfl | exact (zfin hAs hFa hf hO2 hx hR).2.1.2 _ _ rfl) ?_
  refine zJ_aload_n dX8_goes_14 rfl ?_
  refine zJ_getr dX8_goes_15 fX8_32 (by first | rfl | assumption | exact hC.1 _ (by decide) | exact hAs.2.2.1.1.1 _ (by decide) | exact (zfin hAs hFa hf hO2 hx hR).2.1.1 _ (by decide)) rfl (by first | rfl | assumption | exact hC.2 _ _ rfl | exact hAs.2.2.1.1.2 _ _ rfl | exact (zfin hAs hFa hf hO2 hx hR).2.1.2 _ _ rfl) ?_
  refine zJ_cV1 dX8_goes_18 sX8_110 mfX5_copy (c_Town_copy Δ w 14 9 (zTn14 hC) hB.2.1.1 (by decide)) (hC.1 14 (by decide)) rfl (Nat.le_of_ble_eq_true rfl) ⟨Nat.le_of_ble_eq_true rfl, Nat.le_of_ble_eq_true rfl⟩ ⟨by show _ ≤ mc; omega, by show _ ≤ ms; omega⟩ ?_
  refine zJ_aload_n dX8_goes_21 rfl ?_
  have hAs := (zAs.copy hB)
  have hk1 : (ztowc w 14 9).1 0 = some (.inl 8) := hAs.2.2.1.1.1 0 (by decide)
  refine zJ_yV0 dX8_goes_22 sX8_178 pX8_178 mfX8_playAsked (c_playAsked Δ (ztowc w 14 9) U U hAs.2.2.1.1 hAs.2.2.1.2.2.2 hAs.2.2.2 hU hcU (zsame.rf U) (mc - 10) (ms - 60) (by omega) (fun h1 h2 => by have := hm3 ⟨⟨hpos, q, hq, rfl⟩, h1⟩ (by rw [← hAs.2.1]; exact h2); omega)) rfl hk1 rfl ⟨rfl, by simp [zokv, zpush], by simp [lv_args, Value.category, zokv, hk1]⟩ (Nat.le_of_ble_eq_true rfl) ⟨Nat.le_of_ble_eq_true rfl, Nat.le_of_ble_eq_true rfl⟩ ⟨by show _ ≤ mc; omega, by show _ ≤ ms; omega⟩ (fun r d hP9 => ?_) (fun E d hX => Or.inr ⟨⟨hpos, q, hq, rfl⟩, hX.sp hAs⟩)
  obtain ⟨hFa, hfit, b, R, m, K, rfl, hO, hx, hR, hl1, hl2⟩ := hP9
  refine zJ_astore_n (ls2 := fun q9 => [(2, .ref q9), (0, .ref 0), (1, .int (nI q))]) dX8_goes_25 (by decide) (fun _ => rfl) (fun q9 eq9 => ?_)
  obtain rfl := eq9.symm
  refine zJ_aload_n dX8_goes_26 rfl ?_
  refine zJ_eV0 dX8_goes_27 sX8_182 mfX1_countCases (o_countCases Δ d b R m U U K hO) hO.1.1.1 rfl (Nat.le_of_ble_eq_true rfl) ⟨Nat.le_of_ble_eq_true rfl, Nat.le_of_ble_eq_true rfl⟩ ⟨by show _ ≤ mc; omega, by show _ ≤ ms; omega⟩ (fun r e hP9 => ?_)
  obtain ⟨rfl, hf, hO2, hcc⟩ := hP9
  refine zJ_iload_n dX8_goes_30 rfl ?_
  refine zJ_if_ne (tgt := 48) dX8_goes_31 (by decide) (fun h31 => ?_) (fun h31 => ?_)
  · refine zJ_aload_n dX8_goes_48 rfl ?_
    refine zJ_cV0 dX8_goes_49 sX8_196 mfX1_lengthOfAll (c_Play_lengthOfAll Δ e b R m hO2.1.1 (zcas U K) hcc) hO2.1.1.1 rfl (Nat.le_of_ble_eq_true rfl) ⟨Nat.le_of_ble_eq_true rfl, Nat.le_of_ble_eq_true rfl⟩ ⟨by show _ ≤ mc; omega, by show _ ≤ ms; omega⟩ ?_
    have hq1 : ¬ q = 0 := fun h => h31 (by rw [h]; rfl)
    obtain ⟨g1, g2⟩ := zfin hAs hFa hf hO2 hx hR
    exact zJ_lret dX8_goes_52 rfl (by show _ ≤ mc; omega) (by show _ ≤ ms; omega) ⟨g1, g2, zlf hAs hl1 hl2 hf, hfit, hpos, q, hq, rfl, K, hO2.1.2.2.2.1, by simp [hq1]⟩
  · refine zJ_aload_n dX8_goes_34 rfl ?_
    refine zJ_aload_n dX8_goes_35 rfl ?_
    refine zJ_getr dX8_goes_36 fX8_32 (by first | rfl | assumption | exact hC.1 _ (by decide) | exact hAs.2.2.1.1.1 _ (by decide) | exact (zfin hAs hFa hf hO2 hx hR).2.1.1 _ (by decide)) rfl (by first | rfl | assumption | exact hC.2 _ _ rfl | exact hAs.2.2.1.1.2 _ _ rfl | exact (zfin hAs hFa hf hO2 hx hR).2.1.2 _ _ rfl) ?_
    refine zJ_geti dX8_goes_39 fX8_126 (by first | rfl | assumption | exact hC.1 _ (by decide) | exact hAs.2.2.1.1.1 _ (by decide) | exact (zfin hAs hFa hf hO2 hx hR).2.1.1 _ (by decide)) rfl ?_
    rw [(zfin hAs hFa hf hO2 hx hR).2.2.1.2.1 7 (by decide) (by decide)]
    refine zJ_cV1 dX8_goes_42 sX8_192 mfX1_casesAt (c_Play_casesAt Δ e b R m hO2.1.1 (zcas U K) hcc (U.1 7) (by have := hU.2.2.2.1; omega)) hO2.1.1.1 rfl (Nat.le_of_ble_eq_true rfl) ⟨Nat.le_of_ble_eq_true rfl, Nat.le_of_ble_eq_true rfl⟩ ⟨by show _ ≤ mc; omega, by show _ ≤ ms; omega⟩ ?_
    refine zJ_goto (tgt := 52) dX8_goes_45 (by decide) ?_
    have hq1 : q = 0 := (nI_eq (b := 0) (by omega) (by decide)).mp h31
    obtain ⟨g1, g2⟩ := zfin hAs hFa hf hO2 hx hR
    exact zJ_lret dX8_goes_52 rfl (by show _ ≤ mc; omega) (by show _ ≤ ms; omega) ⟨g1, g2, zlf hAs hl1 hl2 hf, hfit, hpos, q, hq, rfl, K, hO2.1.2.2.2.1, by simp [hq1]⟩
set_option maxRecDepth 100000 in
theorem d_opened (Δ : zD) (w : zW) (U : zTo) (hB : zB w U) (x y : Int32) (mc ms : Nat) (hm : zRo w (((∃ p, p < U.1 0 ∧ x = nI p) ∧ ∃ h, (1 ≤ h ∧ h ≤ U.1 7) ∧ y = nI h) ∧ ¬ zfit U 640) mc ms) : zM Δ 8 mc ms false yX8_opened mX8_opened [.ref 0, .int x, .int y] w (fun r d => zFb w d ∧ zB d U ∧ zLf w d U ∧ zfit U 20000 ∧ ∃ p h, p < U.1 0 ∧ x = nI p ∧ (1 ≤ h ∧ h ≤ U.1 7) ∧ y = nI h ∧ ∃ K, zall U K ∧ r = some (.int (lN (zcas U K (p * 12 + (h - 1)))).toInt32)) (fun E d => (E = zNS ∧ d = w ∧ ¬ ((∃ p, p < U.1 0 ∧ x = nI p) ∧ ∃ h, (1 ≤ h ∧ h ≤ U.1 7) ∧ y = nI h)) ∨ (((∃ p, p < U.1 0 ∧ x = nI p) ∧ ∃ h, (1 ≤ h ∧ h ≤ U.1 7) ∧ y = nI h) ∧ zSp w U U E d)) := by
  refine zM.of mfX8_opened (Nat.le_of_ble_eq_true rfl) ?_
  obtain ⟨⟨hm1, hm2⟩, hm3⟩ := hm
  have hC := hB.1
  have hU := hB.2.2.1.1
  have hcU := hB.2.2.1.2.1
  have h13 := hB.2.2.1.2.2
  have hp0 := hB.2.1.2.1 0 (by decide) (by decide)
  have hp8 := hU.1
  have hk0 := hC.1 0 (by decide)
  refine zJ_aload_n dX8_opened_0 rfl ?_
  refine zJ_iload_n dX8_opened_1 rfl ?_
  refine zJ_xV1 dX8_opened_2 sX8_158 pX8_158 mfX8_needPerson (c_needPerson Δ w hC x (U.1 0) hp0 hp8) rfl hk0 rfl (Nat.le_of_ble_eq_true rfl) ⟨Nat.le_of_ble_eq_true rfl, Nat.le_of_ble_eq_true rfl⟩ ⟨by show _ ≤ mc; omega, by show _ ≤ ms; omega⟩ (fun r c9 hP => ?_) (fun E c9 hX => Or.inl ⟨hX.1, hX.2.1, fun h => hX.2.2 h.1⟩)
  obtain ⟨rfl, hw9, hP⟩ := hP
  obtain rfl := hw9.symm
  obtain ⟨p, hp, rfl⟩ := hP
  have hU7 := hU.2.2.2.1
  refine zJ_iload_n dX8_opened_5 rfl ?_
  refine zJ_iconst (v := 1) dX8_opened_6 (by decide) ?_
  refine zJ_icmp_lt (tgt := 21) dX8_opened_7 (by decide) (fun h7 => ?_) (fun h7 => ?_)
  · have hno : ¬ ∃ h, (1 ≤ h ∧ h ≤ U.1 7) ∧ y = nI h := fun ⟨h, h1, h2⟩ => by
      rw [h2] at h7
      exact absurd ((nI_ltI (b := 1) (by omega) (by decide)).mp h7) (by omega)
    exact zJ_throwN (text := "no such hand") (j := 19) dX8_opened_21 dX8_opened_24 dX8_opened_25 dX8_opened_27 dX8_opened_30 rfl rfl (by decide +kernel) (Nat.le_of_ble_eq_true rfl) (Nat.le_of_ble_eq_true rfl) (by show _ ≤ mc; omega) (by show _ ≤ ms; omega) (Or.inl ⟨rfl, rfl, fun h => hno h.2⟩)
  · refine zJ_iload_n dX8_opened_10 rfl ?_
    refine zJ_aload_n dX8_opened_11 rfl ?_
    refine zJ_getr dX8_opened_12 fX8_32 (by first | rfl | assumption | exact hC.1 _ (by decide) | exact hAs.2.2.1.1.1 _ (by decide) | exact (zfin hAs hFa hf hO2 hx hR).2.1.1 _ (by decide)) rfl (by first | rfl | assumption | exact hC.2 _ _ rfl | exact hAs.2.2.1.1.2 _ _ rfl | exact (zfin hAs hFa hf hO2 hx hR).2.1.2 _ _ rfl) ?_
    refine zJ_geti dX8_opened_15 fX8_126 (by first | rfl | assumption | exact hC.1 _ (by decide) | exact hAs.2.2.1.1.1 _ (by decide) | exact (zfin hAs hFa hf hO2 hx hR).2.1.1 _ (by decide)) rfl ?_
    rw [hB.2.1.2.1 7 (by decide) (by decide)]
    refine zJ_icmp_le (tgt := 31) dX8_opened_18 (by decide) (fun h18 => ?_) (fun h18 => ?_)
    · have h1y : ¬ y < 0 := fun h => h7 (Int32.lt_trans h (by decide))
      obtain ⟨h, hh31, rfl⟩ := nI_of h1y
      have hh : 1 ≤ h ∧ h ≤ U.1 7 := ⟨(nI_leI (a := 1) (by decide) (by omega)).mp (Int32.not_lt.mp h7), (nI_leI (by omega) (by omega)).mp h18⟩
      refine zJ_aload_n dX8_opened_31 rfl ?_
      refine zJ_getr dX8_opened_32 fX8_36 (by first | rfl | assumption | exact hC.1 _ (by decide) | exact hAs.2.2.1.1.1 _ (by decide) | exact (zfin hAs hFa hf hO2 hx hR).2.1.1 _ (by decide)) rfl (by first | rfl | assumption | exact hC.2 _ _ rfl | exact hAs.2.2.1.1.2 _ _ rfl | exact (zfin hAs hFa hf hO2 hx hR).2.1.2 _ _ rfl) ?_
      refine zJ_aload_n dX8_opened_35 rfl ?_
      refine zJ_getr dX8_opened_36 fX8_32 (by first | rfl | assumption | exact hC.1 _ (by decide) | exact hAs.2.2.1.1.1 _ (by decide) | exact (zfin hAs hFa hf hO2 hx hR).2.1.1 _ (by decide)) rfl (by first | rfl | assumption | exact hC.2 _ _ rfl | exact hAs.2.2.1.1.2 _ _ rfl | exact (zfin hAs hFa hf hO2 hx hR).2.1.2 _ _ rfl) ?_
      refine zJ_cV1 dX8_opened_39 sX8_110 mfX5_copy (c_Town_copy Δ w 14 9 (zTn14 hC) hB.2.1.1 (by decide)) (hC.1 14 (by decide)) rfl (Nat.le_of_ble_eq_true rfl) ⟨Nat.le_of_ble_eq_true rfl, Nat.le_of_ble_eq_true rfl⟩ ⟨by show _ ≤ mc; omega, by show _ ≤ ms; omega⟩ ?_
      refine zJ_aload_n dX8_opened_42 rfl ?_
      have hAs := (zAs.copy hB)
      have hk1 : (ztowc w 14 9).1 0 = some (.inl 8) := hAs.2.2.1.1.1 0 (by decide)
      refine zJ_yV0 dX8_opened_43 sX8_178 pX8_178 mfX8_playAsked (c_playAsked Δ (ztowc w 14 9) U U hAs.2.2.1.1 hAs.2.2.1.2.2.2 hAs.2.2.2 hU hcU (zsame.rf U) (mc - 10) (ms - 60) (by omega) (fun h1 h2 => by have := hm3 ⟨⟨⟨p, hp, rfl⟩, h, hh, rfl⟩, h1⟩ (by rw [← hAs.2.1]; exact h2); omega)) rfl hk1 rfl ⟨rfl, by simp [zokv, zpush], by simp [lv_args, Value.category, zokv, hk1]⟩ (Nat.le_of_ble_eq_true rfl) ⟨Nat.le_of_ble_eq_true rfl, Nat.le_of_ble_eq_true rfl⟩ ⟨by show _ ≤ mc; omega, by show _ ≤ ms; omega⟩ (fun r d hP9 => ?_) (fun E d hX => Or.inr ⟨⟨⟨p, hp, rfl⟩, h, hh, rfl⟩, hX.sp hAs⟩)
      obtain ⟨hFa, hfit, b, R, m, K, rfl, hO, hx, hR, hl1, hl2⟩ := hP9
      refine zJ_astore_n (ls2 := fun q9 => [(3, .ref q9), (0, .ref 0), (1, .int (nI p)), (2, .int (nI h))]) dX8_opened_46 (by decide) (fun _ => rfl) (fun q9 eq9 => ?_)
      obtain rfl := eq9.symm
      refine zJ_aload_n dX8_opened_47 rfl ?_
      refine zJ_eV0 dX8_opened_48 sX8_182 mfX1_countCases (o_countCases Δ d b R m U U K hO) hO.1.1.1 rfl (Nat.le_of_ble_eq_true rfl) ⟨Nat.le_of_ble_eq_true rfl, Nat.le_of_ble_eq_true rfl⟩ ⟨by show _ ≤ mc; omega, by show _ ≤ ms; omega⟩ (fun r e hP9 => ?_)
      obtain ⟨rfl, hf, hO2, hcc⟩ := hP9
      refine zJ_aload_n dX8_opened_51 rfl ?_
      refine zJ_iload_n dX8_opened_52 rfl ?_
      refine zJ_iload_n dX8_opened_53 rfl ?_
      refine zJ_cV2 dX8_opened_54 sX8_185 mfX1_casesOf (c_Play_casesOf Δ e b R m hO2.1.1 (zcas U K) hcc p h (by omega) (by omega)) hO2.1.1.1 rfl (Nat.le_of_ble_eq_true rfl) ⟨Nat.le_of_ble_eq_true rfl, Nat.le_of_ble_eq_true rfl⟩ ⟨by show _ ≤ mc; omega, by show _ ≤ ms; omega⟩ ?_
      refine zJ_l2i dX8_opened_57 ?_
      exact zJ_iret dX8_opened_58 rfl (by show _ ≤ mc; omega) (by show _ ≤ ms; omega) (by obtain ⟨g1, g2⟩ := zfin hAs hFa hf hO2 hx hR; exact ⟨g1, g2, zlf hAs hl1 hl2 hf, hfit, p, h, hp, rfl, hh, rfl, K, hO2.1.2.2.2.1, rfl⟩)
    · have hno : ¬ ∃ h, (1 ≤ h ∧ h ≤ U.1 7) ∧ y = nI h := fun ⟨h, h1, h2⟩ => by
        rw [h2] at h18
        exact h18 ((nI_leI (by omega) (by omega)).mpr h1.2)
      exact zJ_throwN (text := "no such hand") (j := 19) dX8_opened_21 dX8_opened_24 dX8_opened_25 dX8_opened_27 dX8_opened_30 rfl rfl (by decide +kernel) (Nat.le_of_ble_eq_true rfl) (Nat.le_of_ble_eq_true rfl) (by show _ ≤ mc; omega) (by show _ ≤ ms; omega) (Or.inl ⟨rfl, rfl, fun h => hno h.2⟩)
set_option maxRecDepth 100000 in
theorem d_gets (Δ : zD) (w : zW) (U : zTo) (hB : zB w U) (x : Int32) (mc ms : Nat) (hm : zRo w ((∃ p, p < U.1 0 ∧ x = nI p) ∧ ¬ zfit U 640) mc ms) : zM Δ 8 mc ms false yX8_gets mX8_gets [.ref 0, .int x] w (fun r d => zFb w d ∧ zB d U ∧ zLf w d U ∧ zfit U 20000 ∧ ∃ p, p < U.1 0 ∧ x = nI p ∧ r = some (.long (lZ ((zvl U (zfk U)).2.1 p)))) (fun E d => (E = zNS ∧ d = w ∧ ¬ (∃ p, p < U.1 0 ∧ x = nI p)) ∨ ((∃ p, p < U.1 0 ∧ x = nI p) ∧ zSp w U U E d)) := by
  refine zM.of mfX8_gets (Nat.le_of_ble_eq_true rfl) ?_
  obtain ⟨⟨hm1, hm2⟩, hm3⟩ := hm
  have hC := hB.1
  have hU := hB.2.2.1.1
  have hcU := hB.2.2.1.2.1
  have h13 := hB.2.2.1.2.2
  have hp0 := hB.2.1.2.1 0 (by decide) (by decide)
  have hp8 := hU.1
  have hk0 := hC.1 0 (by decide)
  refine zJ_aload_n dX8_gets_0 rfl ?_
  refine zJ_iload_n dX8_gets_1 rfl ?_
  refine zJ_xV1 dX8_gets_2 sX8_158 pX8_158 mfX8_needPerson (c_needPerson Δ w hC x (U.1 0) hp0 hp8) rfl hk0 rfl (Nat.le_of_ble_eq_true rfl) ⟨Nat.le_of_ble_eq_true rfl, Nat.le_of_ble_eq_true rfl⟩ ⟨by show _ ≤ mc; omega, by show _ ≤ ms; omega⟩ (fun r c9 hP => ?_) (fun E c9 hX => Or.inl ⟨hX.1, hX.2.1, hX.2.2⟩)
  obtain ⟨rfl, hw9, hP⟩ := hP
  obtain rfl := hw9.symm
  obtain ⟨p, hp, rfl⟩ := hP
  refine zJ_aload_n dX8_gets_5 rfl ?_
  refine zJ_getr dX8_gets_6 fX8_36 (by first | rfl | assumption | exact hC.1 _ (by decide) | exact hAs.2.2.1.1.1 _ (by decide) | exact (zfin hAs hFa hf hO2 hx hR).2.1.1 _ (by decide)) rfl (by first | rfl | assumption | exact hC.2 _ _ rfl | exact hAs.2.2.1.1.2 _ _ rfl | exact (zfin hAs hFa hf hO2 hx hR).2.1.2 _ _ rfl) ?_
  refine zJ_aload_n dX8_gets_9 rfl ?_
  refine zJ_getr dX8_gets_10 fX8_32 (by first | rfl | assumption | exact hC.1 _ (by decide) | exact hAs.2.2.1.1.1 _ (by decide) | exact (zfin hAs hFa hf hO2 hx hR).2.1.1 _ (by decide)) rfl (by first | rfl | assumption | exact hC.2 _ _ rfl | exact hAs.2.2.1.1.2 _ _ rfl | exact (zfin hAs hFa hf hO2 hx hR).2.1.2 _ _ rfl) ?_
  refine zJ_cV1 dX8_gets_13 sX8_110 mfX5_copy (c_Town_copy Δ w 14 9 (zTn14 hC) hB.2.1.1 (by decide)) (hC.1 14 (by decide)) rfl (Nat.le_of_ble_eq_true rfl) ⟨Nat.le_of_ble_eq_true rfl, Nat.le_of_ble_eq_true rfl⟩ ⟨by show _ ≤ mc; omega, by show _ ≤ ms; omega⟩ ?_
  refine zJ_aload_n dX8_gets_16 rfl ?_
  have hAs := (zAs.copy hB)
  have hk1 : (ztowc w 14 9).1 0 = some (.inl 8) := hAs.2.2.1.1.1 0 (by decide)
  refine zJ_yV0 dX8_gets_17 sX8_178 pX8_178 mfX8_playAsked (c_playAsked Δ (ztowc w 14 9) U U hAs.2.2.1.1 hAs.2.2.1.2.2.2 hAs.2.2.2 hU hcU (zsame.rf U) (mc - 10) (ms - 60) (by omega) (fun h1 h2 => by have := hm3 ⟨⟨p, hp, rfl⟩, h1⟩ (by rw [← hAs.2.1]; exact h2); omega)) rfl hk1 rfl ⟨rfl, by simp [zokv, zpush], by simp [lv_args, Value.category, zokv, hk1]⟩ (Nat.le_of_ble_eq_true rfl) ⟨Nat.le_of_ble_eq_true rfl, Nat.le_of_ble_eq_true rfl⟩ ⟨by show _ ≤ mc; omega, by show _ ≤ ms; omega⟩ (fun r d hP9 => ?_) (fun E d hX => Or.inr ⟨⟨p, hp, rfl⟩, hX.sp hAs⟩)
  obtain ⟨hFa, hfit, b, R, m, K, rfl, hO, hx, hR, hl1, hl2⟩ := hP9
  refine zJ_astore_n (ls2 := fun q9 => [(2, .ref q9), (0, .ref 0), (1, .int (nI p))]) dX8_gets_20 (by decide) (fun _ => rfl) (fun q9 eq9 => ?_)
  obtain rfl := eq9.symm
  refine zJ_aload_n dX8_gets_21 rfl ?_
  refine zJ_sipush (v := 255) dX8_gets_22 (by decide) ?_
  refine zJ_st (st2 := [.int (nI 255), .ref b]) rfl ?_
  refine zJ_eV1 dX8_gets_25 sX8_200 mfX1_reckon (o_reckon Δ d b R m U U K hO 255 (by decide)) hO.1.1.1 rfl (Nat.le_of_ble_eq_true rfl) ⟨Nat.le_of_ble_eq_true rfl, Nat.le_of_ble_eq_true rfl⟩ ⟨by show _ ≤ mc; omega, by show _ ≤ ms; omega⟩ (fun r e hP9 => ?_)
  obtain ⟨rfl, hf, hO2, hcs, W, hW3, hWP, hup⟩ := hP9
  have hPS := hO2.1.1
  obtain ⟨p0, q0, q1, q2, q3, q4, q5, q6, q7, q8, q9, s11, s12, s13, s14, s15, s16, s17, s18, hSw⟩ := hPS
  have hRb : 1 ≤ R := by rcases hR with ⟨-, rfl, -⟩ | ⟨-, rfl, -⟩ <;> decide
  have hRb2 : R ≤ 20000 := by rcases hR with ⟨-, rfl, -⟩ | ⟨-, rfl, -⟩ <;> decide
  have hWp := hWP p hp (tb255 (by omega))
  have hg := (hup 0 (zfk U) (Nat.le_refl _) (zall_0 hO2.1.2.2.2.1)).2.1 p (by omega) hWp
  rw [Nat.zero_mul, Nat.zero_add] at hg
  refine zJ_aload_n dX8_gets_28 rfl ?_
  refine zJ_getr dX8_gets_29 fX8_203 (by first | rfl | assumption | exact hC.1 _ (by decide) | exact hAs.2.2.1.1.1 _ (by decide) | exact (zfin hAs hFa hf hO2 hx hR).2.1.1 _ (by decide)) rfl (by first | rfl | assumption | exact hC.2 _ _ rfl | exact hAs.2.2.1.1.2 _ _ rfl | exact (zfin hAs hFa hf hO2 hx hR).2.1.2 _ _ rfl) ?_
  refine zJ_iload_n dX8_gets_32 rfl ?_
  refine zJ_lald dX8_gets_33 (by first | rfl | assumption | exact hC.1 _ (by decide) | exact hAs.2.2.1.1.1 _ (by decide) | exact (zfin hAs hFa hf hO2 hx hR).2.1.1 _ (by decide)) (vp_in_nI (by omega) (by omega)) ?_
  rw [nI_clamp (show p < 2 ^ 31 by omega), hg]
  exact zJ_lret dX8_gets_34 rfl (by show _ ≤ mc; omega) (by show _ ≤ ms; omega) (by obtain ⟨g1, g2⟩ := zfin hAs hFa hf hO2 hx hR; exact ⟨g1, g2, zlf hAs hl1 hl2 hf, hfit, p, hp, rfl, rfl⟩)
set_option maxRecDepth 100000 in
theorem d_feeling (Δ : zD) (w : zW) (U : zTo) (hB : zB w U) (x : Int32) (mc ms : Nat) (hm : zRo w (0 < U.1 0 ∧ ∃ q, (1 ≤ q ∧ q ≤ 99) ∧ x = nI q ∧ ¬ zfit (zTs U 11 q) 640) mc ms) : zM Δ 8 mc ms false yX8_feeling mX8_feeling [.ref 0, .int x] w (fun r d => zFb w d ∧ zB d U ∧ 0 < U.1 0 ∧ ∃ q, (1 ≤ q ∧ q ≤ 99) ∧ x = nI q ∧ zfit (zTs U 11 q) 20000 ∧ zLf w d (zTs U 11 q) ∧ ∃ K, zall (zTs U 11 q) K ∧ r = some (.long (lN (zla (zcas (zTs U 11 q) K) 12)))) (fun E d => (E = zNS ∧ d = w ∧ ¬ 0 < U.1 0) ∨ (0 < U.1 0 ∧ E = "java/lang/IllegalArgumentException" ∧ d = w ∧ ¬ ∃ q, (1 ≤ q ∧ q ≤ 99) ∧ x = nI q) ∨ (0 < U.1 0 ∧ ∃ q, (1 ≤ q ∧ q ≤ 99) ∧ x = nI q ∧ zSp w U (zTs U 11 q) E d)) := by
  refine zM.of mfX8_feeling (Nat.le_of_ble_eq_true rfl) ?_
  obtain ⟨⟨hm1, hm2⟩, hm3⟩ := hm
  have hC := hB.1
  have hU := hB.2.2.1.1
  have hcU := hB.2.2.1.2.1
  have h13 := hB.2.2.1.2.2
  have hp0 := hB.2.1.2.1 0 (by decide) (by decide)
  have hp8 := hU.1
  have hk0 := hC.1 0 (by decide)
  refine zJ_aload_n dX8_feeling_0 rfl ?_
  refine zJ_xV0 dX8_feeling_1 sX8_189 pX8_189 mfX8_needPeople (c_needPeople Δ w hC (U.1 0) hp0 hp8) rfl hk0 rfl (Nat.le_of_ble_eq_true rfl) ⟨Nat.le_of_ble_eq_true rfl, Nat.le_of_ble_eq_true rfl⟩ ⟨by show _ ≤ mc; omega, by show _ ≤ ms; omega⟩ (fun r c9 hP => ?_) (fun E c9 hX => Or.inl ⟨hX.1, hX.2.1, hX.2.2⟩)
  obtain ⟨rfl, hw9, hP⟩ := hP
  obtain rfl := hw9.symm
  have hpos := hP
  refine zJ_iload_n dX8_feeling_4 rfl ?_
  refine zJ_iconst (v := 1) dX8_feeling_5 (by decide) ?_
  refine zJ_icmp_lt (tgt := 15) dX8_feeling_6 (by decide) (fun h6 => ?_) (fun h6 => ?_)
  · have hno : ¬ ∃ q, (1 ≤ q ∧ q ≤ 99) ∧ x = nI q := fun ⟨h, h1, h2⟩ => by
      rw [h2] at h6
      exact absurd ((nI_ltI (b := 1) (by omega) (by decide)).mp h6) (by omega)
    exact zJ_throwIW (text := "no such WAX") (j := 23) dX8_feeling_15 dX8_feeling_18 dX8_feeling_19 dX8_feeling_22 dX8_feeling_25 rfl rfl (by decide +kernel) (Nat.le_of_ble_eq_true rfl) (Nat.le_of_ble_eq_true rfl) (by show _ ≤ mc; omega) (by show _ ≤ ms; omega) (Or.inr (Or.inl ⟨hpos, rfl, rfl, hno⟩))
  · refine zJ_iload_n dX8_feeling_9 rfl ?_
    refine zJ_bipush (v := 99) dX8_feeling_10 (by decide) ?_
    refine zJ_icmp_le (tgt := 26) dX8_feeling_12 (by decide) (fun h12 => ?_) (fun h12 => ?_)
    · have h1y : ¬ x < 0 := fun h => h6 (Int32.lt_trans h (by decide))
      obtain ⟨q, hq31, rfl⟩ := nI_of h1y
      have hq : 1 ≤ q ∧ q ≤ 99 := ⟨(nI_leI (a := 1) (by decide) (by omega)).mp (Int32.not_lt.mp h6), (nI_leI (b := 99) (by omega) (by decide)).mp h12⟩
      refine zJ_aload_n dX8_feeling_26 rfl ?_
      refine zJ_getr dX8_feeling_27 fX8_36 (by first | rfl | assumption | exact hC.1 _ (by decide) | exact hAs.2.2.1.1.1 _ (by decide) | exact (zfin hAs hFa hf hO2 hx hR).2.1.1 _ (by decide)) rfl (by first | rfl | assumption | exact hC.2 _ _ rfl | exact hAs.2.2.1.1.2 _ _ rfl | exact (zfin hAs hFa hf hO2 hx hR).2.1.2 _ _ rfl) ?_
      refine zJ_aload_n dX8_feeling_30 rfl ?_
      refine zJ_getr dX8_feeling_31 fX8_32 (by first | rfl | assumption | exact hC.1 _ (by decide) | exact hAs.2.2.1.1.1 _ (by decide) | exact (zfin hAs hFa hf hO2 hx hR).2.1.1 _ (by decide)) rfl (by first | rfl | assumption | exact hC.2 _ _ rfl | exact hAs.2.2.1.1.2 _ _ rfl | exact (zfin hAs hFa hf hO2 hx hR).2.1.2 _ _ rfl) ?_
      refine zJ_cV1 dX8_feeling_34 sX8_110 mfX5_copy (c_Town_copy Δ w 14 9 (zTn14 hC) hB.2.1.1 (by decide)) (hC.1 14 (by decide)) rfl (Nat.le_of_ble_eq_true rfl) ⟨Nat.le_of_ble_eq_true rfl, Nat.le_of_ble_eq_true rfl⟩ ⟨by show _ ≤ mc; omega, by show _ ≤ ms; omega⟩ ?_
      refine zJ_aload_n dX8_feeling_37 rfl ?_
      refine zJ_getr dX8_feeling_38 fX8_36 (by first | rfl | assumption | exact hC.1 _ (by decide) | exact hAs.2.2.1.1.1 _ (by decide) | exact (zfin hAs hFa hf hO2 hx hR).2.1.1 _ (by decide)) rfl (by first | rfl | assumption | exact hC.2 _ _ rfl | exact hAs.2.2.1.1.2 _ _ rfl | exact (zfin hAs hFa hf hO2 hx hR).2.1.2 _ _ rfl) ?_
      refine zJ_iload_n dX8_feeling_41 rfl ?_
      refine zJ_puti dX8_feeling_42 fX8_138 (fun q h => by cases h; rfl) (by first | rfl | assumption | exact hC.1 _ (by decide) | exact hAs.2.2.1.1.1 _ (by decide) | exact (zfin hAs hFa hf hO2 hx hR).2.1.1 _ (by decide)) rfl rfl rfl ?_
      refine zJ_aload_n dX8_feeling_45 rfl ?_
      have hAs := ((zAs.copy hB).set (k := 11) (v := q) (by decide) (by decide))
      have hk1 : (zsi (ztowc w 14 9) 14 11 (nI q)).1 0 = some (.inl 8) := hAs.2.2.1.1.1 0 (by decide)
      refine zJ_yV0 dX8_feeling_46 sX8_178 pX8_178 mfX8_playAsked (c_playAsked Δ (zsi (ztowc w 14 9) 14 11 (nI q)) U (zTs U 11 q) hAs.2.2.1.1 hAs.2.2.1.2.2.2 hAs.2.2.2 (hU.s (by omega)) (hcU.s (by decide)) ((zsame.rf U).s (by decide)) (mc - 10) (ms - 60) (by omega) (fun h1 h2 => by have := hm3 ⟨hpos, q, hq, rfl, h1⟩ (by rw [← hAs.2.1]; exact h2); omega)) rfl hk1 rfl ⟨rfl, by simp [zokv, zpush], by simp [lv_args, Value.category, zokv, hk1]⟩ (Nat.le_of_ble_eq_true rfl) ⟨Nat.le_of_ble_eq_true rfl, Nat.le_of_ble_eq_true rfl⟩ ⟨by show _ ≤ mc; omega, by show _ ≤ ms; omega⟩ (fun r d hP9 => ?_) (fun E d hX => Or.inr (Or.inr ⟨hpos, q, hq, rfl, hX.sp hAs⟩))
      obtain ⟨hFa, hfit, b, R, m, K, rfl, hO, hx, hR, hl1, hl2⟩ := hP9
      refine zJ_astore_n (ls2 := fun q9 => [(2, .ref q9), (0, .ref 0), (1, .int (nI q))]) dX8_feeling_49 (by decide) (fun _ => rfl) (fun q9 eq9 => ?_)
      obtain rfl := eq9.symm
      refine zJ_aload_n dX8_feeling_50 rfl ?_
      refine zJ_eV0 dX8_feeling_51 sX8_182 mfX1_countCases (o_countCases Δ d b R m U (zTs U 11 q) K hO) hO.1.1.1 rfl (Nat.le_of_ble_eq_true rfl) ⟨Nat.le_of_ble_eq_true rfl, Nat.le_of_ble_eq_true rfl⟩ ⟨by show _ ≤ mc; omega, by show _ ≤ ms; omega⟩ (fun r e hP9 => ?_)
      obtain ⟨rfl, hf, hO2, hcc⟩ := hP9
      refine zJ_aload_n dX8_feeling_54 rfl ?_
      refine zJ_cV0 dX8_feeling_55 sX8_196 mfX1_lengthOfAll (c_Play_lengthOfAll Δ e b R m hO2.1.1 (zcas (zTs U 11 q) K) hcc) hO2.1.1.1 rfl (Nat.le_of_ble_eq_true rfl) ⟨Nat.le_of_ble_eq_true rfl, Nat.le_of_ble_eq_true rfl⟩ ⟨by show _ ≤ mc; omega, by show _ ≤ ms; omega⟩ ?_
      exact zJ_lret dX8_feeling_58 rfl (by show _ ≤ mc; omega) (by show _ ≤ ms; omega) (by obtain ⟨g1, g2⟩ := zfin hAs hFa hf hO2 hx hR; exact ⟨g1, g2, hpos, q, hq, rfl, hfit, zlf hAs hl1 hl2 hf, K, hO2.1.2.2.2.1, rfl⟩)
    · have hno : ¬ ∃ q, (1 ≤ q ∧ q ≤ 99) ∧ x = nI q := fun ⟨h, h1, h2⟩ => by
        rw [h2] at h12
        exact h12 ((nI_leI (b := 99) (by omega) (by decide)).mpr h1.2)
      exact zJ_throwIW (text := "no such WAX") (j := 23) dX8_feeling_15 dX8_feeling_18 dX8_feeling_19 dX8_feeling_22 dX8_feeling_25 rfl rfl (by decide +kernel) (Nat.le_of_ble_eq_true rfl) (Nat.le_of_ble_eq_true rfl) (by show _ ≤ mc; omega) (by show _ ≤ ms; omega) (Or.inr (Or.inl ⟨hpos, rfl, rfl, hno⟩))
set_option maxRecDepth 100000 in
theorem d_all (Δ : zD) (w : zW) (U : zTo) (hB : zB w U) (x : Int32) (mc ms : Nat) (hm : zRo w ((0 < U.1 0 ∧ ∃ q, q ≤ 1 ∧ x = nI q) ∧ ¬ zfit (zTal U) 640) mc ms) : zM Δ 8 mc ms false yX8_all mX8_all [.ref 0, .int x] w (fun r d => zFb w d ∧ zB d U ∧ zLf w d (zTal U) ∧ zfit (zTal U) 20000 ∧ 0 < U.1 0 ∧ ∃ q, q ≤ 1 ∧ x = nI q ∧ r = some (.int (nI (if q = 0 then (zlst (zTal U) 11 (zfk (zTal U))).1 else (zlst (zTal U) 11 (zfk (zTal U))).2.1)))) (fun E d => (E = zNS ∧ d = w ∧ ¬ (0 < U.1 0 ∧ ∃ q, q ≤ 1 ∧ x = nI q)) ∨ ((0 < U.1 0 ∧ ∃ q, q ≤ 1 ∧ x = nI q) ∧ zSp w U (zTal U) E d)) := by
  refine zM.of mfX8_all (Nat.le_of_ble_eq_true rfl) ?_
  obtain ⟨⟨hm1, hm2⟩, hm3⟩ := hm
  have hC := hB.1
  have hU := hB.2.2.1.1
  have hcU := hB.2.2.1.2.1
  have h13 := hB.2.2.1.2.2
  have hp0 := hB.2.1.2.1 0 (by decide) (by decide)
  have hp8 := hU.1
  have hk0 := hC.1 0 (by decide)
  refine zJ_aload_n dX8_all_0 rfl ?_
  refine zJ_iload_n dX8_all_1 rfl ?_
  refine zJ_iconst (v := 1) dX8_all_2 (by decide) ?_
  refine zJ_xV2 dX8_all_3 sX8_161 pX8_161 mfX8_needWhat (c_needWhat Δ w hC x 1 (by decide)) rfl hk0 rfl (Nat.le_of_ble_eq_true rfl) ⟨Nat.le_of_ble_eq_true rfl, Nat.le_of_ble_eq_true rfl⟩ ⟨by show _ ≤ mc; omega, by show _ ≤ ms; omega⟩ (fun r c9 hP => ?_) (fun E c9 hX => Or.inl ⟨hX.1, hX.2.1, fun h => hX.2.2 h.2⟩)
  obtain ⟨rfl, hw9, hP⟩ := hP
  obtain rfl := hw9.symm
  obtain ⟨q, hq, rfl⟩ := hP
  refine zJ_aload_n dX8_all_6 rfl ?_
  refine zJ_xV0 dX8_all_7 sX8_189 pX8_189 mfX8_needPeople (c_needPeople Δ w hC (U.1 0) hp0 hp8) rfl hk0 rfl (Nat.le_of_ble_eq_true rfl) ⟨Nat.le_of_ble_eq_true rfl, Nat.le_of_ble_eq_true rfl⟩ ⟨by show _ ≤ mc; omega, by show _ ≤ ms; omega⟩ (fun r c9 hP => ?_) (fun E c9 hX => Or.inl ⟨hX.1, hX.2.1, fun h => hX.2.2 h.1⟩)
  obtain ⟨rfl, hw9, hP⟩ := hP
  obtain rfl := hw9.symm
  have hpos := hP
  refine zJ_aload_n dX8_all_10 rfl ?_
  refine zJ_getr dX8_all_11 fX8_36 (by first | rfl | assumption | exact hC.1 _ (by decide)) rfl (by first | rfl | assumption | exact hC.2 _ _ rfl) ?_
  refine zJ_aload_n dX8_all_14 rfl ?_
  refine zJ_getr dX8_all_15 fX8_32 (by first | rfl | assumption | exact hC.1 _ (by decide)) rfl (by first | rfl | assumption | exact hC.2 _ _ rfl) ?_
  refine zJ_cV1 dX8_all_18 sX8_110 mfX5_copy (c_Town_copy Δ w 14 9 (zTn14 hC) hB.2.1.1 (by decide)) (hC.1 14 (by decide)) rfl (Nat.le_of_ble_eq_true rfl) ⟨Nat.le_of_ble_eq_true rfl, Nat.le_of_ble_eq_true rfl⟩ ⟨by show _ ≤ mc; omega, by show _ ≤ ms; omega⟩ ?_
  refine zJ_aload_n dX8_all_21 rfl ?_
  refine zJ_getr dX8_all_22 fX8_36 (by first | rfl | assumption | exact hC.1 _ (by decide)) rfl (by first | rfl | assumption | exact hC.2 _ _ rfl) ?_
  refine zJ_cV0 dX8_all_25 sX8_206 mfX5_letAllReckon (c_Town_letAllReckon Δ (ztowc w 14 9) 14 (U.1 0) (zTn14 hC) ((zAs.copy hB).2.2.2.2.1 0 (by decide) (by decide)) hp8) (hC.1 14 (by decide)) rfl (Nat.le_of_ble_eq_true rfl) ⟨Nat.le_of_ble_eq_true rfl, Nat.le_of_ble_eq_true rfl⟩ ⟨by show _ ≤ mc; omega, by show _ ≤ ms; omega⟩ ?_
  refine zJ_aload_n dX8_all_28 rfl ?_
  have hAs := ((zAs.copy hB).al hU)
  have hk1 : (zlr (ztowc w 14 9) 14 (U.1 0)).1 0 = some (.inl 8) := hAs.2.2.1.1.1 0 (by decide)
  refine zJ_yV0 dX8_all_29 sX8_209 pX8_209 mfX8_lastHandOfAll (c_lastHandOfAll Δ (zlr (ztowc w 14 9) 14 (U.1 0)) U (zTal U) hAs.2.2.1 hAs.2.2.2 hU.al hcU.al ⟨rfl, rfl, rfl, rfl, rfl⟩ (fun p hp => by simp only [zTal]; exact if_pos hp) hpos (mc - 10) (ms - 60) (by omega) (by omega) (fun h1 h2 => by have := hm3 ⟨⟨hpos, q, hq, rfl⟩, h1⟩ (by rw [← hAs.2.1]; exact h2); omega)) rfl hk1 rfl ⟨rfl, by simp [zokv, zpush], by simp [lv_args, Value.category, zokv, hk1]⟩ (Nat.le_of_ble_eq_true rfl) ⟨Nat.le_of_ble_eq_true rfl, Nat.le_of_ble_eq_true rfl⟩ ⟨by show _ ≤ mc; omega, by show _ ≤ ms; omega⟩ (fun r d hP9 => ?_) (fun E d hX => Or.inr ⟨⟨hpos, q, hq, rfl⟩, ⟨hX.1, hX.2.1, hAs.1.tr hX.2.2.1, hX.2.2.2.1, hX.2.2.2.2⟩⟩)
  obtain ⟨hF9, hB9, hi9, hl9, hfit, rfl⟩ := hP9
  have hko : zkok (zTal U) (zlst (zTal U) 11 (zfk (zTal U))) := zlst_ok 11 _ (zgr_ok hU.al 0 _ (by simp [zgr]))
  have hPa := zenc_parts hU.al hko
  have hEl := zenc_lt hU.al hko
  have hlf : zLf w d (zTal U) := ⟨fun h => (hl9.1 h).trans hAs.2.1, hl9.2⟩
  refine zJ_lstore_n (ls2 := fun x32 => [(2, .long x32), (0, .ref 0), (1, .int (nI q))]) dX8_all_32 (by decide) (fun _ => rfl) (fun x32 ex32 => ?_)
  obtain rfl : x32 = (lN (zenc (zTal U) (zlst (zTal U) 11 (zfk (zTal U))))) := ex32
  refine zJ_iload_n dX8_all_33 rfl ?_
  refine zJ_if_ne (tgt := 44) dX8_all_34 (by decide) (fun h34 => ?_) (fun h34 => ?_)
  · have hq0 : ¬ q = 0 := fun h => h34 (by rw [h]; rfl)
    refine zJ_lload_n dX8_all_44 rfl ?_
    refine zJ_cS1 dX8_all_45 sX8_218 mfX6_handOf (c_Ways_handOf Δ d (zenc (zTal U) (zlst (zTal U) 11 (zfk (zTal U)))) (by omega)) (Nat.le_of_ble_eq_true rfl) ⟨Nat.le_of_ble_eq_true rfl, Nat.le_of_ble_eq_true rfl⟩ ⟨by show _ ≤ mc; omega, by show _ ≤ ms; omega⟩ ?_
    rw [hPa.2.1]
    exact zJ_iret dX8_all_48 rfl (by show _ ≤ mc; omega) (by show _ ≤ ms; omega) ⟨hAs.1.tr hF9, hB9, hlf, hfit, hpos, q, hq, rfl, by simp [hq0]⟩
  · have hq0 : q = 0 := (nI_eq (b := 0) (by omega) (by decide)).mp h34
    refine zJ_lload_n dX8_all_37 rfl ?_
    refine zJ_cS1 dX8_all_38 sX8_212 mfX6_whoOf (c_Ways_whoOf Δ d (zenc (zTal U) (zlst (zTal U) 11 (zfk (zTal U))))) (Nat.le_of_ble_eq_true rfl) ⟨Nat.le_of_ble_eq_true rfl, Nat.le_of_ble_eq_true rfl⟩ ⟨by show _ ≤ mc; omega, by show _ ≤ ms; omega⟩ ?_
    rw [hPa.1]
    refine zJ_goto (tgt := 48) dX8_all_41 (by decide) ?_
    exact zJ_iret dX8_all_48 rfl (by show _ ≤ mc; omega) (by show _ ≤ ms; omega) ⟨hAs.1.tr hF9, hB9, hlf, hfit, hpos, q, hq, rfl, by simp [hq0]⟩
set_option maxRecDepth 100000 in
theorem d_odds (Δ : zD) (w : zW) (U : zTo) (hB : zB w U) (n : Nat) (f : Nat → Nat) (hn : n ≤ 20) (h1 : w.2.1 38 1 = nI n) (hf1 : ∀ i, i < n → w.2.1 39 i = nI (f i)) (hf8 : ∀ i, f i < 8) (mc ms : Nat) (hm : zRo w (0 < U.1 0 ∧ ¬ zfit U 640) mc ms) : zM Δ 8 mc ms false yX8_odds mX8_odds [.ref 0] w (fun r d => zFb w d ∧ zB d U ∧ ((U.1 0 = 0 ∧ d = w ∧ r = some (.int 0)) ∨ (0 < U.1 0 ∧ zLf w d U ∧ zfit U 20000 ∧ r = some (.int (lN (zodds U f n)).toInt32)))) (fun E d => 0 < U.1 0 ∧ zSp w U U E d) := by
  refine zM.of mfX8_odds (Nat.le_of_ble_eq_true rfl) ?_
  obtain ⟨⟨hm1, hm2⟩, hm3⟩ := hm
  have hC := hB.1
  have hU := hB.2.2.1.1
  have hcU := hB.2.2.1.2.1
  have h13 := hB.2.2.1.2.2
  have hp0 := hB.2.1.2.1 0 (by decide) (by decide)
  have hp8 := hU.1
  have hk0 := hC.1 0 (by decide)
  refine zJ_aload_n dX8_odds_0 rfl ?_
  refine zJ_getr dX8_odds_1 fX8_32 (by first | rfl | assumption | exact hC.1 _ (by decide) | exact hAs.2.2.1.1.1 _ (by decide) | exact (zfin hAs hFa hf hO2 hx hR).2.1.1 _ (by decide)) rfl (by first | rfl | assumption | exact hC.2 _ _ rfl | exact hAs.2.2.1.1.2 _ _ rfl | exact (zfin hAs hFa hf hO2 hx hR).2.1.2 _ _ rfl) ?_
  refine zJ_geti dX8_odds_4 fX8_117 (by first | rfl | assumption | exact hC.1 _ (by decide) | exact hAs.2.2.1.1.1 _ (by decide) | exact (zfin hAs hFa hf hO2 hx hR).2.1.1 _ (by decide)) rfl ?_
  rw [hp0]
  refine zJ_if_ne (tgt := 12) dX8_odds_7 (by decide) (fun h7 => ?_) (fun h7 => ?_)
  · have hpos : 0 < U.1 0 := Nat.pos_of_ne_zero fun h => h7 (by rw [h]; rfl)
    refine zJ_aload_n dX8_odds_12 rfl ?_
    refine zJ_getr dX8_odds_13 fX8_36 (by first | rfl | assumption | exact hC.1 _ (by decide) | exact hAs.2.2.1.1.1 _ (by decide) | exact (zfin hAs hFa hf hO2 hx hR).2.1.1 _ (by decide)) rfl (by first | rfl | assumption | exact hC.2 _ _ rfl | exact hAs.2.2.1.1.2 _ _ rfl | exact (zfin hAs hFa hf hO2 hx hR).2.1.2 _ _ rfl) ?_
    refine zJ_aload_n dX8_odds_16 rfl ?_
    refine zJ_getr dX8_odds_17 fX8_32 (by first | rfl | assumption | exact hC.1 _ (by decide) | exact hAs.2.2.1.1.1 _ (by decide) | exact (zfin hAs hFa hf hO2 hx hR).2.1.1 _ (by decide)) rfl (by first | rfl | assumption | exact hC.2 _ _ rfl | exact hAs.2.2.1.1.2 _ _ rfl | exact (zfin hAs hFa hf hO2 hx hR).2.1.2 _ _ rfl) ?_
    refine zJ_cV1 dX8_odds_20 sX8_110 mfX5_copy (c_Town_copy Δ w 14 9 (zTn14 hC) hB.2.1.1 (by decide)) (hC.1 14 (by decide)) rfl (Nat.le_of_ble_eq_true rfl) ⟨Nat.le_of_ble_eq_true rfl, Nat.le_of_ble_eq_true rfl⟩ ⟨by show _ ≤ mc; omega, by show _ ≤ ms; omega⟩ ?_
    refine zJ_aload_n dX8_odds_23 rfl ?_
    have hAs := (zAs.copy hB)
    have hk1 : (ztowc w 14 9).1 0 = some (.inl 8) := hAs.2.2.1.1.1 0 (by decide)
    refine zJ_yV0 dX8_odds_24 sX8_178 pX8_178 mfX8_playAsked (c_playAsked Δ (ztowc w 14 9) U U hAs.2.2.1.1 hAs.2.2.1.2.2.2 hAs.2.2.2 hU hcU (zsame.rf U) (mc - 10) (ms - 60) (by omega) (fun h1 h2 => by have := hm3 ⟨hpos, h1⟩ (by rw [← hAs.2.1]; exact h2); omega)) rfl hk1 rfl ⟨rfl, by simp [zokv, zpush], by simp [lv_args, Value.category, zokv, hk1]⟩ (Nat.le_of_ble_eq_true rfl) ⟨Nat.le_of_ble_eq_true rfl, Nat.le_of_ble_eq_true rfl⟩ ⟨by show _ ≤ mc; omega, by show _ ≤ ms; omega⟩ (fun r d hP9 => ?_) (fun E d hX => ⟨hpos, hX.sp hAs⟩)
    obtain ⟨hFa, hfit, b, R, m, K, rfl, hO, hx, hR, hl1, hl2⟩ := hP9
    refine zJ_astore_n (ls2 := fun q9 => [(1, .ref q9), (0, .ref 0)]) dX8_odds_27 (by decide) (fun _ => rfl) (fun q9 eq9 => ?_)
    obtain rfl := eq9.symm
    refine zJ_aload_n dX8_odds_28 rfl ?_
    refine zJ_eV0 dX8_odds_29 sX8_247 mfX1_choose (o_choose Δ d b R m U U K hO) hO.1.1.1 rfl (Nat.le_of_ble_eq_true rfl) ⟨Nat.le_of_ble_eq_true rfl, Nat.le_of_ble_eq_true rfl⟩ ⟨by show _ ≤ mc; omega, by show _ ≤ ms; omega⟩ (fun r e hP9 => ?_)
    obtain ⟨rfl, hf, hO2, hcs⟩ := hP9
    have hFe : zFb w e := (zfin hAs hFa hf hO2 hx hR).1
    have e1 : e.2.1 38 1 = nI n := (hFe.2.1 38 1 (by omega)).1.trans h1
    have e39 : ∀ i, i < n → e.2.1 39 (0 + i) = nI (f i) := fun i hi => by rw [Nat.zero_add]; exact (hFe.2.1 39 i (by omega)).1.trans (hf1 i hi)
    refine zJ_aload_n dX8_odds_32 rfl ?_
    refine zJ_aload_n dX8_odds_33 rfl ?_
    refine zJ_getr dX8_odds_34 fX8_51 (by first | rfl | assumption | exact hC.1 _ (by decide) | exact hAs.2.2.1.1.1 _ (by decide) | exact (zfin hAs hFa hf hO2 hx hR).2.1.1 _ (by decide)) rfl (by first | rfl | assumption | exact hC.2 _ _ rfl | exact hAs.2.2.1.1.2 _ _ rfl | exact (zfin hAs hFa hf hO2 hx hR).2.1.2 _ _ rfl) ?_
    refine zJ_getr dX8_odds_37 fX8_250 (by first | rfl | assumption | exact hC.1 _ (by decide) | exact hAs.2.2.1.1.1 _ (by decide) | exact (zfin hAs hFa hf hO2 hx hR).2.1.1 _ (by decide)) rfl (by first | rfl | assumption | exact hC.2 _ _ rfl | exact hAs.2.2.1.1.2 _ _ rfl | exact (zfin hAs hFa hf hO2 hx hR).2.1.2 _ _ rfl) ?_
    refine zJ_iconst (v := 0) dX8_odds_40 (by decide) ?_
    refine zJ_aload_n dX8_odds_41 rfl ?_
    refine zJ_getr dX8_odds_42 fX8_51 (by first | rfl | assumption | exact hC.1 _ (by decide) | exact hAs.2.2.1.1.1 _ (by decide) | exact (zfin hAs hFa hf hO2 hx hR).2.1.1 _ (by decide)) rfl (by first | rfl | assumption | exact hC.2 _ _ rfl | exact hAs.2.2.1.1.2 _ _ rfl | exact (zfin hAs hFa hf hO2 hx hR).2.1.2 _ _ rfl) ?_
    refine zJ_geti dX8_odds_45 fX8_144 (by first | rfl | assumption | exact hC.1 _ (by decide) | exact hAs.2.2.1.1.1 _ (by decide) | exact (zfin hAs hFa hf hO2 hx hR).2.1.1 _ (by decide)) rfl ?_
    rw [e1]
    refine zJ_st (st2 := [.int (nI n), .int (nI 0), .ref 39, .ref b]) rfl ?_
    refine zJ_cV3 dX8_odds_48 sX8_253 mfX1_oddsOf (c_Play_oddsOf Δ e b R m U K hO2.1 hcs 39 0 n 20 f ((zfin hAs hFa hf hO2 hx hR).2.1.1 39 (by decide)) (by decide) (by omega) e39 hf8) hO2.1.1.1 rfl (Nat.le_of_ble_eq_true rfl) ⟨Nat.le_of_ble_eq_true rfl, Nat.le_of_ble_eq_true rfl⟩ ⟨by show _ ≤ mc; omega, by show _ ≤ ms; omega⟩ ?_
    refine zJ_l2i dX8_odds_51 ?_
    exact zJ_iret dX8_odds_52 rfl (by show _ ≤ mc; omega) (by show _ ≤ ms; omega) (by obtain ⟨g1, g2⟩ := zfin hAs hFa hf hO2 hx hR; exact ⟨g1, g2, Or.inr ⟨hpos, zlf hAs hl1 hl2 hf, hfit, rfl⟩⟩)
  · have hz0 : U.1 0 = 0 := (nI_eq (b := 0) (by omega) (by decide)).mp h7
    refine zJ_iconst (v := 0) dX8_odds_10 (by decide) ?_
    exact zJ_iret dX8_odds_11 rfl (by show _ ≤ mc; omega) (by show _ ≤ ms; omega) ⟨zFb.rf w, hB, Or.inl ⟨hz0, rfl, rfl⟩⟩
set_option maxRecDepth 100000 in
theorem d_chain (Δ : zD) (w : zW) (U : zTo) (hB : zB w U) (x : Int32) (mc ms : Nat) (hm : zRo w (0 < U.1 0 ∧ ∃ q, q ≤ 2 ∧ x = nI q ∧ ¬ zfit (zTs U 10 q) 640) mc ms) : zM Δ 8 mc ms false yX8_chain mX8_chain [.ref 0, .int x] w (fun r d => 0 < U.1 0 ∧ ∃ q, q ≤ 2 ∧ x = nI q ∧ zfit (zTs U 10 q) 20000 ∧ ∃ e K, zall (zTs U 10 q) K ∧ zFb w e ∧ zB e U ∧ zLf w e (zTs U 10 q) ∧ ((zfnd (zTs U 10 q) K K.length = none ∧ d = e ∧ r = some (.int (-1))) ∨ ∃ k, zfnd (zTs U 10 q) K K.length = some k ∧ d = zsi (zsl e 0 14 (lN ((zchn (zTs U 10 q) K K.length).2 k))) 0 15 (nI (U.1 7)) ∧ r = some (.int (lN ((zchn (zTs U 10 q) K K.length).1 k)).toInt32))) (fun E d => (E = zNS ∧ d = w ∧ ¬ (0 < U.1 0 ∧ ∃ q, q ≤ 2 ∧ x = nI q)) ∨ (0 < U.1 0 ∧ ∃ q, q ≤ 2 ∧ x = nI q ∧ zSp w U (zTs U 10 q) E d)) := by
  refine zM.of mfX8_chain (Nat.le_of_ble_eq_true rfl) ?_
  obtain ⟨⟨hm1, hm2⟩, hm3⟩ := hm
  have hC := hB.1
  have hU := hB.2.2.1.1
  have hcU := hB.2.2.1.2.1
  have h13 := hB.2.2.1.2.2
  have hp0 := hB.2.1.2.1 0 (by decide) (by decide)
  have hp8 := hU.1
  have hk0 := hC.1 0 (by decide)
  refine zJ_iload_n dX8_chain_0 rfl ?_
  refine zJ_if_lt (tgt := 9) dX8_chain_1 (by decide) (fun h1_ => ?_) (fun h1_ => ?_)
  · have hno : ¬ ∃ q, q ≤ 2 ∧ x = nI q := fun ⟨h, h1, h2⟩ => by
      rw [h2] at h1_
      exact absurd ((nI_ltI (b := 0) (by omega) (by decide)).mp h1_) (by omega)
    exact zJ_throwNW (text := "no such LAW") (j := 21) dX8_chain_9 dX8_chain_12 dX8_chain_13 dX8_chain_16 dX8_chain_19 rfl rfl (by decide +kernel) (Nat.le_of_ble_eq_true rfl) (Nat.le_of_ble_eq_true rfl) (by show _ ≤ mc; omega) (by show _ ≤ ms; omega) (Or.inl ⟨rfl, rfl, fun h => hno h.2⟩)
  · refine zJ_iload_n dX8_chain_4 rfl ?_
    refine zJ_iconst (v := 2) dX8_chain_5 (by decide) ?_
    refine zJ_icmp_le (tgt := 20) dX8_chain_6 (by decide) (fun h6 => ?_) (fun h6 => ?_)
    · obtain ⟨q, hq31, rfl⟩ := nI_of h1_
      have hq : q ≤ 2 := (nI_leI (b := 2) (by omega) (by decide)).mp h6
      refine zJ_aload_n dX8_chain_20 rfl ?_
      refine zJ_xV0 dX8_chain_21 sX8_189 pX8_189 mfX8_needPeople (c_needPeople Δ w hC (U.1 0) hp0 hp8) rfl hk0 rfl (Nat.le_of_ble_eq_true rfl) ⟨Nat.le_of_ble_eq_true rfl, Nat.le_of_ble_eq_true rfl⟩ ⟨by show _ ≤ mc; omega, by show _ ≤ ms; omega⟩ (fun r c9 hP => ?_) (fun E c9 hX => Or.inl ⟨hX.1, hX.2.1, fun h => hX.2.2 h.1⟩)
      obtain ⟨rfl, hw9, hP⟩ := hP
      obtain rfl := hw9.symm
      have hpos := hP
      refine zJ_aload_n dX8_chain_24 rfl ?_
      refine zJ_getr dX8_chain_25 fX8_36 (by first | rfl | assumption | exact hC.1 _ (by decide) | exact hAs.2.2.1.1.1 _ (by decide) | exact (zfin hAs hFa hf hO2 hx hR).2.1.1 _ (by decide)) rfl (by first | rfl | assumption | exact hC.2 _ _ rfl | exact hAs.2.2.1.1.2 _ _ rfl | exact (zfin hAs hFa hf hO2 hx hR).2.1.2 _ _ rfl) ?_
      refine zJ_aload_n dX8_chain_28 rfl ?_
      refine zJ_getr dX8_chain_29 fX8_32 (by first | rfl | assumption | exact hC.1 _ (by decide) | exact hAs.2.2.1.1.1 _ (by decide) | exact (zfin hAs hFa hf hO2 hx hR).2.1.1 _ (by decide)) rfl (by first | rfl | assumption | exact hC.2 _ _ rfl | exact hAs.2.2.1.1.2 _ _ rfl | exact (zfin hAs hFa hf hO2 hx hR).2.1.2 _ _ rfl) ?_
      refine zJ_cV1 dX8_chain_32 sX8_110 mfX5_copy (c_Town_copy Δ w 14 9 (zTn14 hC) hB.2.1.1 (by decide)) (hC.1 14 (by decide)) rfl (Nat.le_of_ble_eq_true rfl) ⟨Nat.le_of_ble_eq_true rfl, Nat.le_of_ble_eq_true rfl⟩ ⟨by show _ ≤ mc; omega, by show _ ≤ ms; omega⟩ ?_
      refine zJ_aload_n dX8_chain_35 rfl ?_
      refine zJ_getr dX8_chain_36 fX8_36 (by first | rfl | assumption | exact hC.1 _ (by decide) | exact hAs.2.2.1.1.1 _ (by decide) | exact (zfin hAs hFa hf hO2 hx hR).2.1.1 _ (by decide)) rfl (by first | rfl | assumption | exact hC.2 _ _ rfl | exact hAs.2.2.1.1.2 _ _ rfl | exact (zfin hAs hFa hf hO2 hx hR).2.1.2 _ _ rfl) ?_
      refine zJ_iload_n dX8_chain_39 rfl ?_
      refine zJ_puti dX8_chain_40 fX8_135 (fun q h => by cases h; rfl) (by first | rfl | assumption | exact hC.1 _ (by decide) | exact hAs.2.2.1.1.1 _ (by decide) | exact (zfin hAs hFa hf hO2 hx hR).2.1.1 _ (by decide)) rfl rfl rfl ?_
      refine zJ_aload_n dX8_chain_43 rfl ?_
      have hAs := ((zAs.copy hB).set (k := 10) (v := q) (by decide) (by decide))
      have hk1 : (zsi (ztowc w 14 9) 14 10 (nI q)).1 0 = some (.inl 8) := hAs.2.2.1.1.1 0 (by decide)
      refine zJ_yV0 dX8_chain_44 sX8_178 pX8_178 mfX8_playAsked (c_playAsked Δ (zsi (ztowc w 14 9) 14 10 (nI q)) U (zTs U 10 q) hAs.2.2.1.1 hAs.2.2.1.2.2.2 hAs.2.2.2 (hU.s (by omega)) (hcU.s (by decide)) ((zsame.rf U).s (by decide)) (mc - 10) (ms - 60) (by omega) (fun h1 h2 => by have := hm3 ⟨hpos, q, hq, rfl, h1⟩ (by rw [← hAs.2.1]; exact h2); omega)) rfl hk1 rfl ⟨rfl, by simp [zokv, zpush], by simp [lv_args, Value.category, zokv, hk1]⟩ (Nat.le_of_ble_eq_true rfl) ⟨Nat.le_of_ble_eq_true rfl, Nat.le_of_ble_eq_true rfl⟩ ⟨by show _ ≤ mc; omega, by show _ ≤ ms; omega⟩ (fun r d hP9 => ?_) (fun E d hX => Or.inr ⟨hpos, q, hq, rfl, hX.sp hAs⟩)
      obtain ⟨hFa, hfit, b, R, m, K, rfl, hO, hx, hR, hl1, hl2⟩ := hP9
      refine zJ_astore_n (ls2 := fun q9 => [(2, .ref q9), (0, .ref 0), (1, .int (nI q))]) dX8_chain_47 (by decide) (fun _ => rfl) (fun q9 eq9 => ?_)
      obtain rfl := eq9.symm
      refine zJ_aload_n dX8_chain_48 rfl ?_
      refine zJ_eV0 dX8_chain_49 sX8_247 mfX1_choose (o_choose Δ d b R m U (zTs U 10 q) K hO) hO.1.1.1 rfl (Nat.le_of_ble_eq_true rfl) ⟨Nat.le_of_ble_eq_true rfl, Nat.le_of_ble_eq_true rfl⟩ ⟨by show _ ≤ mc; omega, by show _ ≤ ms; omega⟩ (fun r e1 hP9 => ?_)
      obtain ⟨rfl, hf, hO2, hcs⟩ := hP9
      refine zJ_aload_n dX8_chain_52 rfl ?_
      refine zJ_eV0 dX8_chain_53 sX8_285 mfX1_surestEnd (o_surestEnd Δ e1 b R m U (zTs U 10 q) K hO2 hcs) hO2.1.1.1 rfl (Nat.le_of_ble_eq_true rfl) ⟨Nat.le_of_ble_eq_true rfl, Nat.le_of_ble_eq_true rfl⟩ ⟨by show _ ≤ mc; omega, by show _ ≤ ms; omega⟩ (fun r e hP9 => ?_)
      obtain ⟨hf2, hO3, htw, hcase⟩ := hP9
      have hF5 := (zfin hAs hFa (hf.tr hf2) hO3 hx hR).1
      have hB5 := (zfin hAs hFa (hf.tr hf2) hO3 hx hR).2
      have hPS := hO3.1.1
      obtain ⟨p0, q0, q1, q2, q3, q4, q5, q6, q7, q8, q9, s11, s12, s13, s14, s15, s16, s17, s18, hSw⟩ := hPS
      have hRb2 : R ≤ 20000 := by rcases hR with ⟨-, rfl, -⟩ | ⟨-, rfl, -⟩ <;> decide
      have hKR : K.length ≤ R := hO3.1.2.2.2.2.1.2.2.1
      have hb0 : ¬ b + 14 = 0 := Nat.succ_ne_zero (b + 13)
      rcases hcase with ⟨hz1, rfl⟩ | ⟨z, k, hz1, hz2, rfl⟩
      · skip
        refine zJ_istore_n (ls2 := fun x56n => [(3, .int x56n), (2, .ref b), (0, .ref 0), (1, .int (nI q))]) dX8_chain_56 (by decide) (fun _ => rfl) (fun x56n ex56n => ?_)
        obtain rfl : x56n = (-1) := ex56n
        refine zJ_iload_n dX8_chain_57 rfl ?_
        refine zJ_if_ge (tgt := 63) dX8_chain_58 (by decide) (fun h9 => False.elim (by revert h9; decide)) (fun _ => ?_)
        refine zJ_iconst (v := (-1)) dX8_chain_61 (by decide) ?_
        exact zJ_iret dX8_chain_62 rfl (by show _ ≤ mc; omega) (by show _ ≤ ms; omega) ⟨hpos, q, hq, rfl, hfit, e, K, hO3.1.2.2.2.1, hF5, hB5, zlf hAs hl1 hl2 (hf.tr hf2), Or.inl ⟨hz1, rfl, rfl⟩⟩
      · have hzK : z < K.length := (List.getElem?_eq_some_iff.mp hz2).1
        have hz4 := htw z k hz2
        have hz5 := zfnd_pos hz1
        refine zJ_istore_n (ls2 := fun x56z => [(3, .int x56z), (2, .ref b), (0, .ref 0), (1, .int (nI q))]) dX8_chain_56 (by decide) (fun _ => rfl) (fun x56z ex56z => ?_)
        obtain rfl : x56z = (nI z) := ex56z
        refine zJ_iload_n dX8_chain_57 rfl ?_
        refine zJ_if_ge (tgt := 63) dX8_chain_58 (by decide) (fun h58z => ?_) (fun h58z => ?_)
        · refine zJ_aload_n dX8_chain_63 rfl ?_
          refine zJ_aload_n dX8_chain_64 rfl ?_
          refine zJ_getr dX8_chain_65 fX8_289 (by first | rfl | assumption | exact hC.1 _ (by decide) | exact hAs.2.2.1.1.1 _ (by decide) | exact hB5.1.1 _ (by decide)) rfl (by first | rfl | assumption | exact hC.2 _ _ rfl | exact hAs.2.2.1.1.2 _ _ rfl | exact hB5.1.2 _ _ rfl) ?_
          refine zJ_iload_n dX8_chain_68 rfl ?_
          refine zJ_lald dX8_chain_69 (by first | rfl | assumption | exact hC.1 _ (by decide) | exact hAs.2.2.1.1.1 _ (by decide) | exact hB5.1.1 _ (by decide)) (vp_in_nI (by omega) (by omega)) ?_
          rw [nI_clamp (show z < 2 ^ 31 by omega), hz4.2 hz5]
          refine zJ_putl dX8_chain_70 fX8_292 (fun q h => by cases h; rfl) (by first | rfl | assumption | exact hC.1 _ (by decide) | exact hAs.2.2.1.1.1 _ (by decide) | exact hB5.1.1 _ (by decide)) rfl ?_
          refine zJ_aload_n dX8_chain_73 rfl ?_
          refine zJ_aload_n dX8_chain_74 rfl ?_
          refine zJ_getr dX8_chain_75 fX8_32 (by first | rfl | assumption | exact hC.1 _ (by decide) | exact hAs.2.2.1.1.1 _ (by decide) | exact hB5.1.1 _ (by decide)) rfl (by first | rfl | assumption | exact hC.2 _ _ rfl | exact hAs.2.2.1.1.2 _ _ rfl | exact hB5.1.2 _ _ rfl) ?_
          refine zJ_geti dX8_chain_78 fX8_126 (by first | rfl | assumption | exact hC.1 _ (by decide) | exact hAs.2.2.1.1.1 _ (by decide) | exact hB5.1.1 _ (by decide)) rfl ?_
          rw [show (zsl e 0 14 (lN ((zchn (zTs U 10 q) K K.length).2 k))).2.1 9 7 = nI (U.1 7) from hB5.2.1.2.1 7 (by decide) (by decide)]
          refine zJ_puti dX8_chain_81 fX8_296 (fun q h => by cases h; rfl) (by first | rfl | assumption | exact hC.1 _ (by decide) | exact hAs.2.2.1.1.1 _ (by decide) | exact hB5.1.1 _ (by decide)) rfl rfl rfl ?_
          refine zJ_aload_n dX8_chain_84 rfl ?_
          refine zJ_getr dX8_chain_85 fX8_299 (by first | rfl | assumption | exact hC.1 _ (by decide) | exact hAs.2.2.1.1.1 _ (by decide) | exact hB5.1.1 _ (by decide)) rfl (by first | rfl | assumption | exact hC.2 _ _ rfl | exact hAs.2.2.1.1.2 _ _ rfl | exact hB5.1.2 _ _ rfl) ?_
          refine zJ_iload_n dX8_chain_88 rfl ?_
          refine zJ_lald dX8_chain_89 (by first | rfl | assumption | exact hC.1 _ (by decide) | exact hAs.2.2.1.1.1 _ (by decide) | exact hB5.1.1 _ (by decide)) (vp_in_nI (by omega) (by omega)) ?_
          rw [nI_clamp (show z < 2 ^ 31 by omega), show (zsi (zsl e 0 14 (lN ((zchn (zTs U 10 q) K K.length).2 k))) 0 15 (nI (U.1 7))).2.2.1 (b + 14) z = lN ((zchn (zTs U 10 q) K K.length).1 k) by rw [← hz4.1]; simp [zsi, zsl, hb0]]
          refine zJ_l2i dX8_chain_90 ?_
          exact zJ_iret dX8_chain_91 rfl (by show _ ≤ mc; omega) (by show _ ≤ ms; omega) ⟨hpos, q, hq, rfl, hfit, e, K, hO3.1.2.2.2.1, hF5, hB5, zlf hAs hl1 hl2 (hf.tr hf2), Or.inr ⟨k, hz1, rfl, rfl⟩⟩
        · exact absurd ((nI_leI (a := 0) (b := z) (by decide) (by omega)).mpr (Nat.zero_le _)) h58z
    · have hno : ¬ ∃ q, q ≤ 2 ∧ x = nI q := fun ⟨h, h1, h2⟩ => by
        rw [h2] at h6
        exact h6 ((nI_leI (b := 2) (by omega) (by decide)).mpr h1)
      exact zJ_throwNW (text := "no such LAW") (j := 21) dX8_chain_9 dX8_chain_12 dX8_chain_13 dX8_chain_16 dX8_chain_19 rfl rfl (by decide +kernel) (Nat.le_of_ble_eq_true rfl) (Nat.le_of_ble_eq_true rfl) (by show _ ≤ mc; omega) (by show _ ≤ ms; omega) (Or.inl ⟨rfl, rfl, fun h => hno h.2⟩)
set_option maxRecDepth 100000 in
theorem d_named (Δ : zD) (w : zW) (U : zTo) (hB : zB w U) (x : Int32) (mc ms : Nat) (hm : zRo w (∃ p, p < U.1 0 ∧ x = nI p ∧ ¬ zfit (zTnm U p) 640) mc ms) : zM Δ 8 mc ms false yX8_named mX8_named [.ref 0, .int x] w (fun r d => zFb w d ∧ zB d U ∧ ∃ p, p < U.1 0 ∧ x = nI p ∧ zfit (zTnm U p) 20000 ∧ zLf w d (zTnm U p) ∧ r = some (.long (lZ (znm (zTnm U p))))) (fun E d => (E = zNS ∧ d = w ∧ ¬ (∃ p, p < U.1 0 ∧ x = nI p)) ∨ (∃ p, p < U.1 0 ∧ x = nI p ∧ zSp w U (zTnm U p) E d)) := by
  refine zM.of2 mfX8_named (Nat.le_of_ble_eq_true rfl) (fun QR QX hQ hX0 => ?_)
  obtain ⟨⟨hm1, hm2⟩, hm3⟩ := hm
  have hC := hB.1
  have hU := hB.2.2.1.1
  have hcU := hB.2.2.1.2.1
  have h13 := hB.2.2.1.2.2
  have hp0 := hB.2.1.2.1 0 (by decide) (by decide)
  have hp8 := hU.1
  have hk0 := hC.1 0 (by decide)
  refine zJ_aload_n dX8_named_0 rfl ?_
  refine zJ_iload_n dX8_named_1 rfl ?_
  refine zJ_xV1 dX8_named_2 sX8_158 pX8_158 mfX8_needPerson (c_needPerson Δ w hC x (U.1 0) hp0 hp8) rfl hk0 rfl (Nat.le_of_ble_eq_true rfl) ⟨Nat.le_of_ble_eq_true rfl, Nat.le_of_ble_eq_true rfl⟩ ⟨by show _ ≤ mc; omega, by show _ ≤ ms; omega⟩ (fun r c9 hP => ?_) (fun E c9 hX => hX0 _ _ (Or.inl ⟨hX.1, hX.2.1, hX.2.2⟩))
  obtain ⟨rfl, hw9, hP⟩ := hP
  obtain rfl := hw9.symm
  obtain ⟨p, hp, rfl⟩ := hP
  have cp : (nI p).toNatClampNeg = p := nI_clamp (by omega)
  refine zJ_aload_n dX8_named_5 rfl ?_
  refine zJ_getr dX8_named_6 fX8_36 (by first | rfl | assumption | exact hC.1 _ (by decide) | exact hAs.2.2.1.1.1 _ (by decide) | exact (zfin hAs hFa hf hO2 hx hR).2.1.1 _ (by decide)) rfl (by first | rfl | assumption | exact hC.2 _ _ rfl | exact hAs.2.2.1.1.2 _ _ rfl | exact (zfin hAs hFa hf hO2 hx hR).2.1.2 _ _ rfl) ?_
  refine zJ_aload_n dX8_named_9 rfl ?_
  refine zJ_getr dX8_named_10 fX8_32 (by first | rfl | assumption | exact hC.1 _ (by decide) | exact hAs.2.2.1.1.1 _ (by decide) | exact (zfin hAs hFa hf hO2 hx hR).2.1.1 _ (by decide)) rfl (by first | rfl | assumption | exact hC.2 _ _ rfl | exact hAs.2.2.1.1.2 _ _ rfl | exact (zfin hAs hFa hf hO2 hx hR).2.1.2 _ _ rfl) ?_
  refine zJ_cV1 dX8_named_13 sX8_110 mfX5_copy (c_Town_copy Δ w 14 9 (zTn14 hC) hB.2.1.1 (by decide)) (hC.1 14 (by decide)) rfl (Nat.le_of_ble_eq_true rfl) ⟨Nat.le_of_ble_eq_true rfl, Nat.le_of_ble_eq_true rfl⟩ ⟨by show _ ≤ mc; omega, by show _ ≤ ms; omega⟩ ?_
  refine zJ_aload_n dX8_named_16 rfl ?_
  refine zJ_getr dX8_named_17 fX8_36 (by first | rfl | assumption | exact hC.1 _ (by decide) | exact hAs.2.2.1.1.1 _ (by decide) | exact (zfin hAs hFa hf hO2 hx hR).2.1.1 _ (by decide)) rfl (by first | rfl | assumption | exact hC.2 _ _ rfl | exact hAs.2.2.1.1.2 _ _ rfl | exact (zfin hAs hFa hf hO2 hx hR).2.1.2 _ _ rfl) ?_
  refine zJ_iload_n dX8_named_20 rfl ?_
  refine zJ_puti dX8_named_21 fX8_141 (fun q h => by cases h; rfl) (by first | rfl | assumption | exact hC.1 _ (by decide) | exact hAs.2.2.1.1.1 _ (by decide) | exact (zfin hAs hFa hf hO2 hx hR).2.1.1 _ (by decide)) rfl rfl rfl ?_
  refine zJ_aload_n dX8_named_24 rfl ?_
  refine zJ_getr dX8_named_25 fX8_36 (by first | rfl | assumption | exact hC.1 _ (by decide) | exact hAs.2.2.1.1.1 _ (by decide) | exact (zfin hAs hFa hf hO2 hx hR).2.1.1 _ (by decide)) rfl (by first | rfl | assumption | exact hC.2 _ _ rfl | exact hAs.2.2.1.1.2 _ _ rfl | exact (zfin hAs hFa hf hO2 hx hR).2.1.2 _ _ rfl) ?_
  refine zJ_getr dX8_named_28 fX8_164 (by first | rfl | assumption | exact hC.1 _ (by decide) | exact hAs.2.2.1.1.1 _ (by decide) | exact (zfin hAs hFa hf hO2 hx hR).2.1.1 _ (by decide)) rfl (by first | rfl | assumption | exact hC.2 _ _ rfl | exact hAs.2.2.1.1.2 _ _ rfl | exact (zfin hAs hFa hf hO2 hx hR).2.1.2 _ _ rfl) ?_
  refine zJ_iload_n dX8_named_31 rfl ?_
  refine zJ_iconst (v := 3) dX8_named_32 (by decide) ?_
  refine zJ_iast dX8_named_33 (by first | rfl | assumption | exact hC.1 _ (by decide) | exact hAs.2.2.1.1.1 _ (by decide) | exact (zfin hAs hFa hf hO2 hx hR).2.1.1 _ (by decide)) (vp_in_nI (by omega) (by decide)) ?_
  rw [cp]
  refine zJ_aload_n dX8_named_34 rfl ?_
  refine zJ_getr dX8_named_35 fX8_36 (by first | rfl | assumption | exact hC.1 _ (by decide) | exact hAs.2.2.1.1.1 _ (by decide) | exact (zfin hAs hFa hf hO2 hx hR).2.1.1 _ (by decide)) rfl (by first | rfl | assumption | exact hC.2 _ _ rfl | exact hAs.2.2.1.1.2 _ _ rfl | exact (zfin hAs hFa hf hO2 hx hR).2.1.2 _ _ rfl) ?_
  refine zJ_getr dX8_named_38 fX8_167 (by first | rfl | assumption | exact hC.1 _ (by decide) | exact hAs.2.2.1.1.1 _ (by decide) | exact (zfin hAs hFa hf hO2 hx hR).2.1.1 _ (by decide)) rfl (by first | rfl | assumption | exact hC.2 _ _ rfl | exact hAs.2.2.1.1.2 _ _ rfl | exact (zfin hAs hFa hf hO2 hx hR).2.1.2 _ _ rfl) ?_
  refine zJ_iload_n dX8_named_41 rfl ?_
  refine zJ_iconst (v := 0) dX8_named_42 (by decide) ?_
  refine zJ_iast dX8_named_43 (by first | rfl | assumption | exact hC.1 _ (by decide) | exact hAs.2.2.1.1.1 _ (by decide) | exact (zfin hAs hFa hf hO2 hx hR).2.1.1 _ (by decide)) (vp_in_nI (by omega) (by decide)) ?_
  rw [cp]
  refine zJ_aload_n dX8_named_44 rfl ?_
  have hAs := ((((zAs.copy hB).set (k := 12) (v := p) (by decide) (by decide)).sort (p := p) (s := 3)).num (p := p) (v := 0))
  have hk1 : (zsi (zsi (zsi (ztowc w 14 9) 14 12 (nI p)) 15 p 3) 16 p 0).1 0 = some (.inl 8) := hAs.2.2.1.1.1 0 (by decide)
  refine zJ_yV0 dX8_named_45 sX8_178 pX8_178 mfX8_playAsked (c_playAsked Δ (zsi (zsi (zsi (ztowc w 14 9) 14 12 (nI p)) 15 p 3) 16 p 0) U (zTnm U p) hAs.2.2.1.1 hAs.2.2.1.2.2.2 hAs.2.2.2 ((hU.s (by omega)).q hp (by decide) (by decide) (by decide)) ((hcU.s (by decide)).q (by omega)) (((zsame.rf U).s (by decide)).q) (mc - 10) (ms - 60) (by omega) (fun h1 h2 => by have := hm3 ⟨p, hp, rfl, h1⟩ (by rw [← hAs.2.1]; exact h2); omega)) rfl hk1 rfl ⟨rfl, by simp [zokv, zpush], by simp [lv_args, Value.category, zokv, hk1]⟩ (Nat.le_of_ble_eq_true rfl) ⟨Nat.le_of_ble_eq_true rfl, Nat.le_of_ble_eq_true rfl⟩ ⟨by show _ ≤ mc; omega, by show _ ≤ ms; omega⟩ (fun r d hP9 => ?_) (fun E d hX => hX0 _ _ (Or.inr ⟨p, hp, rfl, hX.sp hAs⟩))
  obtain ⟨hFa, hfit, b, R, m9, K, rfl, hO, hx, hR, hl1, hl2⟩ := hP9
  refine zJ_astore_n (ls2 := fun q9 => [(2, .ref q9), (0, .ref 0), (1, .int (nI p))]) dX8_named_48 (by decide) (fun _ => rfl) (fun q9 eq9 => ?_)
  obtain rfl := eq9.symm
  refine zJ_aload_n dX8_named_49 rfl ?_
  refine zJ_iconst (v := 0) dX8_named_50 (by decide) ?_
  refine zJ_st (st2 := [.int (nI 0), .ref b]) rfl ?_
  refine zJ_eV1 dX8_named_51 sX8_200 mfX1_reckon (o_reckon Δ d b R m9 U (zTnm U p) K hO 0 (by decide)) hO.1.1.1 rfl (Nat.le_of_ble_eq_true rfl) ⟨Nat.le_of_ble_eq_true rfl, Nat.le_of_ble_eq_true rfl⟩ ⟨by show _ ≤ mc; omega, by show _ ≤ ms; omega⟩ (fun r e hP9 => ?_)
  obtain ⟨rfl, hf, hO2, hcs, W, hW3, hWP, hup⟩ := hP9
  have hWk : W.testBit (zfk (zTnm U p)).1 = true := hW3 p (by omega) (by simp [zTnm, zTn1, zTq])
  have hch : zCh e b (zTnm U p) K (zfk (zTnm U p)) W := (hup.mono (Nat.zero_le 1)).ch hO2.1.2.2.2.1 (zall_0 hO2.1.2.2.2.1)
  refine zJ_aload_n dX8_named_54 rfl ?_
  refine zJ_iconst (v := 0) dX8_named_55 (by decide) ?_
  refine zJ_st (st2 := [.int (nI 0), .ref b]) rfl ?_
  refine zJ_cV1 dX8_named_56 sX8_229 mfX1_likedMost (c_Play_likedMost Δ e b R m9 (zTnm U p) K hO2.1 0 (zfk (zTnm U p)) (zall_0 hO2.1.2.2.2.1) W hch (by simp [zTnm, zTn1, zTq, zTs, zfk]) hWk) hO2.1.1.1 rfl (Nat.le_of_ble_eq_true rfl) ⟨Nat.le_of_ble_eq_true rfl, Nat.le_of_ble_eq_true rfl⟩ ⟨by show _ ≤ mc; omega, by show _ ≤ ms; omega⟩ ?_
  have hT9 : zTok (zTnm U p) := (hU.s (by omega)).q hp (by decide) (by decide) (by decide)
  have hPS := hO2.1.1
  have hs3 : (zTnm U p).2.1 (zfk (zTnm U p)).1 = 3 := by simp [zTnm, zTn1, zTq, zTs, zfk]
  have hU5 := hU.2.1
  cases hzl : zli (zTnm U p) (zfk (zTnm U p)) (zce (zTnm U p) (zfk (zTnm U p))) (zcg (zTnm U p) (zfk (zTnm U p))) 8 with
  | none =>
    have hzn : znm (zTnm U p) = -1 := by simp only [znm, hzl]
    refine zJ_istore_n (ls2 := fun x59n => [(3, .int x59n), (2, .ref b), (0, .ref 0), (1, .int (nI p))]) dX8_named_59 (by decide) (fun _ => rfl) (fun x59n ex59n => ?_)
    obtain rfl : x59n = (-1) := ex59n
    refine zJ_iload_n dX8_named_60 rfl ?_
    refine zJ_if_ge (tgt := 68) dX8_named_61 (by decide) (fun h9 => False.elim (by revert h9; decide)) (fun _ => ?_)
    refine zJ_ldc2 dX8_named_64 kX8_232 ?_
    exact zJ_lret dX8_named_67 rfl (by show _ ≤ mc; omega) (by show _ ≤ ms; omega) (by obtain ⟨g1, g2⟩ := zfin hAs hFa hf hO2 hx hR; exact hQ _ _ ⟨g1, g2, p, hp, rfl, hfit, zlf hAs hl1 hl2 hf, by rw [hzn]; rfl⟩)
  | some q =>
    obtain ⟨hq8, hqm⟩ := zli_may _ _ _ _ _ _ hzl
    have hkk := zkok.fk hT9
    have hrg := zwo_rng hT9 (k := zfk (zTnm U p)) (zce_le hT9 hkk hq8 hqm) (zcg_rng hT9 hkk hq8 hqm)
    have hzn : znm (zTnm U p) = if 1000 * (U.1 5 : Int) - zwo (zTnm U p) (zfk (zTnm U p)) (zce (zTnm U p) (zfk (zTnm U p))) (zcg (zTnm U p) (zfk (zTnm U p))) q < 0 then 0 else (1000 * (U.1 5 : Int) - zwo (zTnm U p) (zfk (zTnm U p)) (zce (zTnm U p) (zfk (zTnm U p))) (zcg (zTnm U p) (zfk (zTnm U p))) q).tdiv 1000 + 1 := by simp only [znm, hzl]; rfl
    have hr1 : -9223372036854775808 ≤ 1000 * (U.1 5 : Int) - zwo (zTnm U p) (zfk (zTnm U p)) (zce (zTnm U p) (zfk (zTnm U p))) (zcg (zTnm U p) (zfk (zTnm U p))) q := by omega
    have hr2 : 1000 * (U.1 5 : Int) - zwo (zTnm U p) (zfk (zTnm U p)) (zce (zTnm U p) (zfk (zTnm U p))) (zcg (zTnm U p) (zfk (zTnm U p))) q < 9223372036854775808 := by omega
    refine zJ_istore_n (ls2 := fun x59z => [(3, .int x59z), (2, .ref b), (0, .ref 0), (1, .int (nI p))]) dX8_named_59 (by decide) (fun _ => rfl) (fun x59z ex59z => ?_)
    obtain rfl : x59z = (nI q) := ex59z
    refine zJ_iload_n dX8_named_60 rfl ?_
    refine zJ_if_ge (tgt := 68) dX8_named_61 (by decide) (fun h61z => ?_) (fun h61z => ?_)
    · refine zJ_ldc2 dX8_named_68 kX8_234 ?_
      refine zJ_aload_n dX8_named_71 rfl ?_
      refine zJ_getr dX8_named_72 fX8_32 (by first | rfl | assumption | exact hC.1 _ (by decide) | exact hAs.2.2.1.1.1 _ (by decide) | exact (zfin hAs hFa hf hO2 hx hR).2.1.1 _ (by decide)) rfl (by first | rfl | assumption | exact hC.2 _ _ rfl | exact hAs.2.2.1.1.2 _ _ rfl | exact (zfin hAs hFa hf hO2 hx hR).2.1.2 _ _ rfl) ?_
      refine zJ_geti dX8_named_75 fX8_120 (by first | rfl | assumption | exact hC.1 _ (by decide) | exact hAs.2.2.1.1.1 _ (by decide) | exact (zfin hAs hFa hf hO2 hx hR).2.1.1 _ (by decide)) rfl ?_
      rw [(zfin hAs hFa hf hO2 hx hR).2.2.1.2.1 5 (by decide) (by decide)]
      refine zJ_i2l dX8_named_78 ?_
      rw [nI_l (show U.1 5 < 2 ^ 31 by omega)]
      refine zJ_lmul dX8_named_79 ?_
      refine zJ_aload_n dX8_named_80 rfl ?_
      refine zJ_iconst (v := 0) dX8_named_81 (by decide) ?_
      refine zJ_iload_n dX8_named_82 rfl ?_
      refine zJ_cV2 dX8_named_83 sX8_236 mfX1_worthOf (c_Play_worthOf Δ e b R m9 (zTnm U p) K hO2.1 0 (zfk (zTnm U p)) (zall_0 hO2.1.2.2.2.1) W hch hs3 hWk q hq8 hqm) hO2.1.1.1 rfl (Nat.le_of_ble_eq_true rfl) ⟨Nat.le_of_ble_eq_true rfl, Nat.le_of_ble_eq_true rfl⟩ ⟨by show _ ≤ mc; omega, by show _ ≤ ms; omega⟩ ?_
      rw [show (1000 : Int64) = lZ 1000 from rfl, lZ_n, lZ_mul]
      refine zJ_lsub dX8_named_86 ?_
      rw [lZ_sub]
      refine zJ_lstore (ls2 := fun x87z => [(4, .long x87z), (3, .int (nI q)), (2, .ref b), (0, .ref 0), (1, .int (nI p))]) dX8_named_87 (by decide) (fun _ => rfl) (fun x87z ex87z => ?_)
      obtain rfl : x87z = (lZ (1000 * (U.1 5 : Int) - zwo (zTnm U p) (zfk (zTnm U p)) (zce (zTnm U p) (zfk (zTnm U p))) (zcg (zTnm U p) (zfk (zTnm U p))) q)) := ex87z
      refine zJ_lload dX8_named_89 rfl ?_
      refine zJ_lconst (v := 0) dX8_named_91 (by decide) ?_
      refine zJ_lc_ge (tgt := 100) dX8_named_92 dX8_named_93 (by decide) (fun h93z => ?_) (fun h93z => ?_)
      · have hpos9 : _ := (lZ_le (show -9223372036854775808 ≤ (0 : Int) by decide) (by decide) hr1 hr2).mp h93z
        refine zJ_lload dX8_named_100 rfl ?_
        refine zJ_ldc2 dX8_named_102 kX8_234 ?_
        rw [show (1000 : Int64) = lZ 1000 from rfl]
        refine zJ_ldiv dX8_named_105 (by decide) ?_
        rw [lZ_div (by omega) (by omega) (by decide) (by decide)]
        refine zJ_lconst (v := 1) dX8_named_106 (by decide) ?_
        refine zJ_ladd dX8_named_107 ?_
        rw [show (1 : Int64) = lZ 1 from rfl, lZ_add]
        exact zJ_lret dX8_named_108 rfl (by show _ ≤ mc; omega) (by show _ ≤ ms; omega) (by obtain ⟨g1, g2⟩ := zfin hAs hFa hf hO2 hx hR; exact hQ _ _ ⟨g1, g2, p, hp, rfl, hfit, zlf hAs hl1 hl2 hf, by rw [hzn]; rw [if_neg (show ¬ _ < (0 : Int) by omega)]⟩)
      · have hneg : _ := (lZ_lt hr1 hr2 (show -9223372036854775808 ≤ (0 : Int) by decide) (by decide)).mp (Int64.not_le.mp h93z)
        refine zJ_lconst (v := 0) dX8_named_96 (by decide) ?_
        refine zJ_goto (tgt := 108) dX8_named_97 (by decide) ?_
        exact zJ_lret dX8_named_108 rfl (by show _ ≤ mc; omega) (by show _ ≤ ms; omega) (by obtain ⟨g1, g2⟩ := zfin hAs hFa hf hO2 hx hR; exact hQ _ _ ⟨g1, g2, p, hp, rfl, hfit, zlf hAs hl1 hl2 hf, by rw [hzn]; rw [if_pos hneg]; rfl⟩)
    · exact absurd ((nI_leI (a := 0) (b := q) (by decide) (by omega)).mpr (Nat.zero_le _)) h61z
