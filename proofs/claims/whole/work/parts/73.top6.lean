/-! LetterTown: what asks no Play -/
set_option maxRecDepth 100000 in
theorem c_fault (Δ : zD) (w : zW) (hC : zCs w) : zMd Δ 0 0 0 true yX8_fault mX8_fault [.ref 0] w (some (.int (w.2.1 0 2))) w := by
  refine zMd.of mfX8_fault (Nat.le_of_ble_eq_true rfl) (fun QR hQ => ?_)
  refine zJ_aload_n dX8_fault_0 rfl ?_
  refine zJ_geti dX8_fault_1 fX8_13 (by first | rfl | assumption | exact hC.1 _ (by decide)) rfl ?_
  exact zJ_iret dX8_fault_4 rfl (by decide) (by decide) hQ
set_option maxRecDepth 100000 in
theorem c_person (Δ : zD) (w : zW) (U : zTo) (hB : zB w U) (x y : Int32) : zM Δ 7 10 60 true yX8_person mX8_person [.ref 0, .int x, .int y] w (fun r d => d = w ∧ ∃ p q, p < U.1 0 ∧ x = nI p ∧ q ≤ 2 ∧ y = nI q ∧ r = some (.int (nI (if q = 0 then U.2.1 p else if q = 1 then U.2.2.1 p else zkn U p)))) (fun E d => E = zNS ∧ d = w ∧ ¬ ((∃ p, p < U.1 0 ∧ x = nI p) ∧ ∃ q, q ≤ 2 ∧ y = nI q)) := by
  refine zM.of mfX8_person (Nat.le_of_ble_eq_true rfl) ?_
  have hC := hB.1
  have hU := hB.2.2.1.1
  have hp0 := hB.2.1.2.1 0 (by decide) (by decide)
  have hp8 := hU.1
  have hk0 := hC.1 0 (by decide)
  refine zJ_aload_n dX8_person_0 rfl ?_
  refine zJ_iload_n dX8_person_1 rfl ?_
  refine zJ_xV1 dX8_person_2 sX8_158 pX8_158 mfX8_needPerson (c_needPerson Δ w hC x (U.1 0) hp0 hp8) rfl hk0 rfl (Nat.le_of_ble_eq_true rfl) ⟨Nat.le_of_ble_eq_true rfl, Nat.le_of_ble_eq_true rfl⟩ (by decide) (fun r c9 hP => ?_) (fun E c9 hX => ⟨hX.1, hX.2.1, fun h => hX.2.2 h.1⟩)
  obtain ⟨rfl, hw9, hP⟩ := hP
  obtain rfl := hw9.symm
  obtain ⟨p, hp, rfl⟩ := hP
  have cp : (nI p).toNatClampNeg = p := nI_clamp (by omega)
  refine zJ_aload_n dX8_person_5 rfl ?_
  refine zJ_iload_n dX8_person_6 rfl ?_
  refine zJ_iconst (v := 2) dX8_person_7 (by decide) ?_
  refine zJ_xV2 dX8_person_8 sX8_161 pX8_161 mfX8_needWhat (c_needWhat Δ w hC y 2 (by decide)) rfl hk0 rfl (Nat.le_of_ble_eq_true rfl) ⟨Nat.le_of_ble_eq_true rfl, Nat.le_of_ble_eq_true rfl⟩ (by decide) (fun r c9 hP => ?_) (fun E c9 hX => ⟨hX.1, hX.2.1, fun h => hX.2.2 h.2⟩)
  obtain ⟨rfl, hw9, hP⟩ := hP
  obtain rfl := hw9.symm
  obtain ⟨q, hq, rfl⟩ := hP
  refine zJ_iload_n dX8_person_11 rfl ?_
  refine zJ_if_ne (tgt := 25) dX8_person_12 (by decide) (fun h12 => ?_) (fun h12 => ?_)
  · have hq0 : ¬ q = 0 := fun h => h12 (by rw [h]; rfl)
    refine zJ_iload_n dX8_person_25 rfl ?_
    refine zJ_iconst (v := 1) dX8_person_26 (by decide) ?_
    refine zJ_icmp_ne (tgt := 42) dX8_person_27 (by decide) (fun h27 => ?_) (fun h27 => ?_)
    · have hq1 : ¬ q = 1 := fun h => h27 (by rw [h]; rfl)
      refine zJ_aload_n dX8_person_42 rfl ?_
      refine zJ_getr dX8_person_43 fX8_32 (by first | rfl | assumption | exact hC.1 _ (by decide)) rfl (by first | rfl | assumption | exact hC.2 _ _ rfl) ?_
      refine zJ_getr dX8_person_46 fX8_170 (by first | rfl | assumption | exact hC.1 _ (by decide)) rfl (by first | rfl | assumption | exact hC.2 _ _ rfl) ?_
      refine zJ_iload_n dX8_person_49 rfl ?_
      refine zJ_iald dX8_person_50 (by first | rfl | assumption | exact hC.1 _ (by decide)) (vp_in_nI (by omega) (by decide)) ?_
      rw [cp, show w.2.1 12 p = nI (zkn U p) from hB.2.1.2.2.2.2.1 p (by omega)]
      exact zJ_iret dX8_person_51 rfl (by decide) (by decide) ⟨rfl, p, q, hp, rfl, hq, rfl, by simp [hq0, hq1]⟩
    · have hq1 : q = 1 := (nI_eq (b := 1) (by omega) (by decide)).mp h27
      refine zJ_aload_n dX8_person_30 rfl ?_
      refine zJ_getr dX8_person_31 fX8_32 (by first | rfl | assumption | exact hC.1 _ (by decide)) rfl (by first | rfl | assumption | exact hC.2 _ _ rfl) ?_
      refine zJ_getr dX8_person_34 fX8_167 (by first | rfl | assumption | exact hC.1 _ (by decide)) rfl (by first | rfl | assumption | exact hC.2 _ _ rfl) ?_
      refine zJ_iload_n dX8_person_37 rfl ?_
      refine zJ_iald dX8_person_38 (by first | rfl | assumption | exact hC.1 _ (by decide)) (vp_in_nI (by omega) (by decide)) ?_
      rw [cp, show w.2.1 11 p = nI (U.2.2.1 p) from hB.2.1.2.2.2.1 p (by omega)]
      refine zJ_goto (tgt := 51) dX8_person_39 (by decide) ?_
      exact zJ_iret dX8_person_51 rfl (by decide) (by decide) ⟨rfl, p, q, hp, rfl, hq, rfl, by simp [hq1]⟩
  · have hq0 : q = 0 := (nI_eq (b := 0) (by omega) (by decide)).mp h12
    refine zJ_aload_n dX8_person_15 rfl ?_
    refine zJ_getr dX8_person_16 fX8_32 (by first | rfl | assumption | exact hC.1 _ (by decide)) rfl (by first | rfl | assumption | exact hC.2 _ _ rfl) ?_
    refine zJ_getr dX8_person_19 fX8_164 (by first | rfl | assumption | exact hC.1 _ (by decide)) rfl (by first | rfl | assumption | exact hC.2 _ _ rfl) ?_
    refine zJ_iload_n dX8_person_22 rfl ?_
    refine zJ_iald dX8_person_23 (by first | rfl | assumption | exact hC.1 _ (by decide)) (vp_in_nI (by omega) (by decide)) ?_
    rw [cp, show w.2.1 10 p = nI (U.2.1 p) from hB.2.1.2.2.1 p (by omega)]
    exact zJ_iret dX8_person_24 rfl (by decide) (by decide) ⟨rfl, p, q, hp, rfl, hq, rfl, by simp [hq0]⟩
set_option maxRecDepth 100000 in
theorem c_weight (Δ : zD) (w : zW) (U : zTo) (hB : zB w U) (x y : Int32) : zM Δ 7 10 60 true yX8_weight mX8_weight [.ref 0, .int x, .int y] w (fun r d => d = w ∧ ∃ p q, p < U.1 0 ∧ x = nI p ∧ q < U.1 0 ∧ y = nI q ∧ r = some (.int (nI (U.2.2.2 (p * 8 + q))))) (fun E d => E = zNS ∧ d = w ∧ ¬ ((∃ p, p < U.1 0 ∧ x = nI p) ∧ ∃ q, q < U.1 0 ∧ y = nI q)) := by
  refine zM.of mfX8_weight (Nat.le_of_ble_eq_true rfl) ?_
  have hC := hB.1
  have hU := hB.2.2.1.1
  have hp0 := hB.2.1.2.1 0 (by decide) (by decide)
  have hp8 := hU.1
  have hk0 := hC.1 0 (by decide)
  refine zJ_aload_n dX8_weight_0 rfl ?_
  refine zJ_iload_n dX8_weight_1 rfl ?_
  refine zJ_xV1 dX8_weight_2 sX8_158 pX8_158 mfX8_needPerson (c_needPerson Δ w hC x (U.1 0) hp0 hp8) rfl hk0 rfl (Nat.le_of_ble_eq_true rfl) ⟨Nat.le_of_ble_eq_true rfl, Nat.le_of_ble_eq_true rfl⟩ (by decide) (fun r c9 hP => ?_) (fun E c9 hX => ⟨hX.1, hX.2.1, fun h => hX.2.2 h.1⟩)
  obtain ⟨rfl, hw9, hP⟩ := hP
  obtain rfl := hw9.symm
  obtain ⟨p, hp, rfl⟩ := hP
  refine zJ_aload_n dX8_weight_5 rfl ?_
  refine zJ_iload_n dX8_weight_6 rfl ?_
  refine zJ_xV1 dX8_weight_7 sX8_158 pX8_158 mfX8_needPerson (c_needPerson Δ w hC y (U.1 0) hp0 hp8) rfl hk0 rfl (Nat.le_of_ble_eq_true rfl) ⟨Nat.le_of_ble_eq_true rfl, Nat.le_of_ble_eq_true rfl⟩ (by decide) (fun r c9 hP => ?_) (fun E c9 hX => ⟨hX.1, hX.2.1, fun h => hX.2.2 h.2⟩)
  obtain ⟨rfl, hw9, hP⟩ := hP
  obtain rfl := hw9.symm
  obtain ⟨q, hq, rfl⟩ := hP
  refine zJ_aload_n dX8_weight_10 rfl ?_
  refine zJ_getr dX8_weight_11 fX8_32 (by first | rfl | assumption | exact hC.1 _ (by decide)) rfl (by first | rfl | assumption | exact hC.2 _ _ rfl) ?_
  refine zJ_getr dX8_weight_14 fX8_173 (by first | rfl | assumption | exact hC.1 _ (by decide)) rfl (by first | rfl | assumption | exact hC.2 _ _ rfl) ?_
  refine zJ_iload_n dX8_weight_17 rfl ?_
  refine zJ_bipush (v := 8) dX8_weight_18 (by decide) ?_
  refine zJ_imul dX8_weight_20 ?_
  refine zJ_iload_n dX8_weight_21 rfl ?_
  refine zJ_iadd dX8_weight_22 ?_
  rw [show nI p * 8 = nI (p * 8) from na_mul p 8, na_add]
  refine zJ_iald dX8_weight_23 (by first | rfl | assumption | exact hC.1 _ (by decide)) (vp_in_nI (by omega) (by decide)) ?_
  rw [nI_clamp (show p * 8 + q < 2 ^ 31 by omega), show w.2.1 13 (p * 8 + q) = nI (U.2.2.2 (p * 8 + q)) from hB.2.1.2.2.2.2.2 _ (by omega)]
  exact zJ_iret dX8_weight_24 rfl (by decide) (by decide) ⟨rfl, p, q, hp, rfl, hq, rfl, rfl⟩
set_option maxRecDepth 100000 in
theorem c_hand (Δ : zD) (w : zW) (U : zTo) (hB : zB w U) (x : Int32) (n : Nat) (hn : n ≤ 20) (h1 : w.2.1 38 1 = nI n) : zM Δ 7 10 60 true yX8_hand mX8_hand [.ref 0, .int x] w (fun r d => ∃ p, p < U.1 0 ∧ x = nI p ∧ ((n = 20 ∧ r = some (.int (-1)) ∧ d = zsi w 2 1 (w.2.1 2 1 + 1)) ∨ (n < 20 ∧ r = some (.int (nI (n + 1))) ∧ d = zsi (zsi w 39 n (nI p)) 38 1 (nI (n + 1))))) (fun E d => E = zNS ∧ d = w ∧ ¬ ∃ p, p < U.1 0 ∧ x = nI p) := by
  refine zM.of mfX8_hand (Nat.le_of_ble_eq_true rfl) ?_
  have hC := hB.1
  have hU := hB.2.2.1.1
  have hp0 := hB.2.1.2.1 0 (by decide) (by decide)
  have hp8 := hU.1
  have hk0 := hC.1 0 (by decide)
  refine zJ_aload_n dX8_hand_0 rfl ?_
  refine zJ_iload_n dX8_hand_1 rfl ?_
  refine zJ_xV1 dX8_hand_2 sX8_158 pX8_158 mfX8_needPerson (c_needPerson Δ w hC x (U.1 0) hp0 hp8) rfl hk0 rfl (Nat.le_of_ble_eq_true rfl) ⟨Nat.le_of_ble_eq_true rfl, Nat.le_of_ble_eq_true rfl⟩ (by decide) (fun r c9 hP => ?_) (fun E c9 hX => ⟨hX.1, hX.2.1, hX.2.2⟩)
  obtain ⟨rfl, hw9, hP⟩ := hP
  obtain rfl := hw9.symm
  obtain ⟨p, hp, rfl⟩ := hP
  refine zJ_aload_n dX8_hand_5 rfl ?_
  refine zJ_getr dX8_hand_6 fX8_51 (by first | rfl | assumption | exact hC.1 _ (by decide)) rfl (by first | rfl | assumption | exact hC.2 _ _ rfl) ?_
  refine zJ_iload_n dX8_hand_9 rfl ?_
  by_cases hn20 : n = 20
  · refine zJ_cV1 dX8_hand_10 sX8_239 mfX3_add (c_Rows_add0 Δ w hC (nI p) (by rw [h1, hn20]; rfl)) (hC.1 _ (by decide)) rfl (Nat.le_of_ble_eq_true rfl) (by decide) (by decide) ?_
    refine zJ_if_ne (tgt := 28) dX8_hand_13 (by decide) (fun h9 => False.elim (by revert h9; decide)) (fun _ => ?_)
    refine zJ_aload_n dX8_hand_16 rfl ?_
    refine zJ_getr dX8_hand_17 fX8_17 (by first | rfl | assumption | exact hC.1 _ (by decide)) rfl (by first | rfl | assumption | exact hC.2 _ _ rfl) ?_
    refine zJ_iconst (v := 1) dX8_hand_20 (by decide) ?_
    refine zJ_dup2_11 dX8_hand_21 rfl rfl ?_
    refine zJ_iald dX8_hand_22 (by first | rfl | assumption | exact hC.1 _ (by decide)) (vp_in_nI (n := 1) (by decide) (by decide)) ?_
    refine zJ_iconst (v := 1) dX8_hand_23 (by decide) ?_
    refine zJ_iadd dX8_hand_24 ?_
    refine zJ_iast dX8_hand_25 (by first | rfl | assumption | exact hC.1 _ (by decide)) (vp_in_nI (n := 1) (by decide) (by decide)) ?_
    refine zJ_iconst (v := (-1)) dX8_hand_26 (by decide) ?_
    exact zJ_iret dX8_hand_27 rfl (by decide) (by decide) ⟨p, hp, rfl, Or.inl ⟨hn20, rfl, rfl⟩⟩
  · have hn20 : n < 20 := by omega
    refine zJ_cV1 dX8_hand_10 sX8_239 mfX3_add (c_Rows_add Δ w hC n (nI p) h1 hn20) (hC.1 _ (by decide)) rfl (Nat.le_of_ble_eq_true rfl) (by decide) (by decide) ?_
    refine zJ_if_ne (tgt := 28) dX8_hand_13 (by decide) (fun _ => ?_) (fun h9 => False.elim (by revert h9; decide))
    refine zJ_aload_n dX8_hand_28 rfl ?_
    refine zJ_getr dX8_hand_29 fX8_51 (by first | rfl | assumption | exact hC.1 _ (by decide)) rfl (by first | rfl | assumption | exact hC.2 _ _ rfl) ?_
    refine zJ_geti dX8_hand_32 fX8_144 (by first | rfl | assumption | exact hC.1 _ (by decide)) rfl ?_
    rw [show (zsi (zsi w 39 n (nI p)) 38 1 (nI (n + 1))).2.1 38 1 = nI (n + 1) by simp [zsi]]
    exact zJ_iret dX8_hand_35 rfl (by decide) (by decide) ⟨p, hp, rfl, Or.inr ⟨hn20, rfl, rfl⟩⟩
set_option maxRecDepth 100000 in
theorem c_judge (Δ : zD) (w : zW) (U : zTo) (hB : zB w U) (n : Nat) (f : Nat → Nat) (hn : n ≤ 20) (h1 : w.2.1 38 1 = nI n) (hf : ∀ i, i < n → w.2.1 39 i = nI (f i)) (hf8 : ∀ i, f i < 8) : zMd Δ 3 0 0 true yX8_judge mX8_judge [.ref 0] w (some (.int (zji (zjd U f n)))) w := by
  refine zMd.of mfX8_judge (Nat.le_of_ble_eq_true rfl) (fun QR hQ => ?_)
  have hC := hB.1
  refine zJ_aload_n dX8_judge_0 rfl ?_
  refine zJ_getr dX8_judge_1 fX8_51 (by first | rfl | assumption | exact hC.1 _ (by decide)) rfl (by first | rfl | assumption | exact hC.2 _ _ rfl) ?_
  refine zJ_aload_n dX8_judge_4 rfl ?_
  refine zJ_getr dX8_judge_5 fX8_32 (by first | rfl | assumption | exact hC.1 _ (by decide)) rfl (by first | rfl | assumption | exact hC.2 _ _ rfl) ?_
  refine zJ_cV1 dX8_judge_8 sX8_243 mfX3_firstWrong (c_Rows_firstWrong Δ w hC 9 n f U hB.2.1 hB.2.2.1.1 hn h1 hf hf8) (by first | rfl | assumption | exact hC.1 _ (by decide)) rfl (Nat.le_of_ble_eq_true rfl) (by decide) (by decide) ?_
  exact zJ_iret dX8_judge_11 rfl (by decide) (by decide) hQ
set_option maxRecDepth 100000 in
theorem c_ended (Δ : zD) (w : zW) (hC : zCs w) (n e : Nat) (h1 : w.2.1 38 1 = nI n) (hn : n ≤ 20) (h4 : w.2.1 38 4 = nI e) (he : e ≤ 20) : zMp Δ 2 yX8_ended mX8_ended [.ref 0] w (fun r d => (e = 20 ∧ r = some (.int (-1)) ∧ d = w) ∨ (e < 20 ∧ r = some (.int (nI (e + 1))) ∧ d = zsi (zsi (zsi (zcp w 39 40 0 (e * 20) n) 41 e (nI n)) 38 4 (nI (e + 1))) 38 1 0)) := by
  refine zMp.of mfX8_ended (Nat.le_of_ble_eq_true rfl) (fun QR hQ => ?_)
  refine zJ_aload_n dX8_ended_0 rfl ?_
  refine zJ_getr dX8_ended_1 fX8_51 (by first | rfl | assumption | exact hC.1 _ (by decide)) rfl (by first | rfl | assumption | exact hC.2 _ _ rfl) ?_
  by_cases he20 : e = 20
  · refine zJ_cV0 dX8_ended_4 sX8_257 mfX3_end (c_Rows_end0 Δ w hC (by rw [h4, he20]; rfl)) (hC.1 _ (by decide)) rfl (Nat.le_of_ble_eq_true rfl) (by decide) (by decide) ?_
    refine zJ_if_eq (tgt := 20) dX8_ended_7 (by decide) (fun _ => ?_) (fun h9 => False.elim (by revert h9; decide))
    refine zJ_iconst (v := (-1)) dX8_ended_20 (by decide) ?_
    exact zJ_iret dX8_ended_21 rfl (by decide) (by decide) (hQ _ _ (Or.inl ⟨he20, rfl, rfl⟩))
  · have he20 : e < 20 := by omega
    refine zJ_cV0 dX8_ended_4 sX8_257 mfX3_end (c_Rows_end Δ w hC n e h1 hn h4 he20) (hC.1 _ (by decide)) rfl (Nat.le_of_ble_eq_true rfl) (by decide) (by decide) ?_
    refine zJ_if_eq (tgt := 20) dX8_ended_7 (by decide) (fun h9 => False.elim (by revert h9; decide)) (fun _ => ?_)
    refine zJ_aload_n dX8_ended_10 rfl ?_
    refine zJ_getr dX8_ended_11 fX8_51 (by first | rfl | assumption | exact hC.1 _ (by decide)) rfl (by first | rfl | assumption | exact hC.2 _ _ rfl) ?_
    refine zJ_geti dX8_ended_14 fX8_147 (by first | rfl | assumption | exact hC.1 _ (by decide)) rfl ?_
    rw [show (zsi (zsi (zsi (zcp w 39 40 0 (e * 20) n) 41 e (nI n)) 38 4 (nI (e + 1))) 38 1 0).2.1 38 4 = nI (e + 1) by simp [zsi]]
    refine zJ_goto (tgt := 21) dX8_ended_17 (by decide) ?_
    exact zJ_iret dX8_ended_21 rfl (by decide) (by decide) (hQ _ _ (Or.inr ⟨he20, rfl, rfl⟩))
set_option maxRecDepth 100000 in
theorem c_chained (Δ : zD) (w : zW) (U : zTo) (hB : zB w U) (x : Int32) (code len : Nat) (hl : len ≤ 12) (hc : code < 2 ^ 36) (h14 : w.2.2.1 0 14 = lN code) (h15 : w.2.1 0 15 = nI len) : zM Δ 6 10 60 true yX8_chained mX8_chained [.ref 0, .int x] w (fun r d => d = w ∧ ∃ i, i < len ∧ x = nI i ∧ r = some (.int (nI (code / 2 ^ (3 * (len - 1 - i)) % 8)))) (fun E d => E = zNS ∧ d = w ∧ ¬ ∃ i, i < len ∧ x = nI i) := by
  refine zM.of mfX8_chained (Nat.le_of_ble_eq_true rfl) ?_
  have hC := hB.1
  have hU := hB.2.2.1.1
  have hp0 := hB.2.1.2.1 0 (by decide) (by decide)
  have hp8 := hU.1
  have hk0 := hC.1 0 (by decide)
  refine zJ_iload_n dX8_chained_0 rfl ?_
  refine zJ_if_lt (tgt := 12) dX8_chained_1 (by decide) (fun h1_ => ?_) (fun h1_ => ?_)
  · have hno : ¬ ∃ i, i < len ∧ x = nI i := fun ⟨h, h1, h2⟩ => by
      rw [h2] at h1_
      exact absurd ((nI_ltI (b := 0) (by omega) (by decide)).mp h1_) (by omega)
    exact zJ_throwNW (text := "no such hand of THE CHAIN") (j := 22) dX8_chained_12 dX8_chained_15 dX8_chained_16 dX8_chained_19 dX8_chained_22 rfl rfl (by decide +kernel) (Nat.le_of_ble_eq_true rfl) (Nat.le_of_ble_eq_true rfl) (by decide) (by decide) ⟨rfl, rfl, hno⟩
  · refine zJ_iload_n dX8_chained_4 rfl ?_
    refine zJ_aload_n dX8_chained_5 rfl ?_
    refine zJ_geti dX8_chained_6 fX8_296 (by first | rfl | assumption | exact hC.1 _ (by decide)) rfl ?_
    rw [h15]
    refine zJ_icmp_lt (tgt := 23) dX8_chained_9 (by decide) (fun h9 => ?_) (fun h9 => ?_)
    · obtain ⟨i, hi31, rfl⟩ := nI_of h1_
      have hi : i < len := (nI_ltI (by omega) (by omega)).mp h9
      refine zJ_aload_n dX8_chained_23 rfl ?_
      refine zJ_getl dX8_chained_24 fX8_292 (by first | rfl | assumption | exact hC.1 _ (by decide)) rfl ?_
      rw [h14]
      refine zJ_iconst (v := 3) dX8_chained_27 (by decide) ?_
      refine zJ_aload_n dX8_chained_28 rfl ?_
      refine zJ_geti dX8_chained_29 fX8_296 (by first | rfl | assumption | exact hC.1 _ (by decide)) rfl ?_
      rw [h15]
      refine zJ_iconst (v := 1) dX8_chained_32 (by decide) ?_
      refine zJ_isub dX8_chained_33 ?_
      refine zJ_iload_n dX8_chained_34 rfl ?_
      refine zJ_isub dX8_chained_35 ?_
      refine zJ_imul dX8_chained_36 ?_
      rw [show nI len - 1 = nI (len - 1) from na_sub (b := 1) (by omega), na_sub (show i ≤ len - 1 by omega), show (3 : Int32) * nI (len - 1 - i) = nI (3 * (len - 1 - i)) from na_mul 3 _]
      refine zJ_lshr dX8_chained_37 ?_
      rw [lN_shr (by omega) (by omega)]
      refine zJ_l2i dX8_chained_38 ?_
      refine zJ_bipush (v := 7) dX8_chained_39 (by decide) ?_
      refine zJ_iand dX8_chained_41 ?_
      rw [show (lN (code / 2 ^ (3 * (len - 1 - i)))).toInt32 &&& 7 = nI (code / 2 ^ (3 * (len - 1 - i)) % 8) from na_who _]
      exact zJ_iret dX8_chained_42 rfl (by decide) (by decide) ⟨rfl, i, hi, rfl, rfl⟩
    · have hno : ¬ ∃ i, i < len ∧ x = nI i := fun ⟨h, h1, h2⟩ => by
        rw [h2] at h9
        exact h9 ((nI_ltI (by omega) (by omega)).mpr h1)
      exact zJ_throwNW (text := "no such hand of THE CHAIN") (j := 22) dX8_chained_12 dX8_chained_15 dX8_chained_16 dX8_chained_19 dX8_chained_22 rfl rfl (by decide +kernel) (Nat.le_of_ble_eq_true rfl) (Nat.le_of_ble_eq_true rfl) (by decide) (by decide) ⟨rfl, rfl, hno⟩
set_option maxRecDepth 100000 in
theorem c_image (Δ : zD) (w : zW) (hC : zCs w) (hb : w.2.1 53 0 = 0 ∨ w.2.1 53 0 = 1) : zMp Δ 2 yX8_image mX8_image [.ref 0] w (fun r d => (w.2.1 53 0 = 0 ∧ r = some (.int 0) ∧ d = w) ∨ (w.2.1 53 0 = 1 ∧ r = some (.int 1) ∧ d = zwcp w 57 53)) := by
  refine zMp.of mfX8_image (Nat.le_of_ble_eq_true rfl) (fun QR hQ => ?_)
  refine zJ_aload_n dX8_image_0 rfl ?_
  refine zJ_getr dX8_image_1 fX8_79 (by first | rfl | assumption | exact hC.1 _ (by decide)) rfl (by first | rfl | assumption | exact hC.2 _ _ rfl) ?_
  refine zJ_geti dX8_image_4 fX8_354 (by first | rfl | assumption | exact hC.1 _ (by decide)) rfl ?_
  refine zJ_if_ne (tgt := 12) dX8_image_7 (by decide) (fun h7 => ?_) (fun h7 => ?_)
  · have h1 : w.2.1 53 0 = 1 := hb.resolve_left h7
    refine zJ_aload_n dX8_image_12 rfl ?_
    refine zJ_getr dX8_image_13 fX8_83 (by first | rfl | assumption | exact hC.1 _ (by decide)) rfl (by first | rfl | assumption | exact hC.2 _ _ rfl) ?_
    refine zJ_aload_n dX8_image_16 rfl ?_
    refine zJ_getr dX8_image_17 fX8_79 (by first | rfl | assumption | exact hC.1 _ (by decide)) rfl (by first | rfl | assumption | exact hC.2 _ _ rfl) ?_
    refine zJ_cV1 dX8_image_20 sX8_373 mfX7_copy (c_Weeks_copy Δ w 57 (⟨hC.1 _ (by decide), hC.2 _ _ rfl, hC.2 _ _ rfl, hC.2 _ _ rfl, hC.1 _ (by decide), hC.1 _ (by decide), hC.1 _ (by decide)⟩ : zWk w 57) 53 (⟨hC.1 _ (by decide), hC.2 _ _ rfl, hC.2 _ _ rfl, hC.2 _ _ rfl, hC.1 _ (by decide), hC.1 _ (by decide), hC.1 _ (by decide)⟩ : zWk w 53) (by decide) hb) (by first | rfl | assumption | exact hC.1 _ (by decide)) rfl (Nat.le_of_ble_eq_true rfl) (by decide) (by decide) ?_
    refine zJ_iconst (v := 1) dX8_image_23 (by decide) ?_
    exact zJ_zret dX8_image_24 rfl rfl (by decide) (by decide) (hQ _ _ (Or.inr ⟨h1, rfl, rfl⟩))
  · have h0 : w.2.1 53 0 = 0 := h7
    refine zJ_iconst (v := 0) dX8_image_10 (by decide) ?_
    exact zJ_zret dX8_image_11 rfl rfl (by decide) (by decide) (hQ _ _ (Or.inl ⟨h0, rfl, rfl⟩))
set_option maxRecDepth 100000 in
theorem c_restore (Δ : zD) (w : zW) (hC : zCs w) (hb : w.2.1 57 0 = 0 ∨ w.2.1 57 0 = 1) : zMp Δ 2 yX8_restore mX8_restore [.ref 0] w (fun r d => (w.2.1 57 0 = 0 ∧ r = some (.int 0) ∧ d = w) ∨ (w.2.1 57 0 = 1 ∧ r = some (.int 1) ∧ d = zwcp w 53 57)) := by
  refine zMp.of mfX8_restore (Nat.le_of_ble_eq_true rfl) (fun QR hQ => ?_)
  refine zJ_aload_n dX8_restore_0 rfl ?_
  refine zJ_getr dX8_restore_1 fX8_83 (by first | rfl | assumption | exact hC.1 _ (by decide)) rfl (by first | rfl | assumption | exact hC.2 _ _ rfl) ?_
  refine zJ_geti dX8_restore_4 fX8_354 (by first | rfl | assumption | exact hC.1 _ (by decide)) rfl ?_
  refine zJ_if_ne (tgt := 12) dX8_restore_7 (by decide) (fun h7 => ?_) (fun h7 => ?_)
  · have h1 : w.2.1 57 0 = 1 := hb.resolve_left h7
    refine zJ_aload_n dX8_restore_12 rfl ?_
    refine zJ_getr dX8_restore_13 fX8_79 (by first | rfl | assumption | exact hC.1 _ (by decide)) rfl (by first | rfl | assumption | exact hC.2 _ _ rfl) ?_
    refine zJ_aload_n dX8_restore_16 rfl ?_
    refine zJ_getr dX8_restore_17 fX8_83 (by first | rfl | assumption | exact hC.1 _ (by decide)) rfl (by first | rfl | assumption | exact hC.2 _ _ rfl) ?_
    refine zJ_cV1 dX8_restore_20 sX8_373 mfX7_copy (c_Weeks_copy Δ w 53 (⟨hC.1 _ (by decide), hC.2 _ _ rfl, hC.2 _ _ rfl, hC.2 _ _ rfl, hC.1 _ (by decide), hC.1 _ (by decide), hC.1 _ (by decide)⟩ : zWk w 53) 57 (⟨hC.1 _ (by decide), hC.2 _ _ rfl, hC.2 _ _ rfl, hC.2 _ _ rfl, hC.1 _ (by decide), hC.1 _ (by decide), hC.1 _ (by decide)⟩ : zWk w 57) (by decide) hb) (by first | rfl | assumption | exact hC.1 _ (by decide)) rfl (Nat.le_of_ble_eq_true rfl) (by decide) (by decide) ?_
    refine zJ_iconst (v := 1) dX8_restore_23 (by decide) ?_
    exact zJ_zret dX8_restore_24 rfl rfl (by decide) (by decide) (hQ _ _ (Or.inr ⟨h1, rfl, rfl⟩))
  · have h0 : w.2.1 57 0 = 0 := h7
    refine zJ_iconst (v := 0) dX8_restore_10 (by decide) ?_
    exact zJ_zret dX8_restore_11 rfl rfl (by decide) (by decide) (hQ _ _ (Or.inl ⟨h0, rfl, rfl⟩))
set_option maxRecDepth 100000 in
theorem c_begin (Δ : zD) (w : zW) (U : zTo) (hB : zB w U) (s o : Int32) : zM Δ 6 10 60 true yX8_begin mX8_begin [.ref 0, .int s, .int o] w (fun r d => r = none ∧ 0 < U.1 0 ∧ ∃ ov, ov ≤ 20 ∧ o = nI ov ∧ d = (zrow (zsi (zsi (zsi (zsi w 53 0 1) 53 1 s) 53 2 (nI ov)) 53 3 0) (53 + 3) (fun k => if k < 8 then -1 else w.2.1 (53 + 3) k))) (fun E d => E = "java/lang/IllegalArgumentException" ∧ d = w ∧ ¬ (0 < U.1 0 ∧ ∃ ov, ov ≤ 20 ∧ o = nI ov)) := by
  refine zM.of mfX8_begin (Nat.le_of_ble_eq_true rfl) ?_
  have hC := hB.1
  have hU := hB.2.2.1.1
  have hp0 := hB.2.1.2.1 0 (by decide) (by decide)
  have hp8 := hU.1
  have hk0 := hC.1 0 (by decide)
  refine zJ_iload_n dX8_begin_0 rfl ?_
  refine zJ_if_lt (tgt := 20) dX8_begin_1 (by decide) (fun h1_ => ?_) (fun h1_ => ?_)
  · have hno : ¬ (0 < U.1 0 ∧ ∃ ov, ov ≤ 20 ∧ o = nI ov) := fun ⟨_, h, h1, h2⟩ => by
      rw [h2] at h1_
      exact absurd ((nI_ltI (b := 0) (by omega) (by decide)).mp h1_) (by omega)
    exact zJ_throwIW (text := "weeks not as told, or no PEOPLE") (j := 26) dX8_begin_20 dX8_begin_23 dX8_begin_24 dX8_begin_27 dX8_begin_30 rfl rfl (by decide +kernel) (Nat.le_of_ble_eq_true rfl) (Nat.le_of_ble_eq_true rfl) (by decide) (by decide) ⟨rfl, rfl, hno⟩
  · refine zJ_iload_n dX8_begin_4 rfl ?_
    refine zJ_bipush (v := 20) dX8_begin_5 (by decide) ?_
    refine zJ_icmp_gt (tgt := 20) dX8_begin_7 (by decide) (fun h7 => ?_) (fun h7 => ?_)
    · have hno : ¬ (0 < U.1 0 ∧ ∃ ov, ov ≤ 20 ∧ o = nI ov) := fun ⟨_, h, h1, h2⟩ => by
        rw [h2] at h7
        exact absurd ((nI_ltI (a := 20) (by decide) (by omega)).mp h7) (by omega)
      exact zJ_throwIW (text := "weeks not as told, or no PEOPLE") (j := 26) dX8_begin_20 dX8_begin_23 dX8_begin_24 dX8_begin_27 dX8_begin_30 rfl rfl (by decide +kernel) (Nat.le_of_ble_eq_true rfl) (Nat.le_of_ble_eq_true rfl) (by decide) (by decide) ⟨rfl, rfl, hno⟩
    · refine zJ_aload_n dX8_begin_10 rfl ?_
      refine zJ_getr dX8_begin_11 fX8_32 (by first | rfl | assumption | exact hC.1 _ (by decide)) rfl (by first | rfl | assumption | exact hC.2 _ _ rfl) ?_
      refine zJ_geti dX8_begin_14 fX8_117 (by first | rfl | assumption | exact hC.1 _ (by decide)) rfl ?_
      rw [hp0]
      refine zJ_if_ne (tgt := 31) dX8_begin_17 (by decide) (fun h17 => ?_) (fun h17 => ?_)
      · obtain ⟨ov, ho31, rfl⟩ := nI_of h1_
        have hov : ov ≤ 20 := (nI_leI (b := 20) (by omega) (by decide)).mp (Int32.not_lt.mp h7)
        have hpos : 0 < U.1 0 := Nat.pos_of_ne_zero fun h => h17 (by rw [h]; rfl)
        refine zJ_aload_n dX8_begin_31 rfl ?_
        refine zJ_getr dX8_begin_32 fX8_79 (by first | rfl | assumption | exact hC.1 _ (by decide)) rfl (by first | rfl | assumption | exact hC.2 _ _ rfl) ?_
        refine zJ_iload_n dX8_begin_35 rfl ?_
        refine zJ_iload_n dX8_begin_36 rfl ?_
        refine zJ_cV2 dX8_begin_37 sX8_350 mfX7_start (c_Weeks_start Δ w 53 (⟨hC.1 _ (by decide), hC.2 _ _ rfl, hC.2 _ _ rfl, hC.2 _ _ rfl, hC.1 _ (by decide), hC.1 _ (by decide), hC.1 _ (by decide)⟩ : zWk w 53) s (nI ov)) (by first | rfl | assumption | exact hC.1 _ (by decide)) rfl (Nat.le_of_ble_eq_true rfl) (by decide) (by decide) ?_
        exact zJ_vret dX8_begin_40 rfl (by decide) (by decide) ⟨rfl, hpos, ov, hov, rfl, rfl⟩
      · have hno : ¬ (0 < U.1 0 ∧ ∃ ov, ov ≤ 20 ∧ o = nI ov) := fun ⟨h, _⟩ => by
          have := (nI_eq (b := 0) (by omega) (by decide)).mp h17
          omega
        exact zJ_throwIW (text := "weeks not as told, or no PEOPLE") (j := 26) dX8_begin_20 dX8_begin_23 dX8_begin_24 dX8_begin_27 dX8_begin_30 rfl rfl (by decide +kernel) (Nat.le_of_ble_eq_true rfl) (Nat.le_of_ble_eq_true rfl) (by decide) (by decide) ⟨rfl, rfl, hno⟩
