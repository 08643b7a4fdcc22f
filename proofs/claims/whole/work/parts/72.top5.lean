
/-! LetterTown: all, chain, odds -/
def zTal (U : zTo) : zTo := (U.1, fun p => if p < U.1 0 then 3 else U.2.1 p, fun p => if p < U.1 0 ∧ U.2.1 p ≠ 3 then 0 else U.2.2.1 p, U.2.2.2)
theorem zTok.al {U : zTo} (h : zTok U) : zTok (zTal U) := by
  obtain ⟨h0, h5, h6, h7, h8, h9, h10, h11, h12, h13, hp, hw⟩ := h
  refine ⟨h0, h5, h6, h7, h8, h9, h10, h11, h12, h13, fun p => ?_, hw⟩
  obtain ⟨a1, a2, a3, a4⟩ := hp p
  simp only [zTal]
  by_cases hpp : p < U.1 0
  · simp only [hpp, if_true, true_and]
    refine ⟨Nat.le_refl _, ?_, fun h => absurd h (by decide), fun h => by omega⟩
    split <;> omega
  · simp only [hpp, if_false, false_and]
    exact ⟨a1, a2, a3, a4⟩
theorem zcan.al {U : zTo} (h : zcan U) : zcan (zTal U) := ⟨h.1, fun p hp => by
  simp only [zTal]
  split
  · rfl
  · exact h.2.1 p hp, h.2.2⟩
theorem zAs.al {w c : zW} {U T : zTo} (h : zAs w c U T) (hT : zTok T) : zAs w (zlr c 14 (T.1 0)) U (zTal T) := by
  refine h.tr (zAs.of h.2.2.1 rfl rfl (fun a j ha => ?_) ?_)
  · have h1 : ¬ a = 14 + 1 := by omega
    have h2 : ¬ a = 14 + 2 := by omega
    simp [zlr, zrow, h1, h2]
  · obtain ⟨h0, h1, h2, h3, h4, h5⟩ := h.2.2.2
    have hso : ∀ p, p < 8 → (c.2.1 15 p ≠ 3 ↔ T.2.1 p ≠ 3) := fun p hp => by
      rw [show c.2.1 15 p = nI (T.2.1 p) from h2 p hp]
      have := (hT.2.2.2.2.2.2.2.2.2.2.1 p).1
      rw [show (3 : Int32) = nI 3 from rfl, Ne, nI_eq (by omega) (by decide)]
    refine ⟨h0, fun j a b => ?_, fun p a => ?_, fun p a => ?_, fun p a => ?_, fun p a => ?_⟩
    · simp [zlr, zrow]; exact h1 j a b
    · by_cases hp : p < T.1 0
      · simp [zlr, zrow, zTal, hp]; rfl
      · simp [zlr, zrow, zTal, hp]; exact h2 p a
    · by_cases hp : p < T.1 0 ∧ T.2.1 p ≠ 3
      · have hp2 : p < T.1 0 ∧ c.2.1 (14 + 1) p ≠ 3 := ⟨hp.1, (hso p a).mpr hp.2⟩
        simp only [zlr, zrow, zTal]
        rw [if_pos hp]
        simp only [if_true]
        rw [if_pos hp2]; rfl
      · have hp2 : ¬ (p < T.1 0 ∧ c.2.1 (14 + 1) p ≠ 3) := fun h => hp ⟨h.1, (hso p a).mp h.2⟩
        simp only [zlr, zrow, zTal]
        rw [if_neg hp]
        simp only [if_true]
        rw [if_neg hp2]
        first | exact h3 p a | (rw [if_neg (by decide)]; exact h3 p a) | (simp; exact h3 p a)
    · simp [zlr, zrow]; exact h4 p a
    · simp [zlr, zrow]; exact h5 p a
theorem zlst_ok {T : zTo} : ∀ n k, zkok T k → zkok T (zlst T n k)
  | 0, k, h => h
  | n + 1, k, h => by
    simp only [zlst]
    cases hc : zcC T k with
    | none => exact h
    | some q => exact zlst_ok n _ (h.bk (zcC_may hc).1 (zcC_may hc).2)
set_option maxRecDepth 100000 in
theorem c_all (Δ : zD) (w : zW) (U : zTo) (hB : zB w U) (x : Int32) (mc ms : Nat) (hm : zRo w (¬ zfit (zTal U) 640) mc ms) : zM Δ 8 mc ms false yX8_all mX8_all [.ref 0, .int x] w (fun r d => zFb w d ∧ zB d U ∧ zLf w d (zTal U) ∧ zfit (zTal U) 20000 ∧ 0 < U.1 0 ∧ ∃ q, q ≤ 1 ∧ x = nI q ∧ r = some (.int (nI (if q = 0 then (zlst (zTal U) 11 (zfk (zTal U))).1 else (zlst (zTal U) 11 (zfk (zTal U))).2.1)))) (fun E d => (E = zNS ∧ d = w ∧ ¬ (0 < U.1 0 ∧ ∃ q, q ≤ 1 ∧ x = nI q)) ∨ ((0 < U.1 0 ∧ ∃ q, q ≤ 1 ∧ x = nI q) ∧ zSp w U (zTal U) E d)) := by
  refine zM.of mfX8_all (Nat.le_of_ble_eq_true rfl) ?_
  obtain ⟨⟨hm1, hm2⟩, hm3⟩ := hm
  have hC := hB.1
  have hU := hB.2.2.1.1
  have hcU := hB.2.2.1.2.1
  have h13 := hB.2.2.1.2.2
  have hp0 := hB.2.1.2.1 0 (by decide) (by decide)
  have hp8 := hU.1
  have hk0 := hC.1 0 (by decide)
  refine zJ_aload_n dX8_all_0 rfl ?_
  refine zJ_iload_n dX8_all_1 rfl ?_
  refine zJ_iconst (v := 1) dX8_all_2 (by decide) ?_
  refine zJ_xV2 dX8_all_3 sX8_161 pX8_161 mfX8_needWhat (c_needWhat Δ w hC x 1 (by decide)) rfl hk0 rfl (Nat.le_of_ble_eq_true rfl) ⟨Nat.le_of_ble_eq_true rfl, Nat.le_of_ble_eq_true rfl⟩ ⟨by show _ ≤ mc; omega, by show _ ≤ ms; omega⟩ (fun r c9 hP => ?_) (fun E c9 hX => Or.inl ⟨hX.1, hX.2.1, fun h => hX.2.2 h.2⟩)
  obtain ⟨rfl, hw9, hP⟩ := hP
  obtain rfl := hw9.symm
  obtain ⟨q, hq, rfl⟩ := hP
  refine zJ_aload_n dX8_all_6 rfl ?_
  refine zJ_xV0 dX8_all_7 sX8_189 pX8_189 mfX8_needPeople (c_needPeople Δ w hC (U.1 0) hp0 hp8) rfl hk0 rfl (Nat.le_of_ble_eq_true rfl) ⟨Nat.le_of_ble_eq_true rfl, Nat.le_of_ble_eq_true rfl⟩ ⟨by show _ ≤ mc; omega, by show _ ≤ ms; omega⟩ (fun r c9 hP => ?_) (fun E c9 hX => Or.inl ⟨hX.1, hX.2.1, fun h => hX.2.2 h.1⟩)
  obtain ⟨rfl, hw9, hP⟩ := hP
  obtain rfl := hw9.symm
  have hpos := hP
  refine zJ_aload_n dX8_all_10 rfl ?_
  refine zJ_getr dX8_all_11 fX8_36 (by first | rfl | assumption | exact hC.1 _ (by decide)) rfl (by first | rfl | assumption | exact hC.2 _ _ rfl) ?_
  refine zJ_aload_n dX8_all_14 rfl ?_
  refine zJ_getr dX8_all_15 fX8_32 (by first | rfl | assumption | exact hC.1 _ (by decide)) rfl (by first | rfl | assumption | exact hC.2 _ _ rfl) ?_
  refine zJ_cV1 dX8_all_18 sX8_110 mfX5_copy (c_Town_copy Δ w 14 9 (zTn14 hC) hB.2.1.1 (by decide)) (hC.1 14 (by decide)) rfl (Nat.le_of_ble_eq_true rfl) ⟨Nat.le_of_ble_eq_true rfl, Nat.le_of_ble_eq_true rfl⟩ ⟨by show _ ≤ mc; omega, by show _ ≤ ms; omega⟩ ?_
  refine zJ_aload_n dX8_all_21 rfl ?_
  refine zJ_getr dX8_all_22 fX8_36 (by first | rfl | assumption | exact hC.1 _ (by decide)) rfl (by first | rfl | assumption | exact hC.2 _ _ rfl) ?_
  refine zJ_cV0 dX8_all_25 sX8_206 mfX5_letAllReckon (c_Town_letAllReckon Δ (ztowc w 14 9) 14 (U.1 0) (zTn14 hC) ((zAs.copy hB).2.2.2.2.1 0 (by decide) (by decide)) hp8) (hC.1 14 (by decide)) rfl (Nat.le_of_ble_eq_true rfl) ⟨Nat.le_of_ble_eq_true rfl, Nat.le_of_ble_eq_true rfl⟩ ⟨by show _ ≤ mc; omega, by show _ ≤ ms; omega⟩ ?_
  refine zJ_aload_n dX8_all_28 rfl ?_
  have hAs := ((zAs.copy hB).al hU)
  have hk1 : (zlr (ztowc w 14 9) 14 (U.1 0)).1 0 = some (.inl 8) := hAs.2.2.1.1.1 0 (by decide)
  refine zJ_yV0 dX8_all_29 sX8_209 pX8_209 mfX8_lastHandOfAll (c_lastHandOfAll Δ (zlr (ztowc w 14 9) 14 (U.1 0)) U (zTal U) hAs.2.2.1 hAs.2.2.2 hU.al hcU.al ⟨rfl, rfl, rfl, rfl, rfl⟩ (fun p hp => by simp only [zTal]; exact if_pos hp) hpos (mc - 10) (ms - 60) (by omega) (by omega) (fun h1 h2 => by have := hm3 h1 (by rw [← hAs.2.1]; exact h2); omega)) rfl hk1 rfl ⟨rfl, by simp [zokv, zpush], by simp [lv_args, Value.category, zokv, hk1]⟩ (Nat.le_of_ble_eq_true rfl) ⟨Nat.le_of_ble_eq_true rfl, Nat.le_of_ble_eq_true rfl⟩ ⟨by show _ ≤ mc; omega, by show _ ≤ ms; omega⟩ (fun r d hP9 => ?_) (fun E d hX => Or.inr ⟨⟨hpos, q, hq, rfl⟩, ⟨hX.1, hX.2.1, hAs.1.tr hX.2.2.1, hX.2.2.2.1, hX.2.2.2.2⟩⟩)
  obtain ⟨hF9, hB9, hi9, hl9, hfit, rfl⟩ := hP9
  have hko : zkok (zTal U) (zlst (zTal U) 11 (zfk (zTal U))) := zlst_ok 11 _ (zgr_ok hU.al 0 _ (by simp [zgr]))
  have hPa := zenc_parts hU.al hko
  have hEl := zenc_lt hU.al hko
  have hlf : zLf w d (zTal U) := ⟨fun h => (hl9.1 h).trans hAs.2.1, hl9.2⟩
  refine zJ_lstore_n (ls2 := fun x32 => [(2, .long x32), (0, .ref 0), (1, .int (nI q))]) dX8_all_32 (by decide) (fun _ => rfl) (fun x32 ex32 => ?_)
  obtain rfl : x32 = (lN (zenc (zTal U) (zlst (zTal U) 11 (zfk (zTal U))))) := ex32
  refine zJ_iload_n dX8_all_33 rfl ?_
  refine zJ_if_ne (tgt := 44) dX8_all_34 (by decide) (fun h34 => ?_) (fun h34 => ?_)
  · have hq0 : ¬ q = 0 := fun h => h34 (by rw [h]; rfl)
    refine zJ_lload_n dX8_all_44 rfl ?_
    refine zJ_cS1 dX8_all_45 sX8_218 mfX6_handOf (c_Ways_handOf Δ d (zenc (zTal U) (zlst (zTal U) 11 (zfk (zTal U)))) (by omega)) (Nat.le_of_ble_eq_true rfl) ⟨Nat.le_of_ble_eq_true rfl, Nat.le_of_ble_eq_true rfl⟩ ⟨by show _ ≤ mc; omega, by show _ ≤ ms; omega⟩ ?_
    rw [hPa.2.1]
    exact zJ_iret dX8_all_48 rfl (by show _ ≤ mc; omega) (by show _ ≤ ms; omega) ⟨hAs.1.tr hF9, hB9, hlf, hfit, hpos, q, hq, rfl, by simp [hq0]⟩
  · have hq0 : q = 0 := (nI_eq (b := 0) (by omega) (by decide)).mp h34
    refine zJ_lload_n dX8_all_37 rfl ?_
    refine zJ_cS1 dX8_all_38 sX8_212 mfX6_whoOf (c_Ways_whoOf Δ d (zenc (zTal U) (zlst (zTal U) 11 (zfk (zTal U))))) (Nat.le_of_ble_eq_true rfl) ⟨Nat.le_of_ble_eq_true rfl, Nat.le_of_ble_eq_true rfl⟩ ⟨by show _ ≤ mc; omega, by show _ ≤ ms; omega⟩ ?_
    rw [hPa.1]
    refine zJ_goto (tgt := 48) dX8_all_41 (by decide) ?_
    exact zJ_iret dX8_all_48 rfl (by show _ ≤ mc; omega) (by show _ ≤ ms; omega) ⟨hAs.1.tr hF9, hB9, hlf, hfit, hpos, q, hq, rfl, by simp [hq0]⟩
set_option maxRecDepth 100000 in
theorem c_odds (Δ : zD) (w : zW) (U : zTo) (hB : zB w U) (n : Nat) (f : Nat → Nat) (hn : n ≤ 20) (h1 : w.2.1 38 1 = nI n) (hf1 : ∀ i, i < n → w.2.1 39 i = nI (f i)) (hf8 : ∀ i, f i < 8) (mc ms : Nat) (hm : zRo w (¬ zfit U 640) mc ms) : zM Δ 8 mc ms false yX8_odds mX8_odds [.ref 0] w (fun r d => zFb w d ∧ zB d U ∧ ((U.1 0 = 0 ∧ d = w ∧ r = some (.int 0)) ∨ (0 < U.1 0 ∧ zLf w d U ∧ zfit U 20000 ∧ r = some (.int (lN (zodds U f n)).toInt32)))) (fun E d => 0 < U.1 0 ∧ zSp w U U E d) := by
  refine zM.of mfX8_odds (Nat.le_of_ble_eq_true rfl) ?_
  obtain ⟨⟨hm1, hm2⟩, hm3⟩ := hm
  have hC := hB.1
  have hU := hB.2.2.1.1
  have hcU := hB.2.2.1.2.1
  have h13 := hB.2.2.1.2.2
  have hp0 := hB.2.1.2.1 0 (by decide) (by decide)
  have hp8 := hU.1
  have hk0 := hC.1 0 (by decide)
  refine zJ_aload_n dX8_odds_0 rfl ?_
  refine zJ_getr dX8_odds_1 fX8_32 (by first | rfl | assumption | exact hC.1 _ (by decide) | exact hAs.2.2.1.1.1 _ (by decide) | exact (zfin hAs hFa hf hO2 hx hR).2.1.1 _ (by decide)) rfl (by first | rfl | assumption | exact hC.2 _ _ rfl | exact hAs.2.2.1.1.2 _ _ rfl | exact (zfin hAs hFa hf hO2 hx hR).2.1.2 _ _ rfl) ?_
  refine zJ_geti dX8_odds_4 fX8_117 (by first | rfl | assumption | exact hC.1 _ (by decide) | exact hAs.2.2.1.1.1 _ (by decide) | exact (zfin hAs hFa hf hO2 hx hR).2.1.1 _ (by decide)) rfl ?_
  rw [hp0]
  refine zJ_if_ne (tgt := 12) dX8_odds_7 (by decide) (fun h7 => ?_) (fun h7 => ?_)
  · have hpos : 0 < U.1 0 := Nat.pos_of_ne_zero fun h => h7 (by rw [h]; rfl)
    refine zJ_aload_n dX8_odds_12 rfl ?_
    refine zJ_getr dX8_odds_13 fX8_36 (by first | rfl | assumption | exact hC.1 _ (by decide) | exact hAs.2.2.1.1.1 _ (by decide) | exact (zfin hAs hFa hf hO2 hx hR).2.1.1 _ (by decide)) rfl (by first | rfl | assumption | exact hC.2 _ _ rfl | exact hAs.2.2.1.1.2 _ _ rfl | exact (zfin hAs hFa hf hO2 hx hR).2.1.2 _ _ rfl) ?_
    refine zJ_aload_n dX8_odds_16 rfl ?_
    refine zJ_getr dX8_odds_17 fX8_32 (by first | rfl | assumption | exact hC.1 _ (by decide) | exact hAs.2.2.1.1.1 _ (by decide) | exact (zfin hAs hFa hf hO2 hx hR).2.1.1 _ (by decide)) rfl (by first | rfl | assumption | exact hC.2 _ _ rfl | exact hAs.2.2.1.1.2 _ _ rfl | exact (zfin hAs hFa hf hO2 hx hR).2.1.2 _ _ rfl) ?_
    refine zJ_cV1 dX8_odds_20 sX8_110 mfX5_copy (c_Town_copy Δ w 14 9 (zTn14 hC) hB.2.1.1 (by decide)) (hC.1 14 (by decide)) rfl (Nat.le_of_ble_eq_true rfl) ⟨Nat.le_of_ble_eq_true rfl, Nat.le_of_ble_eq_true rfl⟩ ⟨by show _ ≤ mc; omega, by show _ ≤ ms; omega⟩ ?_
    refine zJ_aload_n dX8_odds_23 rfl ?_
    have hAs := (zAs.copy hB)
    have hk1 : (ztowc w 14 9).1 0 = some (.inl 8) := hAs.2.2.1.1.1 0 (by decide)
    refine zJ_yV0 dX8_odds_24 sX8_178 pX8_178 mfX8_playAsked (c_playAsked Δ (ztowc w 14 9) U U hAs.2.2.1.1 hAs.2.2.1.2.2.2 hAs.2.2.2 hU hcU (zsame.rf U) (mc - 10) (ms - 60) (by omega) (fun h1 h2 => by have := hm3 h1 (by rw [← hAs.2.1]; exact h2); omega)) rfl hk1 rfl ⟨rfl, by simp [zokv, zpush], by simp [lv_args, Value.category, zokv, hk1]⟩ (Nat.le_of_ble_eq_true rfl) ⟨Nat.le_of_ble_eq_true rfl, Nat.le_of_ble_eq_true rfl⟩ ⟨by show _ ≤ mc; omega, by show _ ≤ ms; omega⟩ (fun r d hP9 => ?_) (fun E d hX => ⟨hpos, hX.sp hAs⟩)
    obtain ⟨hFa, hfit, b, R, m, K, rfl, hO, hx, hR, hl1, hl2⟩ := hP9
    refine zJ_astore_n (ls2 := fun q9 => [(1, .ref q9), (0, .ref 0)]) dX8_odds_27 (by decide) (fun _ => rfl) (fun q9 eq9 => ?_)
    obtain rfl := eq9.symm
    refine zJ_aload_n dX8_odds_28 rfl ?_
    refine zJ_eV0 dX8_odds_29 sX8_247 mfX1_choose (o_choose Δ d b R m U U K hO) hO.1.1.1 rfl (Nat.le_of_ble_eq_true rfl) ⟨Nat.le_of_ble_eq_true rfl, Nat.le_of_ble_eq_true rfl⟩ ⟨by show _ ≤ mc; omega, by show _ ≤ ms; omega⟩ (fun r e hP9 => ?_)
    obtain ⟨rfl, hf, hO2, hcs⟩ := hP9
    have hFe : zFb w e := (zfin hAs hFa hf hO2 hx hR).1
    have e1 : e.2.1 38 1 = nI n := (hFe.2.1 38 1 (by omega)).1.trans h1
    have e39 : ∀ i, i < n → e.2.1 39 (0 + i) = nI (f i) := fun i hi => by rw [Nat.zero_add]; exact (hFe.2.1 39 i (by omega)).1.trans (hf1 i hi)
    refine zJ_aload_n dX8_odds_32 rfl ?_
    refine zJ_aload_n dX8_odds_33 rfl ?_
    refine zJ_getr dX8_odds_34 fX8_51 (by first | rfl | assumption | exact hC.1 _ (by decide) | exact hAs.2.2.1.1.1 _ (by decide) | exact (zfin hAs hFa hf hO2 hx hR).2.1.1 _ (by decide)) rfl (by first | rfl | assumption | exact hC.2 _ _ rfl | exact hAs.2.2.1.1.2 _ _ rfl | exact (zfin hAs hFa hf hO2 hx hR).2.1.2 _ _ rfl) ?_
    refine zJ_getr dX8_odds_37 fX8_250 (by first | rfl | assumption | exact hC.1 _ (by decide) | exact hAs.2.2.1.1.1 _ (by decide) | exact (zfin hAs hFa hf hO2 hx hR).2.1.1 _ (by decide)) rfl (by first | rfl | assumption | exact hC.2 _ _ rfl | exact hAs.2.2.1.1.2 _ _ rfl | exact (zfin hAs hFa hf hO2 hx hR).2.1.2 _ _ rfl) ?_
    refine zJ_iconst (v := 0) dX8_odds_40 (by decide) ?_
    refine zJ_aload_n dX8_odds_41 rfl ?_
    refine zJ_getr dX8_odds_42 fX8_51 (by first | rfl | assumption | exact hC.1 _ (by decide) | exact hAs.2.2.1.1.1 _ (by decide) | exact (zfin hAs hFa hf hO2 hx hR).2.1.1 _ (by decide)) rfl (by first | rfl | assumption | exact hC.2 _ _ rfl | exact hAs.2.2.1.1.2 _ _ rfl | exact (zfin hAs hFa hf hO2 hx hR).2.1.2 _ _ rfl) ?_
    refine zJ_geti dX8_odds_45 fX8_144 (by first | rfl | assumption | exact hC.1 _ (by decide) | exact hAs.2.2.1.1.1 _ (by decide) | exact (zfin hAs hFa hf hO2 hx hR).2.1.1 _ (by decide)) rfl ?_
    rw [e1]
    refine zJ_st (st2 := [.int (nI n), .int (nI 0), .ref 39, .ref b]) rfl ?_
    refine zJ_cV3 dX8_odds_48 sX8_253 mfX1_oddsOf (c_Play_oddsOf Δ e b R m U K hO2.1 hcs 39 0 n 20 f ((zfin hAs hFa hf hO2 hx hR).2.1.1 39 (by decide)) (by decide) (by omega) e39 hf8) hO2.1.1.1 rfl (Nat.le_of_ble_eq_true rfl) ⟨Nat.le_of_ble_eq_true rfl, Nat.le_of_ble_eq_true rfl⟩ ⟨by show _ ≤ mc; omega, by show _ ≤ ms; omega⟩ ?_
    refine zJ_l2i dX8_odds_51 ?_
    exact zJ_iret dX8_odds_52 rfl (by show _ ≤ mc; omega) (by show _ ≤ ms; omega) (by obtain ⟨g1, g2⟩ := zfin hAs hFa hf hO2 hx hR; exact ⟨g1, g2, Or.inr ⟨hpos, zlf hAs hl1 hl2 hf, hfit, rfl⟩⟩)
  · have hz0 : U.1 0 = 0 := (nI_eq (b := 0) (by omega) (by decide)).mp h7
    refine zJ_iconst (v := 0) dX8_odds_10 (by decide) ?_
    exact zJ_iret dX8_odds_11 rfl (by show _ ≤ mc; omega) (by show _ ≤ ms; omega) ⟨zFb.rf w, hB, Or.inl ⟨hz0, rfl, rfl⟩⟩
set_option maxRecDepth 100000 in
theorem c_chain (Δ : zD) (w : zW) (U : zTo) (hB : zB w U) (x : Int32) (mc ms : Nat) (hm : zRo w (∃ q, x = nI q ∧ ¬ zfit (zTs U 10 q) 640) mc ms) : zM Δ 8 mc ms false yX8_chain mX8_chain [.ref 0, .int x] w (fun r d => 0 < U.1 0 ∧ ∃ q, q ≤ 2 ∧ x = nI q ∧ zfit (zTs U 10 q) 20000 ∧ ∃ e K, zall (zTs U 10 q) K ∧ zFb w e ∧ zB e U ∧ zLf w e (zTs U 10 q) ∧ ((zfnd (zTs U 10 q) K K.length = none ∧ d = e ∧ r = some (.int (-1))) ∨ ∃ k, zfnd (zTs U 10 q) K K.length = some k ∧ d = zsi (zsl e 0 14 (lN ((zchn (zTs U 10 q) K K.length).2 k))) 0 15 (nI (U.1 7)) ∧ r = some (.int (lN ((zchn (zTs U 10 q) K K.length).1 k)).toInt32))) (fun E d => (E = zNS ∧ d = w ∧ ¬ (0 < U.1 0 ∧ ∃ q, q ≤ 2 ∧ x = nI q)) ∨ (0 < U.1 0 ∧ ∃ q, q ≤ 2 ∧ x = nI q ∧ zSp w U (zTs U 10 q) E d)) := by
  refine zM.of mfX8_chain (Nat.le_of_ble_eq_true rfl) ?_
  obtain ⟨⟨hm1, hm2⟩, hm3⟩ := hm
  have hC := hB.1
  have hU := hB.2.2.1.1
  have hcU := hB.2.2.1.2.1
  have h13 := hB.2.2.1.2.2
  have hp0 := hB.2.1.2.1 0 (by decide) (by decide)
  have hp8 := hU.1
  have hk0 := hC.1 0 (by decide)
  refine zJ_iload_n dX8_chain_0 rfl ?_
  refine zJ_if_lt (tgt := 9) dX8_chain_1 (by decide) (fun h1_ => ?_) (fun h1_ => ?_)
  · have hno : ¬ ∃ q, q ≤ 2 ∧ x = nI q := fun ⟨h, h1, h2⟩ => by
      rw [h2] at h1_
      exact absurd ((nI_ltI (b := 0) (by omega) (by decide)).mp h1_) (by omega)
    exact zJ_throwNW (text := "no such LAW") (j := 21) dX8_chain_9 dX8_chain_12 dX8_chain_13 dX8_chain_16 dX8_chain_19 rfl rfl (by decide +kernel) (Nat.le_of_ble_eq_true rfl) (Nat.le_of_ble_eq_true rfl) (by show _ ≤ mc; omega) (by show _ ≤ ms; omega) (Or.inl ⟨rfl, rfl, fun h => hno h.2⟩)
  · refine zJ_iload_n dX8_chain_4 rfl ?_
    refine zJ_iconst (v := 2) dX8_chain_5 (by decide) ?_
    refine zJ_icmp_le (tgt := 20) dX8_chain_6 (by decide) (fun h6 => ?_) (fun h6 => ?_)
    · obtain ⟨q, hq31, rfl⟩ := nI_of h1_
      have hq : q ≤ 2 := (nI_leI (b := 2) (by omega) (by decide)).mp h6
      refine zJ_aload_n dX8_chain_20 rfl ?_
      refine zJ_xV0 dX8_chain_21 sX8_189 pX8_189 mfX8_needPeople (c_needPeople Δ w hC (U.1 0) hp0 hp8) rfl hk0 rfl (Nat.le_of_ble_eq_true rfl) ⟨Nat.le_of_ble_eq_true rfl, Nat.le_of_ble_eq_true rfl⟩ ⟨by show _ ≤ mc; omega, by show _ ≤ ms; omega⟩ (fun r c9 hP => ?_) (fun E c9 hX => Or.inl ⟨hX.1, hX.2.1, fun h => hX.2.2 h.1⟩)
      obtain ⟨rfl, hw9, hP⟩ := hP
      obtain rfl := hw9.symm
      have hpos := hP
      refine zJ_aload_n dX8_chain_24 rfl ?_
      refine zJ_getr dX8_chain_25 fX8_36 (by first | rfl | assumption | exact hC.1 _ (by decide) | exact hAs.2.2.1.1.1 _ (by decide) | exact (zfin hAs hFa hf hO2 hx hR).2.1.1 _ (by decide)) rfl (by first | rfl | assumption | exact hC.2 _ _ rfl | exact hAs.2.2.1.1.2 _ _ rfl | exact (zfin hAs hFa hf hO2 hx hR).2.1.2 _ _ rfl) ?_
      refine zJ_aload_n dX8_chain_28 rfl ?_
      refine zJ_getr dX8_chain_29 fX8_32 (by first | rfl | assumption | exact hC.1 _ (by decide) | exact hAs.2.2.1.1.1 _ (by decide) | exact (zfin hAs hFa hf hO2 hx hR).2.1.1 _ (by decide)) rfl (by first | rfl | assumption | exact hC.2 _ _ rfl | exact hAs.2.2.1.1.2 _ _ rfl | exact (zfin hAs hFa hf hO2 hx hR).2.1.2 _ _ rfl) ?_
      refine zJ_cV1 dX8_chain_32 sX8_110 mfX5_copy (c_Town_copy Δ w 14 9 (zTn14 hC) hB.2.1.1 (by decide)) (hC.1 14 (by decide)) rfl (Nat.le_of_ble_eq_true rfl) ⟨Nat.le_of_ble_eq_true rfl, Nat.le_of_ble_eq_true rfl⟩ ⟨by show _ ≤ mc; omega, by show _ ≤ ms; omega⟩ ?_
      refine zJ_aload_n dX8_chain_35 rfl ?_
      refine zJ_getr dX8_chain_36 fX8_36 (by first | rfl | assumption | exact hC.1 _ (by decide) | exact hAs.2.2.1.1.1 _ (by decide) | exact (zfin hAs hFa hf hO2 hx hR).2.1.1 _ (by decide)) rfl (by first | rfl | assumption | exact hC.2 _ _ rfl | exact hAs.2.2.1.1.2 _ _ rfl | exact (zfin hAs hFa hf hO2 hx hR).2.1.2 _ _ rfl) ?_
      refine zJ_iload_n dX8_chain_39 rfl ?_
      refine zJ_puti dX8_chain_40 fX8_135 (fun q h => by cases h; rfl) (by first | rfl | assumption | exact hC.1 _ (by decide) | exact hAs.2.2.1.1.1 _ (by decide) | exact (zfin hAs hFa hf hO2 hx hR).2.1.1 _ (by decide)) rfl rfl rfl ?_
      refine zJ_aload_n dX8_chain_43 rfl ?_
      have hAs := ((zAs.copy hB).set (k := 10) (v := q) (by decide) (by decide))
      have hk1 : (zsi (ztowc w 14 9) 14 10 (nI q)).1 0 = some (.inl 8) := hAs.2.2.1.1.1 0 (by decide)
      refine zJ_yV0 dX8_chain_44 sX8_178 pX8_178 mfX8_playAsked (c_playAsked Δ (zsi (ztowc w 14 9) 14 10 (nI q)) U (zTs U 10 q) hAs.2.2.1.1 hAs.2.2.1.2.2.2 hAs.2.2.2 (hU.s (by omega)) (hcU.s (by decide)) ((zsame.rf U).s (by decide)) (mc - 10) (ms - 60) (by omega) (fun h1 h2 => by have := hm3 ⟨q, rfl, h1⟩ (by rw [← hAs.2.1]; exact h2); omega)) rfl hk1 rfl ⟨rfl, by simp [zokv, zpush], by simp [lv_args, Value.category, zokv, hk1]⟩ (Nat.le_of_ble_eq_true rfl) ⟨Nat.le_of_ble_eq_true rfl, Nat.le_of_ble_eq_true rfl⟩ ⟨by show _ ≤ mc; omega, by show _ ≤ ms; omega⟩ (fun r d hP9 => ?_) (fun E d hX => Or.inr ⟨hpos, q, hq, rfl, hX.sp hAs⟩)
      obtain ⟨hFa, hfit, b, R, m, K, rfl, hO, hx, hR, hl1, hl2⟩ := hP9
      refine zJ_astore_n (ls2 := fun q9 => [(2, .ref q9), (0, .ref 0), (1, .int (nI q))]) dX8_chain_47 (by decide) (fun _ => rfl) (fun q9 eq9 => ?_)
      obtain rfl := eq9.symm
      refine zJ_aload_n dX8_chain_48 rfl ?_
      refine zJ_eV0 dX8_chain_49 sX8_247 mfX1_choose (o_choose Δ d b R m U (zTs U 10 q) K hO) hO.1.1.1 rfl (Nat.le_of_ble_eq_true rfl) ⟨Nat.le_of_ble_eq_true rfl, Nat.le_of_ble_eq_true rfl⟩ ⟨by show _ ≤ mc; omega, by show _ ≤ ms; omega⟩ (fun r e1 hP9 => ?_)
      obtain ⟨rfl, hf, hO2, hcs⟩ := hP9
      refine zJ_aload_n dX8_chain_52 rfl ?_
      refine zJ_eV0 dX8_chain_53 sX8_285 mfX1_surestEnd (o_surestEnd Δ e1 b R m U (zTs U 10 q) K hO2 hcs) hO2.1.1.1 rfl (Nat.le_of_ble_eq_true rfl) ⟨Nat.le_of_ble_eq_true rfl, Nat.le_of_ble_eq_true rfl⟩ ⟨by show _ ≤ mc; omega, by show _ ≤ ms; omega⟩ (fun r e hP9 => ?_)
      obtain ⟨hf2, hO3, htw, hcase⟩ := hP9
      have hF5 := (zfin hAs hFa (hf.tr hf2) hO3 hx hR).1
      have hB5 := (zfin hAs hFa (hf.tr hf2) hO3 hx hR).2
      have hPS := hO3.1.1
      obtain ⟨p0, q0, q1, q2, q3, q4, q5, q6, q7, q8, q9, s11, s12, s13, s14, s15, s16, s17, s18, hSw⟩ := hPS
      have hRb2 : R ≤ 20000 := by rcases hR with ⟨-, rfl, -⟩ | ⟨-, rfl, -⟩ <;> decide
      have hKR : K.length ≤ R := hO3.1.2.2.2.2.1.2.2.1
      have hb0 : ¬ b + 14 = 0 := Nat.succ_ne_zero (b + 13)
      rcases hcase with ⟨hz1, rfl⟩ | ⟨z, k, hz1, hz2, rfl⟩
      · skip
        refine zJ_istore_n (ls2 := fun x56n => [(3, .int x56n), (2, .ref b), (0, .ref 0), (1, .int (nI q))]) dX8_chain_56 (by decide) (fun _ => rfl) (fun x56n ex56n => ?_)
        obtain rfl : x56n = (-1) := ex56n
        refine zJ_iload_n dX8_chain_57 rfl ?_
        refine zJ_if_ge (tgt := 63) dX8_chain_58 (by decide) (fun h9 => False.elim (by revert h9; decide)) (fun _ => ?_)
        refine zJ_iconst (v := (-1)) dX8_chain_61 (by decide) ?_
        exact zJ_iret dX8_chain_62 rfl (by show _ ≤ mc; omega) (by show _ ≤ ms; omega) ⟨hpos, q, hq, rfl, hfit, e, K, hO3.1.2.2.2.1, hF5, hB5, zlf hAs hl1 hl2 (hf.tr hf2), Or.inl ⟨hz1, rfl, rfl⟩⟩
      · have hzK : z < K.length := (List.getElem?_eq_some_iff.mp hz2).1
        have hz4 := htw z k hz2
        have hz5 := zfnd_pos hz1
        refine zJ_istore_n (ls2 := fun x56z => [(3, .int x56z), (2, .ref b), (0, .ref 0), (1, .int (nI q))]) dX8_chain_56 (by decide) (fun _ => rfl) (fun x56z ex56z => ?_)
        obtain rfl : x56z = (nI z) := ex56z
        refine zJ_iload_n dX8_chain_57 rfl ?_
        refine zJ_if_ge (tgt := 63) dX8_chain_58 (by decide) (fun h58z => ?_) (fun h58z => ?_)
        · refine zJ_aload_n dX8_chain_63 rfl ?_
          refine zJ_aload_n dX8_chain_64 rfl ?_
          refine zJ_getr dX8_chain_65 fX8_289 (by first | rfl | assumption | exact hC.1 _ (by decide) | exact hAs.2.2.1.1.1 _ (by decide) | exact hB5.1.1 _ (by decide)) rfl (by first | rfl | assumption | exact hC.2 _ _ rfl | exact hAs.2.2.1.1.2 _ _ rfl | exact hB5.1.2 _ _ rfl) ?_
          refine zJ_iload_n dX8_chain_68 rfl ?_
          refine zJ_lald dX8_chain_69 (by first | rfl | assumption | exact hC.1 _ (by decide) | exact hAs.2.2.1.1.1 _ (by decide) | exact hB5.1.1 _ (by decide)) (vp_in_nI (by omega) (by omega)) ?_
          rw [nI_clamp (show z < 2 ^ 31 by omega), hz4.2 hz5]
          refine zJ_putl dX8_chain_70 fX8_292 (fun q h => by cases h; rfl) (by first | rfl | assumption | exact hC.1 _ (by decide) | exact hAs.2.2.1.1.1 _ (by decide) | exact hB5.1.1 _ (by decide)) rfl ?_
          refine zJ_aload_n dX8_chain_73 rfl ?_
          refine zJ_aload_n dX8_chain_74 rfl ?_
          refine zJ_getr dX8_chain_75 fX8_32 (by first | rfl | assumption | exact hC.1 _ (by decide) | exact hAs.2.2.1.1.1 _ (by decide) | exact hB5.1.1 _ (by decide)) rfl (by first | rfl | assumption | exact hC.2 _ _ rfl | exact hAs.2.2.1.1.2 _ _ rfl | exact hB5.1.2 _ _ rfl) ?_
          refine zJ_geti dX8_chain_78 fX8_126 (by first | rfl | assumption | exact hC.1 _ (by decide) | exact hAs.2.2.1.1.1 _ (by decide) | exact hB5.1.1 _ (by decide)) rfl ?_
          rw [show (zsl e 0 14 (lN ((zchn (zTs U 10 q) K K.length).2 k))).2.1 9 7 = nI (U.1 7) from hB5.2.1.2.1 7 (by decide) (by decide)]
          refine zJ_puti dX8_chain_81 fX8_296 (fun q h => by cases h; rfl) (by first | rfl | assumption | exact hC.1 _ (by decide) | exact hAs.2.2.1.1.1 _ (by decide) | exact hB5.1.1 _ (by decide)) rfl rfl rfl ?_
          refine zJ_aload_n dX8_chain_84 rfl ?_
          refine zJ_getr dX8_chain_85 fX8_299 (by first | rfl | assumption | exact hC.1 _ (by decide) | exact hAs.2.2.1.1.1 _ (by decide) | exact hB5.1.1 _ (by decide)) rfl (by first | rfl | assumption | exact hC.2 _ _ rfl | exact hAs.2.2.1.1.2 _ _ rfl | exact hB5.1.2 _ _ rfl) ?_
          refine zJ_iload_n dX8_chain_88 rfl ?_
          refine zJ_lald dX8_chain_89 (by first | rfl | assumption | exact hC.1 _ (by decide) | exact hAs.2.2.1.1.1 _ (by decide) | exact hB5.1.1 _ (by decide)) (vp_in_nI (by omega) (by omega)) ?_
          rw [nI_clamp (show z < 2 ^ 31 by omega), show (zsi (zsl e 0 14 (lN ((zchn (zTs U 10 q) K K.length).2 k))) 0 15 (nI (U.1 7))).2.2.1 (b + 14) z = lN ((zchn (zTs U 10 q) K K.length).1 k) by rw [← hz4.1]; simp [zsi, zsl, hb0]]
          refine zJ_l2i dX8_chain_90 ?_
          exact zJ_iret dX8_chain_91 rfl (by show _ ≤ mc; omega) (by show _ ≤ ms; omega) ⟨hpos, q, hq, rfl, hfit, e, K, hO3.1.2.2.2.1, hF5, hB5, zlf hAs hl1 hl2 (hf.tr hf2), Or.inr ⟨k, hz1, rfl, rfl⟩⟩
        · exact absurd ((nI_leI (a := 0) (b := z) (by decide) (by omega)).mpr (Nat.zero_le _)) h58z
    · have hno : ¬ ∃ q, q ≤ 2 ∧ x = nI q := fun ⟨h, h1, h2⟩ => by
        rw [h2] at h6
        exact h6 ((nI_leI (b := 2) (by omega) (by decide)).mpr h1)
      exact zJ_throwNW (text := "no such LAW") (j := 21) dX8_chain_9 dX8_chain_12 dX8_chain_13 dX8_chain_16 dX8_chain_19 rfl rfl (by decide +kernel) (Nat.le_of_ble_eq_true rfl) (Nat.le_of_ble_eq_true rfl) (by show _ ≤ mc; omega) (by show _ ≤ ms; omega) (Or.inl ⟨rfl, rfl, fun h => hno h.2⟩)
