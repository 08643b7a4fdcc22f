theorem zGd.e {w0 w : zW} {tx : Nat → Nat} {n : Nat} {S : zTo × Nat} {t : zTkn} (h : zGd w0 w tx n S t) (a b v : Nat) (ha : a < S.1.1 0) (hb : b < S.1.1 0) (h8 : S.1.1 0 ≤ 8) : zGd w0 (zsi w 137 (a * 8 + b) (nI v)) tx n (zTe S.1 a b v, S.2) t := by
  obtain ⟨h1, h2, h3, h4, h5, h6, h7⟩ := h
  have hf : zFM [37] w (zsi w 137 (a * 8 + b) (nI v)) := zFM.i (Or.inr (by decide))
  obtain ⟨f19, f20, f21, f22, f23, f24⟩ := h3
  obtain ⟨g0, g1, g2, g3, g4, g5, g6, g7, g8, g9, g10, g11, g12⟩ := h7
  refine ⟨h1.tr (hf.mono (by decide)), h2.fm hf (by decide), ⟨(hf.at (by decide)).trans f19, (hf.at (by decide)).trans f20, (hf.at (by decide)).trans f21, (hf.at (by decide)).trans f22, fun h => (hf.at (by decide)).trans (f23 h), f24⟩, h4, (hf.at (by decide)).trans h5, (hf.at (by decide)).trans h6, (hf.at (by decide)).trans g0, (hf.at (by decide)).trans g1, (hf.at (by decide)).trans g2, (hf.at (by decide)).trans g3, (hf.at (by decide)).trans g4, (hf.at (by decide)).trans g5, (hf.at (by decide)).trans g6, (hf.at (by decide)).trans g7, (hf.at (by decide)).trans g8, (hf.at (by decide)).trans g9, fun p hp => (hf.ar (k := 35) (by decide) (by decide)).trans (g10 p hp), fun p hp => (hf.ar (k := 36) (by decide) (by decide)).trans (g11 p hp), fun p q hp hq => ?_⟩
  have hp2 : p < S.1.1 0 := hp
  have hq2 : q < S.1.1 0 := hq
  have := g12 p q hp2 hq2
  by_cases he : p * 8 + q = a * 8 + b
  · simp [zsi, zTe, he]
  · simp [zsi, zTe, he, this]
set_option maxRecDepth 100000 in
theorem c_Mo_readsKnows (Δ : zD) {w0 w : zW} {tx : Nat → Nat} {n : Nat} {S : zTo × Nat} {t : zTkn} (h : zGd w0 w tx n S t) (h8 : S.1.1 0 ≤ 8) (h99 : ∀ p q, p < 8 → q < 8 → S.1.2.2.2 (p * 8 + q) ≤ 99) : zMp Δ 4 yX9_readsKnows mX9_readsKnows [.ref 100] w (fun r c => r = none ∧ match zlK tx n S.1 t with | .inl e => zBd w0 c tx n e | .inr q => zGd w0 c tx n (q.1, S.2) q.2) := by
  refine zMp.of mfX9_readsKnows (Nat.le_of_ble_eq_true rfl) (fun QR hQ => ?_)
  have hM := h.2.1.1
  have B84 : ∀ e : Nat × Nat, zlK tx n S.1 t = .inl e → ∀ (a b : Int32) (c : zW), c.1 = w.1 → zBd w0 c tx n e → zJ Δ mX9_readsKnows (zRm 4 0 0) true w.1 QR (fun _ _ => False) 0 0 84 [(2, .int b), (1, .int a), (0, .ref 100)] [] c := by
    intro e hz a b c hcw hb
    have M1 := hb.2.1.1
    refine zJ_aload_n dX9_readsKnows_84 rfl ?_
    refine zJ_bipush (v := 11) dX9_readsKnows_85 (by decide) ?_
    refine zJ_iconst (v := 1) dX9_readsKnows_87 (by decide) ?_
    refine zJ_bipush (v := 99) dX9_readsKnows_88 (by decide) ?_
    refine zJ_iconst (v := 1) dX9_readsKnows_90 (by decide) ?_
    refine zJ_cV4 dX9_readsKnows_91 sX9_244 mfX9_perhaps (c_Mo_prB Δ hb 11 1 99 1) (by first | rfl | assumption | exact hM.at (by decide) (by decide) | exact M1.at (by decide) (by decide) | exact M2.at (by decide) (by decide) | exact M3.at (by decide) (by decide) | exact M4.at (by decide) (by decide) | exact M5.at (by decide) (by decide) | exact M6.at (by decide) (by decide)) rfl (Nat.le_of_ble_eq_true rfl) (by decide) (by decide) ?_
    refine zJ_istore_n (ls2 := fun x94b => [(3, .int x94b), (2, .int b), (1, .int a), (0, .ref 100)]) dX9_readsKnows_94 (by decide) (fun _ => rfl) (fun x94b ex94b => ?_)
    refine zJ_aload_n dX9_readsKnows_95 rfl ?_
    refine zJ_cV0 dX9_readsKnows_96 sX9_224 mfX9_isGood (c_Mo_igB Δ hb) (by first | rfl | assumption | exact hM.at (by decide) (by decide) | exact M1.at (by decide) (by decide) | exact M2.at (by decide) (by decide) | exact M3.at (by decide) (by decide) | exact M4.at (by decide) (by decide) | exact M5.at (by decide) (by decide) | exact M6.at (by decide) (by decide)) rfl (Nat.le_of_ble_eq_true rfl) (by decide) (by decide) ?_
    refine zJ_if_eq (tgt := 114) dX9_readsKnows_99 (by decide) (fun _ => ?_) (fun h9 => False.elim (by revert h9; decide))
    exact zJ_vret dX9_readsKnows_114 rfl (by decide) (by decide) (hQ _ _ ⟨rfl, by rw [hz]; exact hb⟩)
  have B68 : ∀ e : Nat × Nat, zlK tx n S.1 t = .inl e → ∀ (a : Int32) (c : zW), c.1 = w.1 → zBd w0 c tx n e → zJ Δ mX9_readsKnows (zRm 4 0 0) true w.1 QR (fun _ _ => False) 0 0 68 [(1, .int a), (0, .ref 100)] [] c := by
    intro e hz a c hcw hb
    have M1 := hb.2.1.1
    refine zJ_aload_n dX9_readsKnows_68 rfl ?_
    refine zJ_geti dX9_readsKnows_69 fX9_197 (by first | rfl | assumption | exact hM.at (by decide) (by decide) | exact M1.at (by decide) (by decide) | exact M2.at (by decide) (by decide) | exact M3.at (by decide) (by decide) | exact M4.at (by decide) (by decide) | exact M5.at (by decide) (by decide) | exact M6.at (by decide) (by decide)) rfl ?_
    refine zJ_istore_n (ls2 := fun x72b => [(2, .int x72b), (1, .int a), (0, .ref 100)]) dX9_readsKnows_72 (by decide) (fun _ => rfl) (fun x72b ex72b => ?_)
    refine zJ_aload_n dX9_readsKnows_73 rfl ?_
    refine zJ_cV0 dX9_readsKnows_74 sX9_224 mfX9_isGood (c_Mo_igB Δ hb) (by first | rfl | assumption | exact hM.at (by decide) (by decide) | exact M1.at (by decide) (by decide) | exact M2.at (by decide) (by decide) | exact M3.at (by decide) (by decide) | exact M4.at (by decide) (by decide) | exact M5.at (by decide) (by decide) | exact M6.at (by decide) (by decide)) rfl (Nat.le_of_ble_eq_true rfl) (by decide) (by decide) ?_
    refine zJ_if_eq (tgt := 84) dX9_readsKnows_77 (by decide) (fun _ => ?_) (fun h9 => False.elim (by revert h9; decide))
    exact B84 e hz _ _ c hcw hb
  have B19 : ∀ e : Nat × Nat, zlK tx n S.1 t = .inl e → ∀ c : zW, c.1 = w.1 → zBd w0 c tx n e → zJ Δ mX9_readsKnows (zRm 4 0 0) true w.1 QR (fun _ _ => False) 0 0 18 [(0, .ref 100)] [] c := by
    intro e hz c hcw hb
    have M1 := hb.2.1.1
    refine zJ_iconst (v := 0) dX9_readsKnows_18 (by decide) ?_
    refine zJ_istore_n (ls2 := fun x19b => [(1, .int x19b), (0, .ref 100)]) dX9_readsKnows_19 (by decide) (fun _ => rfl) (fun x19b ex19b => ?_)
    refine zJ_aload_n dX9_readsKnows_20 rfl ?_
    refine zJ_cV0 dX9_readsKnows_21 sX9_224 mfX9_isGood (c_Mo_igB Δ hb) (by first | rfl | assumption | exact hM.at (by decide) (by decide) | exact M1.at (by decide) (by decide) | exact M2.at (by decide) (by decide) | exact M3.at (by decide) (by decide) | exact M4.at (by decide) (by decide) | exact M5.at (by decide) (by decide) | exact M6.at (by decide) (by decide)) rfl (Nat.le_of_ble_eq_true rfl) (by decide) (by decide) ?_
    refine zJ_if_eq (tgt := 31) dX9_readsKnows_24 (by decide) (fun _ => ?_) (fun h9 => False.elim (by revert h9; decide))
    refine zJ_aload_n dX9_readsKnows_31 rfl ?_
    refine zJ_cV0 dX9_readsKnows_32 sX9_248 mfX9_personHere (c_Mo_phB Δ hb) (by first | rfl | assumption | exact hM.at (by decide) (by decide) | exact M1.at (by decide) (by decide) | exact M2.at (by decide) (by decide) | exact M3.at (by decide) (by decide) | exact M4.at (by decide) (by decide) | exact M5.at (by decide) (by decide) | exact M6.at (by decide) (by decide)) rfl (Nat.le_of_ble_eq_true rfl) (by decide) (by decide) ?_
    refine zJ_if_eq (tgt := 68) dX9_readsKnows_35 (by decide) (fun _ => ?_) (fun h9 => False.elim (by revert h9; decide))
    exact B68 e hz _ c hcw hb
  refine zJ_aload_n dX9_readsKnows_0 rfl ?_
  refine zJ_eV0 dX9_readsKnows_1 sX9_228 mfX9_steps (c_Mo_st Δ h) (by first | exact hM.at (by decide) (by decide) | exact M1.at (by decide) (by decide) | exact M2.at (by decide) (by decide) | exact M3.at (by decide) (by decide) | exact M4.at (by decide) (by decide) | exact M5.at (by decide) (by decide) | exact M6.at (by decide) (by decide)) rfl (Nat.le_of_ble_eq_true rfl) (by decide) (by decide) (fun r c1 hP => ?_)
  obtain ⟨rfl, g1⟩ := hP
  have M1 := g1.2.1.1
  refine zJ_aload_n dX9_readsKnows_4 rfl ?_
  refine zJ_eV0 dX9_readsKnows_5 sX9_248 mfX9_personHere (c_Mo_ph Δ g1 h8) (by first | exact hM.at (by decide) (by decide) | exact M1.at (by decide) (by decide) | exact M2.at (by decide) (by decide) | exact M3.at (by decide) (by decide) | exact M4.at (by decide) (by decide) | exact M5.at (by decide) (by decide) | exact M6.at (by decide) (by decide)) rfl (Nat.le_of_ble_eq_true rfl) (by decide) (by decide) (fun r c2 hP => ?_)
  cases hz1 : zrK (S.1.1 0) (ztk tx n t.2.2.1) with
  | inl e =>
    rw [hz1] at hP
    obtain ⟨hb, rfl⟩ := hP
    have M2 := hb.2.1.1
    have hz : zlK tx n S.1 t = .inl e := by simp only [zlK, hz1]
    refine zJ_if_eq (tgt := 18) dX9_readsKnows_8 (by decide) (fun _ => ?_) (fun h9 => False.elim (by revert h9; decide))
    exact B19 e hz _ (hb.1.1.trans h.1.1.symm) hb
  | inr a =>
    rw [hz1] at hP
    obtain ⟨rfl, rfl, f23⟩ := hP
    have ha := zrK_v hz1
    refine zJ_if_eq (tgt := 18) dX9_readsKnows_8 (by decide) (fun h9 => False.elim (by revert h9; decide)) (fun _ => ?_)
    refine zJ_aload_n dX9_readsKnows_11 rfl ?_
    refine zJ_getiN dX9_readsKnows_12 fX9_197 (by first | rfl | assumption | exact hM.at (by decide) (by decide) | exact M1.at (by decide) (by decide) | exact M2.at (by decide) (by decide) | exact M3.at (by decide) (by decide) | exact M4.at (by decide) (by decide) | exact M5.at (by decide) (by decide) | exact M6.at (by decide) (by decide)) rfl f23 ?_
    refine zJ_goto (tgt := 19) dX9_readsKnows_15 (by decide) ?_
    refine zJ_istore_n (ls2 := fun x19 => [(1, .int x19), (0, .ref 100)]) dX9_readsKnows_19 (by decide) (fun _ => rfl) (fun x19 ex19 => ?_)
    obtain rfl : x19 = (nI a) := ex19
    refine zJ_aload_n dX9_readsKnows_20 rfl ?_
    refine zJ_cV0 dX9_readsKnows_21 sX9_224 mfX9_isGood (c_Mo_ig Δ g1) (by first | rfl | assumption | exact hM.at (by decide) (by decide) | exact M1.at (by decide) (by decide) | exact M2.at (by decide) (by decide) | exact M3.at (by decide) (by decide) | exact M4.at (by decide) (by decide) | exact M5.at (by decide) (by decide) | exact M6.at (by decide) (by decide)) rfl (Nat.le_of_ble_eq_true rfl) (by decide) (by decide) ?_
    refine zJ_if_eq (tgt := 31) dX9_readsKnows_24 (by decide) (fun h9 => False.elim (by revert h9; decide)) (fun _ => ?_)
    refine zJ_aload_n dX9_readsKnows_27 rfl ?_
    refine zJ_eV0 dX9_readsKnows_28 sX9_228 mfX9_steps (c_Mo_st Δ g1) (by first | exact hM.at (by decide) (by decide) | exact M1.at (by decide) (by decide) | exact M2.at (by decide) (by decide) | exact M3.at (by decide) (by decide) | exact M4.at (by decide) (by decide) | exact M5.at (by decide) (by decide) | exact M6.at (by decide) (by decide)) rfl (Nat.le_of_ble_eq_true rfl) (by decide) (by decide) (fun r c3 hP => ?_)
    obtain ⟨rfl, g2⟩ := hP
    have M3 := g2.2.1.1
    refine zJ_aload_n dX9_readsKnows_31 rfl ?_
    refine zJ_eV0 dX9_readsKnows_32 sX9_248 mfX9_personHere (c_Mo_ph Δ g2 h8) (by first | exact hM.at (by decide) (by decide) | exact M1.at (by decide) (by decide) | exact M2.at (by decide) (by decide) | exact M3.at (by decide) (by decide) | exact M4.at (by decide) (by decide) | exact M5.at (by decide) (by decide) | exact M6.at (by decide) (by decide)) rfl (Nat.le_of_ble_eq_true rfl) (by decide) (by decide) (fun r c4 hP => ?_)
    cases hz2 : zrK (S.1.1 0) (ztk tx n (ztk tx n t.2.2.1).2.2.1) with
    | inl e =>
      rw [hz2] at hP
      obtain ⟨hb, rfl⟩ := hP
      have M3 := hb.2.1.1
      have hz : zlK tx n S.1 t = .inl e := by simp only [zlK, hz1, hz2]
      refine zJ_if_eq (tgt := 68) dX9_readsKnows_35 (by decide) (fun _ => ?_) (fun h9 => False.elim (by revert h9; decide))
      exact B68 e hz _ _ (hb.1.1.trans h.1.1.symm) hb
    | inr b =>
      rw [hz2] at hP
      obtain ⟨rfl, rfl, f23⟩ := hP
      have hb9 := zrK_v hz2
      have hw := h99 a b (by omega) (by omega)
      have g37 := g2.2.2.2.2.2.2.2.2.2.2.2.2.2.2.2.2.2.2 a b ha hb9
      by_cases hab : a = b
      · have hz : zlK tx n S.1 t = .inl (4, (ztk tx n (ztk tx n t.2.2.1).2.2.1).2.1) := by simp only [zlK, hz1, hz2]; rw [if_pos (Or.inl hab)]
        refine zJ_if_eq (tgt := 68) dX9_readsKnows_35 (by decide) (fun h9 => False.elim (by revert h9; decide)) (fun _ => ?_)
        refine zJ_aload_n dX9_readsKnows_38 rfl ?_
        refine zJ_getiN dX9_readsKnows_39 fX9_197 (by first | rfl | assumption | exact hM.at (by decide) (by decide) | exact M1.at (by decide) (by decide) | exact M2.at (by decide) (by decide) | exact M3.at (by decide) (by decide) | exact M4.at (by decide) (by decide) | exact M5.at (by decide) (by decide) | exact M6.at (by decide) (by decide)) rfl f23 ?_
        refine zJ_iload_n dX9_readsKnows_42 rfl ?_
        refine zJ_icmp_eq (tgt := 63) dX9_readsKnows_43 (by decide) (fun h43 => ?_) (fun h9 => absurd (congrArg nI hab.symm) h9)
        refine zJ_aload_n dX9_readsKnows_63 rfl ?_
        refine zJ_iconst (v := 4) dX9_readsKnows_64 (by decide) ?_
        refine zJ_eV1 dX9_readsKnows_65 sX9_231 mfX9_wrong (c_Mo_wr Δ g2 4 (by decide)) (by first | exact hM.at (by decide) (by decide) | exact M1.at (by decide) (by decide) | exact M2.at (by decide) (by decide) | exact M3.at (by decide) (by decide) | exact M4.at (by decide) (by decide) | exact M5.at (by decide) (by decide) | exact M6.at (by decide) (by decide)) rfl (Nat.le_of_ble_eq_true rfl) (by decide) (by decide) (fun r c4 hP => ?_)
        obtain ⟨rfl, hb⟩ := hP
        exact B68 _ hz _ _ (hb.1.1.trans h.1.1.symm) hb
      · by_cases hw0 : S.1.2.2.2 (a * 8 + b) = 0
        · skip
          refine zJ_if_eq (tgt := 68) dX9_readsKnows_35 (by decide) (fun h9 => False.elim (by revert h9; decide)) (fun _ => ?_)
          refine zJ_aload_n dX9_readsKnows_38 rfl ?_
          refine zJ_getiN dX9_readsKnows_39 fX9_197 (by first | rfl | assumption | exact hM.at (by decide) (by decide) | exact M1.at (by decide) (by decide) | exact M2.at (by decide) (by decide) | exact M3.at (by decide) (by decide) | exact M4.at (by decide) (by decide) | exact M5.at (by decide) (by decide) | exact M6.at (by decide) (by decide)) rfl f23 ?_
          refine zJ_iload_n dX9_readsKnows_42 rfl ?_
          refine zJ_icmp_eq (tgt := 63) dX9_readsKnows_43 (by decide) (fun h9 => absurd h9 (fun h => hab ((nI_eq (by omega) (by omega)).mp h).symm)) (fun h43 => ?_)
          refine zJ_aload_n dX9_readsKnows_46 rfl ?_
          refine zJ_getr (j := 137) dX9_readsKnows_47 fX9_47 (by first | rfl | assumption | exact hM.at (by decide) (by decide) | exact M1.at (by decide) (by decide) | exact M2.at (by decide) (by decide) | exact M3.at (by decide) (by decide) | exact M4.at (by decide) (by decide) | exact M5.at (by decide) (by decide) | exact M6.at (by decide) (by decide)) rfl (by first | rfl | assumption | exact hM.rf (by decide) rfl | exact M1.rf (by decide) rfl | exact M2.rf (by decide) rfl | exact M3.rf (by decide) rfl | exact M4.rf (by decide) rfl | exact M5.rf (by decide) rfl | exact M6.rf (by decide) rfl) ?_
          refine zJ_bipush (v := 8) dX9_readsKnows_50 (by decide) ?_
          refine zJ_iload_n dX9_readsKnows_52 rfl ?_
          refine zJ_imul dX9_readsKnows_53 ?_
          refine zJ_aload_n dX9_readsKnows_54 rfl ?_
          refine zJ_getiN dX9_readsKnows_55 fX9_197 (by first | rfl | assumption | exact hM.at (by decide) (by decide) | exact M1.at (by decide) (by decide) | exact M2.at (by decide) (by decide) | exact M3.at (by decide) (by decide) | exact M4.at (by decide) (by decide) | exact M5.at (by decide) (by decide) | exact M6.at (by decide) (by decide)) rfl f23 ?_
          refine zJ_iadd dX9_readsKnows_58 ?_
          refine zJ_ialdN (i := (a * 8 + b)) (v := (nI (S.1.2.2.2 (a * 8 + b)))) dX9_readsKnows_59 (by first | rfl | assumption | exact hM.at (by decide) (by decide) | exact M1.at (by decide) (by decide) | exact M2.at (by decide) (by decide) | exact M3.at (by decide) (by decide) | exact M4.at (by decide) (by decide) | exact M5.at (by decide) (by decide) | exact M6.at (by decide) (by decide)) (na_8 _ _) (by omega) (by decide) g37 ?_
          refine zJ_if_le (tgt := 68) dX9_readsKnows_60 (by decide) (fun h60 => ?_) (fun h9 => absurd ((nI_leI (b := 0) (by omega) (by decide)).mpr (by omega)) h9)
          refine zJ_aload_n dX9_readsKnows_68 rfl ?_
          refine zJ_getiN dX9_readsKnows_69 fX9_197 (by first | rfl | assumption | exact hM.at (by decide) (by decide) | exact M1.at (by decide) (by decide) | exact M2.at (by decide) (by decide) | exact M3.at (by decide) (by decide) | exact M4.at (by decide) (by decide) | exact M5.at (by decide) (by decide) | exact M6.at (by decide) (by decide)) rfl f23 ?_
          refine zJ_istore_n (ls2 := fun x72 => [(2, .int x72), (1, .int (nI a)), (0, .ref 100)]) dX9_readsKnows_72 (by decide) (fun _ => rfl) (fun x72 ex72 => ?_)
          obtain rfl : x72 = (nI b) := ex72
          refine zJ_aload_n dX9_readsKnows_73 rfl ?_
          refine zJ_cV0 dX9_readsKnows_74 sX9_224 mfX9_isGood (c_Mo_ig Δ g2) (by first | rfl | assumption | exact hM.at (by decide) (by decide) | exact M1.at (by decide) (by decide) | exact M2.at (by decide) (by decide) | exact M3.at (by decide) (by decide) | exact M4.at (by decide) (by decide) | exact M5.at (by decide) (by decide) | exact M6.at (by decide) (by decide)) rfl (Nat.le_of_ble_eq_true rfl) (by decide) (by decide) ?_
          refine zJ_if_eq (tgt := 84) dX9_readsKnows_77 (by decide) (fun h9 => False.elim (by revert h9; decide)) (fun _ => ?_)
          refine zJ_aload_n dX9_readsKnows_80 rfl ?_
          refine zJ_eV0 dX9_readsKnows_81 sX9_228 mfX9_steps (c_Mo_st Δ g2) (by first | exact hM.at (by decide) (by decide) | exact M1.at (by decide) (by decide) | exact M2.at (by decide) (by decide) | exact M3.at (by decide) (by decide) | exact M4.at (by decide) (by decide) | exact M5.at (by decide) (by decide) | exact M6.at (by decide) (by decide)) rfl (Nat.le_of_ble_eq_true rfl) (by decide) (by decide) (fun r c5 hP => ?_)
          obtain ⟨rfl, g3⟩ := hP
          have M5 := g3.2.1.1
          refine zJ_aload_n dX9_readsKnows_84 rfl ?_
          refine zJ_bipush (v := 11) dX9_readsKnows_85 (by decide) ?_
          refine zJ_iconst (v := 1) dX9_readsKnows_87 (by decide) ?_
          refine zJ_bipush (v := 99) dX9_readsKnows_88 (by decide) ?_
          refine zJ_iconst (v := 1) dX9_readsKnows_90 (by decide) ?_
          refine zJ_eV4 dX9_readsKnows_91 sX9_244 mfX9_perhaps (c_Mo_pr Δ g3 11 1 99 1 (by decide) (by decide) (by decide)) (by first | exact hM.at (by decide) (by decide) | exact M1.at (by decide) (by decide) | exact M2.at (by decide) (by decide) | exact M3.at (by decide) (by decide) | exact M4.at (by decide) (by decide) | exact M5.at (by decide) (by decide) | exact M6.at (by decide) (by decide)) rfl (Nat.le_of_ble_eq_true rfl) (by decide) (by decide) (fun r c6 hP => ?_)
          cases hz3 : zrP tx n 11 1 99 1 (ztk tx n (ztk tx n (ztk tx n t.2.2.1).2.2.1).2.2.1) with
          | inl e =>
            rw [show zmw 11 = 11 from rfl, hz3] at hP
            obtain ⟨hb, v, rfl⟩ := hP
            have M6 := hb.2.1.1
            have hz : zlK tx n S.1 t = .inl e := by simp only [zlK, hz1, hz2]; rw [if_neg (by omega)]; simp only [hz3]
            refine zJ_istore_n (ls2 := fun x94c => [(3, .int x94c), (2, .int (nI b)), (1, .int (nI a)), (0, .ref 100)]) dX9_readsKnows_94 (by decide) (fun _ => rfl) (fun x94c ex94c => ?_)
            refine zJ_aload_n dX9_readsKnows_95 rfl ?_
            refine zJ_cV0 dX9_readsKnows_96 sX9_224 mfX9_isGood (c_Mo_igB Δ hb) (by first | rfl | assumption | exact hM.at (by decide) (by decide) | exact M1.at (by decide) (by decide) | exact M2.at (by decide) (by decide) | exact M3.at (by decide) (by decide) | exact M4.at (by decide) (by decide) | exact M5.at (by decide) (by decide) | exact M6.at (by decide) (by decide)) rfl (Nat.le_of_ble_eq_true rfl) (by decide) (by decide) ?_
            refine zJ_if_eq (tgt := 114) dX9_readsKnows_99 (by decide) (fun _ => ?_) (fun h9 => False.elim (by revert h9; decide))
            exact zJ_vret dX9_readsKnows_114 rfl (by decide) (by decide) (hQ _ _ ⟨rfl, by rw [hz]; exact hb⟩)
          | inr q =>
            rw [show zmw 11 = 11 from rfl, hz3] at hP
            obtain ⟨g4, rfl⟩ := hP
            have M6 := g4.2.1.1
            have hz : zlK tx n S.1 t = .inr (zTe S.1 a b q.1, q.2) := by simp only [zlK, hz1, hz2]; rw [if_neg (by omega)]; simp only [hz3]
            rw [hz] at hQ
            refine zJ_istore_n (ls2 := fun x94c => [(3, .int x94c), (2, .int (nI b)), (1, .int (nI a)), (0, .ref 100)]) dX9_readsKnows_94 (by decide) (fun _ => rfl) (fun x94c ex94c => ?_)
            obtain rfl : x94c = (nI q.1) := ex94c
            refine zJ_aload_n dX9_readsKnows_95 rfl ?_
            refine zJ_cV0 dX9_readsKnows_96 sX9_224 mfX9_isGood (c_Mo_ig Δ g4) (by first | rfl | assumption | exact hM.at (by decide) (by decide) | exact M1.at (by decide) (by decide) | exact M2.at (by decide) (by decide) | exact M3.at (by decide) (by decide) | exact M4.at (by decide) (by decide) | exact M5.at (by decide) (by decide) | exact M6.at (by decide) (by decide)) rfl (Nat.le_of_ble_eq_true rfl) (by decide) (by decide) ?_
            refine zJ_if_eq (tgt := 114) dX9_readsKnows_99 (by decide) (fun h9 => False.elim (by revert h9; decide)) (fun _ => ?_)
            refine zJ_aload_n dX9_readsKnows_102 rfl ?_
            refine zJ_getr (j := 137) dX9_readsKnows_103 fX9_47 (by first | rfl | assumption | exact hM.at (by decide) (by decide) | exact M1.at (by decide) (by decide) | exact M2.at (by decide) (by decide) | exact M3.at (by decide) (by decide) | exact M4.at (by decide) (by decide) | exact M5.at (by decide) (by decide) | exact M6.at (by decide) (by decide)) rfl (by first | rfl | assumption | exact hM.rf (by decide) rfl | exact M1.rf (by decide) rfl | exact M2.rf (by decide) rfl | exact M3.rf (by decide) rfl | exact M4.rf (by decide) rfl | exact M5.rf (by decide) rfl | exact M6.rf (by decide) rfl) ?_
            refine zJ_bipush (v := 8) dX9_readsKnows_106 (by decide) ?_
            refine zJ_iload_n dX9_readsKnows_108 rfl ?_
            refine zJ_imul dX9_readsKnows_109 ?_
            refine zJ_iload_n dX9_readsKnows_110 rfl ?_
            refine zJ_iadd dX9_readsKnows_111 ?_
            refine zJ_iload_n dX9_readsKnows_112 rfl ?_
            refine zJ_iastN (i := (a * 8 + b)) dX9_readsKnows_113 (by first | rfl | assumption | exact hM.at (by decide) (by decide) | exact M1.at (by decide) (by decide) | exact M2.at (by decide) (by decide) | exact M3.at (by decide) (by decide) | exact M4.at (by decide) (by decide) | exact M5.at (by decide) (by decide) | exact M6.at (by decide) (by decide)) (na_8 _ _) (by omega) (by decide) ?_
            exact zJ_vret dX9_readsKnows_114 rfl (by decide) (by decide) (hQ _ _ ⟨rfl, g4.e a b q.1 ha hb9 h8⟩)
        · have hz : zlK tx n S.1 t = .inl (4, (ztk tx n (ztk tx n t.2.2.1).2.2.1).2.1) := by simp only [zlK, hz1, hz2]; rw [if_pos (Or.inr hw0)]
          refine zJ_if_eq (tgt := 68) dX9_readsKnows_35 (by decide) (fun h9 => False.elim (by revert h9; decide)) (fun _ => ?_)
          refine zJ_aload_n dX9_readsKnows_38 rfl ?_
          refine zJ_getiN dX9_readsKnows_39 fX9_197 (by first | rfl | assumption | exact hM.at (by decide) (by decide) | exact M1.at (by decide) (by decide) | exact M2.at (by decide) (by decide) | exact M3.at (by decide) (by decide) | exact M4.at (by decide) (by decide) | exact M5.at (by decide) (by decide) | exact M6.at (by decide) (by decide)) rfl f23 ?_
          refine zJ_iload_n dX9_readsKnows_42 rfl ?_
          refine zJ_icmp_eq (tgt := 63) dX9_readsKnows_43 (by decide) (fun h9 => absurd h9 (fun h => hab ((nI_eq (by omega) (by omega)).mp h).symm)) (fun h43 => ?_)
          refine zJ_aload_n dX9_readsKnows_46 rfl ?_
          refine zJ_getr (j := 137) dX9_readsKnows_47 fX9_47 (by first | rfl | assumption | exact hM.at (by decide) (by decide) | exact M1.at (by decide) (by decide) | exact M2.at (by decide) (by decide) | exact M3.at (by decide) (by decide) | exact M4.at (by decide) (by decide) | exact M5.at (by decide) (by decide) | exact M6.at (by decide) (by decide)) rfl (by first | rfl | assumption | exact hM.rf (by decide) rfl | exact M1.rf (by decide) rfl | exact M2.rf (by decide) rfl | exact M3.rf (by decide) rfl | exact M4.rf (by decide) rfl | exact M5.rf (by decide) rfl | exact M6.rf (by decide) rfl) ?_
          refine zJ_bipush (v := 8) dX9_readsKnows_50 (by decide) ?_
          refine zJ_iload_n dX9_readsKnows_52 rfl ?_
          refine zJ_imul dX9_readsKnows_53 ?_
          refine zJ_aload_n dX9_readsKnows_54 rfl ?_
          refine zJ_getiN dX9_readsKnows_55 fX9_197 (by first | rfl | assumption | exact hM.at (by decide) (by decide) | exact M1.at (by decide) (by decide) | exact M2.at (by decide) (by decide) | exact M3.at (by decide) (by decide) | exact M4.at (by decide) (by decide) | exact M5.at (by decide) (by decide) | exact M6.at (by decide) (by decide)) rfl f23 ?_
          refine zJ_iadd dX9_readsKnows_58 ?_
          refine zJ_ialdN (i := (a * 8 + b)) (v := (nI (S.1.2.2.2 (a * 8 + b)))) dX9_readsKnows_59 (by first | rfl | assumption | exact hM.at (by decide) (by decide) | exact M1.at (by decide) (by decide) | exact M2.at (by decide) (by decide) | exact M3.at (by decide) (by decide) | exact M4.at (by decide) (by decide) | exact M5.at (by decide) (by decide) | exact M6.at (by decide) (by decide)) (na_8 _ _) (by omega) (by decide) g37 ?_
          refine zJ_if_le (tgt := 68) dX9_readsKnows_60 (by decide) (fun h9 => absurd h9 (fun h => absurd ((nI_leI (b := 0) (by omega) (by decide)).mp h) (by omega))) (fun h60 => ?_)
          refine zJ_aload_n dX9_readsKnows_63 rfl ?_
          refine zJ_iconst (v := 4) dX9_readsKnows_64 (by decide) ?_
          refine zJ_eV1 dX9_readsKnows_65 sX9_231 mfX9_wrong (c_Mo_wr Δ g2 4 (by decide)) (by first | exact hM.at (by decide) (by decide) | exact M1.at (by decide) (by decide) | exact M2.at (by decide) (by decide) | exact M3.at (by decide) (by decide) | exact M4.at (by decide) (by decide) | exact M5.at (by decide) (by decide) | exact M6.at (by decide) (by decide)) rfl (Nat.le_of_ble_eq_true rfl) (by decide) (by decide) (fun r c4 hP => ?_)
          obtain ⟨rfl, hb⟩ := hP
          exact B68 _ hz _ _ (hb.1.1.trans h.1.1.symm) hb
