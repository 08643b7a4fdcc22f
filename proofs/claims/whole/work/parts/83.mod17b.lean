set_option maxRecDepth 100000 in
theorem c_Mo_on (Δ : zD) (w : zW) (U : zTo) (hMu : zMu w U) (hU : zTok U) (h13 : U.1 13 = 0) (x : Int32) (bg : Prop) (wo n : Nat) (S : zRs) (hbg : (bg ∧ w.2.1 100 76 = 1 ∧ zMwk w U wo n S ∧ 0 < U.1 0) ∨ (¬ bg ∧ w.2.1 100 76 = 0)) : zMp Δ 5 yX9_on mX9_on [.ref 100, .int x] w (fun r c => (¬ (∃ v, v ≤ 60 ∧ x = nI v) ∧ zFM zScr w c ∧ c.2.1 100 0 = 1) ∨ (∃ v, v ≤ 60 ∧ x = nI v ∧ ((¬ (bg ∧ n + v ≤ 100) ∧ r = some (.int (-1)) ∧ c = zsi w 100 0 0) ∨ (bg ∧ n + v ≤ 100 ∧ ¬ zfit U 20000 ∧ zFM zScr w c ∧ c.2.1 100 0 = 1) ∨ (bg ∧ n + v ≤ 100 ∧ zfit U 20000 ∧ zFM (zScr ++ [78, 79, 80, 81, 82]) w c ∧ c.2.1 100 0 = 0 ∧ r = some (.int (nI (n + v))) ∧ zMwk c U wo (n + v) (zrx U wo n S v))))) := by
  refine zMp.of mfX9_on (Nat.le_of_ble_eq_true rfl) (fun QR hQ => ?_)
  have hMu0 := hMu
  obtain ⟨hM, u1, u2, u3, u4, u5, u6, u7, u8, u9, uso, unu, uwt⟩ := hMu
  have hp8 := hU.1
  have hU0 := hU
  have M0 : zMs (zsi w 100 0 0) := hM
  have z0 : (zsi w 100 0 0).2.1 100 0 = 0 := by simp [zsi]
  have hMu1 : zMu (zsi w 100 0 0) U := hMu0.fm (zFM.i (l := [0]) (by decide)) (by decide)
  have hp1 : (zsi w 100 0 0).2.1 100 1 = nI (U.1 0) := hMu1.2.1
  by_cases hx : ∃ v, 0 ≤ v ∧ v ≤ 60 ∧ x = nI v
  · obtain ⟨v, -, hv, rfl⟩ := hx
    rcases hbg with ⟨hb, h76, hR, hpos⟩ | ⟨hb, h76⟩
    · have h761 : (zsi w 100 0 0).2.1 100 76 = 1 := by simp [zsi, h76]
      have hR0 : zMwk (zsi w 100 0 0) U wo n S := hR.fm (zFM.i (l := [0]) (by decide)) (by decide)
      have hn1 := hR0.2.2.2.1
      have hn100 := hR0.2.2.2.2.1
      by_cases hnv : n + v ≤ 100
      · refine zJ_aload_n dX9_on_0 rfl ?_
        refine zJ_iconst (v := 0) dX9_on_1 (by decide) ?_
        refine zJ_puti dX9_on_2 fX9_170 (fun q h => by cases h; rfl) (by first | rfl | assumption | exact M0.at (by decide) (by decide)) rfl rfl rfl ?_
        refine zJ_aload_n dX9_on_5 rfl ?_
        refine zJ_iload_n dX9_on_6 rfl ?_
        refine zJ_iconst (v := 0) dX9_on_7 (by decide) ?_
        refine zJ_bipush (v := 60) dX9_on_8 (by decide) ?_
        refine zJ_cS3 dX9_on_10 sX9_336 mfX9_within ((c_Mo_within Δ (zsi w 100 0 0) (nI v) 0 60 (by decide) (by decide)).1 ⟨v, Nat.zero_le _, hv, rfl⟩) (Nat.le_of_ble_eq_true rfl) (by decide) (by decide) ?_
        refine zJ_iconst (v := 1) dX9_on_13 (by decide) ?_
        refine zJ_cV2 dX9_on_14 sX9_291 mfX9_right (c_Mo_right1 Δ (zsi w 100 0 0) M0 z0 1) (by first | rfl | assumption | exact M0.at (by decide) (by decide)) rfl (Nat.le_of_ble_eq_true rfl) (by decide) (by decide) ?_
        refine zJ_if_ne (tgt := 22) dX9_on_17 (by decide) (fun _ => ?_) (fun h9 => False.elim (by revert h9; decide))
        refine zJ_aload_n dX9_on_22 rfl ?_
        refine zJ_getiN dX9_on_23 fX9_329 (by first | rfl | assumption | exact M0.at (by decide) (by decide)) rfl h761 ?_
        refine zJ_if_eq (tgt := 42) dX9_on_26 (by decide) (fun h9 => False.elim (by revert h9; decide)) (fun _ => ?_)
        refine zJ_aload_n dX9_on_29 rfl ?_
        refine zJ_getr (j := 178) dX9_on_30 fX9_140 (by first | rfl | assumption | exact M0.at (by decide) (by decide)) rfl (by first | rfl | assumption | exact M0.rf (by decide) rfl) ?_
        refine zJ_iconst (v := 2) dX9_on_33 (by decide) ?_
        refine zJ_ialdN (i := 2) (v := (nI n)) dX9_on_34 (by first | rfl | assumption | exact M0.at (by decide) (by decide)) rfl (by omega) (by decide) hn1 ?_
        refine zJ_iload_n dX9_on_35 rfl ?_
        refine zJ_iadd dX9_on_36 ?_
        rw [na_add]
        refine zJ_bipush (v := 100) dX9_on_37 (by decide) ?_
        refine zJ_icmp_le (tgt := 44) dX9_on_39 (by decide) (fun h39 => ?_) (fun h9 => absurd ((nI_leI (b := 100) (by omega) (by decide)).mpr hnv) h9)
        refine zJ_aload_n dX9_on_44 rfl ?_
        refine zJ_eV0 dX9_on_45 sX9_413 mfX9_asTold (c_Mo_asTold Δ (zsi w 100 0 0) U hMu1 hU0 h13) (M0.at (by decide) (by decide)) rfl (Nat.le_of_ble_eq_true rfl) (by decide) (by decide) (fun r c hP => ?_)
        obtain ⟨rfl, hfc, hAc⟩ := hP
        have Mc : zMs c := hAc.1
        have c0 : c.2.1 100 0 = 0 := (hfc.at (by decide)).trans z0
        have h2c : c.2.1 100 2 = nI (U.1 12) := (hfc.at (by decide)).trans hMu1.2.2.1
        refine zJ_aload_n dX9_on_48 rfl ?_
        refine zJ_aload_n dX9_on_49 rfl ?_
        refine zJ_aload_n dX9_on_50 rfl ?_
        refine zJ_getiN dX9_on_51 fX9_301 (by first | rfl | assumption | exact Mc.at (by decide) (by decide)) rfl h2c ?_
        refine zJ_eV1 dX9_on_54 sX9_416 mfX9_asks (c_Mo_asks Δ c U hAc hU0 hpos) (Mc.at (by decide) (by decide)) rfl (Nat.le_of_ble_eq_true rfl) (by decide) (by decide) (fun r d hP => ?_)
        obtain ⟨hfd, hP⟩ := hP
        have Md : zMs d := Mc.fm hfd
        have d0 : d.2.1 100 0 = 0 := (hfd.at (by decide)).trans c0
        rcases hP with ⟨rfl, K, hKd, hUd⟩ | ⟨rfl, hno⟩
        · refine zJ_iconst (v := 1) dX9_on_57 (by decide) ?_
          refine zJ_cV2 dX9_on_58 sX9_291 mfX9_right (c_Mo_right1 Δ d Md d0 1) (by first | rfl | assumption | exact Md.at (by decide) (by decide)) rfl (Nat.le_of_ble_eq_true rfl) (by decide) (by decide) ?_
          refine zJ_if_ne (tgt := 66) dX9_on_61 (by decide) (fun _ => ?_) (fun h9 => False.elim (by revert h9; decide))
          have h2d : d.2.1 100 2 = nI (U.1 12) := (hfd.at (by decide)).trans ((hfc.at (by decide)).trans hMu1.2.2.1)
          have hRd : zMwk d U wo n S := (hR0.fm hfc (by decide)).fm hfd (by decide)
          have L : ∀ j, j ≤ v → ∀ e, zFM [78, 79, 80, 81, 82] d e → e.2.1 100 0 = 0 → zMwk e U wo (n + j) (zrx U wo n S j) → zJ Δ mX9_on (zRm 5 0 0) true w.1 QR (fun _ _ => False) 0 0 68 [(2, .int (nI j)), (0, .ref 100), (1, .int (nI v))] [] e := by
            refine zup (fun j hj ih => ?_)
            intro e fe e0 hRe
            have Me : zMs e := Md.fm fe
            have hKe : zMK e U K := hKd.fm fe (by decide)
            have hBe : zBm e U K := fun x k hx h3 => by rw [show (152 : Nat) = 100 + 52 from rfl, fe.ar (by decide) (by decide)]; exact (hUd.bm hU0 hKd) x k hx h3
            have h2e : e.2.1 100 2 = nI (U.1 12) := (fe.at (by decide)).trans h2d
            have n2 := hRe.2.2.2.1
            refine zJ_iload_n dX9_on_68 rfl ?_
            refine zJ_iload_n dX9_on_69 rfl ?_
            refine zJ_icmp_ge (tgt := 99) dX9_on_70 (by decide) (fun h70 => ?_) (fun h70 => ?_)
            · have hj9 : j = v := by exact Nat.le_antisymm hj ((nI_leI (a := v) (b := j) (by omega) (by omega)).mp h70)
              subst hj9
              refine zJ_aload_n dX9_on_99 rfl ?_
              refine zJ_getr (j := 178) dX9_on_100 fX9_140 (by first | rfl | assumption | exact Me.at (by decide) (by decide)) rfl (by first | rfl | assumption | exact Me.rf (by decide) rfl) ?_
              refine zJ_iconst (v := 2) dX9_on_103 (by decide) ?_
              refine zJ_ialdN (i := 2) (v := (nI (n + j))) dX9_on_104 (by first | rfl | assumption | exact Me.at (by decide) (by decide)) rfl (by omega) (by decide) n2 ?_
              exact zJ_iret dX9_on_105 rfl (by decide) (by decide) (hQ _ _ (Or.inr ⟨j, hv, rfl, Or.inr (Or.inr ⟨hb, hnv, ⟨K, hKd.2.2.1, hKd.2.1.2.2.1⟩, ((((zFM.t0.tr (hfc.mono (by decide))).tr (hfd.mono (by decide)))).mono (by decide)).tr (fe.mono (by decide)), e0, rfl, hRe⟩)⟩))
            · have hj9 : j < v := Nat.lt_of_not_le fun hq9 => h70 (by exact (nI_leI (a := v) (b := j) (by omega) (by omega)).mpr hq9)
              refine zJ_aload_n dX9_on_73 rfl ?_
              refine zJ_aload_n dX9_on_74 rfl ?_
              refine zJ_getr (j := 178) dX9_on_75 fX9_140 (by first | rfl | assumption | exact Me.at (by decide) (by decide)) rfl (by first | rfl | assumption | exact Me.rf (by decide) rfl) ?_
              refine zJ_iconst (v := 2) dX9_on_78 (by decide) ?_
              refine zJ_ialdN (i := 2) (v := (nI (n + j))) dX9_on_79 (by first | rfl | assumption | exact Me.at (by decide) (by decide)) rfl (by omega) (by decide) n2 ?_
              refine zJ_eV1 dX9_on_80 sX9_477 mfX9_week0 (c_Mo_week0 Δ e U K hKe hU0 hBe h2e (zrx U wo n S j).2.1 hRe.2.2.2.2.2.2 (n + j) wo (by omega) hRe.2.2.1 hRe.2.1) (Me.at (by decide) (by decide)) rfl (Nat.le_of_ble_eq_true rfl) (by decide) (by decide) (fun r f hP => ?_)
              obtain ⟨rfl, hw9⟩ := hP
              have Mf : zMs f := Me.fm hw9.1
              have hf2 : f.2.1 178 2 = nI (n + j) := (hw9.2.2.1 2 (by decide)).trans n2
              have hst := zMwk.step hRe (by omega) (by rw [← hRe.1]; exact hw9)
              refine zJ_aload_n dX9_on_83 rfl ?_
              refine zJ_getr (j := 178) dX9_on_84 fX9_140 (by first | rfl | assumption | exact Mf.at (by decide) (by decide)) rfl (by first | rfl | assumption | exact Mf.rf (by decide) rfl) ?_
              refine zJ_iconst (v := 2) dX9_on_87 (by decide) ?_
              refine zJ_dup2_11 dX9_on_88 rfl rfl ?_
              refine zJ_ialdN (i := 2) (v := (nI (n + j))) dX9_on_89 (by first | rfl | assumption | exact Mf.at (by decide) (by decide)) rfl (by omega) (by decide) hf2 ?_
              refine zJ_iconst (v := 1) dX9_on_90 (by decide) ?_
              refine zJ_iadd dX9_on_91 ?_
              rw [show nI (n + j) + 1 = nI (n + j + 1) from nI_1 _]
              refine zJ_iastN (i := 2) dX9_on_92 (by first | rfl | assumption | exact Mf.at (by decide) (by decide)) rfl (by omega) (by decide) ?_
              refine zJ_iinc (ls2 := fun x93f => [(2, .int x93f), (0, .ref 100), (1, .int (nI v))]) dX9_on_93 rfl (by decide) (fun _ => rfl) (fun x93f ex93f => ?_)
              refine zJ_goto (tgt := 68) dX9_on_96 (by decide) ?_
              refine zJ_ls [(2, .int x93f), (0, .ref 100), (1, .int (nI v))] (by simp) ?_
              rw [ex93f, show nI j + Int32.ofInt 1 = nI (j + 1) from nI_1 _]
              exact ih (j + 1) (by omega) (by omega) _ ((fe.tr hw9.1).tr (zFM.i (Or.inr (by decide)))) ((zsi_o (by decide)).trans ((hw9.1.at (by decide)).trans e0)) hst
          refine zJ_iconst (v := 0) dX9_on_66 (by decide) ?_
          refine zJ_istore_n (ls2 := fun x67g => [(2, .int x67g), (0, .ref 100), (1, .int (nI v))]) dX9_on_67 (by decide) (fun _ => rfl) (fun x67g ex67g => ?_)
          refine zJ_ls [(2, .int x67g), (0, .ref 100), (1, .int (nI v))] (by simp) ?_
          rw [ex67g]
          exact L 0 (Nat.zero_le _) d (zFM.rf d) d0 hRd
        · refine zJ_iconst (v := 1) dX9_on_57 (by decide) ?_
          refine zJ_cV2 dX9_on_58 sX9_291 mfX9_right (c_Mo_right0 Δ d Md d0 1 (by decide)) (by first | rfl | assumption | exact Md.at (by decide) (by decide)) rfl (Nat.le_of_ble_eq_true rfl) (by decide) (by decide) ?_
          refine zJ_if_ne (tgt := 66) dX9_on_61 (by decide) (fun h9 => False.elim (by revert h9; decide)) (fun _ => ?_)
          refine zJ_iconst (v := 0) dX9_on_64 (by decide) ?_
          exact zJ_iret dX9_on_65 rfl (by decide) (by decide) (hQ _ _ (Or.inr ⟨v, hv, rfl, Or.inr (Or.inl ⟨hb, hnv, hno, (((zFM.t0.tr (hfc.mono (by decide))).tr (hfd.mono (by decide)))).tr zFM.t0, by simp [zsi]⟩)⟩))
      · refine zJ_aload_n dX9_on_0 rfl ?_
        refine zJ_iconst (v := 0) dX9_on_1 (by decide) ?_
        refine zJ_puti dX9_on_2 fX9_170 (fun q h => by cases h; rfl) (by first | rfl | assumption | exact M0.at (by decide) (by decide)) rfl rfl rfl ?_
        refine zJ_aload_n dX9_on_5 rfl ?_
        refine zJ_iload_n dX9_on_6 rfl ?_
        refine zJ_iconst (v := 0) dX9_on_7 (by decide) ?_
        refine zJ_bipush (v := 60) dX9_on_8 (by decide) ?_
        refine zJ_cS3 dX9_on_10 sX9_336 mfX9_within ((c_Mo_within Δ (zsi w 100 0 0) (nI v) 0 60 (by decide) (by decide)).1 ⟨v, Nat.zero_le _, hv, rfl⟩) (Nat.le_of_ble_eq_true rfl) (by decide) (by decide) ?_
        refine zJ_iconst (v := 1) dX9_on_13 (by decide) ?_
        refine zJ_cV2 dX9_on_14 sX9_291 mfX9_right (c_Mo_right1 Δ (zsi w 100 0 0) M0 z0 1) (by first | rfl | assumption | exact M0.at (by decide) (by decide)) rfl (Nat.le_of_ble_eq_true rfl) (by decide) (by decide) ?_
        refine zJ_if_ne (tgt := 22) dX9_on_17 (by decide) (fun _ => ?_) (fun h9 => False.elim (by revert h9; decide))
        refine zJ_aload_n dX9_on_22 rfl ?_
        refine zJ_getiN dX9_on_23 fX9_329 (by first | rfl | assumption | exact M0.at (by decide) (by decide)) rfl h761 ?_
        refine zJ_if_eq (tgt := 42) dX9_on_26 (by decide) (fun h9 => False.elim (by revert h9; decide)) (fun _ => ?_)
        refine zJ_aload_n dX9_on_29 rfl ?_
        refine zJ_getr (j := 178) dX9_on_30 fX9_140 (by first | rfl | assumption | exact M0.at (by decide) (by decide)) rfl (by first | rfl | assumption | exact M0.rf (by decide) rfl) ?_
        refine zJ_iconst (v := 2) dX9_on_33 (by decide) ?_
        refine zJ_ialdN (i := 2) (v := (nI n)) dX9_on_34 (by first | rfl | assumption | exact M0.at (by decide) (by decide)) rfl (by omega) (by decide) hn1 ?_
        refine zJ_iload_n dX9_on_35 rfl ?_
        refine zJ_iadd dX9_on_36 ?_
        rw [na_add]
        refine zJ_bipush (v := 100) dX9_on_37 (by decide) ?_
        refine zJ_icmp_le (tgt := 44) dX9_on_39 (by decide) (fun h9 => absurd h9 (fun h => hnv ((nI_leI (b := 100) (by omega) (by decide)).mp h))) (fun h39 => ?_)
        refine zJ_iconst (v := (-1)) dX9_on_42 (by decide) ?_
        exact zJ_iret dX9_on_43 rfl (by decide) (by decide) (hQ _ _ (Or.inr ⟨v, hv, rfl, Or.inl ⟨fun h => hnv h.2, rfl, rfl⟩⟩))
    · have h761 : (zsi w 100 0 0).2.1 100 76 = 0 := by simp [zsi, h76]
      refine zJ_aload_n dX9_on_0 rfl ?_
      refine zJ_iconst (v := 0) dX9_on_1 (by decide) ?_
      refine zJ_puti dX9_on_2 fX9_170 (fun q h => by cases h; rfl) (by first | rfl | assumption | exact M0.at (by decide) (by decide)) rfl rfl rfl ?_
      refine zJ_aload_n dX9_on_5 rfl ?_
      refine zJ_iload_n dX9_on_6 rfl ?_
      refine zJ_iconst (v := 0) dX9_on_7 (by decide) ?_
      refine zJ_bipush (v := 60) dX9_on_8 (by decide) ?_
      refine zJ_cS3 dX9_on_10 sX9_336 mfX9_within ((c_Mo_within Δ (zsi w 100 0 0) (nI v) 0 60 (by decide) (by decide)).1 ⟨v, Nat.zero_le _, hv, rfl⟩) (Nat.le_of_ble_eq_true rfl) (by decide) (by decide) ?_
      refine zJ_iconst (v := 1) dX9_on_13 (by decide) ?_
      refine zJ_cV2 dX9_on_14 sX9_291 mfX9_right (c_Mo_right1 Δ (zsi w 100 0 0) M0 z0 1) (by first | rfl | assumption | exact M0.at (by decide) (by decide)) rfl (Nat.le_of_ble_eq_true rfl) (by decide) (by decide) ?_
      refine zJ_if_ne (tgt := 22) dX9_on_17 (by decide) (fun _ => ?_) (fun h9 => False.elim (by revert h9; decide))
      refine zJ_aload_n dX9_on_22 rfl ?_
      refine zJ_getiN dX9_on_23 fX9_329 (by first | rfl | assumption | exact M0.at (by decide) (by decide)) rfl h761 ?_
      refine zJ_if_eq (tgt := 42) dX9_on_26 (by decide) (fun _ => ?_) (fun h9 => False.elim (by revert h9; decide))
      refine zJ_iconst (v := (-1)) dX9_on_42 (by decide) ?_
      exact zJ_iret dX9_on_43 rfl (by decide) (by decide) (hQ _ _ (Or.inr ⟨v, hv, rfl, Or.inl ⟨fun h => hb h.1, rfl, rfl⟩⟩))
  · refine zJ_aload_n dX9_on_0 rfl ?_
    refine zJ_iconst (v := 0) dX9_on_1 (by decide) ?_
    refine zJ_puti dX9_on_2 fX9_170 (fun q h => by cases h; rfl) (by first | rfl | assumption | exact M0.at (by decide) (by decide)) rfl rfl rfl ?_
    refine zJ_aload_n dX9_on_5 rfl ?_
    refine zJ_iload_n dX9_on_6 rfl ?_
    refine zJ_iconst (v := 0) dX9_on_7 (by decide) ?_
    refine zJ_bipush (v := 60) dX9_on_8 (by decide) ?_
    refine zJ_cS3 dX9_on_10 sX9_336 mfX9_within ((c_Mo_within Δ (zsi w 100 0 0) x 0 60 (by decide) (by decide)).2 hx) (Nat.le_of_ble_eq_true rfl) (by decide) (by decide) ?_
    refine zJ_iconst (v := 1) dX9_on_13 (by decide) ?_
    refine zJ_cV2 dX9_on_14 sX9_291 mfX9_right (c_Mo_right0 Δ (zsi w 100 0 0) M0 z0 1 (by decide)) (by first | rfl | assumption | exact M0.at (by decide) (by decide)) rfl (Nat.le_of_ble_eq_true rfl) (by decide) (by decide) ?_
    refine zJ_if_ne (tgt := 22) dX9_on_17 (by decide) (fun h9 => False.elim (by revert h9; decide)) (fun _ => ?_)
    refine zJ_iconst (v := 0) dX9_on_20 (by decide) ?_
    exact zJ_iret dX9_on_21 rfl (by decide) (by decide) (hQ _ _ (Or.inl ⟨fun ⟨v, h1, h2⟩ => hx ⟨v, Nat.zero_le _, h1, h2⟩, zFM.t0.tr zFM.t0, by simp [zsi]⟩))
