set_option maxRecDepth 100000 in
theorem c_Mo_one (Δ : zD) (w : zW) (U : zTo) (hMu : zMu w U) (hU : zTok U) (h13 : U.1 13 = 0) (x a b wh : Int32) : zMp Δ 5 yX9_one mX9_one [.ref 100, .int x, .int a, .int b, .int wh] w (fun r c => zFM zScr w c ∧ ((¬ ((∃ p, p < U.1 0 ∧ x = nI p) ∧ ∃ q, q ≤ 1 ∧ wh = nI q) ∧ c.2.1 100 0 = 1) ∨ (((∃ p, p < U.1 0 ∧ x = nI p) ∧ ∃ q, q ≤ 1 ∧ wh = nI q) ∧ ¬ (∃ to s, to ≤ 9999 ∧ a = nI to ∧ (1 ≤ s ∧ s < 2 ^ 31) ∧ b = nI s ∧ to / s < 60) ∧ c.2.1 100 0 = 2) ∨ (((∃ p, p < U.1 0 ∧ x = nI p) ∧ ∃ q, q ≤ 1 ∧ wh = nI q) ∧ (∃ to s, to ≤ 9999 ∧ a = nI to ∧ (1 ≤ s ∧ s < 2 ^ 31) ∧ b = nI s ∧ to / s < 60) ∧ ¬ zfit U 20000 ∧ c.2.1 100 0 = 2) ∨ (∃ p wq to s, p < U.1 0 ∧ x = nI p ∧ wq ≤ 1 ∧ wh = nI wq ∧ to ≤ 9999 ∧ a = nI to ∧ (1 ≤ s ∧ s < 2 ^ 31) ∧ b = nI s ∧ to / s < 60 ∧ zfit U 20000 ∧ c.2.1 100 0 = 0 ∧ r = some (.long (if wq = 0 then lN (zbx (fun k => zgn U p (k * s)) (to / s) * s) else lZ (zgn U p (zbx (fun k => zgn U p (k * s)) (to / s) * s))))))) := by
  refine zMp.of mfX9_one (Nat.le_of_ble_eq_true rfl) (fun QR hQ => ?_)
  have hMu0 := hMu
  obtain ⟨hM, u1, u2, u3, u4, u5, u6, u7, u8, u9, uso, unu, uwt⟩ := hMu
  have hp8 := hU.1
  have hU0 := hU
  have M0 : zMs (zsi w 100 0 0) := hM
  have z0 : (zsi w 100 0 0).2.1 100 0 = 0 := by simp [zsi]
  have hMu1 : zMu (zsi w 100 0 0) U := hMu0.fm (zFM.i (l := [0]) (by decide)) (by decide)
  have hp1 : (zsi w 100 0 0).2.1 100 1 = nI (U.1 0) := hMu1.2.1
  by_cases hx : ∃ p, p < U.1 0 ∧ x = nI p
  · have K39 : ∀ wq, wq ≤ 1 → wh = nI wq → zJ Δ mX9_one (zRm 5 0 0) true w.1 QR (fun _ _ => False) 0 0 39 [(0, .ref 100), (1, .int x), (2, .int a), (3, .int b), (4, .int wh)] [] (zsi w 100 0 0) := by
      intro wq hwq hwh
      have hok1 : ((∃ p, p < U.1 0 ∧ x = nI p) ∧ ∃ q, q ≤ 1 ∧ wh = nI q) := ⟨hx, wq, hwq, hwh⟩
      obtain ⟨p, hp, rfl⟩ := hx
      have hpos : 0 < U.1 0 := by omega
      have NO2 : ¬ (∃ to s, to ≤ 9999 ∧ a = nI to ∧ (1 ≤ s ∧ s < 2 ^ 31) ∧ b = nI s ∧ to / s < 60) → ∀ r, QR r (zsi (zsi w 100 0 0) 100 0 2) := fun h r => hQ _ _ ⟨zFM.t0.tr zFM.t0, Or.inr (Or.inl ⟨hok1, h, by simp [zsi]⟩)⟩
      by_cases ha : ∃ t, 0 ≤ t ∧ t ≤ 9999 ∧ a = nI t
      · by_cases hb : b < 1
        · refine zJ_aload_n dX9_one_39 rfl ?_
          refine zJ_iload_n dX9_one_40 rfl ?_
          refine zJ_iconst (v := 0) dX9_one_41 (by decide) ?_
          refine zJ_sipush (v := 9999) dX9_one_42 (by decide) ?_
          refine zJ_cS3 dX9_one_45 sX9_336 mfX9_within ((c_Mo_within Δ (zsi w 100 0 0) a 0 9999 (by decide) (by decide)).1 ha) (Nat.le_of_ble_eq_true rfl) (by decide) (by decide) ?_
          refine zJ_if_eq (tgt := 60) dX9_one_48 (by decide) (fun h9 => False.elim (by revert h9; decide)) (fun _ => ?_)
          refine zJ_iload_n dX9_one_51 rfl ?_
          refine zJ_iconst (v := 1) dX9_one_52 (by decide) ?_
          refine zJ_icmp_lt (tgt := 60) dX9_one_53 (by decide) (fun h53 => ?_) (fun h9 => absurd hb h9)
          refine zJ_iconst (v := 0) dX9_one_60 (by decide) ?_
          refine zJ_iconst (v := 2) dX9_one_61 (by decide) ?_
          refine zJ_cV2 dX9_one_62 sX9_291 mfX9_right (c_Mo_right0 Δ (zsi w 100 0 0) M0 z0 2 (by decide)) (by first | rfl | assumption | exact M0.at (by decide) (by decide)) rfl (Nat.le_of_ble_eq_true rfl) (by decide) (by decide) ?_
          refine zJ_if_eq (tgt := 89) dX9_one_65 (by decide) (fun _ => ?_) (fun h9 => False.elim (by revert h9; decide))
          refine zJ_lconst (v := 0) dX9_one_89 (by decide) ?_
          exact zJ_lret dX9_one_90 rfl (by decide) (by decide) (NO2 (fun ⟨t, s, h1, h2, h3, h4, h5⟩ => absurd hb (by rw [h4]; exact fun h => absurd ((nI_ltI (b := 1) (by omega) (by decide)).mp h) (by omega))) _)
        · obtain ⟨s, hs2, rfl⟩ := nI_of (x := b) (fun h => hb (Int32.lt_trans h (by decide)))
          have hs1 : 1 ≤ s := Nat.le_of_not_lt fun h => hb ((nI_ltI (b := 1) (by omega) (by decide)).mpr h)
          obtain ⟨to, -, hto, rfl⟩ := ha
          have hsn : ¬ nI s = 0 := fun h => absurd ((nI_eq (b := 0) hs2 (by decide)).mp h) (by omega)
          have hdv : nI to / nI s = nI (to / s) := nI_div (by omega) hs2
          have hdl : to / s ≤ to := Nat.div_le_self to s
          have hnb : ¬ nI s < 1 := hb
          by_cases h60 : to / s < 60
          · have hok2 : (∃ to2 s2, to2 ≤ 9999 ∧ nI to = nI to2 ∧ (1 ≤ s2 ∧ s2 < 2 ^ 31) ∧ nI s = nI s2 ∧ to2 / s2 < 60) := ⟨to, s, hto, rfl, ⟨hs1, hs2⟩, rfl, h60⟩
            subst hwh
            refine zJ_aload_n dX9_one_39 rfl ?_
            refine zJ_iload_n dX9_one_40 rfl ?_
            refine zJ_iconst (v := 0) dX9_one_41 (by decide) ?_
            refine zJ_sipush (v := 9999) dX9_one_42 (by decide) ?_
            refine zJ_cS3 dX9_one_45 sX9_336 mfX9_within ((c_Mo_within Δ (zsi w 100 0 0) (nI to) 0 9999 (by decide) (by decide)).1 ⟨to, Nat.zero_le _, hto, rfl⟩) (Nat.le_of_ble_eq_true rfl) (by decide) (by decide) ?_
            refine zJ_if_eq (tgt := 60) dX9_one_48 (by decide) (fun h9 => False.elim (by revert h9; decide)) (fun _ => ?_)
            refine zJ_iload_n dX9_one_51 rfl ?_
            refine zJ_iconst (v := 1) dX9_one_52 (by decide) ?_
            refine zJ_icmp_lt (tgt := 60) dX9_one_53 (by decide) (fun h9 => absurd h9 hnb) (fun h53 => ?_)
            refine zJ_iconst (v := 1) dX9_one_56 (by decide) ?_
            refine zJ_goto (tgt := 61) dX9_one_57 (by decide) ?_
            refine zJ_iconst (v := 2) dX9_one_61 (by decide) ?_
            refine zJ_cV2 dX9_one_62 sX9_291 mfX9_right (c_Mo_right1 Δ (zsi w 100 0 0) M0 z0 2) (by first | rfl | assumption | exact M0.at (by decide) (by decide)) rfl (Nat.le_of_ble_eq_true rfl) (by decide) (by decide) ?_
            refine zJ_if_eq (tgt := 89) dX9_one_65 (by decide) (fun h9 => False.elim (by revert h9; decide)) (fun _ => ?_)
            refine zJ_aload_n dX9_one_68 rfl ?_
            refine zJ_iload_n dX9_one_69 rfl ?_
            refine zJ_iload_n dX9_one_70 rfl ?_
            refine zJ_idiv dX9_one_71 hsn ?_
            rw [hdv]
            refine zJ_bipush (v := 60) dX9_one_72 (by decide) ?_
            refine zJ_icmp_ge (tgt := 81) dX9_one_74 (by decide) (fun h9 => absurd h9 (fun h => absurd ((nI_leI (a := 60) (by decide) (by omega)).mp h) (by omega))) (fun h74 => ?_)
            refine zJ_iconst (v := 1) dX9_one_77 (by decide) ?_
            refine zJ_goto (tgt := 82) dX9_one_78 (by decide) ?_
            refine zJ_iconst (v := 2) dX9_one_82 (by decide) ?_
            refine zJ_cV2 dX9_one_83 sX9_291 mfX9_right (c_Mo_right1 Δ (zsi w 100 0 0) M0 z0 2) (by first | rfl | assumption | exact M0.at (by decide) (by decide)) rfl (Nat.le_of_ble_eq_true rfl) (by decide) (by decide) ?_
            refine zJ_if_ne (tgt := 91) dX9_one_86 (by decide) (fun _ => ?_) (fun h9 => False.elim (by revert h9; decide))
            refine zJ_aload_n dX9_one_91 rfl ?_
            refine zJ_eV0 dX9_one_92 sX9_413 mfX9_asTold (c_Mo_asTold Δ (zsi w 100 0 0) U hMu1 hU0 h13) (M0.at (by decide) (by decide)) rfl (Nat.le_of_ble_eq_true rfl) (by decide) (by decide) (fun r c hP => ?_)
            obtain ⟨rfl, hfc, hAc⟩ := hP
            have Mc : zMs c := hAc.1
            have c0 : c.2.1 100 0 = 0 := (hfc.at (by decide)).trans z0
            have h2c : c.2.1 100 2 = nI (U.1 12) := (hfc.at (by decide)).trans hMu1.2.2.1
            refine zJ_aload_n dX9_one_95 rfl ?_
            refine zJ_aload_n dX9_one_96 rfl ?_
            refine zJ_aload_n dX9_one_97 rfl ?_
            refine zJ_getiN dX9_one_98 fX9_301 (by first | rfl | assumption | exact Mc.at (by decide) (by decide)) rfl h2c ?_
            refine zJ_eV1 dX9_one_101 sX9_403 mfX9_builds (c_Mo_builds Δ c U hAc hU0 hpos) (Mc.at (by decide) (by decide)) rfl (Nat.le_of_ble_eq_true rfl) (by decide) (by decide) (fun r d hP => ?_)
            obtain ⟨hfd, hP⟩ := hP
            have Md : zMs d := Mc.fm hfd
            have d0 : d.2.1 100 0 = 0 := (hfd.at (by decide)).trans c0
            rcases hP with ⟨rfl, K, hKd⟩ | ⟨rfl, hno⟩
            · refine zJ_iconst (v := 2) dX9_one_104 (by decide) ?_
              refine zJ_cV2 dX9_one_105 sX9_291 mfX9_right (c_Mo_right1 Δ d Md d0 2) (by first | rfl | assumption | exact Md.at (by decide) (by decide)) rfl (Nat.le_of_ble_eq_true rfl) (by decide) (by decide) ?_
              refine zJ_if_ne (tgt := 113) dX9_one_108 (by decide) (fun _ => ?_) (fun h9 => False.elim (by revert h9; decide))
              refine zJ_aload_n dX9_one_113 rfl ?_
              refine zJ_getr (j := 148) dX9_one_114 fX9_70 (by first | rfl | assumption | exact Md.at (by decide) (by decide)) rfl (by first | rfl | assumption | exact Md.rf (by decide) rfl) ?_
              refine zJ_iload_n dX9_one_117 rfl ?_
              refine zJ_iconst (v := 0) dX9_one_118 (by decide) ?_
              refine zJ_iastN (i := p) dX9_one_119 (by first | rfl | assumption | exact Md.at (by decide) (by decide)) rfl (by omega) (by decide) ?_
              refine zJ_lconst (v := 0) dX9_one_120 (by decide) ?_
              refine zJ_lstore (ls2 := fun x121g => [(5, .long x121g), (0, .ref 100), (1, .int (nI p)), (2, .int (nI to)), (3, .int (nI s)), (4, .int (nI wq))]) dX9_one_121 (by decide) (fun _ => rfl) (fun x121g ex121g => ?_)
              refine zJ_iconst (v := (-1)) dX9_one_123 (by decide) ?_
              refine zJ_istore (ls2 := fun x124g => [(7, .int x124g), (5, .long x121g), (0, .ref 100), (1, .int (nI p)), (2, .int (nI to)), (3, .int (nI s)), (4, .int (nI wq))]) dX9_one_124 (by decide) (fun _ => rfl) (fun x124g ex124g => ?_)
              refine zJ_iconst (v := 0) dX9_one_126 (by decide) ?_
              refine zJ_istore (ls2 := fun x127g => [(8, .int x127g), (7, .int x124g), (5, .long x121g), (0, .ref 100), (1, .int (nI p)), (2, .int (nI to)), (3, .int (nI s)), (4, .int (nI wq))]) dX9_one_127 (by decide) (fun _ => rfl) (fun x127g ex127g => ?_)
              refine zJ_ls [(8, .int x127g), (7, .int x124g), (5, .long x121g), (0, .ref 100), (1, .int (nI p)), (2, .int (nI to)), (3, .int (nI s)), (4, .int (nI wq))] (by simp) ?_
              have hA1 : zMa (zsi d 148 p 0) (zTon U p (U.2.2.1 p)) := hKd.1.on0
              have f1 : zFM [48] d (zsi d 148 p 0) := zFM.i (Or.inr (by decide))
              have hK1 : zMK (zsi d 148 p 0) (zTon U p (U.2.2.1 p)) K := by
                obtain ⟨a1, a2, a3, a4⟩ := hKd
                refine ⟨hA1, a2.fm f1 (by decide), by rw [(zLk.on U p (U.2.2.1 p)).all]; exact a3, fun x k hx y hy => ?_⟩
                have h9 := a4 x k hx y hy
                unfold zNx at *
                rw [zsi_o (by decide)]
                exact h9
              have fwe : zFM zScr w (zsi d 148 p 0) := (((zFM.t0.tr (hfc.mono (by decide))).tr (hfd.mono (by decide)))).tr (f1.mono (by decide))
              have e0 : (zsi d 148 p 0).2.1 100 0 = 0 := (f1.at (by decide)).trans d0
              rw [ex127g, ex124g, show w.1 = (zsi d 148 p 0).1 from fwe.1.symm]
              exact zMo_onL Δ (zsi d 148 p 0) U hU0 p to s wq hp hto hs1 hs2 h60 hwq K hKd.2.1.2.2.1 (fun c fc c0 => hQ _ _ ⟨fwe.tr fc, Or.inr (Or.inr (Or.inr ⟨p, wq, to, s, hp, rfl, hwq, rfl, hto, rfl, ⟨hs1, hs2⟩, rfl, h60, ⟨K, hKd.2.2.1, hKd.2.1.2.2.1⟩, c0, rfl⟩))⟩) 0 (Nat.zero_le _) _ (U.2.2.1 p) (hU0.2.2.2.2.2.2.2.2.2.2.1 p).2.1 (zFM.rf _) e0 hK1 _ _ (Or.inl ⟨rfl, rfl⟩)
            · refine zJ_iconst (v := 2) dX9_one_104 (by decide) ?_
              refine zJ_cV2 dX9_one_105 sX9_291 mfX9_right (c_Mo_right0 Δ d Md d0 2 (by decide)) (by first | rfl | assumption | exact Md.at (by decide) (by decide)) rfl (Nat.le_of_ble_eq_true rfl) (by decide) (by decide) ?_
              refine zJ_if_ne (tgt := 113) dX9_one_108 (by decide) (fun h9 => False.elim (by revert h9; decide)) (fun _ => ?_)
              refine zJ_lconst (v := 0) dX9_one_111 (by decide) ?_
              exact zJ_lret dX9_one_112 rfl (by decide) (by decide) (hQ _ _ ⟨((zFM.t0.tr (hfc.mono (by decide))).tr (hfd.mono (by decide))).tr zFM.t0, Or.inr (Or.inr (Or.inl ⟨hok1, hok2, hno, by simp [zsi]⟩))⟩)
          · refine zJ_aload_n dX9_one_39 rfl ?_
            refine zJ_iload_n dX9_one_40 rfl ?_
            refine zJ_iconst (v := 0) dX9_one_41 (by decide) ?_
            refine zJ_sipush (v := 9999) dX9_one_42 (by decide) ?_
            refine zJ_cS3 dX9_one_45 sX9_336 mfX9_within ((c_Mo_within Δ (zsi w 100 0 0) (nI to) 0 9999 (by decide) (by decide)).1 ⟨to, Nat.zero_le _, hto, rfl⟩) (Nat.le_of_ble_eq_true rfl) (by decide) (by decide) ?_
            refine zJ_if_eq (tgt := 60) dX9_one_48 (by decide) (fun h9 => False.elim (by revert h9; decide)) (fun _ => ?_)
            refine zJ_iload_n dX9_one_51 rfl ?_
            refine zJ_iconst (v := 1) dX9_one_52 (by decide) ?_
            refine zJ_icmp_lt (tgt := 60) dX9_one_53 (by decide) (fun h9 => absurd h9 hnb) (fun h53 => ?_)
            refine zJ_iconst (v := 1) dX9_one_56 (by decide) ?_
            refine zJ_goto (tgt := 61) dX9_one_57 (by decide) ?_
            refine zJ_iconst (v := 2) dX9_one_61 (by decide) ?_
            refine zJ_cV2 dX9_one_62 sX9_291 mfX9_right (c_Mo_right1 Δ (zsi w 100 0 0) M0 z0 2) (by first | rfl | assumption | exact M0.at (by decide) (by decide)) rfl (Nat.le_of_ble_eq_true rfl) (by decide) (by decide) ?_
            refine zJ_if_eq (tgt := 89) dX9_one_65 (by decide) (fun h9 => False.elim (by revert h9; decide)) (fun _ => ?_)
            refine zJ_aload_n dX9_one_68 rfl ?_
            refine zJ_iload_n dX9_one_69 rfl ?_
            refine zJ_iload_n dX9_one_70 rfl ?_
            refine zJ_idiv dX9_one_71 hsn ?_
            rw [hdv]
            refine zJ_bipush (v := 60) dX9_one_72 (by decide) ?_
            refine zJ_icmp_ge (tgt := 81) dX9_one_74 (by decide) (fun h74 => ?_) (fun h9 => absurd ((nI_leI (a := 60) (by decide) (by omega)).mpr (by omega)) h9)
            refine zJ_iconst (v := 0) dX9_one_81 (by decide) ?_
            refine zJ_iconst (v := 2) dX9_one_82 (by decide) ?_
            refine zJ_cV2 dX9_one_83 sX9_291 mfX9_right (c_Mo_right0 Δ (zsi w 100 0 0) M0 z0 2 (by decide)) (by first | rfl | assumption | exact M0.at (by decide) (by decide)) rfl (Nat.le_of_ble_eq_true rfl) (by decide) (by decide) ?_
            refine zJ_if_ne (tgt := 91) dX9_one_86 (by decide) (fun h9 => False.elim (by revert h9; decide)) (fun _ => ?_)
            refine zJ_lconst (v := 0) dX9_one_89 (by decide) ?_
            exact zJ_lret dX9_one_90 rfl (by decide) (by decide) (NO2 (fun ⟨t, s3, h1, h2, h3, h4, h5⟩ => by
  obtain rfl := (nI_eq (by omega) (by omega)).mp h2
  obtain rfl := (nI_eq hs2 h3.2).mp h4
  exact h60 h5) _)
      · refine zJ_aload_n dX9_one_39 rfl ?_
        refine zJ_iload_n dX9_one_40 rfl ?_
        refine zJ_iconst (v := 0) dX9_one_41 (by decide) ?_
        refine zJ_sipush (v := 9999) dX9_one_42 (by decide) ?_
        refine zJ_cS3 dX9_one_45 sX9_336 mfX9_within ((c_Mo_within Δ (zsi w 100 0 0) a 0 9999 (by decide) (by decide)).2 ha) (Nat.le_of_ble_eq_true rfl) (by decide) (by decide) ?_
        refine zJ_if_eq (tgt := 60) dX9_one_48 (by decide) (fun _ => ?_) (fun h9 => False.elim (by revert h9; decide))
        refine zJ_iconst (v := 0) dX9_one_60 (by decide) ?_
        refine zJ_iconst (v := 2) dX9_one_61 (by decide) ?_
        refine zJ_cV2 dX9_one_62 sX9_291 mfX9_right (c_Mo_right0 Δ (zsi w 100 0 0) M0 z0 2 (by decide)) (by first | rfl | assumption | exact M0.at (by decide) (by decide)) rfl (Nat.le_of_ble_eq_true rfl) (by decide) (by decide) ?_
        refine zJ_if_eq (tgt := 89) dX9_one_65 (by decide) (fun _ => ?_) (fun h9 => False.elim (by revert h9; decide))
        refine zJ_lconst (v := 0) dX9_one_89 (by decide) ?_
        exact zJ_lret dX9_one_90 rfl (by decide) (by decide) (NO2 (fun ⟨t, s, h1, h2, h3⟩ => ha ⟨t, Nat.zero_le _, h1, h2⟩) _)
    by_cases hq : ∃ q, q ≤ 1 ∧ wh = nI q
    · obtain ⟨q, hq1, hqe⟩ := hq
      have hk := K39 q hq1 hqe
      rcases (by omega : q = 0 ∨ q = 1) with rfl | rfl
      · subst hqe
        refine zJ_aload_n dX9_one_0 rfl ?_
        refine zJ_iconst (v := 0) dX9_one_1 (by decide) ?_
        refine zJ_puti dX9_one_2 fX9_170 (fun q h => by cases h; rfl) (by first | rfl | assumption | exact M0.at (by decide) (by decide)) rfl rfl rfl ?_
        refine zJ_aload_n dX9_one_5 rfl ?_
        refine zJ_iload_n dX9_one_6 rfl ?_
        refine zJ_cV1 dX9_one_7 sX9_339 mfX9_isPerson ((c_Mo_isPerson Δ (zsi w 100 0 0) M0 z0 x (U.1 0) hp1 hp8).1 hx) (by first | rfl | assumption | exact M0.at (by decide) (by decide)) rfl (Nat.le_of_ble_eq_true rfl) (by decide) (by decide) ?_
        refine zJ_if_eq (tgt := 37) dX9_one_10 (by decide) (fun h9 => False.elim (by revert h9; decide)) (fun _ => ?_)
        refine zJ_aload_n dX9_one_13 rfl ?_
        refine zJ_iload dX9_one_14 rfl ?_
        refine zJ_if_eq (tgt := 25) dX9_one_16 (by decide) (fun _ => ?_) (fun h9 => False.elim (by revert h9; decide))
        refine zJ_iconst (v := 1) dX9_one_25 (by decide) ?_
        refine zJ_goto (tgt := 30) dX9_one_26 (by decide) ?_
        refine zJ_iconst (v := 1) dX9_one_30 (by decide) ?_
        refine zJ_cV2 dX9_one_31 sX9_291 mfX9_right (c_Mo_right1 Δ (zsi w 100 0 0) M0 z0 1) (by first | rfl | assumption | exact M0.at (by decide) (by decide)) rfl (Nat.le_of_ble_eq_true rfl) (by decide) (by decide) ?_
        refine zJ_if_ne (tgt := 39) dX9_one_34 (by decide) (fun _ => ?_) (fun h9 => False.elim (by revert h9; decide))
        exact hk
      · subst hqe
        refine zJ_aload_n dX9_one_0 rfl ?_
        refine zJ_iconst (v := 0) dX9_one_1 (by decide) ?_
        refine zJ_puti dX9_one_2 fX9_170 (fun q h => by cases h; rfl) (by first | rfl | assumption | exact M0.at (by decide) (by decide)) rfl rfl rfl ?_
        refine zJ_aload_n dX9_one_5 rfl ?_
        refine zJ_iload_n dX9_one_6 rfl ?_
        refine zJ_cV1 dX9_one_7 sX9_339 mfX9_isPerson ((c_Mo_isPerson Δ (zsi w 100 0 0) M0 z0 x (U.1 0) hp1 hp8).1 hx) (by first | rfl | assumption | exact M0.at (by decide) (by decide)) rfl (Nat.le_of_ble_eq_true rfl) (by decide) (by decide) ?_
        refine zJ_if_eq (tgt := 37) dX9_one_10 (by decide) (fun h9 => False.elim (by revert h9; decide)) (fun _ => ?_)
        refine zJ_aload_n dX9_one_13 rfl ?_
        refine zJ_iload dX9_one_14 rfl ?_
        refine zJ_if_eq (tgt := 25) dX9_one_16 (by decide) (fun h9 => False.elim (by revert h9; decide)) (fun _ => ?_)
        refine zJ_iload dX9_one_19 rfl ?_
        refine zJ_iconst (v := 1) dX9_one_21 (by decide) ?_
        refine zJ_icmp_ne (tgt := 29) dX9_one_22 (by decide) (fun h9 => False.elim (by revert h9; decide)) (fun _ => ?_)
        refine zJ_iconst (v := 1) dX9_one_25 (by decide) ?_
        refine zJ_goto (tgt := 30) dX9_one_26 (by decide) ?_
        refine zJ_iconst (v := 1) dX9_one_30 (by decide) ?_
        refine zJ_cV2 dX9_one_31 sX9_291 mfX9_right (c_Mo_right1 Δ (zsi w 100 0 0) M0 z0 1) (by first | rfl | assumption | exact M0.at (by decide) (by decide)) rfl (Nat.le_of_ble_eq_true rfl) (by decide) (by decide) ?_
        refine zJ_if_ne (tgt := 39) dX9_one_34 (by decide) (fun _ => ?_) (fun h9 => False.elim (by revert h9; decide))
        exact hk
    · refine zJ_aload_n dX9_one_0 rfl ?_
      refine zJ_iconst (v := 0) dX9_one_1 (by decide) ?_
      refine zJ_puti dX9_one_2 fX9_170 (fun q h => by cases h; rfl) (by first | rfl | assumption | exact M0.at (by decide) (by decide)) rfl rfl rfl ?_
      refine zJ_aload_n dX9_one_5 rfl ?_
      refine zJ_iload_n dX9_one_6 rfl ?_
      refine zJ_cV1 dX9_one_7 sX9_339 mfX9_isPerson ((c_Mo_isPerson Δ (zsi w 100 0 0) M0 z0 x (U.1 0) hp1 hp8).1 hx) (by first | rfl | assumption | exact M0.at (by decide) (by decide)) rfl (Nat.le_of_ble_eq_true rfl) (by decide) (by decide) ?_
      refine zJ_if_eq (tgt := 37) dX9_one_10 (by decide) (fun h9 => False.elim (by revert h9; decide)) (fun _ => ?_)
      refine zJ_aload_n dX9_one_13 rfl ?_
      refine zJ_iload dX9_one_14 rfl ?_
      refine zJ_if_eq (tgt := 25) dX9_one_16 (by decide) (fun h9 => absurd h9 (fun h => hq ⟨0, by decide, h⟩)) (fun h16 => ?_)
      refine zJ_iload dX9_one_19 rfl ?_
      refine zJ_iconst (v := 1) dX9_one_21 (by decide) ?_
      refine zJ_icmp_ne (tgt := 29) dX9_one_22 (by decide) (fun h22 => ?_) (fun h9 => absurd h9 (fun h => hq ⟨1, by decide, h⟩))
      refine zJ_iconst (v := 0) dX9_one_29 (by decide) ?_
      refine zJ_iconst (v := 1) dX9_one_30 (by decide) ?_
      refine zJ_cV2 dX9_one_31 sX9_291 mfX9_right (c_Mo_right0 Δ (zsi w 100 0 0) M0 z0 1 (by decide)) (by first | rfl | assumption | exact M0.at (by decide) (by decide)) rfl (Nat.le_of_ble_eq_true rfl) (by decide) (by decide) ?_
      refine zJ_if_ne (tgt := 39) dX9_one_34 (by decide) (fun h9 => False.elim (by revert h9; decide)) (fun _ => ?_)
      refine zJ_lconst (v := 0) dX9_one_37 (by decide) ?_
      exact zJ_lret dX9_one_38 rfl (by decide) (by decide) (hQ _ _ ⟨zFM.t0.tr zFM.t0, Or.inl ⟨fun h => hq h.2, by simp [zsi]⟩⟩)
  · refine zJ_aload_n dX9_one_0 rfl ?_
    refine zJ_iconst (v := 0) dX9_one_1 (by decide) ?_
    refine zJ_puti dX9_one_2 fX9_170 (fun q h => by cases h; rfl) (by first | rfl | assumption | exact M0.at (by decide) (by decide)) rfl rfl rfl ?_
    refine zJ_aload_n dX9_one_5 rfl ?_
    refine zJ_iload_n dX9_one_6 rfl ?_
    refine zJ_cV1 dX9_one_7 sX9_339 mfX9_isPerson ((c_Mo_isPerson Δ (zsi w 100 0 0) M0 z0 x (U.1 0) hp1 hp8).2 hx) (by first | rfl | assumption | exact M0.at (by decide) (by decide)) rfl (Nat.le_of_ble_eq_true rfl) (by decide) (by decide) ?_
    refine zJ_if_eq (tgt := 37) dX9_one_10 (by decide) (fun _ => ?_) (fun h9 => False.elim (by revert h9; decide))
    refine zJ_lconst (v := 0) dX9_one_37 (by decide) ?_
    exact zJ_lret dX9_one_38 rfl (by decide) (by decide) (hQ _ _ ⟨zFM.t0.tr zFM.t0, Or.inl ⟨fun h => hx h.1, by simp [zsi]⟩⟩)
