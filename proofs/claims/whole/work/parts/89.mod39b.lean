set_option maxRecDepth 100000 in
theorem c_Mo_credit (Δ : zD) (w : zW) (U : zTo) (hMu : zMu w U) (hU : zTok U) (h13 : U.1 13 = 0) (x : Int32) (G : zGt) (hGk : zGok U G) (hGi : zGi (w.2.1 162) (w.2.1 163) G) (e : Nat) (fr : Nat → Nat → Nat) (ln : Nat → Nat) (he : e ≤ 20) (h56 : w.2.1 100 56 = nI e) (hln : ∀ r, r < e → w.2.1 159 r = nI (ln r) ∧ ln r ≤ 20) (hfr : ∀ r i, r < e → i < ln r → w.2.1 158 (r * 20 + i) = nI (fr r i) ∧ fr r i < U.1 0) (hf8 : ∀ r i, fr r i < 8) : zMp Δ 5 yX9_credit mX9_credit [.ref 100, .int x] w (fun r c => zFM zScr w c ∧ ((¬ (∃ g, g < 4 ∧ x = nI g) ∧ c.2.1 100 0 = 1) ∨ (∃ g, g < 4 ∧ x = nI g ∧ ((¬ zits (w.2.1 162) g 8 = true ∧ c.2.1 100 0 = 0 ∧ r = some (.int (-1))) ∨ (zits (w.2.1 162) g 8 = true ∧ ¬ zfit U 20000 ∧ c.2.1 100 0 = 2) ∨ (zits (w.2.1 162) g 8 = true ∧ zfit U 20000 ∧ c.2.1 100 0 = 0 ∧ r = some (.int (lN (zcr9 (fun g => zits (w.2.1 162) g 8) (zog U G fr ln) e g)).toInt32)))))) := by
  refine zMp.of mfX9_credit (Nat.le_of_ble_eq_true rfl) (fun QR hQ => ?_)
  have hMu0 := hMu
  obtain ⟨hM, u1, u2, u3, u4, u5, u6, u7, u8, u9, uso, unu, uwt⟩ := hMu
  have hp8 := hU.1
  have hU0 := hU
  have M0 : zMs (zsi w 100 0 0) := hM
  have z0 : (zsi w 100 0 0).2.1 100 0 = 0 := by simp [zsi]
  have hMu1 : zMu (zsi w 100 0 0) U := hMu0.fm (zFM.i (l := [0]) (by decide)) (by decide)
  have hp1 : (zsi w 100 0 0).2.1 100 1 = nI (U.1 0) := hMu1.2.1
  by_cases hx : ∃ q, 0 ≤ q ∧ q ≤ 3 ∧ x = nI q
  · obtain ⟨g, -, hg3, rfl⟩ := hx
    have hg : g < 4 := by omega
    have IT := c_Mo_isTold Δ (zsi w 100 0 0) M0 g hg
    rw [show (zsi w 100 0 0).2.1 162 = w.2.1 162 by funext j; exact zsi_o (by decide)] at IT
    have WI := (c_Mo_within Δ (zsi w 100 0 0) (nI g) 0 3 (by decide) (by decide)).1 ⟨g, Nat.zero_le _, hg3, rfl⟩
    cases htg : zits (w.2.1 162) g 8 with
    | false =>
      rw [htg] at IT
      refine zJ_aload_n dX9_credit_0 rfl ?_
      refine zJ_iconst (v := 0) dX9_credit_1 (by decide) ?_
      refine zJ_puti dX9_credit_2 fX9_170 (fun q h => by cases h; rfl) (by first | rfl | assumption | exact M0.at (by decide) (by decide)) rfl rfl rfl ?_
      refine zJ_aload_n dX9_credit_5 rfl ?_
      refine zJ_iload_n dX9_credit_6 rfl ?_
      refine zJ_iconst (v := 0) dX9_credit_7 (by decide) ?_
      refine zJ_iconst (v := 3) dX9_credit_8 (by decide) ?_
      refine zJ_cS3 dX9_credit_9 sX9_336 mfX9_within WI (Nat.le_of_ble_eq_true rfl) (by decide) (by decide) ?_
      refine zJ_iconst (v := 1) dX9_credit_12 (by decide) ?_
      refine zJ_cV2 dX9_credit_13 sX9_291 mfX9_right (c_Mo_right1 Δ (zsi w 100 0 0) M0 z0 1) (by first | rfl | assumption | exact M0.at (by decide) (by decide)) rfl (Nat.le_of_ble_eq_true rfl) (by decide) (by decide) ?_
      refine zJ_if_ne (tgt := 21) dX9_credit_16 (by decide) (fun _ => ?_) (fun h9 => False.elim (by revert h9; decide))
      refine zJ_aload_n dX9_credit_21 rfl ?_
      refine zJ_iload_n dX9_credit_22 rfl ?_
      refine zJ_cV1 dX9_credit_23 sX9_454 mfX9_isTold IT (by first | rfl | assumption | exact M0.at (by decide) (by decide)) rfl (Nat.le_of_ble_eq_true rfl) (by decide) (by decide) ?_
      refine zJ_if_ne (tgt := 31) dX9_credit_26 (by decide) (fun h9 => False.elim (by revert h9; decide)) (fun _ => ?_)
      refine zJ_iconst (v := (-1)) dX9_credit_29 (by decide) ?_
      exact zJ_iret dX9_credit_30 rfl (by decide) (by decide) (hQ _ _ ⟨zFM.t0, Or.inr ⟨g, hg, rfl, Or.inl ⟨by rw [htg]; decide, z0, rfl⟩⟩⟩)
    | true =>
      rw [htg] at IT
      have hpos : 0 < U.1 0 := by
        obtain ⟨p, hp, hne⟩ := zits_ex 8 htg
        have hq := hGi (g * 8 + p) (by omega)
        cases hG : G (g * 8 + p) with
        | none => rw [hG] at hq; exact absurd hq hne
        | some q => have := (hGk g p q hg hp hG).1; omega
      refine zJ_aload_n dX9_credit_0 rfl ?_
      refine zJ_iconst (v := 0) dX9_credit_1 (by decide) ?_
      refine zJ_puti dX9_credit_2 fX9_170 (fun q h => by cases h; rfl) (by first | rfl | assumption | exact M0.at (by decide) (by decide)) rfl rfl rfl ?_
      refine zJ_aload_n dX9_credit_5 rfl ?_
      refine zJ_iload_n dX9_credit_6 rfl ?_
      refine zJ_iconst (v := 0) dX9_credit_7 (by decide) ?_
      refine zJ_iconst (v := 3) dX9_credit_8 (by decide) ?_
      refine zJ_cS3 dX9_credit_9 sX9_336 mfX9_within WI (Nat.le_of_ble_eq_true rfl) (by decide) (by decide) ?_
      refine zJ_iconst (v := 1) dX9_credit_12 (by decide) ?_
      refine zJ_cV2 dX9_credit_13 sX9_291 mfX9_right (c_Mo_right1 Δ (zsi w 100 0 0) M0 z0 1) (by first | rfl | assumption | exact M0.at (by decide) (by decide)) rfl (Nat.le_of_ble_eq_true rfl) (by decide) (by decide) ?_
      refine zJ_if_ne (tgt := 21) dX9_credit_16 (by decide) (fun _ => ?_) (fun h9 => False.elim (by revert h9; decide))
      refine zJ_aload_n dX9_credit_21 rfl ?_
      refine zJ_iload_n dX9_credit_22 rfl ?_
      refine zJ_cV1 dX9_credit_23 sX9_454 mfX9_isTold IT (by first | rfl | assumption | exact M0.at (by decide) (by decide)) rfl (Nat.le_of_ble_eq_true rfl) (by decide) (by decide) ?_
      refine zJ_if_ne (tgt := 31) dX9_credit_26 (by decide) (fun _ => ?_) (fun h9 => False.elim (by revert h9; decide))
      refine zJ_aload_n dX9_credit_31 rfl ?_
      refine zJ_eV0 dX9_credit_32 sX9_413 mfX9_asTold (c_Mo_asTold Δ (zsi w 100 0 0) U hMu1 hU0 h13) (M0.at (by decide) (by decide)) rfl (Nat.le_of_ble_eq_true rfl) (by decide) (by decide) (fun r c hP => ?_)
      obtain ⟨rfl, hfc, hAc⟩ := hP
      have Mc : zMs c := hAc.1
      have c0 : c.2.1 100 0 = 0 := (hfc.at (by decide)).trans z0
      have h2c : c.2.1 100 2 = nI (U.1 12) := (hfc.at (by decide)).trans hMu1.2.2.1
      refine zJ_aload_n dX9_credit_35 rfl ?_
      refine zJ_aload_n dX9_credit_36 rfl ?_
      refine zJ_aload_n dX9_credit_37 rfl ?_
      refine zJ_getiN dX9_credit_38 fX9_301 (by first | rfl | assumption | exact Mc.at (by decide) (by decide)) rfl h2c ?_
      refine zJ_eV1 dX9_credit_41 sX9_403 mfX9_builds (c_Mo_builds Δ c U hAc hU0 hpos) (Mc.at (by decide) (by decide)) rfl (Nat.le_of_ble_eq_true rfl) (by decide) (by decide) (fun r d hP => ?_)
      obtain ⟨hfd, hP⟩ := hP
      have Md : zMs d := Mc.fm hfd
      have d0 : d.2.1 100 0 = 0 := (hfd.at (by decide)).trans c0
      rcases hP with ⟨rfl, K, hKd⟩ | ⟨rfl, hno⟩
      · have fwd : zFM zScr w d := ((zFM.t0.tr (hfc.mono (by decide))).tr (hfd.mono (by decide)))
        have g62 : d.2.1 162 = w.2.1 162 := by funext j; exact fwd.ar (k := 62) (by decide) (by decide)
        have g63 : d.2.1 163 = w.2.1 163 := by funext j; exact fwd.ar (k := 63) (by decide) (by decide)
        have hMud : zMu d U := hMu0.fm fwd (by decide)
        have L : ∀ k, k ≤ 4 → zJ Δ mX9_credit (zRm 5 0 0) true w.1 QR (fun _ _ => False) 0 0 57 [(3, .int (nI k)), (2, .int (nI (zcnt (fun g => zits (w.2.1 162) g 8) k))), (0, .ref 100), (1, .int (nI g))] [] d := by
          refine zup (fun k hk ih => ?_)
          have hcl := zcnt_le9 (fun g => zits (w.2.1 162) g 8) k
          by_cases hk4 : k = 4
          · subst hk4
            refine zJ_iload_n dX9_credit_57 rfl ?_
            refine zJ_iconst (v := 4) dX9_credit_58 (by decide) ?_
            refine zJ_icmp_ge (tgt := 84) dX9_credit_59 (by decide) (fun _ => ?_) (fun h9 => False.elim (by revert h9; decide))
            refine zJ_iconst (v := 0) dX9_credit_84 (by decide) ?_
            refine zJ_istore_n (ls2 := fun x85p => [(3, .int x85p), (2, .int (nI (zcnt (fun g => zits (w.2.1 162) g 8) 4))), (0, .ref 100), (1, .int (nI g))]) dX9_credit_85 (by decide) (fun _ => rfl) (fun x85p ex85p => ?_)
            obtain rfl : x85p = (nI 0) := ex85p
            refine zJ_ls [(3, .int (nI 0)), (2, .int (nI (zcnt (fun g => zits (w.2.1 162) g 8) 4))), (0, .ref 100), (1, .int (nI g))] (by simp) ?_
            rw [show w.1 = d.1 from fwd.1.symm]
            exact zMo_crB Δ d U hMud hU0 h13 hKd.1 K hKd G hGk (by rw [g62, g63]; exact hGi) e fr ln he ((fwd.at (by decide)).trans h56) (fun r hr => ⟨(fwd.ar (k := 59) (by decide) (by decide)).trans (hln r hr).1, (hln r hr).2⟩) (fun r i hr hi => ⟨(fwd.ar (k := 58) (by decide) (by decide)).trans (hfr r i hr hi).1, (hfr r i hr hi).2⟩) hf8 (fun g => zits (w.2.1 162) g 8) (fun q _ => by rw [g62]) g hg htg (fun c2 hc2 => hQ _ _ ⟨fwd.tr (hc2.mono (by decide)), Or.inr ⟨g, hg, rfl, Or.inr (Or.inr ⟨htg, ⟨K, hKd.2.2.1, hKd.2.1.2.2.1⟩, (hc2.at (by decide)).trans d0, rfl⟩)⟩⟩) 0 (Nat.zero_le _) d (zFM.rf d) (fun i hi => absurd hi (Nat.not_lt_zero i)) (fun i r hi => absurd hi (Nat.not_lt_zero i))
          · have hk3 : k < 4 := by omega
            have hlt1 : ¬ (4 : Int32) ≤ nI k := fun h => absurd ((nI_leI (a := 4) (by decide) (by omega)).mp h) (by omega)
            have ITk := c_Mo_isTold Δ d Md k hk3
            rw [g62] at ITk
            have hcs : zcnt (fun g => zits (w.2.1 162) g 8) (k + 1) = if zits (w.2.1 162) k 8 then zcnt (fun g => zits (w.2.1 162) g 8) k + 1 else zcnt (fun g => zits (w.2.1 162) g 8) k := by simp only [zcnt]; split <;> simp [*]
            cases htk : zits (w.2.1 162) k 8 with
            | true =>
              rw [htk] at ITk hcs
              refine zJ_iload_n dX9_credit_57 rfl ?_
              refine zJ_iconst (v := 4) dX9_credit_58 (by decide) ?_
              refine zJ_icmp_ge (tgt := 84) dX9_credit_59 (by decide) (fun h9 => absurd h9 hlt1) (fun h59q1 => ?_)
              refine zJ_iload_n dX9_credit_62 rfl ?_
              refine zJ_aload_n dX9_credit_63 rfl ?_
              refine zJ_iload_n dX9_credit_64 rfl ?_
              refine zJ_cV1 dX9_credit_65 sX9_454 mfX9_isTold ITk (by first | rfl | assumption | exact Md.at (by decide) (by decide)) rfl (Nat.le_of_ble_eq_true rfl) (by decide) (by decide) ?_
              refine zJ_if_eq (tgt := 75) dX9_credit_68 (by decide) (fun h9 => False.elim (by revert h9; decide)) (fun _ => ?_)
              refine zJ_iconst (v := 1) dX9_credit_71 (by decide) ?_
              refine zJ_goto (tgt := 76) dX9_credit_72 (by decide) ?_
              refine zJ_iadd dX9_credit_76 ?_
              refine zJ_istore_n (ls2 := fun x77q1 => [(2, .int x77q1), (3, .int (nI k)), (0, .ref 100), (1, .int (nI g))]) dX9_credit_77 (by decide) (fun _ => rfl) (fun x77q1 ex77q1 => ?_)
              obtain rfl : x77q1 = (nI (zcnt (fun g => zits (w.2.1 162) g 8) (k + 1))) := (by rw [ex77q1, hcs]; exact nI_1 _)
              refine zJ_iinc (ls2 := fun x78q1 => [(3, .int x78q1), (2, .int (nI (zcnt (fun g => zits (w.2.1 162) g 8) (k + 1)))), (0, .ref 100), (1, .int (nI g))]) dX9_credit_78 rfl (by decide) (fun _ => rfl) (fun x78q1 ex78q1 => ?_)
              refine zJ_goto (tgt := 57) dX9_credit_81 (by decide) ?_
              refine zJ_ls [(3, .int x78q1), (2, .int (nI (zcnt (fun g => zits (w.2.1 162) g 8) (k + 1)))), (0, .ref 100), (1, .int (nI g))] (by simp) ?_
              rw [ex78q1, show nI k + Int32.ofInt 1 = nI (k + 1) from nI_1 _]
              exact ih (k + 1) (by omega) (by omega)
            | false =>
              rw [htk] at ITk hcs
              refine zJ_iload_n dX9_credit_57 rfl ?_
              refine zJ_iconst (v := 4) dX9_credit_58 (by decide) ?_
              refine zJ_icmp_ge (tgt := 84) dX9_credit_59 (by decide) (fun h9 => absurd h9 hlt1) (fun h59q0 => ?_)
              refine zJ_iload_n dX9_credit_62 rfl ?_
              refine zJ_aload_n dX9_credit_63 rfl ?_
              refine zJ_iload_n dX9_credit_64 rfl ?_
              refine zJ_cV1 dX9_credit_65 sX9_454 mfX9_isTold ITk (by first | rfl | assumption | exact Md.at (by decide) (by decide)) rfl (Nat.le_of_ble_eq_true rfl) (by decide) (by decide) ?_
              refine zJ_if_eq (tgt := 75) dX9_credit_68 (by decide) (fun _ => ?_) (fun h9 => False.elim (by revert h9; decide))
              refine zJ_iconst (v := 0) dX9_credit_75 (by decide) ?_
              refine zJ_iadd dX9_credit_76 ?_
              refine zJ_istore_n (ls2 := fun x77q0 => [(2, .int x77q0), (3, .int (nI k)), (0, .ref 100), (1, .int (nI g))]) dX9_credit_77 (by decide) (fun _ => rfl) (fun x77q0 ex77q0 => ?_)
              obtain rfl : x77q0 = (nI (zcnt (fun g => zits (w.2.1 162) g 8) (k + 1))) := (by rw [ex77q0, hcs]; exact Int32.add_zero _)
              refine zJ_iinc (ls2 := fun x78q0 => [(3, .int x78q0), (2, .int (nI (zcnt (fun g => zits (w.2.1 162) g 8) (k + 1)))), (0, .ref 100), (1, .int (nI g))]) dX9_credit_78 rfl (by decide) (fun _ => rfl) (fun x78q0 ex78q0 => ?_)
              refine zJ_goto (tgt := 57) dX9_credit_81 (by decide) ?_
              refine zJ_ls [(3, .int x78q0), (2, .int (nI (zcnt (fun g => zits (w.2.1 162) g 8) (k + 1)))), (0, .ref 100), (1, .int (nI g))] (by simp) ?_
              rw [ex78q0, show nI k + Int32.ofInt 1 = nI (k + 1) from nI_1 _]
              exact ih (k + 1) (by omega) (by omega)
        refine zJ_iconst (v := 2) dX9_credit_44 (by decide) ?_
        refine zJ_cV2 dX9_credit_45 sX9_291 mfX9_right (c_Mo_right1 Δ d Md d0 2) (by first | rfl | assumption | exact Md.at (by decide) (by decide)) rfl (Nat.le_of_ble_eq_true rfl) (by decide) (by decide) ?_
        refine zJ_if_ne (tgt := 53) dX9_credit_48 (by decide) (fun _ => ?_) (fun h9 => False.elim (by revert h9; decide))
        refine zJ_iconst (v := 0) dX9_credit_53 (by decide) ?_
        refine zJ_istore_n (ls2 := fun x54g => [(2, .int x54g), (0, .ref 100), (1, .int (nI g))]) dX9_credit_54 (by decide) (fun _ => rfl) (fun x54g ex54g => ?_)
        obtain rfl : x54g = (nI (zcnt (fun g => zits (w.2.1 162) g 8) 0)) := ex54g
        refine zJ_iconst (v := 0) dX9_credit_55 (by decide) ?_
        refine zJ_istore_n (ls2 := fun x56g => [(3, .int x56g), (2, .int (nI (zcnt (fun g => zits (w.2.1 162) g 8) 0))), (0, .ref 100), (1, .int (nI g))]) dX9_credit_56 (by decide) (fun _ => rfl) (fun x56g ex56g => ?_)
        obtain rfl : x56g = (nI 0) := ex56g
        exact L 0 (Nat.zero_le _)
      · refine zJ_iconst (v := 2) dX9_credit_44 (by decide) ?_
        refine zJ_cV2 dX9_credit_45 sX9_291 mfX9_right (c_Mo_right0 Δ d Md d0 2 (by decide)) (by first | rfl | assumption | exact Md.at (by decide) (by decide)) rfl (Nat.le_of_ble_eq_true rfl) (by decide) (by decide) ?_
        refine zJ_if_ne (tgt := 53) dX9_credit_48 (by decide) (fun h9 => False.elim (by revert h9; decide)) (fun _ => ?_)
        refine zJ_iconst (v := 0) dX9_credit_51 (by decide) ?_
        exact zJ_iret dX9_credit_52 rfl (by decide) (by decide) (hQ _ _ ⟨((zFM.t0.tr (hfc.mono (by decide))).tr (hfd.mono (by decide))).tr zFM.t0, Or.inr ⟨g, hg, rfl, Or.inr (Or.inl ⟨htg, hno, by simp [zsi]⟩)⟩⟩)
  · skip
    refine zJ_aload_n dX9_credit_0 rfl ?_
    refine zJ_iconst (v := 0) dX9_credit_1 (by decide) ?_
    refine zJ_puti dX9_credit_2 fX9_170 (fun q h => by cases h; rfl) (by first | rfl | assumption | exact M0.at (by decide) (by decide)) rfl rfl rfl ?_
    refine zJ_aload_n dX9_credit_5 rfl ?_
    refine zJ_iload_n dX9_credit_6 rfl ?_
    refine zJ_iconst (v := 0) dX9_credit_7 (by decide) ?_
    refine zJ_iconst (v := 3) dX9_credit_8 (by decide) ?_
    refine zJ_cS3 dX9_credit_9 sX9_336 mfX9_within ((c_Mo_within Δ (zsi w 100 0 0) x 0 3 (by decide) (by decide)).2 hx) (Nat.le_of_ble_eq_true rfl) (by decide) (by decide) ?_
    refine zJ_iconst (v := 1) dX9_credit_12 (by decide) ?_
    refine zJ_cV2 dX9_credit_13 sX9_291 mfX9_right (c_Mo_right0 Δ (zsi w 100 0 0) M0 z0 1 (by decide)) (by first | rfl | assumption | exact M0.at (by decide) (by decide)) rfl (Nat.le_of_ble_eq_true rfl) (by decide) (by decide) ?_
    refine zJ_if_ne (tgt := 21) dX9_credit_16 (by decide) (fun h9 => False.elim (by revert h9; decide)) (fun _ => ?_)
    refine zJ_iconst (v := 0) dX9_credit_19 (by decide) ?_
    exact zJ_iret dX9_credit_20 rfl (by decide) (by decide) (hQ _ _ ⟨zFM.t0.tr zFM.t0, Or.inl ⟨fun ⟨g, h1, h2⟩ => hx ⟨g, Nat.zero_le _, by omega, h2⟩, by simp [zsi]⟩⟩)
