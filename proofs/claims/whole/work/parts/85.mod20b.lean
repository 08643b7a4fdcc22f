theorem zMa.l10 {c : zW} {U : zTo} {q : Nat} (h : zMa c U) : zMa (zsi c 100 46 (nI q)) (zTs U 10 q) := by
  obtain ⟨h0, h1, h2, h3, h4, h5, h6, h7, h8, h9, h10, h11, h12⟩ := h
  refine ⟨h0, ?_, ?_, ?_, ?_, ?_, ?_, ?_, ?_, ?_, fun p hp => ?_, fun p hp => ?_, fun p q hp hq => ?_⟩
  · simpa [zsi, zTs] using h1
  · simpa [zsi, zTs] using h2
  · simpa [zsi, zTs] using h3
  · simpa [zsi, zTs] using h4
  · simpa [zsi, zTs] using h5
  · simpa [zsi, zTs] using h6
  · simp [zsi, zTs]
  · simpa [zsi, zTs] using h8
  · simpa [zsi, zTs] using h9
  · simpa [zsi, zTs] using h10 p (by simpa [zTs] using hp)
  · simpa [zsi, zTs] using h11 p (by simpa [zTs] using hp)
  · simpa [zsi, zTs] using h12 p q (by simpa [zTs] using hp) (by simpa [zTs] using hq)
set_option maxRecDepth 100000 in
theorem c_Mo_chain (Δ : zD) (w : zW) (U : zTo) (hMu : zMu w U) (hU : zTok U) (h13 : U.1 13 = 0) (x : Int32) : zMp Δ 5 yX9_chain mX9_chain [.ref 100, .int x] w (fun r c => (¬ (0 < U.1 0 ∧ ∃ q, q ≤ 2 ∧ x = nI q) ∧ zFM zScr w c ∧ c.2.1 100 0 = 1) ∨ (0 < U.1 0 ∧ ∃ q, q ≤ 2 ∧ x = nI q ∧ ((¬ zfit (zTs U 10 q) 20000 ∧ zFM zScr w c ∧ c.2.1 100 0 = 2) ∨ (zfit (zTs U 10 q) 20000 ∧ c.2.1 100 0 = 0 ∧ ∃ K, zall (zTs U 10 q) K ∧ ((zfnd (zTs U 10 q) K K.length = none ∧ zFM zScr w c ∧ r = some (.int (-1))) ∨ ∃ k, zfnd (zTs U 10 q) K K.length = some k ∧ zFM (zScr ++ [66, 67]) w c ∧ c.2.1 100 66 = nI (U.1 7) ∧ (∀ i, i < U.1 7 → c.2.1 167 i = nI ((zchn (zTs U 10 q) K K.length).2 k / 2 ^ (3 * (U.1 7 - 1 - i)) % 8)) ∧ r = some (.int (lN ((zchn (zTs U 10 q) K K.length).1 k)).toInt32)))))) := by
  refine zMp.of mfX9_chain (Nat.le_of_ble_eq_true rfl) (fun QR hQ => ?_)
  have hMu0 := hMu
  obtain ⟨hM, u1, u2, u3, u4, u5, u6, u7, u8, u9, uso, unu, uwt⟩ := hMu
  have hp8 := hU.1
  have hU0 := hU
  have M0 : zMs (zsi w 100 0 0) := hM
  have z0 : (zsi w 100 0 0).2.1 100 0 = 0 := by simp [zsi]
  have hMu1 : zMu (zsi w 100 0 0) U := hMu0.fm (zFM.i (l := [0]) (by decide)) (by decide)
  have hp1 : (zsi w 100 0 0).2.1 100 1 = nI (U.1 0) := hMu1.2.1
  by_cases hpos : 0 < U.1 0
  · by_cases hq : ∃ q, 0 ≤ q ∧ q ≤ 2 ∧ x = nI q
    · obtain ⟨q, -, hq2, rfl⟩ := hq
      have hT9 : zTok (zTs U 10 q) := hU0.s (by omega)
      refine zJ_aload_n dX9_chain_0 rfl ?_
      refine zJ_iconst (v := 0) dX9_chain_1 (by decide) ?_
      refine zJ_puti dX9_chain_2 fX9_170 (fun q h => by cases h; rfl) (by first | rfl | assumption | exact M0.at (by decide) (by decide)) rfl rfl rfl ?_
      refine zJ_aload_n dX9_chain_5 rfl ?_
      refine zJ_iload_n dX9_chain_6 rfl ?_
      refine zJ_iconst (v := 0) dX9_chain_7 (by decide) ?_
      refine zJ_iconst (v := 2) dX9_chain_8 (by decide) ?_
      refine zJ_cS3 dX9_chain_9 sX9_336 mfX9_within ((c_Mo_within Δ (zsi w 100 0 0) (nI q) 0 2 (by decide) (by decide)).1 ⟨q, Nat.zero_le _, hq2, rfl⟩) (Nat.le_of_ble_eq_true rfl) (by decide) (by decide) ?_
      refine zJ_if_eq (tgt := 26) dX9_chain_12 (by decide) (fun h9 => False.elim (by revert h9; decide)) (fun _ => ?_)
      refine zJ_aload_n dX9_chain_15 rfl ?_
      refine zJ_geti dX9_chain_16 fX9_298 (by first | rfl | assumption | exact M0.at (by decide) (by decide)) rfl ?_
      rw [hp1]
      refine zJ_if_le (tgt := 26) dX9_chain_19 (by decide) (fun h9 => absurd h9 (fun h => absurd ((nI_leI (b := 0) (by omega) (by decide)).mp h) (by omega))) (fun h19 => ?_)
      refine zJ_iconst (v := 1) dX9_chain_22 (by decide) ?_
      refine zJ_goto (tgt := 27) dX9_chain_23 (by decide) ?_
      refine zJ_iconst (v := 1) dX9_chain_27 (by decide) ?_
      refine zJ_cV2 dX9_chain_28 sX9_291 mfX9_right (c_Mo_right1 Δ (zsi w 100 0 0) M0 z0 1) (by first | rfl | assumption | exact M0.at (by decide) (by decide)) rfl (Nat.le_of_ble_eq_true rfl) (by decide) (by decide) ?_
      refine zJ_if_ne (tgt := 36) dX9_chain_31 (by decide) (fun _ => ?_) (fun h9 => False.elim (by revert h9; decide))
      refine zJ_aload_n dX9_chain_36 rfl ?_
      refine zJ_eV0 dX9_chain_37 sX9_413 mfX9_asTold (c_Mo_asTold Δ (zsi w 100 0 0) U hMu1 hU0 h13) (M0.at (by decide) (by decide)) rfl (Nat.le_of_ble_eq_true rfl) (by decide) (by decide) (fun r c hP => ?_)
      obtain ⟨rfl, hfc, hAc⟩ := hP
      have Mc : zMs c := hAc.1
      have c0 : c.2.1 100 0 = 0 := (hfc.at (by decide)).trans z0
      refine zJ_aload_n dX9_chain_40 rfl ?_
      refine zJ_iload_n dX9_chain_41 rfl ?_
      refine zJ_puti dX9_chain_42 fX9_342 (fun q h => by cases h; rfl) (by first | rfl | assumption | exact Mc.at (by decide) (by decide)) rfl rfl rfl ?_
      have hA2 : zMa (zsi c 100 46 (nI q)) (zTs U 10 q) := hAc.l10
      have hf2 : zFM [46] c (zsi c 100 46 (nI q)) := zFM.i (by decide)
      have Mc2 : zMs (zsi c 100 46 (nI q)) := hA2.1
      have h2c : (zsi c 100 46 (nI q)).2.1 100 2 = nI (U.1 12) := (hf2.at (by decide)).trans ((hfc.at (by decide)).trans hMu1.2.2.1)
      refine zJ_aload_n dX9_chain_45 rfl ?_
      refine zJ_aload_n dX9_chain_46 rfl ?_
      refine zJ_aload_n dX9_chain_47 rfl ?_
      refine zJ_getiN dX9_chain_48 fX9_301 (by first | rfl | assumption | exact Mc.at (by decide) (by decide)) rfl h2c ?_
      refine zJ_eV1 dX9_chain_51 sX9_416 mfX9_asks (c_Mo_asks Δ (zsi c 100 46 (nI q)) (zTs U 10 q) hA2 hT9 hpos) (Mc.at (by decide) (by decide)) rfl (Nat.le_of_ble_eq_true rfl) (by decide) (by decide) (fun r d hP => ?_)
      obtain ⟨hfd, hP⟩ := hP
      have Md : zMs d := Mc2.fm hfd
      have d0 : d.2.1 100 0 = 0 := (hfd.at (by decide)).trans ((hf2.at (by decide)).trans c0)
      have hfa : zFM zScr w d := ((zFM.t0.tr (hfc.mono (by decide))).tr (hf2.mono (by decide))).tr (hfd.mono (by decide))
      rcases hP with ⟨rfl, K, hKd, hUd⟩ | ⟨rfl, hno⟩
      · refine zJ_iconst (v := 2) dX9_chain_54 (by decide) ?_
        refine zJ_cV2 dX9_chain_55 sX9_291 mfX9_right (c_Mo_right1 Δ d Md d0 2) (by first | rfl | assumption | exact Md.at (by decide) (by decide)) rfl (Nat.le_of_ble_eq_true rfl) (by decide) (by decide) ?_
        refine zJ_if_ne (tgt := 63) dX9_chain_58 (by decide) (fun _ => ?_) (fun h9 => False.elim (by revert h9; decide))
        have hKR := hKd.2.1.2.2.1
        have hnd := zall_nodup hKd.2.2.1
        have hK00 := zall_0 hKd.2.2.1
        have hKp : 0 < K.length := (List.getElem?_eq_some_iff.mp hK00).1
        have d38 : d.2.1 100 38 = nI K.length := hKd.2.1.2.1
        have d2 : d.2.1 100 2 = nI (U.1 12) := (hfd.at (by decide)).trans ((hf2.at (by decide)).trans ((hfc.at (by decide)).trans hMu1.2.2.1))
        have h12 : U.1 12 < 8 := hU0.2.2.2.2.2.2.2.2.1.1
        have h7 := hU0.2.2.2.1
        have hok := zchn_ok hT9 (K := K) K.length
        have fE : zFM [68, 69] d (zsl (zrol d 168 (fun i => if i < K.length then lN (if i = 0 then 1000000000 else 0) else d.2.2.1 168 i)) 169 0 (lN (U.1 12))) := (zFM.rol (by decide)).tr (zFM.l (Or.inr (by decide)))
        have cE : zCn (zsl (zrol d 168 (fun i => if i < K.length then lN (if i = 0 then 1000000000 else 0) else d.2.2.1 168 i)) 169 0 (lN (U.1 12))) K (zchn (zTs U 10 q) K 0) := fun x k hx => by
          have hxK : x < K.length := (List.getElem?_eq_some_iff.mp hx).1
          by_cases hx0 : x = 0
          · subst hx0
            rw [hK00] at hx
            obtain rfl := Option.some.inj hx
            refine ⟨?_, fun _ => ?_⟩
            · simp only [zsl, zrol, zchn, zt0]
              simp [hKp]
            · simp only [zsl, zchn]
              simp [zTs]
          · have hk : ¬ k = zfk (zTs U 10 q) := fun h => hx0 (nodup_ix hnd hx (h ▸ hK00))
            simp only [zchn, zt0, hk, if_false]
            refine ⟨?_, fun h => absurd h (by decide)⟩
            simp only [zsl, zrol]
            simp [hxK, hx0]
        have kk : ∀ e fo, zFM [68, 69] d e → zCn e K (zchn (zTs U 10 q) K K.length) → zFnd K (zfnd (zTs U 10 q) K K.length) fo → zJ Δ mX9_chain (zRm 5 0 0) true w.1 QR (fun _ _ => False) 0 0 347 [(2, .int fo), (0, .ref 100), (1, .int (nI q))] [] e := by
          intro e fo fe ce hfo
          have Me : zMs e := Md.fm fe
          have e0 : e.2.1 100 0 = 0 := (fe.at (by decide)).trans d0
          have e5 : e.2.1 100 5 = nI (U.1 7) := (hKd.1.fm fe (by decide)).2.2.2.2.1
          have fwe : zFM zScr w e := hfa.tr (fe.mono (by decide))
          cases hfz : zfnd (zTs U 10 q) K K.length with
          | none =>
            rw [hfz] at hfo
            obtain rfl : fo = -1 := hfo
            refine zJ_iload_n dX9_chain_347 rfl ?_
            refine zJ_iconst (v := (-1)) dX9_chain_348 (by decide) ?_
            refine zJ_icmp_ne (tgt := 354) dX9_chain_349 (by decide) (fun h9 => False.elim (by revert h9; decide)) (fun _ => ?_)
            refine zJ_iconst (v := (-1)) dX9_chain_352 (by decide) ?_
            exact zJ_iret dX9_chain_353 rfl (by decide) (by decide) (hQ _ _ (Or.inr ⟨hpos, q, hq2, rfl, Or.inr ⟨⟨K, hKd.2.2.1, hKd.2.1.2.2.1⟩, e0, K, hKd.2.2.1, Or.inl ⟨hfz, fwe, rfl⟩⟩⟩))
          | some k =>
            rw [hfz] at hfo
            obtain ⟨z, hz, rfl⟩ := hfo
            have hzK : z < K.length := (List.getElem?_eq_some_iff.mp hz).1
            have hvp := zfnd_pos hfz
            obtain ⟨g1, g2⟩ := ce z k hz
            have g3 := g2 hvp
            have hkb := (hok k).2 hvp
            have hkk := (hKd.2.1.2.2.2 k (List.mem_iff_getElem?.mpr ⟨z, hz⟩)).1.2.1
            have hk7 : k.2.1 ≤ U.1 7 := hkk.2
            have hp9 : 8 ^ k.2.1 ≤ 8 ^ 12 := Nat.pow_le_pow_right (by decide) (by omega)
            have Mf : zMs (zsi e 100 66 (nI (U.1 7))) := Me
            have f5 : (zsi e 100 66 (nI (U.1 7))).2.1 100 5 = nI (U.1 7) := by simp [zsi, e5]
            have hsh : w.1 = (zsi e 100 66 (nI (U.1 7))).1 := fwe.1.symm
            refine zJ_iload_n dX9_chain_347 rfl ?_
            refine zJ_iconst (v := (-1)) dX9_chain_348 (by decide) ?_
            refine zJ_icmp_ne (tgt := 354) dX9_chain_349 (by decide) (fun h349 => ?_) (fun h9 => absurd h9 (nI_m1 (show z < 2 ^ 31 by omega)))
            refine zJ_aload_n dX9_chain_354 rfl ?_
            refine zJ_aload_n dX9_chain_355 rfl ?_
            refine zJ_getiN dX9_chain_356 fX9_16 (by first | rfl | assumption | exact Me.at (by decide) (by decide)) rfl e5 ?_
            refine zJ_puti dX9_chain_359 fX9_326 (fun q h => by cases h; rfl) (by first | rfl | assumption | exact Me.at (by decide) (by decide)) rfl rfl rfl ?_
            refine zJ_aload_n dX9_chain_362 rfl ?_
            refine zJ_getr (j := 169) dX9_chain_363 fX9_122 (by first | rfl | assumption | exact Mf.at (by decide) (by decide)) rfl (by first | rfl | assumption | exact Mf.rf (by decide) rfl) ?_
            refine zJ_iload_n dX9_chain_366 rfl ?_
            refine zJ_laldN (i := z) (v := (lN ((zchn (zTs U 10 q) K K.length).2 k))) dX9_chain_367 (by first | rfl | assumption | exact Mf.at (by decide) (by decide)) rfl (by omega) (by decide) g3 ?_
            refine zJ_lstore_n (ls2 := fun x368 => [(3, .long x368), (2, .int (nI z)), (0, .ref 100), (1, .int (nI q))]) dX9_chain_368 (by decide) (fun _ => rfl) (fun x368 ex368 => ?_)
            obtain rfl : x368 = (lN ((zchn (zTs U 10 q) K K.length).2 k)) := ex368
            refine zJ_aload_n dX9_chain_369 rfl ?_
            refine zJ_getiN dX9_chain_370 fX9_16 (by first | rfl | assumption | exact Mf.at (by decide) (by decide)) rfl f5 ?_
            refine zJ_iconst (v := 1) dX9_chain_373 (by decide) ?_
            refine zJ_isub dX9_chain_374 ?_
            refine zJ_istore (ls2 := fun x375 => [(5, .int x375), (3, .long (lN ((zchn (zTs U 10 q) K K.length).2 k))), (2, .int (nI z)), (0, .ref 100), (1, .int (nI q))]) dX9_chain_375 (by decide) (fun _ => rfl) (fun x375 ex375 => ?_)
            refine zJ_ls [(5, .int x375), (3, .long (lN ((zchn (zTs U 10 q) K K.length).2 k))), (2, .int (nI z)), (0, .ref 100), (1, .int (nI q))] (by simp) ?_
            rw [ex375, hsh]
            have h9 := zMo_chD Δ (zsi e 100 66 (nI (U.1 7))) Mf (U.1 7) ((zchn (zTs U 10 q) K K.length).2 k) z ((zchn (zTs U 10 q) K K.length).1 k) (by omega) (by omega) (by omega) g1 (nI q) (QR := QR) (hQ _ _ (Or.inr ⟨hpos, q, hq2, rfl, Or.inr ⟨⟨K, hKd.2.2.1, hKd.2.1.2.2.1⟩, ?_, K, hKd.2.2.1, Or.inr ⟨k, hfz, ?_, ?_, fun i hi => ?_, rfl⟩⟩⟩)) (U.1 7) (Nat.le_refl _)
            · rw [Nat.sub_self, Nat.pow_zero, Nat.div_one] at h9
              refine zJ_w ?_ h9
              refine (zrow_self (zsi e 100 66 (nI (U.1 7))) 167).symm.trans (congrArg (zrow (zsi e 100 66 (nI (U.1 7))) 167) (funext fun i => ?_))
              rw [if_neg (by omega)]
            · simp only [zrow, zsi]
              simp [e0]
            · exact ((fwe.mono (by decide)).tr (zFM.i (by decide))).tr (zFM.row (by decide))
            · simp [zrow, zsi]
            · rw [zrow_get, if_pos ⟨Nat.zero_le _, hi⟩, zn_8]
        have hO := zMo_chO Δ d (zTs U 10 q) K hKd hT9 (hUd.bm hT9 hKd) (nI q) (QR := QR) (by rw [hfa.1]; exact kk) 0 (Nat.zero_le _) (zsl (zrol d 168 (fun i => if i < K.length then lN (if i = 0 then 1000000000 else 0) else d.2.2.1 168 i)) 169 0 (lN (U.1 12))) (-1) fE cE rfl
        rw [hfa.1] at hO
        have L : ∀ j, j ≤ K.length → zJ Δ mX9_chain (zRm 5 0 0) true w.1 QR (fun _ _ => False) 0 0 65 [(2, .int (nI j)), (0, .ref 100), (1, .int (nI q))] [] (zrol d 168 (fun i => if i < j then lN (if i = 0 then 1000000000 else 0) else d.2.2.1 168 i)) := by
          refine zup (fun j hj ih => ?_)
          have Mr : zMs (zrol d 168 (fun i => if i < j then lN (if i = 0 then 1000000000 else 0) else d.2.2.1 168 i)) := Md
          have r38 : (zrol d 168 (fun i => if i < j then lN (if i = 0 then 1000000000 else 0) else d.2.2.1 168 i)).2.1 100 38 = nI K.length := d38
          by_cases hjK : j = K.length
          · have r2 : (zrol d 168 (fun i => if i < j then lN (if i = 0 then 1000000000 else 0) else d.2.2.1 168 i)).2.1 100 2 = nI (U.1 12) := d2
            refine zJ_iload_n dX9_chain_65 rfl ?_
            refine zJ_aload_n dX9_chain_66 rfl ?_
            refine zJ_getiN dX9_chain_67 fX9_354 (by first | rfl | assumption | exact Mr.at (by decide) (by decide)) rfl r38 ?_
            refine zJ_icmp_ge (tgt := 96) dX9_chain_70 (by decide) (fun h70 => ?_) (fun h9 => absurd ((nI_leI (by omega) (by omega)).mpr (by omega)) h9)
            refine zJ_aload_n dX9_chain_96 rfl ?_
            refine zJ_getr (j := 169) dX9_chain_97 fX9_122 (by first | rfl | assumption | exact Mr.at (by decide) (by decide)) rfl (by first | rfl | assumption | exact Mr.rf (by decide) rfl) ?_
            refine zJ_iconst (v := 0) dX9_chain_100 (by decide) ?_
            refine zJ_aload_n dX9_chain_101 rfl ?_
            refine zJ_getiN dX9_chain_102 fX9_301 (by first | rfl | assumption | exact Mr.at (by decide) (by decide)) rfl r2 ?_
            refine zJ_i2l dX9_chain_105 ?_
            rw [nI_l (show U.1 12 < 2 ^ 31 by omega)]
            refine zJ_lastN (i := 0) dX9_chain_106 (by first | rfl | assumption | exact Mr.at (by decide) (by decide)) rfl (by omega) (by decide) ?_
            refine zJ_iconst (v := (-1)) dX9_chain_107 (by decide) ?_
            refine zJ_istore_n (ls2 := fun x108 => [(2, .int x108), (0, .ref 100), (1, .int (nI q))]) dX9_chain_108 (by decide) (fun _ => rfl) (fun x108 ex108 => ?_)
            refine zJ_iconst (v := 0) dX9_chain_109 (by decide) ?_
            refine zJ_istore_n (ls2 := fun x110 => [(3, .int x110), (2, .int x108), (0, .ref 100), (1, .int (nI q))]) dX9_chain_110 (by decide) (fun _ => rfl) (fun x110 ex110 => ?_)
            refine zJ_ls [(3, .int x110), (2, .int x108), (0, .ref 100), (1, .int (nI q))] (by simp) ?_
            rw [ex110, ex108, hjK]
            exact hO
          · have hj9 : j < K.length := by omega
            have hnx := ih (j + 1) (by omega) (by omega)
            by_cases hv9 : j = 0
            · refine zJ_iload_n dX9_chain_65 rfl ?_
              refine zJ_aload_n dX9_chain_66 rfl ?_
              refine zJ_getiN dX9_chain_67 fX9_354 (by first | rfl | assumption | exact Mr.at (by decide) (by decide)) rfl r38 ?_
              refine zJ_icmp_ge (tgt := 96) dX9_chain_70 (by decide) (fun h9 => absurd h9 (fun h => absurd ((nI_leI (by omega) (by omega)).mp h) (by omega))) (fun h70 => ?_)
              refine zJ_aload_n dX9_chain_73 rfl ?_
              refine zJ_getr (j := 168) dX9_chain_74 fX9_119 (by first | rfl | assumption | exact Mr.at (by decide) (by decide)) rfl (by first | rfl | assumption | exact Mr.rf (by decide) rfl) ?_
              refine zJ_iload_n dX9_chain_77 rfl ?_
              refine zJ_iload_n dX9_chain_78 rfl ?_
              refine zJ_if_ne (tgt := 88) dX9_chain_79 (by decide) (fun h9 => absurd h9 (fun h => h (by rw [hv9]; rfl))) (fun h79 => ?_)
              refine zJ_ldc2 dX9_chain_82 kX9_372 ?_
              refine zJ_goto (tgt := 89) dX9_chain_85 (by decide) ?_
              refine zJ_lastN (i := j) dX9_chain_89 (by first | rfl | assumption | exact Mr.at (by decide) (by decide)) rfl (by omega) (by decide) ?_
              refine zJ_iinc (ls2 := fun x90 => [(2, .int x90), (0, .ref 100), (1, .int (nI q))]) dX9_chain_90 rfl (by decide) (fun _ => rfl) (fun x90 ex90 => ?_)
              refine zJ_goto (tgt := 65) dX9_chain_93 (by decide) ?_
              refine zJ_ls [(2, .int x90), (0, .ref 100), (1, .int (nI q))] (by simp) ?_
              rw [ex90, show nI j + Int32.ofInt 1 = nI (j + 1) from nI_1 _]
              refine zJ_w ?_ hnx
              rw [zsl_row, zrol_get, zrol_rol]
              refine congrArg (zrol d 168) (funext fun i => ?_)
              by_cases h : i = j
              · subst h
                rw [if_pos rfl, if_pos (by omega)]
                first | (rw [if_pos hv9]; rfl) | (rw [if_neg hv9]; rfl)
              · have c3 : (i < j + 1) = (i < j) := by simp only [eq_iff_iff]; omega
                simp only [h, if_false, c3]
            · refine zJ_iload_n dX9_chain_65 rfl ?_
              refine zJ_aload_n dX9_chain_66 rfl ?_
              refine zJ_getiN dX9_chain_67 fX9_354 (by first | rfl | assumption | exact Mr.at (by decide) (by decide)) rfl r38 ?_
              refine zJ_icmp_ge (tgt := 96) dX9_chain_70 (by decide) (fun h9 => absurd h9 (fun h => absurd ((nI_leI (by omega) (by omega)).mp h) (by omega))) (fun h70 => ?_)
              refine zJ_aload_n dX9_chain_73 rfl ?_
              refine zJ_getr (j := 168) dX9_chain_74 fX9_119 (by first | rfl | assumption | exact Mr.at (by decide) (by decide)) rfl (by first | rfl | assumption | exact Mr.rf (by decide) rfl) ?_
              refine zJ_iload_n dX9_chain_77 rfl ?_
              refine zJ_iload_n dX9_chain_78 rfl ?_
              refine zJ_if_ne (tgt := 88) dX9_chain_79 (by decide) (fun h79 => ?_) (fun h9 => absurd h9 (fun h => hv9 ((nI_eq (b := 0) (by omega) (by decide)).mp h)))
              refine zJ_lconst (v := 0) dX9_chain_88 (by decide) ?_
              refine zJ_lastN (i := j) dX9_chain_89 (by first | rfl | assumption | exact Mr.at (by decide) (by decide)) rfl (by omega) (by decide) ?_
              refine zJ_iinc (ls2 := fun x90 => [(2, .int x90), (0, .ref 100), (1, .int (nI q))]) dX9_chain_90 rfl (by decide) (fun _ => rfl) (fun x90 ex90 => ?_)
              refine zJ_goto (tgt := 65) dX9_chain_93 (by decide) ?_
              refine zJ_ls [(2, .int x90), (0, .ref 100), (1, .int (nI q))] (by simp) ?_
              rw [ex90, show nI j + Int32.ofInt 1 = nI (j + 1) from nI_1 _]
              refine zJ_w ?_ hnx
              rw [zsl_row, zrol_get, zrol_rol]
              refine congrArg (zrol d 168) (funext fun i => ?_)
              by_cases h : i = j
              · subst h
                rw [if_pos rfl, if_pos (by omega)]
                first | (rw [if_pos hv9]; rfl) | (rw [if_neg hv9]; rfl)
              · have c3 : (i < j + 1) = (i < j) := by simp only [eq_iff_iff]; omega
                simp only [h, if_false, c3]
        refine zJ_iconst (v := 0) dX9_chain_63 (by decide) ?_
        refine zJ_istore_n (ls2 := fun x64g => [(2, .int x64g), (0, .ref 100), (1, .int (nI q))]) dX9_chain_64 (by decide) (fun _ => rfl) (fun x64g ex64g => ?_)
        refine zJ_ls [(2, .int x64g), (0, .ref 100), (1, .int (nI q))] (by simp) ?_
        rw [ex64g]
        refine zJ_w ?_ (L 0 (Nat.zero_le _))
        refine (zrol_self d 168).symm.trans (congrArg (zrol d 168) (funext fun i => ?_))
        rw [if_neg (Nat.not_lt_zero i)]
      · refine zJ_iconst (v := 2) dX9_chain_54 (by decide) ?_
        refine zJ_cV2 dX9_chain_55 sX9_291 mfX9_right (c_Mo_right0 Δ d Md d0 2 (by decide)) (by first | rfl | assumption | exact Md.at (by decide) (by decide)) rfl (Nat.le_of_ble_eq_true rfl) (by decide) (by decide) ?_
        refine zJ_if_ne (tgt := 63) dX9_chain_58 (by decide) (fun h9 => False.elim (by revert h9; decide)) (fun _ => ?_)
        refine zJ_iconst (v := 0) dX9_chain_61 (by decide) ?_
        exact zJ_iret dX9_chain_62 rfl (by decide) (by decide) (hQ _ _ (Or.inr ⟨hpos, q, hq2, rfl, Or.inl ⟨hno, hfa.tr zFM.t0, by simp [zsi]⟩⟩))
    · have hno : ¬ (0 < U.1 0 ∧ ∃ q, q ≤ 2 ∧ x = nI q) := fun h => by
        obtain ⟨-, q, h1, h2⟩ := h
        exact hq ⟨q, Nat.zero_le _, h1, h2⟩
      refine zJ_aload_n dX9_chain_0 rfl ?_
      refine zJ_iconst (v := 0) dX9_chain_1 (by decide) ?_
      refine zJ_puti dX9_chain_2 fX9_170 (fun q h => by cases h; rfl) (by first | rfl | assumption | exact M0.at (by decide) (by decide)) rfl rfl rfl ?_
      refine zJ_aload_n dX9_chain_5 rfl ?_
      refine zJ_iload_n dX9_chain_6 rfl ?_
      refine zJ_iconst (v := 0) dX9_chain_7 (by decide) ?_
      refine zJ_iconst (v := 2) dX9_chain_8 (by decide) ?_
      refine zJ_cS3 dX9_chain_9 sX9_336 mfX9_within ((c_Mo_within Δ (zsi w 100 0 0) x 0 2 (by decide) (by decide)).2 hq) (Nat.le_of_ble_eq_true rfl) (by decide) (by decide) ?_
      refine zJ_if_eq (tgt := 26) dX9_chain_12 (by decide) (fun _ => ?_) (fun h9 => False.elim (by revert h9; decide))
      refine zJ_iconst (v := 0) dX9_chain_26 (by decide) ?_
      refine zJ_iconst (v := 1) dX9_chain_27 (by decide) ?_
      refine zJ_cV2 dX9_chain_28 sX9_291 mfX9_right (c_Mo_right0 Δ (zsi w 100 0 0) M0 z0 1 (by decide)) (by first | rfl | assumption | exact M0.at (by decide) (by decide)) rfl (Nat.le_of_ble_eq_true rfl) (by decide) (by decide) ?_
      refine zJ_if_ne (tgt := 36) dX9_chain_31 (by decide) (fun h9 => False.elim (by revert h9; decide)) (fun _ => ?_)
      refine zJ_iconst (v := 0) dX9_chain_34 (by decide) ?_
      exact zJ_iret dX9_chain_35 rfl (by decide) (by decide) (hQ _ _ (Or.inl ⟨hno, zFM.t0.tr zFM.t0, by simp [zsi]⟩))
  · have hno : ¬ (0 < U.1 0 ∧ ∃ q, q ≤ 2 ∧ x = nI q) := fun h => hpos h.1
    have hz0 : U.1 0 = 0 := by omega
    by_cases hq : ∃ q, 0 ≤ q ∧ q ≤ 2 ∧ x = nI q
    · refine zJ_aload_n dX9_chain_0 rfl ?_
      refine zJ_iconst (v := 0) dX9_chain_1 (by decide) ?_
      refine zJ_puti dX9_chain_2 fX9_170 (fun q h => by cases h; rfl) (by first | rfl | assumption | exact M0.at (by decide) (by decide)) rfl rfl rfl ?_
      refine zJ_aload_n dX9_chain_5 rfl ?_
      refine zJ_iload_n dX9_chain_6 rfl ?_
      refine zJ_iconst (v := 0) dX9_chain_7 (by decide) ?_
      refine zJ_iconst (v := 2) dX9_chain_8 (by decide) ?_
      refine zJ_cS3 dX9_chain_9 sX9_336 mfX9_within ((c_Mo_within Δ (zsi w 100 0 0) x 0 2 (by decide) (by decide)).1 hq) (Nat.le_of_ble_eq_true rfl) (by decide) (by decide) ?_
      refine zJ_if_eq (tgt := 26) dX9_chain_12 (by decide) (fun h9 => False.elim (by revert h9; decide)) (fun _ => ?_)
      refine zJ_aload_n dX9_chain_15 rfl ?_
      refine zJ_geti dX9_chain_16 fX9_298 (by first | rfl | assumption | exact M0.at (by decide) (by decide)) rfl ?_
      rw [hp1]
      refine zJ_if_le (tgt := 26) dX9_chain_19 (by decide) (fun h19 => ?_) (fun h9 => absurd (by rw [hz0]; decide) h9)
      refine zJ_iconst (v := 0) dX9_chain_26 (by decide) ?_
      refine zJ_iconst (v := 1) dX9_chain_27 (by decide) ?_
      refine zJ_cV2 dX9_chain_28 sX9_291 mfX9_right (c_Mo_right0 Δ (zsi w 100 0 0) M0 z0 1 (by decide)) (by first | rfl | assumption | exact M0.at (by decide) (by decide)) rfl (Nat.le_of_ble_eq_true rfl) (by decide) (by decide) ?_
      refine zJ_if_ne (tgt := 36) dX9_chain_31 (by decide) (fun h9 => False.elim (by revert h9; decide)) (fun _ => ?_)
      refine zJ_iconst (v := 0) dX9_chain_34 (by decide) ?_
      exact zJ_iret dX9_chain_35 rfl (by decide) (by decide) (hQ _ _ (Or.inl ⟨hno, zFM.t0.tr zFM.t0, by simp [zsi]⟩))
    · refine zJ_aload_n dX9_chain_0 rfl ?_
      refine zJ_iconst (v := 0) dX9_chain_1 (by decide) ?_
      refine zJ_puti dX9_chain_2 fX9_170 (fun q h => by cases h; rfl) (by first | rfl | assumption | exact M0.at (by decide) (by decide)) rfl rfl rfl ?_
      refine zJ_aload_n dX9_chain_5 rfl ?_
      refine zJ_iload_n dX9_chain_6 rfl ?_
      refine zJ_iconst (v := 0) dX9_chain_7 (by decide) ?_
      refine zJ_iconst (v := 2) dX9_chain_8 (by decide) ?_
      refine zJ_cS3 dX9_chain_9 sX9_336 mfX9_within ((c_Mo_within Δ (zsi w 100 0 0) x 0 2 (by decide) (by decide)).2 hq) (Nat.le_of_ble_eq_true rfl) (by decide) (by decide) ?_
      refine zJ_if_eq (tgt := 26) dX9_chain_12 (by decide) (fun _ => ?_) (fun h9 => False.elim (by revert h9; decide))
      refine zJ_iconst (v := 0) dX9_chain_26 (by decide) ?_
      refine zJ_iconst (v := 1) dX9_chain_27 (by decide) ?_
      refine zJ_cV2 dX9_chain_28 sX9_291 mfX9_right (c_Mo_right0 Δ (zsi w 100 0 0) M0 z0 1 (by decide)) (by first | rfl | assumption | exact M0.at (by decide) (by decide)) rfl (Nat.le_of_ble_eq_true rfl) (by decide) (by decide) ?_
      refine zJ_if_ne (tgt := 36) dX9_chain_31 (by decide) (fun h9 => False.elim (by revert h9; decide)) (fun _ => ?_)
      refine zJ_iconst (v := 0) dX9_chain_34 (by decide) ?_
      exact zJ_iret dX9_chain_35 rfl (by decide) (by decide) (hQ _ _ (Or.inl ⟨hno, zFM.t0.tr zFM.t0, by simp [zsi]⟩))
