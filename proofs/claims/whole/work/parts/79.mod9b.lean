set_option maxRecDepth 100000 in
theorem c_Mo_allReckon (Δ : zD) (w : zW) (U : zTo) (hMu : zMu w U) (hU : zTok U) (h13 : U.1 13 = 0) (hpos : 0 < U.1 0) : zMp Δ 5 yX9_allReckon mX9_allReckon [.ref 100] w (fun r c => zFM [38, 39, 40, 41, 42, 43, 44, 45, 46, 47, 48, 49, 50, 51, 52] w c ∧ ((r = some (.int (-1)) ∧ ¬ zfit (zTal U) 20000) ∨ ∃ (K : List zKy) (z : Nat), zMK c (zTal U) K ∧ K[z]? = some (zlst (zTal U) 11 (zfk (zTal U))) ∧ z < 20000 ∧ r = some (.int (nI z)))) := by
  refine zMp.of mfX9_allReckon (Nat.le_of_ble_eq_true rfl) (fun QR hQ => ?_)
  have hMu0 := hMu
  obtain ⟨hM, u1, u2, u3, u4, u5, u6, u7, u8, u9, uso, unu, uwt⟩ := hMu
  have hp8 := hU.1
  have hU0 := hU
  have hpp := hU.2.2.2.2.2.2.2.2.2.2.1
  have LD : ∀ (d : zW) (K : List zKy), zMs d → zFM [38, 39, 40, 41, 42, 43, 44, 45, 46, 47, 48, 49, 50, 51, 52] w d → zMK d (zTal U) K → zBm d (zTal U) K → ∀ n z k, K[z]? = some k → k.2.1 + n = 12 → zlst (zTal U) n k = zlst (zTal U) 11 (zfk (zTal U)) → zJ Δ mX9_allReckon (zRm 5 0 0) true w.1 QR (fun _ _ => False) 0 0 68 [(1, .int (nI z)), (0, .ref 100)] [] d := by
    intro d K Md hfd hKd hBd n
    have hTA := hU0.al
    have h7 := hTA.2.2.2.1
    induction n with
    | zero =>
      intro z k hz hn hl
      have hzK := (List.getElem?_eq_some_iff.mp hz).1
      have hKR := hKd.2.1.2.2.1
      have hkk := hKd.kk k (List.mem_iff_getElem?.mpr ⟨z, hz⟩)
      have hmb : zmb (zTal U) k = 0 := zmay_h (by omega)
      have hb : d.2.1 152 z = -1 := (hBd z k hz (by simp only [zTal]; exact if_pos hkk.1)).trans (by rw [zcC_none hmb]; rfl)
      refine zJ_aload_n dX9_allReckon_68 rfl ?_
      refine zJ_getr (j := 152) dX9_allReckon_69 fX9_83 (by first | rfl | assumption | exact Md.at (by decide) (by decide)) rfl (by first | rfl | assumption | exact Md.rf (by decide) rfl) ?_
      refine zJ_iload_n dX9_allReckon_72 rfl ?_
      refine zJ_ialdN (i := z) (v := (-1)) dX9_allReckon_73 (by first | rfl | assumption | exact Md.at (by decide) (by decide)) rfl (by omega) (by decide) hb ?_
      refine zJ_iconst (v := (-1)) dX9_allReckon_74 (by decide) ?_
      refine zJ_icmp_eq (tgt := 98) dX9_allReckon_75 (by decide) (fun _ => ?_) (fun h9 => False.elim (by revert h9; decide))
      refine zJ_iload_n dX9_allReckon_98 rfl ?_
      exact zJ_iret dX9_allReckon_99 rfl (by decide) (by decide) (hQ _ _ ⟨hfd, Or.inr ⟨K, z, hKd, by rw [← hl]; exact hz, by omega, rfl⟩⟩)
    | succ n ih =>
      intro z k hz hn hl
      have hzK := (List.getElem?_eq_some_iff.mp hz).1
      have hKR := hKd.2.1.2.2.1
      have hkk := hKd.kk k (List.mem_iff_getElem?.mpr ⟨z, hz⟩)
      have hb := hBd z k hz (by simp only [zTal]; exact if_pos hkk.1)
      rw [show zlst (zTal U) (n + 1) k = (match zcC (zTal U) k with | none => k | some q => zlst (zTal U) n (zbk (zTal U) k q)) from rfl] at hl
      cases hc : zcC (zTal U) k with
      | none =>
        rw [hc] at hb hl
        simp only at hl
        refine zJ_aload_n dX9_allReckon_68 rfl ?_
        refine zJ_getr (j := 152) dX9_allReckon_69 fX9_83 (by first | rfl | assumption | exact Md.at (by decide) (by decide)) rfl (by first | rfl | assumption | exact Md.rf (by decide) rfl) ?_
        refine zJ_iload_n dX9_allReckon_72 rfl ?_
        refine zJ_ialdN (i := z) (v := (-1)) dX9_allReckon_73 (by first | rfl | assumption | exact Md.at (by decide) (by decide)) rfl (by omega) (by decide) hb ?_
        refine zJ_iconst (v := (-1)) dX9_allReckon_74 (by decide) ?_
        refine zJ_icmp_eq (tgt := 98) dX9_allReckon_75 (by decide) (fun _ => ?_) (fun h9 => False.elim (by revert h9; decide))
        refine zJ_iload_n dX9_allReckon_98 rfl ?_
        exact zJ_iret dX9_allReckon_99 rfl (by decide) (by decide) (hQ _ _ ⟨hfd, Or.inr ⟨K, z, hKd, by rw [← hl]; exact hz, by omega, rfl⟩⟩)
      | some q =>
        rw [hc] at hb hl
        simp only at hl
        obtain ⟨hq8, hqm⟩ := zcC_may hc
        obtain ⟨c9, hc1, hc2, hc3, hc4, hc5⟩ := hKd.c hz hq8 hqm
        refine zJ_aload_n dX9_allReckon_68 rfl ?_
        refine zJ_getr (j := 152) dX9_allReckon_69 fX9_83 (by first | rfl | assumption | exact Md.at (by decide) (by decide)) rfl (by first | rfl | assumption | exact Md.rf (by decide) rfl) ?_
        refine zJ_iload_n dX9_allReckon_72 rfl ?_
        refine zJ_ialdN (i := z) (v := (nI q)) dX9_allReckon_73 (by first | rfl | assumption | exact Md.at (by decide) (by decide)) rfl (by omega) (by decide) hb ?_
        refine zJ_iconst (v := (-1)) dX9_allReckon_74 (by decide) ?_
        refine zJ_icmp_eq (tgt := 98) dX9_allReckon_75 (by decide) (fun h9 => absurd h9 (nI_m1 (show q < 2 ^ 31 by omega))) (fun h75c => ?_)
        refine zJ_aload_n dX9_allReckon_78 rfl ?_
        refine zJ_getr (j := 143) dX9_allReckon_79 fX9_63 (by first | rfl | assumption | exact Md.at (by decide) (by decide)) rfl (by first | rfl | assumption | exact Md.rf (by decide) rfl) ?_
        refine zJ_bipush (v := 8) dX9_allReckon_82 (by decide) ?_
        refine zJ_iload_n dX9_allReckon_84 rfl ?_
        refine zJ_imul dX9_allReckon_85 ?_
        refine zJ_aload_n dX9_allReckon_86 rfl ?_
        refine zJ_getr (j := 152) dX9_allReckon_87 fX9_83 (by first | rfl | assumption | exact Md.at (by decide) (by decide)) rfl (by first | rfl | assumption | exact Md.rf (by decide) rfl) ?_
        refine zJ_iload_n dX9_allReckon_90 rfl ?_
        refine zJ_ialdN (i := z) (v := (nI q)) dX9_allReckon_91 (by first | rfl | assumption | exact Md.at (by decide) (by decide)) rfl (by omega) (by decide) hb ?_
        refine zJ_iadd dX9_allReckon_92 ?_
        refine zJ_ialdN (i := (z * 8 + q)) (v := (nI c9)) dX9_allReckon_93 (by first | rfl | assumption | exact Md.at (by decide) (by decide)) (na_8 _ _) (by omega) (by decide) hc2 ?_
        refine zJ_istore_n (ls2 := fun x94c => [(1, .int x94c), (0, .ref 100)]) dX9_allReckon_94 (by decide) (fun _ => rfl) (fun x94c ex94c => ?_)
        obtain rfl : x94c = (nI c9) := ex94c
        refine zJ_goto (tgt := 68) dX9_allReckon_95 (by decide) ?_
        exact ih c9 _ hc1 (by simp only [zbk]; omega) hl
  have LR : ∀ c : zW, zFM [46, 47, 48, 49] w c → zMa c U → ∀ j, j ≤ U.1 0 → zJ Δ mX9_allReckon (zRm 5 0 0) true w.1 QR (fun _ _ => False) 0 0 6 [(1, .int (nI j)), (0, .ref 100)] [] (zrow (zrow c 149 (fun p => if p < j then (if U.2.1 p = 3 then nI (U.2.2.1 p) else 0) else c.2.1 149 p)) 148 (fun p => if p < j then 3 else c.2.1 148 p)) := by
    intro c hfc hAc
    have Mc := hAc.1
    have a1 := hAc.2.1
    have hMuc : zMu c U := hMu0.fm hfc (by decide)
    refine zup (fun j hj ih => ?_)
    refine zJ_iload_n dX9_allReckon_6 rfl ?_
    refine zJ_aload_n dX9_allReckon_7 rfl ?_
    refine zJ_getiN dX9_allReckon_8 fX9_298 (by first | rfl | assumption | exact Mc.at (by decide) (by decide)) rfl a1 ?_
    refine zJ_icmp_ge (tgt := 53) dX9_allReckon_11 (by decide) (fun h11 => ?_) (fun h11 => ?_)
    · have hj9 : j = U.1 0 := Nat.le_antisymm hj ((nI_leI (by omega) (by omega)).mp h11)
      subst hj9
      have hA2 : zMa (zrow (zrow c 149 (fun p => if p < (U.1 0) then (if U.2.1 p = 3 then nI (U.2.2.1 p) else 0) else c.2.1 149 p)) 148 (fun p => if p < (U.1 0) then 3 else c.2.1 148 p)) (zTal U) := by
        obtain ⟨h0, h1, h2, h3, h4, h5, h6, h7, h8, h9, h10, h11, h12⟩ := hAc
        refine ⟨h0, by simp [zrow, zTal, h1], by simp [zrow, zTal, h2], by simp [zrow, zTal, h3], by simp [zrow, zTal, h4], by simp [zrow, zTal, h5], by simp [zrow, zTal, h6], by simp [zrow, zTal, h7], by simp [zrow, zTal, h8], by simp [zrow, zTal, h9], fun p hp => ?_, fun p hp => ?_, fun p q hp hq => ?_⟩
        · have hp2 : p < U.1 0 := hp
          simp [zrow, zTal, hp2]; rfl
        · have hp2 : p < U.1 0 := hp
          by_cases h3 : U.2.1 p = 3
          · simp [zrow, zTal, hp2, h3]
          · simp [zrow, zTal, hp2, h3]; rfl
        · simp [zrow, zTal]; exact h12 p q hp hq
      have hf2 : zFM [46, 47, 48, 49] w (zrow (zrow c 149 (fun p => if p < (U.1 0) then (if U.2.1 p = 3 then nI (U.2.2.1 p) else 0) else c.2.1 149 p)) 148 (fun p => if p < (U.1 0) then 3 else c.2.1 148 p)) := hfc.tr ((zFM.row (by decide)).tr (zFM.row (by decide)))
      have h2 : (zrow (zrow c 149 (fun p => if p < (U.1 0) then (if U.2.1 p = 3 then nI (U.2.2.1 p) else 0) else c.2.1 149 p)) 148 (fun p => if p < (U.1 0) then 3 else c.2.1 148 p)).2.1 100 2 = nI (U.1 12) := (hf2.at (by decide)).trans u2
      generalize (zrow (zrow c 149 (fun p => if p < (U.1 0) then (if U.2.1 p = 3 then nI (U.2.2.1 p) else 0) else c.2.1 149 p)) 148 (fun p => if p < (U.1 0) then 3 else c.2.1 148 p)) = c2 at hA2 hf2 h2
      have Mc2 : zMs c2 := hA2.1
      refine zJ_aload_n dX9_allReckon_53 rfl ?_
      refine zJ_aload_n dX9_allReckon_54 rfl ?_
      refine zJ_getiN dX9_allReckon_55 fX9_301 (by first | rfl | assumption | exact Mc2.at (by decide) (by decide)) rfl h2 ?_
      refine zJ_eV1 dX9_allReckon_58 sX9_416 mfX9_asks (c_Mo_asks Δ c2 (zTal U) hA2 hU0.al hpos) (Mc2.at (by decide) (by decide)) rfl (Nat.le_of_ble_eq_true rfl) (by decide) (by decide) (fun r d hP => ?_)
      obtain ⟨hfd, ⟨rfl, K, hKd, hUd⟩ | ⟨rfl, hno⟩⟩ := hP
      · refine zJ_if_ne (tgt := 66) dX9_allReckon_61 (by decide) (fun _ => ?_) (fun h9 => False.elim (by revert h9; decide))
        refine zJ_iconst (v := 0) dX9_allReckon_66 (by decide) ?_
        refine zJ_istore_n (ls2 := fun x67 => [(1, .int x67), (0, .ref 100)]) dX9_allReckon_67 (by decide) (fun _ => rfl) (fun x67 ex67 => ?_)
        rw [ex67]
        exact LD d K (Mc2.fm hfd) ((hf2.mono (by decide)).tr (hfd.mono (by decide))) hKd (hUd.bm hU0.al hKd) 11 0 _ (zall_0 hKd.2.2.1) rfl rfl
      · refine zJ_if_ne (tgt := 66) dX9_allReckon_61 (by decide) (fun h9 => absurd rfl h9) (fun _ => ?_)
        refine zJ_iconst (v := -1) dX9_allReckon_64 (by decide) ?_
        exact zJ_iret dX9_allReckon_65 rfl (by decide) (by decide) (hQ _ _ ⟨(hf2.mono (by decide)).tr (hfd.mono (by decide)), Or.inl ⟨rfl, hno⟩⟩)
    · have hj9 : j < U.1 0 := Nat.lt_of_not_le fun hq9 => h11 ((nI_leI (by omega) (by omega)).mpr hq9)
      have hsj := (hpp j).1
      refine zJ_aload_n dX9_allReckon_14 rfl ?_
      refine zJ_getr (j := 149) dX9_allReckon_15 fX9_73 (by first | rfl | assumption | exact Mc.at (by decide) (by decide)) rfl (by first | rfl | assumption | exact Mc.rf (by decide) rfl) ?_
      refine zJ_iload_n dX9_allReckon_18 rfl ?_
      refine zJ_aload_n dX9_allReckon_19 rfl ?_
      refine zJ_getr (j := 110) dX9_allReckon_20 fX9_22 (by first | rfl | assumption | exact Mc.at (by decide) (by decide)) rfl (by first | rfl | assumption | exact Mc.rf (by decide) rfl) ?_
      refine zJ_iload_n dX9_allReckon_23 rfl ?_
      refine zJ_ialdN (i := j) (v := (nI (U.2.1 j))) dX9_allReckon_24 (by first | rfl | assumption | exact Mc.at (by decide) (by decide)) rfl (by omega) (by decide) (hMuc.2.2.2.2.2.2.2.2.2.2.1 j hj9) ?_
      refine zJ_iconst (v := 3) dX9_allReckon_25 (by decide) ?_
      refine zJ_icmp_ne (tgt := 38) dX9_allReckon_26 (by decide) (fun h26 => ?_) (fun h26 => ?_)
      · have hs3 : ¬ U.2.1 j = 3 := fun h => h26 (by rw [h]; rfl)
        refine zJ_iconst (v := 0) dX9_allReckon_38 (by decide) ?_
        refine zJ_iastN (i := j) dX9_allReckon_39 (by first | rfl | assumption | exact Mc.at (by decide) (by decide)) rfl (by omega) (by decide) ?_
        refine zJ_aload_n dX9_allReckon_40 rfl ?_
        refine zJ_getr (j := 148) dX9_allReckon_41 fX9_70 (by first | rfl | assumption | exact Mc.at (by decide) (by decide)) rfl (by first | rfl | assumption | exact Mc.rf (by decide) rfl) ?_
        refine zJ_iload_n dX9_allReckon_44 rfl ?_
        refine zJ_iconst (v := 3) dX9_allReckon_45 (by decide) ?_
        refine zJ_iastN (i := j) dX9_allReckon_46 (by first | rfl | assumption | exact Mc.at (by decide) (by decide)) rfl (by omega) (by decide) ?_
        refine zJ_iinc (ls2 := fun x47 => [(1, .int x47), (0, .ref 100)]) dX9_allReckon_47 rfl (by decide) (fun _ => rfl) (fun x47 ex47 => ?_)
        refine zJ_goto (tgt := 6) dX9_allReckon_50 (by decide) ?_
        rw [ex47, show nI j + Int32.ofInt 1 = nI (j + 1) from nI_1 _]
        refine zJ_w ?_ (ih (j + 1) (by omega) (by omega))
        refine Prod.ext rfl (Prod.ext (funext fun a => funext fun b => ?_) rfl)
        have c3 : ¬ b = j → (b < j + 1) = (b < j) := fun _ => by simp only [eq_iff_iff]; omega
        simp only [zsi, zrow]
        by_cases d1 : a = 148
        · subst d1
          by_cases d2 : b = j
          · subst d2; simp
          · simp [d2, c3 d2]
        · by_cases d3 : a = 149
          · subst d3
            by_cases d2 : b = j
            · subst d2; simp [hs3]
            · simp [d2, c3 d2]
          · simp [d1, d3]
      · have hs3 : U.2.1 j = 3 := (nI_eq (b := 3) (by omega) (by decide)).mp h26
        refine zJ_aload_n dX9_allReckon_29 rfl ?_
        refine zJ_getr (j := 111) dX9_allReckon_30 fX9_26 (by first | rfl | assumption | exact Mc.at (by decide) (by decide)) rfl (by first | rfl | assumption | exact Mc.rf (by decide) rfl) ?_
        refine zJ_iload_n dX9_allReckon_33 rfl ?_
        refine zJ_ialdN (i := j) (v := (nI (U.2.2.1 j))) dX9_allReckon_34 (by first | rfl | assumption | exact Mc.at (by decide) (by decide)) rfl (by omega) (by decide) (hMuc.2.2.2.2.2.2.2.2.2.2.2.1 j hj9) ?_
        refine zJ_goto (tgt := 39) dX9_allReckon_35 (by decide) ?_
        refine zJ_iastN (i := j) dX9_allReckon_39 (by first | rfl | assumption | exact Mc.at (by decide) (by decide)) rfl (by omega) (by decide) ?_
        refine zJ_aload_n dX9_allReckon_40 rfl ?_
        refine zJ_getr (j := 148) dX9_allReckon_41 fX9_70 (by first | rfl | assumption | exact Mc.at (by decide) (by decide)) rfl (by first | rfl | assumption | exact Mc.rf (by decide) rfl) ?_
        refine zJ_iload_n dX9_allReckon_44 rfl ?_
        refine zJ_iconst (v := 3) dX9_allReckon_45 (by decide) ?_
        refine zJ_iastN (i := j) dX9_allReckon_46 (by first | rfl | assumption | exact Mc.at (by decide) (by decide)) rfl (by omega) (by decide) ?_
        refine zJ_iinc (ls2 := fun x47 => [(1, .int x47), (0, .ref 100)]) dX9_allReckon_47 rfl (by decide) (fun _ => rfl) (fun x47 ex47 => ?_)
        refine zJ_goto (tgt := 6) dX9_allReckon_50 (by decide) ?_
        rw [ex47, show nI j + Int32.ofInt 1 = nI (j + 1) from nI_1 _]
        refine zJ_w ?_ (ih (j + 1) (by omega) (by omega))
        refine Prod.ext rfl (Prod.ext (funext fun a => funext fun b => ?_) rfl)
        have c3 : ¬ b = j → (b < j + 1) = (b < j) := fun _ => by simp only [eq_iff_iff]; omega
        simp only [zsi, zrow]
        by_cases d1 : a = 148
        · subst d1
          by_cases d2 : b = j
          · subst d2; simp
          · simp [d2, c3 d2]
        · by_cases d3 : a = 149
          · subst d3
            by_cases d2 : b = j
            · subst d2; simp [hs3]
            · simp [d2, c3 d2]
          · simp [d1, d3]
  refine zJ_aload_n dX9_allReckon_0 rfl ?_
  refine zJ_eV0 dX9_allReckon_1 sX9_413 mfX9_asTold (c_Mo_asTold Δ w U hMu0 hU0 h13) (hM.at (by decide) (by decide)) rfl (Nat.le_of_ble_eq_true rfl) (by decide) (by decide) (fun r c hP => ?_)
  obtain ⟨rfl, hfc, hAc⟩ := hP
  refine zJ_iconst (v := 0) dX9_allReckon_4 (by decide) ?_
  refine zJ_istore_n (ls2 := fun x5 => [(1, .int x5), (0, .ref 100)]) dX9_allReckon_5 (by decide) (fun _ => rfl) (fun x5 ex5 => ?_)
  rw [ex5]
  refine zJ_w ?_ (LR c hfc hAc 0 (Nat.zero_le _))
  refine Prod.ext rfl (Prod.ext (funext fun a => funext fun b => ?_) rfl)
  simp only [zrow, Nat.not_lt_zero, if_false]
  by_cases d1 : a = 148
  · subst d1; simp
  · by_cases d3 : a = 149
    · subst d3; simp
    · simp [d1, d3]
