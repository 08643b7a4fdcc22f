/-! constructors: Ways, Play -/
set_option maxRecDepth 100000 in
theorem c_Ways_init_s (Δ : zD) (w : zW) (i : Nat) (hi : i + 4 < 1000) (hk : w.1 i = some (.inl 6)) (n1 : w.1 (i + 1) = none) (n2 : w.1 (i + 2) = none) (n3 : w.1 (i + 3) = none) (n4 : w.1 (i + 4) = none) : zMn Δ 1 4 7424 yX6_init mX6_init [.ref i, .int (nI 640), .int (nI 1024)] w (fun r c => r = none ∧ zFo w c i (i + 4) ∧ zWs c i 640 10 ∧ c.2.1 i 6 = -1) := by
  refine zM.of mfX6_init (Nat.le_of_ble_eq_true rfl) ?_
  refine zJ_aload_n dX6_init_0 rfl ?_
  refine zJ_obj dX6_init_1 (List.mem_of_getElem? (i := 334) rfl) (by decide) (by decide) ?_
  refine zJ_aload_n dX6_init_4 rfl ?_
  refine zJ_iconst (v := (-1)) dX6_init_5 (by decide) ?_
  refine zJ_puti dX6_init_6 fX6_11 (fun q h => by cases h; rfl) (by simp [znew, zsr, zsi, hk, n1, n2, n3, n4]) rfl rfl rfl ?_
  refine zJ_aload_n dX6_init_9 rfl ?_
  refine zJ_iload_n dX6_init_10 rfl ?_
  refine zJ_putFi dX6_init_11 rfl fX6_15 (fun q hq => by cases hq; exact ⟨(List.mem_of_getElem? (i := 335) rfl), rfl, rfl⟩) (by simp [znew, zsr, zsi, hk, n1, n2, n3, n4]) rfl rfl rfl ?_
  refine zJ_aload_n dX6_init_14 rfl ?_
  refine zJ_iload_n dX6_init_15 rfl ?_
  refine zJ_newl (len := 640) (i + 1) dX6_init_16 (by decide) (nI_clamp (by decide)) (by decide) rfl (by simp [znew, zsr, zsi, hk, n1, n2, n3, n4]) (by omega) (by simp [lv_args, znr, Value.category]) (by simp [znr]) (by decide) (by decide) ?_
  refine zJ_putF dX6_init_18 rfl fX6_18 (fun q hq => by cases hq; exact ⟨(List.mem_of_getElem? (i := 336) rfl), rfl, rfl⟩) (by simp [znew, zsr, zsi, hk, n1, n2, n3, n4]) rfl (fun _ => rfl) (fun _ => rfl) (by simp [znew, zsr]) ?_
  refine zJ_aload_n dX6_init_21 rfl ?_
  refine zJ_iload_n dX6_init_22 rfl ?_
  refine zJ_newi (len := 640) (i + 2) dX6_init_23 (by decide) (nI_clamp (by decide)) (by decide) rfl (by simp [znew, zsr, zsi, hk, n1, n2, n3, n4]) (by omega) (by simp [lv_args, znr, Value.category]) (by simp [znr]) (by decide) (by decide) ?_
  refine zJ_putF dX6_init_25 rfl fX6_22 (fun q hq => by cases hq; exact ⟨(List.mem_of_getElem? (i := 339) rfl), rfl, rfl⟩) (by simp [znew, zsr, zsi, hk, n1, n2, n3, n4]) rfl (fun _ => rfl) (fun _ => rfl) (by simp [znew, zsr]) ?_
  refine zJ_aload_n dX6_init_28 rfl ?_
  refine zJ_iload_n dX6_init_29 rfl ?_
  refine zJ_bipush (v := 8) dX6_init_30 (by decide) ?_
  refine zJ_imul dX6_init_32 ?_
  rw [show nI 640 * 8 = nI 5120 from na_mul 640 8]
  refine zJ_newi (len := 5120) (i + 3) dX6_init_33 (by decide) (nI_clamp (by decide)) (by decide) rfl (by simp [znew, zsr, zsi, hk, n1, n2, n3, n4]) (by omega) (by simp [lv_args, znr, Value.category]) (by simp [znr]) (by decide) (by decide) ?_
  refine zJ_putF dX6_init_35 rfl fX6_26 (fun q hq => by cases hq; exact ⟨(List.mem_of_getElem? (i := 342) rfl), rfl, rfl⟩) (by simp [znew, zsr, zsi, hk, n1, n2, n3, n4]) rfl (fun _ => rfl) (fun _ => rfl) (by simp [znew, zsr]) ?_
  refine zJ_aload_n dX6_init_38 rfl ?_
  refine zJ_iload_n dX6_init_39 rfl ?_
  refine zJ_newi (len := 1024) (i + 4) dX6_init_40 (by decide) (nI_clamp (by decide)) (by decide) rfl (by simp [znew, zsr, zsi, hk, n1, n2, n3, n4]) (by omega) (by simp [lv_args, znr, Value.category]) (by simp [znr]) (by decide) (by decide) ?_
  refine zJ_putF dX6_init_42 rfl fX6_29 (fun q hq => by cases hq; exact ⟨(List.mem_of_getElem? (i := 345) rfl), rfl, rfl⟩) (by simp [znew, zsr, zsi, hk, n1, n2, n3, n4]) rfl (fun _ => rfl) (fun _ => rfl) (by simp [znew, zsr]) ?_
  exact zJ_vret dX6_init_45 rfl (by decide) (by decide) ⟨rfl, ((((((((((zFo.i (by omega)).tr (zFo.i (by omega))).tr (zFo.new (by omega))).tr (zFo.r (by omega))).tr (zFo.new (by omega))).tr (zFo.r (by omega))).tr (zFo.new (by omega))).tr (zFo.r (by omega))).tr (zFo.new (by omega))).tr (zFo.r (by omega))), by
      refine ⟨?_, ?_, ?_, ?_, ?_, ?_, ?_, ?_, ?_, ?_, by decide, by decide, by decide⟩ <;> simp [znew, zsr, zsi, hk], by simp [znew, zsr, zsi]⟩
set_option maxRecDepth 100000 in
theorem c_Play_init_s (Δ : zD) (w : zW) (b : Nat) (hb : b + 18 < 1000) (hk : w.1 b = some (.inl 1)) (hz : w.2.1 b 11 = 0) (hno : ∀ a, b < a → a ≤ b + 18 → w.1 a = none) : zMn Δ 3 18 15326 yX1_init mX1_init [.ref b, .int (nI 640), .int (nI 1024)] w (fun r c => r = none ∧ zFo w c b (b + 18) ∧ zPs c b 640 10 ∧ zTn c (b + 1) ∧ c.2.1 b 11 = 0 ∧ c.2.1 (b + 6) 6 = -1) := by
  refine zM.of mfX1_init (Nat.le_of_ble_eq_true rfl) ?_
  have n1 := hno (b + 1) (by omega) (by omega)
  have n2 := hno (b + 2) (by omega) (by omega)
  have n3 := hno (b + 3) (by omega) (by omega)
  have n4 := hno (b + 4) (by omega) (by omega)
  have n5 := hno (b + 5) (by omega) (by omega)
  have n6 := hno (b + 6) (by omega) (by omega)
  have n7 := hno (b + 7) (by omega) (by omega)
  have n8 := hno (b + 8) (by omega) (by omega)
  have n9 := hno (b + 9) (by omega) (by omega)
  have n10 := hno (b + 10) (by omega) (by omega)
  have n11 := hno (b + 11) (by omega) (by omega)
  have n12 := hno (b + 12) (by omega) (by omega)
  have n13 := hno (b + 13) (by omega) (by omega)
  have n14 := hno (b + 14) (by omega) (by omega)
  have n15 := hno (b + 15) (by omega) (by omega)
  have n16 := hno (b + 16) (by omega) (by omega)
  have n17 := hno (b + 17) (by omega) (by omega)
  have n18 := hno (b + 18) (by omega) (by omega)
  refine zJ_aload_n dX1_init_0 rfl ?_
  refine zJ_obj dX1_init_1 (List.mem_of_getElem? (i := 326) rfl) (by decide) (by decide) ?_
  refine zJ_aload_n dX1_init_4 rfl ?_
  refine zJ_new (ci := 5) (b + 1) dX1_init_5 rfl (List.mem_of_getElem? (i := 327) rfl) (List.mem_of_getElem? (i := 180) rfl) (List.mem_of_getElem? (i := 144) rfl) rfl (by simp [znew, zsr, zsi, hk, n1, n2, n3, n4, n5, n6, n7, n8, n9, n10, n11, n12, n13, n14, n15, n16, n17, n18]) (by omega) (by simp [lv_args, znr, Value.category]) (by simp [znr]) (by decide) (by decide) ?_
  refine zJ_dup dX1_init_8 rfl ?_
  refine zJ_callI (As := []) dX1_init_9 sX1_11 mfX5_init rfl (c_Town_init Δ (znew w (b + 1) (.inl 5)) (b + 1) (by omega) (by simp [znew]) (by simp [znew, n2]) (by simp [znew, n3]) (by simp [znew, n4]) (by simp [znew, n5])) (fun _ _ h => h) rfl (Or.inr ⟨rfl, by simp [zokv, znew, zsr, zsi, hk], by simp [lv_args, zokv, Value.category, znew, zsr, zsi, hk]⟩) (Nat.le_of_ble_eq_true rfl) (by decide) (by decide) (fun r c hP => ?_)
  obtain ⟨rfl, hF1, hTc, hT1⟩ := hP
  have kB : c.1 b = some (.inl 1) := (hF1 b (by omega)).1.trans (by simp [znew, hk])
  have zB : c.2.1 b 11 = 0 := ((hF1 b (by omega)).2.1 11).trans (by simp [znew, hz])
  have hF1b : zFo w c b (b + 18) := (zFo.new (by omega)).tr (hF1.mono (by omega) (by omega))
  have m6 : c.1 (b + 6) = none := (hF1 _ (by omega)).1.trans (by simp [znew, n6])
  have m7 : c.1 (b + 7) = none := (hF1 _ (by omega)).1.trans (by simp [znew, n7])
  have m8 : c.1 (b + 8) = none := (hF1 _ (by omega)).1.trans (by simp [znew, n8])
  have m9 : c.1 (b + 9) = none := (hF1 _ (by omega)).1.trans (by simp [znew, n9])
  have m10 : c.1 (b + 10) = none := (hF1 _ (by omega)).1.trans (by simp [znew, n10])
  have m11 : c.1 (b + 11) = none := (hF1 _ (by omega)).1.trans (by simp [znew, n11])
  have m12 : c.1 (b + 12) = none := (hF1 _ (by omega)).1.trans (by simp [znew, n12])
  have m13 : c.1 (b + 13) = none := (hF1 _ (by omega)).1.trans (by simp [znew, n13])
  have m14 : c.1 (b + 14) = none := (hF1 _ (by omega)).1.trans (by simp [znew, n14])
  have m15 : c.1 (b + 15) = none := (hF1 _ (by omega)).1.trans (by simp [znew, n15])
  have m16 : c.1 (b + 16) = none := (hF1 _ (by omega)).1.trans (by simp [znew, n16])
  have m17 : c.1 (b + 17) = none := (hF1 _ (by omega)).1.trans (by simp [znew, n17])
  have m18 : c.1 (b + 18) = none := (hF1 _ (by omega)).1.trans (by simp [znew, n18])
  refine zJ_putF dX1_init_12 rfl fX1_12 (fun q hq => by cases hq; exact ⟨(List.mem_of_getElem? (i := 368) rfl), rfl, rfl⟩) (by simp [znew, zsr, zsi, kB, m6, m7, m8, m9, m10, m11, m12, m13, m14, m15, m16, m17, m18]) rfl (fun _ => rfl) (fun _ => rfl) (by simp [znew, zsr, zsi, hTc]) ?_
  refine zJ_aload_n dX1_init_15 rfl ?_
  refine zJ_bipush (v := 96) dX1_init_16 (by decide) ?_
  refine zJ_newl (len := 96) (b + 16) dX1_init_18 (by decide) rfl (by decide) rfl (by simp [znew, zsr, zsi, kB, m6, m7, m8, m9, m10, m11, m12, m13, m14, m15, m16, m17, m18]) (by omega) (by simp [lv_args, znr, Value.category]) (by simp [znr]) (by decide) (by decide) ?_
  refine zJ_putF dX1_init_20 rfl fX1_18 (fun q hq => by cases hq; exact ⟨(List.mem_of_getElem? (i := 382) rfl), rfl, rfl⟩) (by simp [znew, zsr, zsi, kB, m6, m7, m8, m9, m10, m11, m12, m13, m14, m15, m16, m17, m18]) rfl (fun _ => rfl) (fun _ => rfl) (by simp [znew, zsr, zsi, hTc]) ?_
  refine zJ_aload_n dX1_init_23 rfl ?_
  refine zJ_bipush (v := 8) dX1_init_24 (by decide) ?_
  refine zJ_newl (len := 8) (b + 17) dX1_init_26 (by decide) rfl (by decide) rfl (by simp [znew, zsr, zsi, kB, m6, m7, m8, m9, m10, m11, m12, m13, m14, m15, m16, m17, m18]) (by omega) (by simp [lv_args, znr, Value.category]) (by simp [znr]) (by decide) (by decide) ?_
  refine zJ_putF dX1_init_28 rfl fX1_22 (fun q hq => by cases hq; exact ⟨(List.mem_of_getElem? (i := 383) rfl), rfl, rfl⟩) (by simp [znew, zsr, zsi, kB, m6, m7, m8, m9, m10, m11, m12, m13, m14, m15, m16, m17, m18]) rfl (fun _ => rfl) (fun _ => rfl) (by simp [znew, zsr, zsi, hTc]) ?_
  refine zJ_aload_n dX1_init_31 rfl ?_
  refine zJ_bipush (v := 8) dX1_init_32 (by decide) ?_
  refine zJ_newi (len := 8) (b + 18) dX1_init_34 (by decide) rfl (by decide) rfl (by simp [znew, zsr, zsi, kB, m6, m7, m8, m9, m10, m11, m12, m13, m14, m15, m16, m17, m18]) (by omega) (by simp [lv_args, znr, Value.category]) (by simp [znr]) (by decide) (by decide) ?_
  refine zJ_putF dX1_init_36 rfl fX1_25 (fun q hq => by cases hq; exact ⟨(List.mem_of_getElem? (i := 384) rfl), rfl, rfl⟩) (by simp [znew, zsr, zsi, kB, m6, m7, m8, m9, m10, m11, m12, m13, m14, m15, m16, m17, m18]) rfl (fun _ => rfl) (fun _ => rfl) (by simp [znew, zsr, zsi, hTc]) ?_
  refine zJ_aload_n dX1_init_39 rfl ?_
  refine zJ_new (ci := 6) (b + 6) dX1_init_40 rfl (List.mem_of_getElem? (i := 329) rfl) (List.mem_of_getElem? (i := 330) rfl) (List.mem_of_getElem? (i := 147) rfl) rfl (by simp [znew, zsr, zsi, kB, m6, m7, m8, m9, m10, m11, m12, m13, m14, m15, m16, m17, m18]) (by omega) (by simp [lv_args, znr, Value.category]) (by simp [znr]) (by decide) (by decide) ?_
  refine zJ_dup dX1_init_43 rfl ?_
  refine zJ_iload_n dX1_init_44 rfl ?_
  refine zJ_iload_n dX1_init_45 rfl ?_
  generalize hwC : znew (zsr (znew (zsr (znew (zsr (znew (zsr c b 0 (some (b + 1))) (b + 16) (.inr (true, 96))) b 7 (some (b + 16))) (b + 17) (.inr (true, 8))) b 8 (some (b + 17))) (b + 18) (.inr (false, 8))) b 9 (some (b + 18))) (b + 6) (.inl 6) = wC
  have hFC : zFo c wC b (b + 18) := by
    rw [← hwC]
    exact (((((((zFo.r (by omega)).tr (zFo.new (by omega))).tr (zFo.r (by omega))).tr (zFo.new (by omega))).tr (zFo.r (by omega))).tr (zFo.new (by omega))).tr (zFo.r (by omega))).tr (zFo.new (by omega))
  have kC : wC.1 b = some (.inl 1) := by rw [← hwC]; simp [znew, zsr, kB]
  have kC6 : wC.1 (b + 6) = some (.inl 6) := by rw [← hwC]; simp [znew, zsr]
  have zC : wC.2.1 b 11 = 0 := by rw [← hwC]; simp [znew, zsr, zB]
  have rC : wC.2.2.2 b 0 = some (b + 1) ∧ wC.2.2.2 b 7 = some (b + 16) ∧ wC.2.2.2 b 8 = some (b + 17) ∧ wC.2.2.2 b 9 = some (b + 18) ∧ wC.1 (b + 16) = some (.inr (true, 96)) ∧ wC.1 (b + 17) = some (.inr (true, 8)) ∧ wC.1 (b + 18) = some (.inr (false, 8)) := by rw [← hwC]; simp [znew, zsr]
  have tC : zTn wC (b + 1) := by
    obtain ⟨a1, a2, a3, a4, a5, a6, a7, a8, a9⟩ := hT1.1
    rw [← hwC]
    refine ⟨?_, ?_, ?_, ?_, ?_, ?_, ?_, ?_, ?_⟩ <;> simp [znew, zsr, a1, a2, a3, a4, a5, a6, a7, a8, a9]
  have q7 : wC.1 (b + 7) = none := by rw [← hwC]; simp [znew, zsr, m7]
  have q8 : wC.1 (b + 8) = none := by rw [← hwC]; simp [znew, zsr, m8]
  have q9 : wC.1 (b + 9) = none := by rw [← hwC]; simp [znew, zsr, m9]
  have q10 : wC.1 (b + 10) = none := by rw [← hwC]; simp [znew, zsr, m10]
  have q11 : wC.1 (b + 11) = none := by rw [← hwC]; simp [znew, zsr, m11]
  have q12 : wC.1 (b + 12) = none := by rw [← hwC]; simp [znew, zsr, m12]
  have q13 : wC.1 (b + 13) = none := by rw [← hwC]; simp [znew, zsr, m13]
  have q14 : wC.1 (b + 14) = none := by rw [← hwC]; simp [znew, zsr, m14]
  have q15 : wC.1 (b + 15) = none := by rw [← hwC]; simp [znew, zsr, m15]
  refine zJ_callI (As := [.int (nI 640), .int (nI 1024)]) dX1_init_46 sX1_31 mfX6_init rfl (c_Ways_init_s Δ wC (b + 6) (by omega) kC6 q7 q8 q9 q10) (fun _ _ h => h) rfl (Or.inr ⟨rfl, by simp [zokv, znew, zsr, zsi, kC, kC6], by simp [lv_args, zokv, Value.category, znew, zsr, zsi, kC, kC6]⟩) (Nat.le_of_ble_eq_true rfl) (by decide) (by decide) (fun r d hP => ?_)
  obtain ⟨rfl, hF2, hW2, h62⟩ := hP
  have kD : d.1 b = some (.inl 1) := (hF2 b (by omega)).1.trans kC
  have hWd : d.1 (b + 6) = some (.inl 6) := hW2.1
  have zDb : d.2.1 b 11 = 0 := ((hF2 b (by omega)).2.1 11).trans zC
  have rD : ∀ j, d.2.2.2 b j = wC.2.2.2 b j := (hF2 b (by omega)).2.2.2
  have sD : ∀ a, b + 10 < a → d.1 a = wC.1 a := fun a h => (hF2 a (by omega)).1
  have tD : zTn d (b + 1) := by
    obtain ⟨a1, a2, a3, a4, a5, a6, a7, a8, a9⟩ := tC
    exact ⟨(hF2 _ (by omega)).1.trans a1, ((hF2 _ (by omega)).2.2.2 1).trans a2, ((hF2 _ (by omega)).2.2.2 2).trans a3, ((hF2 _ (by omega)).2.2.2 3).trans a4, ((hF2 _ (by omega)).2.2.2 4).trans a5, (hF2 _ (by omega)).1.trans a6, (hF2 _ (by omega)).1.trans a7, (hF2 _ (by omega)).1.trans a8, (hF2 _ (by omega)).1.trans a9⟩
  have o11 : d.1 (b + 11) = none := (sD _ (by omega)).trans q11
  have o12 : d.1 (b + 12) = none := (sD _ (by omega)).trans q12
  have o13 : d.1 (b + 13) = none := (sD _ (by omega)).trans q13
  have o14 : d.1 (b + 14) = none := (sD _ (by omega)).trans q14
  have o15 : d.1 (b + 15) = none := (sD _ (by omega)).trans q15
  refine zJ_putF dX1_init_49 rfl fX1_34 (fun q hq => by cases hq; exact ⟨(List.mem_of_getElem? (i := 370) rfl), rfl, rfl⟩) (by simp [znew, zsr, zsi, kD, o11, o12, o13, o14, o15]) rfl (fun _ => rfl) (fun _ => rfl) (by simp [znew, zsr, zsi, hWd]) ?_
  refine zJ_aload_n dX1_init_52 rfl ?_
  refine zJ_iload_n dX1_init_53 rfl ?_
  refine zJ_newl (len := 640) (b + 11) dX1_init_54 (by decide) (nI_clamp (by decide)) (by decide) rfl (by simp [znew, zsr, zsi, kD, o11, o12, o13, o14, o15]) (by omega) (by simp [lv_args, znr, Value.category]) (by simp [znr]) (by decide) (by decide) ?_
  refine zJ_putF dX1_init_56 rfl fX1_38 (fun q hq => by cases hq; exact ⟨(List.mem_of_getElem? (i := 372) rfl), rfl, rfl⟩) (by simp [znew, zsr, zsi, kD, o11, o12, o13, o14, o15]) rfl (fun _ => rfl) (fun _ => rfl) (by simp [znew, zsr, zsi, hWd]) ?_
  refine zJ_aload_n dX1_init_59 rfl ?_
  refine zJ_iload_n dX1_init_60 rfl ?_
  refine zJ_bipush (v := 8) dX1_init_61 (by decide) ?_
  refine zJ_imul dX1_init_63 ?_
  rw [show nI 640 * 8 = nI 5120 from na_mul 640 8]
  refine zJ_newl (len := 5120) (b + 12) dX1_init_64 (by decide) (nI_clamp (by decide)) (by decide) rfl (by simp [znew, zsr, zsi, kD, o11, o12, o13, o14, o15]) (by omega) (by simp [lv_args, znr, Value.category]) (by simp [znr]) (by decide) (by decide) ?_
  refine zJ_putF dX1_init_66 rfl fX1_41 (fun q hq => by cases hq; exact ⟨(List.mem_of_getElem? (i := 374) rfl), rfl, rfl⟩) (by simp [znew, zsr, zsi, kD, o11, o12, o13, o14, o15]) rfl (fun _ => rfl) (fun _ => rfl) (by simp [znew, zsr, zsi, hWd]) ?_
  refine zJ_aload_n dX1_init_69 rfl ?_
  refine zJ_iload_n dX1_init_70 rfl ?_
  refine zJ_newi (len := 640) (b + 13) dX1_init_71 (by decide) (nI_clamp (by decide)) (by decide) rfl (by simp [znew, zsr, zsi, kD, o11, o12, o13, o14, o15]) (by omega) (by simp [lv_args, znr, Value.category]) (by simp [znr]) (by decide) (by decide) ?_
  refine zJ_putF dX1_init_73 rfl fX1_44 (fun q hq => by cases hq; exact ⟨(List.mem_of_getElem? (i := 376) rfl), rfl, rfl⟩) (by simp [znew, zsr, zsi, kD, o11, o12, o13, o14, o15]) rfl (fun _ => rfl) (fun _ => rfl) (by simp [znew, zsr, zsi, hWd]) ?_
  refine zJ_aload_n dX1_init_76 rfl ?_
  refine zJ_iload_n dX1_init_77 rfl ?_
  refine zJ_newl (len := 640) (b + 14) dX1_init_78 (by decide) (nI_clamp (by decide)) (by decide) rfl (by simp [znew, zsr, zsi, kD, o11, o12, o13, o14, o15]) (by omega) (by simp [lv_args, znr, Value.category]) (by simp [znr]) (by decide) (by decide) ?_
  refine zJ_putF dX1_init_80 rfl fX1_47 (fun q hq => by cases hq; exact ⟨(List.mem_of_getElem? (i := 378) rfl), rfl, rfl⟩) (by simp [znew, zsr, zsi, kD, o11, o12, o13, o14, o15]) rfl (fun _ => rfl) (fun _ => rfl) (by simp [znew, zsr, zsi, hWd]) ?_
  refine zJ_aload_n dX1_init_83 rfl ?_
  refine zJ_iload_n dX1_init_84 rfl ?_
  refine zJ_newl (len := 640) (b + 15) dX1_init_85 (by decide) (nI_clamp (by decide)) (by decide) rfl (by simp [znew, zsr, zsi, kD, o11, o12, o13, o14, o15]) (by omega) (by simp [lv_args, znr, Value.category]) (by simp [znr]) (by decide) (by decide) ?_
  refine zJ_putF dX1_init_87 rfl fX1_50 (fun q hq => by cases hq; exact ⟨(List.mem_of_getElem? (i := 380) rfl), rfl, rfl⟩) (by simp [znew, zsr, zsi, kD, o11, o12, o13, o14, o15]) rfl (fun _ => rfl) (fun _ => rfl) (by simp [znew, zsr, zsi, hWd]) ?_
  exact zJ_vret dX1_init_90 rfl (by decide) (by decide) ⟨rfl, (hF1b.tr (hFC.tr (hF2.mono (by omega) (by omega)))).tr (((((((((((zFo.r (by omega)).tr (zFo.new (by omega))).tr (zFo.r (by omega))).tr (zFo.new (by omega))).tr (zFo.r (by omega))).tr (zFo.new (by omega))).tr (zFo.r (by omega))).tr (zFo.new (by omega))).tr (zFo.r (by omega))).tr (zFo.new (by omega))).tr (zFo.r (by omega))), by
      obtain ⟨r0, r7, r8, r9, x16, x17, x18⟩ := rC
      obtain ⟨g0, g1, g2, g3, g4, g5, g6, g7, g8, g9, gr⟩ := hW2
      rw [← rD] at r0 r7 r8 r9
      rw [← sD _ (by omega)] at x16 x17 x18
      refine ⟨?_, ?_, ?_, ?_, ?_, ?_, ?_, ?_, ?_, ?_, ?_, ?_, ?_, ?_, ?_, ?_, ?_, ?_, ?_, ?_, ?_, ?_, ?_, ?_, ?_, ?_, ?_, ?_, ?_, gr⟩ <;> simp [znew, zsr, kD, r0, r7, r8, r9, x16, x17, x18, g0, g1, g2, g3, g4, g5, g6, g7, g8, g9, hWd], by
      obtain ⟨a1, a2, a3, a4, a5, a6, a7, a8, a9⟩ := tD
      refine ⟨?_, ?_, ?_, ?_, ?_, ?_, ?_, ?_, ?_⟩ <;> simp [znew, zsr, a1, a2, a3, a4, a5, a6, a7, a8, a9], by simp [znew, zsr, zDb], by simp [znew, zsr, h62]⟩
set_option maxRecDepth 100000 in
theorem c_Ways_init_l (Δ : zD) (w : zW) (i : Nat) (hi : i + 4 < 1000) (hk : w.1 i = some (.inl 6)) (n1 : w.1 (i + 1) = none) (n2 : w.1 (i + 2) = none) (n3 : w.1 (i + 3) = none) (n4 : w.1 (i + 4) = none) : zMn Δ 1 4 232768 yX6_init mX6_init [.ref i, .int (nI 20000), .int (nI 32768)] w (fun r c => r = none ∧ zFo w c i (i + 4) ∧ zWs c i 20000 15 ∧ c.2.1 i 6 = -1) := by
  refine zM.of mfX6_init (Nat.le_of_ble_eq_true rfl) ?_
  refine zJ_aload_n dX6_init_0 rfl ?_
  refine zJ_obj dX6_init_1 (List.mem_of_getElem? (i := 334) rfl) (by decide) (by decide) ?_
  refine zJ_aload_n dX6_init_4 rfl ?_
  refine zJ_iconst (v := (-1)) dX6_init_5 (by decide) ?_
  refine zJ_puti dX6_init_6 fX6_11 (fun q h => by cases h; rfl) (by simp [znew, zsr, zsi, hk, n1, n2, n3, n4]) rfl rfl rfl ?_
  refine zJ_aload_n dX6_init_9 rfl ?_
  refine zJ_iload_n dX6_init_10 rfl ?_
  refine zJ_putFi dX6_init_11 rfl fX6_15 (fun q hq => by cases hq; exact ⟨(List.mem_of_getElem? (i := 335) rfl), rfl, rfl⟩) (by simp [znew, zsr, zsi, hk, n1, n2, n3, n4]) rfl rfl rfl ?_
  refine zJ_aload_n dX6_init_14 rfl ?_
  refine zJ_iload_n dX6_init_15 rfl ?_
  refine zJ_newl (len := 20000) (i + 1) dX6_init_16 (by decide) (nI_clamp (by decide)) (by decide) rfl (by simp [znew, zsr, zsi, hk, n1, n2, n3, n4]) (by omega) (by simp [lv_args, znr, Value.category]) (by simp [znr]) (by decide) (by decide) ?_
  refine zJ_putF dX6_init_18 rfl fX6_18 (fun q hq => by cases hq; exact ⟨(List.mem_of_getElem? (i := 336) rfl), rfl, rfl⟩) (by simp [znew, zsr, zsi, hk, n1, n2, n3, n4]) rfl (fun _ => rfl) (fun _ => rfl) (by simp [znew, zsr]) ?_
  refine zJ_aload_n dX6_init_21 rfl ?_
  refine zJ_iload_n dX6_init_22 rfl ?_
  refine zJ_newi (len := 20000) (i + 2) dX6_init_23 (by decide) (nI_clamp (by decide)) (by decide) rfl (by simp [znew, zsr, zsi, hk, n1, n2, n3, n4]) (by omega) (by simp [lv_args, znr, Value.category]) (by simp [znr]) (by decide) (by decide) ?_
  refine zJ_putF dX6_init_25 rfl fX6_22 (fun q hq => by cases hq; exact ⟨(List.mem_of_getElem? (i := 339) rfl), rfl, rfl⟩) (by simp [znew, zsr, zsi, hk, n1, n2, n3, n4]) rfl (fun _ => rfl) (fun _ => rfl) (by simp [znew, zsr]) ?_
  refine zJ_aload_n dX6_init_28 rfl ?_
  refine zJ_iload_n dX6_init_29 rfl ?_
  refine zJ_bipush (v := 8) dX6_init_30 (by decide) ?_
  refine zJ_imul dX6_init_32 ?_
  rw [show nI 20000 * 8 = nI 160000 from na_mul 20000 8]
  refine zJ_newi (len := 160000) (i + 3) dX6_init_33 (by decide) (nI_clamp (by decide)) (by decide) rfl (by simp [znew, zsr, zsi, hk, n1, n2, n3, n4]) (by omega) (by simp [lv_args, znr, Value.category]) (by simp [znr]) (by decide) (by decide) ?_
  refine zJ_putF dX6_init_35 rfl fX6_26 (fun q hq => by cases hq; exact ⟨(List.mem_of_getElem? (i := 342) rfl), rfl, rfl⟩) (by simp [znew, zsr, zsi, hk, n1, n2, n3, n4]) rfl (fun _ => rfl) (fun _ => rfl) (by simp [znew, zsr]) ?_
  refine zJ_aload_n dX6_init_38 rfl ?_
  refine zJ_iload_n dX6_init_39 rfl ?_
  refine zJ_newi (len := 32768) (i + 4) dX6_init_40 (by decide) (nI_clamp (by decide)) (by decide) rfl (by simp [znew, zsr, zsi, hk, n1, n2, n3, n4]) (by omega) (by simp [lv_args, znr, Value.category]) (by simp [znr]) (by decide) (by decide) ?_
  refine zJ_putF dX6_init_42 rfl fX6_29 (fun q hq => by cases hq; exact ⟨(List.mem_of_getElem? (i := 345) rfl), rfl, rfl⟩) (by simp [znew, zsr, zsi, hk, n1, n2, n3, n4]) rfl (fun _ => rfl) (fun _ => rfl) (by simp [znew, zsr]) ?_
  exact zJ_vret dX6_init_45 rfl (by decide) (by decide) ⟨rfl, ((((((((((zFo.i (by omega)).tr (zFo.i (by omega))).tr (zFo.new (by omega))).tr (zFo.r (by omega))).tr (zFo.new (by omega))).tr (zFo.r (by omega))).tr (zFo.new (by omega))).tr (zFo.r (by omega))).tr (zFo.new (by omega))).tr (zFo.r (by omega))), by
      refine ⟨?_, ?_, ?_, ?_, ?_, ?_, ?_, ?_, ?_, ?_, by decide, by decide, by decide⟩ <;> simp [znew, zsr, zsi, hk], by simp [znew, zsr, zsi]⟩
set_option maxRecDepth 100000 in
theorem c_Play_init_l (Δ : zD) (w : zW) (b : Nat) (hb : b + 18 < 1000) (hk : w.1 b = some (.inl 1)) (hz : w.2.1 b 11 = 0) (hno : ∀ a, b < a → a ≤ b + 18 → w.1 a = none) : zMn Δ 3 18 472990 yX1_init mX1_init [.ref b, .int (nI 20000), .int (nI 32768)] w (fun r c => r = none ∧ zFo w c b (b + 18) ∧ zPs c b 20000 15 ∧ zTn c (b + 1) ∧ c.2.1 b 11 = 0 ∧ c.2.1 (b + 6) 6 = -1) := by
  refine zM.of mfX1_init (Nat.le_of_ble_eq_true rfl) ?_
  have n1 := hno (b + 1) (by omega) (by omega)
  have n2 := hno (b + 2) (by omega) (by omega)
  have n3 := hno (b + 3) (by omega) (by omega)
  have n4 := hno (b + 4) (by omega) (by omega)
  have n5 := hno (b + 5) (by omega) (by omega)
  have n6 := hno (b + 6) (by omega) (by omega)
  have n7 := hno (b + 7) (by omega) (by omega)
  have n8 := hno (b + 8) (by omega) (by omega)
  have n9 := hno (b + 9) (by omega) (by omega)
  have n10 := hno (b + 10) (by omega) (by omega)
  have n11 := hno (b + 11) (by omega) (by omega)
  have n12 := hno (b + 12) (by omega) (by omega)
  have n13 := hno (b + 13) (by omega) (by omega)
  have n14 := hno (b + 14) (by omega) (by omega)
  have n15 := hno (b + 15) (by omega) (by omega)
  have n16 := hno (b + 16) (by omega) (by omega)
  have n17 := hno (b + 17) (by omega) (by omega)
  have n18 := hno (b + 18) (by omega) (by omega)
  refine zJ_aload_n dX1_init_0 rfl ?_
  refine zJ_obj dX1_init_1 (List.mem_of_getElem? (i := 326) rfl) (by decide) (by decide) ?_
  refine zJ_aload_n dX1_init_4 rfl ?_
  refine zJ_new (ci := 5) (b + 1) dX1_init_5 rfl (List.mem_of_getElem? (i := 327) rfl) (List.mem_of_getElem? (i := 180) rfl) (List.mem_of_getElem? (i := 144) rfl) rfl (by simp [znew, zsr, zsi, hk, n1, n2, n3, n4, n5, n6, n7, n8, n9, n10, n11, n12, n13, n14, n15, n16, n17, n18]) (by omega) (by simp [lv_args, znr, Value.category]) (by simp [znr]) (by decide) (by decide) ?_
  refine zJ_dup dX1_init_8 rfl ?_
  refine zJ_callI (As := []) dX1_init_9 sX1_11 mfX5_init rfl (c_Town_init Δ (znew w (b + 1) (.inl 5)) (b + 1) (by omega) (by simp [znew]) (by simp [znew, n2]) (by simp [znew, n3]) (by simp [znew, n4]) (by simp [znew, n5])) (fun _ _ h => h) rfl (Or.inr ⟨rfl, by simp [zokv, znew, zsr, zsi, hk], by simp [lv_args, zokv, Value.category, znew, zsr, zsi, hk]⟩) (Nat.le_of_ble_eq_true rfl) (by decide) (by decide) (fun r c hP => ?_)
  obtain ⟨rfl, hF1, hTc, hT1⟩ := hP
  have kB : c.1 b = some (.inl 1) := (hF1 b (by omega)).1.trans (by simp [znew, hk])
  have zB : c.2.1 b 11 = 0 := ((hF1 b (by omega)).2.1 11).trans (by simp [znew, hz])
  have hF1b : zFo w c b (b + 18) := (zFo.new (by omega)).tr (hF1.mono (by omega) (by omega))
  have m6 : c.1 (b + 6) = none := (hF1 _ (by omega)).1.trans (by simp [znew, n6])
  have m7 : c.1 (b + 7) = none := (hF1 _ (by omega)).1.trans (by simp [znew, n7])
  have m8 : c.1 (b + 8) = none := (hF1 _ (by omega)).1.trans (by simp [znew, n8])
  have m9 : c.1 (b + 9) = none := (hF1 _ (by omega)).1.trans (by simp [znew, n9])
  have m10 : c.1 (b + 10) = none := (hF1 _ (by omega)).1.trans (by simp [znew, n10])
  have m11 : c.1 (b + 11) = none := (hF1 _ (by omega)).1.trans (by simp [znew, n11])
  have m12 : c.1 (b + 12) = none := (hF1 _ (by omega)).1.trans (by simp [znew, n12])
  have m13 : c.1 (b + 13) = none := (hF1 _ (by omega)).1.trans (by simp [znew, n13])
  have m14 : c.1 (b + 14) = none := (hF1 _ (by omega)).1.trans (by simp [znew, n14])
  have m15 : c.1 (b + 15) = none := (hF1 _ (by omega)).1.trans (by simp [znew, n15])
  have m16 : c.1 (b + 16) = none := (hF1 _ (by omega)).1.trans (by simp [znew, n16])
  have m17 : c.1 (b + 17) = none := (hF1 _ (by omega)).1.trans (by simp [znew, n17])
  have m18 : c.1 (b + 18) = none := (hF1 _ (by omega)).1.trans (by simp [znew, n18])
  refine zJ_putF dX1_init_12 rfl fX1_12 (fun q hq => by cases hq; exact ⟨(List.mem_of_getElem? (i := 368) rfl), rfl, rfl⟩) (by simp [znew, zsr, zsi, kB, m6, m7, m8, m9, m10, m11, m12, m13, m14, m15, m16, m17, m18]) rfl (fun _ => rfl) (fun _ => rfl) (by simp [znew, zsr, zsi, hTc]) ?_
  refine zJ_aload_n dX1_init_15 rfl ?_
  refine zJ_bipush (v := 96) dX1_init_16 (by decide) ?_
  refine zJ_newl (len := 96) (b + 16) dX1_init_18 (by decide) rfl (by decide) rfl (by simp [znew, zsr, zsi, kB, m6, m7, m8, m9, m10, m11, m12, m13, m14, m15, m16, m17, m18]) (by omega) (by simp [lv_args, znr, Value.category]) (by simp [znr]) (by decide) (by decide) ?_
  refine zJ_putF dX1_init_20 rfl fX1_18 (fun q hq => by cases hq; exact ⟨(List.mem_of_getElem? (i := 382) rfl), rfl, rfl⟩) (by simp [znew, zsr, zsi, kB, m6, m7, m8, m9, m10, m11, m12, m13, m14, m15, m16, m17, m18]) rfl (fun _ => rfl) (fun _ => rfl) (by simp [znew, zsr, zsi, hTc]) ?_
  refine zJ_aload_n dX1_init_23 rfl ?_
  refine zJ_bipush (v := 8) dX1_init_24 (by decide) ?_
  refine zJ_newl (len := 8) (b + 17) dX1_init_26 (by decide) rfl (by decide) rfl (by simp [znew, zsr, zsi, kB, m6, m7, m8, m9, m10, m11, m12, m13, m14, m15, m16, m17, m18]) (by omega) (by simp [lv_args, znr, Value.category]) (by simp [znr]) (by decide) (by decide) ?_
  refine zJ_putF dX1_init_28 rfl fX1_22 (fun q hq => by cases hq; exact ⟨(List.mem_of_getElem? (i := 383) rfl), rfl, rfl⟩) (by simp [znew, zsr, zsi, kB, m6, m7, m8, m9, m10, m11, m12, m13, m14, m15, m16, m17, m18]) rfl (fun _ => rfl) (fun _ => rfl) (by simp [znew, zsr, zsi, hTc]) ?_
  refine zJ_aload_n dX1_init_31 rfl ?_
  refine zJ_bipush (v := 8) dX1_init_32 (by decide) ?_
  refine zJ_newi (len := 8) (b + 18) dX1_init_34 (by decide) rfl (by decide) rfl (by simp [znew, zsr, zsi, kB, m6, m7, m8, m9, m10, m11, m12, m13, m14, m15, m16, m17, m18]) (by omega) (by simp [lv_args, znr, Value.category]) (by simp [znr]) (by decide) (by decide) ?_
  refine zJ_putF dX1_init_36 rfl fX1_25 (fun q hq => by cases hq; exact ⟨(List.mem_of_getElem? (i := 384) rfl), rfl, rfl⟩) (by simp [znew, zsr, zsi, kB, m6, m7, m8, m9, m10, m11, m12, m13, m14, m15, m16, m17, m18]) rfl (fun _ => rfl) (fun _ => rfl) (by simp [znew, zsr, zsi, hTc]) ?_
  refine zJ_aload_n dX1_init_39 rfl ?_
  refine zJ_new (ci := 6) (b + 6) dX1_init_40 rfl (List.mem_of_getElem? (i := 329) rfl) (List.mem_of_getElem? (i := 330) rfl) (List.mem_of_getElem? (i := 147) rfl) rfl (by simp [znew, zsr, zsi, kB, m6, m7, m8, m9, m10, m11, m12, m13, m14, m15, m16, m17, m18]) (by omega) (by simp [lv_args, znr, Value.category]) (by simp [znr]) (by decide) (by decide) ?_
  refine zJ_dup dX1_init_43 rfl ?_
  refine zJ_iload_n dX1_init_44 rfl ?_
  refine zJ_iload_n dX1_init_45 rfl ?_
  generalize hwC : znew (zsr (znew (zsr (znew (zsr (znew (zsr c b 0 (some (b + 1))) (b + 16) (.inr (true, 96))) b 7 (some (b + 16))) (b + 17) (.inr (true, 8))) b 8 (some (b + 17))) (b + 18) (.inr (false, 8))) b 9 (some (b + 18))) (b + 6) (.inl 6) = wC
  have hFC : zFo c wC b (b + 18) := by
    rw [← hwC]
    exact (((((((zFo.r (by omega)).tr (zFo.new (by omega))).tr (zFo.r (by omega))).tr (zFo.new (by omega))).tr (zFo.r (by omega))).tr (zFo.new (by omega))).tr (zFo.r (by omega))).tr (zFo.new (by omega))
  have kC : wC.1 b = some (.inl 1) := by rw [← hwC]; simp [znew, zsr, kB]
  have kC6 : wC.1 (b + 6) = some (.inl 6) := by rw [← hwC]; simp [znew, zsr]
  have zC : wC.2.1 b 11 = 0 := by rw [← hwC]; simp [znew, zsr, zB]
  have rC : wC.2.2.2 b 0 = some (b + 1) ∧ wC.2.2.2 b 7 = some (b + 16) ∧ wC.2.2.2 b 8 = some (b + 17) ∧ wC.2.2.2 b 9 = some (b + 18) ∧ wC.1 (b + 16) = some (.inr (true, 96)) ∧ wC.1 (b + 17) = some (.inr (true, 8)) ∧ wC.1 (b + 18) = some (.inr (false, 8)) := by rw [← hwC]; simp [znew, zsr]
  have tC : zTn wC (b + 1) := by
    obtain ⟨a1, a2, a3, a4, a5, a6, a7, a8, a9⟩ := hT1.1
    rw [← hwC]
    refine ⟨?_, ?_, ?_, ?_, ?_, ?_, ?_, ?_, ?_⟩ <;> simp [znew, zsr, a1, a2, a3, a4, a5, a6, a7, a8, a9]
  have q7 : wC.1 (b + 7) = none := by rw [← hwC]; simp [znew, zsr, m7]
  have q8 : wC.1 (b + 8) = none := by rw [← hwC]; simp [znew, zsr, m8]
  have q9 : wC.1 (b + 9) = none := by rw [← hwC]; simp [znew, zsr, m9]
  have q10 : wC.1 (b + 10) = none := by rw [← hwC]; simp [znew, zsr, m10]
  have q11 : wC.1 (b + 11) = none := by rw [← hwC]; simp [znew, zsr, m11]
  have q12 : wC.1 (b + 12) = none := by rw [← hwC]; simp [znew, zsr, m12]
  have q13 : wC.1 (b + 13) = none := by rw [← hwC]; simp [znew, zsr, m13]
  have q14 : wC.1 (b + 14) = none := by rw [← hwC]; simp [znew, zsr, m14]
  have q15 : wC.1 (b + 15) = none := by rw [← hwC]; simp [znew, zsr, m15]
  refine zJ_callI (As := [.int (nI 20000), .int (nI 32768)]) dX1_init_46 sX1_31 mfX6_init rfl (c_Ways_init_l Δ wC (b + 6) (by omega) kC6 q7 q8 q9 q10) (fun _ _ h => h) rfl (Or.inr ⟨rfl, by simp [zokv, znew, zsr, zsi, kC, kC6], by simp [lv_args, zokv, Value.category, znew, zsr, zsi, kC, kC6]⟩) (Nat.le_of_ble_eq_true rfl) (by decide) (by decide) (fun r d hP => ?_)
  obtain ⟨rfl, hF2, hW2, h62⟩ := hP
  have kD : d.1 b = some (.inl 1) := (hF2 b (by omega)).1.trans kC
  have hWd : d.1 (b + 6) = some (.inl 6) := hW2.1
  have zDb : d.2.1 b 11 = 0 := ((hF2 b (by omega)).2.1 11).trans zC
  have rD : ∀ j, d.2.2.2 b j = wC.2.2.2 b j := (hF2 b (by omega)).2.2.2
  have sD : ∀ a, b + 10 < a → d.1 a = wC.1 a := fun a h => (hF2 a (by omega)).1
  have tD : zTn d (b + 1) := by
    obtain ⟨a1, a2, a3, a4, a5, a6, a7, a8, a9⟩ := tC
    exact ⟨(hF2 _ (by omega)).1.trans a1, ((hF2 _ (by omega)).2.2.2 1).trans a2, ((hF2 _ (by omega)).2.2.2 2).trans a3, ((hF2 _ (by omega)).2.2.2 3).trans a4, ((hF2 _ (by omega)).2.2.2 4).trans a5, (hF2 _ (by omega)).1.trans a6, (hF2 _ (by omega)).1.trans a7, (hF2 _ (by omega)).1.trans a8, (hF2 _ (by omega)).1.trans a9⟩
  have o11 : d.1 (b + 11) = none := (sD _ (by omega)).trans q11
  have o12 : d.1 (b + 12) = none := (sD _ (by omega)).trans q12
  have o13 : d.1 (b + 13) = none := (sD _ (by omega)).trans q13
  have o14 : d.1 (b + 14) = none := (sD _ (by omega)).trans q14
  have o15 : d.1 (b + 15) = none := (sD _ (by omega)).trans q15
  refine zJ_putF dX1_init_49 rfl fX1_34 (fun q hq => by cases hq; exact ⟨(List.mem_of_getElem? (i := 370) rfl), rfl, rfl⟩) (by simp [znew, zsr, zsi, kD, o11, o12, o13, o14, o15]) rfl (fun _ => rfl) (fun _ => rfl) (by simp [znew, zsr, zsi, hWd]) ?_
  refine zJ_aload_n dX1_init_52 rfl ?_
  refine zJ_iload_n dX1_init_53 rfl ?_
  refine zJ_newl (len := 20000) (b + 11) dX1_init_54 (by decide) (nI_clamp (by decide)) (by decide) rfl (by simp [znew, zsr, zsi, kD, o11, o12, o13, o14, o15]) (by omega) (by simp [lv_args, znr, Value.category]) (by simp [znr]) (by decide) (by decide) ?_
  refine zJ_putF dX1_init_56 rfl fX1_38 (fun q hq => by cases hq; exact ⟨(List.mem_of_getElem? (i := 372) rfl), rfl, rfl⟩) (by simp [znew, zsr, zsi, kD, o11, o12, o13, o14, o15]) rfl (fun _ => rfl) (fun _ => rfl) (by simp [znew, zsr, zsi, hWd]) ?_
  refine zJ_aload_n dX1_init_59 rfl ?_
  refine zJ_iload_n dX1_init_60 rfl ?_
  refine zJ_bipush (v := 8) dX1_init_61 (by decide) ?_
  refine zJ_imul dX1_init_63 ?_
  rw [show nI 20000 * 8 = nI 160000 from na_mul 20000 8]
  refine zJ_newl (len := 160000) (b + 12) dX1_init_64 (by decide) (nI_clamp (by decide)) (by decide) rfl (by simp [znew, zsr, zsi, kD, o11, o12, o13, o14, o15]) (by omega) (by simp [lv_args, znr, Value.category]) (by simp [znr]) (by decide) (by decide) ?_
  refine zJ_putF dX1_init_66 rfl fX1_41 (fun q hq => by cases hq; exact ⟨(List.mem_of_getElem? (i := 374) rfl), rfl, rfl⟩) (by simp [znew, zsr, zsi, kD, o11, o12, o13, o14, o15]) rfl (fun _ => rfl) (fun _ => rfl) (by simp [znew, zsr, zsi, hWd]) ?_
  refine zJ_aload_n dX1_init_69 rfl ?_
  refine zJ_iload_n dX1_init_70 rfl ?_
  refine zJ_newi (len := 20000) (b + 13) dX1_init_71 (by decide) (nI_clamp (by decide)) (by decide) rfl (by simp [znew, zsr, zsi, kD, o11, o12, o13, o14, o15]) (by omega) (by simp [lv_args, znr, Value.category]) (by simp [znr]) (by decide) (by decide) ?_
  refine zJ_putF dX1_init_73 rfl fX1_44 (fun q hq => by cases hq; exact ⟨(List.mem_of_getElem? (i := 376) rfl), rfl, rfl⟩) (by simp [znew, zsr, zsi, kD, o11, o12, o13, o14, o15]) rfl (fun _ => rfl) (fun _ => rfl) (by simp [znew, zsr, zsi, hWd]) ?_
  refine zJ_aload_n dX1_init_76 rfl ?_
  refine zJ_iload_n dX1_init_77 rfl ?_
  refine zJ_newl (len := 20000) (b + 14) dX1_init_78 (by decide) (nI_clamp (by decide)) (by decide) rfl (by simp [znew, zsr, zsi, kD, o11, o12, o13, o14, o15]) (by omega) (by simp [lv_args, znr, Value.category]) (by simp [znr]) (by decide) (by decide) ?_
  refine zJ_putF dX1_init_80 rfl fX1_47 (fun q hq => by cases hq; exact ⟨(List.mem_of_getElem? (i := 378) rfl), rfl, rfl⟩) (by simp [znew, zsr, zsi, kD, o11, o12, o13, o14, o15]) rfl (fun _ => rfl) (fun _ => rfl) (by simp [znew, zsr, zsi, hWd]) ?_
  refine zJ_aload_n dX1_init_83 rfl ?_
  refine zJ_iload_n dX1_init_84 rfl ?_
  refine zJ_newl (len := 20000) (b + 15) dX1_init_85 (by decide) (nI_clamp (by decide)) (by decide) rfl (by simp [znew, zsr, zsi, kD, o11, o12, o13, o14, o15]) (by omega) (by simp [lv_args, znr, Value.category]) (by simp [znr]) (by decide) (by decide) ?_
  refine zJ_putF dX1_init_87 rfl fX1_50 (fun q hq => by cases hq; exact ⟨(List.mem_of_getElem? (i := 380) rfl), rfl, rfl⟩) (by simp [znew, zsr, zsi, kD, o11, o12, o13, o14, o15]) rfl (fun _ => rfl) (fun _ => rfl) (by simp [znew, zsr, zsi, hWd]) ?_
  exact zJ_vret dX1_init_90 rfl (by decide) (by decide) ⟨rfl, (hF1b.tr (hFC.tr (hF2.mono (by omega) (by omega)))).tr (((((((((((zFo.r (by omega)).tr (zFo.new (by omega))).tr (zFo.r (by omega))).tr (zFo.new (by omega))).tr (zFo.r (by omega))).tr (zFo.new (by omega))).tr (zFo.r (by omega))).tr (zFo.new (by omega))).tr (zFo.r (by omega))).tr (zFo.new (by omega))).tr (zFo.r (by omega))), by
      obtain ⟨r0, r7, r8, r9, x16, x17, x18⟩ := rC
      obtain ⟨g0, g1, g2, g3, g4, g5, g6, g7, g8, g9, gr⟩ := hW2
      rw [← rD] at r0 r7 r8 r9
      rw [← sD _ (by omega)] at x16 x17 x18
      refine ⟨?_, ?_, ?_, ?_, ?_, ?_, ?_, ?_, ?_, ?_, ?_, ?_, ?_, ?_, ?_, ?_, ?_, ?_, ?_, ?_, ?_, ?_, ?_, ?_, ?_, ?_, ?_, ?_, ?_, gr⟩ <;> simp [znew, zsr, kD, r0, r7, r8, r9, x16, x17, x18, g0, g1, g2, g3, g4, g5, g6, g7, g8, g9, hWd], by
      obtain ⟨a1, a2, a3, a4, a5, a6, a7, a8, a9⟩ := tD
      refine ⟨?_, ?_, ?_, ?_, ?_, ?_, ?_, ?_, ?_⟩ <;> simp [znew, zsr, a1, a2, a3, a4, a5, a6, a7, a8, a9], by simp [znew, zsr, zDb], by simp [znew, zsr, h62]⟩
